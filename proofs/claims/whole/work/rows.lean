section
/-- a private method of a class that the tables say can be made, by its rows of tables_1 -/
def lw_okq (q : MethodName × Nat) : Prop := (q.1.cls ≠ "java/lang/invoke/MethodHandle" ∧ q.1.cls ≠ "java/lang/invoke/VarHandle") ∧ Cond.instantiable q.1.cls q.2 ∈ tables_1 ∧ Cond.privateMethod q.1 ∈ tables_1 ∧ Cond.instanceMethod q.1 ∈ tables_1
theorem lw_p0 : lw_okq (⟨"java/lang/Throwable", "fillInStackTrace", "(I)Ljava/lang/Throwable;"⟩, 6) := ⟨⟨by decide +kernel, by decide +kernel⟩, List.mem_of_getElem? (i := 235) (by decide +kernel), List.mem_of_getElem? (i := 233) (by decide +kernel), List.mem_of_getElem? (i := 234) (by decide +kernel)⟩
theorem lw_p1 : lw_okq (⟨"WayFinder", "areInputs", "(II)Z"⟩, 7) := ⟨⟨by decide +kernel, by decide +kernel⟩, List.mem_of_getElem? (i := 15) (by decide +kernel), List.mem_of_getElem? (i := 316) (by decide +kernel), List.mem_of_getElem? (i := 317) (by decide +kernel)⟩
theorem lw_p2 : lw_okq (⟨"WayFinder$Trace", "begin", "(II)V"⟩, 10) := ⟨⟨by decide +kernel, by decide +kernel⟩, List.mem_of_getElem? (i := 51) (by decide +kernel), List.mem_of_getElem? (i := 325) (by decide +kernel), List.mem_of_getElem? (i := 326) (by decide +kernel)⟩
theorem lw_p3 : lw_okq (⟨"WayFinder$Trace", "step", "(LWayFinder$Program;)V"⟩, 10) := ⟨⟨by decide +kernel, by decide +kernel⟩, List.mem_of_getElem? (i := 51) (by decide +kernel), List.mem_of_getElem? (i := 333) (by decide +kernel), List.mem_of_getElem? (i := 334) (by decide +kernel)⟩
theorem lw_p4 : lw_okq (⟨"WayFinder$Trace", "goIf", "(ZI)V"⟩, 10) := ⟨⟨by decide +kernel, by decide +kernel⟩, List.mem_of_getElem? (i := 51) (by decide +kernel), List.mem_of_getElem? (i := 337) (by decide +kernel), List.mem_of_getElem? (i := 338) (by decide +kernel)⟩
theorem lw_p5 : lw_okq (⟨"WayFinder$Trace", "decide", "(Z)V"⟩, 10) := ⟨⟨by decide +kernel, by decide +kernel⟩, List.mem_of_getElem? (i := 51) (by decide +kernel), List.mem_of_getElem? (i := 341) (by decide +kernel), List.mem_of_getElem? (i := 342) (by decide +kernel)⟩
theorem lw_p6 : lw_okq (⟨"WayFinder$Trace", "divide", "(III)V"⟩, 10) := ⟨⟨by decide +kernel, by decide +kernel⟩, List.mem_of_getElem? (i := 51) (by decide +kernel), List.mem_of_getElem? (i := 348) (by decide +kernel), List.mem_of_getElem? (i := 349) (by decide +kernel)⟩
theorem lw_p7 : lw_okq (⟨"WayFinder$Trace", "finish", "(II)V"⟩, 10) := ⟨⟨by decide +kernel, by decide +kernel⟩, List.mem_of_getElem? (i := 51) (by decide +kernel), List.mem_of_getElem? (i := 352) (by decide +kernel), List.mem_of_getElem? (i := 353) (by decide +kernel)⟩
theorem lw_p8 : lw_okq (⟨"WayFinder$Trace", "claim", "(I)V"⟩, 10) := ⟨⟨by decide +kernel, by decide +kernel⟩, List.mem_of_getElem? (i := 51) (by decide +kernel), List.mem_of_getElem? (i := 356) (by decide +kernel), List.mem_of_getElem? (i := 357) (by decide +kernel)⟩
theorem lw_p9 : lw_okq (⟨"WayFinder$Trace", "finishUnasked", "(LWayFinder$Program;)V"⟩, 10) := ⟨⟨by decide +kernel, by decide +kernel⟩, List.mem_of_getElem? (i := 51) (by decide +kernel), List.mem_of_getElem? (i := 363) (by decide +kernel), List.mem_of_getElem? (i := 364) (by decide +kernel)⟩
theorem lw_p10 : lw_okq (⟨"WayFinder", "fillDraft", "()Z"⟩, 7) := ⟨⟨by decide +kernel, by decide +kernel⟩, List.mem_of_getElem? (i := 15) (by decide +kernel), List.mem_of_getElem? (i := 381) (by decide +kernel), List.mem_of_getElem? (i := 382) (by decide +kernel)⟩
theorem lw_p11 : lw_okq (⟨"WayFinder$Results", "firstNotBefore", "(J)I"⟩, 3) := ⟨⟨by decide +kernel, by decide +kernel⟩, List.mem_of_getElem? (i := 98) (by decide +kernel), List.mem_of_getElem? (i := 393) (by decide +kernel), List.mem_of_getElem? (i := 394) (by decide +kernel)⟩
theorem lw_p12 : lw_okq (⟨"WayFinder$Results", "makeRoom", "(I)V"⟩, 3) := ⟨⟨by decide +kernel, by decide +kernel⟩, List.mem_of_getElem? (i := 98) (by decide +kernel), List.mem_of_getElem? (i := 401) (by decide +kernel), List.mem_of_getElem? (i := 402) (by decide +kernel)⟩
theorem lw_p13 : lw_okq (⟨"WayFinderModel", "raise", "(I)I"⟩, 32) := ⟨⟨by decide +kernel, by decide +kernel⟩, List.mem_of_getElem? (i := 461) (by decide +kernel), List.mem_of_getElem? (i := 579) (by decide +kernel), List.mem_of_getElem? (i := 580) (by decide +kernel)⟩
theorem lw_p14 : lw_okq (⟨"WayFinderModel", "isInput", "(I)Z"⟩, 32) := ⟨⟨by decide +kernel, by decide +kernel⟩, List.mem_of_getElem? (i := 461) (by decide +kernel), List.mem_of_getElem? (i := 595) (by decide +kernel), List.mem_of_getElem? (i := 596) (by decide +kernel)⟩
theorem lw_p15 : lw_okq (⟨"WayFinderModel", "go", "(II)V"⟩, 32) := ⟨⟨by decide +kernel, by decide +kernel⟩, List.mem_of_getElem? (i := 461) (by decide +kernel), List.mem_of_getElem? (i := 599) (by decide +kernel), List.mem_of_getElem? (i := 600) (by decide +kernel)⟩
def lw_privs_1 : List (MethodName × Nat) := [(⟨"java/lang/Throwable", "fillInStackTrace", "(I)Ljava/lang/Throwable;"⟩, 6), (⟨"WayFinder", "areInputs", "(II)Z"⟩, 7), (⟨"WayFinder$Trace", "begin", "(II)V"⟩, 10), (⟨"WayFinder$Trace", "step", "(LWayFinder$Program;)V"⟩, 10), (⟨"WayFinder$Trace", "goIf", "(ZI)V"⟩, 10), (⟨"WayFinder$Trace", "decide", "(Z)V"⟩, 10), (⟨"WayFinder$Trace", "divide", "(III)V"⟩, 10), (⟨"WayFinder$Trace", "finish", "(II)V"⟩, 10), (⟨"WayFinder$Trace", "claim", "(I)V"⟩, 10), (⟨"WayFinder$Trace", "finishUnasked", "(LWayFinder$Program;)V"⟩, 10), (⟨"WayFinder", "fillDraft", "()Z"⟩, 7), (⟨"WayFinder$Results", "firstNotBefore", "(J)I"⟩, 3), (⟨"WayFinder$Results", "makeRoom", "(I)V"⟩, 3), (⟨"WayFinderModel", "raise", "(I)I"⟩, 32), (⟨"WayFinderModel", "isInput", "(I)Z"⟩, 32), (⟨"WayFinderModel", "go", "(II)V"⟩, 32)]
theorem lw_r1 : ∀ q ∈ lw_privs_1, lw_okq q := List.forall_mem_cons.mpr ⟨lw_p0, List.forall_mem_cons.mpr ⟨lw_p1, List.forall_mem_cons.mpr ⟨lw_p2, List.forall_mem_cons.mpr ⟨lw_p3, List.forall_mem_cons.mpr ⟨lw_p4, List.forall_mem_cons.mpr ⟨lw_p5, List.forall_mem_cons.mpr ⟨lw_p6, List.forall_mem_cons.mpr ⟨lw_p7, List.forall_mem_cons.mpr ⟨lw_p8, List.forall_mem_cons.mpr ⟨lw_p9, List.forall_mem_cons.mpr ⟨lw_p10, List.forall_mem_cons.mpr ⟨lw_p11, List.forall_mem_cons.mpr ⟨lw_p12, List.forall_mem_cons.mpr ⟨lw_p13, List.forall_mem_cons.mpr ⟨lw_p14, List.forall_mem_cons.mpr ⟨lw_p15, fun _ h => absurd h List.not_mem_nil⟩⟩⟩⟩⟩⟩⟩⟩⟩⟩⟩⟩⟩⟩⟩⟩
theorem lw_p16 : lw_okq (⟨"WayFinderModel", "perform", "(I)I"⟩, 32) := ⟨⟨by decide +kernel, by decide +kernel⟩, List.mem_of_getElem? (i := 461) (by decide +kernel), List.mem_of_getElem? (i := 603) (by decide +kernel), List.mem_of_getElem? (i := 604) (by decide +kernel)⟩
theorem lw_p17 : lw_okq (⟨"WayFinderModel", "decide", "(Z)Z"⟩, 32) := ⟨⟨by decide +kernel, by decide +kernel⟩, List.mem_of_getElem? (i := 461) (by decide +kernel), List.mem_of_getElem? (i := 607) (by decide +kernel), List.mem_of_getElem? (i := 608) (by decide +kernel)⟩
theorem lw_p18 : lw_okq (⟨"WayFinderModel", "finish", "(II)V"⟩, 32) := ⟨⟨by decide +kernel, by decide +kernel⟩, List.mem_of_getElem? (i := 461) (by decide +kernel), List.mem_of_getElem? (i := 611) (by decide +kernel), List.mem_of_getElem? (i := 612) (by decide +kernel)⟩
theorem lw_p19 : lw_okq (⟨"WayFinderModel", "worked", "(IIII)I"⟩, 32) := ⟨⟨by decide +kernel, by decide +kernel⟩, List.mem_of_getElem? (i := 461) (by decide +kernel), List.mem_of_getElem? (i := 615) (by decide +kernel), List.mem_of_getElem? (i := 616) (by decide +kernel)⟩
theorem lw_p20 : lw_okq (⟨"WayFinderModel", "enter", "(I)V"⟩, 32) := ⟨⟨by decide +kernel, by decide +kernel⟩, List.mem_of_getElem? (i := 461) (by decide +kernel), List.mem_of_getElem? (i := 627) (by decide +kernel), List.mem_of_getElem? (i := 628) (by decide +kernel)⟩
def lw_privs_2 : List (MethodName × Nat) := [(⟨"WayFinderModel", "perform", "(I)I"⟩, 32), (⟨"WayFinderModel", "decide", "(Z)Z"⟩, 32), (⟨"WayFinderModel", "finish", "(II)V"⟩, 32), (⟨"WayFinderModel", "worked", "(IIII)I"⟩, 32), (⟨"WayFinderModel", "enter", "(I)V"⟩, 32)]
theorem lw_r2 : ∀ q ∈ lw_privs_2, lw_okq q := List.forall_mem_cons.mpr ⟨lw_p16, List.forall_mem_cons.mpr ⟨lw_p17, List.forall_mem_cons.mpr ⟨lw_p18, List.forall_mem_cons.mpr ⟨lw_p19, List.forall_mem_cons.mpr ⟨lw_p20, fun _ h => absurd h List.not_mem_nil⟩⟩⟩⟩⟩
def lw_privs : List (MethodName × Nat) := lw_privs_1 ++ (lw_privs_2)
def lw_tbl : List Cond := k2_sels lw_privs ++ tables_1
theorem lw_privs_ok : ∀ q ∈ lw_privs, lw_okq q := by
  show ∀ q ∈ lw_privs_1 ++ (lw_privs_2), lw_okq q
  exact List.forall_mem_append.mpr ⟨lw_r1, lw_r2⟩
/-! the words that stay true as the tables warm -/
def za_okw (w : Cond) : Bool := match w with
  | .fieldLinkNest .. => true
  | .methodLinkNest .. => true
  | .arrayOver (.object _) => true
  | .arrayClass _ => true
  | w => w.onTables && w.keepsFace
def za_tt : List Cond := lw_tbl.filter za_okw
theorem za_in {w : Cond} (i : Nat) (h : lw_tbl[i]? = some w) (ok : za_okw w = true) : w ∈ za_tt := List.mem_filter.mpr ⟨List.mem_of_getElem? h, ok⟩
theorem za_pay (w : Cond) (hw : w ∈ za_tt) {args a' : Array Value} {s U : State} (h : w.before args s = true) (hW : s.WarmedH U.vm) : w.before a' U = true := by
  have ok := (List.mem_filter.mp hw).2
  unfold za_okw at ok
  split at ok
  · exact va_tabs rfl (rfl : (s.setVm U.vm).vm = U.vm) (Cond.fieldLinkNest_warmed (args := args) hW h)
  · exact va_tabs rfl (rfl : (s.setVm U.vm).vm = U.vm) (Cond.methodLinkNest_warmed (args := args) hW h)
  · exact va_AO.use (va_AO.moved hW.alike (va_AO.of h))
  · exact word_at hW (Or.inr ⟨_, rfl⟩) h
  · rw [Bool.and_eq_true] at ok
    exact va_tabs ok.1 (rfl : (s.setVm U.vm).vm = U.vm) (Cond.before_shiftedFace (args := args) (State.Shifted.of_warmed hW) _ ok.2 h)
/-! classes: their names, fields in the order of the slots (declarer, name, descriptor, final) -/
def zf_P : u_T := fun k => match k with
  | 0 => ("WayFinder$Program", "ops", "[I", true)
  | 1 => ("WayFinder$Program", "as", "[I", true)
  | 2 => ("WayFinder$Program", "bs", "[I", true)
  | 3 => ("WayFinder$Program", "cs", "[I", true)
  | _ => ("WayFinder$Program", "size", "I", false)
def zf_T : u_T := fun k => match k with
  | 0 => ("WayFinder$Trace", "registers", "[I", true)
  | 1 => ("WayFinder$Trace", "place", "I", false)
  | 2 => ("WayFinder$Trace", "latest", "I", false)
  | 3 => ("WayFinder$Trace", "done", "I", false)
  | 4 => ("WayFinder$Trace", "visited", "I", false)
  | 5 => ("WayFinder$Trace", "decisions", "J", false)
  | 6 => ("WayFinder$Trace", "decisionCount", "I", false)
  | 7 => ("WayFinder$Trace", "ended", "Z", false)
  | 8 => ("WayFinder$Trace", "outcome", "I", false)
  | _ => ("WayFinder$Trace", "end", "I", false)
def zf_W : u_T := fun k => match k with
  | 0 => ("WayFinder$Way", "x", "I", false)
  | 1 => ("WayFinder$Way", "y", "I", false)
  | 2 => ("WayFinder$Way", "outcome", "I", false)
  | 3 => ("WayFinder$Way", "end", "I", false)
  | 4 => ("WayFinder$Way", "decisions", "J", false)
  | _ => ("WayFinder$Way", "decisionCount", "I", false)
def zf_R : u_T := fun k => match k with
  | 0 => ("WayFinder$Results", "ways", "[LWayFinder$Way;", true)
  | 1 => ("WayFinder$Results", "size", "I", false)
  | _ => ("WayFinder$Results", "visited", "I", false)
def zf_F : u_T := fun k => match k with
  | 0 => ("WayFinder", "program", "LWayFinder$Program;", true)
  | 1 => ("WayFinder", "lastTrace", "LWayFinder$Trace;", true)
  | 2 => ("WayFinder", "probe", "LWayFinder$Trace;", true)
  | 3 => ("WayFinder", "results", "LWayFinder$Results;", false)
  | 4 => ("WayFinder", "draft", "LWayFinder$Results;", false)
  | 5 => ("WayFinder", "bits", "I", false)
  | _ => ("WayFinder", "runs", "I", false)
def zf_M : u_T := fun k => match k with
  | 0 => ("WayFinderModel", "thrown", "I", false)
  | 1 => ("WayFinderModel", "op", "[I", true)
  | 2 => ("WayFinderModel", "ia", "[I", true)
  | 3 => ("WayFinderModel", "ib", "[I", true)
  | 4 => ("WayFinderModel", "ic", "[I", true)
  | 5 => ("WayFinderModel", "size", "I", false)
  | 6 => ("WayFinderModel", "width", "I", false)
  | 7 => ("WayFinderModel", "reg", "[I", true)
  | 8 => ("WayFinderModel", "outcome", "I", false)
  | 9 => ("WayFinderModel", "number", "I", false)
  | 10 => ("WayFinderModel", "done", "I", false)
  | 11 => ("WayFinderModel", "which", "I", false)
  | 12 => ("WayFinderModel", "decisions", "J", false)
  | 13 => ("WayFinderModel", "decided", "I", false)
  | 14 => ("WayFinderModel", "runs", "I", false)
  | 15 => ("WayFinderModel", "lastNumber", "I", false)
  | 16 => ("WayFinderModel", "lastDone", "I", false)
  | 17 => ("WayFinderModel", "lastDecided", "I", false)
  | 18 => ("WayFinderModel", "way", "[J", true)
  | 19 => ("WayFinderModel", "wayLength", "[I", true)
  | 20 => ("WayFinderModel", "least", "[I", true)
  | 21 => ("WayFinderModel", "wayOutcome", "[I", true)
  | 22 => ("WayFinderModel", "wayNumber", "[I", true)
  | 23 => ("WayFinderModel", "wayWhich", "[I", true)
  | 24 => ("WayFinderModel", "found", "I", false)
  | 25 => ("WayFinderModel", "rWay", "[J", true)
  | 26 => ("WayFinderModel", "rLength", "[I", true)
  | 27 => ("WayFinderModel", "rLeast", "[I", true)
  | 28 => ("WayFinderModel", "rOutcome", "[I", true)
  | 29 => ("WayFinderModel", "rNumber", "[I", true)
  | 30 => ("WayFinderModel", "results", "I", false)
  | _ => ("WayFinderModel", "covered", "I", false)
abbrev za_cl : List vw_C := [("WayFinder$Program", zf_P, 5), ("WayFinder$Trace", zf_T, 10), ("WayFinder$Way", zf_W, 6), ("WayFinder$Results", zf_R, 3), ("WayFinder", zf_F, 7), ("WayFinderModel", zf_M, 32)]
abbrev zn_P : Nat := 0
abbrev zn_T : Nat := 1
abbrev zn_W : Nat := 2
abbrev zn_R : Nat := 3
abbrev zn_F : Nat := 4
abbrev zn_M : Nat := 5
def za_fts : List (List FieldType) := [[.array (.int), .array (.int), .array (.int), .array (.int), .int], [.array (.int), .int, .int, .int, .int, .long, .int, .boolean, .int, .int], [.int, .int, .int, .int, .long, .int], [.array (.object "WayFinder$Way"), .int, .int], [.object "WayFinder$Program", .object "WayFinder$Trace", .object "WayFinder$Trace", .object "WayFinder$Results", .object "WayFinder$Results", .int, .int], [.int, .array (.int), .array (.int), .array (.int), .array (.int), .int, .int, .array (.int), .int, .int, .int, .int, .long, .int, .int, .int, .int, .int, .array (.long), .array (.int), .array (.int), .array (.int), .array (.int), .array (.int), .int, .array (.long), .array (.int), .array (.int), .array (.int), .array (.int), .int, .int]]
def za_fns : List (List Bool) := [[true, true, true, true, false], [true, false, false, false, false, false, false, false, false, false], [false, false, false, false, false, false], [true, false, false], [true, true, true, false, false, false, false], [false, true, true, true, true, false, false, true, false, false, false, false, false, false, false, false, false, false, true, true, true, true, true, true, false, true, true, true, true, true, false, false]]
def za_fty (c k : Nat) : FieldType := (za_fts.getD c []).getD k .int
def za_fin (c k : Nat) : Bool := (za_fns.getD c []).getD k false
def za_ty : List FieldType := [.int, .long, .object "WayFinder$Way"]
/-! what the tables say of the classes -/
theorem zl_P : ∀ w ∈ u_ws "WayFinder$Program" zf_P 5, w ∈ za_tt := by
  intro w hw
  obtain ⟨k, hk, rfl⟩ := List.mem_map.mp hw
  have hk2 := List.mem_range.mp hk
  match k, hk2 with
  | 0, _ => exact za_in 59 (by decide +kernel) rfl
  | 1, _ => exact za_in 61 (by decide +kernel) rfl
  | 2, _ => exact za_in 63 (by decide +kernel) rfl
  | 3, _ => exact za_in 65 (by decide +kernel) rfl
  | 4, _ => exact za_in 67 (by decide +kernel) rfl
  | k + 5, h => exact absurd h (by omega)
theorem zl_T : ∀ w ∈ u_ws "WayFinder$Trace" zf_T 10, w ∈ za_tt := by
  intro w hw
  obtain ⟨k, hk, rfl⟩ := List.mem_map.mp hw
  have hk2 := List.mem_range.mp hk
  match k, hk2 with
  | 0, _ => exact za_in 97 (by decide +kernel) rfl
  | 1, _ => exact za_in 99 (by decide +kernel) rfl
  | 2, _ => exact za_in 101 (by decide +kernel) rfl
  | 3, _ => exact za_in 103 (by decide +kernel) rfl
  | 4, _ => exact za_in 105 (by decide +kernel) rfl
  | 5, _ => exact za_in 107 (by decide +kernel) rfl
  | 6, _ => exact za_in 109 (by decide +kernel) rfl
  | 7, _ => exact za_in 111 (by decide +kernel) rfl
  | 8, _ => exact za_in 113 (by decide +kernel) rfl
  | 9, _ => exact za_in 115 (by decide +kernel) rfl
  | k + 10, h => exact absurd h (by omega)
theorem zl_W : ∀ w ∈ u_ws "WayFinder$Way" zf_W 6, w ∈ za_tt := by
  intro w hw
  obtain ⟨k, hk, rfl⟩ := List.mem_map.mp hw
  have hk2 := List.mem_range.mp hk
  match k, hk2 with
  | 0, _ => exact za_in 147 (by decide +kernel) rfl
  | 1, _ => exact za_in 149 (by decide +kernel) rfl
  | 2, _ => exact za_in 151 (by decide +kernel) rfl
  | 3, _ => exact za_in 153 (by decide +kernel) rfl
  | 4, _ => exact za_in 155 (by decide +kernel) rfl
  | 5, _ => exact za_in 157 (by decide +kernel) rfl
  | k + 6, h => exact absurd h (by omega)
theorem zl_R : ∀ w ∈ u_ws "WayFinder$Results" zf_R 3, w ∈ za_tt := by
  intro w hw
  obtain ⟨k, hk, rfl⟩ := List.mem_map.mp hw
  have hk2 := List.mem_range.mp hk
  match k, hk2 with
  | 0, _ => exact za_in 166 (by decide +kernel) rfl
  | 1, _ => exact za_in 168 (by decide +kernel) rfl
  | 2, _ => exact za_in 170 (by decide +kernel) rfl
  | k + 3, h => exact absurd h (by omega)
theorem zl_F : ∀ w ∈ u_ws "WayFinder" zf_F 7, w ∈ za_tt := by
  intro w hw
  obtain ⟨k, hk, rfl⟩ := List.mem_map.mp hw
  have hk2 := List.mem_range.mp hk
  match k, hk2 with
  | 0, _ => exact za_in 180 (by decide +kernel) rfl
  | 1, _ => exact za_in 182 (by decide +kernel) rfl
  | 2, _ => exact za_in 184 (by decide +kernel) rfl
  | 3, _ => exact za_in 186 (by decide +kernel) rfl
  | 4, _ => exact za_in 188 (by decide +kernel) rfl
  | 5, _ => exact za_in 190 (by decide +kernel) rfl
  | 6, _ => exact za_in 192 (by decide +kernel) rfl
  | k + 7, h => exact absurd h (by omega)
theorem zl_M : ∀ w ∈ u_ws "WayFinderModel" zf_M 32, w ∈ za_tt := by
  intro w hw
  obtain ⟨k, hk, rfl⟩ := List.mem_map.mp hw
  have hk2 := List.mem_range.mp hk
  match k, hk2 with
  | 0, _ => exact za_in 519 (by decide +kernel) rfl
  | 1, _ => exact za_in 521 (by decide +kernel) rfl
  | 2, _ => exact za_in 523 (by decide +kernel) rfl
  | 3, _ => exact za_in 525 (by decide +kernel) rfl
  | 4, _ => exact za_in 527 (by decide +kernel) rfl
  | 5, _ => exact za_in 529 (by decide +kernel) rfl
  | 6, _ => exact za_in 531 (by decide +kernel) rfl
  | 7, _ => exact za_in 533 (by decide +kernel) rfl
  | 8, _ => exact za_in 535 (by decide +kernel) rfl
  | 9, _ => exact za_in 537 (by decide +kernel) rfl
  | 10, _ => exact za_in 539 (by decide +kernel) rfl
  | 11, _ => exact za_in 541 (by decide +kernel) rfl
  | 12, _ => exact za_in 543 (by decide +kernel) rfl
  | 13, _ => exact za_in 545 (by decide +kernel) rfl
  | 14, _ => exact za_in 547 (by decide +kernel) rfl
  | 15, _ => exact za_in 549 (by decide +kernel) rfl
  | 16, _ => exact za_in 551 (by decide +kernel) rfl
  | 17, _ => exact za_in 553 (by decide +kernel) rfl
  | 18, _ => exact za_in 555 (by decide +kernel) rfl
  | 19, _ => exact za_in 557 (by decide +kernel) rfl
  | 20, _ => exact za_in 559 (by decide +kernel) rfl
  | 21, _ => exact za_in 561 (by decide +kernel) rfl
  | 22, _ => exact za_in 563 (by decide +kernel) rfl
  | 23, _ => exact za_in 565 (by decide +kernel) rfl
  | 24, _ => exact za_in 567 (by decide +kernel) rfl
  | 25, _ => exact za_in 569 (by decide +kernel) rfl
  | 26, _ => exact za_in 571 (by decide +kernel) rfl
  | 27, _ => exact za_in 573 (by decide +kernel) rfl
  | 28, _ => exact za_in 575 (by decide +kernel) rfl
  | 29, _ => exact za_in 577 (by decide +kernel) rfl
  | 30, _ => exact za_in 579 (by decide +kernel) rfl
  | 31, _ => exact za_in 581 (by decide +kernel) rfl
  | k + 32, h => exact absurd h (by omega)
theorem za_cok : ∀ (ci : Nat) (C : String) (T : u_T) (N : Nat), za_cl[ci]? = some (C, T, N) → (∀ w ∈ u_ws C T N, w ∈ za_tt) ∧ (∀ k, k < N → parseFieldDescriptor (T k).2.2.1 = some (za_fty ci k)) ∧ (∀ a, a < N → ∀ b, b < N → a ≠ b → (T a).2.1 ≠ (T b).2.1) ∧ ∀ k, k < N → (T k).2.2.2 = za_fin ci k := by
  intro ci C T N h
  match ci, h with
  | 0, h => cases h; exact ⟨zl_P, by decide +kernel, by decide +kernel, by decide +kernel⟩
  | 1, h => cases h; exact ⟨zl_T, by decide +kernel, by decide +kernel, by decide +kernel⟩
  | 2, h => cases h; exact ⟨zl_W, by decide +kernel, by decide +kernel, by decide +kernel⟩
  | 3, h => cases h; exact ⟨zl_R, by decide +kernel, by decide +kernel, by decide +kernel⟩
  | 4, h => cases h; exact ⟨zl_F, by decide +kernel, by decide +kernel, by decide +kernel⟩
  | 5, h => cases h; exact ⟨zl_M, by decide +kernel, by decide +kernel, by decide +kernel⟩
  | k + 6, h => simp [za_cl] at h
end
section
/-! ABSTRACT VALUES, CELLS, HEAPS. A reference is the number of a cell behind z, the heap's size at the law's entry: what the system makes lies at z + 0, z + 1 .. -/
abbrev za_V : Type := Int32 ⊕ (Int64 ⊕ Option Nat)
abbrev vI (x : Int32) : za_V := Sum.inl x
abbrev vL (x : Int64) : za_V := Sum.inr (Sum.inl x)
abbrev vR (i : Nat) : za_V := Sum.inr (Sum.inr (some i))
abbrev vN : za_V := Sum.inr (Sum.inr none)
/-- an array: the number of its type in za_ty, its length, what it holds -/
abbrev za_A : Type := Nat × Nat × ((Nat → Int32) ⊕ ((Nat → Int64) ⊕ (Nat → Option Nat)))
abbrev za_C : Type := za_A ⊕ (Nat × List za_V)
abbrev za_H : Type := Nat → Option za_C
abbrev za_D : Type := va_G × (Nat → ClassId) × Nat
def za_cv (z : Nat) : za_V → Value
  | .inl x => .int x
  | .inr (.inl x) => .long x
  | .inr (.inr none) => .null
  | .inr (.inr (some i)) => .ref (z + i)
def za_c2 : za_V → Bool
  | .inr (.inl _) => true
  | _ => false
theorem za_cat (z : Nat) (v : za_V) : (za_cv z v).category = if za_c2 v = true then 2 else 1 := by
  rcases v with x | x | x
  · rfl
  · rfl
  · cases x <;> rfl
theorem za_cat1 {z : Nat} {v : za_V} (h : za_c2 v = false) : (za_cv z v).category = 1 := by rw [za_cat, h]; rfl
def za_ce (D : za_D) : za_C → va_E
  | .inl (k, n, .inl f) => .inl (D.2.1 k, n, .inl f)
  | .inl (k, n, .inr (.inl f)) => .inl (D.2.1 k, n, .inr (.inl f))
  | .inl (k, n, .inr (.inr g)) => .inl (D.2.1 k, n, .inr (.inr (.inr (.inr (fun j => (g j).map (fun i => D.2.2 + i))))))
  | .inr (ci, fs) => .inr (ci, fs.map (za_cv D.2.2))
def za_at (D : za_D) (i : Nat) (c : za_C) (H : Heap) : Prop := va_at D.1 za_cl (D.2.2 + i, za_ce D c) H
/-- the heap holds the picture h of n cells behind z; no cell there is a cell of statics -/
def za_Rp (D : za_D) (h : za_H) (n : Nat) (H : Heap) : Prop := H.size = D.2.2 + n ∧ (∀ (i : Nat) (c : za_C), h i = some c → za_at D i c H) ∧ ∀ (q : Nat) (c : Cell), D.2.2 ≤ q → H[q]? = some c → c.vm = .none
def za_tys (D : za_D) : List (ClassId × FieldType) := (List.range za_ty.length).map (fun k => (D.2.1 k, za_ty.getD k .int))
theorem za_tys_at (D : za_D) {k : Nat} {ty : FieldType} (h : za_ty[k]? = some ty) : (za_tys D)[k]? = some (D.2.1 k, ty) := by
  have hl : k < za_ty.length := (List.getElem?_eq_some_iff.mp h).1
  simp only [za_tys, List.getElem?_map, List.getElem?_range hl, Option.map_some, List.getD_eq_getElem?_getD, h, Option.getD_some]
def za_set (h : za_H) (i : Nat) (c : za_C) : za_H := fun j => if j = i then some c else h j
theorem za_set_eq (h : za_H) (i : Nat) (c : za_C) : za_set h i c i = some c := by simp [za_set]
theorem za_set_ne {h : za_H} {i j : Nat} {c : za_C} (e : j ≠ i) : za_set h i c j = h j := by simp [za_set, e]
theorem za_at.ltz {D : za_D} {i : Nat} {c : za_C} {H : Heap} (h : za_at D i c H) : D.2.2 + i < H.size := va_at.lt (q := (D.2.2 + i, za_ce D c)) h
theorem za_at.plain {D : za_D} {i : Nat} {c : za_C} {H : Heap} {q : Cell} (h : za_at D i c H) (hq : H[D.2.2 + i]? = some q) : q.vm = .none := by
  rcases c with ⟨k, n, f | f | f⟩ | ⟨ci, fs⟩
  · have h1 : H[D.2.2 + i]? = some (vp_cell (D.2.1 k) (n, .inl f)) := h
    rw [hq] at h1; cases h1; rfl
  · have h1 : H[D.2.2 + i]? = some (vp_cell (D.2.1 k) (n, .inr (.inl f))) := h
    rw [hq] at h1; cases h1; rfl
  · have h1 : H[D.2.2 + i]? = some (vp_cell (D.2.1 k) (n, .inr (.inr (.inr (.inr (fun j => (f j).map (fun i => D.2.2 + i))))))) := h
    rw [hq] at h1; cases h1; rfl
  · have h1 : ∃ r : vw_C, za_cl[ci]? = some r ∧ t_OB (D.2.2 + i) (D.1.1 ci) r.2.2 (D.1.2 ci) H (vp_V (fs.map (za_cv D.2.2))) := h
    obtain ⟨r, -, cell, q1, -, q3, -⟩ := h1
    rw [hq] at q1; cases q1; exact q3
theorem za_Rp.set {D : za_D} {h : za_H} {n i : Nat} {c : za_C} {H H1 : Heap} (hR : za_Rp D h n H) (hz : H1.size = H.size) (ha : za_at D i c H1) (ho : ∀ q : Nat, q ≠ D.2.2 + i → H1[q]? = H[q]?) : za_Rp D (za_set h i c) n H1 := by
  refine ⟨hz.trans hR.1, fun j c' hj => ?_, fun q cell hq hc => ?_⟩
  · by_cases e : j = i
    · subst e
      rw [za_set_eq] at hj
      cases hj
      exact ha
    · rw [za_set_ne e] at hj
      exact va_at.kept (q := (D.2.2 + j, za_ce D c')) (hR.2.1 j c' hj) (ho (D.2.2 + j) (by omega))
  · by_cases e : q = D.2.2 + i
    · subst e
      exact ha.plain hc
    · rw [ho q e] at hc
      exact hR.2.2 q cell hq hc
theorem za_Rp.push {D : za_D} {h : za_H} {n : Nat} {H H1 : Heap} (hR : za_Rp D h n H) (hz : H1.size = D.2.2 + n + 1) (ho : ∀ q : Nat, q < D.2.2 + n → H1[q]? = H[q]?) (hp : ∀ c : Cell, H1[D.2.2 + n]? = some c → c.vm = .none) : za_Rp D h (n + 1) H1 := by
  refine ⟨by omega, fun j c' hj => ?_, fun q cell hq hc => ?_⟩
  · have h1 := hR.2.1 j c' hj
    have h2 := h1.ltz
    rw [hR.1] at h2
    exact va_at.kept (q := (D.2.2 + j, za_ce D c')) h1 (ho (D.2.2 + j) h2)
  · by_cases e : q = D.2.2 + n
    · subst e
      exact hp cell hc
    · have hl : q < H1.size := (Array.getElem?_eq_some_iff.mp hc).1
      rw [ho q (by omega)] at hc
      exact hR.2.2 q cell hq hc
theorem za_Rp.pushc {D : za_D} {h : za_H} {n : Nat} {c : za_C} {H H1 : Heap} (hR : za_Rp D h n H) (hz : H1.size = D.2.2 + n + 1) (ho : ∀ q : Nat, q < D.2.2 + n → H1[q]? = H[q]?) (ha : za_at D n c H1) : za_Rp D (za_set h n c) (n + 1) H1 := by
  have hp := hR.push hz ho (fun c hc => ha.plain hc)
  refine ⟨hp.1, fun j c' hj => ?_, hp.2.2⟩
  by_cases e : j = n
  · subst e
    rw [za_set_eq] at hj
    cases hj
    exact ha
  · rw [za_set_ne e] at hj
    exact hp.2.1 j c' hj
/-! a heap seen through a list of cells: what the list names, the list tells -/
def za_vg : List (Nat × za_C) → Nat → Option za_C
  | [], _ => none
  | (j, c) :: t, i => bif Nat.beq j i then some c else za_vg t i
theorem za_beq {j i : Nat} (e : j ≠ i) : Nat.beq j i = false := Bool.eq_false_iff.mpr fun h => e (Nat.eq_of_beq_eq_true h)
theorem za_beq_rfl (j : Nat) : Nat.beq j j = true := Nat.beq_refl j
theorem za_vg_cons (j i : Nat) (c : za_C) (t : List (Nat × za_C)) : za_vg ((j, c) :: t) i = if j = i then some c else za_vg t i := by
  show (bif Nat.beq j i then some c else za_vg t i) = _
  by_cases e : j = i
  · subst e
    rw [za_beq_rfl, if_pos rfl]; rfl
  · rw [za_beq e, if_neg e]; rfl
def za_vs : List (Nat × za_C) → Nat → za_C → List (Nat × za_C)
  | [], i, c => [(i, c)]
  | (j, d) :: t, i, c => bif Nat.beq j i then (j, c) :: t else (j, d) :: za_vs t i c
theorem za_vg_vs (v : List (Nat × za_C)) (i : Nat) (c : za_C) (j : Nat) : za_vg (za_vs v i c) j = if j = i then some c else za_vg v j := by
  induction v with
  | nil =>
    show za_vg [(i, c)] j = _
    rw [za_vg_cons]
    by_cases e : i = j
    · rw [if_pos e, if_pos e.symm]
    · rw [if_neg e, if_neg (fun q => e q.symm)]
  | cons q t ih =>
    obtain ⟨a, d⟩ := q
    show za_vg (bif Nat.beq a i then (a, c) :: t else (a, d) :: za_vs t i c) j = _
    by_cases e : a = i
    · subst e
      rw [za_beq_rfl]
      show za_vg ((a, c) :: t) j = _
      rw [za_vg_cons, za_vg_cons]
      by_cases e2 : a = j
      · rw [if_pos e2, if_pos e2.symm]
      · rw [if_neg e2, if_neg (fun q => e2 q.symm), if_neg e2]
    · rw [za_beq e]
      show za_vg ((a, d) :: za_vs t i c) j = _
      rw [za_vg_cons, za_vg_cons, ih]
      by_cases e2 : a = j
      · subst e2
        rw [if_pos rfl, if_pos rfl, if_neg e]
      · rw [if_neg e2, if_neg e2]
def za_ov (h : za_H) (v : List (Nat × za_C)) : za_H := fun i => match za_vg v i with
  | some c => some c
  | none => h i
theorem za_ov_nil (h : za_H) : za_ov h [] = h := rfl
theorem za_ov_at {h : za_H} {v : List (Nat × za_C)} {i : Nat} {c : za_C} (e : za_vg v i = some c) : za_ov h v i = some c := by simp [za_ov, e]
theorem za_ov_vs (h : za_H) (v : List (Nat × za_C)) (i : Nat) (c : za_C) : za_ov h (za_vs v i c) = za_set (za_ov h v) i c := by
  funext j
  show (match za_vg (za_vs v i c) j with | some c => some c | none => h j) = _
  rw [za_vg_vs]
  by_cases e : j = i
  · subst e
    rw [if_pos rfl, za_set_eq]
  · rw [if_neg e, za_set_ne e]
    rfl
/-- what the list says is so already: the list changes nothing -/
theorem za_ov_same {h : za_H} {v : List (Nat × za_C)} (e : ∀ q ∈ v, h q.1 = some q.2) : za_ov h v = h := by
  have key : ∀ (w : List (Nat × za_C)), (∀ q ∈ w, h q.1 = some q.2) → ∀ (i : Nat) (c : za_C), za_vg w i = some c → h i = some c := by
    intro w
    induction w with
    | nil => intro _ i c hc; cases hc
    | cons q t ih =>
      obtain ⟨a, d⟩ := q
      intro hw i c hc
      rw [za_vg_cons] at hc
      by_cases e2 : a = i
      · rw [if_pos e2] at hc
        cases hc
        subst e2
        exact hw (a, d) List.mem_cons_self
      · rw [if_neg e2] at hc
        exact ih (fun q hq => hw q (List.mem_cons_of_mem _ hq)) i c hc
  funext i
  show (match za_vg v i with | some c => some c | none => h i) = _
  cases hc : za_vg v i with
  | none => rfl
  | some c => exact (key v e i c hc).symm
/-! locals -/
def za_lg : List (Nat × za_V) → Nat → Option za_V
  | [], _ => none
  | (j, v) :: t, i => bif Nat.beq j i then some v else za_lg t i
theorem za_lg_mem {lv : List (Nat × za_V)} {i : Nat} {v : za_V} (h : za_lg lv i = some v) : (i, v) ∈ lv := by
  induction lv with
  | nil => cases h
  | cons q t ih =>
    obtain ⟨j, w⟩ := q
    have h2 : (bif Nat.beq j i then some w else za_lg t i) = some v := h
    by_cases e : j = i
    · subst e
      rw [za_beq_rfl] at h2
      cases h2
      exact List.mem_cons_self
    · rw [za_beq e] at h2
      exact List.mem_cons_of_mem _ (ih h2)
def za_lf : List (Nat × za_V) → Nat → List (Nat × za_V)
  | [], _ => []
  | (j, v) :: t, i => bif (Nat.beq j i || (Nat.beq (j + 1) i && za_c2 v)) then za_lf t i else (j, v) :: za_lf t i
theorem za_lf_mem {lv : List (Nat × za_V)} {i : Nat} {q : Nat × za_V} (h : q ∈ za_lf lv i) : q ∈ lv ∧ q.1 ≠ i ∧ ¬ (q.1 + 1 = i ∧ za_c2 q.2 = true) := by
  induction lv with
  | nil => cases h
  | cons r t ih =>
    obtain ⟨j, w⟩ := r
    have h2 : q ∈ (bif (Nat.beq j i || (Nat.beq (j + 1) i && za_c2 w)) then za_lf t i else (j, w) :: za_lf t i) := h
    cases hb : (Nat.beq j i || (Nat.beq (j + 1) i && za_c2 w)) with
    | true =>
      rw [hb] at h2
      obtain ⟨a, b⟩ := ih h2
      exact ⟨List.mem_cons_of_mem _ a, b⟩
    | false =>
      rw [hb] at h2
      rcases List.mem_cons.mp h2 with rfl | h3
      · rw [Bool.or_eq_false_iff] at hb
        refine ⟨List.mem_cons_self, fun e => ?_, fun e => ?_⟩
        · have e1 : j = i := e
          rw [e1, za_beq_rfl] at hb
          cases hb.1
        · have e1 : j + 1 = i := e.1
          have e2 : za_c2 w = true := e.2
          rw [e1, za_beq_rfl, e2] at hb
          cases hb.2
      · obtain ⟨a, b⟩ := ih h3
        exact ⟨List.mem_cons_of_mem _ a, b⟩
def za_lm (z : Nat) (lv : List (Nat × za_V)) : List (Nat × Value) := lv.map (fun q => (q.1, za_cv z q.2))
/-- a method whose one argument lies ahead of z keeps it in its place 0 -/
def za_lx (args : Array Value) (z : Nat) : List (Nat × Value) := match args.toList with
  | [.ref b] => bif Nat.blt b z then [(0, .ref b)] else []
  | _ => []
theorem za_lx_in {args : Array Value} {z : Nat} {q : Nat × Value} (h : q ∈ za_lx args z) : q.1 = 0 ∧ q.2.category = 1 := by
  unfold za_lx at h
  split at h
  · cases hb : Nat.blt _ z with
    | true => rw [hb] at h; rw [List.mem_singleton.mp h]; exact ⟨rfl, rfl⟩
    | false => rw [hb] at h; cases h
  · cases h
theorem za_lx_0 (av : List za_V) (z : Nat) : za_lx (av.map (za_cv z)).toArray z = [] := by
  unfold za_lx
  rcases av with _ | ⟨v, _ | ⟨w, t⟩⟩
  · rfl
  · rcases v with x | x | x | x
    · rfl
    · rfl
    · rfl
    · show (bif Nat.blt (z + x) z then _ else _) = _
      cases hb : Nat.blt (z + x) z with
      | true => have : z + x < z := by simpa using hb
                omega
      | false => rfl
  · show (match (za_cv z v :: za_cv z w :: List.map (za_cv z) t) with | [.ref b] => (bif Nat.blt b z then [(0, .ref b)] else []) | _ => []) = ([] : List (Nat × Value))
    generalize za_cv z v = a
    cases a <;> rfl
abbrev za_lh (args : Array Value) (ls : Array Slot) (nL z : Nat) (lv : List (Nat × za_V)) : Prop := lv_has ls nL (za_lx args z ++ za_lm z lv)
theorem za_lm_at {args : Array Value} {z : Nat} {lv : List (Nat × za_V)} {i nL : Nat} {v : za_V} {ls : Array Slot} (hl : za_lh args ls nL z lv) (h : za_lg lv i = some v) : ls[i]? = some (.val (za_cv z v)) :=
  hl.2.2 (i, za_cv z v) (List.mem_append_right _ (List.mem_map.mpr ⟨(i, v), za_lg_mem h, rfl⟩))
theorem za_lh_sub {ls : Array Slot} {nL : Nat} {k k' : List (Nat × Value)} (h : lv_has ls nL k) (hs : ∀ q ∈ k', q ∈ k) : lv_has ls nL k' := ⟨h.1, h.2.1, fun q hq => h.2.2 q (hs q hq)⟩
/-- storing a value of one slot -/
theorem za_lm_st {args : Array Value} {z i : Nat} {lv : List (Nat × za_V)} {v : za_V} (hi0 : 0 < i) : ∀ q ∈ za_lx args z ++ za_lm z ((i, v) :: za_lf lv i), q ∈ ((i, za_cv z v) :: (za_lx args z ++ za_lm z lv).filter (fun q => !(q.1 == i) && !(q.1 + 1 == i && q.2.category == 2))) := by
  intro q hq
  rcases List.mem_append.mp hq with hq | hq
  · obtain ⟨a, b⟩ := za_lx_in hq
    refine List.mem_cons_of_mem _ (List.mem_filter.mpr ⟨List.mem_append_left _ hq, ?_⟩)
    rw [b, a]
    have e1 : (0 == i) = false := by simp; omega
    rw [e1]
    simp
  obtain ⟨r, hr, rfl⟩ := List.mem_map.mp hq
  rcases List.mem_cons.mp hr with rfl | hr
  · exact List.mem_cons_self
  · obtain ⟨h1, h2, h3⟩ := za_lf_mem hr
    refine List.mem_cons_of_mem _ (List.mem_filter.mpr ⟨List.mem_append_right _ (List.mem_map.mpr ⟨r, h1, rfl⟩), ?_⟩)
    have e1 : (r.1 == i) = false := by simpa using h2
    have e2 : (r.1 + 1 == i && (za_cv z r.2).category == 2) = false := by
      rw [Bool.and_eq_false_iff]
      by_cases e : r.1 + 1 = i
      · right
        have : za_c2 r.2 = false := by
          cases hc : za_c2 r.2 with
          | false => rfl
          | true => exact absurd ⟨e, hc⟩ h3
        rw [za_cat1 this]
        rfl
      · left
        simpa using e
    show (!(r.1 == i) && !(r.1 + 1 == i && (za_cv z r.2).category == 2)) = true
    rw [e1, e2]
    rfl
end
section
/-! THE JUDGEMENT: from every heap that holds the picture, with these locals and this stack at pc, the walk comes to Q -/
def za_W (p : Program) (l : Launch) (e : Env) (R : Room) (s : State) (m : MethodId) (args : Array Value) (below : List Frame) (meth : Method) (c : Code) (D : za_D) (nL : Nat) (Q : State → Prop) (h0 : za_H) (n cells slots pc : Nat) (lv : List (Nat × za_V)) (st : List za_V) (vw : List (Nat × za_C)) : Prop :=
  ∀ (H : Heap) (locs : List Loc) (ls : Array Slot), za_Rp D (za_ov h0 vw) n H → va_S (fun q : Nat => D.2.2 ≤ q) s.heap H locs → za_lh args ls nL D.2.2 lv → W p l e R s m args below meth c H locs cells slots Q (F0 m pc ls (st.map (za_cv D.2.2)))
/-- a field of a class's table under a number of its pool: (the number, the class, the field's place) -/
def za_FL (own : String) (q : Nat × Nat × Nat) : Prop := ∃ (C : String) (T : u_T) (N : Nat), za_cl[q.2.1]? = some (C, T, N) ∧ q.2.2 < N ∧ (T q.2.2).1 = C ∧ (Cond.fieldLink own q.1 C (T q.2.2).2.1 (T q.2.2).2.2.1 ∈ za_tt ∨ ∃ host : String, Cond.fieldLinkNest own q.1 C (T q.2.2).2.1 (T q.2.2).2.2.1 host ∈ za_tt)
/-- what holds all along a walk -/
def za_X (p : Program) (s : State) (m : MethodId) (args : Array Value) (meth : Method) (c : Code) (D : za_D) (own : String) (cc : ByteArray) (cd : List (Nat × Instr × Nat)) (fl : List (Nat × Nat × Nat)) (nL : Nat) (ret : Option FieldType) : Prop :=
  p.tables.exec = Jvm.exec ∧ c.code = cc ∧ c.maxLocals = nL ∧ s.vm.findClass own = some m.cls ∧ (∀ w ∈ za_tt, w.before args s = true) ∧ va_K D.1 za_cl (za_tys D) s ∧ (∀ q ∈ cd, decode cc q.1 = .ok q.2) ∧ (∀ q ∈ fl, za_FL own q) ∧ meth.sig.returnType = ret ∧ meth.locks = false ∧ D.2.2 ≤ s.heap.size
def za_fe : List (Nat × Instr × Nat) → Nat → Option (Instr × Nat)
  | [], _ => none
  | (j, r) :: t, i => bif Nat.beq j i then some r else za_fe t i
theorem za_fe_ok {cc : ByteArray} {cd : List (Nat × Instr × Nat)} (h : ∀ q ∈ cd, decode cc q.1 = .ok q.2) {pc : Nat} {r : Instr × Nat} (hf : za_fe cd pc = some r) : decode cc pc = .ok r := by
  induction cd with
  | nil => cases hf
  | cons q t ih =>
    obtain ⟨j, w⟩ := q
    have h2 : (bif Nat.beq j pc then some w else za_fe t pc) = some r := hf
    by_cases e : j = pc
    · subst e
      rw [za_beq_rfl] at h2
      cases h2
      exact h (j, r) List.mem_cons_self
    · rw [za_beq e] at h2
      exact ih (fun q hq => h q (List.mem_cons_of_mem _ hq)) h2
def za_fk : List (Nat × Nat × Nat) → Nat → Option (Nat × Nat)
  | [], _ => none
  | (j, r) :: t, i => bif Nat.beq j i then some r else za_fk t i
theorem za_fk_mem {fl : List (Nat × Nat × Nat)} {i : Nat} {r : Nat × Nat} (h : za_fk fl i = some r) : (i, r) ∈ fl := by
  induction fl with
  | nil => cases h
  | cons q t ih =>
    obtain ⟨j, w⟩ := q
    have h2 : (bif Nat.beq j i then some w else za_fk t i) = some r := h
    by_cases e : j = i
    · subst e
      rw [za_beq_rfl] at h2
      cases h2
      exact List.mem_cons_self
    · rw [za_beq e] at h2
      exact List.mem_cons_of_mem _ (ih h2)
/-- what a field of this type takes -/
def za_okf (ty : FieldType) (v : za_V) : Bool := match ty, v with
  | .int, .inl _ => true
  | .long, .inr (.inl _) => true
  | .boolean, .inl x => x == 0 || x == 1
  | .object _, .inr (.inr _) => true
  | .array _, .inr (.inr _) => true
  | _, _ => false
theorem za_okf_ok {ty : FieldType} {v : za_V} (h : za_okf ty v = true) (z : Nat) : narrow ty (za_cv z v) = za_cv z v ∧ fits ty (za_cv z v) = true := by
  unfold za_okf at h
  split at h
  · exact ⟨rfl, rfl⟩
  · exact ⟨rfl, rfl⟩
  · rename_i x
    rw [Bool.or_eq_true, beq_iff_eq, beq_iff_eq] at h
    rcases h with rfl | rfl
    · exact ⟨(by decide : narrow .boolean (.int 0) = .int 0), (by decide : fits .boolean (.int 0) = true)⟩
    · exact ⟨(by decide : narrow .boolean (.int 1) = .int 1), (by decide : fits .boolean (.int 1) = true)⟩
  · rename_i r
    cases r <;> exact ⟨rfl, rfl⟩
  · rename_i r
    cases r <;> exact ⟨rfl, rfl⟩
  · cases h
def za_gc (fl : List (Nat × Nat × Nat)) (idx : Nat) (c : za_C) : Option za_V := match c with
  | .inr (ci, fs) => match za_fk fl idx with
    | some (cj, k) => bif Nat.beq cj ci then fs[k]? else none
    | none => none
  | .inl _ => none
theorem za_gc_ok {fl : List (Nat × Nat × Nat)} {idx : Nat} {c : za_C} {v : za_V} (h : za_gc fl idx c = some v) : ∃ (ci k : Nat) (fs : List za_V), c = .inr (ci, fs) ∧ (idx, ci, k) ∈ fl ∧ fs[k]? = some v := by
  unfold za_gc at h
  split at h
  · rename_i ci fs
    split at h
    · rename_i cj k hk
      by_cases e : cj = ci
      · subst e
        rw [za_beq_rfl] at h
        exact ⟨cj, k, fs, rfl, za_fk_mem hk, h⟩
      · rw [za_beq e] at h
        cases h
    · cases h
  · cases h
def za_pf (fl : List (Nat × Nat × Nat)) (idx : Nat) (c : za_C) (v : za_V) : Option za_C := match c with
  | .inr (ci, fs) => match za_fk fl idx with
    | some (cj, k) => bif (Nat.beq cj ci && (za_okf (za_fty ci k) v && (!(za_fin ci k) && Nat.blt k fs.length))) then some (.inr (ci, fs.set k v)) else none
    | none => none
  | .inl _ => none
theorem za_pf_ok {fl : List (Nat × Nat × Nat)} {idx : Nat} {c c' : za_C} {v : za_V} (h : za_pf fl idx c v = some c') : ∃ (ci k : Nat) (fs : List za_V), c = .inr (ci, fs) ∧ (idx, ci, k) ∈ fl ∧ za_okf (za_fty ci k) v = true ∧ za_fin ci k = false ∧ k < fs.length ∧ c' = .inr (ci, fs.set k v) := by
  unfold za_pf at h
  split at h
  · rename_i ci fs
    split at h
    · rename_i cj k hk
      cases hb : (Nat.beq cj ci && (za_okf (za_fty ci k) v && (!(za_fin ci k) && Nat.blt k fs.length))) with
      | false => rw [hb] at h; cases h
      | true =>
        rw [hb] at h
        cases h
        rw [Bool.and_eq_true, Bool.and_eq_true, Bool.and_eq_true] at hb
        obtain ⟨h1, h2, h3, h4⟩ := hb
        have e := Nat.eq_of_beq_eq_true h1
        subst e
        exact ⟨cj, k, fs, rfl, za_fk_mem hk, h2, by simpa using h3, by simpa using h4, rfl⟩
    · cases h
  · cases h

def za_ln (i : Instr) : Nat := match i with
  | .iconst _ => 1
  | .bipush _ => 2
  | .sipush _ => 3
  | .lconst _ => 1
  | .aconst_null => 1
  | .iload_n _ => 1
  | .iload _ => 2
  | .lload_n _ => 1
  | .lload _ => 2
  | .aload_n _ => 1
  | .aload _ => 2
  | .istore_n _ => 1
  | .istore _ => 2
  | .astore_n _ => 1
  | .astore _ => 2
  | .iinc _ _ => 3
  | .iadd => 1
  | .isub => 1
  | .imul => 1
  | .iand => 1
  | .ior => 1
  | .ixor => 1
  | .ishl => 1
  | .ishr => 1
  | .ineg => 1
  | .ladd => 1
  | .lsub => 1
  | .land => 1
  | .lor => 1
  | .lxor => 1
  | .lshl => 1
  | .lshr => 1
  | .lcmp => 1
  | .l2i => 1
  | .i2l => 1
  | .dup => 1
  | .pop => 1
  | .dup2 => 1
  | .dup_x1 => 1
  | .goto _ => 3
  | .getfield _ => 3
  | .putfield _ => 3
  | _ => 0
def za_s1 (fl : List (Nat × Nat × Nat)) (nL pc : Nat) (i : Instr) (lv : List (Nat × za_V)) (st : List za_V) (vw : List (Nat × za_C)) : Option (Nat × List (Nat × za_V) × List za_V × List (Nat × za_C)) := match i with
  | .iconst k0 => some (pc + 1, lv, vI (Int32.ofInt k0) :: st, vw)
  | .bipush k0 => some (pc + 2, lv, vI (Int8.ofInt k0).toInt32 :: st, vw)
  | .sipush k0 => some (pc + 3, lv, vI (Int16.ofInt k0).toInt32 :: st, vw)
  | .lconst k0 => some (pc + 1, lv, vL (Int64.ofNat k0.val) :: st, vw)
  | .aconst_null => some (pc + 1, lv, vN :: st, vw)
  | .iload_n k0 => (match za_lg lv k0.val with | some (.inl x) => some (pc + 1, lv, vI x :: st, vw) | _ => none)
  | .iload k0 => (match za_lg lv k0 with | some (.inl x) => some (pc + 2, lv, vI x :: st, vw) | _ => none)
  | .lload_n k0 => (match za_lg lv k0.val with | some (.inr (.inl x)) => some (pc + 1, lv, vL x :: st, vw) | _ => none)
  | .lload k0 => (match za_lg lv k0 with | some (.inr (.inl x)) => some (pc + 2, lv, vL x :: st, vw) | _ => none)
  | .aload_n k0 => (match za_lg lv k0.val with | some (.inr (.inr x)) => some (pc + 1, lv, .inr (.inr x) :: st, vw) | _ => none)
  | .aload k0 => (match za_lg lv k0 with | some (.inr (.inr x)) => some (pc + 2, lv, .inr (.inr x) :: st, vw) | _ => none)
  | .istore_n k0 => (match st with | .inl x :: r => bif (Nat.blt 0 k0.val && Nat.blt k0.val nL) then some (pc + 1, (k0.val, vI x) :: za_lf lv k0.val, r, vw) else none | _ => none)
  | .istore k0 => (match st with | .inl x :: r => bif (Nat.blt 0 k0 && Nat.blt k0 nL) then some (pc + 2, (k0, vI x) :: za_lf lv k0, r, vw) else none | _ => none)
  | .astore_n k0 => (match st with | .inr (.inr x) :: r => bif (Nat.blt 0 k0.val && Nat.blt k0.val nL) then some (pc + 1, (k0.val, .inr (.inr x)) :: za_lf lv k0.val, r, vw) else none | _ => none)
  | .astore k0 => (match st with | .inr (.inr x) :: r => bif (Nat.blt 0 k0 && Nat.blt k0 nL) then some (pc + 2, (k0, .inr (.inr x)) :: za_lf lv k0, r, vw) else none | _ => none)
  | .iinc k0 d0 => (match za_lg lv k0 with | some (.inl x) => bif (Nat.blt 0 k0 && Nat.blt k0 nL) then some (pc + 3, (k0, vI (x + Int32.ofInt d0)) :: za_lf lv k0, st, vw) else none | _ => none)
  | .iadd => (match st with | .inl y :: .inl x :: r => some (pc + 1, lv, vI (x + y) :: r, vw) | _ => none)
  | .isub => (match st with | .inl y :: .inl x :: r => some (pc + 1, lv, vI (x - y) :: r, vw) | _ => none)
  | .imul => (match st with | .inl y :: .inl x :: r => some (pc + 1, lv, vI (x * y) :: r, vw) | _ => none)
  | .iand => (match st with | .inl y :: .inl x :: r => some (pc + 1, lv, vI (x &&& y) :: r, vw) | _ => none)
  | .ior => (match st with | .inl y :: .inl x :: r => some (pc + 1, lv, vI (x ||| y) :: r, vw) | _ => none)
  | .ixor => (match st with | .inl y :: .inl x :: r => some (pc + 1, lv, vI (x ^^^ y) :: r, vw) | _ => none)
  | .ishl => (match st with | .inl y :: .inl x :: r => some (pc + 1, lv, vI (x <<< (y &&& 31)) :: r, vw) | _ => none)
  | .ishr => (match st with | .inl y :: .inl x :: r => some (pc + 1, lv, vI (x >>> (y &&& 31)) :: r, vw) | _ => none)
  | .ineg => (match st with | .inl x :: r => some (pc + 1, lv, vI (-x) :: r, vw) | _ => none)
  | .ladd => (match st with | .inr (.inl y) :: .inr (.inl x) :: r => some (pc + 1, lv, vL (x + y) :: r, vw) | _ => none)
  | .lsub => (match st with | .inr (.inl y) :: .inr (.inl x) :: r => some (pc + 1, lv, vL (x - y) :: r, vw) | _ => none)
  | .land => (match st with | .inr (.inl y) :: .inr (.inl x) :: r => some (pc + 1, lv, vL (x &&& y) :: r, vw) | _ => none)
  | .lor => (match st with | .inr (.inl y) :: .inr (.inl x) :: r => some (pc + 1, lv, vL (x ||| y) :: r, vw) | _ => none)
  | .lxor => (match st with | .inr (.inl y) :: .inr (.inl x) :: r => some (pc + 1, lv, vL (x ^^^ y) :: r, vw) | _ => none)
  | .lshl => (match st with | .inl y :: .inr (.inl x) :: r => some (pc + 1, lv, vL (x <<< (y.toInt64 &&& 63)) :: r, vw) | _ => none)
  | .lshr => (match st with | .inl y :: .inr (.inl x) :: r => some (pc + 1, lv, vL (x >>> (y.toInt64 &&& 63)) :: r, vw) | _ => none)
  | .lcmp => (match st with | .inr (.inl y) :: .inr (.inl x) :: r => some (pc + 1, lv, vI (lg_cmp x y) :: r, vw) | _ => none)
  | .l2i => (match st with | .inr (.inl x) :: r => some (pc + 1, lv, vI x.toInt32 :: r, vw) | _ => none)
  | .i2l => (match st with | .inl x :: r => some (pc + 1, lv, vL x.toInt64 :: r, vw) | _ => none)
  | .dup => (match st with | x :: r => bif za_c2 x then none else some (pc + 1, lv, x :: x :: r, vw) | _ => none)
  | .pop => (match st with | x :: r => bif za_c2 x then none else some (pc + 1, lv, r, vw) | _ => none)
  | .dup2 => (match st with | x :: y :: r => bif (za_c2 x || za_c2 y) then none else some (pc + 1, lv, x :: y :: x :: y :: r, vw) | _ => none)
  | .dup_x1 => (match st with | x :: y :: r => bif (za_c2 x || za_c2 y) then none else some (pc + 1, lv, x :: y :: x :: r, vw) | _ => none)
  | .goto d0 => (match (pc : Int) + d0 with | .ofNat t => some (t, lv, st, vw) | _ => none)
  | .getfield k0 => (match st with | .inr (.inr (some i)) :: r => (match za_vg vw i with | some cl => (match za_gc fl k0 cl with | some v => some (pc + 3, lv, v :: r, vw) | none => none) | none => none) | _ => none)
  | .putfield k0 => (match st with | v :: .inr (.inr (some i)) :: r => (match za_vg vw i with | some cl => (match za_pf fl k0 cl v with | some cl' => some (pc + 3, lv, r, za_vs vw i cl') | none => none) | none => none) | _ => none)
  | _ => none
section ZAROWS
variable {p : Program} {l : Launch} {e : Env} {R : Room} {s : State} {m : MethodId} {args : Array Value} {below : List Frame} {meth : Method} {c : Code} {D : za_D} {nL : Nat} {Q : State → Prop} {h0 : za_H} {n cells slots pc : Nat} {lv : List (Nat × za_V)} {st : List za_V} {vw : List (Nat × za_C)} {own : String} {cc : ByteArray} {cd : List (Nat × Instr × Nat)} {fl : List (Nat × Nat × Nat)} {ret : Option FieldType}
theorem za_P1 {D : va_G} {cl : List vw_C} {q : Nat × va_E} {H : Heap} (h : va_at D cl q H) : va_P D cl [q] H := by
  intro k x hx
  have hz : k < 1 := (List.getElem?_eq_some_iff.mp hx).1
  rw [show k = 0 by omega] at hx
  cases hx
  exact h
theorem za_getW (X : za_X p s m args meth c D own cc cd fl nL ret) {h : za_H} {H : Heap} {locs : List Loc} {ls : Array Slot} {rest : List Value} (hR : za_Rp D h n H) {i ci k idx : Nat} {fs : List za_V} {v : za_V} (hi : h i = some (.inr (ci, fs))) (hfl : (idx, ci, k) ∈ fl) (hv : fs[k]? = some v) (hd : decode cc pc = .ok (.getfield idx, 3))
    (kk : W p l e R s m args below meth c H locs cells slots Q (F0 m (pc + 3) ls (za_cv D.2.2 v :: rest))) : W p l e R s m args below meth c H locs cells slots Q (F0 m pc ls (.ref (D.2.2 + i) :: rest)) := by
  obtain ⟨hx, hb, hml, hown, hts, hK, hcd, hF, hr, hlocks, hz⟩ := X
  obtain ⟨C, T, N, hc, hk, hC, hlk⟩ := hF _ hfl
  have hok := za_cok _ _ _ _ hc
  have hP : va_P D.1 za_cl [(D.2.2 + i, .inr (ci, fs.map (za_cv D.2.2)))] H := za_P1 (hR.2.1 i _ hi)
  have hv' : (fs.map (za_cv D.2.2))[k]? = some (za_cv D.2.2 v) := by rw [List.getElem?_map, hv]; rfl
  rcases hlk with hlk | ⟨host, hlk⟩
  · exact va_get (ref := C) hx hb hts hok.1 hown hK hP 0 rfl hc k hk (hts _ hlk) (fun x h => by rw [hC] at h; exact h) hv' hd kk
  · exact va_getN (ref := C) hx hb hts hok.1 hown hK hP 0 rfl hc k hk (hts _ hlk) (fun x h => by rw [hC] at h; exact h) hv' hd kk
theorem za_putW (X : za_X p s m args meth c D own cc cd fl nL ret) {h : za_H} {H : Heap} {locs : List Loc} {ls : Array Slot} {rest : List Value} (hR : za_Rp D h n H) (hS : va_S (fun q : Nat => D.2.2 ≤ q) s.heap H locs) {i ci k idx : Nat} {fs : List za_V} {v : za_V} (hi : h i = some (.inr (ci, fs))) (hfl : (idx, ci, k) ∈ fl) (hv : za_okf (za_fty ci k) v = true) (hfin : za_fin ci k = false) (hl : k < fs.length) (hd : decode cc pc = .ok (.putfield idx, 3))
    (kk : ∀ (H1 : Heap) (locs1 : List Loc), za_Rp D (za_set h i (.inr (ci, fs.set k v))) n H1 → va_S (fun q : Nat => D.2.2 ≤ q) s.heap H1 locs1 → W p l e R s m args below meth c H1 locs1 cells slots Q (F0 m (pc + 3) ls rest)) : W p l e R s m args below meth c H locs cells slots Q (F0 m pc ls (za_cv D.2.2 v :: .ref (D.2.2 + i) :: rest)) := by
  obtain ⟨hx, hb, hml, hown, hts, hK, hcd, hF, hr, hlocks, hz⟩ := X
  obtain ⟨C, T, N, hc, hk, hC, hlk⟩ := hF _ hfl
  dsimp only at hc hk hC hlk
  obtain ⟨hin, hty, hnm, hfn⟩ := za_cok _ _ _ _ hc
  have hap := va_apart (own := own) hts hin (za_fty ci) hty hnm hK hc
  have hat : ∃ r : vw_C, za_cl[ci]? = some r ∧ t_OB (D.2.2 + i) (D.1.1 ci) r.2.2 (D.1.2 ci) H (vp_V (fs.map (za_cv D.2.2))) := hR.2.1 i _ hi
  obtain ⟨r, h1, cell, q1, q2, q3, q4⟩ := hat
  have hr' : r = (C, T, N) := Option.some.inj (h1.symm.trans hc)
  subst hr'
  obtain ⟨hSl, hfc, kC, hkC, hkind⟩ := hK.1 ci _ hc
  obtain ⟨cf, kf, fi, f, hif, hsl⟩ := hSl k hk
  have hlay := hts _ (hin _ (u_in_lay hk))
  unfold u_lay at hlay
  rw [if_neg (by rw [hfn k hk, hfin]; decide)] at hlay
  have hst := (u_facts hfc hkC (u_lays hts hin hk) hif).1
  obtain ⟨hn1, hn2⟩ := za_okf_ok hv D.2.2
  have h6 := u_store hfc hkC hkind hlay hif (hty k hk) hn1 hn2
  have hif' : s.fieldFound? C (T k).2.1 (T k).2.2.1 = some (cf, kf, fi, f) := by rw [hC] at hif; exact hif
  have hl' : k < (fs.map (za_cv D.2.2)).length := by rw [List.length_map]; exact hl
  have fin : ∀ H' : Heap, H'[D.2.2 + i]? = some (cell.setSlot f.slot (za_cv D.2.2 v)) → H'.size = H.size → (∀ q, q ≠ D.2.2 + i → H'[q]? = H[q]?) → W p l e R s m args below meth c H' (locs ++ [⟨D.2.2 + i, f.slot⟩]) cells slots Q (F0 m (pc + 3) ls rest) := by
    intro H' e1 e2 e3
    rw [hsl] at e1
    refine kk H' _ (hR.set e2 ?_ e3) (hS.put e2 e3 (Nat.le_add_right _ _))
    have g : t_OB (D.2.2 + i) (D.1.1 ci) N (D.1.2 ci) H' (vp_V ((fs.set k v).map (za_cv D.2.2))) := by
      rw [List.map_set]
      exact t_OB.to (V := updV (vp_V (fs.map (za_cv D.2.2))) k (za_cv D.2.2 v)) ⟨_, e1, q2, q3, t_set q4 hap hk (za_cv D.2.2 v)⟩ (fun j _ => vp_updV_set hl' (za_cv D.2.2 v) j)
    exact ⟨_, hc, g⟩
  rcases hlk with hlk | ⟨host, hlk⟩
  · exact W.putK hx hb (f := f) ⟨hown, hts _ hlk, ⟨_, _, _, hif'⟩, hst⟩ (by rw [q2]; exact h6) q1 q3 (by rw [hsl]; exact k2_hasslot (q4 k hk)) rfl rfl hd fin
  · exact va_WputK hx hb (f := f) hown (hts _ hlk) hif' hst (by rw [q2]; exact h6) q1 q3 (by rw [hsl]; exact k2_hasslot (q4 k hk)) rfl rfl hd fin
end ZAROWS

set_option maxHeartbeats 4000000 in
set_option maxRecDepth 100000 in
/-- ONE STEP of the plain instructions -/
theorem za_step {p : Program} {l : Launch} {e : Env} {R : Room} {s : State} {m : MethodId} {args : Array Value} {below : List Frame} {meth : Method} {c : Code} {D : za_D} {nL : Nat} {Q : State → Prop} {h0 : za_H} {n cells slots pc : Nat} {lv : List (Nat × za_V)} {st : List za_V} {vw : List (Nat × za_C)} {own : String} {cc : ByteArray} {cd : List (Nat × Instr × Nat)} {fl : List (Nat × Nat × Nat)} {ret : Option FieldType} (X : za_X p s m args meth c D own cc cd fl nL ret) {i : Instr} {len : Nat} (hf : za_fe cd pc = some (i, len)) (hln : Nat.beq len (za_ln i) = true) {pc' : Nat} {lv' : List (Nat × za_V)} {st' : List za_V} {vw' : List (Nat × za_C)} (hs : za_s1 fl nL pc i lv st vw = some (pc', lv', st', vw'))
    (k : za_W p l e R s m args below meth c D nL Q h0 n cells slots pc' lv' st' vw') : za_W p l e R s m args below meth c D nL Q h0 n cells slots pc lv st vw := by
  intro H locs ls hR hS hl
  obtain ⟨hx, hb, hml, hown, hts, hK, hcd, hF, hr, hlocks, hz⟩ := id X
  have hd := za_fe_ok hcd hf
  have hle := Nat.eq_of_beq_eq_true hln
  subst hle
  cases i with
  | iconst k0 =>
    have hs2 : some (pc + 1, lv, vI (Int32.ofInt k0) :: st, vw) = some (pc', lv', st', vw') := hs
    cases hs2
    exact lv_iconst hx hb hd rfl (k H locs ls hR hS hl)
  | bipush k0 =>
    have hs2 : some (pc + 2, lv, vI (Int8.ofInt k0).toInt32 :: st, vw) = some (pc', lv', st', vw') := hs
    cases hs2
    exact lv_bipush hx hb hd rfl (k H locs ls hR hS hl)
  | sipush k0 =>
    have hs2 : some (pc + 3, lv, vI (Int16.ofInt k0).toInt32 :: st, vw) = some (pc', lv', st', vw') := hs
    cases hs2
    exact lv_sipush hx hb hd rfl (k H locs ls hR hS hl)
  | lconst k0 =>
    have hs2 : some (pc + 1, lv, vL (Int64.ofNat k0.val) :: st, vw) = some (pc', lv', st', vw') := hs
    cases hs2
    exact lv_lconst hx hb hd rfl (k H locs ls hR hS hl)
  | aconst_null =>
    have hs2 : some (pc + 1, lv, vN :: st, vw) = some (pc', lv', st', vw') := hs
    cases hs2
    exact lv_null hx hb hd (k H locs ls hR hS hl)
  | iload_n k0 =>
    have hs2 : (match (generalizing := false) za_lg lv k0.val with | some (.inl x) => some (pc + 1, lv, vI x :: st, vw) | _ => none) = some (pc', lv', st', vw') := hs
    split at hs2
    · rename_i x he
      cases hs2
      exact lv_iload_n hx hb hd rfl (za_lm_at hl he) (k H locs ls hR hS hl)
    · cases hs2
  | iload k0 =>
    have hs2 : (match (generalizing := false) za_lg lv k0 with | some (.inl x) => some (pc + 2, lv, vI x :: st, vw) | _ => none) = some (pc', lv', st', vw') := hs
    split at hs2
    · rename_i x he
      cases hs2
      exact lv_iload hx hb hd (za_lm_at hl he) (k H locs ls hR hS hl)
    · cases hs2
  | lload_n k0 =>
    have hs2 : (match (generalizing := false) za_lg lv k0.val with | some (.inr (.inl x)) => some (pc + 1, lv, vL x :: st, vw) | _ => none) = some (pc', lv', st', vw') := hs
    split at hs2
    · rename_i x he
      cases hs2
      exact lv_lload_n hx hb hd rfl (za_lm_at hl he) (k H locs ls hR hS hl)
    · cases hs2
  | lload k0 =>
    have hs2 : (match (generalizing := false) za_lg lv k0 with | some (.inr (.inl x)) => some (pc + 2, lv, vL x :: st, vw) | _ => none) = some (pc', lv', st', vw') := hs
    split at hs2
    · rename_i x he
      cases hs2
      exact lv_lload hx hb hd (za_lm_at hl he) (k H locs ls hR hS hl)
    · cases hs2
  | aload_n k0 =>
    have hs2 : (match (generalizing := false) za_lg lv k0.val with | some (.inr (.inr x)) => some (pc + 1, lv, .inr (.inr x) :: st, vw) | _ => none) = some (pc', lv', st', vw') := hs
    split at hs2
    · rename_i x he
      cases hs2
      rcases x with _ | x
      · exact lv_aload_nN hx hb hd rfl (za_lm_at hl he) (k H locs ls hR hS hl)
      · exact lv_aload_n hx hb hd rfl (za_lm_at hl he) (k H locs ls hR hS hl)
    · cases hs2
  | aload k0 =>
    have hs2 : (match (generalizing := false) za_lg lv k0 with | some (.inr (.inr x)) => some (pc + 2, lv, .inr (.inr x) :: st, vw) | _ => none) = some (pc', lv', st', vw') := hs
    split at hs2
    · rename_i x he
      cases hs2
      rcases x with _ | x
      · exact lv_aloadN hx hb hd (za_lm_at hl he) (k H locs ls hR hS hl)
      · exact lv_aload hx hb hd (za_lm_at hl he) (k H locs ls hR hS hl)
    · cases hs2
  | istore_n k0 =>
    have hs2 : (match (generalizing := false) st with | .inl x :: r => bif (Nat.blt 0 k0.val && Nat.blt k0.val nL) then some (pc + 1, (k0.val, vI x) :: za_lf lv k0.val, r, vw) else none | _ => none) = some (pc', lv', st', vw') := hs
    split at hs2
    · rename_i x r
      cases hbn : (Nat.blt 0 k0.val && Nat.blt k0.val nL) with
      | false => rw [hbn] at hs2; cases hs2
      | true =>
        rw [hbn] at hs2
        cases hs2
        have hn0 : 0 < k0.val ∧ k0.val < nL := by simpa using hbn
        have hn := hn0.2
        exact lv_istore_n hx hb hd rfl hl hn rfl (fun ls' hl' => k H locs ls' hR hS (za_lh_sub hl' (za_lm_st hn0.1)))
    · cases hs2
  | istore k0 =>
    have hs2 : (match (generalizing := false) st with | .inl x :: r => bif (Nat.blt 0 k0 && Nat.blt k0 nL) then some (pc + 2, (k0, vI x) :: za_lf lv k0, r, vw) else none | _ => none) = some (pc', lv', st', vw') := hs
    split at hs2
    · rename_i x r
      cases hbn : (Nat.blt 0 k0 && Nat.blt k0 nL) with
      | false => rw [hbn] at hs2; cases hs2
      | true =>
        rw [hbn] at hs2
        cases hs2
        have hn0 : 0 < k0 ∧ k0 < nL := by simpa using hbn
        have hn := hn0.2
        exact lv_istore hx hb hd hl hn rfl (fun ls' hl' => k H locs ls' hR hS (za_lh_sub hl' (za_lm_st hn0.1)))
    · cases hs2
  | astore_n k0 =>
    have hs2 : (match (generalizing := false) st with | .inr (.inr x) :: r => bif (Nat.blt 0 k0.val && Nat.blt k0.val nL) then some (pc + 1, (k0.val, .inr (.inr x)) :: za_lf lv k0.val, r, vw) else none | _ => none) = some (pc', lv', st', vw') := hs
    split at hs2
    · rename_i x r
      cases hbn : (Nat.blt 0 k0.val && Nat.blt k0.val nL) with
      | false => rw [hbn] at hs2; cases hs2
      | true =>
        rw [hbn] at hs2
        cases hs2
        have hn0 : 0 < k0.val ∧ k0.val < nL := by simpa using hbn
        have hn := hn0.2
        rcases x with _ | x
        · exact lv_astore_nN hx hb hd rfl hl hn rfl (fun ls' hl' => k H locs ls' hR hS (za_lh_sub hl' (za_lm_st hn0.1)))
        · exact lv_astore_n hx hb hd rfl hl hn rfl (fun ls' hl' => k H locs ls' hR hS (za_lh_sub hl' (za_lm_st hn0.1)))
    · cases hs2
  | astore k0 =>
    have hs2 : (match (generalizing := false) st with | .inr (.inr x) :: r => bif (Nat.blt 0 k0 && Nat.blt k0 nL) then some (pc + 2, (k0, .inr (.inr x)) :: za_lf lv k0, r, vw) else none | _ => none) = some (pc', lv', st', vw') := hs
    split at hs2
    · rename_i x r
      cases hbn : (Nat.blt 0 k0 && Nat.blt k0 nL) with
      | false => rw [hbn] at hs2; cases hs2
      | true =>
        rw [hbn] at hs2
        cases hs2
        have hn0 : 0 < k0 ∧ k0 < nL := by simpa using hbn
        have hn := hn0.2
        rcases x with _ | x
        · exact lv_astoreN hx hb hd hl hn rfl (fun ls' hl' => k H locs ls' hR hS (za_lh_sub hl' (za_lm_st hn0.1)))
        · exact lv_astore hx hb hd hl hn rfl (fun ls' hl' => k H locs ls' hR hS (za_lh_sub hl' (za_lm_st hn0.1)))
    · cases hs2
  | iinc k0 d0 =>
    have hs2 : (match (generalizing := false) za_lg lv k0 with | some (.inl x) => bif (Nat.blt 0 k0 && Nat.blt k0 nL) then some (pc + 3, (k0, vI (x + Int32.ofInt d0)) :: za_lf lv k0, st, vw) else none | _ => none) = some (pc', lv', st', vw') := hs
    split at hs2
    · rename_i x he
      cases hbn : (Nat.blt 0 k0 && Nat.blt k0 nL) with
      | false => rw [hbn] at hs2; cases hs2
      | true =>
        rw [hbn] at hs2
        cases hs2
        have hn0 : 0 < k0 ∧ k0 < nL := by simpa using hbn
        have hn := hn0.2
        obtain ⟨j, hj⟩ := List.getElem?_of_mem (show (k0, Value.int x) ∈ za_lx args D.2.2 ++ za_lm D.2.2 lv from List.mem_append_right _ (List.mem_map.mpr ⟨(k0, vI x), za_lg_mem he, rfl⟩))
        exact lv_iinc hx hb hd hl hj rfl hn rfl (fun ls' hl' => k H locs ls' hR hS (za_lh_sub hl' (za_lm_st hn0.1)))
    · cases hs2
  | iadd =>
    have hs2 : (match (generalizing := false) st with | .inl y :: .inl x :: r => some (pc + 1, lv, vI (x + y) :: r, vw) | _ => none) = some (pc', lv', st', vw') := hs
    split at hs2
    · rename_i y x r
      cases hs2
      exact lv_iadd hx hb hd (k H locs ls hR hS hl)
    · cases hs2
  | isub =>
    have hs2 : (match (generalizing := false) st with | .inl y :: .inl x :: r => some (pc + 1, lv, vI (x - y) :: r, vw) | _ => none) = some (pc', lv', st', vw') := hs
    split at hs2
    · rename_i y x r
      cases hs2
      exact lv_isub hx hb hd (k H locs ls hR hS hl)
    · cases hs2
  | imul =>
    have hs2 : (match (generalizing := false) st with | .inl y :: .inl x :: r => some (pc + 1, lv, vI (x * y) :: r, vw) | _ => none) = some (pc', lv', st', vw') := hs
    split at hs2
    · rename_i y x r
      cases hs2
      exact lv_imul hx hb hd (k H locs ls hR hS hl)
    · cases hs2
  | iand =>
    have hs2 : (match (generalizing := false) st with | .inl y :: .inl x :: r => some (pc + 1, lv, vI (x &&& y) :: r, vw) | _ => none) = some (pc', lv', st', vw') := hs
    split at hs2
    · rename_i y x r
      cases hs2
      exact lv_iand hx hb hd (k H locs ls hR hS hl)
    · cases hs2
  | ior =>
    have hs2 : (match (generalizing := false) st with | .inl y :: .inl x :: r => some (pc + 1, lv, vI (x ||| y) :: r, vw) | _ => none) = some (pc', lv', st', vw') := hs
    split at hs2
    · rename_i y x r
      cases hs2
      exact lv_ior hx hb hd (k H locs ls hR hS hl)
    · cases hs2
  | ixor =>
    have hs2 : (match (generalizing := false) st with | .inl y :: .inl x :: r => some (pc + 1, lv, vI (x ^^^ y) :: r, vw) | _ => none) = some (pc', lv', st', vw') := hs
    split at hs2
    · rename_i y x r
      cases hs2
      exact lv_ixor hx hb hd (k H locs ls hR hS hl)
    · cases hs2
  | ishl =>
    have hs2 : (match (generalizing := false) st with | .inl y :: .inl x :: r => some (pc + 1, lv, vI (x <<< (y &&& 31)) :: r, vw) | _ => none) = some (pc', lv', st', vw') := hs
    split at hs2
    · rename_i y x r
      cases hs2
      exact lv_ishl hx hb hd (k H locs ls hR hS hl)
    · cases hs2
  | ishr =>
    have hs2 : (match (generalizing := false) st with | .inl y :: .inl x :: r => some (pc + 1, lv, vI (x >>> (y &&& 31)) :: r, vw) | _ => none) = some (pc', lv', st', vw') := hs
    split at hs2
    · rename_i y x r
      cases hs2
      exact lv_ishr hx hb hd (k H locs ls hR hS hl)
    · cases hs2
  | ineg =>
    have hs2 : (match (generalizing := false) st with | .inl x :: r => some (pc + 1, lv, vI (-x) :: r, vw) | _ => none) = some (pc', lv', st', vw') := hs
    split at hs2
    · rename_i x r
      cases hs2
      exact lv_ineg hx hb hd (k H locs ls hR hS hl)
    · cases hs2
  | ladd =>
    have hs2 : (match (generalizing := false) st with | .inr (.inl y) :: .inr (.inl x) :: r => some (pc + 1, lv, vL (x + y) :: r, vw) | _ => none) = some (pc', lv', st', vw') := hs
    split at hs2
    · rename_i y x r
      cases hs2
      exact lv_ladd hx hb hd (k H locs ls hR hS hl)
    · cases hs2
  | lsub =>
    have hs2 : (match (generalizing := false) st with | .inr (.inl y) :: .inr (.inl x) :: r => some (pc + 1, lv, vL (x - y) :: r, vw) | _ => none) = some (pc', lv', st', vw') := hs
    split at hs2
    · rename_i y x r
      cases hs2
      exact lv_lsub hx hb hd (k H locs ls hR hS hl)
    · cases hs2
  | land =>
    have hs2 : (match (generalizing := false) st with | .inr (.inl y) :: .inr (.inl x) :: r => some (pc + 1, lv, vL (x &&& y) :: r, vw) | _ => none) = some (pc', lv', st', vw') := hs
    split at hs2
    · rename_i y x r
      cases hs2
      exact lv_land hx hb hd (k H locs ls hR hS hl)
    · cases hs2
  | lor =>
    have hs2 : (match (generalizing := false) st with | .inr (.inl y) :: .inr (.inl x) :: r => some (pc + 1, lv, vL (x ||| y) :: r, vw) | _ => none) = some (pc', lv', st', vw') := hs
    split at hs2
    · rename_i y x r
      cases hs2
      exact lv_lor hx hb hd (k H locs ls hR hS hl)
    · cases hs2
  | lxor =>
    have hs2 : (match (generalizing := false) st with | .inr (.inl y) :: .inr (.inl x) :: r => some (pc + 1, lv, vL (x ^^^ y) :: r, vw) | _ => none) = some (pc', lv', st', vw') := hs
    split at hs2
    · rename_i y x r
      cases hs2
      exact lv_lxor hx hb hd (k H locs ls hR hS hl)
    · cases hs2
  | lshl =>
    have hs2 : (match (generalizing := false) st with | .inl y :: .inr (.inl x) :: r => some (pc + 1, lv, vL (x <<< (y.toInt64 &&& 63)) :: r, vw) | _ => none) = some (pc', lv', st', vw') := hs
    split at hs2
    · rename_i y x r
      cases hs2
      exact lv_lshl hx hb hd rfl (k H locs ls hR hS hl)
    · cases hs2
  | lshr =>
    have hs2 : (match (generalizing := false) st with | .inl y :: .inr (.inl x) :: r => some (pc + 1, lv, vL (x >>> (y.toInt64 &&& 63)) :: r, vw) | _ => none) = some (pc', lv', st', vw') := hs
    split at hs2
    · rename_i y x r
      cases hs2
      exact lv_lshr hx hb hd rfl (k H locs ls hR hS hl)
    · cases hs2
  | lcmp =>
    have hs2 : (match (generalizing := false) st with | .inr (.inl y) :: .inr (.inl x) :: r => some (pc + 1, lv, vI (lg_cmp x y) :: r, vw) | _ => none) = some (pc', lv', st', vw') := hs
    split at hs2
    · rename_i y x r
      cases hs2
      exact W.lcmp hx hb hd (k H locs ls hR hS hl)
    · cases hs2
  | l2i =>
    have hs2 : (match (generalizing := false) st with | .inr (.inl x) :: r => some (pc + 1, lv, vI x.toInt32 :: r, vw) | _ => none) = some (pc', lv', st', vw') := hs
    split at hs2
    · rename_i x r
      cases hs2
      exact lv_l2i hx hb hd rfl (k H locs ls hR hS hl)
    · cases hs2
  | i2l =>
    have hs2 : (match (generalizing := false) st with | .inl x :: r => some (pc + 1, lv, vL x.toInt64 :: r, vw) | _ => none) = some (pc', lv', st', vw') := hs
    split at hs2
    · rename_i x r
      cases hs2
      exact lv_i2l hx hb hd rfl (k H locs ls hR hS hl)
    · cases hs2
  | dup =>
    have hs2 : (match (generalizing := false) st with | x :: r => bif za_c2 x then none else some (pc + 1, lv, x :: x :: r, vw) | _ => none) = some (pc', lv', st', vw') := hs
    split at hs2
    · rename_i x r
      cases hc : za_c2 x with
      | true => rw [hc] at hs2; cases hs2
      | false =>
        rw [hc] at hs2
        cases hs2
        exact lv_dup hx hb hd (za_cat1 hc) (k H locs ls hR hS hl)
    · cases hs2
  | pop =>
    have hs2 : (match (generalizing := false) st with | x :: r => bif za_c2 x then none else some (pc + 1, lv, r, vw) | _ => none) = some (pc', lv', st', vw') := hs
    split at hs2
    · rename_i x r
      cases hc : za_c2 x with
      | true => rw [hc] at hs2; cases hs2
      | false =>
        rw [hc] at hs2
        cases hs2
        exact lv_pop hx hb hd (za_cat1 hc) (k H locs ls hR hS hl)
    · cases hs2
  | dup2 =>
    have hs2 : (match (generalizing := false) st with | x :: y :: r => bif (za_c2 x || za_c2 y) then none else some (pc + 1, lv, x :: y :: x :: y :: r, vw) | _ => none) = some (pc', lv', st', vw') := hs
    split at hs2
    · rename_i x y r
      cases hc : (za_c2 x || za_c2 y) with
      | true => rw [hc] at hs2; cases hs2
      | false =>
        rw [hc] at hs2
        cases hs2
        rw [Bool.or_eq_false_iff] at hc
        exact lv_dup2_11 hx hb hd (za_cat1 hc.1) (za_cat1 hc.2) (k H locs ls hR hS hl)
    · cases hs2
  | dup_x1 =>
    have hs2 : (match (generalizing := false) st with | x :: y :: r => bif (za_c2 x || za_c2 y) then none else some (pc + 1, lv, x :: y :: x :: r, vw) | _ => none) = some (pc', lv', st', vw') := hs
    split at hs2
    · rename_i x y r
      cases hc : (za_c2 x || za_c2 y) with
      | true => rw [hc] at hs2; cases hs2
      | false =>
        rw [hc] at hs2
        cases hs2
        rw [Bool.or_eq_false_iff] at hc
        exact lv_dup_x1 hx hb hd (za_cat1 hc.1) (za_cat1 hc.2) (k H locs ls hR hS hl)
    · cases hs2
  | goto d0 =>
    have hs2 : (match (generalizing := false) (pc : Int) + d0 with | .ofNat t => some (t, lv, st, vw) | _ => none) = some (pc', lv', st', vw') := hs
    split at hs2
    · rename_i t he
      cases hs2
      exact lv_goto hx hb hd he (k H locs ls hR hS hl)
    · cases hs2
  | getfield k0 =>
    have hs2 : (match (generalizing := false) st with | .inr (.inr (some i)) :: r => (match (generalizing := false) za_vg vw i with | some cl => (match (generalizing := false) za_gc fl k0 cl with | some v => some (pc + 3, lv, v :: r, vw) | none => none) | none => none) | _ => none) = some (pc', lv', st', vw') := hs
    split at hs2
    · rename_i j r
      split at hs2
      · rename_i cl hcl
        split at hs2
        · rename_i v hv
          cases hs2
          obtain ⟨ci, k1, fs, rfl, h1, h2⟩ := za_gc_ok hv
          exact za_getW X hR (za_ov_at hcl) h1 h2 hd (k H locs ls hR hS hl)
        · cases hs2
      · cases hs2
    · cases hs2
  | putfield k0 =>
    have hs2 : (match (generalizing := false) st with | v :: .inr (.inr (some i)) :: r => (match (generalizing := false) za_vg vw i with | some cl => (match (generalizing := false) za_pf fl k0 cl v with | some cl' => some (pc + 3, lv, r, za_vs vw i cl') | none => none) | none => none) | _ => none) = some (pc', lv', st', vw') := hs
    split at hs2
    · rename_i v j r
      split at hs2
      · rename_i cl hcl
        split at hs2
        · rename_i cl' hv
          cases hs2
          obtain ⟨ci, k1, fs, rfl, h1, h2, h3, h4, rfl⟩ := za_pf_ok hv
          exact za_putW X hR hS (za_ov_at hcl) h1 h2 h3 h4 hd (fun H1 locs1 hR1 hS1 => k H1 locs1 ls (by rw [za_ov_vs]; exact hR1) hS1 hl)
        · cases hs2
      · cases hs2
    · cases hs2
  | _ => cases hs
section ZABR
variable {p : Program} {l : Launch} {e : Env} {R : Room} {s : State} {m : MethodId} {args : Array Value} {below : List Frame} {meth : Method} {c : Code} {D : za_D} {nL : Nat} {Q : State → Prop} {h0 : za_H} {n cells slots pc : Nat} {lv : List (Nat × za_V)} {st : List za_V} {vw : List (Nat × za_C)} {own : String} {cc : ByteArray} {cd : List (Nat × Instr × Nat)} {fl : List (Nat × Nat × Nat)} {ret : Option FieldType}
theorem za_ifeq (X : za_X p s m args meth c D own cc cd fl nL ret) {x : Int32} {off : Int} (tgt : Nat) (hf : za_fe cd pc = some (.ifCond .eq off, 3)) (ht : (pc : Int) + off = (tgt : Int)) (kt : x = 0 → za_W p l e R s m args below meth c D nL Q h0 n cells slots tgt lv st vw) (kf : ¬ (x = 0) → za_W p l e R s m args below meth c D nL Q h0 n cells slots (pc + 3) lv st vw) : za_W p l e R s m args below meth c D nL Q h0 n cells slots pc lv (.inl x :: st) vw := by
  intro H locs ls hR hS hl
  exact lv_if_eq X.1 X.2.1 (za_fe_ok X.2.2.2.2.2.2.1 hf) ht (fun q => kt (by first | exact q | simpa using q) H locs ls hR hS hl) (fun q => kf (by first | exact q | simpa using q) H locs ls hR hS hl)
theorem za_ifne (X : za_X p s m args meth c D own cc cd fl nL ret) {x : Int32} {off : Int} (tgt : Nat) (hf : za_fe cd pc = some (.ifCond .ne off, 3)) (ht : (pc : Int) + off = (tgt : Int)) (kt : ¬ x = 0 → za_W p l e R s m args below meth c D nL Q h0 n cells slots tgt lv st vw) (kf : x = 0 → za_W p l e R s m args below meth c D nL Q h0 n cells slots (pc + 3) lv st vw) : za_W p l e R s m args below meth c D nL Q h0 n cells slots pc lv (.inl x :: st) vw := by
  intro H locs ls hR hS hl
  exact lv_if_ne X.1 X.2.1 (za_fe_ok X.2.2.2.2.2.2.1 hf) ht (fun q => kt (by first | exact q | simpa using q) H locs ls hR hS hl) (fun q => kf (by first | exact q | simpa using q) H locs ls hR hS hl)
theorem za_iflt (X : za_X p s m args meth c D own cc cd fl nL ret) {x : Int32} {off : Int} (tgt : Nat) (hf : za_fe cd pc = some (.ifCond .lt off, 3)) (ht : (pc : Int) + off = (tgt : Int)) (kt : x < 0 → za_W p l e R s m args below meth c D nL Q h0 n cells slots tgt lv st vw) (kf : ¬ (x < 0) → za_W p l e R s m args below meth c D nL Q h0 n cells slots (pc + 3) lv st vw) : za_W p l e R s m args below meth c D nL Q h0 n cells slots pc lv (.inl x :: st) vw := by
  intro H locs ls hR hS hl
  exact lv_if_lt X.1 X.2.1 (za_fe_ok X.2.2.2.2.2.2.1 hf) ht (fun q => kt (by first | exact q | simpa using q) H locs ls hR hS hl) (fun q => kf (by first | exact q | simpa using q) H locs ls hR hS hl)
theorem za_ifge (X : za_X p s m args meth c D own cc cd fl nL ret) {x : Int32} {off : Int} (tgt : Nat) (hf : za_fe cd pc = some (.ifCond .ge off, 3)) (ht : (pc : Int) + off = (tgt : Int)) (kt : 0 ≤ x → za_W p l e R s m args below meth c D nL Q h0 n cells slots tgt lv st vw) (kf : ¬ (0 ≤ x) → za_W p l e R s m args below meth c D nL Q h0 n cells slots (pc + 3) lv st vw) : za_W p l e R s m args below meth c D nL Q h0 n cells slots pc lv (.inl x :: st) vw := by
  intro H locs ls hR hS hl
  exact lv_if_ge X.1 X.2.1 (za_fe_ok X.2.2.2.2.2.2.1 hf) ht (fun q => kt (by first | exact q | simpa using q) H locs ls hR hS hl) (fun q => kf (by first | exact q | simpa using q) H locs ls hR hS hl)
theorem za_ifgt (X : za_X p s m args meth c D own cc cd fl nL ret) {x : Int32} {off : Int} (tgt : Nat) (hf : za_fe cd pc = some (.ifCond .gt off, 3)) (ht : (pc : Int) + off = (tgt : Int)) (kt : 0 < x → za_W p l e R s m args below meth c D nL Q h0 n cells slots tgt lv st vw) (kf : ¬ (0 < x) → za_W p l e R s m args below meth c D nL Q h0 n cells slots (pc + 3) lv st vw) : za_W p l e R s m args below meth c D nL Q h0 n cells slots pc lv (.inl x :: st) vw := by
  intro H locs ls hR hS hl
  exact lv_if_gt X.1 X.2.1 (za_fe_ok X.2.2.2.2.2.2.1 hf) ht (fun q => kt (by first | exact q | simpa using q) H locs ls hR hS hl) (fun q => kf (by first | exact q | simpa using q) H locs ls hR hS hl)
theorem za_ifle (X : za_X p s m args meth c D own cc cd fl nL ret) {x : Int32} {off : Int} (tgt : Nat) (hf : za_fe cd pc = some (.ifCond .le off, 3)) (ht : (pc : Int) + off = (tgt : Int)) (kt : x ≤ 0 → za_W p l e R s m args below meth c D nL Q h0 n cells slots tgt lv st vw) (kf : ¬ (x ≤ 0) → za_W p l e R s m args below meth c D nL Q h0 n cells slots (pc + 3) lv st vw) : za_W p l e R s m args below meth c D nL Q h0 n cells slots pc lv (.inl x :: st) vw := by
  intro H locs ls hR hS hl
  exact lv_if_le X.1 X.2.1 (za_fe_ok X.2.2.2.2.2.2.1 hf) ht (fun q => kt (by first | exact q | simpa using q) H locs ls hR hS hl) (fun q => kf (by first | exact q | simpa using q) H locs ls hR hS hl)
theorem za_iceq (X : za_X p s m args meth c D own cc cd fl nL ret) {x y : Int32} {off : Int} (tgt : Nat) (hf : za_fe cd pc = some (.if_icmp .eq off, 3)) (ht : (pc : Int) + off = (tgt : Int)) (kt : x = y → za_W p l e R s m args below meth c D nL Q h0 n cells slots tgt lv st vw) (kf : ¬ (x = y) → za_W p l e R s m args below meth c D nL Q h0 n cells slots (pc + 3) lv st vw) : za_W p l e R s m args below meth c D nL Q h0 n cells slots pc lv (.inl y :: .inl x :: st) vw := by
  intro H locs ls hR hS hl
  exact lv_icmp_eq X.1 X.2.1 (za_fe_ok X.2.2.2.2.2.2.1 hf) ht (fun q => kt (by first | exact q | simpa using q) H locs ls hR hS hl) (fun q => kf (by first | exact q | simpa using q) H locs ls hR hS hl)
theorem za_icne (X : za_X p s m args meth c D own cc cd fl nL ret) {x y : Int32} {off : Int} (tgt : Nat) (hf : za_fe cd pc = some (.if_icmp .ne off, 3)) (ht : (pc : Int) + off = (tgt : Int)) (kt : ¬ x = y → za_W p l e R s m args below meth c D nL Q h0 n cells slots tgt lv st vw) (kf : x = y → za_W p l e R s m args below meth c D nL Q h0 n cells slots (pc + 3) lv st vw) : za_W p l e R s m args below meth c D nL Q h0 n cells slots pc lv (.inl y :: .inl x :: st) vw := by
  intro H locs ls hR hS hl
  exact lv_icmp_ne X.1 X.2.1 (za_fe_ok X.2.2.2.2.2.2.1 hf) ht (fun q => kt (by first | exact q | simpa using q) H locs ls hR hS hl) (fun q => kf (by first | exact q | simpa using q) H locs ls hR hS hl)
theorem za_iclt (X : za_X p s m args meth c D own cc cd fl nL ret) {x y : Int32} {off : Int} (tgt : Nat) (hf : za_fe cd pc = some (.if_icmp .lt off, 3)) (ht : (pc : Int) + off = (tgt : Int)) (kt : x < y → za_W p l e R s m args below meth c D nL Q h0 n cells slots tgt lv st vw) (kf : ¬ (x < y) → za_W p l e R s m args below meth c D nL Q h0 n cells slots (pc + 3) lv st vw) : za_W p l e R s m args below meth c D nL Q h0 n cells slots pc lv (.inl y :: .inl x :: st) vw := by
  intro H locs ls hR hS hl
  exact lv_icmp_lt X.1 X.2.1 (za_fe_ok X.2.2.2.2.2.2.1 hf) ht (fun q => kt (by first | exact q | simpa using q) H locs ls hR hS hl) (fun q => kf (by first | exact q | simpa using q) H locs ls hR hS hl)
theorem za_icge (X : za_X p s m args meth c D own cc cd fl nL ret) {x y : Int32} {off : Int} (tgt : Nat) (hf : za_fe cd pc = some (.if_icmp .ge off, 3)) (ht : (pc : Int) + off = (tgt : Int)) (kt : y ≤ x → za_W p l e R s m args below meth c D nL Q h0 n cells slots tgt lv st vw) (kf : ¬ (y ≤ x) → za_W p l e R s m args below meth c D nL Q h0 n cells slots (pc + 3) lv st vw) : za_W p l e R s m args below meth c D nL Q h0 n cells slots pc lv (.inl y :: .inl x :: st) vw := by
  intro H locs ls hR hS hl
  exact lv_icmp_ge X.1 X.2.1 (za_fe_ok X.2.2.2.2.2.2.1 hf) ht (fun q => kt (by first | exact q | simpa using q) H locs ls hR hS hl) (fun q => kf (by first | exact q | simpa using q) H locs ls hR hS hl)
theorem za_icgt (X : za_X p s m args meth c D own cc cd fl nL ret) {x y : Int32} {off : Int} (tgt : Nat) (hf : za_fe cd pc = some (.if_icmp .gt off, 3)) (ht : (pc : Int) + off = (tgt : Int)) (kt : y < x → za_W p l e R s m args below meth c D nL Q h0 n cells slots tgt lv st vw) (kf : ¬ (y < x) → za_W p l e R s m args below meth c D nL Q h0 n cells slots (pc + 3) lv st vw) : za_W p l e R s m args below meth c D nL Q h0 n cells slots pc lv (.inl y :: .inl x :: st) vw := by
  intro H locs ls hR hS hl
  exact lv_icmp_gt X.1 X.2.1 (za_fe_ok X.2.2.2.2.2.2.1 hf) ht (fun q => kt (by first | exact q | simpa using q) H locs ls hR hS hl) (fun q => kf (by first | exact q | simpa using q) H locs ls hR hS hl)
theorem za_icle (X : za_X p s m args meth c D own cc cd fl nL ret) {x y : Int32} {off : Int} (tgt : Nat) (hf : za_fe cd pc = some (.if_icmp .le off, 3)) (ht : (pc : Int) + off = (tgt : Int)) (kt : x ≤ y → za_W p l e R s m args below meth c D nL Q h0 n cells slots tgt lv st vw) (kf : ¬ (x ≤ y) → za_W p l e R s m args below meth c D nL Q h0 n cells slots (pc + 3) lv st vw) : za_W p l e R s m args below meth c D nL Q h0 n cells slots pc lv (.inl y :: .inl x :: st) vw := by
  intro H locs ls hR hS hl
  exact lv_icmp_le X.1 X.2.1 (za_fe_ok X.2.2.2.2.2.2.1 hf) ht (fun q => kt (by first | exact q | simpa using q) H locs ls hR hS hl) (fun q => kf (by first | exact q | simpa using q) H locs ls hR hS hl)
/-- a switch by a table, the number known -/
theorem za_tsw (X : za_X p s m args meth c D own cc cd fl nL ret) {x : Int32} {dflt lo hi : Int} {offs : Array Int} {len : Nat} {off : Int} (v : Int) (tgt : Nat) (hf : za_fe cd pc = some (.tableswitch dflt lo hi offs, len)) (hx : x.toInt = v) (h1 : ¬ v < lo) (h2 : ¬ hi < v) (ho : offs[(v - lo).toNat]? = some off) (ht : (pc : Int) + off = (tgt : Int)) (kk : za_W p l e R s m args below meth c D nL Q h0 n cells slots tgt lv st vw) : za_W p l e R s m args below meth c D nL Q h0 n cells slots pc lv (.inl x :: st) vw := by
  intro H locs ls hR hS hl
  subst hx
  exact lv_tableIn X.1 X.2.1 (za_fe_ok X.2.2.2.2.2.2.1 hf) h1 h2 ho ht (kk H locs ls hR hS hl)
theorem za_tsd (X : za_X p s m args meth c D own cc cd fl nL ret) {x : Int32} {dflt lo hi : Int} {offs : Array Int} {len : Nat} (tgt : Nat) (hf : za_fe cd pc = some (.tableswitch dflt lo hi offs, len)) (h : x.toInt < lo ∨ hi < x.toInt) (ht : (pc : Int) + dflt = (tgt : Int)) (kk : za_W p l e R s m args below meth c D nL Q h0 n cells slots tgt lv st vw) : za_W p l e R s m args below meth c D nL Q h0 n cells slots pc lv (.inl x :: st) vw := by
  intro H locs ls hR hS hl
  exact lv_tableOut X.1 X.2.1 (za_fe_ok X.2.2.2.2.2.2.1 hf) h ht (kk H locs ls hR hS hl)
theorem za_idiv (X : za_X p s m args meth c D own cc cd fl nL ret) {x y : Int32} (hf : za_fe cd pc = some (.idiv, 1)) (hne : ¬ y = 0) (kk : za_W p l e R s m args below meth c D nL Q h0 n cells slots (pc + 1) lv (vI (x / y) :: st) vw) : za_W p l e R s m args below meth c D nL Q h0 n cells slots pc lv (.inl y :: .inl x :: st) vw := by
  intro H locs ls hR hS hl
  exact lv_idiv X.1 X.2.1 (za_fe_ok X.2.2.2.2.2.2.1 hf) hne (kk H locs ls hR hS hl)
/-- the same heap seen through another list -/
theorem za_look {h1 : za_H} {v1 : List (Nat × za_C)} (he : za_ov h1 v1 = za_ov h0 vw) (kk : za_W p l e R s m args below meth c D nL Q h1 n cells slots pc lv st v1) : za_W p l e R s m args below meth c D nL Q h0 n cells slots pc lv st vw := by
  intro H locs ls hR hS hl
  exact kk H locs ls (by rw [he]; exact hR) hS hl
/-- take a list to look through -/
theorem za_view (v1 : List (Nat × za_C)) (he : ∀ q ∈ v1, h0 q.1 = some q.2) (kk : za_W p l e R s m args below meth c D nL Q h0 n cells slots pc lv st v1) : za_W p l e R s m args below meth c D nL Q h0 n cells slots pc lv st [] := za_look (by rw [za_ov_same he]; rfl) kk
/-- put the list away -/
theorem za_away (kk : za_W p l e R s m args below meth c D nL Q (za_ov h0 vw) n cells slots pc lv st []) : za_W p l e R s m args below meth c D nL Q h0 n cells slots pc lv st vw := za_look rfl kk
/-- fewer locals, in another order -/
theorem za_loc (lv1 : List (Nat × za_V)) (he : lv1.map (fun q => za_lg lv q.1) = lv1.map (fun q => some q.2)) (kk : za_W p l e R s m args below meth c D nL Q h0 n cells slots pc lv1 st vw) : za_W p l e R s m args below meth c D nL Q h0 n cells slots pc lv st vw := by
  intro H locs ls hR hS hl
  refine kk H locs ls hR hS (za_lh_sub hl fun q hq => ?_)
  rcases List.mem_append.mp hq with hq | hq
  · exact List.mem_append_left _ hq
  obtain ⟨r, hr, rfl⟩ := List.mem_map.mp hq
  have h2 : ∀ q ∈ lv1, za_lg lv q.1 = some q.2 := List.map_inj_left.mp he
  exact List.mem_append_right _ (List.mem_map.mpr ⟨r, za_lg_mem (h2 r hr), rfl⟩)
theorem za_wid {k1 k2 : Nat} (h1 : cells ≤ k1) (h2 : slots ≤ k2) (kk : za_W p l e R s m args below meth c D nL Q h0 n k1 k2 pc lv st vw) : za_W p l e R s m args below meth c D nL Q h0 n cells slots pc lv st vw := by
  intro H locs ls hR hS hl
  exact W.widen h1 h2 (kk H locs ls hR hS hl)
end ZABR
end
section
/-! CONTRACTS over the whole picture. A method: its name, bytes, locals, what it returns -/
abbrev za_Y : Type := MethodName × ByteArray × Nat × Option FieldType
def za_Q (D : za_D) (Post : Option za_V → za_H → Nat → Prop) : Array Value → State → Outcome → State → Prop := fun _ st o t => ∃ (v : Option za_V) (h' : za_H) (n' : Nat), o = .returned (v.map (za_cv D.2.2)) ∧ Post v h' n' ∧ za_Rp D h' n' t.heap ∧ va_F (fun q : Nat => D.2.2 ≤ q) st t
def za_P (D : za_D) (av : List za_V) (h : za_H) (n : Nat) : Array Value → State → Prop := va_Pc (av.map (za_cv D.2.2)) (fun U => za_Rp D h n U.heap ∧ va_K D.1 za_cl (za_tys D) U)
def za_rm (d mc ms : Nat) : Room := { frames := d, cells := mc, slots := ms, locals := 40 * d }
def za_ws (Y : za_Y) : List Cond := Cond.code Y.1 Y.2.1 Y.2.2.1 Y.2.2.2 :: za_tt
/-- CONTRACT: called with av at the picture h of n cells, Y returns, and what it returns and leaves is as Post says; d: calls open at once below it; at most mc new cells of ms slots -/
def za_M (l : Launch) (D : za_D) (Y : za_Y) (d mc ms : Nat) (av : List za_V) (h : za_H) (n : Nat) (Post : Option za_V → za_H → Nat → Prop) : Prop :=
  Met l Y.1 (za_ws Y) (za_rm d mc ms) (za_P D av h n) (za_Q D Post) mc ms (fun q : Nat => D.2.2 ≤ q)
theorem za_blind (D : za_D) (av : List za_V) (h : za_H) (n : Nat) : FrameBlind (za_P D av h n) := fun a U g mk q => ⟨q.1, q.2.1, va_K.moved (u := U) (U := U.calling g mk a) (Vm.Alike.refl U.vm) q.2.2⟩
def za_ar : Nat → List za_V → List (Nat × za_V)
  | _, [] => []
  | i, v :: t => (i, v) :: za_ar (bif za_c2 v then i + 2 else i + 1) t
theorem za_ar_eq (z : Nat) (av : List za_V) : ∀ i : Nat, za_lm z (za_ar i av) = lv_args i (av.map (za_cv z)) := by
  induction av with
  | nil => intro i; rfl
  | cons v t ih =>
    intro i
    show (i, za_cv z v) :: za_lm z (za_ar (bif za_c2 v then i + 2 else i + 1) t) = (i, za_cv z v) :: lv_args (if (za_cv z v).category = 2 then i + 2 else i + 1) (t.map (za_cv z))
    rw [ih, za_cat]
    cases za_c2 v <;> rfl
set_option maxHeartbeats 1000000 in
/-- a contract out of a walk from the entry -/
theorem za_enter {l : Launch} {D : za_D} {Y : za_Y} {d mc ms n : Nat} {av : List za_V} {h : za_H} {Post : Option za_V → za_H → Nat → Prop} (cd : List (Nat × Instr × Nat)) (fl : List (Nat × Nat × Nat)) (hy : plainName Y.1.cls = true) (hcd : ∀ q ∈ cd, decode Y.2.1 q.1 = .ok q.2) (hfl : ∀ q ∈ fl, za_FL Y.1.cls q) (hlen : (lg_sl (av.map (za_cv D.2.2))).length ≤ Y.2.2.1)
    (body : ∀ (p : Program) (e : Env) (s : State) (m : MethodId) (args : Array Value) (below : List Frame) (meth : Method) (c : Code), za_X p s m args meth c D Y.1.cls Y.2.1 cd fl Y.2.2.1 Y.2.2.2 → meth.name = Y.1.name →
      za_W p l e (za_rm d mc ms) s m args below meth c D Y.2.2.1 (MQ below (za_Q D Post) args s mc ms (fun q : Nat => D.2.2 ≤ q)) h n 0 0 0 (za_ar 0 av) [] []) : za_M l D Y d mc ms av h n Post := by
  unfold za_M
  refine Met.ofW (cc := Y.2.1) (maxL := Y.2.2.1) (ret := Y.2.2.2) hy rfl ?_
  intro p e s m args below meth c s₁ B hml hv
  obtain ⟨rfl, hR, hK⟩ := hv
  have hts := atoms_spec (ws := za_ws Y) B.pre
  have hl := lv_entry (av.map (za_cv D.2.2)) (n := Y.2.2.1) hlen
  rw [lg_entry_eq]
  refine body p e s m _ below meth c ⟨B.exec, B.bytes, hml, findClass_of_methodNamed B.named, fun w hw => hts w (List.mem_cons_of_mem _ hw), hK, hcd, hfl, B.returns, B.notSynchronized, by rw [hR.1]; exact Nat.le_add_right _ _⟩ (name_of_methodNamed B.named B.method).1 s.heap [] _ hR va_S.rf ?_
  show lv_has _ _ (za_lx _ _ ++ _)
  rw [za_lx_0, List.nil_append, za_ar_eq]
  exact hl

section ZAEND
variable {p : Program} {l : Launch} {e : Env} {R : Room} {s : State} {m : MethodId} {args : Array Value} {below : List Frame} {meth : Method} {c : Code} {D : za_D} {nL : Nat} {Q : State → Prop} {h0 : za_H} {n cells slots pc : Nat} {lv : List (Nat × za_V)} {st : List za_V} {vw : List (Nat × za_C)} {own : String} {cc : ByteArray} {cd : List (Nat × Instr × Nat)} {fl : List (Nat × Nat × Nat)} {ret : Option FieldType} {mc ms : Nat} {Post : Option za_V → za_H → Nat → Prop}
theorem za_iret (X : za_X p s m args meth c D own cc cd fl nL (some .int)) {x : Int32} (hf : za_fe cd pc = some (.ireturn, 1)) (hp : Post (some (vI x)) (za_ov h0 vw) n) (hc : cells ≤ mc) (hs : slots ≤ ms) : za_W p l e R s m args below meth c D nL (MQ below (za_Q D Post) args s mc ms (fun q : Nat => D.2.2 ≤ q)) h0 n cells slots pc lv [.inl x] vw := by
  intro H locs ls hR hS hl
  refine W.widen hc hs ?_
  exact W.iret (v := x) X.1 X.2.1 X.2.2.2.2.2.2.2.2.1 (fun t ht hW => ⟨some (vI x), za_ov h0 vw, n, rfl, hp, by rw [ht]; exact hR, hS.F ht⟩) hS.2.2 (za_fe_ok X.2.2.2.2.2.2.1 hf) (hlocks := X.2.2.2.2.2.2.2.2.2.1)
theorem za_zret (X : za_X p s m args meth c D own cc cd fl nL (some .boolean)) {x : Int32} (hf : za_fe cd pc = some (.ireturn, 1)) (h01 : x = 0 ∨ x = 1) (hp : Post (some (vI x)) (za_ov h0 vw) n) (hc : cells ≤ mc) (hs : slots ≤ ms) : za_W p l e R s m args below meth c D nL (MQ below (za_Q D Post) args s mc ms (fun q : Nat => D.2.2 ≤ q)) h0 n cells slots pc lv [.inl x] vw := by
  intro H locs ls hR hS hl
  refine W.widen hc hs ?_
  exact W.zret (v := x) X.1 X.2.1 X.2.2.2.2.2.2.2.2.1 (by rcases h01 with rfl | rfl <;> decide) (fun t ht hW => ⟨some (vI x), za_ov h0 vw, n, rfl, hp, by rw [ht]; exact hR, hS.F ht⟩) hS.2.2 (za_fe_ok X.2.2.2.2.2.2.1 hf) (hlocks := X.2.2.2.2.2.2.2.2.2.1)
theorem za_lret (X : za_X p s m args meth c D own cc cd fl nL (some .long)) {x : Int64} (hf : za_fe cd pc = some (.lreturn, 1)) (hp : Post (some (vL x)) (za_ov h0 vw) n) (hc : cells ≤ mc) (hs : slots ≤ ms) : za_W p l e R s m args below meth c D nL (MQ below (za_Q D Post) args s mc ms (fun q : Nat => D.2.2 ≤ q)) h0 n cells slots pc lv [.inr (.inl x)] vw := by
  intro H locs ls hR hS hl
  refine W.widen hc hs ?_
  exact W.lret (v := x) X.1 X.2.1 X.2.2.2.2.2.2.2.2.1 (fun t ht hW => ⟨some (vL x), za_ov h0 vw, n, rfl, hp, by rw [ht]; exact hR, hS.F ht⟩) hS.2.2 (za_fe_ok X.2.2.2.2.2.2.1 hf) (hlocks := X.2.2.2.2.2.2.2.2.2.1)
theorem za_vret (X : za_X p s m args meth c D own cc cd fl nL none) (hf : za_fe cd pc = some (.return_, 1)) (hp : Post none (za_ov h0 vw) n) (hc : cells ≤ mc) (hs : slots ≤ ms) : za_W p l e R s m args below meth c D nL (MQ below (za_Q D Post) args s mc ms (fun q : Nat => D.2.2 ≤ q)) h0 n cells slots pc lv [] vw := by
  intro H locs ls hR hS hl
  refine W.widen hc hs ?_
  exact W.vret X.1 X.2.1 X.2.2.2.2.2.2.2.2.1 (fun t ht hW => ⟨none, za_ov h0 vw, n, rfl, hp, by rw [ht]; exact hR, hS.F ht⟩) hS.2.2 (za_fe_ok X.2.2.2.2.2.2.1 hf) (hlocks := X.2.2.2.2.2.2.2.2.2.1)
end ZAEND
/-! CALLS -/
def za_CL (own : String) (idx : Nat) (y : MethodName) : Prop := Cond.methodLink own idx y ∈ za_tt ∨ ∃ host : String, Cond.methodLinkNest own idx y host ∈ za_tt
/-- a method's own words: its code, its class, how many parameters -/
def za_CY (Y : za_Y) (np : Nat) : Prop := Cond.code Y.1 Y.2.1 Y.2.2.1 Y.2.2.2 ∈ za_tt ∧ Cond.initialized Y.1.cls ∈ za_tt ∧ (Y.1.cls ≠ "java/lang/invoke/MethodHandle" ∧ Y.1.cls ≠ "java/lang/invoke/VarHandle") ∧ (parseMethodDescriptor Y.1.desc).map (fun d => d.parameters.length) = some np
def za_CV (Y : za_Y) : Prop := Cond.instanceMethod Y.1 ∈ za_tt ∧ Cond.selects Y.1.cls Y.1 Y.1 ∈ za_tt
def za_CI (Y : za_Y) : Prop := Cond.instanceMethod Y.1 ∈ za_tt ∧ Y.1.name = "<init>" ∧ Y.2.2.2 = none
def za_CS (Y : za_Y) : Prop := Cond.static Y.1 ∈ za_tt
theorem za_wsp (Y : za_Y) {np : Nat} (hY : za_CY Y np) {args : Array Value} {s : State} (hts : ∀ w ∈ za_tt, w.before args s = true) : ∀ w ∈ za_ws Y, ∀ (a' : Array Value) (U : State), s.WarmedH U.vm → w.before a' U = true := by
  intro w hw a' U hW
  rcases List.mem_cons.mp hw with rfl | hw
  · exact za_pay _ hY.1 (hts _ hY.1) hW
  · exact za_pay _ hw (hts _ hw) hW
theorem za_npar {Y : za_Y} {np : Nat} (hY : za_CY Y np) : ∀ sig, parseMethodDescriptor Y.1.desc = some sig → np = sig.parameters.length := by
  intro sig h
  have h2 := hY.2.2.2
  rw [h] at h2
  exact (Option.some.inj h2).symm
def za_wt (st : List za_V) : Nat := (st.map (fun v => bif za_c2 v then 2 else 1)).sum
theorem za_wt_eq (z : Nat) (st : List za_V) : ((st.map (za_cv z)).map fun v => v.category).sum = za_wt st := by
  unfold za_wt
  rw [List.map_map]
  congr 1
  refine List.map_congr_left fun v _ => ?_
  show (za_cv z v).category = _
  rw [za_cat]
  cases za_c2 v <;> rfl
section ZACALL
variable {p : Program} {l : Launch} {e : Env} {R : Room} {s : State} {m : MethodId} {args : Array Value} {below : List Frame} {meth : Method} {c : Code} {D : za_D} {nL : Nat} {Q : State → Prop} {h0 : za_H} {n cells slots pc : Nat} {lv : List (Nat × za_V)} {st : List za_V} {vw : List (Nat × za_C)} {own : String} {cc : ByteArray} {cd : List (Nat × Instr × Nat)} {fl : List (Nat × Nat × Nat)} {ret : Option FieldType} {mc ms d np idx b : Nat} {Y : za_Y} {as rest : List za_V} {Post : Option za_V → za_H → Nat → Prop}
theorem za_after {H : Heap} {locs : List Loc} {ls : Array Slot} {st0 rst : List Value} {a : Array Value} (hr : va_Run p l e R s m args below meth c H locs cells slots mc ms (F0 m pc ls st0) rst (za_Q D Post a) (fun q : Nat => D.2.2 ≤ q)) (hS : va_S (fun q : Nat => D.2.2 ≤ q) s.heap H locs)
    (kk : ∀ (v : Option za_V) (h' : za_H) (n' : Nat) (H1 : Heap) (locs1 : List Loc), Post v h' n' → za_Rp D h' n' H1 → va_S (fun q : Nat => D.2.2 ≤ q) s.heap H1 locs1 → W p l e R s m args below meth c H1 locs1 (cells + mc) (slots + ms) Q (F0 m (pc + 3) ls ((v.map (za_cv D.2.2)).toList ++ rst))) : W p l e R s m args below meth c H locs cells slots Q (F0 m pc ls st0) := by
  intro T hT X
  obtain ⟨v0, st₀, t, T', L, e0, X', hL, e1, e2, ⟨v, h', n', hv, hp, hRp, hF1, hF2⟩, stp⟩ := hr T hT X
  cases hv
  rw [e0] at hF1 hF2
  obtain ⟨t2, a1, b1⟩ := kk v h' n' T'.heap (locs ++ L) hp (by rw [e1]; exact hRp)
    ⟨Nat.le_trans hS.1 (by rw [e1]; exact hF1), fun q h1 h2 => by rw [e1, hF2 q (Nat.lt_of_lt_of_le h1 hS.1) h2]; exact hS.2.1 q h1 h2, fun q hq => by
      rcases List.mem_append.mp hq with h | h
      · exact hS.2.2 q h
      · exact hL q h⟩ T' rfl X'
  exact ⟨t2, stp t2 a1, b1⟩
theorem za_toL (z : Nat) (v : Option za_V) (rest : List za_V) : (v.map (za_cv z)).toList ++ rest.map (za_cv z) = (v.toList ++ rest).map (za_cv z) := by
  cases v <;> simp
set_option maxHeartbeats 1000000 in
/-- a method of an object -/
theorem za_callV (X : za_X p s m args meth c D own cc cd fl nL ret) (hf : za_fe cd pc = some (.invokevirtual idx, 3)) (hL : za_CL own idx Y.1) (hY : za_CY Y np) (hV : za_CV Y) (hM : za_M l D Y d mc ms (vR b :: as) (za_ov h0 vw) n Post) (hst : st = as.reverse ++ vR b :: rest) (hnp : as.length = np)
    {ci N : Nat} {fs : List za_V} {T : u_T} (hrc : za_ov h0 vw b = some (.inr (ci, fs))) (hcl : za_cl[ci]? = some (Y.1.cls, T, N)) (hw : za_wt rest ≤ 8) (hfr : d + 1 ≤ R.frames) (hlo : 8 + (Y.2.2.1 + 11) + 40 * d ≤ R.locals) (hce : cells + mc ≤ R.cells) (hsl : slots + ms ≤ R.slots)
    (kk : ∀ (v : Option za_V) (h' : za_H) (n' : Nat), Post v h' n' → za_W p l e R s m args below meth c D nL Q h' n' (cells + mc) (slots + ms) (pc + 3) lv (v.toList ++ rest) []) : za_W p l e R s m args below meth c D nL Q h0 n cells slots pc lv st vw := by
  intro H locs ls hR hS hl
  subst hst
  obtain ⟨hx, hb, hml, hown, hts, hK, hcd, hF, hr, hlocks, hz⟩ := X
  have hd := za_fe_ok hcd hf
  have hws := za_wsp Y hY hts
  have hpre : PreV s H Y.1.cls (D.2.2 + b) (za_P D (vR b :: as) (za_ov h0 vw) n) (as.map (za_cv D.2.2)) :=
    ⟨za_blind _ _ _ _, va_recv hK (za_P1 (q := (D.2.2 + b, .inr (ci, fs.map (za_cv D.2.2)))) (hR.2.1 b _ hrc)) hcl (q0 := 0) rfl, fun U hU hW => ⟨rfl, by rw [hU]; exact hR, va_K.moved hW.alike hK⟩⟩
  have hstk : (F0 m pc ls ((as.reverse ++ vR b :: rest).map (za_cv D.2.2))).stack = (as.map (za_cv D.2.2)).reverse ++ .ref (D.2.2 + b) :: rest.map (za_cv D.2.2) := by
    show (as.reverse ++ vR b :: rest).map (za_cv D.2.2) = _
    rw [List.map_append, List.map_reverse]
    rfl
  have hrm := lv_room (m := m) (pc := pc) (ls := ls) (rest := (as.reverse ++ vR b :: rest).map (za_cv D.2.2)) (st := rest.map (za_cv D.2.2)) (by rw [za_wt_eq]; exact hw)
  have hlen : (as.map (za_cv D.2.2)).length = np := by rw [List.length_map]; exact hnp
  have kk2 : ∀ (v : Option za_V) (h' : za_H) (n' : Nat) (H1 : Heap) (locs1 : List Loc), Post v h' n' → za_Rp D h' n' H1 → va_S (fun q : Nat => D.2.2 ≤ q) s.heap H1 locs1 → W p l e R s m args below meth c H1 locs1 (cells + mc) (slots + ms) Q (F0 m (pc + 3) ls ((v.map (za_cv D.2.2)).toList ++ rest.map (za_cv D.2.2))) := by
    intro v h' n' H1 locs1 hp h1 h2
    rw [za_toL]
    exact kk v h' n' hp H1 locs1 ls h1 h2 hl
  rcases hL with hL | ⟨host, hL⟩
  · exact za_after (va_runV ⟨hx, hb, hml, hown, hts⟩ hM ⟨⟨rfl, rfl, hfr, hlo, hws, List.mem_cons_self, hts _ hY.1, hts _ hY.2.1, hY.2.2.1, za_npar hY, hts _ hL⟩, hts _ hV.1, hts _ hV.2⟩ hpre rfl hlen hl.1 hstk hrm hd ⟨hce, hsl⟩) hS kk2
  · exact za_after (va_runVN ⟨hx, hb, hml, hown, hts⟩ hM ⟨⟨⟨rfl, rfl, hfr, hlo, hws, List.mem_cons_self⟩, hts _ hY.1, hts _ hY.2.1, hY.2.2.1, za_npar hY, hts _ hL⟩, hts _ hV.1, hts _ hV.2⟩ hpre rfl hlen hl.1 hstk hrm hd ⟨hce, hsl⟩) hS kk2
set_option maxHeartbeats 1000000 in
/-- a static method -/
theorem za_callS (X : za_X p s m args meth c D own cc cd fl nL ret) (hf : za_fe cd pc = some (.invokestatic idx, 3)) (hL : za_CL own idx Y.1) (hY : za_CY Y np) (hV : za_CS Y) (hM : za_M l D Y d mc ms as (za_ov h0 vw) n Post) (hst : st = as.reverse ++ rest) (hnp : as.length = np)
    (hw : za_wt rest ≤ 8) (hfr : d + 1 ≤ R.frames) (hlo : 8 + (Y.2.2.1 + 11) + 40 * d ≤ R.locals) (hce : cells + mc ≤ R.cells) (hsl : slots + ms ≤ R.slots)
    (kk : ∀ (v : Option za_V) (h' : za_H) (n' : Nat), Post v h' n' → za_W p l e R s m args below meth c D nL Q h' n' (cells + mc) (slots + ms) (pc + 3) lv (v.toList ++ rest) []) : za_W p l e R s m args below meth c D nL Q h0 n cells slots pc lv st vw := by
  intro H locs ls hR hS hl
  subst hst
  obtain ⟨hx, hb, hml, hown, hts, hK, hcd, hF, hr, hlocks, hz⟩ := X
  have hd := za_fe_ok hcd hf
  have hws := za_wsp Y hY hts
  have hpre : PreS s H (za_P D as (za_ov h0 vw) n) (as.map (za_cv D.2.2)) :=
    ⟨za_blind _ _ _ _, fun U hU hW => ⟨rfl, by rw [hU]; exact hR, va_K.moved hW.alike hK⟩⟩
  have hstk : (F0 m pc ls ((as.reverse ++ rest).map (za_cv D.2.2))).stack = (as.map (za_cv D.2.2)).reverse ++ rest.map (za_cv D.2.2) := by
    show (as.reverse ++ rest).map (za_cv D.2.2) = _
    rw [List.map_append, List.map_reverse]
  have hrm := lv_room (m := m) (pc := pc) (ls := ls) (rest := (as.reverse ++ rest).map (za_cv D.2.2)) (st := rest.map (za_cv D.2.2)) (by rw [za_wt_eq]; exact hw)
  have hlen : (as.map (za_cv D.2.2)).length = np := by rw [List.length_map]; exact hnp
  have kk2 : ∀ (v : Option za_V) (h' : za_H) (n' : Nat) (H1 : Heap) (locs1 : List Loc), Post v h' n' → za_Rp D h' n' H1 → va_S (fun q : Nat => D.2.2 ≤ q) s.heap H1 locs1 → W p l e R s m args below meth c H1 locs1 (cells + mc) (slots + ms) Q (F0 m (pc + 3) ls ((v.map (za_cv D.2.2)).toList ++ rest.map (za_cv D.2.2))) := by
    intro v h' n' H1 locs1 hp h1 h2
    rw [za_toL]
    exact kk v h' n' hp H1 locs1 ls h1 h2 hl
  rcases hL with hL | ⟨host, hL⟩
  · exact za_after (va_runS ⟨hx, hb, hml, hown, hts⟩ hM ⟨⟨rfl, rfl, hfr, hlo, hws, List.mem_cons_self, hts _ hY.1, hts _ hY.2.1, hY.2.2.1, za_npar hY, hts _ hL⟩, hts _ hV⟩ hpre rfl hlen hl.1 hstk hrm hd ⟨hce, hsl⟩) hS kk2
  · exact za_after (va_runSN ⟨hx, hb, hml, hown, hts⟩ hM ⟨⟨⟨rfl, rfl, hfr, hlo, hws, List.mem_cons_self⟩, hts _ hY.1, hts _ hY.2.1, hY.2.2.1, za_npar hY, hts _ hL⟩, hts _ hV, trivial⟩ hpre rfl hlen hl.1 hstk hrm hd ⟨hce, hsl⟩) hS kk2
end ZACALL
end
section
section ZAARR
variable {p : Program} {l : Launch} {e : Env} {R : Room} {s : State} {m : MethodId} {args : Array Value} {below : List Frame} {meth : Method} {c : Code} {D : za_D} {nL : Nat} {Q : State → Prop} {h0 : za_H} {n cells slots pc : Nat} {lv : List (Nat × za_V)} {st : List za_V} {vw : List (Nat × za_C)} {own : String} {cc : ByteArray} {cd : List (Nat × Instr × Nat)} {fl : List (Nat × Nat × Nat)} {ret : Option FieldType} {i t0 N : Nat} {j : Int32}
theorem za_iald (X : za_X p s m args meth c D own cc cd fl nL ret) {f : Nat → Int32} (hf : za_fe cd pc = some (.iaload, 1)) (hi : za_ov h0 vw i = some (.inl (t0, N, .inl f))) (ht : za_ty[t0]? = some .int) (hj : vp_in j N) (kk : za_W p l e R s m args below meth c D nL Q h0 n cells slots (pc + 1) lv (vI (f j.toNatClampNeg) :: st) vw) : za_W p l e R s m args below meth c D nL Q h0 n cells slots pc lv (.inl j :: .inr (.inr (some i)) :: st) vw := by
  intro H locs ls hR hS hl
  exact va_iald X.1 X.2.1 X.2.2.2.2.2.1 (za_P1 (q := (D.2.2 + i, .inl (D.2.1 t0, N, .inl f))) (hR.2.1 i _ hi)) 0 t0 rfl (za_tys_at D ht) hj (za_fe_ok X.2.2.2.2.2.2.1 hf) (kk H locs ls hR hS hl)
theorem za_lald (X : za_X p s m args meth c D own cc cd fl nL ret) {f : Nat → Int64} (hf : za_fe cd pc = some (.laload, 1)) (hi : za_ov h0 vw i = some (.inl (t0, N, .inr (.inl f)))) (ht : za_ty[t0]? = some .long) (hj : vp_in j N) (kk : za_W p l e R s m args below meth c D nL Q h0 n cells slots (pc + 1) lv (vL (f j.toNatClampNeg) :: st) vw) : za_W p l e R s m args below meth c D nL Q h0 n cells slots pc lv (.inl j :: .inr (.inr (some i)) :: st) vw := by
  intro H locs ls hR hS hl
  exact va_lald X.1 X.2.1 X.2.2.2.2.2.1 (za_P1 (q := (D.2.2 + i, .inl (D.2.1 t0, N, .inr (.inl f)))) (hR.2.1 i _ hi)) 0 t0 rfl (za_tys_at D ht) hj (za_fe_ok X.2.2.2.2.2.2.1 hf) (kk H locs ls hR hS hl)
theorem za_aald (X : za_X p s m args meth c D own cc cd fl nL ret) {f : Nat → Option Nat} {C : String} (hf : za_fe cd pc = some (.aaload, 1)) (hi : za_ov h0 vw i = some (.inl (t0, N, .inr (.inr f)))) (ht : za_ty[t0]? = some (.object C)) (hj : vp_in j N) (kk : za_W p l e R s m args below meth c D nL Q h0 n cells slots (pc + 1) lv (.inr (.inr (f j.toNatClampNeg)) :: st) vw) : za_W p l e R s m args below meth c D nL Q h0 n cells slots pc lv (.inl j :: .inr (.inr (some i)) :: st) vw := by
  intro H locs ls hR hS hl
  refine va_aldq X.1 X.2.1 X.2.2.2.2.2.1 (za_P1 (q := (D.2.2 + i, .inl (D.2.1 t0, N, .inr (.inr (.inr (.inr (fun q => (f q).map (fun i => D.2.2 + i)))))))) (hR.2.1 i _ hi)) 0 t0 rfl (za_tys_at D ht) hj (za_fe_ok X.2.2.2.2.2.2.1 hf) ?_
  have h := kk H locs ls hR hS hl
  have e9 : va_rf ((f j.toNatClampNeg).map (fun i => D.2.2 + i)) = za_cv D.2.2 (.inr (.inr (f j.toNatClampNeg))) := by cases f j.toNatClampNeg <;> rfl
  show W p l e R s m args below meth c H locs cells slots Q (F0 m (pc + 1) ls (va_rf ((f j.toNatClampNeg).map (fun i => D.2.2 + i)) :: st.map (za_cv D.2.2)))
  rw [e9]
  exact h
theorem za_iast (X : za_X p s m args meth c D own cc cd fl nL ret) {f : Nat → Int32} {x : Int32} (hf : za_fe cd pc = some (.iastore, 1)) (hi : za_ov h0 vw i = some (.inl (t0, N, .inl f))) (ht : za_ty[t0]? = some .int) (hj : vp_in j N) (kk : za_W p l e R s m args below meth c D nL Q h0 n cells slots (pc + 1) lv st (za_vs vw i (.inl (t0, N, .inl (upd f j.toNatClampNeg x))))) : za_W p l e R s m args below meth c D nL Q h0 n cells slots pc lv (.inl x :: .inl j :: .inr (.inr (some i)) :: st) vw := by
  intro H locs ls hR hS hl
  have hat : H[D.2.2 + i]? = some (vp_cell (D.2.1 t0) (N, .inl f)) := hR.2.1 i _ hi
  refine W.iast X.1 X.2.1 hat ((X.2.2.2.2.2.1.2 t0 _ (za_tys_at D ht)).1 N (fun j => .int (f j))) (fun q => by cases q) (by show ¬ (j < 0 ∨ (arrV _ _ _).slots.size ≤ _); rw [arrV_size]; exact hj) rfl rfl (za_fe_ok X.2.2.2.2.2.2.1 hf) fun H1 e1 z1 o1 => ?_
  refine kk H1 _ ls (by
    rw [za_ov_vs]
    refine hR.set z1 ?_ o1
    show H1[D.2.2 + i]? = some (vp_cell _ _)
    rw [e1, vp_cell_i, vp_cell_i, arrV_store]
    congr 2
    funext q
    by_cases hq : q = j.toNatClampNeg
    · subst hq
      simp [updV, upd]
    · simp [updV, upd, hq]) (hS.put z1 o1 (Nat.le_add_right _ _)) hl
theorem za_last (X : za_X p s m args meth c D own cc cd fl nL ret) {f : Nat → Int64} {x : Int64} (hf : za_fe cd pc = some (.lastore, 1)) (hi : za_ov h0 vw i = some (.inl (t0, N, .inr (.inl f)))) (ht : za_ty[t0]? = some .long) (hj : vp_in j N) (kk : za_W p l e R s m args below meth c D nL Q h0 n cells slots (pc + 1) lv st (za_vs vw i (.inl (t0, N, .inr (.inl (vp_updL f j.toNatClampNeg x)))))) : za_W p l e R s m args below meth c D nL Q h0 n cells slots pc lv (.inr (.inl x) :: .inl j :: .inr (.inr (some i)) :: st) vw := by
  intro H locs ls hR hS hl
  have hat : H[D.2.2 + i]? = some (vp_cell (D.2.1 t0) (N, .inr (.inl f))) := hR.2.1 i _ hi
  refine W.last X.1 X.2.1 hat ((X.2.2.2.2.2.1.2 t0 _ (za_tys_at D ht)).1 N (fun j => .long (f j))) (fun q => by cases q) (by show ¬ (j < 0 ∨ (arrV _ _ _).slots.size ≤ _); rw [arrV_size]; exact hj) rfl rfl (za_fe_ok X.2.2.2.2.2.2.1 hf) fun H1 e1 z1 o1 => ?_
  refine kk H1 _ ls (by
    rw [za_ov_vs]
    refine hR.set z1 ?_ o1
    show H1[D.2.2 + i]? = some (vp_cell _ _)
    rw [e1, vp_cell_l, vp_cell_l, arrV_store]
    congr 2
    funext q
    by_cases hq : q = j.toNatClampNeg
    · subst hq
      simp [updV, vp_updL]
    · simp [updV, vp_updL, hq]) (hS.put z1 o1 (Nat.le_add_right _ _)) hl
/-- a place of an array of objects takes an object of the array's class -/
theorem za_aast (X : za_X p s m args meth c D own cc cd fl nL ret) {f : Nat → Option Nat} {C : String} {T : u_T} {w ci NC : Nat} {fs : List za_V} (hf : za_fe cd pc = some (.aastore, 1)) (hi : za_ov h0 vw i = some (.inl (t0, N, .inr (.inr f)))) (ht : za_ty[t0]? = some (.object C)) (hw : za_ov h0 vw w = some (.inr (ci, fs))) (hc : za_cl[ci]? = some (C, T, NC)) (hj : vp_in j N) (kk : za_W p l e R s m args below meth c D nL Q h0 n cells slots (pc + 1) lv st (za_vs vw i (.inl (t0, N, .inr (.inr (va_up f j.toNatClampNeg (some w))))))) : za_W p l e R s m args below meth c D nL Q h0 n cells slots pc lv (.inr (.inr (some w)) :: .inl j :: .inr (.inr (some i)) :: st) vw := by
  intro H locs ls hR hS hl
  have hat : H[D.2.2 + i]? = some (vp_cell (D.2.1 t0) (N, .inr (.inr (.inr (.inr (fun q => (f q).map (fun i => D.2.2 + i))))))) := hR.2.1 i _ hi
  have hatw : ∃ r : vw_C, za_cl[ci]? = some r ∧ t_OB (D.2.2 + w) (D.1.1 ci) r.2.2 (D.1.2 ci) H (vp_V (fs.map (za_cv D.2.2))) := hR.2.1 w _ hw
  obtain ⟨r', hr', cellV, g1, g2, g3, -⟩ := hatw
  have hK := X.2.2.2.2.2.1
  have hcls := (hK.1 ci _ hc).2
  obtain ⟨kA, comp, k1, k2, k3, -⟩ := (hK.2 t0 _ (za_tys_at D ht)).2
  have hcomp : comp = D.1.1 ci := Option.some.inj (k3.symm.trans hcls.1)
  subst hcomp
  obtain ⟨kC, hkC, -⟩ := hcls.2
  have hlt : j.toNatClampNeg < N := Nat.not_le.mp fun q => hj (Or.inr q)
  have hn0 : ¬ j < 0 := fun q => hj (Or.inl q)
  refine W.aast X.1 X.2.1 hat (fun q h => by cases h) (fun h => by cases h) k1 k2 rfl hkC ⟨hn0, by show _ < (arrV _ _ _).slots.size; rw [arrV_size]; exact hlt⟩ g1 (fun q h => by rw [g3] at h; cases h) (by rw [g2]; exact hkC) (by rw [g2]; exact va_assign hcls) rfl rfl (za_fe_ok X.2.2.2.2.2.2.1 hf) fun H1 e1 z1 o1 => ?_
  refine kk H1 _ ls (by
    rw [za_ov_vs]
    refine hR.set z1 ?_ o1
    show H1[D.2.2 + i]? = some (vp_cell _ (_, .inr (.inr (.inr (.inr (fun q => (va_up f j.toNatClampNeg (some w) q).map (fun i => D.2.2 + i)))))))
    rw [e1, vp_cell_q, vp_cell_q, arrV_store]
    congr 2
    funext q
    by_cases hq : q = j.toNatClampNeg
    · subst hq
      simp [updV, va_up, va_rf]
    · simp [updV, va_up, hq]) (hS.put z1 o1 (Nat.le_add_right _ _)) hl
theorem za_alen (X : za_X p s m args meth c D own cc cd fl nL ret) {x : (Nat → Int32) ⊕ ((Nat → Int64) ⊕ (Nat → Option Nat))} {ty : FieldType} (hf : za_fe cd pc = some (.arraylength, 1)) (hi : za_ov h0 vw i = some (.inl (t0, N, x))) (ht : za_ty[t0]? = some ty) (kk : za_W p l e R s m args below meth c D nL Q h0 n cells slots (pc + 1) lv (vI (Int32.ofNat N) :: st) vw) : za_W p l e R s m args below meth c D nL Q h0 n cells slots pc lv (.inr (.inr (some i)) :: st) vw := by
  intro H locs ls hR hS hl
  rcases x with f | f | f
  · exact va_alen X.1 X.2.1 X.2.2.2.2.2.1 (za_P1 (q := (D.2.2 + i, .inl (D.2.1 t0, N, .inl f))) (hR.2.1 i _ hi)) 0 t0 rfl (za_tys_at D ht) rfl (za_fe_ok X.2.2.2.2.2.2.1 hf) (kk H locs ls hR hS hl)
  · exact va_alen X.1 X.2.1 X.2.2.2.2.2.1 (za_P1 (q := (D.2.2 + i, .inl (D.2.1 t0, N, .inr (.inl f)))) (hR.2.1 i _ hi)) 0 t0 rfl (za_tys_at D ht) rfl (za_fe_ok X.2.2.2.2.2.2.1 hf) (kk H locs ls hR hS hl)
  · exact va_alen X.1 X.2.1 X.2.2.2.2.2.1 (za_P1 (q := (D.2.2 + i, .inl (D.2.1 t0, N, .inr (.inr (.inr (.inr (fun q => (f q).map (fun i => D.2.2 + i)))))))) (hR.2.1 i _ hi)) 0 t0 rfl (za_tys_at D ht) rfl (za_fe_ok X.2.2.2.2.2.2.1 hf) (kk H locs ls hR hS hl)
/-- fields of an object whose number is no numeral -/
theorem za_getH (X : za_X p s m args meth c D own cc cd fl nL ret) {idx ci k : Nat} {fs : List za_V} {v : za_V} (hf : za_fe cd pc = some (.getfield idx, 3)) (hi : za_ov h0 vw i = some (.inr (ci, fs))) (hk : za_fk fl idx = some (ci, k)) (hv : fs[k]? = some v) (kk : za_W p l e R s m args below meth c D nL Q h0 n cells slots (pc + 3) lv (v :: st) vw) : za_W p l e R s m args below meth c D nL Q h0 n cells slots pc lv (.inr (.inr (some i)) :: st) vw := by
  intro H locs ls hR hS hl
  exact za_getW X hR hi (za_fk_mem hk) hv (za_fe_ok X.2.2.2.2.2.2.1 hf) (kk H locs ls hR hS hl)
theorem za_putH (X : za_X p s m args meth c D own cc cd fl nL ret) {idx ci k : Nat} {fs : List za_V} {v : za_V} (hf : za_fe cd pc = some (.putfield idx, 3)) (hi : za_ov h0 vw i = some (.inr (ci, fs))) (hk : za_fk fl idx = some (ci, k)) (hv : za_okf (za_fty ci k) v = true) (hfin : za_fin ci k = false) (hl0 : k < fs.length) (kk : za_W p l e R s m args below meth c D nL Q h0 n cells slots (pc + 3) lv st (za_vs vw i (.inr (ci, fs.set k v)))) : za_W p l e R s m args below meth c D nL Q h0 n cells slots pc lv (v :: .inr (.inr (some i)) :: st) vw := by
  intro H locs ls hR hS hl
  exact za_putW X hR hS hi (za_fk_mem hk) hv hfin hl0 (za_fe_ok X.2.2.2.2.2.2.1 hf) (fun H1 locs1 hR1 hS1 => kk H1 locs1 ls (by rw [za_ov_vs]; exact hR1) hS1 hl)
end ZAARR
section ZANEW
variable {p : Program} {l : Launch} {e : Env} {R : Room} {s : State} {m : MethodId} {args : Array Value} {below : List Frame} {meth : Method} {c : Code} {D : za_D} {nL : Nat} {Q : State → Prop} {h0 : za_H} {n cells slots pc : Nat} {lv : List (Nat × za_V)} {st : List za_V} {vw : List (Nat × za_C)} {own : String} {cc : ByteArray} {cd : List (Nat × Instr × Nat)} {fl : List (Nat × Nat × Nat)} {ret : Option FieldType} {N : Nat}
/-- a new object of a class of the system, at the next number -/
theorem za_new (X : za_X p s m args meth c D own cc cd fl nL ret) {idx ci : Nat} {C : String} {T : u_T} {fs : List za_V} (hf : za_fe cd pc = some (.new idx, 3)) (hc : za_cl[ci]? = some (C, T, N)) (hcl : Cond.classLink own idx C ∈ za_tt) (hin : Cond.instantiable C N ∈ za_tt) (hini : Cond.initialized C ∈ za_tt) (hfs : ∀ z j, j < N → defaultValue (za_fty ci j) = vp_V (fs.map (za_cv z)) j) (hce : cells + 1 ≤ R.cells) (hsl : slots + N ≤ R.slots)
    (kk : za_W p l e R s m args below meth c D nL Q h0 (n + 1) (cells + 1) (slots + N) (pc + 3) lv (vR n :: st) (za_vs vw n (.inr (ci, fs)))) : za_W p l e R s m args below meth c D nL Q h0 n cells slots pc lv st vw := by
  intro H locs ls hR hS hl
  obtain ⟨hx, hb, hml, hown, hts, hK, hcd, hF, hr, hlocks, hz⟩ := X
  obtain ⟨hin2, hty, hnm, hfn⟩ := za_cok _ _ _ _ hc
  have hKn := hK.1 ci _ hc
  refine W.newcK hx hb hown (hts _ hcl) (hts _ hin) (hts _ hini) rfl (za_fe_ok hcd hf) hce hsl hKn.2.1 hR.1 fun H1 kC hkC e1 z1 o1 => ?_
  refine kk H1 locs ls ?_ ⟨Nat.le_trans hS.1 (by rw [z1, hR.1]; omega), fun q h1 h2 => (o1 q (by have := hS.1; rw [hR.1] at this; omega)).trans (hS.2.1 q h1 h2), hS.2.2⟩ hl
  rw [za_ov_vs]
  refine hR.pushc z1 o1 ?_
  have g : t_OB (D.2.2 + n) (D.1.1 ci) N (D.1.2 ci) H1 (vp_V (fs.map (za_cv D.2.2))) := (u_born (za_fty ci) hts hin2 hKn hkC e1 hty).to (fun j hj => hfs D.2.2 j hj)
  exact ⟨_, hc, g⟩
theorem za_newi (X : za_X p s m args meth c D own cc cd fl nL ret) {t0 : Nat} {x : Int32} (hf : za_fe cd pc = some (.newarray .int, 2)) (ht : za_ty[t0]? = some .int) (ha : Cond.arrayClass .int ∈ za_tt) (hn0 : ¬ x < 0) (hN : x.toNatClampNeg = N) (hbig : N ≤ 100000) (hce : cells + 1 ≤ R.cells) (hsl : slots + N ≤ R.slots)
    (kk : za_W p l e R s m args below meth c D nL Q h0 (n + 1) (cells + 1) (slots + N) (pc + 2) lv (vR n :: st) (za_vs vw n (.inl (t0, N, .inl (fun _ => 0))))) : za_W p l e R s m args below meth c D nL Q h0 n cells slots pc lv (.inl x :: st) vw := by
  intro H locs ls hR hS hl
  obtain ⟨hx, hb, hml, hown, hts, hK, hcd, hF, hr, hlocks, hz⟩ := X
  refine va_newaK hx hb (atype := .int) (hts _ ha) rfl (za_fe_ok hcd hf) rfl hn0 hN (by show N * 4 ≤ 536870912; omega) hce hsl hR.1 fun H1 cA e1 z1 o1 hAr hNm => ?_
  have hcA : cA = D.2.1 t0 := Option.some.inj (hNm.symm.trans (hK.2 t0 _ (za_tys_at D ht)).2)
  subst hcA
  refine kk H1 locs ls ?_ ⟨Nat.le_trans hS.1 (by rw [z1, hR.1]; omega), fun q h1 h2 => (o1 q (by have := hS.1; rw [hR.1] at this; omega)).trans (hS.2.1 q h1 h2), hS.2.2⟩ hl
  rw [za_ov_vs]
  exact hR.pushc z1 o1 e1
theorem za_newl (X : za_X p s m args meth c D own cc cd fl nL ret) {t0 : Nat} {x : Int32} (hf : za_fe cd pc = some (.newarray .long, 2)) (ht : za_ty[t0]? = some .long) (ha : Cond.arrayClass .long ∈ za_tt) (hn0 : ¬ x < 0) (hN : x.toNatClampNeg = N) (hbig : N ≤ 100000) (hce : cells + 1 ≤ R.cells) (hsl : slots + N ≤ R.slots)
    (kk : za_W p l e R s m args below meth c D nL Q h0 (n + 1) (cells + 1) (slots + N) (pc + 2) lv (vR n :: st) (za_vs vw n (.inl (t0, N, .inr (.inl (fun _ => 0)))))) : za_W p l e R s m args below meth c D nL Q h0 n cells slots pc lv (.inl x :: st) vw := by
  intro H locs ls hR hS hl
  obtain ⟨hx, hb, hml, hown, hts, hK, hcd, hF, hr, hlocks, hz⟩ := X
  refine va_newaK hx hb (atype := .long) (hts _ ha) rfl (za_fe_ok hcd hf) rfl hn0 hN (by show N * 8 ≤ 536870912; omega) hce hsl hR.1 fun H1 cA e1 z1 o1 hAr hNm => ?_
  have hcA : cA = D.2.1 t0 := Option.some.inj (hNm.symm.trans (hK.2 t0 _ (za_tys_at D ht)).2)
  subst hcA
  refine kk H1 locs ls ?_ ⟨Nat.le_trans hS.1 (by rw [z1, hR.1]; omega), fun q h1 h2 => (o1 q (by have := hS.1; rw [hR.1] at this; omega)).trans (hS.2.1 q h1 h2), hS.2.2⟩ hl
  rw [za_ov_vs]
  exact hR.pushc z1 o1 e1
theorem za_newq (X : za_X p s m args meth c D own cc cd fl nL ret) {t0 idx : Nat} {x : Int32} {C : String} (hf : za_fe cd pc = some (.anewarray idx, 3)) (ht : za_ty[t0]? = some (.object C)) (hcl : Cond.classLink own idx C ∈ za_tt) (ha : Cond.arrayOver (.object C) ∈ za_tt) (hn0 : ¬ x < 0) (hN : x.toNatClampNeg = N) (hbig : N ≤ 100000) (hce : cells + 1 ≤ R.cells) (hsl : slots + N ≤ R.slots)
    (kk : za_W p l e R s m args below meth c D nL Q h0 (n + 1) (cells + 1) (slots + N) (pc + 3) lv (vR n :: st) (za_vs vw n (.inl (t0, N, .inr (.inr (fun _ => none)))))) : za_W p l e R s m args below meth c D nL Q h0 n cells slots pc lv (.inl x :: st) vw := by
  intro H locs ls hR hS hl
  obtain ⟨hx, hb, hml, hown, hts, hK, hcd, hF, hr, hlocks, hz⟩ := X
  subst hN
  refine W.anew hx hb hown (hts _ hcl) (hts _ ha) rfl (za_fe_ok hcd hf) rfl hn0 (by omega) hce hsl fun cA kA comp f1 f2 f3 f4 => ?_
  obtain ⟨kA', comp', -, -, -, g4⟩ := (hK.2 t0 _ (za_tys_at D ht)).2
  have hcA : cA = D.2.1 t0 := Option.some.inj (f1.symm.trans g4)
  subst hcA
  generalize hH1 : H.push ({ cls := D.2.1 t0, slots := Array.replicate x.toNatClampNeg .null, vm := .none } : Cell) = H1
  have z1 : H1.size = D.2.2 + n + 1 := by rw [← hH1, Array.size_push, hR.1]
  have e1 : H1[D.2.2 + n]? = some (arrV (D.2.1 t0) x.toNatClampNeg (fun _ => .null)) := by rw [← hR.1, ← hH1, Array.getElem?_push_size, ← arrV_new]
  have o1 : ∀ q : Nat, q < D.2.2 + n → H1[q]? = H[q]? := fun q hq => by rw [← hH1, Array.getElem?_push, if_neg (by rw [hR.1]; omega)]
  have k2 := kk H1 locs ls (by rw [za_ov_vs]; exact hR.pushc z1 o1 e1) ⟨Nat.le_trans hS.1 (by rw [z1, hR.1]; omega), fun q h1 h2 => (o1 q (by have := hS.1; rw [hR.1] at this; omega)).trans (hS.2.1 q h1 h2), hS.2.2⟩ hl
  show W p l e R s m args below meth c H1 locs (cells + 1) (slots + x.toNatClampNeg) Q (F0 m (pc + 3) ls (.ref H.size :: st.map (za_cv D.2.2)))
  rw [hR.1]
  exact k2
/-- a final field in the constructor of its own class -/
theorem za_putF (X : za_X p s m args meth c D own cc cd fl nL ret) (hin0 : meth.name = "<init>") {i idx ci k : Nat} {C : String} {T : u_T} {fs : List za_V} {v : za_V} (hf : za_fe cd pc = some (.putfield idx, 3)) (hi : za_ov h0 vw i = some (.inr (ci, fs))) (hc : za_cl[ci]? = some (C, T, N)) (hk : k < N) (hdc : (T k).1 = own) (hCo : C = own) (hlk : Cond.fieldLink own idx C (T k).2.1 (T k).2.2.1 ∈ za_tt) (hv : za_okf (za_fty ci k) v = true) (hfin : za_fin ci k = true) (hl0 : k < fs.length) (kk : za_W p l e R s m args below meth c D nL Q h0 n cells slots (pc + 3) lv st (za_vs vw i (.inr (ci, fs.set k v)))) : za_W p l e R s m args below meth c D nL Q h0 n cells slots pc lv (v :: .inr (.inr (some i)) :: st) vw := by
  intro H locs ls hR hS hl
  obtain ⟨hx, hb, hml, hown, hts, hK, hcd, hF, hr, hlocks, hz⟩ := X
  obtain ⟨hin, hty, hnm, hfn⟩ := za_cok _ _ _ _ hc
  have hap := va_apart (own := own) hts hin (za_fty ci) hty hnm hK hc
  have hat : ∃ r : vw_C, za_cl[ci]? = some r ∧ t_OB (D.2.2 + i) (D.1.1 ci) r.2.2 (D.1.2 ci) H (vp_V (fs.map (za_cv D.2.2))) := hR.2.1 i _ hi
  obtain ⟨r, h1, cell, q1, q2, q3, q4⟩ := hat
  have hr' : r = (C, T, N) := Option.some.inj (h1.symm.trans hc)
  subst hr'
  obtain ⟨hSl, hfc, kC, hkC, hkind⟩ := hK.1 ci _ hc
  obtain ⟨cf, kf, fi, f, hif, hsl⟩ := hSl k hk
  have hlay := hts _ (hin _ (u_in_lay hk))
  unfold u_lay at hlay
  rw [if_pos (by rw [hfn k hk, hfin])] at hlay
  have hst := (u_facts hfc hkC (u_lays hts hin hk) hif).1
  have hcf : m.cls = cf := by
    obtain ⟨_, _, c', _, _, _, -, -, hf', -, -, -, hown2, -⟩ := Cond.laysFinal_spec hlay
    have e1 : c' = cf := by have := hif.symm.trans hf'; simp at this; exact this.1.symm
    rw [hdc] at hown2
    rw [← e1]; exact Option.some.inj (hown.symm.trans hown2)
  obtain ⟨hn1, hn2⟩ := za_okf_ok hv D.2.2
  have h6 := u_fits hfc hkC hkind (Or.inr hlay) hif (hty k hk) hn1 hn2
  have hl' : k < (fs.map (za_cv D.2.2)).length := by rw [List.length_map]; exact hl0
  have hif' : s.fieldFound? C (T k).2.1 (T k).2.2.1 = some (cf, kf, fi, f) := by rw [hCo, ← hdc]; exact hif
  refine W.putFinK hx hb hown (hts _ hlk) hif' hst hcf hin0 (by rw [q2]; exact h6) q1 q3 (by rw [hsl]; exact k2_hasslot (q4 k hk)) rfl rfl (za_fe_ok hcd hf) fun H' e1 e2 e3 => ?_
  rw [hsl] at e1
  refine kk H' _ ls ?_ (hS.put e2 e3 (Nat.le_add_right _ _)) hl
  rw [za_ov_vs]
  refine hR.set e2 ?_ e3
  have g : t_OB (D.2.2 + i) (D.1.1 ci) N (D.1.2 ci) H' (vp_V ((fs.set k v).map (za_cv D.2.2))) := by
    rw [List.map_set]
    exact t_OB.to (V := updV (vp_V (fs.map (za_cv D.2.2))) k (za_cv D.2.2 v)) ⟨_, e1, q2, q3, t_set q4 hap hk (za_cv D.2.2 v)⟩ (fun j _ => vp_updV_set hl' (za_cv D.2.2 v) j)
  exact ⟨_, hc, g⟩
/-- Object's own constructor does nothing -/
theorem za_obj (X : za_X p s m args meth c D own cc cd fl nL ret) {idx i : Nat} (hf : za_fe cd pc = some (.invokespecial idx, 3)) (h1 : Cond.methodLink own idx Lib.objectInit ∈ za_tt) (h2 : Cond.instanceMethod Lib.objectInit ∈ za_tt) (h3 : Cond.code Lib.objectInit ⟨#[0xb1]⟩ 1 none ∈ za_tt) (hw : za_wt st ≤ 8) (hfr : 1 ≤ R.frames) (hlo : 20 ≤ R.locals) (kk : za_W p l e R s m args below meth c D nL Q h0 n cells slots (pc + 3) lv st vw) : za_W p l e R s m args below meth c D nL Q h0 n cells slots pc lv (.inr (.inr (some i)) :: st) vw := by
  intro H locs ls hR hS hl
  obtain ⟨hx, hb, hml, hown, hts, hK, hcd, hF, hr, hlocks, hz⟩ := X
  refine W.objInit hx hb hown (hts _ h1) (hts _ h2) (hts _ h3) rfl (by rw [hml]; exact hl.1) rfl (za_fe_ok hcd hf) hfr ?_ (kk H locs ls hR hS hl)
  have h8 := lv_room (m := m) (pc := pc) (ls := ls) (rest := (vR i :: st).map (za_cv D.2.2)) (st := st.map (za_cv D.2.2)) (by rw [za_wt_eq]; exact hw)
  show 2 * (F0 m pc ls ((vR i :: st).map (za_cv D.2.2))).monitorRoom + ((st.map (za_cv D.2.2)).map fun v => v.category).sum + 12 ≤ R.locals
  omega
theorem za_min (X : za_X p s m args meth c D own cc cd fl nL ret) {idx : Nat} {x y : Int32} (hf : za_fe cd pc = some (.invokestatic idx, 3)) (h1 : Cond.methodLink own idx Lib.Math.min.name ∈ za_tt) (h2 : Cond.static Lib.Math.min.name ∈ za_tt) (h3 : Cond.initialized "java/lang/Math" ∈ za_tt) (h4 : Cond.code Lib.Math.min.name Lib.Math.min.code 2 (some .int) ∈ za_tt) (hw : za_wt st ≤ 8) (hfr : 1 ≤ R.frames) (hlo : 21 ≤ R.locals) (hce : cells ≤ R.cells) (hsl : slots ≤ R.slots) (kk : za_W p l e R s m args below meth c D nL Q h0 n cells slots (pc + 3) lv (vI (if y < x then y else x) :: st) vw) : za_W p l e R s m args below meth c D nL Q h0 n cells slots pc lv (.inl y :: .inl x :: st) vw := by
  intro H locs ls hR hS hl
  obtain ⟨hx, hb, hml, hown, hts, hK, hcd, hF, hr, hlocks, hz⟩ := X
  exact va_mmin hx hb (by rw [hml]; exact hl.1.symm) hown (hts _ h1) (hts _ h2) (hts _ h3) (hts _ h4) hfr (by rw [za_wt_eq]; omega) hce hsl (za_fe_ok hcd hf) (kk H locs ls hR hS hl)
end ZANEW
section ZACTOR
variable {p : Program} {l : Launch} {e : Env} {R : Room} {s : State} {m : MethodId} {args : Array Value} {below : List Frame} {meth : Method} {c : Code} {D : za_D} {nL : Nat} {Q : State → Prop} {h0 : za_H} {n cells slots pc : Nat} {lv : List (Nat × za_V)} {st : List za_V} {vw : List (Nat × za_C)} {own : String} {cc : ByteArray} {cd : List (Nat × Instr × Nat)} {fl : List (Nat × Nat × Nat)} {ret : Option FieldType} {mc ms d np idx b maxL : Nat} {y : MethodName} {bytes : ByteArray} {as rest : List za_V} {Post : Option za_V → za_H → Nat → Prop}
set_option maxHeartbeats 1000000 in
/-- a constructor -/
theorem za_callI (X : za_X p s m args meth c D own cc cd fl nL ret) (hf : za_fe cd pc = some (.invokespecial idx, 3)) (hL : za_CL own idx y) (hY : za_CY (y, bytes, maxL, none) np) (hV : za_CI (y, bytes, maxL, none)) (hM : za_M l D (y, bytes, maxL, none) d mc ms (vR b :: as) (za_ov h0 vw) n Post) (hst : st = as.reverse ++ vR b :: rest) (hnp : as.length = np)
    (hw : za_wt rest ≤ 8) (hfr : d + 1 ≤ R.frames) (hlo : 8 + (maxL + 11) + 40 * d ≤ R.locals) (hce : cells + mc ≤ R.cells) (hsl : slots + ms ≤ R.slots)
    (kk : ∀ (v : Option za_V) (h' : za_H) (n' : Nat), Post v h' n' → za_W p l e R s m args below meth c D nL Q h' n' (cells + mc) (slots + ms) (pc + 3) lv (v.toList ++ rest) []) : za_W p l e R s m args below meth c D nL Q h0 n cells slots pc lv st vw := by
  intro H locs ls hR hS hl
  subst hst
  obtain ⟨hx, hb, hml, hown, hts, hK, hcd, hF, hr, hlocks, hz⟩ := X
  have hd := za_fe_ok hcd hf
  have hws := za_wsp (y, bytes, maxL, none) hY hts
  have hpre : PreS s H (za_P D (vR b :: as) (za_ov h0 vw) n) (.ref (D.2.2 + b) :: as.map (za_cv D.2.2)) :=
    ⟨za_blind _ _ _ _, fun U hU hW => ⟨rfl, by rw [hU]; exact hR, va_K.moved hW.alike hK⟩⟩
  have hstk : (F0 m pc ls ((as.reverse ++ vR b :: rest).map (za_cv D.2.2))).stack = (as.map (za_cv D.2.2)).reverse ++ .ref (D.2.2 + b) :: rest.map (za_cv D.2.2) := by
    show (as.reverse ++ vR b :: rest).map (za_cv D.2.2) = _
    rw [List.map_append, List.map_reverse]
    rfl
  have hrm := lv_room (m := m) (pc := pc) (ls := ls) (rest := (as.reverse ++ vR b :: rest).map (za_cv D.2.2)) (st := rest.map (za_cv D.2.2)) (by rw [za_wt_eq]; exact hw)
  have hlen : (as.map (za_cv D.2.2)).length = np := by rw [List.length_map]; exact hnp
  have kk2 : ∀ (v : Option za_V) (h' : za_H) (n' : Nat) (H1 : Heap) (locs1 : List Loc), Post v h' n' → za_Rp D h' n' H1 → va_S (fun q : Nat => D.2.2 ≤ q) s.heap H1 locs1 → W p l e R s m args below meth c H1 locs1 (cells + mc) (slots + ms) Q (F0 m (pc + 3) ls ((v.map (za_cv D.2.2)).toList ++ rest.map (za_cv D.2.2))) := by
    intro v h' n' H1 locs1 hp h1 h2
    rw [za_toL]
    exact kk v h' n' hp H1 locs1 ls h1 h2 hl
  rcases hL with hL | ⟨host, hL⟩
  · exact za_after (va_runI ⟨hx, hb, hml, hown, hts⟩ hM ⟨⟨rfl, rfl, hfr, hlo, hws, List.mem_cons_self, hts _ hY.1, hts _ hY.2.1, hY.2.2.1, za_npar hY, hts _ hL⟩, hV.2.1, hts _ hV.1⟩ hpre rfl hlen hl.1 hstk hrm hd ⟨hce, hsl⟩) hS kk2
  · exact za_after (va_runIN ⟨hx, hb, hml, hown, hts⟩ hM ⟨⟨⟨rfl, rfl, hfr, hlo, hws, List.mem_cons_self⟩, hts _ hY.1, hts _ hY.2.1, hY.2.2.1, za_npar hY, hts _ hL⟩, hV.2.1, hts _ hV.1⟩ hpre rfl hlen hl.1 hstk hrm hd ⟨hce, hsl⟩) hS kk2
end ZACTOR
end
section
/-! THROWS AND CATCHES -/
/-- a static field of Throwable that lies below z and holds null or a reference -/
def zt_S (nm d : String) (z : Nat) (U : State) : Prop := ∃ (c : ClassId) (k : Class) (i : Nat) (f : Field) (a : Nat) (cell : Cell) (v : Value), U.vm.findClass Bundle.tN = some c ∧ U.fieldFound? Bundle.tN nm d = some (c, k, i, f) ∧ f.isStatic = true ∧ k.statics = some a ∧ U.heap[a]? = some cell ∧ cell.vm.isStatics = true ∧ cell.cls = c ∧ f.slot < cell.slots.size ∧ k.staticTypes[f.slot]? = some f.type ∧ a < z ∧ cell.slots[f.slot]? = some v ∧ v.isRef = true
theorem zt_S.to {nm d : String} {z : Nat} {u U : State} (h : zt_S nm d z u) (hvm : u.vm.Alike U.vm) (hh : ∀ a : Nat, a < z → U.heap[a]? = u.heap[a]?) : zt_S nm d z U := by
  obtain ⟨c, k, i, f, a, cell, v, h1, h2, h3, h4, h5, h6, h7, h8, h9, h10, h11, h12⟩ := h
  obtain ⟨k', hi', he⟩ := State.fieldFound?_setVm hvm h2
  exact ⟨c, k', i, f, a, cell, v, by rw [hvm.findClass]; exact h1, hi', h3, by rw [he]; exact h4, by rw [hh a h10]; exact h5, h6, h7, h8, by rw [he]; exact h9, h10, h11, h12⟩
theorem zt_S.lays {nm d : String} {z : Nat} {U : State} {args : Array Value} (h : zt_S nm d z U) : (Cond.laysStatic Bundle.tN nm d).before args U = true := by
  obtain ⟨c, k, i, f, a, cell, v, h1, h2, h3, h4, h5, h6, h7, h8, h9, -⟩ := h
  show (Cond.laysStatic Bundle.tN nm d).holds args U none U [] = true
  exact Cond.laysStatic_of h1 h2 h3 h4 h5 h6 h7 h8 h9
theorem zt_S.ref {nm d : String} {z : Nat} {U : State} {args : Array Value} (h : zt_S nm d z U) : (Cond.isRef (.static Bundle.tN nm d)).before args U = true := by
  obtain ⟨c, k, i, f, a, cell, v, h1, h2, h3, h4, h5, h6, h7, h8, h9, h10, h11, h12⟩ := h
  have he : (Term.static Bundle.tN nm d).eval args U none [] U = some v := by
    simp [Term.eval, State.fieldNamed?, h2, h3, h4, h5, h6, h11]
  simp only [Cond.before, Cond.holds, Cond.value, he]
  cases v <;> simp_all [Value.isRef]
theorem zt_S.of {nm d : String} {U : State} {args : Array Value} (hl : (Cond.laysStatic Bundle.tN nm d).before args U = true) (hr : (Cond.isRef (.static Bundle.tN nm d)).before args U = true) : zt_S nm d U.heap.size U := by
  obtain ⟨c, k, i, f, a, cell, h1, h2, h3, h4, h5, h6, h7, h8, h9⟩ := Cond.laysStatic_spec hl
  have hv : cell.slots[f.slot]? = some cell.slots[f.slot] := Array.getElem?_eq_getElem h8
  have he : (Term.static Bundle.tN nm d).eval args U none [] U = some cell.slots[f.slot] := by
    simp [Term.eval, State.fieldNamed?, h2, h3, h4, h5, h6, h8]
  refine ⟨c, k, i, f, a, cell, cell.slots[f.slot], h1, h2, h3, h4, h5, h6, h7, h8, h9, (Array.getElem?_eq_some_iff.mp h5).1, hv, ?_⟩
  simp only [Cond.before, Cond.holds, Cond.value, he] at hr
  generalize cell.slots[f.slot] = v at hr
  cases v <;> simp_all [Value.isRef]
/-- pairs of exceptions of which the first is no case of the second -/
def zt_nc : List (String × String) := [("java/lang/IllegalStateException", "java/lang/IllegalArgumentException"), ("java/lang/IllegalArgumentException", "java/util/NoSuchElementException"), ("java/util/NoSuchElementException", "java/lang/IllegalArgumentException")]
def zt_H (z : Nat) (U : State) : Prop := zt_S "UNASSIGNED_STACK" Bundle.steD z U ∧ zt_S "SUPPRESSED_SENTINEL" Bundle.listD z U ∧ ∀ q ∈ zt_nc, va_Nc q.1 q.2 U
theorem zt_H.to {z : Nat} {u U : State} (h : zt_H z u) (hvm : u.vm.Alike U.vm) (hh : ∀ a : Nat, a < z → U.heap[a]? = u.heap[a]?) : zt_H z U := ⟨h.1.to hvm hh, h.2.1.to hvm hh, fun q hq => (h.2.2 q hq).moved hvm⟩
/-- what a general contract says of a method's end: it returned, or threw an object of the class E that lies behind z -/
def zg_o (D : za_D) (su : State) (r : Option za_V ⊕ String) (o : Outcome) (t : State) : Prop := match r with
  | .inl v => o = .returned (v.map (za_cv D.2.2))
  | .inr E => ∃ (i : Nat) (ce : Cell), o = .threw (D.2.2 + i) ∧ t.heap[D.2.2 + i]? = some ce ∧ su.vm.findClass E = some ce.cls
def zg_Q (D : za_D) (Post : Option za_V ⊕ String → za_H → Nat → Prop) (mc ms : Nat) : Array Value → State → Outcome → State → Prop := fun _ su o t =>
  ∃ (r : Option za_V ⊕ String) (h' : za_H) (n' : Nat) (L : List Loc), zg_o D su r o t ∧ Post r h' n' ∧ za_Rp D h' n' t.heap ∧ va_F (fun q : Nat => D.2.2 ≤ q) su t ∧ su.WarmedH t.vm ∧ su.sameButNew ({ t with vm := su.vm } : State) L mc ms ∧ ∀ x ∈ L, D.2.2 ≤ x.base
def zg_P (D : za_D) (av : List za_V) (h : za_H) (n : Nat) : Array Value → State → Prop := fun a U => za_P D av h n a U ∧ zt_H D.2.2 U
/-- GENERAL CONTRACT: K says what code Y has ('code', or 'codeWith' a table of handlers) -/
def zg_M (l : Launch) (D : za_D) (K : Cond) (Y : za_Y) (d mc ms : Nat) (av : List za_V) (h : za_H) (n : Nat) (Post : Option za_V ⊕ String → za_H → Nat → Prop) : Prop :=
  MetFree l Y.1 (headSpec (K :: za_tt) (za_rm d mc ms)) (zg_P D av h n) (fun _ _ _ _ _ => True) (zg_Q D Post mc ms)
def zg_MQ (below : List Frame) (D : za_D) (Post : Option za_V ⊕ String → za_H → Nat → Prop) (args : Array Value) (s : State) (mc ms : Nat) : State → Prop := fun t => ∃ o, t.status = .running ∧ Ended t below o ∧ zg_Q D Post mc ms args s o t
/-- what K says of Y's code -/
def zg_K (K : Cond) (Y : za_Y) (hs : List (Nat × Nat × Nat × Nat)) : Prop := ∀ (args : Array Value) (s : State) (m : MethodId), K.before args s = true → s.methodNamed? Y.1 = some m → ∃ (meth : Method) (c : Code), s.vm.method? m = some meth ∧ meth.code = some c ∧ c.code = Y.2.1 ∧ c.maxLocals = Y.2.2.1 ∧ meth.sig.returnType = Y.2.2.2 ∧ meth.locks = false ∧ parseMethodDescriptor Y.1.desc = some meth.sig ∧ c.exceptionTable.toList.map (fun h => (h.startPc, h.endPc, h.handlerPc, h.catchType)) = hs
theorem zg_Kcode (Y : za_Y) : zg_K (.code Y.1 Y.2.1 Y.2.2.1 Y.2.2.2) Y [] := by
  intro args s m h hn
  obtain ⟨meth, c, h1, h2, h3, h4, h5, h6, h7, h8⟩ := Cond.code_spec hn h
  refine ⟨meth, c, h1, h2, h3, h4, h5, h6, h8, ?_⟩
  have h9 : c.exceptionTable = #[] := by simpa using h7
  rw [h9]; rfl
theorem zg_Kwith (Y : za_Y) (hs : List (Nat × Nat × Nat × Nat)) : zg_K (.codeWith Y.1 Y.2.1 Y.2.2.1 Y.2.2.2 hs) Y hs := by
  intro args s m h hn
  obtain ⟨m', meth, c, h0, h1, h2, h3, h4, h5, h6, h7, h8⟩ := Cond.codeWith_spec h
  cases Option.some.inj (h0.symm.trans hn)
  exact ⟨meth, c, h1, h2, h3, h4, h6, h7, h8, h5⟩
set_option maxHeartbeats 1000000 in
theorem zg_enter {l : Launch} {D : za_D} {K : Cond} {Y : za_Y} {d mc ms n : Nat} {av : List za_V} {h : za_H} {Post : Option za_V ⊕ String → za_H → Nat → Prop} {hs : List (Nat × Nat × Nat × Nat)} (cd : List (Nat × Instr × Nat)) (fl : List (Nat × Nat × Nat)) (hK : zg_K K Y hs) (hy : plainName Y.1.cls = true) (hcd : ∀ q ∈ cd, decode Y.2.1 q.1 = .ok q.2) (hfl : ∀ q ∈ fl, za_FL Y.1.cls q) (hlen : (lg_sl (av.map (za_cv D.2.2))).length ≤ Y.2.2.1)
    (body : ∀ (p : Program) (e : Env) (s : State) (m : MethodId) (args : Array Value) (below : List Frame) (meth : Method) (c : Code), za_X p s m args meth c D Y.1.cls Y.2.1 cd fl Y.2.2.1 Y.2.2.2 → zt_H D.2.2 s → c.exceptionTable.toList.map (fun h => (h.startPc, h.endPc, h.handlerPc, h.catchType)) = hs →
      za_W p l e (za_rm d mc ms) s m args below meth c D Y.2.2.1 (zg_MQ below D Post args s mc ms) h n 0 0 0 (za_ar 0 av) [] []) : zg_M l D K Y d mc ms av h n Post := by
  unfold zg_M
  refine MetFree.of_bodyS (code := Y.2.1) (maxLocals := Y.2.2.1) (ret := Y.2.2.2) hy ?_ ?_
  · intro args s m hp hn
    obtain ⟨meth, c, h1, h2, h3, h4, h5, h6, -, -⟩ := hK args s m (atoms_spec (ws := K :: za_tt) hp _ List.mem_cons_self) hn
    exact ⟨meth, c, h1, h2, h3, h4, h5, h6⟩
  · intro p e s m args below meth c s₁ B hml hv _
    obtain ⟨⟨rfl, hR, hKn⟩, hH⟩ := hv
    have hts := atoms_spec (ws := K :: za_tt) B.pre
    have X₀ : Stand p l e (za_rm d mc ms) s m ((av.map (za_cv D.2.2)).toArray) below meth c s₁ [] 0 0 := Stand.of_body B
    obtain ⟨meth', c', h1, h2, -, -, -, -, -, hex⟩ := hK _ s m (hts _ List.mem_cons_self) B.named
    cases B.method.symm.trans h1
    cases X₀.code.symm.trans h2
    have hl := lv_entry (av.map (za_cv D.2.2)) (n := Y.2.2.1) hlen
    have hh0 : s₁.heap = s.heap := by rw [B.state]; rfl
    have k := body p e s m _ below meth c ⟨B.exec, B.bytes, hml, findClass_of_methodNamed B.named, fun w hw => hts w (List.mem_cons_of_mem _ hw), hKn, hcd, hfl, B.returns, B.notSynchronized, by rw [hR.1]; exact Nat.le_add_right _ _⟩ hH hex s.heap [] _ hR va_S.rf (by show lv_has _ _ (za_lx _ _ ++ _); rw [za_lx_0, List.nil_append, za_ar_eq]; exact hl)
    obtain ⟨t, a1, o, b1, b2, b3⟩ := k s₁ hh0 X₀
    rw [lg_entry_eq]
    exact ⟨t, o, a1, b1, b2, b3⟩
section ZGEND
variable {p : Program} {l : Launch} {e : Env} {R : Room} {s : State} {m : MethodId} {args : Array Value} {below : List Frame} {meth : Method} {c : Code} {D : za_D} {nL : Nat} {Q : State → Prop} {h0 : za_H} {n cells slots pc : Nat} {lv : List (Nat × za_V)} {st : List za_V} {vw : List (Nat × za_C)} {own : String} {cc : ByteArray} {cd : List (Nat × Instr × Nat)} {fl : List (Nat × Nat × Nat)} {ret : Option FieldType} {mc ms : Nat} {Post : Option za_V ⊕ String → za_H → Nat → Prop}
/-- a road that returns -/
theorem zg_of (kk : za_W p l e R s m args below meth c D nL (MQ below (za_Q D (fun v h' n' => Post (.inl v) h' n')) args s mc ms (fun q : Nat => D.2.2 ≤ q)) h0 n cells slots pc lv st vw) : za_W p l e R s m args below meth c D nL (zg_MQ below D Post args s mc ms) h0 n cells slots pc lv st vw := by
  intro H locs ls hR hS hl T hT X
  obtain ⟨t, a1, o, b1, b2, ⟨v, h', n', hv, hp, hRp, hF⟩, L, ⟨-, hW, hsm⟩, hL⟩ := kk H locs ls hR hS hl T hT X
  exact ⟨t, a1, o, b1, b2, .inl v, h', n', L, hv, hp, hRp, hF, hW, hsm, hL⟩
/-- the same frame, as if its method were called anew in the heap as it is now -/
theorem zt_base {T : State} {locs : List Loc} (X : Stand p l e R s m args below meth c T locs cells slots) {R' : Room} (hf : R'.frames ≤ R.frames) (hl : R'.locals ≤ R.locals) (hc : cells + R'.cells ≤ R.cells) (hs : slots + R'.slots ≤ R.slots) :
    Stand p l e R' ((T.setVm s.vm).setFrames (.invoking m args :: below)) m args below meth c T [] 0 0 := by
  have htop : (T.setVm s.vm).topJava?.isSome := X.here.top
  have hF : ((T.setVm s.vm).setFrames (.invoking m args :: below)).frames = .invoking m args :: below := State.frames_setFrames _ (State.cur_lt_of_top htop)
  obtain ⟨g1, hg1⟩ := Option.isSome_iff_exists.mp htop
  obtain ⟨fr, hfr⟩ := State.topJava?_eq_some.mp hg1
  obtain ⟨th, hth, -⟩ := State.frames_cons hfr
  have hnil : T.heap.toList.drop T.heap.size = [] := List.drop_eq_nil_of_le (Nat.le_of_eq Array.length_toList)
  have hlim : e.platform.stackLimits (T.setVm s.vm).me = e.platform.stackLimits s.me := X.limits
  have hbyt : (T.setVm s.vm).me.stackBytes = s.me.stackBytes := X.bytes
  have hroom : ((T.setVm s.vm).setFrames (.invoking m args :: below)).hasRoom e.platform R' = true := by
    have h := X.room
    have hu : ((T.setVm s.vm).setFrames (.invoking m args :: below)).localsInUse = s.localsInUse := by
      rw [State.localsInUse_invoking hF (meth := meth) (c := c) X.method X.code, State.localsInUse_invoking X.frames X.method X.code]
    have k1 := X.heapSize
    have k2 := X.used
    simp only [State.hasRoom, Bool.and_eq_true, decide_eq_true_eq] at h ⊢
    obtain ⟨⟨⟨⟨a1, a2, a3, a4, a5, a6⟩, a7⟩, a8⟩, -⟩ := h
    rw [X.frames, List.length_cons] at a2 a3
    simp only [hF, hu, List.length_cons, State.stackLimits_setFrames, State.stackBytes_setFrames, hlim, hbyt]
    have b7 : T.heap.size + R'.cells ≤ e.platform.maxCells := by omega
    have b8 : T.slotsUsed + R'.slots ≤ e.platform.maxSlots := by omega
    exact ⟨⟨⟨⟨by omega, by omega, by omega, by omega, by omega, a6⟩, b7⟩, b8⟩, X.book⟩
  refine ⟨X.admits, X.cas, X.clock, hF, hroom, X.hears, X.method, X.code, X.here, X.tail, X.warmed, by rw [State.stackLimits_setFrames]; rfl, by rw [State.stackBytes_setFrames]; rfl, ?_, Nat.le_refl _, Nat.le_refl _, ?_, ?_, fun a c9 h9 => ⟨c9, h9, rfl, rfl, fun _ _ => rfl⟩⟩
  · show T.setVm s.vm = { ((T.setVm s.vm).setFrames (.invoking m args :: below)).setFrames (T.setVm s.vm).frames with heap := T.heap, slotsUsed := T.slotsUsed }
    rw [State.setFrames_setFrames, State.setFrames_self hth]
    rfl
  · show T.slotsUsed = T.slotsUsed + ((T.heap.toList.drop T.heap.size).map (·.slots.size)).sum
    rw [hnil]; rfl
  · show ((T.heap.toList.drop T.heap.size).map (·.slots.size)).sum ≤ 0
    rw [hnil]; exact Nat.le_refl _
theorem zt_old {U : State} {k1 k2 : Nat} (h : s.sameButNew ({ U with vm := s.vm } : State) [] k1 k2) : s.heap.size ≤ U.heap.size ∧ ∀ q : Nat, q < s.heap.size → U.heap[q]? = s.heap[q]? := by
  obtain ⟨-, h2, -, -, -, h6⟩ := h
  refine ⟨h2, fun q hq => ?_⟩
  obtain ⟨c9, e1, e2, e3, e4⟩ := h6 q _ (Array.getElem?_eq_getElem hq)
  have hsl : c9.slots = (s.heap[q]).slots := Array.ext_getElem? fun i => e4 i fun hm => nomatch hm
  rw [hsl] at e2
  have e5 : U.heap[q]? = some c9 := e1
  rw [e5, Array.getElem?_eq_getElem hq]
  exact congrArg some e2
/-- the words of a throw of E: the class, its constructors up to Throwable's -/
def zt_E (own : String) (ik ic : Nat) (E : String) (names : List String) : Prop := Bundle.fit E = true ∧ (∀ x ∈ names, Bundle.fit x = true) ∧ Cond.classLink own ik E ∈ za_tt ∧ Cond.initialized E ∈ za_tt ∧ ∀ w ∈ Bundle.ownAtoms0 own ic E names, w ∈ za_tt ∨ w = .isRef (.static Bundle.tN "UNASSIGNED_STACK" Bundle.steD) ∨ w = .isRef (.static Bundle.tN "SUPPRESSED_SENTINEL" Bundle.listD) ∨ w = .laysStatic Bundle.tN "UNASSIGNED_STACK" Bundle.steD ∨ w = .laysStatic Bundle.tN "SUPPRESSED_SENTINEL" Bundle.listD
set_option maxHeartbeats 2000000 in
/-- throw new E() -/
theorem zg_throw (X : za_X p s m args meth c D own cc cd fl nL ret) (hH : zt_H D.2.2 s) (hst : l.stackTraces = false) (hnx : c.exceptionTable.toList.map (fun h => (h.startPc, h.endPc, h.handlerPc, h.catchType)) = []) {ik ic : Nat} {E : String} {names : List String} (f0 : za_fe cd pc = some (.new ik, 3)) (f3 : za_fe cd (pc + 3) = some (.dup, 1)) (f4 : za_fe cd (pc + 4) = some (.invokespecial ic, 3)) (f7 : za_fe cd (pc + 7) = some (.athrow, 1)) (hE : zt_E own ik ic E names)
    (hfr : names.length + 3 < R.frames) (hlo : za_wt st + (13 * (names.length + 1) + 42) ≤ R.locals) (hce : cells + 1 ≤ R.cells) (hsl : slots + 6 ≤ R.slots) (hp : Post (.inr E) (za_ov h0 vw) (n + 1)) (hc : cells + 1 ≤ mc) (hs : slots + 6 ≤ ms) : za_W p l e R s m args below meth c D nL (zg_MQ below D Post args s mc ms) h0 n cells slots pc lv st vw := by
  intro H locs ls hR hS hl T hT X9
  obtain ⟨hx, hb, hml, hown, hts, hK, hcd, hF, hr, hlocks, hz⟩ := X
  obtain ⟨hE1, hE2, hE3, hE4, hE5⟩ := hE
  have htr : e.platform.stackTraces = false := (show e.platform.stackTraces = l.stackTraces by rw [X9.admits.platform]).trans hst
  have Y := zt_base X9 (R' := { frames := R.frames, locals := R.locals, cells := 1, slots := 6 }) (Nat.le_refl _) (Nat.le_refl _) hce hsl
  obtain ⟨s', hA⟩ : ∃ q, q = (T.setVm s.vm).setFrames (.invoking m args :: below) := ⟨_, rfl⟩
  rw [← hA] at Y
  have hvm : s'.vm = s.vm := by rw [hA]; rfl
  have hhp : s'.heap = H := by rw [hA]; exact hT
  have hW0 : s.WarmedH s'.vm := by rw [hvm]; exact State.WarmedH.refl s
  have hH' : zt_H D.2.2 s' := hH.to hW0.alike (fun a ha => by rw [hhp]; exact hS.2.1 a (Nat.lt_of_lt_of_le ha hz) (Nat.not_le.mpr ha))
  have hts' : ∀ w ∈ za_tt, w.before args s' = true := fun w hw => za_pay w hw (hts w hw) hW0
  have hown' : s'.vm.findClass own = some m.cls := by rw [hvm]; exact hown
  have hat : ∀ w ∈ Bundle.ownAtoms0 own ic E names, w.before args s' = true := by
    intro w hw
    rcases hE5 w hw with h | rfl | rfl | rfl | rfl
    · exact hts' w h
    · exact hH'.1.ref
    · exact hH'.2.1.ref
    · exact hH'.1.lays
    · exact hH'.2.1.lays
  have hins : (Cond.instantiable E 6).before args s' = true := hat _ (by simp [Bundle.ownAtoms0])
  have hnx2 : c.exceptionTable.toList = [] := List.map_eq_nil_iff.mp hnx
  obtain ⟨vm₁, cX, kX, hfX, hkX, -, -, X₁, st1⟩ := Y.newCold hx (own := own) (C := E) (index := ik) (n := 6) hown' (hts' _ hE3) hins (hts' _ hE4)
    (g := F0 m pc ls (st.map (za_cv D.2.2))) rfl (by rw [hb]; exact za_fe_ok hcd f0) (Nat.le_refl _) (Nat.le_refl _)
  generalize hT1 : (T.setVm vm₁).pushCell { cls := cX, slots := kX.instanceTypes.map defaultValue, vm := .none } = T1 at X₁ st1
  have hcat : (Value.ref T.heap.size).category = 1 := rfl
  have hcellA : T1.heap[T.heap.size]? = some (freshCell cX kX) := by rw [← hT1]; exact State.heap_pushCell_size _ _
  have d3 : decode c.code (pc + 3) = .ok (.dup, 1) := by rw [hb]; exact za_fe_ok hcd f3
  obtain ⟨U, hsteps, hrun, hend, hW, hsame, ce, hce2, hO⟩ := X₁.ctorThrow0 hx htr (own := own) (cls := E) (names := names) (ic := ic) hown' hE1 hE2 hat (fun x hx => nomatch hx) hfX hkX hcellA (by rw [hhp, hT]; exact Nat.le_refl _)
    (g := { method := m, pc := pc + 4, locals := ls, stack := .ref T.heap.size :: .ref T.heap.size :: st.map (za_cv D.2.2), locked := none }) rfl (by rw [hml]; exact hl.1) rfl rfl (rest := st.map (za_cv D.2.2)) rfl
    (by rw [hb]; exact za_fe_ok hcd f4) (by rw [hb]; exact za_fe_ok hcd f7) (fun x hx => by rw [hnx2] at hx; cases hx) hfr (by
      simp only [List.map_cons, List.sum_cons, hcat, za_wt_eq]
      show 2 * 0 + _ + _ ≤ R.locals
      omega) hlocks
  obtain ⟨f1, f2⟩ := zt_old hsame
  rw [hhp] at f1 f2
  have hWs : s.WarmedH U.vm := State.WarmedH.trans hW0 hW
  have hsz : T.heap.size = D.2.2 + n := by rw [hT]; exact hR.1
  have hall : s.sameButNew ({ U with vm := s.vm } : State) locs (cells + 1) (slots + 6) := by
    subst hA
    obtain ⟨e1, e2⟩ := hsame
    rw [State.setFrames_setFrames] at e1
    have h2 : (T.setVm s.vm).sameButNew ({ U with vm := s.vm } : State) [] (0 + 1) (0 + 6) := ⟨e1, e2⟩
    have h3 := X9.same.trans h2
    rw [List.append_nil] at h3
    exact h3
  have hUsz : U.heap.size = D.2.2 + n + 1 := by
    have h4 : U.heap.size ≤ s'.heap.size + (0 + 1) := hsame.2.2.1
    rw [hhp, hR.1] at h4
    have h5 : T.heap.size < U.heap.size := (Array.getElem?_eq_some_iff.mp hce2).1
    omega
  have hRU : za_Rp D (za_ov h0 vw) (n + 1) U.heap := hR.push hUsz (fun q hq => f2 q (by rw [hR.1]; exact hq)) (fun c9 h9 => by
    rw [hsz] at hce2
    rw [hce2] at h9
    cases h9
    exact hO.vm)
  refine ⟨U, ?_, .threw T.heap.size, hrun, hend, .inr E, za_ov h0 vw, n + 1, locs, ⟨n, ce, by rw [hsz], by rw [← hsz]; exact hce2, by have h9 := hO.cls; rw [hvm] at h9; exact h9⟩, hp, hRU, ⟨by rw [hUsz]; have := hS.1; rw [hR.1] at this; omega, fun q h1 h2 => (f2 q (Nat.lt_of_lt_of_le h1 hS.1)).trans (hS.2.1 q h1 h2)⟩, hWs, hall.mono hc hs, hS.2.2⟩
  refine st1 _ ?_
  show Steps p.tables e below (T1.setTop { method := m, pc := pc + 3, locals := ls, stack := .ref T.heap.size :: st.map (za_cv D.2.2), locked := none }) _
  jvm_step X₁.here [X₁.here.top, hx, d3, Value.category]
  exact hsteps
end ZGEND
end
section
/-! CALLS BY A GENERAL CONTRACT -/
/-- where a call has thrown: the object lies at z + i and is of the class E; the frame stands at the call, its arguments taken off -/
def zg_Z (p : Program) (l : Launch) (e : Env) (R : Room) (s : State) (m : MethodId) (args : Array Value) (below : List Frame) (meth : Method) (c : Code) (D : za_D) (nL : Nat) (Q : State → Prop) (h0 : za_H) (n cells slots pc : Nat) (lv : List (Nat × za_V)) (st : List za_V) (E : String) (i : Nat) : Prop :=
  ∀ (H : Heap) (locs : List Loc) (ls : Array Slot), za_Rp D h0 n H → va_S (fun q : Nat => D.2.2 ≤ q) s.heap H locs → za_lh args ls nL D.2.2 lv → (∃ ce : Cell, H[D.2.2 + i]? = some ce ∧ s.vm.findClass E = some ce.cls) →
    ∀ T : State, T.heap = H → Stand p l e R s m args below meth c T locs cells slots → ∃ t, Steps p.tables e below ((T.setTop (F0 m pc ls (st.map (za_cv D.2.2)))).pushFrame (.throwing (D.2.2 + i))) t ∧ Q t
section ZGCALL
variable {p : Program} {l : Launch} {e : Env} {R : Room} {s : State} {m : MethodId} {args : Array Value} {below : List Frame} {meth : Method} {c : Code} {D : za_D} {nL : Nat} {Q : State → Prop} {h0 : za_H} {n cells slots pc : Nat} {lv : List (Nat × za_V)} {st : List za_V} {vw : List (Nat × za_C)} {own : String} {cc : ByteArray} {cd : List (Nat × Instr × Nat)} {fl : List (Nat × Nat × Nat)} {ret : Option FieldType} {mc ms d np idx b : Nat} {K : Cond} {Y : za_Y} {as rest av : List za_V} {Post : Option za_V ⊕ String → za_H → Nat → Prop} {hs : List (Nat × Nat × Nat × Nat)}
def zg_E (p : Program) (e : Env) (below : List Frame) (D : za_D) (U : State) (g : JFrame) (len : Nat) (mk : MethodId) (av : List za_V) (B : State) (r : Option za_V ⊕ String) : Prop := match r with
  | .inl v => Steps p.tables e below (doInvoke e (U.setTop g) [] mk (av.map (za_cv D.2.2)).toArray).1 (B.setTop { g with pc := g.pc + len, stack := (v.map (za_cv D.2.2)).toList ++ g.stack })
  | .inr E => ∃ (i : Nat) (ce : Cell), B.heap[D.2.2 + i]? = some ce ∧ U.vm.findClass E = some ce.cls ∧ Steps p.tables e below (doInvoke e (U.setTop g) [] mk (av.map (za_cv D.2.2)).toArray).1 ((B.setTop g).pushFrame (.throwing (D.2.2 + i)))
set_option maxHeartbeats 2000000 in
theorem zg_back {h : za_H} {U : State} {locs : List Loc} (hM : zg_M l D K Y d mc ms av h n Post) (hK : zg_K K Y hs) (hKt : K ∈ za_tt) (hini : Cond.initialized Y.1.cls ∈ za_tt) (X : Stand p l e R s m args below meth c U locs cells slots) (hts : ∀ w ∈ za_tt, w.before args s = true)
    {g : JFrame} {ig : Instr} {len : Nat} {mk : MethodId} (hg : g.method = m) (hsize : g.locals.size = c.maxLocals) (hdg : decode c.code g.pc = .ok (ig, len)) (hW : 2 * g.monitorRoom + (g.stack.map fun v => v.category).sum ≤ 8) (hn : U.methodNamed? Y.1 = some mk)
    (hfr : d + 1 ≤ R.frames) (hlo : 8 + (Y.2.2.1 + 11) + 40 * d ≤ R.locals) (hce : cells + mc ≤ R.cells) (hsl : slots + ms ≤ R.slots) (hR : za_Rp D h n U.heap) (hKn : va_K D.1 za_cl (za_tys D) U) (hH : zt_H D.2.2 U) :
    ∃ (r : Option za_V ⊕ String) (h' : za_H) (n' : Nat) (B : State) (L : List Loc), Post r h' n' ∧ za_Rp D h' n' B.heap ∧ Stand p l e R s m args below meth c B (locs ++ L) (cells + mc) (slots + ms) ∧ (∀ x ∈ L, D.2.2 ≤ x.base) ∧ va_F (fun q : Nat => D.2.2 ≤ q) U B ∧ zg_E p e below D U g len mk av B r := by
  have hpay : ∀ w ∈ za_tt, ∀ a' : Array Value, w.before a' U = true := fun w hw a' => za_pay w hw (hts w hw) X.warmed
  have h1 : (headSpec (K :: za_tt) (za_rm d mc ms)).pre.before (av.map (za_cv D.2.2)).toArray U = true := atoms_intro fun w hw => by
    rcases List.mem_cons.mp hw with rfl | hw
    · exact hpay _ hKt _
    · exact hpay _ hw _
  obtain ⟨methY, cY, hmY, hcY, -, hlY, -, -, -, -⟩ := hK (av.map (za_cv D.2.2)).toArray U mk (hpay _ hKt _) hn
  obtain ⟨kY, hkY, -⟩ := className_of_methodNamed hn
  have hinitY : kY.init = .initialized := Cond.initialized_spec (findClass_of_methodNamed hn) hkY (hpay _ hini (av.map (za_cv D.2.2)).toArray)
  have hat : At U g.method c below := by rw [hg]; exact X.here
  have happ : (headSpec (K :: za_tt) (za_rm d mc ms)).appliesLoose Y.1 e.platform (U.calling g mk (av.map (za_cv D.2.2)).toArray) = true :=
    Spec.appliesLoose_calling (g := g) hat hdg hn hkY hinitY
      (X.room_calling (g := g) (R' := (headSpec (K :: za_tt) (za_rm d mc ms)).room) hsize hmY hcY hfr (by rw [hlY]; show _ + 40 * d ≤ _; omega) hce hsl) h1
  obtain ⟨mid, hmid⟩ := hat.above
  have hfrm : (U.setTop g).frames = (.java g :: mid) ++ below := by rw [State.frames_setTop' g hat.top, hmid]; rfl
  have hPc : zg_P D av h n (av.map (za_cv D.2.2)).toArray (U.calling g mk (av.map (za_cv D.2.2)).toArray) := ⟨⟨rfl, hR, va_K.moved (u := U) (U := U.calling g mk (av.map (za_cv D.2.2)).toArray) (Vm.Alike.refl U.vm) hKn⟩, hH.to (U := U.calling g mk (av.map (za_cv D.2.2)).toArray) (Vm.Alike.refl U.vm) (fun _ _ => rfl)⟩
  obtain ⟨o, s₂, hsteps, -, hend, hq⟩ := Steps.callFree hM p X.admits X.cas X.clock (acts := []) hfrm happ hPc trivial
  obtain ⟨r, h', n', L, hro, hp, hRp, hF, hW₂, hsm, hL⟩ := (show zg_Q D Post mc ms (av.map (za_cv D.2.2)).toArray (U.calling g mk (av.map (za_cv D.2.2)).toArray) o s₂ from hq)
  rw [State.frames_setTop' g hat.top] at hend
  obtain ⟨g1, hg1⟩ := Option.isSome_iff_exists.mp hat.top
  obtain ⟨fr, hfr1⟩ := State.topJava?_eq_some.mp hg1
  have hfr2 : (({ U with heap := s₂.heap, slotsUsed := s₂.slotsUsed } : State).setVm s₂.vm).frames = .java g1 :: fr := hfr1
  obtain ⟨e2, q2, q3, q4, q5, q6⟩ := id hsm
  have e3 : s₂ = ({ (U.calling g mk (av.map (za_cv D.2.2)).toArray).setFrames s₂.frames with heap := s₂.heap, slotsUsed := s₂.slotsUsed } : State).setVm s₂.vm := by
    have h9 : s₂ = ({ s₂ with vm := (U.calling g mk (av.map (za_cv D.2.2)).toArray).vm } : State).setVm s₂.vm := rfl
    rw [e2] at h9
    exact h9
  have hW' : U.WarmedH s₂.vm := hW₂
  have hsame : U.sameButNew ({ U with heap := s₂.heap, slotsUsed := s₂.slotsUsed } : State) L mc ms := by
    refine ⟨?_, q2, q3, q4, q5, q6⟩
    obtain ⟨th, hth, -⟩ := State.frames_cons hfr1
    show ({ U with heap := s₂.heap, slotsUsed := s₂.slotsUsed } : State) = { U.setFrames U.frames with heap := s₂.heap, slotsUsed := s₂.slotsUsed }
    rw [State.setFrames_self hth]
  have hB : Stand p l e R s m args below meth c (({ U with heap := s₂.heap, slotsUsed := s₂.slotsUsed } : State).setVm s₂.vm) (locs ++ L) (cells + mc) (slots + ms) :=
    ⟨X.admits, X.cas, X.clock, X.frames, X.room, X.hears, X.method, X.code, (X.here.setHeapUsed s₂.heap s₂.slotsUsed).setVm hW'.alike, X.tail, State.WarmedH.trans X.warmed hW', X.limits, X.bytes, X.same.trans (hsame.setVm s.vm)⟩
  refine ⟨r, h', n', ({ U with heap := s₂.heap, slotsUsed := s₂.slotsUsed } : State).setVm s₂.vm, L, hp, hRp, hB, hL, hF, ?_⟩
  rcases r with v | E
  · have ho : o = .returned (v.map (za_cv D.2.2)) := hro
    subst ho
    obtain ⟨c₂, i₂, len₂, hc₂, hd₂, hf₂⟩ := hend
    have hcc : c₂ = c := by
      have h9 : s₂.code? g.method = U.code? g.method := by
        rw [State.code?_eq, State.code?_eq, hW'.alike.method?]
      exact Option.some.inj (hc₂.symm.trans (h9.trans hat.code))
    subst hcc
    have hlen : len₂ = len := by rw [hdg] at hd₂; cases hd₂; rfl
    subst hlen
    have hs₂ : s₂ = (({ U with heap := s₂.heap, slotsUsed := s₂.slotsUsed } : State).setVm s₂.vm).setTop { g with pc := g.pc + len₂, stack := (v.map (za_cv D.2.2)).toList ++ g.stack } := by
      refine e3.trans ?_
      rw [hf₂, State.calling_eq hat.top, State.setFrames_setFrames, State.setTop_of_frames _ hfr2, hfr1]
      rfl
    show Steps p.tables e below _ ((({ U with heap := s₂.heap, slotsUsed := s₂.slotsUsed } : State).setVm s₂.vm).setTop { g with pc := g.pc + len₂, stack := (v.map (za_cv D.2.2)).toList ++ g.stack })
    rw [← hs₂]
    exact hsteps
  · obtain ⟨i, ce, ho, hc1, hc2⟩ := (show ∃ (i : Nat) (ce : Cell), o = .threw (D.2.2 + i) ∧ s₂.heap[D.2.2 + i]? = some ce ∧ (U.calling g mk (av.map (za_cv D.2.2)).toArray).vm.findClass E = some ce.cls from hro)
    subst ho
    have hf₂ : s₂.frames = .throwing (D.2.2 + i) :: .java g :: U.frames.tail := hend
    have hs₂ : s₂ = ((({ U with heap := s₂.heap, slotsUsed := s₂.slotsUsed } : State).setVm s₂.vm).setTop g).pushFrame (.throwing (D.2.2 + i)) := by
      refine e3.trans ?_
      rw [hf₂, State.calling_eq hat.top, State.setFrames_setFrames, State.pushFrame, State.frames_setTop _ hfr2, State.setTop_of_frames _ hfr2, State.setFrames_setFrames, hfr1]
      rfl
    refine ⟨i, ce, hc1, hc2, ?_⟩
    show Steps p.tables e below _ (((({ U with heap := s₂.heap, slotsUsed := s₂.slotsUsed } : State).setVm s₂.vm).setTop g).pushFrame (.throwing (D.2.2 + i)))
    rw [← hs₂]
    exact hsteps
/-- what goes on behind a call -/
def zg_N (p : Program) (l : Launch) (e : Env) (R : Room) (s : State) (m : MethodId) (args : Array Value) (below : List Frame) (meth : Method) (c : Code) (D : za_D) (nL : Nat) (Q : State → Prop) (h0 : za_H) (n cells slots pc : Nat) (lv : List (Nat × za_V)) (st : List za_V) (r : Option za_V ⊕ String) : Prop := match r with
  | .inl v => za_W p l e R s m args below meth c D nL Q h0 n cells slots (pc + 3) lv (v.toList ++ st) []
  | .inr E => ∀ i : Nat, zg_Z p l e R s m args below meth c D nL Q h0 n cells slots pc lv st E i
theorem zg_next {H : Heap} {locs : List Loc} {ls : Array Slot} {T U : State} {mk : MethodId} (hS : va_S (fun q : Nat => D.2.2 ≤ q) s.heap H locs) (hl : za_lh args ls nL D.2.2 lv) (hU : U.heap = H) (hWU : s.WarmedH U.vm)
    (hb : ∃ (r : Option za_V ⊕ String) (h' : za_H) (n' : Nat) (B : State) (L : List Loc), Post r h' n' ∧ za_Rp D h' n' B.heap ∧ Stand p l e R s m args below meth c B (locs ++ L) (cells + mc) (slots + ms) ∧ (∀ x ∈ L, D.2.2 ≤ x.base) ∧ va_F (fun q : Nat => D.2.2 ≤ q) U B ∧ zg_E p e below D U (F0 m pc ls (rest.map (za_cv D.2.2))) 3 mk av B r)
    (hgo : ∀ target, Steps p.tables e below (doInvoke e (U.setTop (F0 m pc ls (rest.map (za_cv D.2.2)))) [] mk (av.map (za_cv D.2.2)).toArray).1 target → Steps p.tables e below T target)
    (kk : ∀ (r : Option za_V ⊕ String) (h' : za_H) (n' : Nat), Post r h' n' → zg_N p l e R s m args below meth c D nL Q h' n' (cells + mc) (slots + ms) pc lv rest r) : ∃ t, Steps p.tables e below T t ∧ Q t := by
  obtain ⟨r, h', n', B, L, hp, hRp, hB, hL, ⟨hF1, hF2⟩, hE⟩ := hb
  rw [hU] at hF1 hF2
  have hS1 : va_S (fun q : Nat => D.2.2 ≤ q) s.heap B.heap (locs ++ L) := ⟨Nat.le_trans hS.1 hF1, fun q h1 h2 => (hF2 q (Nat.lt_of_lt_of_le h1 hS.1) h2).trans (hS.2.1 q h1 h2), fun q hq => by
    rcases List.mem_append.mp hq with h | h
    · exact hS.2.2 q h
    · exact hL q h⟩
  have k := kk r h' n' hp
  rcases r with v | E
  · have hE2 : Steps p.tables e below _ (B.setTop { F0 m pc ls (rest.map (za_cv D.2.2)) with pc := pc + 3, stack := (v.map (za_cv D.2.2)).toList ++ rest.map (za_cv D.2.2) }) := hE
    obtain ⟨t, a1, b1⟩ := k B.heap (locs ++ L) ls hRp hS1 hl B rfl hB
    rw [← za_toL] at a1
    exact ⟨t, hgo t (hE2.trans a1), b1⟩
  · obtain ⟨i, ce, h1, h2, h3⟩ := hE
    obtain ⟨t, a1, b1⟩ := k i B.heap (locs ++ L) ls hRp hS1 hl ⟨ce, h1, by rw [← hWU.alike.findClass]; exact h2⟩ B rfl hB
    exact ⟨t, hgo t (h3.trans a1), b1⟩
set_option maxHeartbeats 2000000 in
theorem zg_callV (X : za_X p s m args meth c D own cc cd fl nL ret) (hH : zt_H D.2.2 s) (hf : za_fe cd pc = some (.invokevirtual idx, 3)) (hL : Cond.methodLink own idx Y.1 ∈ za_tt) (hK : zg_K K Y hs) (hKt : K ∈ za_tt) (hini : Cond.initialized Y.1.cls ∈ za_tt) (hin : Cond.instanceMethod Y.1 ∈ za_tt) (hse : Cond.selects Y.1.cls Y.1 Y.1 ∈ za_tt) (hy : Y.1.cls ≠ "java/lang/invoke/MethodHandle" ∧ Y.1.cls ≠ "java/lang/invoke/VarHandle") (hnp : (parseMethodDescriptor Y.1.desc).map (fun d => d.parameters.length) = some as.length)
    (hM : zg_M l D K Y d mc ms (vR b :: as) (za_ov h0 vw) n Post) (hst : st = as.reverse ++ vR b :: rest) {ci N : Nat} {fs : List za_V} {T0 : u_T} (hrc : za_ov h0 vw b = some (.inr (ci, fs))) (hcl : za_cl[ci]? = some (Y.1.cls, T0, N)) (hw : za_wt rest ≤ 8) (hfr : d + 1 ≤ R.frames) (hlo : 8 + (Y.2.2.1 + 11) + 40 * d ≤ R.locals) (hce : cells + mc ≤ R.cells) (hsl : slots + ms ≤ R.slots)
    (kk : ∀ (r : Option za_V ⊕ String) (h' : za_H) (n' : Nat), Post r h' n' → zg_N p l e R s m args below meth c D nL Q h' n' (cells + mc) (slots + ms) pc lv rest r) : za_W p l e R s m args below meth c D nL Q h0 n cells slots pc lv st vw := by
  intro H locs ls hR hS hl T hT X9
  subst hst
  obtain ⟨hx, hb, hml, hown, hts, hKn, hcd, hF, hr, hlocks, hz⟩ := X
  have hd : decode c.code pc = .ok (.invokevirtual idx, 3) := by rw [hb]; exact za_fe_ok hcd hf
  obtain ⟨mk, methM, hnamed, hmethM, hstM, habM⟩ := Cond.instanceMethod_spec (hts _ hin)
  obtain ⟨methM', cM, hmethM', -, -, -, -, -, hsigM, -⟩ := hK args s mk (hts _ hKt) hnamed
  cases hmethM.symm.trans hmethM'
  obtain ⟨cellB, hcB, hoB, hclB⟩ := va_recv hKn (za_P1 (q := (D.2.2 + b, .inr (ci, fs.map (za_cv D.2.2)))) (hR.2.1 b _ hrc)) hcl (q0 := 0) rfl
  obtain ⟨c2, r2, m2, q1, q2, q3, q4, kP, hkP, hkPi⟩ := Cond.selects_spec (hts _ hse)
  cases hclB.symm.trans q1
  cases (State.methodFound?_of_named hnamed hy).symm.trans q2
  cases hnamed.symm.trans q3
  have hselP : selectMethod e.platform s.vm cellB.cls mk = .method mk := by rw [Launch.admits_selectMethod X9.admits]; exact q4
  have hstk : (F0 m pc ls ((as.reverse ++ vR b :: rest).map (za_cv D.2.2))).stack = (as.map (za_cv D.2.2)).reverse ++ .ref (D.2.2 + b) :: rest.map (za_cv D.2.2) := by
    show (as.reverse ++ vR b :: rest).map (za_cv D.2.2) = _
    rw [List.map_append, List.map_reverse]
    rfl
  have hlen : (as.map (za_cv D.2.2)).length = methM.sig.parameters.length := by
    rw [hsigM] at hnp
    rw [List.length_map]
    exact (Option.some.inj hnp).symm
  obtain ⟨vm₁, X₁, hstep₁⟩ := X9.invokevirtual hx hown (hts _ hL) hnamed hmethM hstM hkP hkPi hy (a := D.2.2 + b) (cell := cellB) (by rw [hT]; exact hcB)
    (fun z h => by rw [h] at hoB; cases hoB) hselP hmethM habM hkP hkPi (g := F0 m pc ls ((as.reverse ++ vR b :: rest).map (za_cv D.2.2))) rfl (argsL := as.map (za_cv D.2.2)) (rest := rest.map (za_cv D.2.2)) hlen hstk hd
  have hrm := lv_room (m := m) (pc := pc) (ls := ls) (rest := rest.map (za_cv D.2.2)) (st := rest.map (za_cv D.2.2)) (by rw [za_wt_eq]; exact hw)
  have hbk := zg_back (U := T.setVm vm₁) hM hK hKt hini X₁ hts (g := F0 m pc ls (rest.map (za_cv D.2.2))) rfl (by rw [hml]; exact hl.1) hd hrm (X₁.named hnamed) hfr hlo hce hsl (by show za_Rp D _ n T.heap; rw [hT]; exact hR) (va_K.moved X₁.warmed.alike hKn) (hH.to X₁.warmed.alike (fun a ha => by show T.heap[a]? = _; rw [hT]; exact hS.2.1 a (Nat.lt_of_lt_of_le ha hz) (Nat.not_le.mpr ha)))
  exact zg_next (U := T.setVm vm₁) hS hl hT X₁.warmed hbk (fun target h => hstep₁ _ fun acts => by rw [doInvoke_state]; exact h) kk
set_option maxHeartbeats 2000000 in
theorem zg_callS (X : za_X p s m args meth c D own cc cd fl nL ret) (hH : zt_H D.2.2 s) (hf : za_fe cd pc = some (.invokestatic idx, 3)) (hL : Cond.methodLink own idx Y.1 ∈ za_tt) (hK : zg_K K Y hs) (hKt : K ∈ za_tt) (hini : Cond.initialized Y.1.cls ∈ za_tt) (hsta : Cond.static Y.1 ∈ za_tt) (hy : Y.1.cls ≠ "java/lang/invoke/MethodHandle" ∧ Y.1.cls ≠ "java/lang/invoke/VarHandle") (hnp : (parseMethodDescriptor Y.1.desc).map (fun d => d.parameters.length) = some as.length) (hnd : ∀ (a : Array Value) (u : State), K.before a u = true → ∃ mk, u.methodNamed? Y.1 = some mk)
    (hM : zg_M l D K Y d mc ms as (za_ov h0 vw) n Post) (hst : st = as.reverse ++ rest) (hw : za_wt rest ≤ 8) (hfr : d + 1 ≤ R.frames) (hlo : 8 + (Y.2.2.1 + 11) + 40 * d ≤ R.locals) (hce : cells + mc ≤ R.cells) (hsl : slots + ms ≤ R.slots)
    (kk : ∀ (r : Option za_V ⊕ String) (h' : za_H) (n' : Nat), Post r h' n' → zg_N p l e R s m args below meth c D nL Q h' n' (cells + mc) (slots + ms) pc lv rest r) : za_W p l e R s m args below meth c D nL Q h0 n cells slots pc lv st vw := by
  intro H locs ls hR hS hl T hT X9
  subst hst
  obtain ⟨hx, hb, hml, hown, hts, hKn, hcd, hF, hr, hlocks, hz⟩ := X
  have hd : decode c.code pc = .ok (.invokestatic idx, 3) := by rw [hb]; exact za_fe_ok hcd hf
  obtain ⟨mk, hnamed⟩ := hnd args s (hts _ hKt)
  obtain ⟨methM, cM, hmethM, -, -, -, -, -, hsigM, -⟩ := hK args s mk (hts _ hKt) hnamed
  have hstatic : methM.isStatic = true := Cond.static_spec hnamed hmethM (hts _ hsta)
  obtain ⟨kP, hkP, -⟩ := className_of_methodNamed hnamed
  have hinitP : kP.init = .initialized := Cond.initialized_spec (findClass_of_methodNamed hnamed) hkP (hts _ hini)
  have hstk : (F0 m pc ls ((as.reverse ++ rest).map (za_cv D.2.2))).stack = (as.map (za_cv D.2.2)).reverse ++ rest.map (za_cv D.2.2) := by
    show (as.reverse ++ rest).map (za_cv D.2.2) = _
    rw [List.map_append, List.map_reverse]
  have hlen : (as.map (za_cv D.2.2)).length = methM.sig.parameters.length := by
    rw [hsigM] at hnp
    rw [List.length_map]
    exact (Option.some.inj hnp).symm
  obtain ⟨vm₁, X₁, hstep₁⟩ := X9.invokestatic hx hown (hts _ hL) hnamed hmethM hstatic hkP hinitP hy (g := F0 m pc ls ((as.reverse ++ rest).map (za_cv D.2.2))) rfl (argsL := as.map (za_cv D.2.2)) (rest := rest.map (za_cv D.2.2)) hlen hstk hd
  have hrm := lv_room (m := m) (pc := pc) (ls := ls) (rest := rest.map (za_cv D.2.2)) (st := rest.map (za_cv D.2.2)) (by rw [za_wt_eq]; exact hw)
  have hbk := zg_back (U := T.setVm vm₁) hM hK hKt hini X₁ hts (g := F0 m pc ls (rest.map (za_cv D.2.2))) rfl (by rw [hml]; exact hl.1) hd hrm (X₁.named hnamed) hfr hlo hce hsl (by show za_Rp D _ n T.heap; rw [hT]; exact hR) (va_K.moved X₁.warmed.alike hKn) (hH.to X₁.warmed.alike (fun a ha => by show T.heap[a]? = _; rw [hT]; exact hS.2.1 a (Nat.lt_of_lt_of_le ha hz) (Nat.not_le.mpr ha)))
  exact zg_next (U := T.setVm vm₁) hS hl hT X₁.warmed hbk (fun target h => hstep₁ _ fun acts => by rw [doInvoke_state]; exact h) kk
end ZGCALL
theorem zh_fvf (u : State) (vm' : Vm) (F G : List Frame) : ((u.setFrames F).setVm vm').setFrames G = (u.setVm vm').setFrames G := (show ((u.setVm vm').setFrames F).setFrames G = (u.setVm vm').setFrames G from State.setFrames_setFrames _ _ _)
/-! CATCHES: the search through a method's table, its classes resolved or not -/
section ZGCATCH
/-- a row that the search passes -/
def zh_no (pl : Platform) (s : State) (d : ClassId) (pc : Nat) (tc : ClassId) (y : ExceptionTableEntry) : Prop := covers y pc = false ∨ (covers y pc = true ∧ y.catchType ≠ 0 ∧ ∃ c, s.vm.ClassLinks pl d y.catchType c ∧ s.vm.assignable tc c = false)
theorem zh_one {Q : Handler → Pre} {E : CtlPost} {e : Env} {d : Bool} {acts : List Action} {s : State} {f : JFrame} {a : Addr} {x : ExceptionTableEntry} {t : List ExceptionTableEntry} {c : ClassId} {cell : Cell} (hx : covers x f.pc = true) (h0 : x.catchType ≠ 0)
    (hl : s.vm.ClassLinks e.platform f.method.cls x.catchType c) (hcell : s.heap[a]? = some cell) (hobj : ∀ k, cell.vm ≠ .statics k) (hk : ∃ k, s.vm.classes[cell.cls]? = some k) (hc : ∃ k, s.vm.classes[c]? = some k) :
    wp (findHandler.go f a (x :: t)) Q E e d acts s ↔ if s.vm.assignable cell.cls c = true then Q (.found x.handlerPc) d acts (s.setVm (s.vm.noted f.method.cls x.catchType (.cls c))) else wp (findHandler.go f a t) Q E e d acts (s.setVm (s.vm.noted f.method.cls x.catchType (.cls c))) := by
  simp only [covers] at hx
  obtain ⟨g1, g2⟩ := (resolveClass_links e.toSetting hl).op (op := VmOp.resolveClass f.method.cls x.catchType) rfl
  have hal : s.vm.Alike (s.vm.noted f.method.cls x.catchType (.cls c)) := (Vm.Alike.refl s.vm).noted _ _ _
  obtain ⟨k1, hk1⟩ := hk
  obtain ⟨k2, hk2⟩ := hc
  obtain ⟨k3, hk3, -⟩ := hal.2.2 _ _ hk1
  obtain ⟨k4, hk4, -⟩ := hal.2.2 _ _ hk2
  have has : (s.vm.noted f.method.cls x.catchType (.cls c)).assignable cell.cls c = s.vm.assignable cell.cls c := by rw [hal.assignable]
  cases hv : s.vm.assignable cell.cls c with
  | true =>
    rw [hv] at has
    simp [findHandler.go, hx, h0, g1, g2, hcell, hobj, hk3, hk4, has, VmOp.dirties, VmOp.acts]
  | false =>
    rw [hv] at has
    simp [findHandler.go, hx, h0, g1, g2, hcell, hobj, hk3, hk4, has, VmOp.dirties, VmOp.acts]
theorem zh_all {e : Env} {s : State} {f : JFrame} {a : Addr} {cell : Cell} (hobj : ∀ k, cell.vm ≠ .statics k) (hk : ∃ k, s.vm.classes[cell.cls]? = some k) (x : ExceptionTableEntry) (suf : List ExceptionTableEntry) (hx : covers x f.pc = true) (h0 : x.catchType ≠ 0) {c : ClassId} (hl : s.vm.ClassLinks e.platform f.method.cls x.catchType c) (hfit : s.vm.assignable cell.cls c = true) :
    ∀ (pre : List ExceptionTableEntry) (S : State), s.WarmedH S.vm → S.heap[a]? = some cell → (∀ y ∈ pre, zh_no e.platform s f.method.cls f.pc cell.cls y) →
      ∃ vm', s.WarmedH vm' ∧ ∀ (Q : Handler → Pre) (E : CtlPost) (d : Bool) (acts : List Action), wp (findHandler.go f a (pre ++ x :: suf)) Q E e d acts S ↔ Q (.found x.handlerPc) d acts (S.setVm vm') := by
  obtain ⟨k, hk⟩ := hk
  intro pre
  induction pre with
  | nil =>
    intro S hW hcell _
    obtain ⟨k', hk', -⟩ := hW.alike.2.2 _ _ hk
    obtain ⟨dk, _, _, kt, hd, _, _, _, _, hkt, _, hopen⟩ := hl.here
    obtain ⟨kt', hkt', -⟩ := hW.alike.2.2 _ _ hkt
    refine ⟨_, hW.noted hd hopen (State.rightAt_cls hl), fun Q E d acts => ?_⟩
    rw [List.nil_append, zh_one hx h0 (hW.classLinks hl) hcell hobj ⟨k', hk'⟩ ⟨kt', hkt'⟩, hW.alike.assignable, if_pos hfit]
  | cons y ys ih =>
    intro S hW hcell hp
    have hrest : ∀ w ∈ ys, zh_no e.platform s f.method.cls f.pc cell.cls w := fun w hw => hp w (List.mem_cons_of_mem _ hw)
    rcases hp y List.mem_cons_self with hn | ⟨hcv, hy0, c1, hl1, hno⟩
    · obtain ⟨vm', hW', hq⟩ := ih S hW hcell hrest
      refine ⟨vm', hW', fun Q E d acts => ?_⟩
      rw [List.cons_append, W.findHandler_go_skip hn]
      exact hq Q E d acts
    · obtain ⟨k', hk', -⟩ := hW.alike.2.2 _ _ hk
      obtain ⟨dk, _, _, kt, hd, _, _, _, _, hkt, _, hopen⟩ := hl1.here
      obtain ⟨kt', hkt', -⟩ := hW.alike.2.2 _ _ hkt
      obtain ⟨vm', hW', hq⟩ := ih (S.setVm (S.vm.noted f.method.cls y.catchType (.cls c1))) (hW.noted hd hopen (State.rightAt_cls hl1)) hcell hrest
      refine ⟨vm', hW', fun Q E d acts => ?_⟩
      rw [List.cons_append, zh_one hcv hy0 (hW.classLinks hl1) hcell hobj ⟨k', hk'⟩ ⟨kt', hkt'⟩, hW.alike.assignable, if_neg (by rw [hno]; decide)]
      exact hq Q E d acts
theorem zh_step {e : Env} {s : State} {a : Addr} {f : JFrame} {r : List Frame} {pc : Nat} {vm' : Vm} (hfind : ∀ (Q : Handler → Pre) (E : CtlPost) (d : Bool) (acts : List Action), wp (findHandler f a) Q E e d acts s ↔ Q (.found pc) d acts (s.setVm vm')) :
    (stepThrowing e s a (.java f :: r)).Is ((s.setVm vm').setFrames (.java { f with pc := pc, stack := [.ref a] } :: r)) [] := by
  simp only [stepThrowing, searchFrame, vmDo]
  generalize hr : Sem.go _ e false [] s = res
  obtain ⟨as, rfl, ha⟩ := Sem.eq_ok_of hr (a := Handler.found pc) (s' := s.setVm vm') (acts' := []) (by simp [hfind _ _ _ _])
  exact ⟨rfl, ha⟩
variable {p : Program} {l : Launch} {e : Env} {R : Room} {s : State} {m : MethodId} {args : Array Value} {below : List Frame} {meth : Method} {c : Code} {D : za_D} {nL : Nat} {Q : State → Prop} {h0 : za_H} {n cells slots pc : Nat} {lv : List (Nat × za_V)} {st : List za_V} {vw : List (Nat × za_C)} {own : String} {cc : ByteArray} {cd : List (Nat × Instr × Nat)} {fl : List (Nat × Nat × Nat)} {ret : Option FieldType}
set_option maxHeartbeats 2000000 in
/-- the exception is caught in the walked method -/
theorem zg_catch (X : za_X p s m args meth c D own cc cd fl nL ret) (hH : zt_H D.2.2 s) {E nm : String} {i : Nat} {hs pr su : List (Nat × Nat × Nat × Nat)} {q : Nat × Nat × Nat × Nat} (hex : c.exceptionTable.toList.map (fun h => (h.startPc, h.endPc, h.handlerPc, h.catchType)) = hs) (hsp : hs = pr ++ q :: su)
    (hpr : ∀ y ∈ pr, covers ⟨y.1, y.2.1, y.2.2.1, y.2.2.2⟩ pc = false ∨ (covers ⟨y.1, y.2.1, y.2.2.1, y.2.2.2⟩ pc = true ∧ y.2.2.2 ≠ 0 ∧ ∃ nn : String, Cond.classLink own y.2.2.2 nn ∈ za_tt ∧ (E, nn) ∈ zt_nc)) (hq1 : covers ⟨q.1, q.2.1, q.2.2.1, q.2.2.2⟩ pc = true) (hq0 : q.2.2.2 ≠ 0) (hlk : Cond.classLink own q.2.2.2 nm ∈ za_tt) (hca : Cond.castable E nm ∈ za_tt)
    (kk : za_W p l e R s m args below meth c D nL Q h0 n cells slots q.2.2.1 lv [vR i] []) : zg_Z p l e R s m args below meth c D nL Q h0 n cells slots pc lv st E i := by
  intro H locs ls hR hS hl ⟨ce, hce, hcl⟩ T hT X9
  obtain ⟨hx, hb, hml, hown, hts, hKn, hcd, hF, hr, hlocks, hz⟩ := X
  subst hsp
  have hpl : e.platform.magicAccessors = ({} : Platform).magicAccessors := by rw [X9.admits.platform]
  have hplain : ce.vm = .none := hR.2.2 _ ce (Nat.le_add_right _ _) hce
  have htab : c.exceptionTable.toList = pr.map (fun y => (⟨y.1, y.2.1, y.2.2.1, y.2.2.2⟩ : ExceptionTableEntry)) ++ (⟨q.1, q.2.1, q.2.2.1, q.2.2.2⟩ : ExceptionTableEntry) :: su.map (fun y => (⟨y.1, y.2.1, y.2.2.1, y.2.2.2⟩ : ExceptionTableEntry)) := by
    have h9 := congrArg (List.map (fun y : Nat × Nat × Nat × Nat => (⟨y.1, y.2.1, y.2.2.1, y.2.2.2⟩ : ExceptionTableEntry))) hex
    rw [List.map_map, List.map_append, List.map_cons] at h9
    rw [← h9]
    exact (List.map_id' _).symm
  obtain ⟨c3, c4, hc3, hc4, hasg⟩ := Cond.castable_spec (hts _ hca)
  cases Option.some.inj (hc3.symm.trans hcl)
  obtain ⟨c5, hc5, hl5⟩ := Cond.classLink_spec hown (hts _ hlk) e.platform hpl
  cases Option.some.inj (hc4.symm.trans hc5)
  have hkE : ∃ k, s.vm.classes[ce.cls]? = some k := by
    obtain ⟨k9, h9, -⟩ := Vm.findClass_spec hcl
    exact ⟨k9, h9⟩
  have hTt : ((T.setTop (F0 m pc ls (st.map (za_cv D.2.2)))).pushFrame (.throwing (D.2.2 + i))).heap[D.2.2 + i]? = some ce := by rw [Stand.throwing_heap, hT]; exact hce
  have hTv : ((T.setTop (F0 m pc ls (st.map (za_cv D.2.2)))).pushFrame (.throwing (D.2.2 + i))).vm = T.vm := Stand.throwing_vm _ _ _
  obtain ⟨vm', hW', hfd⟩ := zh_all (e := e) (s := s) (f := F0 m pc ls (st.map (za_cv D.2.2))) (a := D.2.2 + i) (cell := ce) (fun k h => by rw [hplain] at h; cases h) hkE ⟨q.1, q.2.1, q.2.2.1, q.2.2.2⟩ (su.map (fun y => (⟨y.1, y.2.1, y.2.2.1, y.2.2.2⟩ : ExceptionTableEntry))) hq1 hq0 hl5 hasg
    (pr.map (fun y => (⟨y.1, y.2.1, y.2.2.1, y.2.2.2⟩ : ExceptionTableEntry))) ((T.setTop (F0 m pc ls (st.map (za_cv D.2.2)))).pushFrame (.throwing (D.2.2 + i))) (by rw [hTv]; exact X9.warmed) hTt (fun y hy => by
      obtain ⟨w, hw, rfl⟩ := List.mem_map.mp hy
      rcases hpr w hw with h | ⟨h, h2, nn, h3, h4⟩
      · exact Or.inl h
      · obtain ⟨c6, hc6, hl6⟩ := Cond.classLink_spec hown (hts _ h3) e.platform hpl
        obtain ⟨a8, b8, g1, g2, g3⟩ := hH.2.2 _ h4
        cases Option.some.inj (g1.symm.trans hcl)
        cases Option.some.inj (g2.symm.trans hc6)
        exact Or.inr ⟨h, h2, _, hl6, g3⟩)
  have hm' : ((T.setTop (F0 m pc ls (st.map (za_cv D.2.2)))).pushFrame (.throwing (D.2.2 + i))).vm.method? m = some meth := by rw [hTv]; exact X9.method'
  have hfind : ∀ (Q : Handler → Pre) (E : CtlPost) (d : Bool) (acts : List Action), wp (findHandler (F0 m pc ls (st.map (za_cv D.2.2))) (D.2.2 + i)) Q E e d acts ((T.setTop (F0 m pc ls (st.map (za_cv D.2.2)))).pushFrame (.throwing (D.2.2 + i))) ↔ Q (.found q.2.2.1) d acts (((T.setTop (F0 m pc ls (st.map (za_cv D.2.2)))).pushFrame (.throwing (D.2.2 + i))).setVm vm') := fun Q E d acts => by
    rw [W.findHandler_eq hm' X9.code, htab]
    exact hfd Q E d acts
  have X2 := X9.noted hW'
  obtain ⟨t, a1, b1⟩ := kk H locs ls hR hS hl (T.setVm vm') hT X2
  refine ⟨t, ?_, b1⟩
  have hat : At T (F0 m pc ls (st.map (za_cv D.2.2))).method c below := X9.here
  obtain ⟨hgo, hw⟩ := hat.throwing (D.2.2 + i)
  refine Steps.head hgo hw ?_
  rw [stepThread_throwing (frames_entered hat.top _), (zh_step (s := (T.setTop (F0 m pc ls (st.map (za_cv D.2.2)))).pushFrame (.throwing (D.2.2 + i))) hfind).1]
  obtain ⟨g1, hg1⟩ := Option.isSome_iff_exists.mp hat.top
  obtain ⟨r1, hr1⟩ := State.topJava?_eq_some.mp hg1
  have hr2 : (T.setVm vm').frames = .java g1 :: r1 := hr1
  have a2 : Steps p.tables e below ((T.setVm vm').setTop { F0 m pc ls (st.map (za_cv D.2.2)) with pc := q.2.2.1, stack := [.ref (D.2.2 + i)] }) t := a1
  rw [State.setTop_of_frames _ hr2] at a2
  rw [hr1, List.tail_cons, State.pushFrame, zh_fvf, State.setTop_of_frames _ hr1, zh_fvf]
  exact a2
end ZGCATCH
end
section
def fl_P : List (Nat × Nat × Nat) := [(9, 0, 0), (15, 0, 1), (18, 0, 2), (21, 0, 3), (24, 0, 4)]
theorem flok_P : ∀ q ∈ fl_P, za_FL "WayFinder$Program" q := by
  intro q hq
  simp only [fl_P, List.mem_cons, List.not_mem_nil, or_false] at hq
  rcases hq with rfl | rfl | rfl | rfl | rfl
  · exact ⟨"WayFinder$Program", zf_P, 5, rfl, by decide, rfl, Or.inl (za_in 49 (by decide +kernel) rfl)⟩
  · exact ⟨"WayFinder$Program", zf_P, 5, rfl, by decide, rfl, Or.inl (za_in 51 (by decide +kernel) rfl)⟩
  · exact ⟨"WayFinder$Program", zf_P, 5, rfl, by decide, rfl, Or.inl (za_in 53 (by decide +kernel) rfl)⟩
  · exact ⟨"WayFinder$Program", zf_P, 5, rfl, by decide, rfl, Or.inl (za_in 55 (by decide +kernel) rfl)⟩
  · exact ⟨"WayFinder$Program", zf_P, 5, rfl, by decide, rfl, Or.inl (za_in 57 (by decide +kernel) rfl)⟩
def fl_T : List (Nat × Nat × Nat) := [(9, 1, 0), (15, 1, 1), (19, 1, 2), (22, 1, 3), (25, 1, 4), (28, 1, 5), (32, 1, 6), (35, 1, 7), (39, 1, 8), (42, 1, 9), (62, 0, 1), (65, 0, 2), (68, 0, 3), (71, 0, 0)]
theorem flok_T : ∀ q ∈ fl_T, za_FL "WayFinder$Trace" q := by
  intro q hq
  simp only [fl_T, List.mem_cons, List.not_mem_nil, or_false] at hq
  rcases hq with rfl | rfl | rfl | rfl | rfl | rfl | rfl | rfl | rfl | rfl | rfl | rfl | rfl | rfl
  · exact ⟨"WayFinder$Trace", zf_T, 10, rfl, by decide, rfl, Or.inl (za_in 77 (by decide +kernel) rfl)⟩
  · exact ⟨"WayFinder$Trace", zf_T, 10, rfl, by decide, rfl, Or.inl (za_in 78 (by decide +kernel) rfl)⟩
  · exact ⟨"WayFinder$Trace", zf_T, 10, rfl, by decide, rfl, Or.inl (za_in 79 (by decide +kernel) rfl)⟩
  · exact ⟨"WayFinder$Trace", zf_T, 10, rfl, by decide, rfl, Or.inl (za_in 80 (by decide +kernel) rfl)⟩
  · exact ⟨"WayFinder$Trace", zf_T, 10, rfl, by decide, rfl, Or.inl (za_in 82 (by decide +kernel) rfl)⟩
  · exact ⟨"WayFinder$Trace", zf_T, 10, rfl, by decide, rfl, Or.inl (za_in 84 (by decide +kernel) rfl)⟩
  · exact ⟨"WayFinder$Trace", zf_T, 10, rfl, by decide, rfl, Or.inl (za_in 87 (by decide +kernel) rfl)⟩
  · exact ⟨"WayFinder$Trace", zf_T, 10, rfl, by decide, rfl, Or.inl (za_in 90 (by decide +kernel) rfl)⟩
  · exact ⟨"WayFinder$Trace", zf_T, 10, rfl, by decide, rfl, Or.inl (za_in 91 (by decide +kernel) rfl)⟩
  · exact ⟨"WayFinder$Trace", zf_T, 10, rfl, by decide, rfl, Or.inl (za_in 94 (by decide +kernel) rfl)⟩
  · exact ⟨"WayFinder$Program", zf_P, 5, rfl, by decide, rfl, Or.inr ⟨"WayFinder", za_in 52 (by decide +kernel) rfl⟩⟩
  · exact ⟨"WayFinder$Program", zf_P, 5, rfl, by decide, rfl, Or.inr ⟨"WayFinder", za_in 54 (by decide +kernel) rfl⟩⟩
  · exact ⟨"WayFinder$Program", zf_P, 5, rfl, by decide, rfl, Or.inr ⟨"WayFinder", za_in 56 (by decide +kernel) rfl⟩⟩
  · exact ⟨"WayFinder$Program", zf_P, 5, rfl, by decide, rfl, Or.inr ⟨"WayFinder", za_in 50 (by decide +kernel) rfl⟩⟩
def fl_W : List (Nat × Nat × Nat) := [(9, 2, 0), (15, 2, 1), (18, 2, 2), (21, 2, 3), (24, 2, 4), (28, 2, 5), (31, 1, 8), (34, 1, 9), (35, 1, 5), (36, 1, 6)]
theorem flok_W : ∀ q ∈ fl_W, za_FL "WayFinder$Way" q := by
  intro q hq
  simp only [fl_W, List.mem_cons, List.not_mem_nil, or_false] at hq
  rcases hq with rfl | rfl | rfl | rfl | rfl | rfl | rfl | rfl | rfl | rfl
  · exact ⟨"WayFinder$Way", zf_W, 6, rfl, by decide, rfl, Or.inl (za_in 131 (by decide +kernel) rfl)⟩
  · exact ⟨"WayFinder$Way", zf_W, 6, rfl, by decide, rfl, Or.inl (za_in 134 (by decide +kernel) rfl)⟩
  · exact ⟨"WayFinder$Way", zf_W, 6, rfl, by decide, rfl, Or.inl (za_in 137 (by decide +kernel) rfl)⟩
  · exact ⟨"WayFinder$Way", zf_W, 6, rfl, by decide, rfl, Or.inl (za_in 140 (by decide +kernel) rfl)⟩
  · exact ⟨"WayFinder$Way", zf_W, 6, rfl, by decide, rfl, Or.inl (za_in 142 (by decide +kernel) rfl)⟩
  · exact ⟨"WayFinder$Way", zf_W, 6, rfl, by decide, rfl, Or.inl (za_in 145 (by decide +kernel) rfl)⟩
  · exact ⟨"WayFinder$Trace", zf_T, 10, rfl, by decide, rfl, Or.inr ⟨"WayFinder", za_in 92 (by decide +kernel) rfl⟩⟩
  · exact ⟨"WayFinder$Trace", zf_T, 10, rfl, by decide, rfl, Or.inr ⟨"WayFinder", za_in 95 (by decide +kernel) rfl⟩⟩
  · exact ⟨"WayFinder$Trace", zf_T, 10, rfl, by decide, rfl, Or.inr ⟨"WayFinder", za_in 85 (by decide +kernel) rfl⟩⟩
  · exact ⟨"WayFinder$Trace", zf_T, 10, rfl, by decide, rfl, Or.inr ⟨"WayFinder", za_in 88 (by decide +kernel) rfl⟩⟩
def fl_R : List (Nat × Nat × Nat) := [(11, 3, 0), (17, 3, 1), (21, 3, 2), (25, 1, 5), (39, 2, 4), (48, 1, 4), (53, 2, 2), (56, 2, 0), (59, 2, 1)]
theorem flok_R : ∀ q ∈ fl_R, za_FL "WayFinder$Results" q := by
  intro q hq
  simp only [fl_R, List.mem_cons, List.not_mem_nil, or_false] at hq
  rcases hq with rfl | rfl | rfl | rfl | rfl | rfl | rfl | rfl | rfl
  · exact ⟨"WayFinder$Results", zf_R, 3, rfl, by decide, rfl, Or.inl (za_in 160 (by decide +kernel) rfl)⟩
  · exact ⟨"WayFinder$Results", zf_R, 3, rfl, by decide, rfl, Or.inl (za_in 162 (by decide +kernel) rfl)⟩
  · exact ⟨"WayFinder$Results", zf_R, 3, rfl, by decide, rfl, Or.inl (za_in 164 (by decide +kernel) rfl)⟩
  · exact ⟨"WayFinder$Trace", zf_T, 10, rfl, by decide, rfl, Or.inr ⟨"WayFinder", za_in 86 (by decide +kernel) rfl⟩⟩
  · exact ⟨"WayFinder$Way", zf_W, 6, rfl, by decide, rfl, Or.inr ⟨"WayFinder", za_in 143 (by decide +kernel) rfl⟩⟩
  · exact ⟨"WayFinder$Trace", zf_T, 10, rfl, by decide, rfl, Or.inr ⟨"WayFinder", za_in 83 (by decide +kernel) rfl⟩⟩
  · exact ⟨"WayFinder$Way", zf_W, 6, rfl, by decide, rfl, Or.inr ⟨"WayFinder", za_in 138 (by decide +kernel) rfl⟩⟩
  · exact ⟨"WayFinder$Way", zf_W, 6, rfl, by decide, rfl, Or.inr ⟨"WayFinder", za_in 132 (by decide +kernel) rfl⟩⟩
  · exact ⟨"WayFinder$Way", zf_W, 6, rfl, by decide, rfl, Or.inr ⟨"WayFinder", za_in 135 (by decide +kernel) rfl⟩⟩
def fl_F : List (Nat × Nat × Nat) := [(10, 4, 0), (19, 4, 1), (23, 4, 2), (29, 4, 3), (33, 4, 4), (36, 4, 5), (40, 4, 6), (50, 0, 4), (71, 1, 8), (74, 1, 9), (77, 1, 3), (80, 1, 6), (87, 3, 1), (92, 3, 0), (96, 2, 0), (101, 2, 1), (104, 2, 2), (105, 2, 3), (106, 2, 5), (107, 2, 4), (122, 3, 2)]
theorem flok_F : ∀ q ∈ fl_F, za_FL "WayFinder" q := by
  intro q hq
  simp only [fl_F, List.mem_cons, List.not_mem_nil, or_false] at hq
  rcases hq with rfl | rfl | rfl | rfl | rfl | rfl | rfl | rfl | rfl | rfl | rfl | rfl | rfl | rfl | rfl | rfl | rfl | rfl | rfl | rfl | rfl
  · exact ⟨"WayFinder", zf_F, 7, rfl, by decide, rfl, Or.inl (za_in 173 (by decide +kernel) rfl)⟩
  · exact ⟨"WayFinder", zf_F, 7, rfl, by decide, rfl, Or.inl (za_in 174 (by decide +kernel) rfl)⟩
  · exact ⟨"WayFinder", zf_F, 7, rfl, by decide, rfl, Or.inl (za_in 175 (by decide +kernel) rfl)⟩
  · exact ⟨"WayFinder", zf_F, 7, rfl, by decide, rfl, Or.inl (za_in 176 (by decide +kernel) rfl)⟩
  · exact ⟨"WayFinder", zf_F, 7, rfl, by decide, rfl, Or.inl (za_in 177 (by decide +kernel) rfl)⟩
  · exact ⟨"WayFinder", zf_F, 7, rfl, by decide, rfl, Or.inl (za_in 178 (by decide +kernel) rfl)⟩
  · exact ⟨"WayFinder", zf_F, 7, rfl, by decide, rfl, Or.inl (za_in 179 (by decide +kernel) rfl)⟩
  · exact ⟨"WayFinder$Program", zf_P, 5, rfl, by decide, rfl, Or.inr ⟨"WayFinder", za_in 58 (by decide +kernel) rfl⟩⟩
  · exact ⟨"WayFinder$Trace", zf_T, 10, rfl, by decide, rfl, Or.inr ⟨"WayFinder", za_in 93 (by decide +kernel) rfl⟩⟩
  · exact ⟨"WayFinder$Trace", zf_T, 10, rfl, by decide, rfl, Or.inr ⟨"WayFinder", za_in 96 (by decide +kernel) rfl⟩⟩
  · exact ⟨"WayFinder$Trace", zf_T, 10, rfl, by decide, rfl, Or.inr ⟨"WayFinder", za_in 81 (by decide +kernel) rfl⟩⟩
  · exact ⟨"WayFinder$Trace", zf_T, 10, rfl, by decide, rfl, Or.inr ⟨"WayFinder", za_in 89 (by decide +kernel) rfl⟩⟩
  · exact ⟨"WayFinder$Results", zf_R, 3, rfl, by decide, rfl, Or.inr ⟨"WayFinder", za_in 163 (by decide +kernel) rfl⟩⟩
  · exact ⟨"WayFinder$Results", zf_R, 3, rfl, by decide, rfl, Or.inr ⟨"WayFinder", za_in 161 (by decide +kernel) rfl⟩⟩
  · exact ⟨"WayFinder$Way", zf_W, 6, rfl, by decide, rfl, Or.inr ⟨"WayFinder", za_in 133 (by decide +kernel) rfl⟩⟩
  · exact ⟨"WayFinder$Way", zf_W, 6, rfl, by decide, rfl, Or.inr ⟨"WayFinder", za_in 136 (by decide +kernel) rfl⟩⟩
  · exact ⟨"WayFinder$Way", zf_W, 6, rfl, by decide, rfl, Or.inr ⟨"WayFinder", za_in 139 (by decide +kernel) rfl⟩⟩
  · exact ⟨"WayFinder$Way", zf_W, 6, rfl, by decide, rfl, Or.inr ⟨"WayFinder", za_in 141 (by decide +kernel) rfl⟩⟩
  · exact ⟨"WayFinder$Way", zf_W, 6, rfl, by decide, rfl, Or.inr ⟨"WayFinder", za_in 146 (by decide +kernel) rfl⟩⟩
  · exact ⟨"WayFinder$Way", zf_W, 6, rfl, by decide, rfl, Or.inr ⟨"WayFinder", za_in 144 (by decide +kernel) rfl⟩⟩
  · exact ⟨"WayFinder$Results", zf_R, 3, rfl, by decide, rfl, Or.inr ⟨"WayFinder", za_in 165 (by decide +kernel) rfl⟩⟩
def fl_M : List (Nat × Nat × Nat) := [(7, 5, 1), (13, 5, 2), (16, 5, 3), (19, 5, 4), (22, 5, 6), (26, 5, 7), (29, 5, 18), (33, 5, 19), (36, 5, 20), (39, 5, 21), (42, 5, 22), (45, 5, 23), (48, 5, 25), (51, 5, 26), (54, 5, 27), (57, 5, 28), (60, 5, 29), (63, 5, 0), (78, 5, 5), (81, 5, 12), (85, 5, 13), (88, 5, 8), (91, 5, 9), (106, 5, 10), (109, 5, 11), (122, 5, 14), (125, 5, 15), (128, 5, 16), (131, 5, 17), (134, 5, 24), (141, 5, 30), (144, 5, 31)]
theorem flok_M : ∀ q ∈ fl_M, za_FL "WayFinderModel" q := by
  intro q hq
  simp only [fl_M, List.mem_cons, List.not_mem_nil, or_false] at hq
  rcases hq with rfl | rfl | rfl | rfl | rfl | rfl | rfl | rfl | rfl | rfl | rfl | rfl | rfl | rfl | rfl | rfl | rfl | rfl | rfl | rfl | rfl | rfl | rfl | rfl | rfl | rfl | rfl | rfl | rfl | rfl | rfl | rfl
  · exact ⟨"WayFinderModel", zf_M, 32, rfl, by decide, rfl, Or.inl (za_in 488 (by decide +kernel) rfl)⟩
  · exact ⟨"WayFinderModel", zf_M, 32, rfl, by decide, rfl, Or.inl (za_in 489 (by decide +kernel) rfl)⟩
  · exact ⟨"WayFinderModel", zf_M, 32, rfl, by decide, rfl, Or.inl (za_in 490 (by decide +kernel) rfl)⟩
  · exact ⟨"WayFinderModel", zf_M, 32, rfl, by decide, rfl, Or.inl (za_in 491 (by decide +kernel) rfl)⟩
  · exact ⟨"WayFinderModel", zf_M, 32, rfl, by decide, rfl, Or.inl (za_in 493 (by decide +kernel) rfl)⟩
  · exact ⟨"WayFinderModel", zf_M, 32, rfl, by decide, rfl, Or.inl (za_in 494 (by decide +kernel) rfl)⟩
  · exact ⟨"WayFinderModel", zf_M, 32, rfl, by decide, rfl, Or.inl (za_in 505 (by decide +kernel) rfl)⟩
  · exact ⟨"WayFinderModel", zf_M, 32, rfl, by decide, rfl, Or.inl (za_in 506 (by decide +kernel) rfl)⟩
  · exact ⟨"WayFinderModel", zf_M, 32, rfl, by decide, rfl, Or.inl (za_in 507 (by decide +kernel) rfl)⟩
  · exact ⟨"WayFinderModel", zf_M, 32, rfl, by decide, rfl, Or.inl (za_in 508 (by decide +kernel) rfl)⟩
  · exact ⟨"WayFinderModel", zf_M, 32, rfl, by decide, rfl, Or.inl (za_in 509 (by decide +kernel) rfl)⟩
  · exact ⟨"WayFinderModel", zf_M, 32, rfl, by decide, rfl, Or.inl (za_in 510 (by decide +kernel) rfl)⟩
  · exact ⟨"WayFinderModel", zf_M, 32, rfl, by decide, rfl, Or.inl (za_in 512 (by decide +kernel) rfl)⟩
  · exact ⟨"WayFinderModel", zf_M, 32, rfl, by decide, rfl, Or.inl (za_in 513 (by decide +kernel) rfl)⟩
  · exact ⟨"WayFinderModel", zf_M, 32, rfl, by decide, rfl, Or.inl (za_in 514 (by decide +kernel) rfl)⟩
  · exact ⟨"WayFinderModel", zf_M, 32, rfl, by decide, rfl, Or.inl (za_in 515 (by decide +kernel) rfl)⟩
  · exact ⟨"WayFinderModel", zf_M, 32, rfl, by decide, rfl, Or.inl (za_in 516 (by decide +kernel) rfl)⟩
  · exact ⟨"WayFinderModel", zf_M, 32, rfl, by decide, rfl, Or.inl (za_in 487 (by decide +kernel) rfl)⟩
  · exact ⟨"WayFinderModel", zf_M, 32, rfl, by decide, rfl, Or.inl (za_in 492 (by decide +kernel) rfl)⟩
  · exact ⟨"WayFinderModel", zf_M, 32, rfl, by decide, rfl, Or.inl (za_in 499 (by decide +kernel) rfl)⟩
  · exact ⟨"WayFinderModel", zf_M, 32, rfl, by decide, rfl, Or.inl (za_in 500 (by decide +kernel) rfl)⟩
  · exact ⟨"WayFinderModel", zf_M, 32, rfl, by decide, rfl, Or.inl (za_in 495 (by decide +kernel) rfl)⟩
  · exact ⟨"WayFinderModel", zf_M, 32, rfl, by decide, rfl, Or.inl (za_in 496 (by decide +kernel) rfl)⟩
  · exact ⟨"WayFinderModel", zf_M, 32, rfl, by decide, rfl, Or.inl (za_in 497 (by decide +kernel) rfl)⟩
  · exact ⟨"WayFinderModel", zf_M, 32, rfl, by decide, rfl, Or.inl (za_in 498 (by decide +kernel) rfl)⟩
  · exact ⟨"WayFinderModel", zf_M, 32, rfl, by decide, rfl, Or.inl (za_in 501 (by decide +kernel) rfl)⟩
  · exact ⟨"WayFinderModel", zf_M, 32, rfl, by decide, rfl, Or.inl (za_in 502 (by decide +kernel) rfl)⟩
  · exact ⟨"WayFinderModel", zf_M, 32, rfl, by decide, rfl, Or.inl (za_in 503 (by decide +kernel) rfl)⟩
  · exact ⟨"WayFinderModel", zf_M, 32, rfl, by decide, rfl, Or.inl (za_in 504 (by decide +kernel) rfl)⟩
  · exact ⟨"WayFinderModel", zf_M, 32, rfl, by decide, rfl, Or.inl (za_in 511 (by decide +kernel) rfl)⟩
  · exact ⟨"WayFinderModel", zf_M, 32, rfl, by decide, rfl, Or.inl (za_in 517 (by decide +kernel) rfl)⟩
  · exact ⟨"WayFinderModel", zf_M, 32, rfl, by decide, rfl, Or.inl (za_in 518 (by decide +kernel) rfl)⟩
def fl_L : List (Nat × Nat × Nat) := []
theorem flok_L : ∀ q ∈ fl_L, za_FL "WayFinderLaw" q := by
  intro q hq
  cases hq
def Y_F_init : za_Y := (⟨"WayFinder", "<init>", "()V"⟩, prog_1_method_1_code, 1, none)
def cd_F_init : List (Nat × Instr × Nat) := [(0, .aload_n 0, 1), (1, .invokespecial 1, 3), (4, .aload_n 0, 1), (5, .new 7, 3), (8, .dup, 1), (9, .invokespecial 9, 3), (12, .putfield 10, 3), (15, .aload_n 0, 1), (16, .new 16, 3), (19, .dup, 1), (20, .invokespecial 18, 3), (23, .putfield 19, 3), (26, .aload_n 0, 1), (27, .new 16, 3), (30, .dup, 1), (31, .invokespecial 18, 3), (34, .putfield 23, 3), (37, .aload_n 0, 1), (38, .new 26, 3), (41, .dup, 1), (42, .invokespecial 28, 3), (45, .putfield 29, 3), (48, .aload_n 0, 1), (49, .new 26, 3), (52, .dup, 1), (53, .invokespecial 28, 3), (56, .putfield 33, 3), (59, .aload_n 0, 1), (60, .iconst 3, 1), (61, .putfield 36, 3), (64, .aload_n 0, 1), (65, .iconst 0, 1), (66, .putfield 40, 3), (69, .return_, 1)]
theorem cdok_F_init : ∀ q ∈ cd_F_init, decode Y_F_init.2.1 q.1 = .ok q.2 := by decide +kernel
set_option maxRecDepth 20000 in
theorem cy_F_init : za_CY Y_F_init 0 := ⟨za_in 39 rfl rfl, za_in 22 (by decide +kernel) rfl, ⟨by decide, by decide⟩, by decide +kernel⟩
theorem kc_F_init : Cond.code Y_F_init.1 Y_F_init.2.1 Y_F_init.2.2.1 Y_F_init.2.2.2 ∈ za_tt := cy_F_init.1
theorem ci_F_init : za_CI Y_F_init := ⟨za_in 38 (by decide +kernel) rfl, rfl, rfl⟩
def Y_P_init : za_Y := (⟨"WayFinder$Program", "<init>", "()V"⟩, prog_2_method_1_code, 1, none)
def cd_P_init : List (Nat × Instr × Nat) := [(0, .aload_n 0, 1), (1, .invokespecial 3, 3), (4, .aload_n 0, 1), (5, .bipush 24, 2), (7, .newarray .int, 2), (9, .putfield 9, 3), (12, .aload_n 0, 1), (13, .bipush 24, 2), (15, .newarray .int, 2), (17, .putfield 15, 3), (20, .aload_n 0, 1), (21, .bipush 24, 2), (23, .newarray .int, 2), (25, .putfield 18, 3), (28, .aload_n 0, 1), (29, .bipush 24, 2), (31, .newarray .int, 2), (33, .putfield 21, 3), (36, .aload_n 0, 1), (37, .iconst 0, 1), (38, .putfield 24, 3), (41, .return_, 1)]
theorem cdok_P_init : ∀ q ∈ cd_P_init, decode Y_P_init.2.1 q.1 = .ok q.2 := by decide +kernel
set_option maxRecDepth 20000 in
theorem cy_P_init : za_CY Y_P_init 0 := ⟨za_in 47 rfl rfl, za_in 23 (by decide +kernel) rfl, ⟨by decide, by decide⟩, by decide +kernel⟩
theorem kc_P_init : Cond.code Y_P_init.1 Y_P_init.2.1 Y_P_init.2.2.1 Y_P_init.2.2.2 ∈ za_tt := cy_P_init.1
theorem ci_P_init : za_CI Y_P_init := ⟨za_in 46 (by decide +kernel) rfl, rfl, rfl⟩
def Y_T_init : za_Y := (⟨"WayFinder$Trace", "<init>", "()V"⟩, prog_4_method_1_code, 1, none)
def cd_T_init : List (Nat × Instr × Nat) := [(0, .aload_n 0, 1), (1, .invokespecial 3, 3), (4, .aload_n 0, 1), (5, .iconst 4, 1), (6, .newarray .int, 2), (8, .putfield 9, 3), (11, .aload_n 0, 1), (12, .iconst 0, 1), (13, .putfield 15, 3), (16, .aload_n 0, 1), (17, .iconst 0, 1), (18, .putfield 19, 3), (21, .aload_n 0, 1), (22, .iconst 0, 1), (23, .putfield 22, 3), (26, .aload_n 0, 1), (27, .iconst 0, 1), (28, .putfield 25, 3), (31, .aload_n 0, 1), (32, .lconst 0, 1), (33, .putfield 28, 3), (36, .aload_n 0, 1), (37, .iconst 0, 1), (38, .putfield 32, 3), (41, .aload_n 0, 1), (42, .iconst 0, 1), (43, .putfield 35, 3), (46, .aload_n 0, 1), (47, .iconst 0, 1), (48, .putfield 39, 3), (51, .aload_n 0, 1), (52, .iconst 0, 1), (53, .putfield 42, 3), (56, .return_, 1)]
theorem cdok_T_init : ∀ q ∈ cd_T_init, decode Y_T_init.2.1 q.1 = .ok q.2 := by decide +kernel
set_option maxRecDepth 20000 in
theorem cy_T_init : za_CY Y_T_init 0 := ⟨za_in 75 rfl rfl, za_in 24 (by decide +kernel) rfl, ⟨by decide, by decide⟩, by decide +kernel⟩
theorem kc_T_init : Cond.code Y_T_init.1 Y_T_init.2.1 Y_T_init.2.2.1 Y_T_init.2.2.2 ∈ za_tt := cy_T_init.1
theorem ci_T_init : za_CI Y_T_init := ⟨za_in 74 (by decide +kernel) rfl, rfl, rfl⟩
def Y_R_init : za_Y := (⟨"WayFinder$Results", "<init>", "()V"⟩, prog_3_method_1_code, 2, none)
def cd_R_init : List (Nat × Instr × Nat) := [(0, .aload_n 0, 1), (1, .invokespecial 3, 3), (4, .aload_n 0, 1), (5, .bipush 64, 2), (7, .anewarray 9, 3), (10, .putfield 11, 3), (13, .aload_n 0, 1), (14, .iconst 0, 1), (15, .putfield 17, 3), (18, .aload_n 0, 1), (19, .iconst 0, 1), (20, .putfield 21, 3), (23, .iconst 0, 1), (24, .istore_n 1, 1), (25, .iload_n 1, 1), (26, .bipush 64, 2), (28, .if_icmp .ge 22, 3), (31, .aload_n 0, 1), (32, .getfield 11, 3), (35, .iload_n 1, 1), (36, .new 9, 3), (39, .dup, 1), (40, .invokespecial 24, 3), (43, .aastore, 1), (44, .iinc 1 1, 3), (47, .goto (-22), 3), (50, .return_, 1)]
theorem cdok_R_init : ∀ q ∈ cd_R_init, decode Y_R_init.2.1 q.1 = .ok q.2 := by decide +kernel
set_option maxRecDepth 20000 in
theorem cy_R_init : za_CY Y_R_init 0 := ⟨za_in 122 rfl rfl, za_in 25 (by decide +kernel) rfl, ⟨by decide, by decide⟩, by decide +kernel⟩
theorem kc_R_init : Cond.code Y_R_init.1 Y_R_init.2.1 Y_R_init.2.2.1 Y_R_init.2.2.2 ∈ za_tt := cy_R_init.1
theorem ci_R_init : za_CI Y_R_init := ⟨za_in 121 (by decide +kernel) rfl, rfl, rfl⟩
def Y_W_init : za_Y := (⟨"WayFinder$Way", "<init>", "()V"⟩, prog_5_method_1_code, 1, none)
def cd_W_init : List (Nat × Instr × Nat) := [(0, .aload_n 0, 1), (1, .invokespecial 3, 3), (4, .aload_n 0, 1), (5, .iconst 0, 1), (6, .putfield 9, 3), (9, .aload_n 0, 1), (10, .iconst 0, 1), (11, .putfield 15, 3), (14, .aload_n 0, 1), (15, .iconst 0, 1), (16, .putfield 18, 3), (19, .aload_n 0, 1), (20, .iconst 0, 1), (21, .putfield 21, 3), (24, .aload_n 0, 1), (25, .lconst 0, 1), (26, .putfield 24, 3), (29, .aload_n 0, 1), (30, .iconst 0, 1), (31, .putfield 28, 3), (34, .return_, 1)]
theorem cdok_W_init : ∀ q ∈ cd_W_init, decode Y_W_init.2.1 q.1 = .ok q.2 := by decide +kernel
set_option maxRecDepth 20000 in
theorem cy_W_init : za_CY Y_W_init 0 := ⟨za_in 129 rfl rfl, za_in 26 (by decide +kernel) rfl, ⟨by decide, by decide⟩, by decide +kernel⟩
theorem kc_W_init : Cond.code Y_W_init.1 Y_W_init.2.1 Y_W_init.2.2.1 Y_W_init.2.2.2 ∈ za_tt := cy_W_init.1
theorem ci_W_init : za_CI Y_W_init := ⟨za_in 128 (by decide +kernel) rfl, rfl, rfl⟩
def Y_F_covered : za_Y := (⟨"WayFinder", "covered", "()I"⟩, prog_1_method_12_code, 1, (some .int))
def cd_F_covered : List (Nat × Instr × Nat) := [(0, .aload_n 0, 1), (1, .getfield 29, 3), (4, .getfield 122, 3), (7, .ireturn, 1)]
theorem cdok_F_covered : ∀ q ∈ cd_F_covered, decode Y_F_covered.2.1 q.1 = .ok q.2 := by decide +kernel
set_option maxRecDepth 20000 in
theorem cy_F_covered : za_CY Y_F_covered 0 := ⟨za_in 198 rfl rfl, za_in 22 (by decide +kernel) rfl, ⟨by decide, by decide⟩, by decide +kernel⟩
theorem kc_F_covered : Cond.code Y_F_covered.1 Y_F_covered.2.1 Y_F_covered.2.2.1 Y_F_covered.2.2.2 ∈ za_tt := cy_F_covered.1
theorem cv_F_covered : za_CV Y_F_covered := ⟨za_in 196 (by decide +kernel) rfl, za_in 197 (by decide +kernel) rfl⟩
def Y_L_instr : za_Y := (⟨"WayFinderLaw", "instr", "(LWayFinder;IIII[J)I"⟩, method_3_code, 7, (some .int))
def cd_L_instr : List (Nat × Instr × Nat) := [(0, .aload 5, 2), (2, .iconst 0, 1), (3, .aload_n 0, 1), (4, .iload_n 1, 1), (5, .iload_n 2, 1), (6, .iload_n 3, 1), (7, .iload 4, 2), (9, .invokevirtual 7, 3), (12, .i2l, 1), (13, .lastore, 1), (14, .goto 11, 3), (17, .astore 6, 2), (19, .iconst 1, 1), (20, .ireturn, 1), (21, .astore 6, 2), (23, .iconst 2, 1), (24, .ireturn, 1), (25, .iconst 0, 1), (26, .ireturn, 1)]
theorem cdok_L_instr : ∀ q ∈ cd_L_instr, decode Y_L_instr.2.1 q.1 = .ok q.2 := by decide +kernel
def hs_L_instr : List (Nat × Nat × Nat × Nat) := [(0, 14, 17, 13), (0, 14, 21, 15)]
set_option maxRecDepth 20000 in
theorem kw_L_instr : Cond.codeWith Y_L_instr.1 Y_L_instr.2.1 Y_L_instr.2.2.1 Y_L_instr.2.2.2 hs_L_instr ∈ za_tt := za_in 201 rfl rfl
theorem cs_L_instr : za_CS Y_L_instr := za_in 200 (by decide +kernel) rfl
def Y_F_instr : za_Y := (⟨"WayFinder", "instr", "(IIII)I"⟩, prog_1_method_2_code, 5, (some .int))
def cd_F_instr : List (Nat × Instr × Nat) := [(0, .iload_n 1, 1), (1, .iload_n 2, 1), (2, .iload_n 3, 1), (3, .iload 4, 2), (5, .invokestatic 43, 3), (8, .ifCond .ne 11, 3), (11, .new 47, 3), (14, .dup, 1), (15, .invokespecial 49, 3), (18, .athrow, 1), (19, .aload_n 0, 1), (20, .getfield 10, 3), (23, .getfield 50, 3), (26, .bipush 24, 2), (28, .if_icmp .ne 11, 3), (31, .new 53, 3), (34, .dup, 1), (35, .invokespecial 55, 3), (38, .athrow, 1), (39, .aload_n 0, 1), (40, .getfield 10, 3), (43, .iload_n 1, 1), (44, .iload_n 2, 1), (45, .iload_n 3, 1), (46, .iload 4, 2), (48, .invokevirtual 56, 3), (51, .aload_n 0, 1), (52, .getfield 10, 3), (55, .getfield 50, 3), (58, .ireturn, 1)]
theorem cdok_F_instr : ∀ q ∈ cd_F_instr, decode Y_F_instr.2.1 q.1 = .ok q.2 := by decide +kernel
set_option maxRecDepth 20000 in
theorem cy_F_instr : za_CY Y_F_instr 4 := ⟨za_in 207 rfl rfl, za_in 22 (by decide +kernel) rfl, ⟨by decide, by decide⟩, by decide +kernel⟩
theorem kc_F_instr : Cond.code Y_F_instr.1 Y_F_instr.2.1 Y_F_instr.2.2.1 Y_F_instr.2.2.2 ∈ za_tt := cy_F_instr.1
theorem cv_F_instr : za_CV Y_F_instr := ⟨za_in 205 (by decide +kernel) rfl, za_in 206 (by decide +kernel) rfl⟩
def Y_P_allows : za_Y := (⟨"WayFinder$Program", "allows", "(IIII)Z"⟩, prog_2_method_2_code, 4, (some .boolean))
def cd_P_allows : List (Nat × Instr × Nat) := [(0, .iload_n 0, 1), (1, .tableswitch 191 0 13 #[71, 94, 94, 94, 94, 94, 94, 121, 150, 150, 179, 94, 186, 186], 71), (72, .iload_n 1, 1), (73, .invokestatic 28, 3), (76, .ifCond .eq 17, 3), (79, .sipush 255, 3), (82, .iload_n 2, 1), (83, .invokestatic 32, 3), (86, .ifCond .eq 7, 3), (89, .iconst 1, 1), (90, .goto 4, 3), (93, .iconst 0, 1), (94, .ireturn, 1), (95, .iload_n 1, 1), (96, .invokestatic 28, 3), (99, .ifCond .eq 21, 3), (102, .iload_n 2, 1), (103, .invokestatic 28, 3), (106, .ifCond .eq 14, 3), (109, .iload_n 3, 1), (110, .invokestatic 28, 3), (113, .ifCond .eq 7, 3), (116, .iconst 1, 1), (117, .goto 4, 3), (120, .iconst 0, 1), (121, .ireturn, 1), (122, .iload_n 1, 1), (123, .invokestatic 28, 3), (126, .ifCond .eq 23, 3), (129, .iload_n 2, 1), (130, .invokestatic 28, 3), (133, .ifCond .eq 16, 3), (136, .bipush 7, 2), (138, .iload_n 3, 1), (139, .invokestatic 32, 3), (142, .ifCond .eq 7, 3), (145, .iconst 1, 1), (146, .goto 4, 3), (149, .iconst 0, 1), (150, .ireturn, 1), (151, .iload_n 1, 1), (152, .invokestatic 28, 3), (155, .ifCond .eq 23, 3), (158, .iload_n 2, 1), (159, .invokestatic 28, 3), (162, .ifCond .eq 16, 3), (165, .bipush 24, 2), (167, .iload_n 3, 1), (168, .invokestatic 32, 3), (171, .ifCond .eq 7, 3), (174, .iconst 1, 1), (175, .goto 4, 3), (178, .iconst 0, 1), (179, .ireturn, 1), (180, .bipush 24, 2), (182, .iload_n 3, 1), (183, .invokestatic 32, 3), (186, .ireturn, 1), (187, .iload_n 1, 1), (188, .invokestatic 28, 3), (191, .ireturn, 1), (192, .iconst 0, 1), (193, .ireturn, 1)]
theorem cdok_P_allows : ∀ q ∈ cd_P_allows, decode Y_P_allows.2.1 q.1 = .ok q.2 := by decide +kernel
set_option maxRecDepth 20000 in
theorem cy_P_allows : za_CY Y_P_allows 4 := ⟨za_in 210 rfl rfl, za_in 23 (by decide +kernel) rfl, ⟨by decide, by decide⟩, by decide +kernel⟩
theorem kc_P_allows : Cond.code Y_P_allows.1 Y_P_allows.2.1 Y_P_allows.2.2.1 Y_P_allows.2.2.2 ∈ za_tt := cy_P_allows.1
theorem cs_P_allows : za_CS Y_P_allows := za_in 209 (by decide +kernel) rfl
def Y_P_isRegister : za_Y := (⟨"WayFinder$Program", "isRegister", "(I)Z"⟩, prog_2_method_3_code, 1, (some .boolean))
def cd_P_isRegister : List (Nat × Instr × Nat) := [(0, .iconst 3, 1), (1, .iload_n 0, 1), (2, .invokestatic 32, 3), (5, .ireturn, 1)]
theorem cdok_P_isRegister : ∀ q ∈ cd_P_isRegister, decode Y_P_isRegister.2.1 q.1 = .ok q.2 := by decide +kernel
set_option maxRecDepth 20000 in
theorem cy_P_isRegister : za_CY Y_P_isRegister 1 := ⟨za_in 213 rfl rfl, za_in 23 (by decide +kernel) rfl, ⟨by decide, by decide⟩, by decide +kernel⟩
theorem kc_P_isRegister : Cond.code Y_P_isRegister.1 Y_P_isRegister.2.1 Y_P_isRegister.2.2.1 Y_P_isRegister.2.2.2 ∈ za_tt := cy_P_isRegister.1
theorem cs_P_isRegister : za_CS Y_P_isRegister := za_in 212 (by decide +kernel) rfl
def Y_F_isUpTo : za_Y := (⟨"WayFinder", "isUpTo", "(II)Z"⟩, prog_1_method_16_code, 2, (some .boolean))
def cd_F_isUpTo : List (Nat × Instr × Nat) := [(0, .iload_n 1, 1), (1, .ifCond .lt 12, 3), (4, .iload_n 1, 1), (5, .iload_n 0, 1), (6, .if_icmp .gt 7, 3), (9, .iconst 1, 1), (10, .goto 4, 3), (13, .iconst 0, 1), (14, .ireturn, 1)]
theorem cdok_F_isUpTo : ∀ q ∈ cd_F_isUpTo, decode Y_F_isUpTo.2.1 q.1 = .ok q.2 := by decide +kernel
set_option maxRecDepth 20000 in
theorem cy_F_isUpTo : za_CY Y_F_isUpTo 2 := ⟨za_in 216 rfl rfl, za_in 22 (by decide +kernel) rfl, ⟨by decide, by decide⟩, by decide +kernel⟩
theorem kc_F_isUpTo : Cond.code Y_F_isUpTo.1 Y_F_isUpTo.2.1 Y_F_isUpTo.2.2.1 Y_F_isUpTo.2.2.2 ∈ za_tt := cy_F_isUpTo.1
theorem cs_F_isUpTo : za_CS Y_F_isUpTo := za_in 215 (by decide +kernel) rfl
def Y_P_append : za_Y := (⟨"WayFinder$Program", "append", "(IIII)V"⟩, prog_2_method_4_code, 5, none)
def cd_P_append : List (Nat × Instr × Nat) := [(0, .aload_n 0, 1), (1, .getfield 9, 3), (4, .aload_n 0, 1), (5, .getfield 24, 3), (8, .iload_n 1, 1), (9, .iastore, 1), (10, .aload_n 0, 1), (11, .getfield 15, 3), (14, .aload_n 0, 1), (15, .getfield 24, 3), (18, .iload_n 2, 1), (19, .iastore, 1), (20, .aload_n 0, 1), (21, .getfield 18, 3), (24, .aload_n 0, 1), (25, .getfield 24, 3), (28, .iload_n 3, 1), (29, .iastore, 1), (30, .aload_n 0, 1), (31, .getfield 21, 3), (34, .aload_n 0, 1), (35, .getfield 24, 3), (38, .iload 4, 2), (40, .iastore, 1), (41, .aload_n 0, 1), (42, .dup, 1), (43, .getfield 24, 3), (46, .iconst 1, 1), (47, .iadd, 1), (48, .putfield 24, 3), (51, .return_, 1)]
theorem cdok_P_append : ∀ q ∈ cd_P_append, decode Y_P_append.2.1 q.1 = .ok q.2 := by decide +kernel
set_option maxRecDepth 20000 in
theorem cy_P_append : za_CY Y_P_append 4 := ⟨za_in 298 rfl rfl, za_in 23 (by decide +kernel) rfl, ⟨by decide, by decide⟩, by decide +kernel⟩
theorem kc_P_append : Cond.code Y_P_append.1 Y_P_append.2.1 Y_P_append.2.2.1 Y_P_append.2.2.2 ∈ za_tt := cy_P_append.1
theorem cv_P_append : za_CV Y_P_append := ⟨za_in 296 (by decide +kernel) rfl, za_in 297 (by decide +kernel) rfl⟩
def Y_L_undo : za_Y := (⟨"WayFinderLaw", "undo", "(LWayFinder;[J)I"⟩, method_4_code, 3, (some .int))
def cd_L_undo : List (Nat × Instr × Nat) := [(0, .aload_n 1, 1), (1, .iconst 0, 1), (2, .aload_n 0, 1), (3, .invokevirtual 17, 3), (6, .i2l, 1), (7, .lastore, 1), (8, .goto 6, 3), (11, .astore_n 2, 1), (12, .iconst 1, 1), (13, .ireturn, 1), (14, .iconst 0, 1), (15, .ireturn, 1)]
theorem cdok_L_undo : ∀ q ∈ cd_L_undo, decode Y_L_undo.2.1 q.1 = .ok q.2 := by decide +kernel
def hs_L_undo : List (Nat × Nat × Nat × Nat) := [(0, 8, 11, 21)]
set_option maxRecDepth 20000 in
theorem kw_L_undo : Cond.codeWith Y_L_undo.1 Y_L_undo.2.1 Y_L_undo.2.2.1 Y_L_undo.2.2.2 hs_L_undo ∈ za_tt := za_in 301 rfl rfl
theorem cs_L_undo : za_CS Y_L_undo := za_in 300 (by decide +kernel) rfl
def Y_F_undo : za_Y := (⟨"WayFinder", "undo", "()I"⟩, prog_1_method_3_code, 1, (some .int))
def cd_F_undo : List (Nat × Instr × Nat) := [(0, .aload_n 0, 1), (1, .getfield 10, 3), (4, .getfield 50, 3), (7, .ifCond .ne 11, 3), (10, .new 60, 3), (13, .dup, 1), (14, .invokespecial 62, 3), (17, .athrow, 1), (18, .aload_n 0, 1), (19, .getfield 10, 3), (22, .dup, 1), (23, .getfield 50, 3), (26, .iconst 1, 1), (27, .isub, 1), (28, .putfield 50, 3), (31, .aload_n 0, 1), (32, .getfield 10, 3), (35, .getfield 50, 3), (38, .ireturn, 1)]
theorem cdok_F_undo : ∀ q ∈ cd_F_undo, decode Y_F_undo.2.1 q.1 = .ok q.2 := by decide +kernel
set_option maxRecDepth 20000 in
theorem cy_F_undo : za_CY Y_F_undo 0 := ⟨za_in 306 rfl rfl, za_in 22 (by decide +kernel) rfl, ⟨by decide, by decide⟩, by decide +kernel⟩
theorem kc_F_undo : Cond.code Y_F_undo.1 Y_F_undo.2.1 Y_F_undo.2.2.1 Y_F_undo.2.2.2 ∈ za_tt := cy_F_undo.1
theorem cv_F_undo : za_CV Y_F_undo := ⟨za_in 304 (by decide +kernel) rfl, za_in 305 (by decide +kernel) rfl⟩
def Y_L_width : za_Y := (⟨"WayFinderLaw", "width", "(LWayFinder;I[J)I"⟩, method_5_code, 4, (some .int))
def cd_L_width : List (Nat × Instr × Nat) := [(0, .aload_n 2, 1), (1, .iconst 0, 1), (2, .aload_n 0, 1), (3, .iload_n 1, 1), (4, .invokevirtual 23, 3), (7, .i2l, 1), (8, .lastore, 1), (9, .goto 6, 3), (12, .astore_n 3, 1), (13, .iconst 1, 1), (14, .ireturn, 1), (15, .iconst 0, 1), (16, .ireturn, 1)]
theorem cdok_L_width : ∀ q ∈ cd_L_width, decode Y_L_width.2.1 q.1 = .ok q.2 := by decide +kernel
def hs_L_width : List (Nat × Nat × Nat × Nat) := [(0, 9, 12, 13)]
set_option maxRecDepth 20000 in
theorem kw_L_width : Cond.codeWith Y_L_width.1 Y_L_width.2.1 Y_L_width.2.2.1 Y_L_width.2.2.2 hs_L_width ∈ za_tt := za_in 324 rfl rfl
theorem cs_L_width : za_CS Y_L_width := za_in 323 (by decide +kernel) rfl
def Y_F_width : za_Y := (⟨"WayFinder", "width", "(I)I"⟩, prog_1_method_4_code, 3, (some .int))
def cd_F_width : List (Nat × Instr × Nat) := [(0, .iload_n 1, 1), (1, .iconst 1, 1), (2, .if_icmp .lt 8, 3), (5, .iload_n 1, 1), (6, .iconst 4, 1), (7, .if_icmp .le 11, 3), (10, .new 47, 3), (13, .dup, 1), (14, .invokespecial 49, 3), (17, .athrow, 1), (18, .aload_n 0, 1), (19, .getfield 36, 3), (22, .istore_n 2, 1), (23, .aload_n 0, 1), (24, .iload_n 1, 1), (25, .putfield 36, 3), (28, .iload_n 2, 1), (29, .ireturn, 1)]
theorem cdok_F_width : ∀ q ∈ cd_F_width, decode Y_F_width.2.1 q.1 = .ok q.2 := by decide +kernel
set_option maxRecDepth 20000 in
theorem cy_F_width : za_CY Y_F_width 1 := ⟨za_in 328 rfl rfl, za_in 22 (by decide +kernel) rfl, ⟨by decide, by decide⟩, by decide +kernel⟩
theorem kc_F_width : Cond.code Y_F_width.1 Y_F_width.2.1 Y_F_width.2.2.1 Y_F_width.2.2.2 ∈ za_tt := cy_F_width.1
theorem cv_F_width : za_CV Y_F_width := ⟨za_in 326 (by decide +kernel) rfl, za_in 327 (by decide +kernel) rfl⟩
def Y_L_run : za_Y := (⟨"WayFinderLaw", "run", "(LWayFinder;II[J)I"⟩, method_6_code, 5, (some .int))
def cd_L_run : List (Nat × Instr × Nat) := [(0, .aload_n 3, 1), (1, .iconst 0, 1), (2, .aload_n 0, 1), (3, .iload_n 1, 1), (4, .iload_n 2, 1), (5, .invokevirtual 27, 3), (8, .i2l, 1), (9, .lastore, 1), (10, .goto 7, 3), (13, .astore 4, 2), (15, .iconst 1, 1), (16, .ireturn, 1), (17, .iconst 0, 1), (18, .ireturn, 1)]
theorem cdok_L_run : ∀ q ∈ cd_L_run, decode Y_L_run.2.1 q.1 = .ok q.2 := by decide +kernel
def hs_L_run : List (Nat × Nat × Nat × Nat) := [(0, 10, 13, 13)]
set_option maxRecDepth 20000 in
theorem kw_L_run : Cond.codeWith Y_L_run.1 Y_L_run.2.1 Y_L_run.2.2.1 Y_L_run.2.2.2 hs_L_run ∈ za_tt := za_in 331 rfl rfl
theorem cs_L_run : za_CS Y_L_run := za_in 330 (by decide +kernel) rfl
def Y_F_run : za_Y := (⟨"WayFinder", "run", "(II)I"⟩, prog_1_method_5_code, 3, (some .int))
def cd_F_run : List (Nat × Instr × Nat) := [(0, .aload_n 0, 1), (1, .iload_n 1, 1), (2, .iload_n 2, 1), (3, .invokevirtual 63, 3), (6, .ifCond .ne 11, 3), (9, .new 47, 3), (12, .dup, 1), (13, .invokespecial 49, 3), (16, .athrow, 1), (17, .aload_n 0, 1), (18, .getfield 19, 3), (21, .aload_n 0, 1), (22, .getfield 10, 3), (25, .iload_n 1, 1), (26, .iload_n 2, 1), (27, .invokevirtual 67, 3), (30, .aload_n 0, 1), (31, .dup, 1), (32, .getfield 40, 3), (35, .iconst 1, 1), (36, .iadd, 1), (37, .putfield 40, 3), (40, .aload_n 0, 1), (41, .getfield 19, 3), (44, .getfield 71, 3), (47, .ireturn, 1)]
theorem cdok_F_run : ∀ q ∈ cd_F_run, decode Y_F_run.2.1 q.1 = .ok q.2 := by decide +kernel
set_option maxRecDepth 20000 in
theorem cy_F_run : za_CY Y_F_run 2 := ⟨za_in 335 rfl rfl, za_in 22 (by decide +kernel) rfl, ⟨by decide, by decide⟩, by decide +kernel⟩
theorem kc_F_run : Cond.code Y_F_run.1 Y_F_run.2.1 Y_F_run.2.2.1 Y_F_run.2.2.2 ∈ za_tt := cy_F_run.1
theorem cv_F_run : za_CV Y_F_run := ⟨za_in 333 (by decide +kernel) rfl, za_in 334 (by decide +kernel) rfl⟩
def Y_F_areInputs : za_Y := (⟨"WayFinder", "areInputs", "(II)Z"⟩, prog_1_method_14_code, 4, (some .boolean))
def cd_F_areInputs : List (Nat × Instr × Nat) := [(0, .iconst 1, 1), (1, .aload_n 0, 1), (2, .getfield 36, 3), (5, .ishl, 1), (6, .iconst 1, 1), (7, .isub, 1), (8, .istore_n 3, 1), (9, .iload_n 3, 1), (10, .iload_n 1, 1), (11, .invokestatic 125, 3), (14, .ifCond .eq 15, 3), (17, .iload_n 3, 1), (18, .iload_n 2, 1), (19, .invokestatic 125, 3), (22, .ifCond .eq 7, 3), (25, .iconst 1, 1), (26, .goto 4, 3), (29, .iconst 0, 1), (30, .ireturn, 1)]
theorem cdok_F_areInputs : ∀ q ∈ cd_F_areInputs, decode Y_F_areInputs.2.1 q.1 = .ok q.2 := by decide +kernel
set_option maxRecDepth 20000 in
theorem cy_F_areInputs : za_CY Y_F_areInputs 2 := ⟨za_in 339 rfl rfl, za_in 22 (by decide +kernel) rfl, ⟨by decide, by decide⟩, by decide +kernel⟩
theorem kc_F_areInputs : Cond.code Y_F_areInputs.1 Y_F_areInputs.2.1 Y_F_areInputs.2.2.1 Y_F_areInputs.2.2.2 ∈ za_tt := cy_F_areInputs.1
theorem cv_F_areInputs : za_CV Y_F_areInputs := ⟨za_in 338 (by decide +kernel) rfl, za_in 1 (by decide +kernel) rfl⟩
def Y_T_follow : za_Y := (⟨"WayFinder$Trace", "follow", "(LWayFinder$Program;II)V"⟩, prog_4_method_2_code, 5, none)
def cd_T_follow : List (Nat × Instr × Nat) := [(0, .aload_n 0, 1), (1, .iload_n 2, 1), (2, .iload_n 3, 1), (3, .invokevirtual 45, 3), (6, .iconst 0, 1), (7, .istore 4, 2), (9, .iload 4, 2), (11, .bipush 40, 2), (13, .if_icmp .ge 32, 3), (16, .aload_n 0, 1), (17, .getfield 35, 3), (20, .ifCond .ne 25, 3), (23, .aload_n 1, 1), (24, .aload_n 0, 1), (25, .getfield 15, 3), (28, .invokevirtual 49, 3), (31, .ifCond .eq 14, 3), (34, .aload_n 0, 1), (35, .aload_n 1, 1), (36, .invokevirtual 55, 3), (39, .iinc 4 1, 3), (42, .goto (-33), 3), (45, .aload_n 0, 1), (46, .getfield 35, 3), (49, .ifCond .ne 8, 3), (52, .aload_n 0, 1), (53, .aload_n 1, 1), (54, .invokevirtual 59, 3), (57, .return_, 1)]
theorem cdok_T_follow : ∀ q ∈ cd_T_follow, decode Y_T_follow.2.1 q.1 = .ok q.2 := by decide +kernel
set_option maxRecDepth 20000 in
theorem cy_T_follow : za_CY Y_T_follow 3 := ⟨za_in 344 rfl rfl, za_in 24 (by decide +kernel) rfl, ⟨by decide, by decide⟩, by decide +kernel⟩
theorem kc_T_follow : Cond.code Y_T_follow.1 Y_T_follow.2.1 Y_T_follow.2.2.1 Y_T_follow.2.2.2 ∈ za_tt := cy_T_follow.1
theorem cv_T_follow : za_CV Y_T_follow := ⟨za_in 342 (by decide +kernel) rfl, za_in 343 (by decide +kernel) rfl⟩
def Y_T_begin : za_Y := (⟨"WayFinder$Trace", "begin", "(II)V"⟩, prog_4_method_3_code, 3, none)
def cd_T_begin : List (Nat × Instr × Nat) := [(0, .aload_n 0, 1), (1, .getfield 9, 3), (4, .iconst 0, 1), (5, .iload_n 1, 1), (6, .iastore, 1), (7, .aload_n 0, 1), (8, .getfield 9, 3), (11, .iconst 1, 1), (12, .iload_n 2, 1), (13, .iastore, 1), (14, .aload_n 0, 1), (15, .getfield 9, 3), (18, .iconst 2, 1), (19, .iconst 0, 1), (20, .iastore, 1), (21, .aload_n 0, 1), (22, .getfield 9, 3), (25, .iconst 3, 1), (26, .iconst 0, 1), (27, .iastore, 1), (28, .aload_n 0, 1), (29, .iconst 0, 1), (30, .putfield 15, 3), (33, .aload_n 0, 1), (34, .iconst 0, 1), (35, .putfield 19, 3), (38, .aload_n 0, 1), (39, .iconst 0, 1), (40, .putfield 22, 3), (43, .aload_n 0, 1), (44, .iconst 0, 1), (45, .putfield 25, 3), (48, .aload_n 0, 1), (49, .lconst 0, 1), (50, .putfield 28, 3), (53, .aload_n 0, 1), (54, .iconst 0, 1), (55, .putfield 32, 3), (58, .aload_n 0, 1), (59, .iconst 0, 1), (60, .putfield 35, 3), (63, .return_, 1)]
theorem cdok_T_begin : ∀ q ∈ cd_T_begin, decode Y_T_begin.2.1 q.1 = .ok q.2 := by decide +kernel
set_option maxRecDepth 20000 in
theorem cy_T_begin : za_CY Y_T_begin 2 := ⟨za_in 348 rfl rfl, za_in 24 (by decide +kernel) rfl, ⟨by decide, by decide⟩, by decide +kernel⟩
theorem kc_T_begin : Cond.code Y_T_begin.1 Y_T_begin.2.1 Y_T_begin.2.2.1 Y_T_begin.2.2.2 ∈ za_tt := cy_T_begin.1
theorem cv_T_begin : za_CV Y_T_begin := ⟨za_in 347 (by decide +kernel) rfl, za_in 2 (by decide +kernel) rfl⟩
def Y_P_has : za_Y := (⟨"WayFinder$Program", "has", "(I)Z"⟩, prog_2_method_5_code, 2, (some .boolean))
def cd_P_has : List (Nat × Instr × Nat) := [(0, .iload_n 1, 1), (1, .ifCond .lt 15, 3), (4, .iload_n 1, 1), (5, .aload_n 0, 1), (6, .getfield 24, 3), (9, .if_icmp .ge 7, 3), (12, .iconst 1, 1), (13, .goto 4, 3), (16, .iconst 0, 1), (17, .ireturn, 1)]
theorem cdok_P_has : ∀ q ∈ cd_P_has, decode Y_P_has.2.1 q.1 = .ok q.2 := by decide +kernel
set_option maxRecDepth 20000 in
theorem cy_P_has : za_CY Y_P_has 1 := ⟨za_in 352 rfl rfl, za_in 23 (by decide +kernel) rfl, ⟨by decide, by decide⟩, by decide +kernel⟩
theorem kc_P_has : Cond.code Y_P_has.1 Y_P_has.2.1 Y_P_has.2.2.1 Y_P_has.2.2.2 ∈ za_tt := cy_P_has.1
theorem cv_P_has : za_CV Y_P_has := ⟨za_in 350 (by decide +kernel) rfl, za_in 351 (by decide +kernel) rfl⟩
def Y_T_step : za_Y := (⟨"WayFinder$Trace", "step", "(LWayFinder$Program;)V"⟩, prog_4_method_4_code, 6, none)
def cd_T_step : List (Nat × Instr × Nat) := [(0, .aload_n 0, 1), (1, .aload_n 0, 1), (2, .getfield 15, 3), (5, .putfield 19, 3), (8, .aload_n 0, 1), (9, .dup, 1), (10, .getfield 22, 3), (13, .iconst 1, 1), (14, .iadd, 1), (15, .putfield 22, 3), (18, .aload_n 0, 1), (19, .dup, 1), (20, .getfield 25, 3), (23, .iconst 1, 1), (24, .aload_n 0, 1), (25, .getfield 15, 3), (28, .ishl, 1), (29, .ior, 1), (30, .putfield 25, 3), (33, .aload_n 0, 1), (34, .dup, 1), (35, .getfield 15, 3), (38, .iconst 1, 1), (39, .iadd, 1), (40, .putfield 15, 3), (43, .aload_n 1, 1), (44, .getfield 62, 3), (47, .aload_n 0, 1), (48, .getfield 19, 3), (51, .iaload, 1), (52, .istore_n 2, 1), (53, .aload_n 1, 1), (54, .getfield 65, 3), (57, .aload_n 0, 1), (58, .getfield 19, 3), (61, .iaload, 1), (62, .istore_n 3, 1), (63, .aload_n 1, 1), (64, .getfield 68, 3), (67, .aload_n 0, 1), (68, .getfield 19, 3), (71, .iaload, 1), (72, .istore 4, 2), (74, .aload_n 1, 1), (75, .getfield 71, 3), (78, .aload_n 0, 1), (79, .getfield 19, 3), (82, .iaload, 1), (83, .istore 5, 2), (85, .iload 5, 2), (87, .tableswitch 197 0 13 #[69, 197, 197, 197, 197, 197, 197, 79, 97, 126, 155, 164, 175, 183], 69), (156, .aload_n 0, 1), (157, .getfield 9, 3), (160, .iload_n 2, 1), (161, .iload_n 3, 1), (162, .iastore, 1), (163, .goto 145, 3), (166, .aload_n 0, 1), (167, .getfield 9, 3), (170, .iload_n 2, 1), (171, .aload_n 0, 1), (172, .getfield 9, 3), (175, .iload_n 3, 1), (176, .iaload, 1), (177, .iload 4, 2), (179, .ishr, 1), (180, .iastore, 1), (181, .goto 127, 3), (184, .aload_n 0, 1), (185, .aload_n 0, 1), (186, .getfield 9, 3), (189, .iload_n 2, 1), (190, .iaload, 1), (191, .aload_n 0, 1), (192, .getfield 9, 3), (195, .iload_n 3, 1), (196, .iaload, 1), (197, .if_icmp .ge 7, 3), (200, .iconst 1, 1), (201, .goto 4, 3), (204, .iconst 0, 1), (205, .iload 4, 2), (207, .invokevirtual 74, 3), (210, .goto 98, 3), (213, .aload_n 0, 1), (214, .aload_n 0, 1), (215, .getfield 9, 3), (218, .iload_n 2, 1), (219, .iaload, 1), (220, .aload_n 0, 1), (221, .getfield 9, 3), (224, .iload_n 3, 1), (225, .iaload, 1), (226, .if_icmp .ne 7, 3), (229, .iconst 1, 1), (230, .goto 4, 3), (233, .iconst 0, 1), (234, .iload 4, 2), (236, .invokevirtual 74, 3), (239, .goto 69, 3), (242, .aload_n 0, 1), (243, .iload 4, 2), (245, .putfield 15, 3), (248, .goto 60, 3), (251, .aload_n 0, 1), (252, .iload_n 2, 1), (253, .iload_n 3, 1), (254, .iload 4, 2), (256, .invokevirtual 78, 3), (259, .goto 49, 3), (262, .aload_n 0, 1), (263, .iload_n 2, 1), (264, .invokevirtual 82, 3), (267, .goto 41, 3), (270, .aload_n 0, 1), (271, .iconst 0, 1), (272, .aload_n 0, 1), (273, .getfield 9, 3), (276, .iload_n 2, 1), (277, .iaload, 1), (278, .invokevirtual 86, 3), (281, .goto 27, 3), (284, .aload_n 0, 1), (285, .getfield 9, 3), (288, .iload_n 2, 1), (289, .iload 5, 2), (291, .aload_n 0, 1), (292, .getfield 9, 3), (295, .iload_n 3, 1), (296, .iaload, 1), (297, .aload_n 0, 1), (298, .getfield 9, 3), (301, .iload 4, 2), (303, .iaload, 1), (304, .invokestatic 89, 3), (307, .iastore, 1), (308, .return_, 1)]
theorem cdok_T_step : ∀ q ∈ cd_T_step, decode Y_T_step.2.1 q.1 = .ok q.2 := by decide +kernel
set_option maxRecDepth 20000 in
theorem cy_T_step : za_CY Y_T_step 1 := ⟨za_in 356 rfl rfl, za_in 24 (by decide +kernel) rfl, ⟨by decide, by decide⟩, by decide +kernel⟩
theorem kc_T_step : Cond.code Y_T_step.1 Y_T_step.2.1 Y_T_step.2.2.1 Y_T_step.2.2.2 ∈ za_tt := cy_T_step.1
theorem cv_T_step : za_CV Y_T_step := ⟨za_in 355 (by decide +kernel) rfl, za_in 3 (by decide +kernel) rfl⟩
def Y_T_goIf : za_Y := (⟨"WayFinder$Trace", "goIf", "(ZI)V"⟩, prog_4_method_6_code, 3, none)
def cd_T_goIf : List (Nat × Instr × Nat) := [(0, .aload_n 0, 1), (1, .iload_n 1, 1), (2, .invokevirtual 93, 3), (5, .iload_n 1, 1), (6, .ifCond .eq 8, 3), (9, .aload_n 0, 1), (10, .iload_n 2, 1), (11, .putfield 15, 3), (14, .return_, 1)]
theorem cdok_T_goIf : ∀ q ∈ cd_T_goIf, decode Y_T_goIf.2.1 q.1 = .ok q.2 := by decide +kernel
set_option maxRecDepth 20000 in
theorem cy_T_goIf : za_CY Y_T_goIf 2 := ⟨za_in 360 rfl rfl, za_in 24 (by decide +kernel) rfl, ⟨by decide, by decide⟩, by decide +kernel⟩
theorem kc_T_goIf : Cond.code Y_T_goIf.1 Y_T_goIf.2.1 Y_T_goIf.2.2.1 Y_T_goIf.2.2.2 ∈ za_tt := cy_T_goIf.1
theorem cv_T_goIf : za_CV Y_T_goIf := ⟨za_in 359 (by decide +kernel) rfl, za_in 4 (by decide +kernel) rfl⟩
def Y_T_decide : za_Y := (⟨"WayFinder$Trace", "decide", "(Z)V"⟩, prog_4_method_9_code, 2, none)
def cd_T_decide : List (Nat × Instr × Nat) := [(0, .iload_n 1, 1), (1, .ifCond .eq 21, 3), (4, .aload_n 0, 1), (5, .dup, 1), (6, .getfield 28, 3), (9, .lconst 1, 1), (10, .aload_n 0, 1), (11, .getfield 32, 3), (14, .invokestatic 97, 3), (17, .lshl, 1), (18, .lor, 1), (19, .putfield 28, 3), (22, .aload_n 0, 1), (23, .dup, 1), (24, .getfield 32, 3), (27, .iconst 1, 1), (28, .iadd, 1), (29, .putfield 32, 3), (32, .return_, 1)]
theorem cdok_T_decide : ∀ q ∈ cd_T_decide, decode Y_T_decide.2.1 q.1 = .ok q.2 := by decide +kernel
set_option maxRecDepth 20000 in
theorem cy_T_decide : za_CY Y_T_decide 1 := ⟨za_in 364 rfl rfl, za_in 24 (by decide +kernel) rfl, ⟨by decide, by decide⟩, by decide +kernel⟩
theorem kc_T_decide : Cond.code Y_T_decide.1 Y_T_decide.2.1 Y_T_decide.2.2.1 Y_T_decide.2.2.2 ∈ za_tt := cy_T_decide.1
theorem cv_T_decide : za_CV Y_T_decide := ⟨za_in 363 (by decide +kernel) rfl, za_in 5 (by decide +kernel) rfl⟩
def Y_F_decisionBit : za_Y := (⟨"WayFinder", "decisionBit", "(I)I"⟩, prog_1_method_17_code, 1, (some .int))
def cd_F_decisionBit : List (Nat × Instr × Nat) := [(0, .bipush 39, 2), (2, .iload_n 0, 1), (3, .isub, 1), (4, .ireturn, 1)]
theorem cdok_F_decisionBit : ∀ q ∈ cd_F_decisionBit, decode Y_F_decisionBit.2.1 q.1 = .ok q.2 := by decide +kernel
set_option maxRecDepth 20000 in
theorem cy_F_decisionBit : za_CY Y_F_decisionBit 1 := ⟨za_in 367 rfl rfl, za_in 22 (by decide +kernel) rfl, ⟨by decide, by decide⟩, by decide +kernel⟩
theorem kc_F_decisionBit : Cond.code Y_F_decisionBit.1 Y_F_decisionBit.2.1 Y_F_decisionBit.2.2.1 Y_F_decisionBit.2.2.2 ∈ za_tt := cy_F_decisionBit.1
theorem cs_F_decisionBit : za_CS Y_F_decisionBit := za_in 366 (by decide +kernel) rfl
def Y_T_divide : za_Y := (⟨"WayFinder$Trace", "divide", "(III)V"⟩, prog_4_method_7_code, 5, none)
def cd_T_divide : List (Nat × Instr × Nat) := [(0, .aload_n 0, 1), (1, .getfield 9, 3), (4, .iload_n 3, 1), (5, .iaload, 1), (6, .istore 4, 2), (8, .aload_n 0, 1), (9, .iload 4, 2), (11, .ifCond .ne 7, 3), (14, .iconst 1, 1), (15, .goto 4, 3), (18, .iconst 0, 1), (19, .invokevirtual 93, 3), (22, .iload 4, 2), (24, .ifCond .ne 15, 3), (27, .aload_n 0, 1), (28, .iconst 1, 1), (29, .aload_n 0, 1), (30, .getfield 19, 3), (33, .invokevirtual 86, 3), (36, .goto 18, 3), (39, .aload_n 0, 1), (40, .getfield 9, 3), (43, .iload_n 1, 1), (44, .aload_n 0, 1), (45, .getfield 9, 3), (48, .iload_n 2, 1), (49, .iaload, 1), (50, .iload 4, 2), (52, .idiv, 1), (53, .iastore, 1), (54, .return_, 1)]
theorem cdok_T_divide : ∀ q ∈ cd_T_divide, decode Y_T_divide.2.1 q.1 = .ok q.2 := by decide +kernel
set_option maxRecDepth 20000 in
theorem cy_T_divide : za_CY Y_T_divide 3 := ⟨za_in 371 rfl rfl, za_in 24 (by decide +kernel) rfl, ⟨by decide, by decide⟩, by decide +kernel⟩
theorem kc_T_divide : Cond.code Y_T_divide.1 Y_T_divide.2.1 Y_T_divide.2.2.1 Y_T_divide.2.2.2 ∈ za_tt := cy_T_divide.1
theorem cv_T_divide : za_CV Y_T_divide := ⟨za_in 370 (by decide +kernel) rfl, za_in 6 (by decide +kernel) rfl⟩
def Y_T_finish : za_Y := (⟨"WayFinder$Trace", "finish", "(II)V"⟩, prog_4_method_11_code, 3, none)
def cd_T_finish : List (Nat × Instr × Nat) := [(0, .aload_n 0, 1), (1, .iconst 1, 1), (2, .putfield 35, 3), (5, .aload_n 0, 1), (6, .iload_n 1, 1), (7, .putfield 39, 3), (10, .aload_n 0, 1), (11, .iload_n 2, 1), (12, .putfield 42, 3), (15, .return_, 1)]
theorem cdok_T_finish : ∀ q ∈ cd_T_finish, decode Y_T_finish.2.1 q.1 = .ok q.2 := by decide +kernel
set_option maxRecDepth 20000 in
theorem cy_T_finish : za_CY Y_T_finish 2 := ⟨za_in 375 rfl rfl, za_in 24 (by decide +kernel) rfl, ⟨by decide, by decide⟩, by decide +kernel⟩
theorem kc_T_finish : Cond.code Y_T_finish.1 Y_T_finish.2.1 Y_T_finish.2.2.1 Y_T_finish.2.2.2 ∈ za_tt := cy_T_finish.1
theorem cv_T_finish : za_CV Y_T_finish := ⟨za_in 374 (by decide +kernel) rfl, za_in 7 (by decide +kernel) rfl⟩
def Y_T_claim : za_Y := (⟨"WayFinder$Trace", "claim", "(I)V"⟩, prog_4_method_8_code, 3, none)
def cd_T_claim : List (Nat × Instr × Nat) := [(0, .aload_n 0, 1), (1, .getfield 9, 3), (4, .iload_n 1, 1), (5, .iaload, 1), (6, .ifCond .ne 7, 3), (9, .iconst 1, 1), (10, .goto 4, 3), (13, .iconst 0, 1), (14, .istore_n 2, 1), (15, .aload_n 0, 1), (16, .iload_n 2, 1), (17, .invokevirtual 93, 3), (20, .iload_n 2, 1), (21, .ifCond .eq 12, 3), (24, .aload_n 0, 1), (25, .iconst 2, 1), (26, .aload_n 0, 1), (27, .getfield 19, 3), (30, .invokevirtual 86, 3), (33, .return_, 1)]
theorem cdok_T_claim : ∀ q ∈ cd_T_claim, decode Y_T_claim.2.1 q.1 = .ok q.2 := by decide +kernel
set_option maxRecDepth 20000 in
theorem cy_T_claim : za_CY Y_T_claim 1 := ⟨za_in 379 rfl rfl, za_in 24 (by decide +kernel) rfl, ⟨by decide, by decide⟩, by decide +kernel⟩
theorem kc_T_claim : Cond.code Y_T_claim.1 Y_T_claim.2.1 Y_T_claim.2.2.1 Y_T_claim.2.2.2 ∈ za_tt := cy_T_claim.1
theorem cv_T_claim : za_CV Y_T_claim := ⟨za_in 378 (by decide +kernel) rfl, za_in 8 (by decide +kernel) rfl⟩
def Y_T_combine : za_Y := (⟨"WayFinder$Trace", "combine", "(III)I"⟩, prog_4_method_5_code, 3, (some .int))
def cd_T_combine : List (Nat × Instr × Nat) := [(0, .iload_n 0, 1), (1, .tableswitch 63 1 5 #[35, 43, 51, 55, 59], 35), (36, .iload_n 1, 1), (37, .iload_n 2, 1), (38, .iadd, 1), (39, .sipush 255, 3), (42, .iand, 1), (43, .ireturn, 1), (44, .iload_n 1, 1), (45, .iload_n 2, 1), (46, .isub, 1), (47, .sipush 255, 3), (50, .iand, 1), (51, .ireturn, 1), (52, .iload_n 1, 1), (53, .iload_n 2, 1), (54, .iand, 1), (55, .ireturn, 1), (56, .iload_n 1, 1), (57, .iload_n 2, 1), (58, .ior, 1), (59, .ireturn, 1), (60, .iload_n 1, 1), (61, .iload_n 2, 1), (62, .ixor, 1), (63, .ireturn, 1), (64, .iload_n 1, 1), (65, .iload_n 2, 1), (66, .imul, 1), (67, .sipush 255, 3), (70, .iand, 1), (71, .ireturn, 1)]
theorem cdok_T_combine : ∀ q ∈ cd_T_combine, decode Y_T_combine.2.1 q.1 = .ok q.2 := by decide +kernel
set_option maxRecDepth 20000 in
theorem cy_T_combine : za_CY Y_T_combine 3 := ⟨za_in 382 rfl rfl, za_in 24 (by decide +kernel) rfl, ⟨by decide, by decide⟩, by decide +kernel⟩
theorem kc_T_combine : Cond.code Y_T_combine.1 Y_T_combine.2.1 Y_T_combine.2.2.1 Y_T_combine.2.2.2 ∈ za_tt := cy_T_combine.1
theorem cs_T_combine : za_CS Y_T_combine := za_in 381 (by decide +kernel) rfl
def Y_T_finishUnasked : za_Y := (⟨"WayFinder$Trace", "finishUnasked", "(LWayFinder$Program;)V"⟩, prog_4_method_10_code, 2, none)
def cd_T_finishUnasked : List (Nat × Instr × Nat) := [(0, .aload_n 1, 1), (1, .aload_n 0, 1), (2, .getfield 15, 3), (5, .invokevirtual 49, 3), (8, .ifCond .eq 15, 3), (11, .aload_n 0, 1), (12, .iconst 3, 1), (13, .aload_n 0, 1), (14, .getfield 19, 3), (17, .invokevirtual 86, 3), (20, .goto 14, 3), (23, .aload_n 0, 1), (24, .iconst 0, 1), (25, .aload_n 0, 1), (26, .getfield 9, 3), (29, .iconst 0, 1), (30, .iaload, 1), (31, .invokevirtual 86, 3), (34, .return_, 1)]
theorem cdok_T_finishUnasked : ∀ q ∈ cd_T_finishUnasked, decode Y_T_finishUnasked.2.1 q.1 = .ok q.2 := by decide +kernel
set_option maxRecDepth 20000 in
theorem cy_T_finishUnasked : za_CY Y_T_finishUnasked 1 := ⟨za_in 386 rfl rfl, za_in 24 (by decide +kernel) rfl, ⟨by decide, by decide⟩, by decide +kernel⟩
theorem kc_T_finishUnasked : Cond.code Y_T_finishUnasked.1 Y_T_finishUnasked.2.1 Y_T_finishUnasked.2.2.1 Y_T_finishUnasked.2.2.2 ∈ za_tt := cy_T_finishUnasked.1
theorem cv_T_finishUnasked : za_CV Y_T_finishUnasked := ⟨za_in 385 (by decide +kernel) rfl, za_in 9 (by decide +kernel) rfl⟩
def Y_L_last : za_Y := (⟨"WayFinderLaw", "last", "(LWayFinder;I[J)I"⟩, method_7_code, 4, (some .int))
def cd_L_last : List (Nat × Instr × Nat) := [(0, .aload_n 2, 1), (1, .iconst 0, 1), (2, .aload_n 0, 1), (3, .iload_n 1, 1), (4, .invokevirtual 31, 3), (7, .i2l, 1), (8, .lastore, 1), (9, .goto 9, 3), (12, .astore_n 3, 1), (13, .iconst 1, 1), (14, .ireturn, 1), (15, .astore_n 3, 1), (16, .iconst 2, 1), (17, .ireturn, 1), (18, .iconst 0, 1), (19, .ireturn, 1)]
theorem cdok_L_last : ∀ q ∈ cd_L_last, decode Y_L_last.2.1 q.1 = .ok q.2 := by decide +kernel
def hs_L_last : List (Nat × Nat × Nat × Nat) := [(0, 9, 12, 21), (0, 9, 15, 13)]
set_option maxRecDepth 20000 in
theorem kw_L_last : Cond.codeWith Y_L_last.1 Y_L_last.2.1 Y_L_last.2.2.1 Y_L_last.2.2.2 hs_L_last ∈ za_tt := za_in 389 rfl rfl
theorem cs_L_last : za_CS Y_L_last := za_in 388 (by decide +kernel) rfl
def Y_F_last : za_Y := (⟨"WayFinder", "last", "(I)I"⟩, prog_1_method_6_code, 2, (some .int))
def cd_F_last : List (Nat × Instr × Nat) := [(0, .aload_n 0, 1), (1, .getfield 40, 3), (4, .ifCond .ne 11, 3), (7, .new 60, 3), (10, .dup, 1), (11, .invokespecial 62, 3), (14, .athrow, 1), (15, .iload_n 1, 1), (16, .tableswitch 52 0 2 #[28, 36, 44], 28), (44, .aload_n 0, 1), (45, .getfield 19, 3), (48, .getfield 74, 3), (51, .ireturn, 1), (52, .aload_n 0, 1), (53, .getfield 19, 3), (56, .getfield 77, 3), (59, .ireturn, 1), (60, .aload_n 0, 1), (61, .getfield 19, 3), (64, .getfield 80, 3), (67, .ireturn, 1), (68, .new 47, 3), (71, .dup, 1), (72, .invokespecial 49, 3), (75, .athrow, 1)]
theorem cdok_F_last : ∀ q ∈ cd_F_last, decode Y_F_last.2.1 q.1 = .ok q.2 := by decide +kernel
set_option maxRecDepth 20000 in
theorem cy_F_last : za_CY Y_F_last 1 := ⟨za_in 393 rfl rfl, za_in 22 (by decide +kernel) rfl, ⟨by decide, by decide⟩, by decide +kernel⟩
theorem kc_F_last : Cond.code Y_F_last.1 Y_F_last.2.1 Y_F_last.2.2.1 Y_F_last.2.2.2 ∈ za_tt := cy_F_last.1
theorem cv_F_last : za_CV Y_F_last := ⟨za_in 391 (by decide +kernel) rfl, za_in 392 (by decide +kernel) rfl⟩
def Y_L_explore : za_Y := (⟨"WayFinderLaw", "explore", "(LWayFinder;[J)I"⟩, method_8_code, 3, (some .int))
def cd_L_explore : List (Nat × Instr × Nat) := [(0, .aload_n 1, 1), (1, .iconst 0, 1), (2, .aload_n 0, 1), (3, .invokevirtual 34, 3), (6, .i2l, 1), (7, .lastore, 1), (8, .goto 6, 3), (11, .astore_n 2, 1), (12, .iconst 1, 1), (13, .ireturn, 1), (14, .iconst 0, 1), (15, .ireturn, 1)]
theorem cdok_L_explore : ∀ q ∈ cd_L_explore, decode Y_L_explore.2.1 q.1 = .ok q.2 := by decide +kernel
def hs_L_explore : List (Nat × Nat × Nat × Nat) := [(0, 8, 11, 15)]
set_option maxRecDepth 20000 in
theorem kw_L_explore : Cond.codeWith Y_L_explore.1 Y_L_explore.2.1 Y_L_explore.2.2.1 Y_L_explore.2.2.2 hs_L_explore ∈ za_tt := za_in 396 rfl rfl
theorem cs_L_explore : za_CS Y_L_explore := za_in 395 (by decide +kernel) rfl
def Y_F_explore : za_Y := (⟨"WayFinder", "explore", "()I"⟩, prog_1_method_7_code, 2, (some .int))
def cd_F_explore : List (Nat × Instr × Nat) := [(0, .aload_n 0, 1), (1, .invokevirtual 83, 3), (4, .ifCond .ne 11, 3), (7, .new 53, 3), (10, .dup, 1), (11, .invokespecial 55, 3), (14, .athrow, 1), (15, .aload_n 0, 1), (16, .getfield 29, 3), (19, .astore_n 1, 1), (20, .aload_n 0, 1), (21, .aload_n 0, 1), (22, .getfield 33, 3), (25, .putfield 29, 3), (28, .aload_n 0, 1), (29, .aload_n 1, 1), (30, .putfield 33, 3), (33, .aload_n 0, 1), (34, .getfield 29, 3), (37, .getfield 87, 3), (40, .ireturn, 1)]
theorem cdok_F_explore : ∀ q ∈ cd_F_explore, decode Y_F_explore.2.1 q.1 = .ok q.2 := by decide +kernel
set_option maxRecDepth 20000 in
theorem cy_F_explore : za_CY Y_F_explore 0 := ⟨za_in 400 rfl rfl, za_in 22 (by decide +kernel) rfl, ⟨by decide, by decide⟩, by decide +kernel⟩
theorem kc_F_explore : Cond.code Y_F_explore.1 Y_F_explore.2.1 Y_F_explore.2.2.1 Y_F_explore.2.2.2 ∈ za_tt := cy_F_explore.1
theorem cv_F_explore : za_CV Y_F_explore := ⟨za_in 398 (by decide +kernel) rfl, za_in 399 (by decide +kernel) rfl⟩
def Y_F_fillDraft : za_Y := (⟨"WayFinder", "fillDraft", "()Z"⟩, prog_1_method_15_code, 4, (some .boolean))
def cd_F_fillDraft : List (Nat × Instr × Nat) := [(0, .aload_n 0, 1), (1, .getfield 33, 3), (4, .invokevirtual 128, 3), (7, .iconst 1, 1), (8, .aload_n 0, 1), (9, .getfield 36, 3), (12, .ishl, 1), (13, .istore_n 1, 1), (14, .iconst 0, 1), (15, .istore_n 2, 1), (16, .iload_n 2, 1), (17, .iload_n 1, 1), (18, .if_icmp .ge 53, 3), (21, .iconst 0, 1), (22, .istore_n 3, 1), (23, .iload_n 3, 1), (24, .iload_n 1, 1), (25, .if_icmp .ge 40, 3), (28, .aload_n 0, 1), (29, .getfield 23, 3), (32, .aload_n 0, 1), (33, .getfield 10, 3), (36, .iload_n 2, 1), (37, .iload_n 3, 1), (38, .invokevirtual 67, 3), (41, .aload_n 0, 1), (42, .getfield 33, 3), (45, .aload_n 0, 1), (46, .getfield 23, 3), (49, .iload_n 2, 1), (50, .iload_n 3, 1), (51, .invokevirtual 131, 3), (54, .ifCond .ne 5, 3), (57, .iconst 0, 1), (58, .ireturn, 1), (59, .iinc 3 1, 3), (62, .goto (-39), 3), (65, .iinc 2 1, 3), (68, .goto (-52), 3), (71, .iconst 1, 1), (72, .ireturn, 1)]
theorem cdok_F_fillDraft : ∀ q ∈ cd_F_fillDraft, decode Y_F_fillDraft.2.1 q.1 = .ok q.2 := by decide +kernel
set_option maxRecDepth 20000 in
theorem cy_F_fillDraft : za_CY Y_F_fillDraft 0 := ⟨za_in 404 rfl rfl, za_in 22 (by decide +kernel) rfl, ⟨by decide, by decide⟩, by decide +kernel⟩
theorem kc_F_fillDraft : Cond.code Y_F_fillDraft.1 Y_F_fillDraft.2.1 Y_F_fillDraft.2.2.1 Y_F_fillDraft.2.2.2 ∈ za_tt := cy_F_fillDraft.1
theorem cv_F_fillDraft : za_CV Y_F_fillDraft := ⟨za_in 403 (by decide +kernel) rfl, za_in 10 (by decide +kernel) rfl⟩
def Y_R_empty : za_Y := (⟨"WayFinder$Results", "empty", "()V"⟩, prog_3_method_2_code, 1, none)
def cd_R_empty : List (Nat × Instr × Nat) := [(0, .aload_n 0, 1), (1, .iconst 0, 1), (2, .putfield 17, 3), (5, .aload_n 0, 1), (6, .iconst 0, 1), (7, .putfield 21, 3), (10, .return_, 1)]
theorem cdok_R_empty : ∀ q ∈ cd_R_empty, decode Y_R_empty.2.1 q.1 = .ok q.2 := by decide +kernel
set_option maxRecDepth 20000 in
theorem cy_R_empty : za_CY Y_R_empty 0 := ⟨za_in 408 rfl rfl, za_in 25 (by decide +kernel) rfl, ⟨by decide, by decide⟩, by decide +kernel⟩
theorem kc_R_empty : Cond.code Y_R_empty.1 Y_R_empty.2.1 Y_R_empty.2.2.1 Y_R_empty.2.2.2 ∈ za_tt := cy_R_empty.1
theorem cv_R_empty : za_CV Y_R_empty := ⟨za_in 406 (by decide +kernel) rfl, za_in 407 (by decide +kernel) rfl⟩
def Y_R_take : za_Y := (⟨"WayFinder$Results", "take", "(LWayFinder$Trace;II)Z"⟩, prog_3_method_4_code, 5, (some .boolean))
def cd_R_take : List (Nat × Instr × Nat) := [(0, .aload_n 0, 1), (1, .aload_n 1, 1), (2, .getfield 25, 3), (5, .invokevirtual 31, 3), (8, .istore 4, 2), (10, .aload_n 0, 1), (11, .iload 4, 2), (13, .invokevirtual 35, 3), (16, .ifCond .eq 23, 3), (19, .aload_n 0, 1), (20, .getfield 11, 3), (23, .iload 4, 2), (25, .aaload, 1), (26, .getfield 39, 3), (29, .aload_n 1, 1), (30, .getfield 25, 3), (33, .lcmp, 1), (34, .ifCond .ne 5, 3), (37, .iconst 1, 1), (38, .ireturn, 1), (39, .aload_n 0, 1), (40, .getfield 17, 3), (43, .bipush 64, 2), (45, .if_icmp .ne 5, 3), (48, .iconst 0, 1), (49, .ireturn, 1), (50, .aload_n 0, 1), (51, .iload 4, 2), (53, .invokevirtual 40, 3), (56, .aload_n 0, 1), (57, .getfield 11, 3), (60, .iload 4, 2), (62, .aaload, 1), (63, .aload_n 1, 1), (64, .iload_n 2, 1), (65, .iload_n 3, 1), (66, .invokevirtual 44, 3), (69, .aload_n 0, 1), (70, .dup, 1), (71, .getfield 21, 3), (74, .aload_n 1, 1), (75, .getfield 48, 3), (78, .ior, 1), (79, .putfield 21, 3), (82, .iconst 1, 1), (83, .ireturn, 1)]
theorem cdok_R_take : ∀ q ∈ cd_R_take, decode Y_R_take.2.1 q.1 = .ok q.2 := by decide +kernel
set_option maxRecDepth 20000 in
theorem cy_R_take : za_CY Y_R_take 3 := ⟨za_in 412 rfl rfl, za_in 25 (by decide +kernel) rfl, ⟨by decide, by decide⟩, by decide +kernel⟩
theorem kc_R_take : Cond.code Y_R_take.1 Y_R_take.2.1 Y_R_take.2.2.1 Y_R_take.2.2.2 ∈ za_tt := cy_R_take.1
theorem cv_R_take : za_CV Y_R_take := ⟨za_in 410 (by decide +kernel) rfl, za_in 411 (by decide +kernel) rfl⟩
def Y_R_firstNotBefore : za_Y := (⟨"WayFinder$Results", "firstNotBefore", "(J)I"⟩, prog_3_method_5_code, 4, (some .int))
def cd_R_firstNotBefore : List (Nat × Instr × Nat) := [(0, .iconst 0, 1), (1, .istore_n 3, 1), (2, .iload_n 3, 1), (3, .aload_n 0, 1), (4, .getfield 17, 3), (7, .if_icmp .ge 23, 3), (10, .aload_n 0, 1), (11, .getfield 11, 3), (14, .iload_n 3, 1), (15, .aaload, 1), (16, .getfield 39, 3), (19, .lload_n 1, 1), (20, .lcmp, 1), (21, .ifCond .ge 9, 3), (24, .iinc 3 1, 3), (27, .goto (-25), 3), (30, .iload_n 3, 1), (31, .ireturn, 1)]
theorem cdok_R_firstNotBefore : ∀ q ∈ cd_R_firstNotBefore, decode Y_R_firstNotBefore.2.1 q.1 = .ok q.2 := by decide +kernel
set_option maxRecDepth 20000 in
theorem cy_R_firstNotBefore : za_CY Y_R_firstNotBefore 1 := ⟨za_in 416 rfl rfl, za_in 25 (by decide +kernel) rfl, ⟨by decide, by decide⟩, by decide +kernel⟩
theorem kc_R_firstNotBefore : Cond.code Y_R_firstNotBefore.1 Y_R_firstNotBefore.2.1 Y_R_firstNotBefore.2.2.1 Y_R_firstNotBefore.2.2.2 ∈ za_tt := cy_R_firstNotBefore.1
theorem cv_R_firstNotBefore : za_CV Y_R_firstNotBefore := ⟨za_in 415 (by decide +kernel) rfl, za_in 11 (by decide +kernel) rfl⟩
def Y_R_has : za_Y := (⟨"WayFinder$Results", "has", "(I)Z"⟩, prog_3_method_3_code, 2, (some .boolean))
def cd_R_has : List (Nat × Instr × Nat) := [(0, .iload_n 1, 1), (1, .ifCond .lt 15, 3), (4, .iload_n 1, 1), (5, .aload_n 0, 1), (6, .getfield 17, 3), (9, .if_icmp .ge 7, 3), (12, .iconst 1, 1), (13, .goto 4, 3), (16, .iconst 0, 1), (17, .ireturn, 1)]
theorem cdok_R_has : ∀ q ∈ cd_R_has, decode Y_R_has.2.1 q.1 = .ok q.2 := by decide +kernel
set_option maxRecDepth 20000 in
theorem cy_R_has : za_CY Y_R_has 1 := ⟨za_in 420 rfl rfl, za_in 25 (by decide +kernel) rfl, ⟨by decide, by decide⟩, by decide +kernel⟩
theorem kc_R_has : Cond.code Y_R_has.1 Y_R_has.2.1 Y_R_has.2.2.1 Y_R_has.2.2.2 ∈ za_tt := cy_R_has.1
theorem cv_R_has : za_CV Y_R_has := ⟨za_in 418 (by decide +kernel) rfl, za_in 419 (by decide +kernel) rfl⟩
def Y_R_makeRoom : za_Y := (⟨"WayFinder$Results", "makeRoom", "(I)V"⟩, prog_3_method_6_code, 4, none)
def cd_R_makeRoom : List (Nat × Instr × Nat) := [(0, .aload_n 0, 1), (1, .getfield 11, 3), (4, .aload_n 0, 1), (5, .getfield 17, 3), (8, .aaload, 1), (9, .astore_n 2, 1), (10, .aload_n 0, 1), (11, .getfield 17, 3), (14, .istore_n 3, 1), (15, .iload_n 3, 1), (16, .iload_n 1, 1), (17, .if_icmp .le 23, 3), (20, .aload_n 0, 1), (21, .getfield 11, 3), (24, .iload_n 3, 1), (25, .aload_n 0, 1), (26, .getfield 11, 3), (29, .iload_n 3, 1), (30, .iconst 1, 1), (31, .isub, 1), (32, .aaload, 1), (33, .aastore, 1), (34, .iinc 3 (-1), 3), (37, .goto (-22), 3), (40, .aload_n 0, 1), (41, .getfield 11, 3), (44, .iload_n 1, 1), (45, .aload_n 2, 1), (46, .aastore, 1), (47, .aload_n 0, 1), (48, .dup, 1), (49, .getfield 17, 3), (52, .iconst 1, 1), (53, .iadd, 1), (54, .putfield 17, 3), (57, .return_, 1)]
theorem cdok_R_makeRoom : ∀ q ∈ cd_R_makeRoom, decode Y_R_makeRoom.2.1 q.1 = .ok q.2 := by decide +kernel
set_option maxRecDepth 20000 in
theorem cy_R_makeRoom : za_CY Y_R_makeRoom 1 := ⟨za_in 424 rfl rfl, za_in 25 (by decide +kernel) rfl, ⟨by decide, by decide⟩, by decide +kernel⟩
theorem kc_R_makeRoom : Cond.code Y_R_makeRoom.1 Y_R_makeRoom.2.1 Y_R_makeRoom.2.2.1 Y_R_makeRoom.2.2.2 ∈ za_tt := cy_R_makeRoom.1
theorem cv_R_makeRoom : za_CV Y_R_makeRoom := ⟨za_in 423 (by decide +kernel) rfl, za_in 12 (by decide +kernel) rfl⟩
def Y_W_set : za_Y := (⟨"WayFinder$Way", "set", "(LWayFinder$Trace;II)V"⟩, prog_5_method_2_code, 4, none)
def cd_W_set : List (Nat × Instr × Nat) := [(0, .aload_n 0, 1), (1, .iload_n 2, 1), (2, .putfield 9, 3), (5, .aload_n 0, 1), (6, .iload_n 3, 1), (7, .putfield 15, 3), (10, .aload_n 0, 1), (11, .aload_n 1, 1), (12, .getfield 31, 3), (15, .putfield 18, 3), (18, .aload_n 0, 1), (19, .aload_n 1, 1), (20, .getfield 34, 3), (23, .putfield 21, 3), (26, .aload_n 0, 1), (27, .aload_n 1, 1), (28, .getfield 35, 3), (31, .putfield 24, 3), (34, .aload_n 0, 1), (35, .aload_n 1, 1), (36, .getfield 36, 3), (39, .putfield 28, 3), (42, .return_, 1)]
theorem cdok_W_set : ∀ q ∈ cd_W_set, decode Y_W_set.2.1 q.1 = .ok q.2 := by decide +kernel
set_option maxRecDepth 20000 in
theorem cy_W_set : za_CY Y_W_set 3 := ⟨za_in 428 rfl rfl, za_in 26 (by decide +kernel) rfl, ⟨by decide, by decide⟩, by decide +kernel⟩
theorem kc_W_set : Cond.code Y_W_set.1 Y_W_set.2.1 Y_W_set.2.2.1 Y_W_set.2.2.2 ∈ za_tt := cy_W_set.1
theorem cv_W_set : za_CV Y_W_set := ⟨za_in 426 (by decide +kernel) rfl, za_in 427 (by decide +kernel) rfl⟩
def Y_L_way : za_Y := (⟨"WayFinderLaw", "way", "(LWayFinder;II[J)I"⟩, method_9_code, 5, (some .int))
def cd_L_way : List (Nat × Instr × Nat) := [(0, .aload_n 3, 1), (1, .iconst 0, 1), (2, .aload_n 0, 1), (3, .iload_n 1, 1), (4, .iload_n 2, 1), (5, .invokevirtual 37, 3), (8, .i2l, 1), (9, .lastore, 1), (10, .goto 11, 3), (13, .astore 4, 2), (15, .iconst 1, 1), (16, .ireturn, 1), (17, .astore 4, 2), (19, .iconst 2, 1), (20, .ireturn, 1), (21, .iconst 0, 1), (22, .ireturn, 1)]
theorem cdok_L_way : ∀ q ∈ cd_L_way, decode Y_L_way.2.1 q.1 = .ok q.2 := by decide +kernel
def hs_L_way : List (Nat × Nat × Nat × Nat) := [(0, 10, 13, 21), (0, 10, 17, 13)]
set_option maxRecDepth 20000 in
theorem kw_L_way : Cond.codeWith Y_L_way.1 Y_L_way.2.1 Y_L_way.2.2.1 Y_L_way.2.2.2 hs_L_way ∈ za_tt := za_in 431 rfl rfl
theorem cs_L_way : za_CS Y_L_way := za_in 430 (by decide +kernel) rfl
def Y_F_way : za_Y := (⟨"WayFinder", "way", "(II)I"⟩, prog_1_method_8_code, 4, (some .int))
def cd_F_way : List (Nat × Instr × Nat) := [(0, .aload_n 0, 1), (1, .getfield 29, 3), (4, .iload_n 1, 1), (5, .invokevirtual 88, 3), (8, .ifCond .ne 11, 3), (11, .new 60, 3), (14, .dup, 1), (15, .invokespecial 62, 3), (18, .athrow, 1), (19, .aload_n 0, 1), (20, .getfield 29, 3), (23, .getfield 92, 3), (26, .iload_n 1, 1), (27, .aaload, 1), (28, .astore_n 3, 1), (29, .iload_n 2, 1), (30, .tableswitch 59 0 4 #[34, 39, 44, 49, 54], 34), (64, .aload_n 3, 1), (65, .getfield 96, 3), (68, .ireturn, 1), (69, .aload_n 3, 1), (70, .getfield 101, 3), (73, .ireturn, 1), (74, .aload_n 3, 1), (75, .getfield 104, 3), (78, .ireturn, 1), (79, .aload_n 3, 1), (80, .getfield 105, 3), (83, .ireturn, 1), (84, .aload_n 3, 1), (85, .getfield 106, 3), (88, .ireturn, 1), (89, .new 47, 3), (92, .dup, 1), (93, .invokespecial 49, 3), (96, .athrow, 1)]
theorem cdok_F_way : ∀ q ∈ cd_F_way, decode Y_F_way.2.1 q.1 = .ok q.2 := by decide +kernel
set_option maxRecDepth 20000 in
theorem cy_F_way : za_CY Y_F_way 2 := ⟨za_in 435 rfl rfl, za_in 22 (by decide +kernel) rfl, ⟨by decide, by decide⟩, by decide +kernel⟩
theorem kc_F_way : Cond.code Y_F_way.1 Y_F_way.2.1 Y_F_way.2.2.1 Y_F_way.2.2.2 ∈ za_tt := cy_F_way.1
theorem cv_F_way : za_CV Y_F_way := ⟨za_in 433 (by decide +kernel) rfl, za_in 434 (by decide +kernel) rfl⟩
def Y_L_decision : za_Y := (⟨"WayFinderLaw", "decision", "(LWayFinder;II[J)I"⟩, method_10_code, 5, (some .int))
def cd_L_decision : List (Nat × Instr × Nat) := [(0, .aload_n 3, 1), (1, .iconst 0, 1), (2, .aload_n 0, 1), (3, .iload_n 1, 1), (4, .iload_n 2, 1), (5, .invokevirtual 40, 3), (8, .i2l, 1), (9, .lastore, 1), (10, .goto 7, 3), (13, .astore 4, 2), (15, .iconst 1, 1), (16, .ireturn, 1), (17, .iconst 0, 1), (18, .ireturn, 1)]
theorem cdok_L_decision : ∀ q ∈ cd_L_decision, decode Y_L_decision.2.1 q.1 = .ok q.2 := by decide +kernel
def hs_L_decision : List (Nat × Nat × Nat × Nat) := [(0, 10, 13, 21)]
set_option maxRecDepth 20000 in
theorem kw_L_decision : Cond.codeWith Y_L_decision.1 Y_L_decision.2.1 Y_L_decision.2.2.1 Y_L_decision.2.2.2 hs_L_decision ∈ za_tt := za_in 439 rfl rfl
theorem cs_L_decision : za_CS Y_L_decision := za_in 438 (by decide +kernel) rfl
def Y_F_decision : za_Y := (⟨"WayFinder", "decision", "(II)I"⟩, prog_1_method_9_code, 3, (some .int))
def cd_F_decision : List (Nat × Instr × Nat) := [(0, .aload_n 0, 1), (1, .getfield 29, 3), (4, .iload_n 1, 1), (5, .invokevirtual 88, 3), (8, .ifCond .eq 23, 3), (11, .iload_n 2, 1), (12, .ifCond .lt 19, 3), (15, .iload_n 2, 1), (16, .aload_n 0, 1), (17, .getfield 29, 3), (20, .getfield 92, 3), (23, .iload_n 1, 1), (24, .aaload, 1), (25, .getfield 106, 3), (28, .if_icmp .lt 11, 3), (31, .new 60, 3), (34, .dup, 1), (35, .invokespecial 62, 3), (38, .athrow, 1), (39, .aload_n 0, 1), (40, .getfield 29, 3), (43, .getfield 92, 3), (46, .iload_n 1, 1), (47, .aaload, 1), (48, .getfield 107, 3), (51, .iload_n 2, 1), (52, .invokestatic 111, 3), (55, .lshr, 1), (56, .l2i, 1), (57, .iconst 1, 1), (58, .iand, 1), (59, .ireturn, 1)]
theorem cdok_F_decision : ∀ q ∈ cd_F_decision, decode Y_F_decision.2.1 q.1 = .ok q.2 := by decide +kernel
set_option maxRecDepth 20000 in
theorem cy_F_decision : za_CY Y_F_decision 2 := ⟨za_in 443 rfl rfl, za_in 22 (by decide +kernel) rfl, ⟨by decide, by decide⟩, by decide +kernel⟩
theorem kc_F_decision : Cond.code Y_F_decision.1 Y_F_decision.2.1 Y_F_decision.2.2.1 Y_F_decision.2.2.2 ∈ za_tt := cy_F_decision.1
theorem cv_F_decision : za_CV Y_F_decision := ⟨za_in 441 (by decide +kernel) rfl, za_in 442 (by decide +kernel) rfl⟩
def Y_L_match : za_Y := (⟨"WayFinderLaw", "match", "(LWayFinder;II[J)I"⟩, method_11_code, 5, (some .int))
def cd_L_match : List (Nat × Instr × Nat) := [(0, .aload_n 3, 1), (1, .iconst 0, 1), (2, .aload_n 0, 1), (3, .iload_n 1, 1), (4, .iload_n 2, 1), (5, .invokevirtual 43, 3), (8, .i2l, 1), (9, .lastore, 1), (10, .goto 11, 3), (13, .astore 4, 2), (15, .iconst 1, 1), (16, .ireturn, 1), (17, .astore 4, 2), (19, .iconst 2, 1), (20, .ireturn, 1), (21, .iconst 0, 1), (22, .ireturn, 1)]
theorem cdok_L_match : ∀ q ∈ cd_L_match, decode Y_L_match.2.1 q.1 = .ok q.2 := by decide +kernel
def hs_L_match : List (Nat × Nat × Nat × Nat) := [(0, 10, 13, 13), (0, 10, 17, 21)]
set_option maxRecDepth 20000 in
theorem kw_L_match : Cond.codeWith Y_L_match.1 Y_L_match.2.1 Y_L_match.2.2.1 Y_L_match.2.2.2 hs_L_match ∈ za_tt := za_in 447 rfl rfl
theorem cs_L_match : za_CS Y_L_match := za_in 446 (by decide +kernel) rfl
def Y_F_match : za_Y := (⟨"WayFinder", "match", "(II)I"⟩, prog_1_method_10_code, 4, (some .int))
def cd_F_match : List (Nat × Instr × Nat) := [(0, .aload_n 0, 1), (1, .iload_n 1, 1), (2, .iload_n 2, 1), (3, .invokevirtual 63, 3), (6, .ifCond .ne 11, 3), (9, .new 47, 3), (12, .dup, 1), (13, .invokespecial 49, 3), (16, .athrow, 1), (17, .aload_n 0, 1), (18, .getfield 23, 3), (21, .aload_n 0, 1), (22, .getfield 10, 3), (25, .iload_n 1, 1), (26, .iload_n 2, 1), (27, .invokevirtual 67, 3), (30, .aload_n 0, 1), (31, .getfield 29, 3), (34, .aload_n 0, 1), (35, .getfield 23, 3), (38, .invokevirtual 115, 3), (41, .istore_n 3, 1), (42, .aload_n 0, 1), (43, .getfield 29, 3), (46, .iload_n 3, 1), (47, .invokevirtual 88, 3), (50, .ifCond .ne 11, 3), (53, .new 60, 3), (56, .dup, 1), (57, .invokespecial 62, 3), (60, .athrow, 1), (61, .iload_n 3, 1), (62, .ireturn, 1)]
theorem cdok_F_match : ∀ q ∈ cd_F_match, decode Y_F_match.2.1 q.1 = .ok q.2 := by decide +kernel
set_option maxRecDepth 20000 in
theorem cy_F_match : za_CY Y_F_match 2 := ⟨za_in 451 rfl rfl, za_in 22 (by decide +kernel) rfl, ⟨by decide, by decide⟩, by decide +kernel⟩
theorem kc_F_match : Cond.code Y_F_match.1 Y_F_match.2.1 Y_F_match.2.2.1 Y_F_match.2.2.2 ∈ za_tt := cy_F_match.1
theorem cv_F_match : za_CV Y_F_match := ⟨za_in 449 (by decide +kernel) rfl, za_in 450 (by decide +kernel) rfl⟩
def Y_R_firstAgreeing : za_Y := (⟨"WayFinder$Results", "firstAgreeing", "(LWayFinder$Trace;)I"⟩, prog_3_method_7_code, 3, (some .int))
def cd_R_firstAgreeing : List (Nat × Instr × Nat) := [(0, .iconst 0, 1), (1, .istore_n 2, 1), (2, .iload_n 2, 1), (3, .aload_n 0, 1), (4, .getfield 17, 3), (7, .if_icmp .ge 22, 3), (10, .aload_n 0, 1), (11, .getfield 11, 3), (14, .iload_n 2, 1), (15, .aaload, 1), (16, .aload_n 1, 1), (17, .invokevirtual 49, 3), (20, .ifCond .ne 9, 3), (23, .iinc 2 1, 3), (26, .goto (-24), 3), (29, .iload_n 2, 1), (30, .ireturn, 1)]
theorem cdok_R_firstAgreeing : ∀ q ∈ cd_R_firstAgreeing, decode Y_R_firstAgreeing.2.1 q.1 = .ok q.2 := by decide +kernel
set_option maxRecDepth 20000 in
theorem cy_R_firstAgreeing : za_CY Y_R_firstAgreeing 1 := ⟨za_in 455 rfl rfl, za_in 25 (by decide +kernel) rfl, ⟨by decide, by decide⟩, by decide +kernel⟩
theorem kc_R_firstAgreeing : Cond.code Y_R_firstAgreeing.1 Y_R_firstAgreeing.2.1 Y_R_firstAgreeing.2.2.1 Y_R_firstAgreeing.2.2.2 ∈ za_tt := cy_R_firstAgreeing.1
theorem cv_R_firstAgreeing : za_CV Y_R_firstAgreeing := ⟨za_in 453 (by decide +kernel) rfl, za_in 454 (by decide +kernel) rfl⟩
def Y_W_agreesWith : za_Y := (⟨"WayFinder$Way", "agreesWith", "(LWayFinder$Trace;)Z"⟩, prog_5_method_3_code, 3, (some .boolean))
def cd_W_agreesWith : List (Nat × Instr × Nat) := [(0, .bipush 40, 2), (2, .aload_n 1, 1), (3, .getfield 36, 3), (6, .isub, 1), (7, .istore_n 2, 1), (8, .aload_n 0, 1), (9, .getfield 28, 3), (12, .aload_n 1, 1), (13, .getfield 36, 3), (16, .if_icmp .lt 23, 3), (19, .aload_n 0, 1), (20, .getfield 24, 3), (23, .iload_n 2, 1), (24, .lshr, 1), (25, .aload_n 1, 1), (26, .getfield 35, 3), (29, .iload_n 2, 1), (30, .lshr, 1), (31, .lcmp, 1), (32, .ifCond .ne 7, 3), (35, .iconst 1, 1), (36, .goto 4, 3), (39, .iconst 0, 1), (40, .ireturn, 1)]
theorem cdok_W_agreesWith : ∀ q ∈ cd_W_agreesWith, decode Y_W_agreesWith.2.1 q.1 = .ok q.2 := by decide +kernel
set_option maxRecDepth 20000 in
theorem cy_W_agreesWith : za_CY Y_W_agreesWith 1 := ⟨za_in 459 rfl rfl, za_in 26 (by decide +kernel) rfl, ⟨by decide, by decide⟩, by decide +kernel⟩
theorem kc_W_agreesWith : Cond.code Y_W_agreesWith.1 Y_W_agreesWith.2.1 Y_W_agreesWith.2.2.1 Y_W_agreesWith.2.2.2 ∈ za_tt := cy_W_agreesWith.1
theorem cv_W_agreesWith : za_CV Y_W_agreesWith := ⟨za_in 457 (by decide +kernel) rfl, za_in 458 (by decide +kernel) rfl⟩
def Y_L_example : za_Y := (⟨"WayFinderLaw", "example", "(LWayFinder;I[J)I"⟩, method_12_code, 4, (some .int))
def cd_L_example : List (Nat × Instr × Nat) := [(0, .aload_n 2, 1), (1, .iconst 0, 1), (2, .aload_n 0, 1), (3, .iload_n 1, 1), (4, .invokevirtual 46, 3), (7, .i2l, 1), (8, .lastore, 1), (9, .goto 9, 3), (12, .astore_n 3, 1), (13, .iconst 1, 1), (14, .ireturn, 1), (15, .astore_n 3, 1), (16, .iconst 2, 1), (17, .ireturn, 1), (18, .iconst 0, 1), (19, .ireturn, 1)]
theorem cdok_L_example : ∀ q ∈ cd_L_example, decode Y_L_example.2.1 q.1 = .ok q.2 := by decide +kernel
def hs_L_example : List (Nat × Nat × Nat × Nat) := [(0, 9, 12, 13), (0, 9, 15, 21)]
set_option maxRecDepth 20000 in
theorem kw_L_example : Cond.codeWith Y_L_example.1 Y_L_example.2.1 Y_L_example.2.2.1 Y_L_example.2.2.2 hs_L_example ∈ za_tt := za_in 462 rfl rfl
theorem cs_L_example : za_CS Y_L_example := za_in 461 (by decide +kernel) rfl
def Y_F_example : za_Y := (⟨"WayFinder", "example", "(I)I"⟩, prog_1_method_11_code, 3, (some .int))
def cd_F_example : List (Nat × Instr × Nat) := [(0, .iload_n 1, 1), (1, .ifCond .lt 8, 3), (4, .iload_n 1, 1), (5, .iconst 3, 1), (6, .if_icmp .le 11, 3), (9, .new 47, 3), (12, .dup, 1), (13, .invokespecial 49, 3), (16, .athrow, 1), (17, .aload_n 0, 1), (18, .getfield 29, 3), (21, .iload_n 1, 1), (22, .invokevirtual 119, 3), (25, .istore_n 2, 1), (26, .iload_n 2, 1), (27, .sipush 256, 3), (30, .if_icmp .ne 11, 3), (33, .new 60, 3), (36, .dup, 1), (37, .invokespecial 62, 3), (40, .athrow, 1), (41, .iload_n 2, 1), (42, .ireturn, 1)]
theorem cdok_F_example : ∀ q ∈ cd_F_example, decode Y_F_example.2.1 q.1 = .ok q.2 := by decide +kernel
set_option maxRecDepth 20000 in
theorem cy_F_example : za_CY Y_F_example 1 := ⟨za_in 466 rfl rfl, za_in 22 (by decide +kernel) rfl, ⟨by decide, by decide⟩, by decide +kernel⟩
theorem kc_F_example : Cond.code Y_F_example.1 Y_F_example.2.1 Y_F_example.2.2.1 Y_F_example.2.2.2 ∈ za_tt := cy_F_example.1
theorem cv_F_example : za_CV Y_F_example := ⟨za_in 464 (by decide +kernel) rfl, za_in 465 (by decide +kernel) rfl⟩
def Y_R_leastInputs : za_Y := (⟨"WayFinder$Results", "leastInputs", "(I)I"⟩, prog_3_method_8_code, 4, (some .int))
def cd_R_leastInputs : List (Nat × Instr × Nat) := [(0, .sipush 256, 3), (3, .istore_n 2, 1), (4, .iconst 0, 1), (5, .istore_n 3, 1), (6, .iload_n 3, 1), (7, .aload_n 0, 1), (8, .getfield 17, 3), (11, .if_icmp .ge 48, 3), (14, .aload_n 0, 1), (15, .getfield 11, 3), (18, .iload_n 3, 1), (19, .aaload, 1), (20, .getfield 53, 3), (23, .iload_n 1, 1), (24, .if_icmp .ne 29, 3), (27, .iload_n 2, 1), (28, .aload_n 0, 1), (29, .getfield 11, 3), (32, .iload_n 3, 1), (33, .aaload, 1), (34, .getfield 56, 3), (37, .iconst 4, 1), (38, .ishl, 1), (39, .aload_n 0, 1), (40, .getfield 11, 3), (43, .iload_n 3, 1), (44, .aaload, 1), (45, .getfield 59, 3), (48, .iadd, 1), (49, .invokestatic 62, 3), (52, .istore_n 2, 1), (53, .iinc 3 1, 3), (56, .goto (-50), 3), (59, .iload_n 2, 1), (60, .ireturn, 1)]
theorem cdok_R_leastInputs : ∀ q ∈ cd_R_leastInputs, decode Y_R_leastInputs.2.1 q.1 = .ok q.2 := by decide +kernel
set_option maxRecDepth 20000 in
theorem cy_R_leastInputs : za_CY Y_R_leastInputs 1 := ⟨za_in 470 rfl rfl, za_in 25 (by decide +kernel) rfl, ⟨by decide, by decide⟩, by decide +kernel⟩
theorem kc_R_leastInputs : Cond.code Y_R_leastInputs.1 Y_R_leastInputs.2.1 Y_R_leastInputs.2.2.1 Y_R_leastInputs.2.2.2 ∈ za_tt := cy_R_leastInputs.1
theorem cv_R_leastInputs : za_CV Y_R_leastInputs := ⟨za_in 468 (by decide +kernel) rfl, za_in 469 (by decide +kernel) rfl⟩
def Y_L_count : za_Y := (⟨"WayFinderLaw", "count", "(LWayFinder;I[J)I"⟩, method_13_code, 4, (some .int))
def cd_L_count : List (Nat × Instr × Nat) := [(0, .aload_n 2, 1), (1, .iconst 0, 1), (2, .aload_n 0, 1), (3, .iload_n 1, 1), (4, .invokevirtual 49, 3), (7, .i2l, 1), (8, .lastore, 1), (9, .goto 6, 3), (12, .astore_n 3, 1), (13, .iconst 1, 1), (14, .ireturn, 1), (15, .iconst 0, 1), (16, .ireturn, 1)]
theorem cdok_L_count : ∀ q ∈ cd_L_count, decode Y_L_count.2.1 q.1 = .ok q.2 := by decide +kernel
def hs_L_count : List (Nat × Nat × Nat × Nat) := [(0, 9, 12, 13)]
set_option maxRecDepth 20000 in
theorem kw_L_count : Cond.codeWith Y_L_count.1 Y_L_count.2.1 Y_L_count.2.2.1 Y_L_count.2.2.2 hs_L_count ∈ za_tt := za_in 476 rfl rfl
theorem cs_L_count : za_CS Y_L_count := za_in 475 (by decide +kernel) rfl
def Y_F_count : za_Y := (⟨"WayFinder", "count", "(I)I"⟩, prog_1_method_13_code, 2, (some .int))
def cd_F_count : List (Nat × Instr × Nat) := [(0, .iload_n 1, 1), (1, .tableswitch 57 0 3 #[31, 39, 44, 52], 31), (32, .aload_n 0, 1), (33, .getfield 10, 3), (36, .getfield 50, 3), (39, .ireturn, 1), (40, .aload_n 0, 1), (41, .getfield 36, 3), (44, .ireturn, 1), (45, .aload_n 0, 1), (46, .getfield 29, 3), (49, .getfield 87, 3), (52, .ireturn, 1), (53, .aload_n 0, 1), (54, .getfield 40, 3), (57, .ireturn, 1), (58, .new 47, 3), (61, .dup, 1), (62, .invokespecial 49, 3), (65, .athrow, 1)]
theorem cdok_F_count : ∀ q ∈ cd_F_count, decode Y_F_count.2.1 q.1 = .ok q.2 := by decide +kernel
set_option maxRecDepth 20000 in
theorem cy_F_count : za_CY Y_F_count 1 := ⟨za_in 480 rfl rfl, za_in 22 (by decide +kernel) rfl, ⟨by decide, by decide⟩, by decide +kernel⟩
theorem kc_F_count : Cond.code Y_F_count.1 Y_F_count.2.1 Y_F_count.2.2.1 Y_F_count.2.2.2 ∈ za_tt := cy_F_count.1
theorem cv_F_count : za_CV Y_F_count := ⟨za_in 478 (by decide +kernel) rfl, za_in 479 (by decide +kernel) rfl⟩
def Y_M_init : za_Y := (⟨"WayFinderModel", "<init>", "()V"⟩, prog_7_method_1_code, 1, none)
def cd_M_init : List (Nat × Instr × Nat) := [(0, .aload_n 0, 1), (1, .invokespecial 1, 3), (4, .aload_n 0, 1), (5, .bipush 24, 2), (7, .newarray .int, 2), (9, .putfield 7, 3), (12, .aload_n 0, 1), (13, .bipush 24, 2), (15, .newarray .int, 2), (17, .putfield 13, 3), (20, .aload_n 0, 1), (21, .bipush 24, 2), (23, .newarray .int, 2), (25, .putfield 16, 3), (28, .aload_n 0, 1), (29, .bipush 24, 2), (31, .newarray .int, 2), (33, .putfield 19, 3), (36, .aload_n 0, 1), (37, .iconst 3, 1), (38, .putfield 22, 3), (41, .aload_n 0, 1), (42, .iconst 4, 1), (43, .newarray .int, 2), (45, .putfield 26, 3), (48, .aload_n 0, 1), (49, .bipush 65, 2), (51, .newarray .long, 2), (53, .putfield 29, 3), (56, .aload_n 0, 1), (57, .bipush 65, 2), (59, .newarray .int, 2), (61, .putfield 33, 3), (64, .aload_n 0, 1), (65, .bipush 65, 2), (67, .newarray .int, 2), (69, .putfield 36, 3), (72, .aload_n 0, 1), (73, .bipush 65, 2), (75, .newarray .int, 2), (77, .putfield 39, 3), (80, .aload_n 0, 1), (81, .bipush 65, 2), (83, .newarray .int, 2), (85, .putfield 42, 3), (88, .aload_n 0, 1), (89, .bipush 65, 2), (91, .newarray .int, 2), (93, .putfield 45, 3), (96, .aload_n 0, 1), (97, .bipush 64, 2), (99, .newarray .long, 2), (101, .putfield 48, 3), (104, .aload_n 0, 1), (105, .bipush 64, 2), (107, .newarray .int, 2), (109, .putfield 51, 3), (112, .aload_n 0, 1), (113, .bipush 64, 2), (115, .newarray .int, 2), (117, .putfield 54, 3), (120, .aload_n 0, 1), (121, .bipush 64, 2), (123, .newarray .int, 2), (125, .putfield 57, 3), (128, .aload_n 0, 1), (129, .bipush 64, 2), (131, .newarray .int, 2), (133, .putfield 60, 3), (136, .return_, 1)]
theorem cdok_M_init : ∀ q ∈ cd_M_init, decode Y_M_init.2.1 q.1 = .ok q.2 := by decide +kernel
set_option maxRecDepth 20000 in
theorem cy_M_init : za_CY Y_M_init 0 := ⟨za_in 485 rfl rfl, za_in 27 (by decide +kernel) rfl, ⟨by decide, by decide⟩, by decide +kernel⟩
theorem kc_M_init : Cond.code Y_M_init.1 Y_M_init.2.1 Y_M_init.2.2.1 Y_M_init.2.2.2 ∈ za_tt := cy_M_init.1
theorem ci_M_init : za_CI Y_M_init := ⟨za_in 484 (by decide +kernel) rfl, rfl, rfl⟩
def Y_M_thrown : za_Y := (⟨"WayFinderModel", "thrown", "()I"⟩, prog_7_method_2_code, 1, (some .int))
def cd_M_thrown : List (Nat × Instr × Nat) := [(0, .aload_n 0, 1), (1, .getfield 63, 3), (4, .ireturn, 1)]
theorem cdok_M_thrown : ∀ q ∈ cd_M_thrown, decode Y_M_thrown.2.1 q.1 = .ok q.2 := by decide +kernel
set_option maxRecDepth 20000 in
theorem cy_M_thrown : za_CY Y_M_thrown 0 := ⟨za_in 588 rfl rfl, za_in 27 (by decide +kernel) rfl, ⟨by decide, by decide⟩, by decide +kernel⟩
theorem kc_M_thrown : Cond.code Y_M_thrown.1 Y_M_thrown.2.1 Y_M_thrown.2.2.1 Y_M_thrown.2.2.2 ∈ za_tt := cy_M_thrown.1
theorem cv_M_thrown : za_CV Y_M_thrown := ⟨za_in 586 (by decide +kernel) rfl, za_in 587 (by decide +kernel) rfl⟩
def Y_M_instr : za_Y := (⟨"WayFinderModel", "instr", "(IIII)I"⟩, prog_7_method_6_code, 5, (some .int))
def cd_M_instr : List (Nat × Instr × Nat) := [(0, .aload_n 0, 1), (1, .iconst 0, 1), (2, .putfield 63, 3), (5, .iload_n 1, 1), (6, .iload_n 2, 1), (7, .iload_n 3, 1), (8, .iload 4, 2), (10, .invokestatic 70, 3), (13, .ifCond .ne 9, 3), (16, .aload_n 0, 1), (17, .iconst 1, 1), (18, .invokevirtual 74, 3), (21, .ireturn, 1), (22, .aload_n 0, 1), (23, .getfield 78, 3), (26, .bipush 24, 2), (28, .if_icmp .ne 9, 3), (31, .aload_n 0, 1), (32, .iconst 2, 1), (33, .invokevirtual 74, 3), (36, .ireturn, 1), (37, .aload_n 0, 1), (38, .getfield 7, 3), (41, .aload_n 0, 1), (42, .getfield 78, 3), (45, .iload_n 1, 1), (46, .iastore, 1), (47, .aload_n 0, 1), (48, .getfield 13, 3), (51, .aload_n 0, 1), (52, .getfield 78, 3), (55, .iload_n 2, 1), (56, .iastore, 1), (57, .aload_n 0, 1), (58, .getfield 16, 3), (61, .aload_n 0, 1), (62, .getfield 78, 3), (65, .iload_n 3, 1), (66, .iastore, 1), (67, .aload_n 0, 1), (68, .getfield 19, 3), (71, .aload_n 0, 1), (72, .getfield 78, 3), (75, .iload 4, 2), (77, .iastore, 1), (78, .aload_n 0, 1), (79, .dup, 1), (80, .getfield 78, 3), (83, .iconst 1, 1), (84, .iadd, 1), (85, .putfield 78, 3), (88, .aload_n 0, 1), (89, .getfield 78, 3), (92, .ireturn, 1)]
theorem cdok_M_instr : ∀ q ∈ cd_M_instr, decode Y_M_instr.2.1 q.1 = .ok q.2 := by decide +kernel
set_option maxRecDepth 20000 in
theorem cy_M_instr : za_CY Y_M_instr 4 := ⟨za_in 592 rfl rfl, za_in 27 (by decide +kernel) rfl, ⟨by decide, by decide⟩, by decide +kernel⟩
theorem kc_M_instr : Cond.code Y_M_instr.1 Y_M_instr.2.1 Y_M_instr.2.2.1 Y_M_instr.2.2.2 ∈ za_tt := cy_M_instr.1
theorem cv_M_instr : za_CV Y_M_instr := ⟨za_in 590 (by decide +kernel) rfl, za_in 591 (by decide +kernel) rfl⟩
def Y_M_fits : za_Y := (⟨"WayFinderModel", "fits", "(IIII)Z"⟩, prog_7_method_5_code, 4, (some .boolean))
def cd_M_fits : List (Nat × Instr × Nat) := [(0, .iload_n 0, 1), (1, .iconst 0, 1), (2, .bipush 13, 2), (4, .invokestatic 66, 3), (7, .ifCond .eq 18, 3), (10, .iload_n 0, 1), (11, .bipush 10, 2), (13, .if_icmp .eq 14, 3), (16, .iload_n 1, 1), (17, .iconst 0, 1), (18, .iconst 3, 1), (19, .invokestatic 66, 3), (22, .ifCond .ne 5, 3), (25, .iconst 0, 1), (26, .ireturn, 1), (27, .iload_n 0, 1), (28, .iconst 1, 1), (29, .bipush 9, 2), (31, .invokestatic 66, 3), (34, .ifCond .ne 9, 3), (37, .iload_n 0, 1), (38, .bipush 11, 2), (40, .if_icmp .ne 12, 3), (43, .iload_n 2, 1), (44, .iconst 0, 1), (45, .iconst 3, 1), (46, .invokestatic 66, 3), (49, .ifCond .eq 18, 3), (52, .iload_n 0, 1), (53, .ifCond .ne 16, 3), (56, .iload_n 2, 1), (57, .iconst 0, 1), (58, .sipush 255, 3), (61, .invokestatic 66, 3), (64, .ifCond .ne 5, 3), (67, .iconst 0, 1), (68, .ireturn, 1), (69, .iload_n 0, 1), (70, .iconst 1, 1), (71, .bipush 6, 2), (73, .invokestatic 66, 3), (76, .ifCond .ne 9, 3), (79, .iload_n 0, 1), (80, .bipush 11, 2), (82, .if_icmp .ne 12, 3), (85, .iload_n 3, 1), (86, .iconst 0, 1), (87, .iconst 3, 1), (88, .invokestatic 66, 3), (91, .ifCond .eq 19, 3), (94, .iload_n 0, 1), (95, .bipush 7, 2), (97, .if_icmp .ne 15, 3), (100, .iload_n 3, 1), (101, .iconst 0, 1), (102, .bipush 7, 2), (104, .invokestatic 66, 3), (107, .ifCond .ne 5, 3), (110, .iconst 0, 1), (111, .ireturn, 1), (112, .iload_n 0, 1), (113, .bipush 8, 2), (115, .bipush 10, 2), (117, .invokestatic 66, 3), (120, .ifCond .eq 13, 3), (123, .iload_n 3, 1), (124, .iconst 0, 1), (125, .bipush 24, 2), (127, .invokestatic 66, 3), (130, .ifCond .eq 7, 3), (133, .iconst 1, 1), (134, .goto 4, 3), (137, .iconst 0, 1), (138, .ireturn, 1)]
theorem cdok_M_fits : ∀ q ∈ cd_M_fits, decode Y_M_fits.2.1 q.1 = .ok q.2 := by decide +kernel
set_option maxRecDepth 20000 in
theorem cy_M_fits : za_CY Y_M_fits 4 := ⟨za_in 595 rfl rfl, za_in 27 (by decide +kernel) rfl, ⟨by decide, by decide⟩, by decide +kernel⟩
theorem kc_M_fits : Cond.code Y_M_fits.1 Y_M_fits.2.1 Y_M_fits.2.2.1 Y_M_fits.2.2.2 ∈ za_tt := cy_M_fits.1
theorem cs_M_fits : za_CS Y_M_fits := za_in 594 (by decide +kernel) rfl
def Y_M_in : za_Y := (⟨"WayFinderModel", "in", "(III)Z"⟩, prog_7_method_4_code, 3, (some .boolean))
def cd_M_in : List (Nat × Instr × Nat) := [(0, .iload_n 0, 1), (1, .iload_n 1, 1), (2, .if_icmp .lt 12, 3), (5, .iload_n 0, 1), (6, .iload_n 2, 1), (7, .if_icmp .gt 7, 3), (10, .iconst 1, 1), (11, .goto 4, 3), (14, .iconst 0, 1), (15, .ireturn, 1)]
theorem cdok_M_in : ∀ q ∈ cd_M_in, decode Y_M_in.2.1 q.1 = .ok q.2 := by decide +kernel
set_option maxRecDepth 20000 in
theorem cy_M_in : za_CY Y_M_in 3 := ⟨za_in 598 rfl rfl, za_in 27 (by decide +kernel) rfl, ⟨by decide, by decide⟩, by decide +kernel⟩
theorem kc_M_in : Cond.code Y_M_in.1 Y_M_in.2.1 Y_M_in.2.2.1 Y_M_in.2.2.2 ∈ za_tt := cy_M_in.1
theorem cs_M_in : za_CS Y_M_in := za_in 597 (by decide +kernel) rfl
def Y_M_raise : za_Y := (⟨"WayFinderModel", "raise", "(I)I"⟩, prog_7_method_3_code, 2, (some .int))
def cd_M_raise : List (Nat × Instr × Nat) := [(0, .aload_n 0, 1), (1, .iload_n 1, 1), (2, .putfield 63, 3), (5, .iconst 0, 1), (6, .ireturn, 1)]
theorem cdok_M_raise : ∀ q ∈ cd_M_raise, decode Y_M_raise.2.1 q.1 = .ok q.2 := by decide +kernel
set_option maxRecDepth 20000 in
theorem cy_M_raise : za_CY Y_M_raise 1 := ⟨za_in 602 rfl rfl, za_in 27 (by decide +kernel) rfl, ⟨by decide, by decide⟩, by decide +kernel⟩
theorem kc_M_raise : Cond.code Y_M_raise.1 Y_M_raise.2.1 Y_M_raise.2.2.1 Y_M_raise.2.2.2 ∈ za_tt := cy_M_raise.1
theorem cv_M_raise : za_CV Y_M_raise := ⟨za_in 601 (by decide +kernel) rfl, za_in 13 (by decide +kernel) rfl⟩
def Y_M_undo : za_Y := (⟨"WayFinderModel", "undo", "()I"⟩, prog_7_method_7_code, 1, (some .int))
def cd_M_undo : List (Nat × Instr × Nat) := [(0, .aload_n 0, 1), (1, .iconst 0, 1), (2, .putfield 63, 3), (5, .aload_n 0, 1), (6, .getfield 78, 3), (9, .ifCond .ne 9, 3), (12, .aload_n 0, 1), (13, .iconst 1, 1), (14, .invokevirtual 74, 3), (17, .ireturn, 1), (18, .aload_n 0, 1), (19, .dup, 1), (20, .getfield 78, 3), (23, .iconst 1, 1), (24, .isub, 1), (25, .putfield 78, 3), (28, .aload_n 0, 1), (29, .getfield 78, 3), (32, .ireturn, 1)]
theorem cdok_M_undo : ∀ q ∈ cd_M_undo, decode Y_M_undo.2.1 q.1 = .ok q.2 := by decide +kernel
set_option maxRecDepth 20000 in
theorem cy_M_undo : za_CY Y_M_undo 0 := ⟨za_in 606 rfl rfl, za_in 27 (by decide +kernel) rfl, ⟨by decide, by decide⟩, by decide +kernel⟩
theorem kc_M_undo : Cond.code Y_M_undo.1 Y_M_undo.2.1 Y_M_undo.2.2.1 Y_M_undo.2.2.2 ∈ za_tt := cy_M_undo.1
theorem cv_M_undo : za_CV Y_M_undo := ⟨za_in 604 (by decide +kernel) rfl, za_in 605 (by decide +kernel) rfl⟩
def Y_M_width : za_Y := (⟨"WayFinderModel", "width", "(I)I"⟩, prog_7_method_8_code, 3, (some .int))
def cd_M_width : List (Nat × Instr × Nat) := [(0, .aload_n 0, 1), (1, .iconst 0, 1), (2, .putfield 63, 3), (5, .iload_n 1, 1), (6, .iconst 1, 1), (7, .iconst 4, 1), (8, .invokestatic 66, 3), (11, .ifCond .ne 9, 3), (14, .aload_n 0, 1), (15, .iconst 1, 1), (16, .invokevirtual 74, 3), (19, .ireturn, 1), (20, .aload_n 0, 1), (21, .getfield 22, 3), (24, .istore_n 2, 1), (25, .aload_n 0, 1), (26, .iload_n 1, 1), (27, .putfield 22, 3), (30, .iload_n 2, 1), (31, .ireturn, 1)]
theorem cdok_M_width : ∀ q ∈ cd_M_width, decode Y_M_width.2.1 q.1 = .ok q.2 := by decide +kernel
set_option maxRecDepth 20000 in
theorem cy_M_width : za_CY Y_M_width 1 := ⟨za_in 610 rfl rfl, za_in 27 (by decide +kernel) rfl, ⟨by decide, by decide⟩, by decide +kernel⟩
theorem kc_M_width : Cond.code Y_M_width.1 Y_M_width.2.1 Y_M_width.2.2.1 Y_M_width.2.2.2 ∈ za_tt := cy_M_width.1
theorem cv_M_width : za_CV Y_M_width := ⟨za_in 608 (by decide +kernel) rfl, za_in 609 (by decide +kernel) rfl⟩
def Y_M_run : za_Y := (⟨"WayFinderModel", "run", "(II)I"⟩, prog_7_method_15_code, 3, (some .int))
def cd_M_run : List (Nat × Instr × Nat) := [(0, .aload_n 0, 1), (1, .iconst 0, 1), (2, .putfield 63, 3), (5, .aload_n 0, 1), (6, .iload_n 1, 1), (7, .invokevirtual 115, 3), (10, .ifCond .eq 11, 3), (13, .aload_n 0, 1), (14, .iload_n 2, 1), (15, .invokevirtual 115, 3), (18, .ifCond .ne 9, 3), (21, .aload_n 0, 1), (22, .iconst 1, 1), (23, .invokevirtual 74, 3), (26, .ireturn, 1), (27, .aload_n 0, 1), (28, .iload_n 1, 1), (29, .iload_n 2, 1), (30, .invokevirtual 119, 3), (33, .aload_n 0, 1), (34, .dup, 1), (35, .getfield 122, 3), (38, .iconst 1, 1), (39, .iadd, 1), (40, .putfield 122, 3), (43, .aload_n 0, 1), (44, .aload_n 0, 1), (45, .getfield 91, 3), (48, .putfield 125, 3), (51, .aload_n 0, 1), (52, .aload_n 0, 1), (53, .getfield 106, 3), (56, .putfield 128, 3), (59, .aload_n 0, 1), (60, .aload_n 0, 1), (61, .getfield 85, 3), (64, .putfield 131, 3), (67, .aload_n 0, 1), (68, .getfield 88, 3), (71, .ireturn, 1)]
theorem cdok_M_run : ∀ q ∈ cd_M_run, decode Y_M_run.2.1 q.1 = .ok q.2 := by decide +kernel
set_option maxRecDepth 20000 in
theorem cy_M_run : za_CY Y_M_run 2 := ⟨za_in 614 rfl rfl, za_in 27 (by decide +kernel) rfl, ⟨by decide, by decide⟩, by decide +kernel⟩
theorem kc_M_run : Cond.code Y_M_run.1 Y_M_run.2.1 Y_M_run.2.2.1 Y_M_run.2.2.2 ∈ za_tt := cy_M_run.1
theorem cv_M_run : za_CV Y_M_run := ⟨za_in 612 (by decide +kernel) rfl, za_in 613 (by decide +kernel) rfl⟩
def Y_M_isInput : za_Y := (⟨"WayFinderModel", "isInput", "(I)Z"⟩, prog_7_method_14_code, 2, (some .boolean))
def cd_M_isInput : List (Nat × Instr × Nat) := [(0, .iload_n 1, 1), (1, .iconst 0, 1), (2, .iconst 1, 1), (3, .aload_n 0, 1), (4, .getfield 22, 3), (7, .ishl, 1), (8, .iconst 1, 1), (9, .isub, 1), (10, .invokestatic 66, 3), (13, .ireturn, 1)]
theorem cdok_M_isInput : ∀ q ∈ cd_M_isInput, decode Y_M_isInput.2.1 q.1 = .ok q.2 := by decide +kernel
set_option maxRecDepth 20000 in
theorem cy_M_isInput : za_CY Y_M_isInput 1 := ⟨za_in 618 rfl rfl, za_in 27 (by decide +kernel) rfl, ⟨by decide, by decide⟩, by decide +kernel⟩
theorem kc_M_isInput : Cond.code Y_M_isInput.1 Y_M_isInput.2.1 Y_M_isInput.2.2.1 Y_M_isInput.2.2.2 ∈ za_tt := cy_M_isInput.1
theorem cv_M_isInput : za_CV Y_M_isInput := ⟨za_in 617 (by decide +kernel) rfl, za_in 14 (by decide +kernel) rfl⟩
def Y_M_go : za_Y := (⟨"WayFinderModel", "go", "(II)V"⟩, prog_7_method_13_code, 5, none)
def cd_M_go : List (Nat × Instr × Nat) := [(0, .aload_n 0, 1), (1, .getfield 26, 3), (4, .iconst 0, 1), (5, .iload_n 1, 1), (6, .iastore, 1), (7, .aload_n 0, 1), (8, .getfield 26, 3), (11, .iconst 1, 1), (12, .iload_n 2, 1), (13, .iastore, 1), (14, .aload_n 0, 1), (15, .getfield 26, 3), (18, .iconst 2, 1), (19, .iconst 0, 1), (20, .iastore, 1), (21, .aload_n 0, 1), (22, .getfield 26, 3), (25, .iconst 3, 1), (26, .iconst 0, 1), (27, .iastore, 1), (28, .aload_n 0, 1), (29, .iconst 0, 1), (30, .putfield 106, 3), (33, .aload_n 0, 1), (34, .iconst 0, 1), (35, .putfield 109, 3), (38, .aload_n 0, 1), (39, .lconst 0, 1), (40, .putfield 81, 3), (43, .aload_n 0, 1), (44, .iconst 0, 1), (45, .putfield 85, 3), (48, .iconst 0, 1), (49, .istore_n 3, 1), (50, .iconst 0, 1), (51, .istore 4, 2), (53, .iload_n 3, 1), (54, .ifCond .lt 54, 3), (57, .iload_n 3, 1), (58, .aload_n 0, 1), (59, .getfield 78, 3), (62, .if_icmp .ge 46, 3), (65, .aload_n 0, 1), (66, .getfield 106, 3), (69, .bipush 40, 2), (71, .if_icmp .ge 37, 3), (74, .iload_n 3, 1), (75, .istore 4, 2), (77, .aload_n 0, 1), (78, .dup, 1), (79, .getfield 109, 3), (82, .iconst 1, 1), (83, .iload_n 3, 1), (84, .ishl, 1), (85, .ior, 1), (86, .putfield 109, 3), (89, .aload_n 0, 1), (90, .dup, 1), (91, .getfield 106, 3), (94, .iconst 1, 1), (95, .iadd, 1), (96, .putfield 106, 3), (99, .aload_n 0, 1), (100, .iload_n 3, 1), (101, .invokevirtual 112, 3), (104, .istore_n 3, 1), (105, .goto (-52), 3), (108, .iload_n 3, 1), (109, .ifCond .lt 39, 3), (112, .aload_n 0, 1), (113, .iload_n 3, 1), (114, .aload_n 0, 1), (115, .getfield 78, 3), (118, .if_icmp .ge 7, 3), (121, .iconst 3, 1), (122, .goto 4, 3), (125, .iconst 0, 1), (126, .iload_n 3, 1), (127, .aload_n 0, 1), (128, .getfield 78, 3), (131, .if_icmp .ge 8, 3), (134, .iload 4, 2), (136, .goto 9, 3), (139, .aload_n 0, 1), (140, .getfield 26, 3), (143, .iconst 0, 1), (144, .iaload, 1), (145, .invokevirtual 98, 3), (148, .return_, 1)]
theorem cdok_M_go : ∀ q ∈ cd_M_go, decode Y_M_go.2.1 q.1 = .ok q.2 := by decide +kernel
set_option maxRecDepth 20000 in
theorem cy_M_go : za_CY Y_M_go 2 := ⟨za_in 622 rfl rfl, za_in 27 (by decide +kernel) rfl, ⟨by decide, by decide⟩, by decide +kernel⟩
theorem kc_M_go : Cond.code Y_M_go.1 Y_M_go.2.1 Y_M_go.2.2.1 Y_M_go.2.2.2 ∈ za_tt := cy_M_go.1
theorem cv_M_go : za_CV Y_M_go := ⟨za_in 621 (by decide +kernel) rfl, za_in 15 (by decide +kernel) rfl⟩
def Y_M_perform : za_Y := (⟨"WayFinderModel", "perform", "(I)I"⟩, prog_7_method_12_code, 4, (some .int))
def cd_M_perform : List (Nat × Instr × Nat) := [(0, .aload_n 0, 1), (1, .getfield 13, 3), (4, .iload_n 1, 1), (5, .iaload, 1), (6, .istore_n 2, 1), (7, .aload_n 0, 1), (8, .getfield 7, 3), (11, .iload_n 1, 1), (12, .iaload, 1), (13, .istore_n 3, 1), (14, .iload_n 3, 1), (15, .tableswitch 295 0 13 #[69, 295, 295, 295, 295, 295, 295, 295, 85, 130, 175, 182, 249, 282], 69), (84, .aload_n 0, 1), (85, .getfield 26, 3), (88, .iload_n 2, 1), (89, .aload_n 0, 1), (90, .getfield 16, 3), (93, .iload_n 1, 1), (94, .iaload, 1), (95, .iastore, 1), (96, .iload_n 1, 1), (97, .iconst 1, 1), (98, .iadd, 1), (99, .ireturn, 1), (100, .aload_n 0, 1), (101, .aload_n 0, 1), (102, .getfield 26, 3), (105, .iload_n 2, 1), (106, .iaload, 1), (107, .aload_n 0, 1), (108, .getfield 26, 3), (111, .aload_n 0, 1), (112, .getfield 16, 3), (115, .iload_n 1, 1), (116, .iaload, 1), (117, .iaload, 1), (118, .if_icmp .ge 7, 3), (121, .iconst 1, 1), (122, .goto 4, 3), (125, .iconst 0, 1), (126, .invokevirtual 94, 3), (129, .ifCond .eq 12, 3), (132, .aload_n 0, 1), (133, .getfield 19, 3), (136, .iload_n 1, 1), (137, .iaload, 1), (138, .goto 6, 3), (141, .iload_n 1, 1), (142, .iconst 1, 1), (143, .iadd, 1), (144, .ireturn, 1), (145, .aload_n 0, 1), (146, .aload_n 0, 1), (147, .getfield 26, 3), (150, .iload_n 2, 1), (151, .iaload, 1), (152, .aload_n 0, 1), (153, .getfield 26, 3), (156, .aload_n 0, 1), (157, .getfield 16, 3), (160, .iload_n 1, 1), (161, .iaload, 1), (162, .iaload, 1), (163, .if_icmp .ne 7, 3), (166, .iconst 1, 1), (167, .goto 4, 3), (170, .iconst 0, 1), (171, .invokevirtual 94, 3), (174, .ifCond .eq 12, 3), (177, .aload_n 0, 1), (178, .getfield 19, 3), (181, .iload_n 1, 1), (182, .iaload, 1), (183, .goto 6, 3), (186, .iload_n 1, 1), (187, .iconst 1, 1), (188, .iadd, 1), (189, .ireturn, 1), (190, .aload_n 0, 1), (191, .getfield 19, 3), (194, .iload_n 1, 1), (195, .iaload, 1), (196, .ireturn, 1), (197, .aload_n 0, 1), (198, .aload_n 0, 1), (199, .getfield 26, 3), (202, .aload_n 0, 1), (203, .getfield 19, 3), (206, .iload_n 1, 1), (207, .iaload, 1), (208, .iaload, 1), (209, .ifCond .ne 7, 3), (212, .iconst 1, 1), (213, .goto 4, 3), (216, .iconst 0, 1), (217, .invokevirtual 94, 3), (220, .ifCond .eq 11, 3), (223, .aload_n 0, 1), (224, .iconst 1, 1), (225, .iload_n 1, 1), (226, .invokevirtual 98, 3), (229, .iconst (-1), 1), (230, .ireturn, 1), (231, .aload_n 0, 1), (232, .getfield 26, 3), (235, .iload_n 2, 1), (236, .aload_n 0, 1), (237, .getfield 26, 3), (240, .aload_n 0, 1), (241, .getfield 16, 3), (244, .iload_n 1, 1), (245, .iaload, 1), (246, .iaload, 1), (247, .aload_n 0, 1), (248, .getfield 26, 3), (251, .aload_n 0, 1), (252, .getfield 19, 3), (255, .iload_n 1, 1), (256, .iaload, 1), (257, .iaload, 1), (258, .idiv, 1), (259, .iastore, 1), (260, .iload_n 1, 1), (261, .iconst 1, 1), (262, .iadd, 1), (263, .ireturn, 1), (264, .aload_n 0, 1), (265, .aload_n 0, 1), (266, .getfield 26, 3), (269, .iload_n 2, 1), (270, .iaload, 1), (271, .ifCond .ne 7, 3), (274, .iconst 1, 1), (275, .goto 4, 3), (278, .iconst 0, 1), (279, .invokevirtual 94, 3), (282, .ifCond .ne 7, 3), (285, .iload_n 1, 1), (286, .iconst 1, 1), (287, .iadd, 1), (288, .ireturn, 1), (289, .aload_n 0, 1), (290, .iconst 2, 1), (291, .iload_n 1, 1), (292, .invokevirtual 98, 3), (295, .iconst (-1), 1), (296, .ireturn, 1), (297, .aload_n 0, 1), (298, .iconst 0, 1), (299, .aload_n 0, 1), (300, .getfield 26, 3), (303, .iload_n 2, 1), (304, .iaload, 1), (305, .invokevirtual 98, 3), (308, .iconst (-1), 1), (309, .ireturn, 1), (310, .aload_n 0, 1), (311, .getfield 26, 3), (314, .iload_n 2, 1), (315, .aload_n 0, 1), (316, .iload_n 3, 1), (317, .aload_n 0, 1), (318, .getfield 26, 3), (321, .aload_n 0, 1), (322, .getfield 16, 3), (325, .iload_n 1, 1), (326, .iaload, 1), (327, .iaload, 1), (328, .iload_n 3, 1), (329, .bipush 7, 2), (331, .if_icmp .ge 17, 3), (334, .aload_n 0, 1), (335, .getfield 26, 3), (338, .aload_n 0, 1), (339, .getfield 19, 3), (342, .iload_n 1, 1), (343, .iaload, 1), (344, .iaload, 1), (345, .goto 4, 3), (348, .iconst 0, 1), (349, .iload_n 1, 1), (350, .invokevirtual 102, 3), (353, .iastore, 1), (354, .iload_n 1, 1), (355, .iconst 1, 1), (356, .iadd, 1), (357, .ireturn, 1)]
theorem cdok_M_perform : ∀ q ∈ cd_M_perform, decode Y_M_perform.2.1 q.1 = .ok q.2 := by decide +kernel
set_option maxRecDepth 20000 in
theorem cy_M_perform : za_CY Y_M_perform 1 := ⟨za_in 626 rfl rfl, za_in 27 (by decide +kernel) rfl, ⟨by decide, by decide⟩, by decide +kernel⟩
theorem kc_M_perform : Cond.code Y_M_perform.1 Y_M_perform.2.1 Y_M_perform.2.2.1 Y_M_perform.2.2.2 ∈ za_tt := cy_M_perform.1
theorem cv_M_perform : za_CV Y_M_perform := ⟨za_in 625 (by decide +kernel) rfl, za_in 16 (by decide +kernel) rfl⟩
def Y_M_decide : za_Y := (⟨"WayFinderModel", "decide", "(Z)Z"⟩, prog_7_method_9_code, 2, (some .boolean))
def cd_M_decide : List (Nat × Instr × Nat) := [(0, .iload_n 1, 1), (1, .ifCond .eq 21, 3), (4, .aload_n 0, 1), (5, .dup, 1), (6, .getfield 81, 3), (9, .lconst 1, 1), (10, .bipush 39, 2), (12, .aload_n 0, 1), (13, .getfield 85, 3), (16, .isub, 1), (17, .lshl, 1), (18, .lor, 1), (19, .putfield 81, 3), (22, .aload_n 0, 1), (23, .dup, 1), (24, .getfield 85, 3), (27, .iconst 1, 1), (28, .iadd, 1), (29, .putfield 85, 3), (32, .iload_n 1, 1), (33, .ireturn, 1)]
theorem cdok_M_decide : ∀ q ∈ cd_M_decide, decode Y_M_decide.2.1 q.1 = .ok q.2 := by decide +kernel
set_option maxRecDepth 20000 in
theorem cy_M_decide : za_CY Y_M_decide 1 := ⟨za_in 630 rfl rfl, za_in 27 (by decide +kernel) rfl, ⟨by decide, by decide⟩, by decide +kernel⟩
theorem kc_M_decide : Cond.code Y_M_decide.1 Y_M_decide.2.1 Y_M_decide.2.2.1 Y_M_decide.2.2.2 ∈ za_tt := cy_M_decide.1
theorem cv_M_decide : za_CV Y_M_decide := ⟨za_in 629 (by decide +kernel) rfl, za_in 17 (by decide +kernel) rfl⟩
def Y_M_finish : za_Y := (⟨"WayFinderModel", "finish", "(II)V"⟩, prog_7_method_11_code, 3, none)
def cd_M_finish : List (Nat × Instr × Nat) := [(0, .aload_n 0, 1), (1, .iload_n 1, 1), (2, .putfield 88, 3), (5, .aload_n 0, 1), (6, .iload_n 2, 1), (7, .putfield 91, 3), (10, .return_, 1)]
theorem cdok_M_finish : ∀ q ∈ cd_M_finish, decode Y_M_finish.2.1 q.1 = .ok q.2 := by decide +kernel
set_option maxRecDepth 20000 in
theorem cy_M_finish : za_CY Y_M_finish 2 := ⟨za_in 634 rfl rfl, za_in 27 (by decide +kernel) rfl, ⟨by decide, by decide⟩, by decide +kernel⟩
theorem kc_M_finish : Cond.code Y_M_finish.1 Y_M_finish.2.1 Y_M_finish.2.2.1 Y_M_finish.2.2.2 ∈ za_tt := cy_M_finish.1
theorem cv_M_finish : za_CV Y_M_finish := ⟨za_in 633 (by decide +kernel) rfl, za_in 18 (by decide +kernel) rfl⟩
def Y_M_worked : za_Y := (⟨"WayFinderModel", "worked", "(IIII)I"⟩, prog_7_method_10_code, 5, (some .int))
def cd_M_worked : List (Nat × Instr × Nat) := [(0, .iload_n 1, 1), (1, .tableswitch 75 1 6 #[39, 47, 55, 59, 63, 67], 39), (40, .iload_n 2, 1), (41, .iload_n 3, 1), (42, .iadd, 1), (43, .sipush 255, 3), (46, .iand, 1), (47, .ireturn, 1), (48, .iload_n 2, 1), (49, .iload_n 3, 1), (50, .isub, 1), (51, .sipush 255, 3), (54, .iand, 1), (55, .ireturn, 1), (56, .iload_n 2, 1), (57, .iload_n 3, 1), (58, .iand, 1), (59, .ireturn, 1), (60, .iload_n 2, 1), (61, .iload_n 3, 1), (62, .ior, 1), (63, .ireturn, 1), (64, .iload_n 2, 1), (65, .iload_n 3, 1), (66, .ixor, 1), (67, .ireturn, 1), (68, .iload_n 2, 1), (69, .iload_n 3, 1), (70, .imul, 1), (71, .sipush 255, 3), (74, .iand, 1), (75, .ireturn, 1), (76, .iload_n 2, 1), (77, .aload_n 0, 1), (78, .getfield 19, 3), (81, .iload 4, 2), (83, .iaload, 1), (84, .ishr, 1), (85, .ireturn, 1)]
theorem cdok_M_worked : ∀ q ∈ cd_M_worked, decode Y_M_worked.2.1 q.1 = .ok q.2 := by decide +kernel
set_option maxRecDepth 20000 in
theorem cy_M_worked : za_CY Y_M_worked 4 := ⟨za_in 638 rfl rfl, za_in 27 (by decide +kernel) rfl, ⟨by decide, by decide⟩, by decide +kernel⟩
theorem kc_M_worked : Cond.code Y_M_worked.1 Y_M_worked.2.1 Y_M_worked.2.2.1 Y_M_worked.2.2.2 ∈ za_tt := cy_M_worked.1
theorem cv_M_worked : za_CV Y_M_worked := ⟨za_in 637 (by decide +kernel) rfl, za_in 19 (by decide +kernel) rfl⟩
def Y_M_last : za_Y := (⟨"WayFinderModel", "last", "(I)I"⟩, prog_7_method_16_code, 2, (some .int))
def cd_M_last : List (Nat × Instr × Nat) := [(0, .aload_n 0, 1), (1, .iconst 0, 1), (2, .putfield 63, 3), (5, .aload_n 0, 1), (6, .getfield 122, 3), (9, .ifCond .ne 9, 3), (12, .aload_n 0, 1), (13, .iconst 1, 1), (14, .invokevirtual 74, 3), (17, .ireturn, 1), (18, .iload_n 1, 1), (19, .tableswitch 40 0 2 #[25, 30, 35], 25), (44, .aload_n 0, 1), (45, .getfield 125, 3), (48, .ireturn, 1), (49, .aload_n 0, 1), (50, .getfield 128, 3), (53, .ireturn, 1), (54, .aload_n 0, 1), (55, .getfield 131, 3), (58, .ireturn, 1), (59, .aload_n 0, 1), (60, .iconst 2, 1), (61, .invokevirtual 74, 3), (64, .ireturn, 1)]
theorem cdok_M_last : ∀ q ∈ cd_M_last, decode Y_M_last.2.1 q.1 = .ok q.2 := by decide +kernel
set_option maxRecDepth 20000 in
theorem cy_M_last : za_CY Y_M_last 1 := ⟨za_in 642 rfl rfl, za_in 27 (by decide +kernel) rfl, ⟨by decide, by decide⟩, by decide +kernel⟩
theorem kc_M_last : Cond.code Y_M_last.1 Y_M_last.2.1 Y_M_last.2.2.1 Y_M_last.2.2.2 ∈ za_tt := cy_M_last.1
theorem cv_M_last : za_CV Y_M_last := ⟨za_in 640 (by decide +kernel) rfl, za_in 641 (by decide +kernel) rfl⟩
def Y_M_explore : za_Y := (⟨"WayFinderModel", "explore", "()I"⟩, prog_7_method_18_code, 2, (some .int))
def cd_M_explore : List (Nat × Instr × Nat) := [(0, .aload_n 0, 1), (1, .iconst 0, 1), (2, .putfield 63, 3), (5, .aload_n 0, 1), (6, .iconst 0, 1), (7, .putfield 134, 3), (10, .iconst 0, 1), (11, .istore_n 1, 1), (12, .iload_n 1, 1), (13, .iconst 1, 1), (14, .iconst 2, 1), (15, .aload_n 0, 1), (16, .getfield 22, 3), (19, .imul, 1), (20, .ishl, 1), (21, .if_icmp .ge 62, 3), (24, .aload_n 0, 1), (25, .getfield 134, 3), (28, .bipush 65, 2), (30, .if_icmp .ge 53, 3), (33, .aload_n 0, 1), (34, .iload_n 1, 1), (35, .aload_n 0, 1), (36, .getfield 22, 3), (39, .ishr, 1), (40, .iload_n 1, 1), (41, .iconst 1, 1), (42, .aload_n 0, 1), (43, .getfield 22, 3), (46, .ishl, 1), (47, .iconst 1, 1), (48, .isub, 1), (49, .iand, 1), (50, .invokevirtual 119, 3), (53, .aload_n 0, 1), (54, .bipush 16, 2), (56, .iload_n 1, 1), (57, .aload_n 0, 1), (58, .getfield 22, 3), (61, .ishr, 1), (62, .imul, 1), (63, .iload_n 1, 1), (64, .iconst 1, 1), (65, .aload_n 0, 1), (66, .getfield 22, 3), (69, .ishl, 1), (70, .iconst 1, 1), (71, .isub, 1), (72, .iand, 1), (73, .iadd, 1), (74, .invokevirtual 137, 3), (77, .iinc 1 1, 3), (80, .goto (-68), 3), (83, .aload_n 0, 1), (84, .getfield 134, 3), (87, .bipush 64, 2), (89, .if_icmp .le 9, 3), (92, .aload_n 0, 1), (93, .iconst 1, 1), (94, .invokevirtual 74, 3), (97, .ireturn, 1), (98, .aload_n 0, 1), (99, .aload_n 0, 1), (100, .getfield 134, 3), (103, .putfield 141, 3), (106, .aload_n 0, 1), (107, .iconst 0, 1), (108, .putfield 144, 3), (111, .iconst 0, 1), (112, .istore_n 1, 1), (113, .iload_n 1, 1), (114, .aload_n 0, 1), (115, .getfield 134, 3), (118, .if_icmp .ge 84, 3), (121, .aload_n 0, 1), (122, .getfield 48, 3), (125, .iload_n 1, 1), (126, .aload_n 0, 1), (127, .getfield 29, 3), (130, .iload_n 1, 1), (131, .laload, 1), (132, .lastore, 1), (133, .aload_n 0, 1), (134, .getfield 51, 3), (137, .iload_n 1, 1), (138, .aload_n 0, 1), (139, .getfield 33, 3), (142, .iload_n 1, 1), (143, .iaload, 1), (144, .iastore, 1), (145, .aload_n 0, 1), (146, .getfield 54, 3), (149, .iload_n 1, 1), (150, .aload_n 0, 1), (151, .getfield 36, 3), (154, .iload_n 1, 1), (155, .iaload, 1), (156, .iastore, 1), (157, .aload_n 0, 1), (158, .getfield 57, 3), (161, .iload_n 1, 1), (162, .aload_n 0, 1), (163, .getfield 39, 3), (166, .iload_n 1, 1), (167, .iaload, 1), (168, .iastore, 1), (169, .aload_n 0, 1), (170, .getfield 60, 3), (173, .iload_n 1, 1), (174, .aload_n 0, 1), (175, .getfield 42, 3), (178, .iload_n 1, 1), (179, .iaload, 1), (180, .iastore, 1), (181, .aload_n 0, 1), (182, .dup, 1), (183, .getfield 144, 3), (186, .aload_n 0, 1), (187, .getfield 45, 3), (190, .iload_n 1, 1), (191, .iaload, 1), (192, .ior, 1), (193, .putfield 144, 3), (196, .iinc 1 1, 3), (199, .goto (-86), 3), (202, .aload_n 0, 1), (203, .getfield 134, 3), (206, .ireturn, 1)]
theorem cdok_M_explore : ∀ q ∈ cd_M_explore, decode Y_M_explore.2.1 q.1 = .ok q.2 := by decide +kernel
set_option maxRecDepth 20000 in
theorem cy_M_explore : za_CY Y_M_explore 0 := ⟨za_in 646 rfl rfl, za_in 27 (by decide +kernel) rfl, ⟨by decide, by decide⟩, by decide +kernel⟩
theorem kc_M_explore : Cond.code Y_M_explore.1 Y_M_explore.2.1 Y_M_explore.2.2.1 Y_M_explore.2.2.2 ∈ za_tt := cy_M_explore.1
theorem cv_M_explore : za_CV Y_M_explore := ⟨za_in 644 (by decide +kernel) rfl, za_in 645 (by decide +kernel) rfl⟩
def Y_M_enter : za_Y := (⟨"WayFinderModel", "enter", "(I)V"⟩, prog_7_method_17_code, 4, none)
def cd_M_enter : List (Nat × Instr × Nat) := [(0, .aload_n 0, 1), (1, .getfield 134, 3), (4, .istore_n 2, 1), (5, .iload_n 2, 1), (6, .ifCond .le 25, 3), (9, .aload_n 0, 1), (10, .getfield 29, 3), (13, .iload_n 2, 1), (14, .iconst 1, 1), (15, .isub, 1), (16, .laload, 1), (17, .aload_n 0, 1), (18, .getfield 81, 3), (21, .lcmp, 1), (22, .ifCond .le 9, 3), (25, .iinc 2 (-1), 3), (28, .goto (-23), 3), (31, .iload_n 2, 1), (32, .ifCond .le 20, 3), (35, .aload_n 0, 1), (36, .getfield 29, 3), (39, .iload_n 2, 1), (40, .iconst 1, 1), (41, .isub, 1), (42, .laload, 1), (43, .aload_n 0, 1), (44, .getfield 81, 3), (47, .lcmp, 1), (48, .ifCond .ne 4, 3), (51, .return_, 1), (52, .aload_n 0, 1), (53, .getfield 134, 3), (56, .istore_n 3, 1), (57, .iload_n 3, 1), (58, .iload_n 2, 1), (59, .if_icmp .le 93, 3), (62, .aload_n 0, 1), (63, .getfield 29, 3), (66, .iload_n 3, 1), (67, .aload_n 0, 1), (68, .getfield 29, 3), (71, .iload_n 3, 1), (72, .iconst 1, 1), (73, .isub, 1), (74, .laload, 1), (75, .lastore, 1), (76, .aload_n 0, 1), (77, .getfield 33, 3), (80, .iload_n 3, 1), (81, .aload_n 0, 1), (82, .getfield 33, 3), (85, .iload_n 3, 1), (86, .iconst 1, 1), (87, .isub, 1), (88, .iaload, 1), (89, .iastore, 1), (90, .aload_n 0, 1), (91, .getfield 36, 3), (94, .iload_n 3, 1), (95, .aload_n 0, 1), (96, .getfield 36, 3), (99, .iload_n 3, 1), (100, .iconst 1, 1), (101, .isub, 1), (102, .iaload, 1), (103, .iastore, 1), (104, .aload_n 0, 1), (105, .getfield 39, 3), (108, .iload_n 3, 1), (109, .aload_n 0, 1), (110, .getfield 39, 3), (113, .iload_n 3, 1), (114, .iconst 1, 1), (115, .isub, 1), (116, .iaload, 1), (117, .iastore, 1), (118, .aload_n 0, 1), (119, .getfield 42, 3), (122, .iload_n 3, 1), (123, .aload_n 0, 1), (124, .getfield 42, 3), (127, .iload_n 3, 1), (128, .iconst 1, 1), (129, .isub, 1), (130, .iaload, 1), (131, .iastore, 1), (132, .aload_n 0, 1), (133, .getfield 45, 3), (136, .iload_n 3, 1), (137, .aload_n 0, 1), (138, .getfield 45, 3), (141, .iload_n 3, 1), (142, .iconst 1, 1), (143, .isub, 1), (144, .iaload, 1), (145, .iastore, 1), (146, .iinc 3 (-1), 3), (149, .goto (-92), 3), (152, .aload_n 0, 1), (153, .getfield 29, 3), (156, .iload_n 2, 1), (157, .aload_n 0, 1), (158, .getfield 81, 3), (161, .lastore, 1), (162, .aload_n 0, 1), (163, .getfield 33, 3), (166, .iload_n 2, 1), (167, .aload_n 0, 1), (168, .getfield 85, 3), (171, .iastore, 1), (172, .aload_n 0, 1), (173, .getfield 36, 3), (176, .iload_n 2, 1), (177, .iload_n 1, 1), (178, .iastore, 1), (179, .aload_n 0, 1), (180, .getfield 39, 3), (183, .iload_n 2, 1), (184, .aload_n 0, 1), (185, .getfield 88, 3), (188, .iastore, 1), (189, .aload_n 0, 1), (190, .getfield 42, 3), (193, .iload_n 2, 1), (194, .aload_n 0, 1), (195, .getfield 91, 3), (198, .iastore, 1), (199, .aload_n 0, 1), (200, .getfield 45, 3), (203, .iload_n 2, 1), (204, .aload_n 0, 1), (205, .getfield 109, 3), (208, .iastore, 1), (209, .aload_n 0, 1), (210, .dup, 1), (211, .getfield 134, 3), (214, .iconst 1, 1), (215, .iadd, 1), (216, .putfield 134, 3), (219, .return_, 1)]
theorem cdok_M_enter : ∀ q ∈ cd_M_enter, decode Y_M_enter.2.1 q.1 = .ok q.2 := by decide +kernel
set_option maxRecDepth 20000 in
theorem cy_M_enter : za_CY Y_M_enter 1 := ⟨za_in 650 rfl rfl, za_in 27 (by decide +kernel) rfl, ⟨by decide, by decide⟩, by decide +kernel⟩
theorem kc_M_enter : Cond.code Y_M_enter.1 Y_M_enter.2.1 Y_M_enter.2.2.1 Y_M_enter.2.2.2 ∈ za_tt := cy_M_enter.1
theorem cv_M_enter : za_CV Y_M_enter := ⟨za_in 649 (by decide +kernel) rfl, za_in 20 (by decide +kernel) rfl⟩
def Y_M_way : za_Y := (⟨"WayFinderModel", "way", "(II)I"⟩, prog_7_method_19_code, 3, (some .int))
def cd_M_way : List (Nat × Instr × Nat) := [(0, .aload_n 0, 1), (1, .iconst 0, 1), (2, .putfield 63, 3), (5, .iload_n 1, 1), (6, .iconst 0, 1), (7, .aload_n 0, 1), (8, .getfield 141, 3), (11, .iconst 1, 1), (12, .isub, 1), (13, .invokestatic 66, 3), (16, .ifCond .ne 9, 3), (19, .aload_n 0, 1), (20, .iconst 1, 1), (21, .invokevirtual 74, 3), (24, .ireturn, 1), (25, .iload_n 2, 1), (26, .tableswitch 75 0 4 #[34, 44, 54, 61, 68], 34), (60, .aload_n 0, 1), (61, .getfield 54, 3), (64, .iload_n 1, 1), (65, .iaload, 1), (66, .bipush 16, 2), (68, .idiv, 1), (69, .ireturn, 1), (70, .aload_n 0, 1), (71, .getfield 54, 3), (74, .iload_n 1, 1), (75, .iaload, 1), (76, .bipush 16, 2), (78, .irem, 1), (79, .ireturn, 1), (80, .aload_n 0, 1), (81, .getfield 57, 3), (84, .iload_n 1, 1), (85, .iaload, 1), (86, .ireturn, 1), (87, .aload_n 0, 1), (88, .getfield 60, 3), (91, .iload_n 1, 1), (92, .iaload, 1), (93, .ireturn, 1), (94, .aload_n 0, 1), (95, .getfield 51, 3), (98, .iload_n 1, 1), (99, .iaload, 1), (100, .ireturn, 1), (101, .aload_n 0, 1), (102, .iconst 2, 1), (103, .invokevirtual 74, 3), (106, .ireturn, 1)]
theorem cdok_M_way : ∀ q ∈ cd_M_way, decode Y_M_way.2.1 q.1 = .ok q.2 := by decide +kernel
set_option maxRecDepth 20000 in
theorem cy_M_way : za_CY Y_M_way 2 := ⟨za_in 654 rfl rfl, za_in 27 (by decide +kernel) rfl, ⟨by decide, by decide⟩, by decide +kernel⟩
theorem kc_M_way : Cond.code Y_M_way.1 Y_M_way.2.1 Y_M_way.2.2.1 Y_M_way.2.2.2 ∈ za_tt := cy_M_way.1
theorem cv_M_way : za_CV Y_M_way := ⟨za_in 652 (by decide +kernel) rfl, za_in 653 (by decide +kernel) rfl⟩
def Y_M_decision : za_Y := (⟨"WayFinderModel", "decision", "(II)I"⟩, prog_7_method_20_code, 3, (some .int))
def cd_M_decision : List (Nat × Instr × Nat) := [(0, .aload_n 0, 1), (1, .iconst 0, 1), (2, .putfield 63, 3), (5, .iload_n 1, 1), (6, .iconst 0, 1), (7, .aload_n 0, 1), (8, .getfield 141, 3), (11, .iconst 1, 1), (12, .isub, 1), (13, .invokestatic 66, 3), (16, .ifCond .eq 19, 3), (19, .iload_n 2, 1), (20, .iconst 0, 1), (21, .aload_n 0, 1), (22, .getfield 51, 3), (25, .iload_n 1, 1), (26, .iaload, 1), (27, .iconst 1, 1), (28, .isub, 1), (29, .invokestatic 66, 3), (32, .ifCond .ne 9, 3), (35, .aload_n 0, 1), (36, .iconst 1, 1), (37, .invokevirtual 74, 3), (40, .ireturn, 1), (41, .aload_n 0, 1), (42, .getfield 48, 3), (45, .iload_n 1, 1), (46, .laload, 1), (47, .bipush 39, 2), (49, .iload_n 2, 1), (50, .isub, 1), (51, .lshr, 1), (52, .lconst 1, 1), (53, .land, 1), (54, .l2i, 1), (55, .ireturn, 1)]
theorem cdok_M_decision : ∀ q ∈ cd_M_decision, decode Y_M_decision.2.1 q.1 = .ok q.2 := by decide +kernel
set_option maxRecDepth 20000 in
theorem cy_M_decision : za_CY Y_M_decision 2 := ⟨za_in 658 rfl rfl, za_in 27 (by decide +kernel) rfl, ⟨by decide, by decide⟩, by decide +kernel⟩
theorem kc_M_decision : Cond.code Y_M_decision.1 Y_M_decision.2.1 Y_M_decision.2.2.1 Y_M_decision.2.2.2 ∈ za_tt := cy_M_decision.1
theorem cv_M_decision : za_CV Y_M_decision := ⟨za_in 656 (by decide +kernel) rfl, za_in 657 (by decide +kernel) rfl⟩
def Y_M_match : za_Y := (⟨"WayFinderModel", "match", "(II)I"⟩, prog_7_method_21_code, 4, (some .int))
def cd_M_match : List (Nat × Instr × Nat) := [(0, .aload_n 0, 1), (1, .iconst 0, 1), (2, .putfield 63, 3), (5, .aload_n 0, 1), (6, .iload_n 1, 1), (7, .invokevirtual 115, 3), (10, .ifCond .eq 11, 3), (13, .aload_n 0, 1), (14, .iload_n 2, 1), (15, .invokevirtual 115, 3), (18, .ifCond .ne 9, 3), (21, .aload_n 0, 1), (22, .iconst 1, 1), (23, .invokevirtual 74, 3), (26, .ireturn, 1), (27, .aload_n 0, 1), (28, .iload_n 1, 1), (29, .iload_n 2, 1), (30, .invokevirtual 119, 3), (33, .iconst 0, 1), (34, .istore_n 3, 1), (35, .iload_n 3, 1), (36, .aload_n 0, 1), (37, .getfield 141, 3), (40, .if_icmp .ge 54, 3), (43, .aload_n 0, 1), (44, .getfield 51, 3), (47, .iload_n 3, 1), (48, .iaload, 1), (49, .aload_n 0, 1), (50, .getfield 85, 3), (53, .if_icmp .lt 35, 3), (56, .aload_n 0, 1), (57, .getfield 81, 3), (60, .bipush 40, 2), (62, .aload_n 0, 1), (63, .getfield 85, 3), (66, .isub, 1), (67, .lshr, 1), (68, .aload_n 0, 1), (69, .getfield 48, 3), (72, .iload_n 3, 1), (73, .laload, 1), (74, .bipush 40, 2), (76, .aload_n 0, 1), (77, .getfield 85, 3), (80, .isub, 1), (81, .lshr, 1), (82, .lcmp, 1), (83, .ifCond .ne 5, 3), (86, .iload_n 3, 1), (87, .ireturn, 1), (88, .iinc 3 1, 3), (91, .goto (-56), 3), (94, .aload_n 0, 1), (95, .iconst 2, 1), (96, .invokevirtual 74, 3), (99, .ireturn, 1)]
theorem cdok_M_match : ∀ q ∈ cd_M_match, decode Y_M_match.2.1 q.1 = .ok q.2 := by decide +kernel
set_option maxRecDepth 20000 in
theorem cy_M_match : za_CY Y_M_match 2 := ⟨za_in 662 rfl rfl, za_in 27 (by decide +kernel) rfl, ⟨by decide, by decide⟩, by decide +kernel⟩
theorem kc_M_match : Cond.code Y_M_match.1 Y_M_match.2.1 Y_M_match.2.2.1 Y_M_match.2.2.2 ∈ za_tt := cy_M_match.1
theorem cv_M_match : za_CV Y_M_match := ⟨za_in 660 (by decide +kernel) rfl, za_in 661 (by decide +kernel) rfl⟩
def Y_M_example : za_Y := (⟨"WayFinderModel", "example", "(I)I"⟩, prog_7_method_22_code, 4, (some .int))
def cd_M_example : List (Nat × Instr × Nat) := [(0, .aload_n 0, 1), (1, .iconst 0, 1), (2, .putfield 63, 3), (5, .iload_n 1, 1), (6, .iconst 0, 1), (7, .iconst 3, 1), (8, .invokestatic 66, 3), (11, .ifCond .ne 9, 3), (14, .aload_n 0, 1), (15, .iconst 1, 1), (16, .invokevirtual 74, 3), (19, .ireturn, 1), (20, .sipush 256, 3), (23, .istore_n 2, 1), (24, .iconst 0, 1), (25, .istore_n 3, 1), (26, .iload_n 3, 1), (27, .aload_n 0, 1), (28, .getfield 141, 3), (31, .if_icmp .ge 36, 3), (34, .aload_n 0, 1), (35, .getfield 57, 3), (38, .iload_n 3, 1), (39, .iaload, 1), (40, .iload_n 1, 1), (41, .if_icmp .ne 20, 3), (44, .aload_n 0, 1), (45, .getfield 54, 3), (48, .iload_n 3, 1), (49, .iaload, 1), (50, .iload_n 2, 1), (51, .if_icmp .ge 10, 3), (54, .aload_n 0, 1), (55, .getfield 54, 3), (58, .iload_n 3, 1), (59, .iaload, 1), (60, .istore_n 2, 1), (61, .iinc 3 1, 3), (64, .goto (-38), 3), (67, .iload_n 2, 1), (68, .sipush 256, 3), (71, .if_icmp .ne 11, 3), (74, .aload_n 0, 1), (75, .iconst 2, 1), (76, .invokevirtual 74, 3), (79, .goto 4, 3), (82, .iload_n 2, 1), (83, .ireturn, 1)]
theorem cdok_M_example : ∀ q ∈ cd_M_example, decode Y_M_example.2.1 q.1 = .ok q.2 := by decide +kernel
set_option maxRecDepth 20000 in
theorem cy_M_example : za_CY Y_M_example 1 := ⟨za_in 666 rfl rfl, za_in 27 (by decide +kernel) rfl, ⟨by decide, by decide⟩, by decide +kernel⟩
theorem kc_M_example : Cond.code Y_M_example.1 Y_M_example.2.1 Y_M_example.2.2.1 Y_M_example.2.2.2 ∈ za_tt := cy_M_example.1
theorem cv_M_example : za_CV Y_M_example := ⟨za_in 664 (by decide +kernel) rfl, za_in 665 (by decide +kernel) rfl⟩
def Y_M_covered : za_Y := (⟨"WayFinderModel", "covered", "()I"⟩, prog_7_method_23_code, 1, (some .int))
def cd_M_covered : List (Nat × Instr × Nat) := [(0, .aload_n 0, 1), (1, .iconst 0, 1), (2, .putfield 63, 3), (5, .aload_n 0, 1), (6, .getfield 144, 3), (9, .ireturn, 1)]
theorem cdok_M_covered : ∀ q ∈ cd_M_covered, decode Y_M_covered.2.1 q.1 = .ok q.2 := by decide +kernel
set_option maxRecDepth 20000 in
theorem cy_M_covered : za_CY Y_M_covered 0 := ⟨za_in 670 rfl rfl, za_in 27 (by decide +kernel) rfl, ⟨by decide, by decide⟩, by decide +kernel⟩
theorem kc_M_covered : Cond.code Y_M_covered.1 Y_M_covered.2.1 Y_M_covered.2.2.1 Y_M_covered.2.2.2 ∈ za_tt := cy_M_covered.1
theorem cv_M_covered : za_CV Y_M_covered := ⟨za_in 668 (by decide +kernel) rfl, za_in 669 (by decide +kernel) rfl⟩
def Y_M_count : za_Y := (⟨"WayFinderModel", "count", "(I)I"⟩, prog_7_method_24_code, 2, (some .int))
def cd_M_count : List (Nat × Instr × Nat) := [(0, .aload_n 0, 1), (1, .iconst 0, 1), (2, .putfield 63, 3), (5, .iload_n 1, 1), (6, .tableswitch 50 0 3 #[30, 35, 40, 45], 30), (36, .aload_n 0, 1), (37, .getfield 78, 3), (40, .ireturn, 1), (41, .aload_n 0, 1), (42, .getfield 22, 3), (45, .ireturn, 1), (46, .aload_n 0, 1), (47, .getfield 141, 3), (50, .ireturn, 1), (51, .aload_n 0, 1), (52, .getfield 122, 3), (55, .ireturn, 1), (56, .aload_n 0, 1), (57, .iconst 1, 1), (58, .invokevirtual 74, 3), (61, .ireturn, 1)]
theorem cdok_M_count : ∀ q ∈ cd_M_count, decode Y_M_count.2.1 q.1 = .ok q.2 := by decide +kernel
set_option maxRecDepth 20000 in
theorem cy_M_count : za_CY Y_M_count 1 := ⟨za_in 674 rfl rfl, za_in 27 (by decide +kernel) rfl, ⟨by decide, by decide⟩, by decide +kernel⟩
theorem kc_M_count : Cond.code Y_M_count.1 Y_M_count.2.1 Y_M_count.2.2.1 Y_M_count.2.2.2 ∈ za_tt := cy_M_count.1
theorem cv_M_count : za_CV Y_M_count := ⟨za_in 672 (by decide +kernel) rfl, za_in 673 (by decide +kernel) rfl⟩
theorem cl_L_F_init : za_CL "WayFinderLaw" 52 Y_F_init.1 := Or.inl (za_in 37 (by decide +kernel) rfl)
theorem cl_F_P_init : za_CL "WayFinder" 9 Y_P_init.1 := Or.inr ⟨"WayFinder", za_in 45 (by decide +kernel) rfl⟩
theorem cl_F_T_init : za_CL "WayFinder" 18 Y_T_init.1 := Or.inr ⟨"WayFinder", za_in 73 (by decide +kernel) rfl⟩
theorem cl_F_R_init : za_CL "WayFinder" 28 Y_R_init.1 := Or.inl (za_in 120 (by decide +kernel) rfl)
theorem cl_R_W_init : za_CL "WayFinder$Results" 24 Y_W_init.1 := Or.inr ⟨"WayFinder", za_in 127 (by decide +kernel) rfl⟩
theorem cl_L_F_covered : za_CL "WayFinderLaw" 95 Y_F_covered.1 := Or.inl (za_in 195 (by decide +kernel) rfl)
theorem cl_L_L_instr : za_CL "WayFinderLaw" 56 Y_L_instr.1 := Or.inl (za_in 199 (by decide +kernel) rfl)
theorem cl_L_F_instr : za_CL "WayFinderLaw" 7 Y_F_instr.1 := Or.inl (za_in 204 (by decide +kernel) rfl)
theorem cl_F_P_allows : za_CL "WayFinder" 43 Y_P_allows.1 := Or.inl (za_in 208 (by decide +kernel) rfl)
theorem cl_P_P_isRegister : za_CL "WayFinder$Program" 28 Y_P_isRegister.1 := Or.inl (za_in 211 (by decide +kernel) rfl)
theorem cl_P_F_isUpTo : za_CL "WayFinder$Program" 32 Y_F_isUpTo.1 := Or.inr ⟨"WayFinder", za_in 214 (by decide +kernel) rfl⟩
theorem cl_F_P_append : za_CL "WayFinder" 56 Y_P_append.1 := Or.inl (za_in 295 (by decide +kernel) rfl)
theorem cl_L_L_undo : za_CL "WayFinderLaw" 65 Y_L_undo.1 := Or.inl (za_in 299 (by decide +kernel) rfl)
theorem cl_L_F_undo : za_CL "WayFinderLaw" 17 Y_F_undo.1 := Or.inl (za_in 303 (by decide +kernel) rfl)
theorem cl_L_L_width : za_CL "WayFinderLaw" 69 Y_L_width.1 := Or.inl (za_in 322 (by decide +kernel) rfl)
theorem cl_L_F_width : za_CL "WayFinderLaw" 23 Y_F_width.1 := Or.inl (za_in 325 (by decide +kernel) rfl)
theorem cl_L_L_run : za_CL "WayFinderLaw" 73 Y_L_run.1 := Or.inl (za_in 329 (by decide +kernel) rfl)
theorem cl_L_F_run : za_CL "WayFinderLaw" 27 Y_F_run.1 := Or.inl (za_in 332 (by decide +kernel) rfl)
theorem cl_F_F_areInputs : za_CL "WayFinder" 63 Y_F_areInputs.1 := Or.inl (za_in 336 (by decide +kernel) rfl)
theorem cl_F_F_isUpTo : za_CL "WayFinder" 125 Y_F_isUpTo.1 := Or.inl (za_in 340 (by decide +kernel) rfl)
theorem cl_F_T_follow : za_CL "WayFinder" 67 Y_T_follow.1 := Or.inl (za_in 341 (by decide +kernel) rfl)
theorem cl_T_T_begin : za_CL "WayFinder$Trace" 45 Y_T_begin.1 := Or.inl (za_in 345 (by decide +kernel) rfl)
theorem cl_T_P_has : za_CL "WayFinder$Trace" 49 Y_P_has.1 := Or.inl (za_in 349 (by decide +kernel) rfl)
theorem cl_T_T_step : za_CL "WayFinder$Trace" 55 Y_T_step.1 := Or.inl (za_in 353 (by decide +kernel) rfl)
theorem cl_T_T_goIf : za_CL "WayFinder$Trace" 74 Y_T_goIf.1 := Or.inl (za_in 357 (by decide +kernel) rfl)
theorem cl_T_T_decide : za_CL "WayFinder$Trace" 93 Y_T_decide.1 := Or.inl (za_in 361 (by decide +kernel) rfl)
theorem cl_T_F_decisionBit : za_CL "WayFinder$Trace" 97 Y_F_decisionBit.1 := Or.inr ⟨"WayFinder", za_in 365 (by decide +kernel) rfl⟩
theorem cl_T_T_divide : za_CL "WayFinder$Trace" 78 Y_T_divide.1 := Or.inl (za_in 368 (by decide +kernel) rfl)
theorem cl_T_T_finish : za_CL "WayFinder$Trace" 86 Y_T_finish.1 := Or.inl (za_in 372 (by decide +kernel) rfl)
theorem cl_T_T_claim : za_CL "WayFinder$Trace" 82 Y_T_claim.1 := Or.inl (za_in 376 (by decide +kernel) rfl)
theorem cl_T_T_combine : za_CL "WayFinder$Trace" 89 Y_T_combine.1 := Or.inl (za_in 380 (by decide +kernel) rfl)
theorem cl_T_T_finishUnasked : za_CL "WayFinder$Trace" 59 Y_T_finishUnasked.1 := Or.inl (za_in 383 (by decide +kernel) rfl)
theorem cl_L_L_last : za_CL "WayFinderLaw" 77 Y_L_last.1 := Or.inl (za_in 387 (by decide +kernel) rfl)
theorem cl_L_F_last : za_CL "WayFinderLaw" 31 Y_F_last.1 := Or.inl (za_in 390 (by decide +kernel) rfl)
theorem cl_L_L_explore : za_CL "WayFinderLaw" 80 Y_L_explore.1 := Or.inl (za_in 394 (by decide +kernel) rfl)
theorem cl_L_F_explore : za_CL "WayFinderLaw" 34 Y_F_explore.1 := Or.inl (za_in 397 (by decide +kernel) rfl)
theorem cl_F_F_fillDraft : za_CL "WayFinder" 83 Y_F_fillDraft.1 := Or.inl (za_in 401 (by decide +kernel) rfl)
theorem cl_F_R_empty : za_CL "WayFinder" 128 Y_R_empty.1 := Or.inl (za_in 405 (by decide +kernel) rfl)
theorem cl_F_R_take : za_CL "WayFinder" 131 Y_R_take.1 := Or.inl (za_in 409 (by decide +kernel) rfl)
theorem cl_R_R_firstNotBefore : za_CL "WayFinder$Results" 31 Y_R_firstNotBefore.1 := Or.inl (za_in 413 (by decide +kernel) rfl)
theorem cl_R_R_has : za_CL "WayFinder$Results" 35 Y_R_has.1 := Or.inl (za_in 417 (by decide +kernel) rfl)
theorem cl_R_R_makeRoom : za_CL "WayFinder$Results" 40 Y_R_makeRoom.1 := Or.inl (za_in 421 (by decide +kernel) rfl)
theorem cl_R_W_set : za_CL "WayFinder$Results" 44 Y_W_set.1 := Or.inl (za_in 425 (by decide +kernel) rfl)
theorem cl_L_L_way : za_CL "WayFinderLaw" 83 Y_L_way.1 := Or.inl (za_in 429 (by decide +kernel) rfl)
theorem cl_L_F_way : za_CL "WayFinderLaw" 37 Y_F_way.1 := Or.inl (za_in 432 (by decide +kernel) rfl)
theorem cl_F_R_has : za_CL "WayFinder" 88 Y_R_has.1 := Or.inl (za_in 436 (by decide +kernel) rfl)
theorem cl_L_L_decision : za_CL "WayFinderLaw" 86 Y_L_decision.1 := Or.inl (za_in 437 (by decide +kernel) rfl)
theorem cl_L_F_decision : za_CL "WayFinderLaw" 40 Y_F_decision.1 := Or.inl (za_in 440 (by decide +kernel) rfl)
theorem cl_F_F_decisionBit : za_CL "WayFinder" 111 Y_F_decisionBit.1 := Or.inl (za_in 444 (by decide +kernel) rfl)
theorem cl_L_L_match : za_CL "WayFinderLaw" 89 Y_L_match.1 := Or.inl (za_in 445 (by decide +kernel) rfl)
theorem cl_L_F_match : za_CL "WayFinderLaw" 43 Y_F_match.1 := Or.inl (za_in 448 (by decide +kernel) rfl)
theorem cl_F_R_firstAgreeing : za_CL "WayFinder" 115 Y_R_firstAgreeing.1 := Or.inl (za_in 452 (by decide +kernel) rfl)
theorem cl_R_W_agreesWith : za_CL "WayFinder$Results" 49 Y_W_agreesWith.1 := Or.inl (za_in 456 (by decide +kernel) rfl)
theorem cl_L_L_example : za_CL "WayFinderLaw" 92 Y_L_example.1 := Or.inl (za_in 460 (by decide +kernel) rfl)
theorem cl_L_F_example : za_CL "WayFinderLaw" 46 Y_F_example.1 := Or.inl (za_in 463 (by decide +kernel) rfl)
theorem cl_F_R_leastInputs : za_CL "WayFinder" 119 Y_R_leastInputs.1 := Or.inl (za_in 467 (by decide +kernel) rfl)
theorem cl_L_L_count : za_CL "WayFinderLaw" 99 Y_L_count.1 := Or.inl (za_in 474 (by decide +kernel) rfl)
theorem cl_L_F_count : za_CL "WayFinderLaw" 49 Y_F_count.1 := Or.inl (za_in 477 (by decide +kernel) rfl)
theorem cl_L_M_init : za_CL "WayFinderLaw" 55 Y_M_init.1 := Or.inl (za_in 483 (by decide +kernel) rfl)
theorem cl_L_M_thrown : za_CL "WayFinderLaw" 62 Y_M_thrown.1 := Or.inl (za_in 585 (by decide +kernel) rfl)
theorem cl_L_M_instr : za_CL "WayFinderLaw" 61 Y_M_instr.1 := Or.inl (za_in 589 (by decide +kernel) rfl)
theorem cl_M_M_fits : za_CL "WayFinderModel" 70 Y_M_fits.1 := Or.inl (za_in 593 (by decide +kernel) rfl)
theorem cl_M_M_in : za_CL "WayFinderModel" 66 Y_M_in.1 := Or.inl (za_in 596 (by decide +kernel) rfl)
theorem cl_M_M_raise : za_CL "WayFinderModel" 74 Y_M_raise.1 := Or.inl (za_in 599 (by decide +kernel) rfl)
theorem cl_L_M_undo : za_CL "WayFinderLaw" 68 Y_M_undo.1 := Or.inl (za_in 603 (by decide +kernel) rfl)
theorem cl_L_M_width : za_CL "WayFinderLaw" 72 Y_M_width.1 := Or.inl (za_in 607 (by decide +kernel) rfl)
theorem cl_L_M_run : za_CL "WayFinderLaw" 76 Y_M_run.1 := Or.inl (za_in 611 (by decide +kernel) rfl)
theorem cl_M_M_isInput : za_CL "WayFinderModel" 115 Y_M_isInput.1 := Or.inl (za_in 615 (by decide +kernel) rfl)
theorem cl_M_M_go : za_CL "WayFinderModel" 119 Y_M_go.1 := Or.inl (za_in 619 (by decide +kernel) rfl)
theorem cl_M_M_perform : za_CL "WayFinderModel" 112 Y_M_perform.1 := Or.inl (za_in 623 (by decide +kernel) rfl)
theorem cl_M_M_decide : za_CL "WayFinderModel" 94 Y_M_decide.1 := Or.inl (za_in 627 (by decide +kernel) rfl)
theorem cl_M_M_finish : za_CL "WayFinderModel" 98 Y_M_finish.1 := Or.inl (za_in 631 (by decide +kernel) rfl)
theorem cl_M_M_worked : za_CL "WayFinderModel" 102 Y_M_worked.1 := Or.inl (za_in 635 (by decide +kernel) rfl)
theorem cl_L_M_last : za_CL "WayFinderLaw" 79 Y_M_last.1 := Or.inl (za_in 639 (by decide +kernel) rfl)
theorem cl_L_M_explore : za_CL "WayFinderLaw" 82 Y_M_explore.1 := Or.inl (za_in 643 (by decide +kernel) rfl)
theorem cl_M_M_enter : za_CL "WayFinderModel" 137 Y_M_enter.1 := Or.inl (za_in 647 (by decide +kernel) rfl)
theorem cl_L_M_way : za_CL "WayFinderLaw" 85 Y_M_way.1 := Or.inl (za_in 651 (by decide +kernel) rfl)
theorem cl_L_M_decision : za_CL "WayFinderLaw" 88 Y_M_decision.1 := Or.inl (za_in 655 (by decide +kernel) rfl)
theorem cl_L_M_match : za_CL "WayFinderLaw" 91 Y_M_match.1 := Or.inl (za_in 659 (by decide +kernel) rfl)
theorem cl_L_M_example : za_CL "WayFinderLaw" 94 Y_M_example.1 := Or.inl (za_in 663 (by decide +kernel) rfl)
theorem cl_L_M_covered : za_CL "WayFinderLaw" 98 Y_M_covered.1 := Or.inl (za_in 667 (by decide +kernel) rfl)
theorem cl_L_M_count : za_CL "WayFinderLaw" 101 Y_M_count.1 := Or.inl (za_in 671 (by decide +kernel) rfl)
theorem zi_P : Cond.instantiable "WayFinder$Program" 5 ∈ za_tt := za_in 44 (by decide +kernel) rfl
theorem zj_P : Cond.initialized "WayFinder$Program" ∈ za_tt := za_in 23 (by decide +kernel) rfl
theorem zi_T : Cond.instantiable "WayFinder$Trace" 10 ∈ za_tt := za_in 72 (by decide +kernel) rfl
theorem zj_T : Cond.initialized "WayFinder$Trace" ∈ za_tt := za_in 24 (by decide +kernel) rfl
theorem zi_W : Cond.instantiable "WayFinder$Way" 6 ∈ za_tt := za_in 126 (by decide +kernel) rfl
theorem zj_W : Cond.initialized "WayFinder$Way" ∈ za_tt := za_in 26 (by decide +kernel) rfl
theorem zi_R : Cond.instantiable "WayFinder$Results" 3 ∈ za_tt := za_in 119 (by decide +kernel) rfl
theorem zj_R : Cond.initialized "WayFinder$Results" ∈ za_tt := za_in 25 (by decide +kernel) rfl
theorem zi_F : Cond.instantiable "WayFinder" 7 ∈ za_tt := za_in 36 (by decide +kernel) rfl
theorem zj_F : Cond.initialized "WayFinder" ∈ za_tt := za_in 22 (by decide +kernel) rfl
theorem zi_M : Cond.instantiable "WayFinderModel" 32 ∈ za_tt := za_in 482 (by decide +kernel) rfl
theorem zj_M : Cond.initialized "WayFinderModel" ∈ za_tt := za_in 27 (by decide +kernel) rfl
theorem zj_Throwable : Cond.initialized "java/lang/Throwable" ∈ za_tt := za_in 28 (by decide +kernel) rfl
theorem zj_Exception : Cond.initialized "java/lang/Exception" ∈ za_tt := za_in 29 (by decide +kernel) rfl
theorem zj_RuntimeException : Cond.initialized "java/lang/RuntimeException" ∈ za_tt := za_in 30 (by decide +kernel) rfl
theorem zj_IllegalArgumentException : Cond.initialized "java/lang/IllegalArgumentException" ∈ za_tt := za_in 31 (by decide +kernel) rfl
theorem zj_IllegalStateException : Cond.initialized "java/lang/IllegalStateException" ∈ za_tt := za_in 32 (by decide +kernel) rfl
theorem zj_NoSuchElementException : Cond.initialized "java/util/NoSuchElementException" ∈ za_tt := za_in 33 (by decide +kernel) rfl
theorem zj_Math : Cond.initialized "java/lang/Math" ∈ za_tt := za_in 34 (by decide +kernel) rfl
theorem zc_L_8 : Cond.classLink "WayFinderLaw" 8 "WayFinder" ∈ za_tt := za_in 35 (by decide +kernel) rfl
theorem zo_F : Cond.methodLink "WayFinder" 1 Lib.objectInit ∈ za_tt := za_in 40 (by decide +kernel) rfl
theorem zc_F_7 : Cond.classLink "WayFinder" 7 "WayFinder$Program" ∈ za_tt := za_in 43 (by decide +kernel) rfl
theorem zo_P : Cond.methodLink "WayFinder$Program" 3 Lib.objectInit ∈ za_tt := za_in 48 (by decide +kernel) rfl
theorem zc_F_16 : Cond.classLink "WayFinder" 16 "WayFinder$Trace" ∈ za_tt := za_in 71 (by decide +kernel) rfl
theorem zo_T : Cond.methodLink "WayFinder$Trace" 3 Lib.objectInit ∈ za_tt := za_in 76 (by decide +kernel) rfl
theorem zc_F_26 : Cond.classLink "WayFinder" 26 "WayFinder$Results" ∈ za_tt := za_in 118 (by decide +kernel) rfl
theorem zo_R : Cond.methodLink "WayFinder$Results" 3 Lib.objectInit ∈ za_tt := za_in 123 (by decide +kernel) rfl
theorem zc_R_9 : Cond.classLink "WayFinder$Results" 9 "WayFinder$Way" ∈ za_tt := za_in 124 (by decide +kernel) rfl
theorem zo_W : Cond.methodLink "WayFinder$Way" 3 Lib.objectInit ∈ za_tt := za_in 130 (by decide +kernel) rfl
theorem zc_L_13 : Cond.classLink "WayFinderLaw" 13 "java/lang/IllegalArgumentException" ∈ za_tt := za_in 202 (by decide +kernel) rfl
theorem zc_L_15 : Cond.classLink "WayFinderLaw" 15 "java/lang/IllegalStateException" ∈ za_tt := za_in 203 (by decide +kernel) rfl
theorem zc_F_47 : Cond.classLink "WayFinder" 47 "java/lang/IllegalArgumentException" ∈ za_tt := za_in 217 (by decide +kernel) rfl
theorem zk_IllegalArgumentException : Cond.castable "java/lang/IllegalArgumentException" "java/lang/IllegalArgumentException" ∈ za_tt := za_in 219 (by decide +kernel) rfl
theorem zc_F_53 : Cond.classLink "WayFinder" 53 "java/lang/IllegalStateException" ∈ za_tt := za_in 280 (by decide +kernel) rfl
theorem zk_IllegalStateException : Cond.castable "java/lang/IllegalStateException" "java/lang/IllegalStateException" ∈ za_tt := za_in 282 (by decide +kernel) rfl
theorem zc_L_21 : Cond.classLink "WayFinderLaw" 21 "java/util/NoSuchElementException" ∈ za_tt := za_in 302 (by decide +kernel) rfl
theorem zc_F_60 : Cond.classLink "WayFinder" 60 "java/util/NoSuchElementException" ∈ za_tt := za_in 307 (by decide +kernel) rfl
theorem zk_NoSuchElementException : Cond.castable "java/util/NoSuchElementException" "java/util/NoSuchElementException" ∈ za_tt := za_in 309 (by decide +kernel) rfl
theorem zmin_R : Cond.methodLink "WayFinder$Results" 62 Lib.Math.min.name ∈ za_tt := za_in 471 (by decide +kernel) rfl
theorem zc_L_53 : Cond.classLink "WayFinderLaw" 53 "WayFinderModel" ∈ za_tt := za_in 481 (by decide +kernel) rfl
theorem zo_M : Cond.methodLink "WayFinderModel" 1 Lib.objectInit ∈ za_tt := za_in 486 (by decide +kernel) rfl
theorem zo_1 : Cond.instanceMethod Lib.objectInit ∈ za_tt := za_in 41 (by decide +kernel) rfl
theorem zo_2 : Cond.code Lib.objectInit ⟨#[0xb1]⟩ 1 none ∈ za_tt := za_in 42 (by decide +kernel) rfl
theorem zm_1 : Cond.static Lib.Math.min.name ∈ za_tt := za_in 472 (by decide +kernel) rfl
theorem zm_2 : Cond.code Lib.Math.min.name Lib.Math.min.code 2 (some .int) ∈ za_tt := za_in 473 (by decide +kernel) rfl
theorem za_intA : Cond.arrayClass .int ∈ za_tt := za_in 70 (by decide +kernel) rfl
theorem za_wayA : Cond.arrayOver (.object "WayFinder$Way") ∈ za_tt := za_in 125 (by decide +kernel) rfl
theorem za_longA : Cond.arrayClass .long ∈ za_tt := za_in 584 (by decide +kernel) rfl
end
section
section ZAEXT
variable {p : Program} {l : Launch} {e : Env} {R : Room} {s : State} {m : MethodId} {args : Array Value} {below : List Frame} {meth : Method} {c : Code} {D : za_D} {nL : Nat} {Q : State → Prop} {h0 : za_H} {n cells slots pc : Nat} {lv : List (Nat × za_V)} {st : List za_V} {vw : List (Nat × za_C)} {own : String} {cc : ByteArray} {cd : List (Nat × Instr × Nat)} {fl : List (Nat × Nat × Nat)} {ret : Option FieldType}
/-- what an array holds behind its end is nobody's business -/
theorem za_ext {i t0 N : Nat} {f : Nat → Int32} (g : Nat → Int32) (hi : za_ov h0 vw i = some (.inl (t0, N, .inl f))) (hfg : ∀ j, j < N → f j = g j) (kk : za_W p l e R s m args below meth c D nL Q h0 n cells slots pc lv st (za_vs vw i (.inl (t0, N, .inl g)))) : za_W p l e R s m args below meth c D nL Q h0 n cells slots pc lv st vw := by
  intro H locs ls hR hS hl
  refine kk H locs ls ?_ hS hl
  rw [za_ov_vs]
  refine hR.set rfl ?_ (fun _ _ => rfl)
  have hat : H[D.2.2 + i]? = some (vp_cell (D.2.1 t0) (N, .inl f)) := hR.2.1 i _ hi
  show H[D.2.2 + i]? = some (vp_cell (D.2.1 t0) (N, .inl g))
  rw [hat, vp_cell_i, vp_cell_i]
  congr 1
  unfold arrV
  congr 2
  funext j
  exact congrArg Value.int (hfg j.val j.isLt)
/-- a field's writing, the new list said -/
theorem za_putV {i idx ci k : Nat} {fs : List za_V} {v : za_V} (X : za_X p s m args meth c D own cc cd fl nL ret) (v1 : List (Nat × za_C)) (hf : za_fe cd pc = some (.putfield idx, 3)) (hi : za_ov h0 vw i = some (.inr (ci, fs))) (hk : za_fk fl idx = some (ci, k)) (hv : za_okf (za_fty ci k) v = true) (hfin : za_fin ci k = false) (hl0 : k < fs.length) (he : za_ov h0 v1 = za_set (za_ov h0 vw) i (.inr (ci, fs.set k v))) (kk : za_W p l e R s m args below meth c D nL Q h0 n cells slots (pc + 3) lv st v1) : za_W p l e R s m args below meth c D nL Q h0 n cells slots pc lv (v :: .inr (.inr (some i)) :: st) vw :=
  za_putH X hf hi hk hv hfin hl0 (za_look (by rw [he, za_ov_vs]) kk)
end ZAEXT
end
section
/-! THE CLASS AS FUNCTIONS: what its methods compute, in the machine's own numbers -/
/-- a run's state: registers, place, latest, done, visited, decisions, decisionCount, ended, outcome, end -/
abbrev tr_T : Type := (Nat → Int32) × Int32 × Int32 × Int32 × Int32 × Int64 × Int32 × Int32 × Int32 × Int32
/-- a program: ops, as, bs, cs, size -/
abbrev pr_T : Type := (Nat → Int32) × (Nat → Int32) × (Nat → Int32) × (Nat → Int32) × Nat
def pr_up (L x : Int32) : Bool := decide (0 ≤ x) && decide (x ≤ L)
def pr_al (op a b c : Int32) : Bool :=
  if op = 0 then pr_up 3 a && pr_up 255 b
  else if op = 7 then pr_up 3 a && (pr_up 3 b && pr_up 7 c)
  else if op = 8 ∨ op = 9 then pr_up 3 a && (pr_up 3 b && pr_up 24 c)
  else if op = 10 then pr_up 24 c
  else if op = 12 ∨ op = 13 then pr_up 3 a
  else if op = 1 ∨ op = 2 ∨ op = 3 ∨ op = 4 ∨ op = 5 ∨ op = 6 ∨ op = 11 then pr_up 3 a && (pr_up 3 b && pr_up 3 c)
  else false
/-- every instruction that is there was allowed; there are at most 24 -/
def pr_ok : pr_T → Prop | (o, a, b, c, n) => n ≤ 24 ∧ ∀ i, i < n → pr_al (o i) (a i) (b i) (c i) = true
def pr_has : pr_T → Int32 → Bool | (_, _, _, _, n), x => decide (0 ≤ x) && decide (x < nI n)
def pr_add : pr_T → Int32 → Int32 → Int32 → Int32 → pr_T | (o, a, b, c, n), x, y, z, w => (upd o n x, upd a n y, upd b n z, upd c n w, n + 1)
def tr_cr (x y : Int32) : Nat → Int32 := fun j => if j = 0 then x else if j = 1 then y else 0
theorem tr_cr_eq (r : Nat → Int32) (x y : Int32) : ∀ j, j < 4 → upd (upd (upd (upd r 0 x) 1 y) 2 0) 3 0 j = tr_cr x y j := by
  intro j hj
  rcases (show j = 0 ∨ j = 1 ∨ j = 2 ∨ j = 3 by omega) with rfl | rfl | rfl | rfl <;> rfl
def tr_beg : tr_T → Int32 → Int32 → tr_T | (_, _, _, _, _, _, _, _, ou, ed), x, y => (tr_cr x y, 0, 0, 0, 0, 0, 0, 0, ou, ed)
def tr_fin : tr_T → Int32 → Int32 → tr_T | (r, pl, la, dn, vi, de, ct, _, _, _), o, e => (r, pl, la, dn, vi, de, ct, 1, o, e)
def tr_dec : tr_T → Bool → tr_T | (r, pl, la, dn, vi, de, ct, en, ou, ed), y => (r, pl, la, dn, vi, (if y = true then de ||| ((1 : Int64) <<< ((39 - ct).toInt64 &&& 63)) else de), ct + 1, en, ou, ed)
def tr_go : tr_T → Int32 → tr_T | (r, _, la, dn, vi, de, ct, en, ou, ed), x => (r, x, la, dn, vi, de, ct, en, ou, ed)
def tr_reg : tr_T → Nat → Int32 → tr_T | (r, pl, la, dn, vi, de, ct, en, ou, ed), i, x => (upd r i x, pl, la, dn, vi, de, ct, en, ou, ed)
def tr_r (T : tr_T) (i : Int32) : Int32 := T.1 i.toNatClampNeg
def tr_pl (T : tr_T) : Int32 := T.2.1
def tr_la (T : tr_T) : Int32 := T.2.2.1
def tr_en (T : tr_T) : Int32 := T.2.2.2.2.2.2.2.1
def tr_ct (T : tr_T) : Int32 := T.2.2.2.2.2.2.1
def tr_com (op b c : Int32) : Int32 :=
  if op = 1 then (b + c) &&& 255 else if op = 2 then (b - c) &&& 255 else if op = 3 then b &&& c else if op = 4 then b ||| c else if op = 5 then b ^^^ c else (b * c) &&& 255
/-- the first rows of a step: latest, done, visited, place -/
def tr_pre : tr_T → tr_T | (r, pl, _, dn, vi, de, ct, en, ou, ed) => (r, pl + 1, pl, dn + 1, vi ||| ((1 : Int32) <<< (pl &&& 31)), de, ct, en, ou, ed)
def tr_goif (T : tr_T) (y : Bool) (c : Int32) : tr_T := if y = true then tr_go (tr_dec T y) c else tr_dec T y
def tr_div (T : tr_T) (a b c : Int32) : tr_T := if tr_r T c = 0 then tr_fin (tr_dec T true) 1 (tr_la T) else tr_reg (tr_dec T false) a.toNatClampNeg (tr_r T b / tr_r T c)
def tr_clm (T : tr_T) (a : Int32) : tr_T := if tr_r T a = 0 then tr_fin (tr_dec T true) 2 (tr_la T) else tr_dec T false
/-- one instruction -/
def tr_ins (T : tr_T) (op a b c : Int32) : tr_T :=
  if op = 0 then tr_reg T a.toNatClampNeg b
  else if op = 7 then tr_reg T a.toNatClampNeg (tr_r T b >>> (c &&& 31))
  else if op = 8 then tr_goif T (decide (tr_r T a < tr_r T b)) c
  else if op = 9 then tr_goif T (decide (tr_r T a = tr_r T b)) c
  else if op = 10 then tr_go T c
  else if op = 11 then tr_div T a b c
  else if op = 12 then tr_clm T a
  else if op = 13 then tr_fin T 0 (tr_r T a)
  else tr_reg T a.toNatClampNeg (tr_com op (tr_r T b) (tr_r T c))
def tr_stp (P : pr_T) (T : tr_T) : tr_T := tr_ins (tr_pre T) (P.1 (tr_pl T).toNatClampNeg) (P.2.1 (tr_pl T).toNatClampNeg) (P.2.2.1 (tr_pl T).toNatClampNeg) (P.2.2.2.1 (tr_pl T).toNatClampNeg)
def tr_lop (P : pr_T) : Nat → tr_T → tr_T
  | 0, T => T
  | k + 1, T => if tr_en T = 0 ∧ pr_has P (tr_pl T) = true then tr_lop P k (tr_stp P T) else T
def tr_end (P : pr_T) (T : tr_T) : tr_T := if tr_en T = 0 then (if pr_has P (tr_pl T) = true then tr_fin T 3 (tr_la T) else tr_fin T 0 (T.1 0)) else T
/-- a whole run -/
def tr_run (P : pr_T) (T : tr_T) (x y : Int32) : tr_T := tr_end P (tr_lop P 40 (tr_beg T x y))
end
section
/-! THE SYSTEM'S CELLS: WayFinder 0, Program 1 with its arrays 2 .. 5, Traces 6 and 8 with their registers 7 and 9, Results 10 and 76, each with its array behind it and 64 Ways behind that -/
def bI (b : Bool) : Int32 := if b = true then 1 else 0
theorem bI_t : bI true = 1 := rfl
theorem bI_f : bI false = 0 := rfl
theorem bI_0 {b : Bool} (h : bI b = 0) : b = false := by cases b <;> simp_all [bI]
theorem bI_n0 {b : Bool} (h : ¬ bI b = 0) : b = true := by cases b <;> simp_all [bI]
theorem bI_01 (b : Bool) : bI b = 0 ∨ bI b = 1 := by cases b <;> simp [bI]
theorem za_ov1 (h : za_H) (i : Nat) (c : za_C) : za_ov h [(i, c)] = za_set h i c := za_ov_vs h [] i c
theorem za_ov2 (h : za_H) (i j : Nat) (c d : za_C) : za_ov h [(i, c), (j, d)] = za_set (za_set h j d) i c := by
  funext k
  show (match za_vg [(i, c), (j, d)] k with | some c => some c | none => h k) = _
  rw [za_vg_cons, za_vg_cons]
  by_cases e : i = k
  · subst e; rw [if_pos rfl, za_set_eq]
  · rw [if_neg e, za_set_ne (fun q => e q.symm)]
    by_cases e2 : j = k
    · subst e2; rw [if_pos rfl, za_set_eq]
    · rw [if_neg e2, za_set_ne (fun q => e2 q.symm)]; rfl
theorem za_set_same {h : za_H} {i : Nat} {c : za_C} (e : h i = some c) : za_set h i c = h := by
  funext j
  by_cases q : j = i
  · subst q; rw [za_set_eq, e]
  · rw [za_set_ne q]
theorem za_set_set (h : za_H) (i : Nat) (c d : za_C) : za_set (za_set h i c) i d = za_set h i d := by
  funext j
  by_cases q : j = i
  · subst q; rw [za_set_eq, za_set_eq]
  · rw [za_set_ne q, za_set_ne q, za_set_ne q]
theorem za_set_comm {h : za_H} {i j : Nat} {c d : za_C} (e : i ≠ j) : za_set (za_set h i c) j d = za_set (za_set h j d) i c := by
  funext k
  by_cases q : k = j
  · subst q; rw [za_set_eq, za_set_ne (Ne.symm e), za_set_eq]
  · rw [za_set_ne q]
    by_cases q2 : k = i
    · subst q2; rw [za_set_eq, za_set_eq]
    · rw [za_set_ne q2, za_set_ne q2, za_set_ne q]
/-- a Trace at t, its registers at t + 1 -/
def tr_c (t : Nat) : tr_T → za_C | (_, pl, la, dn, vi, de, ct, en, ou, ed) => .inr (zn_T, [vR (t + 1), vI pl, vI la, vI dn, vI vi, vL de, vI ct, vI en, vI ou, vI ed])
def tr_g (T : tr_T) : za_C := .inl (0, 4, .inl T.1)
def tr_at (h : za_H) (t : Nat) (T : tr_T) : Prop := h t = some (tr_c t T) ∧ h (t + 1) = some (tr_g T)
def tr_put (h : za_H) (t : Nat) (T : tr_T) : za_H := za_set (za_set h (t + 1) (tr_g T)) t (tr_c t T)
theorem tr_put_at (h : za_H) (t : Nat) (T : tr_T) : tr_at (tr_put h t T) t T := ⟨za_set_eq _ _ _, by unfold tr_put; rw [za_set_ne (by omega), za_set_eq]⟩
theorem tr_put_ne {h : za_H} {t : Nat} {T : tr_T} {j : Nat} (h1 : j ≠ t) (h2 : j ≠ t + 1) : tr_put h t T j = h j := by unfold tr_put; rw [za_set_ne h1, za_set_ne h2]
theorem tr_put_put (h : za_H) (t : Nat) (T T' : tr_T) : tr_put (tr_put h t T) t T' = tr_put h t T' := by
  funext j
  by_cases e1 : j = t
  · subst e1; rw [(tr_put_at _ _ _).1, (tr_put_at _ _ _).1]
  · by_cases e2 : j = t + 1
    · subst e2; rw [(tr_put_at _ _ _).2, (tr_put_at _ _ _).2]
    · rw [tr_put_ne e1 e2, tr_put_ne e1 e2, tr_put_ne e1 e2]
theorem tr_put_same {h : za_H} {t : Nat} {T : tr_T} (e : tr_at h t T) : tr_put h t T = h := by
  unfold tr_put; rw [za_set_same e.2, za_set_same e.1]
theorem tr_ov (h : za_H) (t : Nat) (T : tr_T) : za_ov h [(t, tr_c t T), (t + 1, tr_g T)] = tr_put h t T := za_ov2 h t (t + 1) _ _
/-- the program at 1 -/
def pr_c (n : Nat) : za_C := .inr (zn_P, [vR 2, vR 3, vR 4, vR 5, vI (nI n)])
def pr_g (f : Nat → Int32) : za_C := .inl (0, 24, .inl f)
def pr_at (h : za_H) : pr_T → Prop | (o, a, b, c, n) => h 1 = some (pr_c n) ∧ h 2 = some (pr_g o) ∧ h 3 = some (pr_g a) ∧ h 4 = some (pr_g b) ∧ h 5 = some (pr_g c)
theorem pr_at_off {h h' : za_H} {P : pr_T} (hP : pr_at h P) (e : ∀ j, 1 ≤ j → j ≤ 5 → h' j = h j) : pr_at h' P := by
  obtain ⟨o, a, b, c, n⟩ := P
  obtain ⟨h1, h2, h3, h4, h5⟩ := hP
  exact ⟨by rw [e 1 (by omega) (by omega)]; exact h1, by rw [e 2 (by omega) (by omega)]; exact h2, by rw [e 3 (by omega) (by omega)]; exact h3, by rw [e 4 (by omega) (by omega)]; exact h4, by rw [e 5 (by omega) (by omega)]; exact h5⟩
theorem tr_back (h : za_H) (t : Nat) (T T1 : tr_T) : za_ov h [(t, tr_c t T1), (t + 1, tr_g T1)] = za_ov (tr_put (za_ov h [(t, tr_c t T), (t + 1, tr_g T)]) t T1) [] := by
  rw [tr_ov, tr_ov, za_ov_nil, tr_put_put]
/-- what stands at the list's end and is so already may go -/
theorem za_ov_app {h : za_H} (v : List (Nat × za_C)) {w : List (Nat × za_C)} (e : ∀ q ∈ w, h q.1 = some q.2) : za_ov h v = za_ov h (v ++ w) := by
  have key : ∀ (u : List (Nat × za_C)) (i : Nat), za_ov h (u ++ w) i = za_ov h u i := by
    intro u
    induction u with
    | nil => intro i; show za_ov h w i = h i; rw [za_ov_same e]
    | cons q t ih =>
      obtain ⟨j, c⟩ := q
      intro i
      show (match za_vg ((j, c) :: (t ++ w)) i with | some c => some c | none => h i) = (match za_vg ((j, c) :: t) i with | some c => some c | none => h i)
      rw [za_vg_cons, za_vg_cons]
      by_cases e1 : j = i
      · rw [if_pos e1, if_pos e1]
      · rw [if_neg e1, if_neg e1]; exact ih i
  funext i
  exact (key v i).symm
end
section
theorem up_f1 {L x : Int32} (h : x < 0) : pr_up L x = false := by
  have : ¬ 0 ≤ x := Int32.not_le.mpr h
  simp [pr_up, this]
theorem up_f2 {L x : Int32} (h : L < x) : pr_up L x = false := by
  have : ¬ x ≤ L := Int32.not_le.mpr h
  simp [pr_up, this]
theorem up_t {L x : Int32} (h1 : ¬ x < 0) (h2 : ¬ L < x) : pr_up L x = true := by
  have a : 0 ≤ x := Int32.not_lt.mp h1
  have b : x ≤ L := Int32.not_lt.mp h2
  simp [pr_up, a, b]
set_option maxHeartbeats 4000000 in
set_option maxRecDepth 100000 in
theorem c_F_isUpTo (l : Launch) (D : za_D) (h : za_H) (n : Nat) (a b : Int32) : za_M l D Y_F_isUpTo 0 0 0 [vI a, vI b] h n (fun v h' n' => v = some (vI (bI (pr_up a b))) ∧ h' = h ∧ n = n') := by
  refine za_enter cd_F_isUpTo fl_F (by decide) cdok_F_isUpTo flok_F (Nat.le_of_ble_eq_true rfl) ?_
  intro p e s m args below meth c X hnm
  iterate 1 refine za_step X rfl rfl rfl ?_
  refine za_iflt X 13 rfl (by decide) (fun h1 => ?_) (fun h1 => ?_)
  · iterate 1 refine za_step X rfl rfl rfl ?_
    exact za_zret X rfl (Or.inl rfl) ⟨by rw [up_f1 h1]; rfl, rfl, rfl⟩ (Nat.le_refl _) (Nat.le_refl _)
  · iterate 2 refine za_step X rfl rfl rfl ?_
    refine za_icgt X 13 rfl (by decide) (fun h2 => ?_) (fun h2 => ?_)
    · iterate 1 refine za_step X rfl rfl rfl ?_
      exact za_zret X rfl (Or.inl rfl) ⟨by rw [up_f2 h2]; rfl, rfl, rfl⟩ (Nat.le_refl _) (Nat.le_refl _)
    · iterate 2 refine za_step X rfl rfl rfl ?_
      exact za_zret X rfl (Or.inr rfl) ⟨by rw [up_t h1 h2]; rfl, rfl, rfl⟩ (Nat.le_refl _) (Nat.le_refl _)
set_option maxHeartbeats 4000000 in
set_option maxRecDepth 100000 in
theorem c_F_decisionBit (l : Launch) (D : za_D) (h : za_H) (n : Nat) (a : Int32) : za_M l D Y_F_decisionBit 0 0 0 [vI a] h n (fun v h' n' => v = some (vI (39 - a)) ∧ h' = h ∧ n = n') := by
  refine za_enter cd_F_decisionBit fl_F (by decide) cdok_F_decisionBit flok_F (Nat.le_of_ble_eq_true rfl) ?_
  intro p e s m args below meth c X hnm
  iterate 3 refine za_step X rfl rfl rfl ?_
  exact za_iret X rfl ⟨by rw [show (Int8.ofInt 39).toInt32 = 39 by decide], rfl, rfl⟩ (Nat.le_refl _) (Nat.le_refl _)
set_option maxHeartbeats 4000000 in
set_option maxRecDepth 100000 in
theorem c_P_isRegister (l : Launch) (D : za_D) (h : za_H) (n : Nat) (a : Int32) : za_M l D Y_P_isRegister 1 0 0 [vI a] h n (fun v h' n' => v = some (vI (bI (pr_up 3 a))) ∧ h' = h ∧ n = n') := by
  refine za_enter cd_P_isRegister fl_P (by decide) cdok_P_isRegister flok_P (Nat.le_of_ble_eq_true rfl) ?_
  intro p e s m args below meth c X hnm
  iterate 2 refine za_step X rfl rfl rfl ?_
  refine za_callS X rfl cl_P_F_isUpTo cy_F_isUpTo cs_F_isUpTo (c_F_isUpTo l D _ n _ a) rfl rfl (Nat.le_of_ble_eq_true rfl) (Nat.le_of_ble_eq_true rfl) (Nat.le_of_ble_eq_true rfl) (Nat.le_of_ble_eq_true rfl) (Nat.le_of_ble_eq_true rfl) (fun v h' n' hq => ?_)
  obtain ⟨rfl, rfl, rfl⟩ := hq
  exact za_zret X rfl (bI_01 _) ⟨by rw [show Int32.ofInt 3 = 3 by decide], rfl, rfl⟩ (Nat.le_refl _) (Nat.le_refl _)
theorem has_f1 {P : pr_T} {x : Int32} (h : x < 0) : pr_has P x = false := by
  have : ¬ 0 ≤ x := Int32.not_le.mpr h
  obtain ⟨o, a, b, c, k⟩ := P
  simp [pr_has, this]
theorem has_f2 {o a b c : Nat → Int32} {k : Nat} {x : Int32} (h : nI k ≤ x) : pr_has (o, a, b, c, k) x = false := by
  have : ¬ x < nI k := Int32.not_lt.mpr h
  simp [pr_has, this]
theorem has_t {o a b c : Nat → Int32} {k : Nat} {x : Int32} (h1 : ¬ x < 0) (h2 : ¬ nI k ≤ x) : pr_has (o, a, b, c, k) x = true := by
  have a : 0 ≤ x := Int32.not_lt.mp h1
  have b : x < nI k := Int32.not_le.mp h2
  simp [pr_has, a, b]
set_option maxHeartbeats 4000000 in
set_option maxRecDepth 100000 in
theorem c_P_has (l : Launch) (D : za_D) (h : za_H) (n : Nat) (P : pr_T) (hP : pr_at h P) (x : Int32) : za_M l D Y_P_has 0 0 0 [vR 1, vI x] h n (fun v h' n' => v = some (vI (bI (pr_has P x))) ∧ h' = h ∧ n = n') := by
  obtain ⟨o, a, b, cs, k⟩ := P
  obtain ⟨hP1, hP2, hP3, hP4, hP5⟩ := hP
  refine za_enter cd_P_has fl_P (by decide) cdok_P_has flok_P (Nat.le_of_ble_eq_true rfl) ?_
  intro p e s m args below meth c X hnm
  refine za_view [(1, pr_c k)] (by simp [hP1]) ?_
  have hfin : za_ov h [(1, pr_c k)] = h := by rw [za_ov1, za_set_same hP1]
  iterate 1 refine za_step X rfl rfl rfl ?_
  refine za_iflt X 16 rfl (by decide) (fun h1 => ?_) (fun h1 => ?_)
  · iterate 1 refine za_step X rfl rfl rfl ?_
    exact za_zret X rfl (Or.inl rfl) ⟨by rw [has_f1 h1]; rfl, hfin, rfl⟩ (Nat.le_refl _) (Nat.le_refl _)
  · iterate 3 refine za_step X rfl rfl rfl ?_
    refine za_icge X 16 rfl (by decide) (fun h2 => ?_) (fun h2 => ?_)
    · iterate 1 refine za_step X rfl rfl rfl ?_
      exact za_zret X rfl (Or.inl rfl) ⟨by rw [has_f2 h2]; rfl, hfin, rfl⟩ (Nat.le_refl _) (Nat.le_refl _)
    · iterate 2 refine za_step X rfl rfl rfl ?_
      exact za_zret X rfl (Or.inr rfl) ⟨by rw [has_t h1 h2]; rfl, hfin, rfl⟩ (Nat.le_refl _) (Nat.le_refl _)
set_option maxHeartbeats 4000000 in
set_option maxRecDepth 100000 in
theorem c_T_finish (l : Launch) (D : za_D) (h : za_H) (n : Nat) (t : Nat) (ht : t = 6 ∨ t = 8) (T : tr_T) (hT : tr_at h t T) (a b : Int32) : za_M l D Y_T_finish 0 0 0 [vR t, vI a, vI b] h n (fun v h' n' => v = none ∧ h' = tr_put h t (tr_fin T a b) ∧ n = n') := by
  obtain ⟨r, pl, la, dn, vi, de, ct, en, ou, ed⟩ := T
  obtain ⟨hT1, hT2⟩ := hT
  rcases ht with rfl | rfl
  · refine za_enter cd_T_finish fl_T (by decide) cdok_T_finish flok_T (Nat.le_of_ble_eq_true rfl) ?_
    intro p e s m args below meth c X hnm
    refine za_view [(6, tr_c 6 (r, pl, la, dn, vi, de, ct, en, ou, ed)), (7, tr_g (r, pl, la, dn, vi, de, ct, en, ou, ed))] (by simp [hT1, hT2]) ?_
    iterate 9 refine za_step X rfl rfl rfl ?_
    exact za_vret X rfl ⟨rfl, tr_ov h 6 (tr_fin (r, pl, la, dn, vi, de, ct, en, ou, ed) a b), rfl⟩ (Nat.le_refl _) (Nat.le_refl _)
  · refine za_enter cd_T_finish fl_T (by decide) cdok_T_finish flok_T (Nat.le_of_ble_eq_true rfl) ?_
    intro p e s m args below meth c X hnm
    refine za_view [(8, tr_c 8 (r, pl, la, dn, vi, de, ct, en, ou, ed)), (9, tr_g (r, pl, la, dn, vi, de, ct, en, ou, ed))] (by simp [hT1, hT2]) ?_
    iterate 9 refine za_step X rfl rfl rfl ?_
    exact za_vret X rfl ⟨rfl, tr_ov h 8 (tr_fin (r, pl, la, dn, vi, de, ct, en, ou, ed) a b), rfl⟩ (Nat.le_refl _) (Nat.le_refl _)
set_option maxHeartbeats 4000000 in
set_option maxRecDepth 100000 in
theorem c_T_begin (l : Launch) (D : za_D) (h : za_H) (n : Nat) (t : Nat) (ht : t = 6 ∨ t = 8) (T : tr_T) (hT : tr_at h t T) (a b : Int32) : za_M l D Y_T_begin 0 0 0 [vR t, vI a, vI b] h n (fun v h' n' => v = none ∧ h' = tr_put h t (tr_beg T a b) ∧ n = n') := by
  obtain ⟨r, pl, la, dn, vi, de, ct, en, ou, ed⟩ := T
  obtain ⟨hT1, hT2⟩ := hT
  rcases ht with rfl | rfl
  · refine za_enter cd_T_begin fl_T (by decide) cdok_T_begin flok_T (Nat.le_of_ble_eq_true rfl) ?_
    intro p e s m args below meth c X hnm
    refine za_view [(6, tr_c 6 (r, pl, la, dn, vi, de, ct, en, ou, ed)), (7, tr_g (r, pl, la, dn, vi, de, ct, en, ou, ed))] (by simp [hT1, hT2]) ?_
    iterate 4 refine za_step X rfl rfl rfl ?_
    refine za_iast X rfl rfl rfl (by unfold vp_in; decide) ?_
    iterate 4 refine za_step X rfl rfl rfl ?_
    refine za_iast X rfl rfl rfl (by unfold vp_in; decide) ?_
    iterate 4 refine za_step X rfl rfl rfl ?_
    refine za_iast X rfl rfl rfl (by unfold vp_in; decide) ?_
    iterate 4 refine za_step X rfl rfl rfl ?_
    refine za_iast X rfl rfl rfl (by unfold vp_in; decide) ?_
    refine za_ext (i := 7) (t0 := 0) (N := 4) (tr_cr a b) rfl (tr_cr_eq r a b) ?_
    iterate 21 refine za_step X rfl rfl rfl ?_
    exact za_vret X rfl ⟨rfl, tr_ov h 6 (tr_beg (r, pl, la, dn, vi, de, ct, en, ou, ed) a b), rfl⟩ (Nat.le_refl _) (Nat.le_refl _)
  · refine za_enter cd_T_begin fl_T (by decide) cdok_T_begin flok_T (Nat.le_of_ble_eq_true rfl) ?_
    intro p e s m args below meth c X hnm
    refine za_view [(8, tr_c 8 (r, pl, la, dn, vi, de, ct, en, ou, ed)), (9, tr_g (r, pl, la, dn, vi, de, ct, en, ou, ed))] (by simp [hT1, hT2]) ?_
    iterate 4 refine za_step X rfl rfl rfl ?_
    refine za_iast X rfl rfl rfl (by unfold vp_in; decide) ?_
    iterate 4 refine za_step X rfl rfl rfl ?_
    refine za_iast X rfl rfl rfl (by unfold vp_in; decide) ?_
    iterate 4 refine za_step X rfl rfl rfl ?_
    refine za_iast X rfl rfl rfl (by unfold vp_in; decide) ?_
    iterate 4 refine za_step X rfl rfl rfl ?_
    refine za_iast X rfl rfl rfl (by unfold vp_in; decide) ?_
    refine za_ext (i := 9) (t0 := 0) (N := 4) (tr_cr a b) rfl (tr_cr_eq r a b) ?_
    iterate 21 refine za_step X rfl rfl rfl ?_
    exact za_vret X rfl ⟨rfl, tr_ov h 8 (tr_beg (r, pl, la, dn, vi, de, ct, en, ou, ed) a b), rfl⟩ (Nat.le_refl _) (Nat.le_refl _)
set_option maxHeartbeats 4000000 in
set_option maxRecDepth 100000 in
theorem c_T_decide (l : Launch) (D : za_D) (h : za_H) (n : Nat) (t : Nat) (ht : t = 6 ∨ t = 8) (T : tr_T) (hT : tr_at h t T) (y : Bool) : za_M l D Y_T_decide 1 0 0 [vR t, vI (bI y)] h n (fun v h' n' => v = none ∧ h' = tr_put h t (tr_dec T y) ∧ n = n') := by
  obtain ⟨r, pl, la, dn, vi, de, ct, en, ou, ed⟩ := T
  obtain ⟨hT1, hT2⟩ := hT
  rcases ht with rfl | rfl
  · refine za_enter cd_T_decide fl_T (by decide) cdok_T_decide flok_T (Nat.le_of_ble_eq_true rfl) ?_
    intro p e s m args below meth c X hnm
    refine za_view [(6, tr_c 6 (r, pl, la, dn, vi, de, ct, en, ou, ed)), (7, tr_g (r, pl, la, dn, vi, de, ct, en, ou, ed))] (by simp [hT1, hT2]) ?_
    iterate 1 refine za_step X rfl rfl rfl ?_
    refine za_ifeq X 22 rfl (by decide) (fun h1 => ?_) (fun h1 => ?_)
    · have hy := bI_0 h1
      subst hy
      iterate 6 refine za_step X rfl rfl rfl ?_
      exact za_vret X rfl ⟨rfl, tr_ov h 6 (tr_dec (r, pl, la, dn, vi, de, ct, en, ou, ed) false), rfl⟩ (Nat.le_refl _) (Nat.le_refl _)
    · have hy := bI_n0 h1
      subst hy
      iterate 6 refine za_step X rfl rfl rfl ?_
      refine za_callS X rfl cl_T_F_decisionBit cy_F_decisionBit cs_F_decisionBit (c_F_decisionBit l D _ n ct) rfl rfl (Nat.le_of_ble_eq_true rfl) (Nat.le_of_ble_eq_true rfl) (Nat.le_of_ble_eq_true rfl) (Nat.le_of_ble_eq_true rfl) (Nat.le_of_ble_eq_true rfl) (fun v h' n' hq => ?_)
      obtain ⟨rfl, rfl, rfl⟩ := hq
      refine za_look (h1 := h) (v1 := [(6, tr_c 6 (r, pl, la, dn, vi, de, ct, en, ou, ed)), (7, tr_g (r, pl, la, dn, vi, de, ct, en, ou, ed))]) rfl ?_
      iterate 9 refine za_step X rfl rfl rfl ?_
      exact za_vret X rfl ⟨rfl, tr_ov h 6 (tr_dec (r, pl, la, dn, vi, de, ct, en, ou, ed) true), rfl⟩ (Nat.le_refl _) (Nat.le_refl _)
  · refine za_enter cd_T_decide fl_T (by decide) cdok_T_decide flok_T (Nat.le_of_ble_eq_true rfl) ?_
    intro p e s m args below meth c X hnm
    refine za_view [(8, tr_c 8 (r, pl, la, dn, vi, de, ct, en, ou, ed)), (9, tr_g (r, pl, la, dn, vi, de, ct, en, ou, ed))] (by simp [hT1, hT2]) ?_
    iterate 1 refine za_step X rfl rfl rfl ?_
    refine za_ifeq X 22 rfl (by decide) (fun h1 => ?_) (fun h1 => ?_)
    · have hy := bI_0 h1
      subst hy
      iterate 6 refine za_step X rfl rfl rfl ?_
      exact za_vret X rfl ⟨rfl, tr_ov h 8 (tr_dec (r, pl, la, dn, vi, de, ct, en, ou, ed) false), rfl⟩ (Nat.le_refl _) (Nat.le_refl _)
    · have hy := bI_n0 h1
      subst hy
      iterate 6 refine za_step X rfl rfl rfl ?_
      refine za_callS X rfl cl_T_F_decisionBit cy_F_decisionBit cs_F_decisionBit (c_F_decisionBit l D _ n ct) rfl rfl (Nat.le_of_ble_eq_true rfl) (Nat.le_of_ble_eq_true rfl) (Nat.le_of_ble_eq_true rfl) (Nat.le_of_ble_eq_true rfl) (Nat.le_of_ble_eq_true rfl) (fun v h' n' hq => ?_)
      obtain ⟨rfl, rfl, rfl⟩ := hq
      refine za_look (h1 := h) (v1 := [(8, tr_c 8 (r, pl, la, dn, vi, de, ct, en, ou, ed)), (9, tr_g (r, pl, la, dn, vi, de, ct, en, ou, ed))]) rfl ?_
      iterate 9 refine za_step X rfl rfl rfl ?_
      exact za_vret X rfl ⟨rfl, tr_ov h 8 (tr_dec (r, pl, la, dn, vi, de, ct, en, ou, ed) true), rfl⟩ (Nat.le_refl _) (Nat.le_refl _)
end
section
set_option maxHeartbeats 4000000 in
set_option maxRecDepth 100000 in
theorem c_T_goIf (l : Launch) (D : za_D) (h : za_H) (n : Nat) (t : Nat) (ht : t = 6 ∨ t = 8) (T : tr_T) (hT : tr_at h t T) (y : Bool) (x : Int32) : za_M l D Y_T_goIf 2 0 0 [vR t, vI (bI y), vI x] h n (fun v h' n' => v = none ∧ h' = tr_put h t (tr_goif T y x) ∧ n = n') := by
  obtain ⟨r, pl, la, dn, vi, de, ct, en, ou, ed⟩ := T
  obtain ⟨hT1, hT2⟩ := hT
  rcases ht with rfl | rfl
  · refine za_enter cd_T_goIf fl_T (by decide) cdok_T_goIf flok_T (Nat.le_of_ble_eq_true rfl) ?_
    intro p e s m args below meth c X hnm
    refine za_view [(6, tr_c 6 (r, pl, la, dn, vi, de, ct, en, ou, ed)), (7, tr_g (r, pl, la, dn, vi, de, ct, en, ou, ed))] (by simp [hT1, hT2]) ?_
    iterate 2 refine za_step X rfl rfl rfl ?_
    refine za_callV X rfl cl_T_T_decide cy_T_decide cv_T_decide (c_T_decide l D _ n 6 (Or.inl rfl) (r, pl, la, dn, vi, de, ct, en, ou, ed) ⟨rfl, rfl⟩ y) rfl rfl rfl rfl (Nat.le_of_ble_eq_true rfl) (Nat.le_of_ble_eq_true rfl) (Nat.le_of_ble_eq_true rfl) (Nat.le_of_ble_eq_true rfl) (Nat.le_of_ble_eq_true rfl) (fun v h' n' hq => ?_)
    obtain ⟨rfl, rfl, rfl⟩ := hq
    refine za_look (h1 := h) (v1 := [(6, tr_c 6 (tr_dec (r, pl, la, dn, vi, de, ct, en, ou, ed) y)), (7, tr_g (tr_dec (r, pl, la, dn, vi, de, ct, en, ou, ed) y))]) (tr_back h 6 ((r, pl, la, dn, vi, de, ct, en, ou, ed)) (tr_dec (r, pl, la, dn, vi, de, ct, en, ou, ed) y)) ?_
    iterate 1 refine za_step X rfl rfl rfl ?_
    refine za_ifeq X 14 rfl (by decide) (fun h1 => ?_) (fun h1 => ?_)
    · have hy := bI_0 h1
      subst hy
      exact za_vret X rfl ⟨rfl, tr_ov h 6 (tr_dec (r, pl, la, dn, vi, de, ct, en, ou, ed) false), rfl⟩ (Nat.le_refl _) (Nat.le_refl _)
    · have hy := bI_n0 h1
      subst hy
      iterate 3 refine za_step X rfl rfl rfl ?_
      exact za_vret X rfl ⟨rfl, tr_ov h 6 (tr_go (tr_dec (r, pl, la, dn, vi, de, ct, en, ou, ed) true) x), rfl⟩ (Nat.le_refl _) (Nat.le_refl _)
  · refine za_enter cd_T_goIf fl_T (by decide) cdok_T_goIf flok_T (Nat.le_of_ble_eq_true rfl) ?_
    intro p e s m args below meth c X hnm
    refine za_view [(8, tr_c 8 (r, pl, la, dn, vi, de, ct, en, ou, ed)), (9, tr_g (r, pl, la, dn, vi, de, ct, en, ou, ed))] (by simp [hT1, hT2]) ?_
    iterate 2 refine za_step X rfl rfl rfl ?_
    refine za_callV X rfl cl_T_T_decide cy_T_decide cv_T_decide (c_T_decide l D _ n 8 (Or.inr rfl) (r, pl, la, dn, vi, de, ct, en, ou, ed) ⟨rfl, rfl⟩ y) rfl rfl rfl rfl (Nat.le_of_ble_eq_true rfl) (Nat.le_of_ble_eq_true rfl) (Nat.le_of_ble_eq_true rfl) (Nat.le_of_ble_eq_true rfl) (Nat.le_of_ble_eq_true rfl) (fun v h' n' hq => ?_)
    obtain ⟨rfl, rfl, rfl⟩ := hq
    refine za_look (h1 := h) (v1 := [(8, tr_c 8 (tr_dec (r, pl, la, dn, vi, de, ct, en, ou, ed) y)), (9, tr_g (tr_dec (r, pl, la, dn, vi, de, ct, en, ou, ed) y))]) (tr_back h 8 ((r, pl, la, dn, vi, de, ct, en, ou, ed)) (tr_dec (r, pl, la, dn, vi, de, ct, en, ou, ed) y)) ?_
    iterate 1 refine za_step X rfl rfl rfl ?_
    refine za_ifeq X 14 rfl (by decide) (fun h1 => ?_) (fun h1 => ?_)
    · have hy := bI_0 h1
      subst hy
      exact za_vret X rfl ⟨rfl, tr_ov h 8 (tr_dec (r, pl, la, dn, vi, de, ct, en, ou, ed) false), rfl⟩ (Nat.le_refl _) (Nat.le_refl _)
    · have hy := bI_n0 h1
      subst hy
      iterate 3 refine za_step X rfl rfl rfl ?_
      exact za_vret X rfl ⟨rfl, tr_ov h 8 (tr_go (tr_dec (r, pl, la, dn, vi, de, ct, en, ou, ed) true) x), rfl⟩ (Nat.le_refl _) (Nat.le_refl _)
theorem rg_in {x : Int32} (h : pr_up 3 x = true) : vp_in x 4 := by
  simp only [pr_up, Bool.and_eq_true, decide_eq_true_eq] at h
  have h1 := Int32.le_iff_toInt_le.mp h.1
  have h2 := Int32.le_iff_toInt_le.mp h.2
  rw [vp_in_iff]
  have e0 : (0 : Int32).toInt = 0 := by decide
  have e3 : (3 : Int32).toInt = 3 := by decide
  omega
set_option maxHeartbeats 4000000 in
set_option maxRecDepth 100000 in
theorem c_T_divide (l : Launch) (D : za_D) (h : za_H) (n : Nat) (t : Nat) (ht : t = 6 ∨ t = 8) (T : tr_T) (hT : tr_at h t T) (a b x : Int32) (ha : pr_up 3 a = true) (hb : pr_up 3 b = true) (hx : pr_up 3 x = true) : za_M l D Y_T_divide 2 0 0 [vR t, vI a, vI b, vI x] h n (fun v h' n' => v = none ∧ h' = tr_put h t (tr_div T a b x) ∧ n = n') := by
  obtain ⟨r, pl, la, dn, vi, de, ct, en, ou, ed⟩ := T
  obtain ⟨hT1, hT2⟩ := hT
  rcases ht with rfl | rfl
  · refine za_enter cd_T_divide fl_T (by decide) cdok_T_divide flok_T (Nat.le_of_ble_eq_true rfl) ?_
    intro p e s m args below meth c X hnm
    refine za_view [(6, tr_c 6 (r, pl, la, dn, vi, de, ct, en, ou, ed)), (7, tr_g (r, pl, la, dn, vi, de, ct, en, ou, ed))] (by simp [hT1, hT2]) ?_
    iterate 3 refine za_step X rfl rfl rfl ?_
    refine za_iald X rfl rfl rfl (rg_in hx) ?_
    iterate 3 refine za_step X rfl rfl rfl ?_
    refine za_ifne X 18 rfl (by decide) (fun h1 => ?_) (fun h1 => ?_)
    · iterate 1 refine za_step X rfl rfl rfl ?_
      refine za_callV X rfl cl_T_T_decide cy_T_decide cv_T_decide (c_T_decide l D _ n 6 (Or.inl rfl) (r, pl, la, dn, vi, de, ct, en, ou, ed) ⟨rfl, rfl⟩ false) rfl rfl rfl rfl (Nat.le_of_ble_eq_true rfl) (Nat.le_of_ble_eq_true rfl) (Nat.le_of_ble_eq_true rfl) (Nat.le_of_ble_eq_true rfl) (Nat.le_of_ble_eq_true rfl) (fun v h' n' hq => ?_)
      obtain ⟨rfl, rfl, rfl⟩ := hq
      refine za_look (h1 := h) (v1 := [(6, tr_c 6 (tr_dec (r, pl, la, dn, vi, de, ct, en, ou, ed) false)), (7, tr_g (tr_dec (r, pl, la, dn, vi, de, ct, en, ou, ed) false))]) (tr_back h 6 ((r, pl, la, dn, vi, de, ct, en, ou, ed)) (tr_dec (r, pl, la, dn, vi, de, ct, en, ou, ed) false)) ?_
      iterate 1 refine za_step X rfl rfl rfl ?_
      refine za_ifne X 39 rfl (by decide) (fun h2 => ?_) (fun h2 => absurd h2 h1)
      iterate 6 refine za_step X rfl rfl rfl ?_
      refine za_iald X rfl rfl rfl (rg_in hb) ?_
      iterate 1 refine za_step X rfl rfl rfl ?_
      refine za_idiv X rfl h1 ?_
      refine za_iast X rfl rfl rfl (rg_in ha) ?_
      exact za_vret X rfl ⟨rfl, by
        have e : tr_div (r, pl, la, dn, vi, de, ct, en, ou, ed) a b x = tr_reg (tr_dec (r, pl, la, dn, vi, de, ct, en, ou, ed) false) a.toNatClampNeg (r b.toNatClampNeg / r x.toNatClampNeg) := if_neg h1
        rw [e]
        exact tr_ov h 6 (tr_reg (tr_dec (r, pl, la, dn, vi, de, ct, en, ou, ed) false) a.toNatClampNeg (r b.toNatClampNeg / r x.toNatClampNeg)), rfl⟩ (Nat.le_refl _) (Nat.le_refl _)
    · iterate 2 refine za_step X rfl rfl rfl ?_
      refine za_callV X rfl cl_T_T_decide cy_T_decide cv_T_decide (c_T_decide l D _ n 6 (Or.inl rfl) (r, pl, la, dn, vi, de, ct, en, ou, ed) ⟨rfl, rfl⟩ true) rfl rfl rfl rfl (Nat.le_of_ble_eq_true rfl) (Nat.le_of_ble_eq_true rfl) (Nat.le_of_ble_eq_true rfl) (Nat.le_of_ble_eq_true rfl) (Nat.le_of_ble_eq_true rfl) (fun v h' n' hq => ?_)
      obtain ⟨rfl, rfl, rfl⟩ := hq
      refine za_look (h1 := h) (v1 := [(6, tr_c 6 (tr_dec (r, pl, la, dn, vi, de, ct, en, ou, ed) true)), (7, tr_g (tr_dec (r, pl, la, dn, vi, de, ct, en, ou, ed) true))]) (tr_back h 6 ((r, pl, la, dn, vi, de, ct, en, ou, ed)) (tr_dec (r, pl, la, dn, vi, de, ct, en, ou, ed) true)) ?_
      iterate 1 refine za_step X rfl rfl rfl ?_
      refine za_ifne X 39 rfl (by decide) (fun h2 => absurd h1 h2) (fun h2 => ?_)
      iterate 4 refine za_step X rfl rfl rfl ?_
      refine za_callV X rfl cl_T_T_finish cy_T_finish cv_T_finish (c_T_finish l D _ n 6 (Or.inl rfl) (tr_dec (r, pl, la, dn, vi, de, ct, en, ou, ed) true) ⟨rfl, rfl⟩ 1 la) rfl rfl rfl rfl (Nat.le_of_ble_eq_true rfl) (Nat.le_of_ble_eq_true rfl) (Nat.le_of_ble_eq_true rfl) (Nat.le_of_ble_eq_true rfl) (Nat.le_of_ble_eq_true rfl) (fun v h' n' hq => ?_)
      obtain ⟨rfl, rfl, rfl⟩ := hq
      refine za_look (h1 := h) (v1 := [(6, tr_c 6 (tr_fin (tr_dec (r, pl, la, dn, vi, de, ct, en, ou, ed) true) 1 la)), (7, tr_g (tr_fin (tr_dec (r, pl, la, dn, vi, de, ct, en, ou, ed) true) 1 la))]) (tr_back h 6 (tr_dec (r, pl, la, dn, vi, de, ct, en, ou, ed) true) (tr_fin (tr_dec (r, pl, la, dn, vi, de, ct, en, ou, ed) true) 1 la)) ?_
      iterate 1 refine za_step X rfl rfl rfl ?_
      exact za_vret X rfl ⟨rfl, by
        have e : tr_div (r, pl, la, dn, vi, de, ct, en, ou, ed) a b x = tr_fin (tr_dec (r, pl, la, dn, vi, de, ct, en, ou, ed) true) 1 la := if_pos h1
        rw [e]
        exact tr_ov h 6 (tr_fin (tr_dec (r, pl, la, dn, vi, de, ct, en, ou, ed) true) 1 la), rfl⟩ (Nat.le_refl _) (Nat.le_refl _)
  · refine za_enter cd_T_divide fl_T (by decide) cdok_T_divide flok_T (Nat.le_of_ble_eq_true rfl) ?_
    intro p e s m args below meth c X hnm
    refine za_view [(8, tr_c 8 (r, pl, la, dn, vi, de, ct, en, ou, ed)), (9, tr_g (r, pl, la, dn, vi, de, ct, en, ou, ed))] (by simp [hT1, hT2]) ?_
    iterate 3 refine za_step X rfl rfl rfl ?_
    refine za_iald X rfl rfl rfl (rg_in hx) ?_
    iterate 3 refine za_step X rfl rfl rfl ?_
    refine za_ifne X 18 rfl (by decide) (fun h1 => ?_) (fun h1 => ?_)
    · iterate 1 refine za_step X rfl rfl rfl ?_
      refine za_callV X rfl cl_T_T_decide cy_T_decide cv_T_decide (c_T_decide l D _ n 8 (Or.inr rfl) (r, pl, la, dn, vi, de, ct, en, ou, ed) ⟨rfl, rfl⟩ false) rfl rfl rfl rfl (Nat.le_of_ble_eq_true rfl) (Nat.le_of_ble_eq_true rfl) (Nat.le_of_ble_eq_true rfl) (Nat.le_of_ble_eq_true rfl) (Nat.le_of_ble_eq_true rfl) (fun v h' n' hq => ?_)
      obtain ⟨rfl, rfl, rfl⟩ := hq
      refine za_look (h1 := h) (v1 := [(8, tr_c 8 (tr_dec (r, pl, la, dn, vi, de, ct, en, ou, ed) false)), (9, tr_g (tr_dec (r, pl, la, dn, vi, de, ct, en, ou, ed) false))]) (tr_back h 8 ((r, pl, la, dn, vi, de, ct, en, ou, ed)) (tr_dec (r, pl, la, dn, vi, de, ct, en, ou, ed) false)) ?_
      iterate 1 refine za_step X rfl rfl rfl ?_
      refine za_ifne X 39 rfl (by decide) (fun h2 => ?_) (fun h2 => absurd h2 h1)
      iterate 6 refine za_step X rfl rfl rfl ?_
      refine za_iald X rfl rfl rfl (rg_in hb) ?_
      iterate 1 refine za_step X rfl rfl rfl ?_
      refine za_idiv X rfl h1 ?_
      refine za_iast X rfl rfl rfl (rg_in ha) ?_
      exact za_vret X rfl ⟨rfl, by
        have e : tr_div (r, pl, la, dn, vi, de, ct, en, ou, ed) a b x = tr_reg (tr_dec (r, pl, la, dn, vi, de, ct, en, ou, ed) false) a.toNatClampNeg (r b.toNatClampNeg / r x.toNatClampNeg) := if_neg h1
        rw [e]
        exact tr_ov h 8 (tr_reg (tr_dec (r, pl, la, dn, vi, de, ct, en, ou, ed) false) a.toNatClampNeg (r b.toNatClampNeg / r x.toNatClampNeg)), rfl⟩ (Nat.le_refl _) (Nat.le_refl _)
    · iterate 2 refine za_step X rfl rfl rfl ?_
      refine za_callV X rfl cl_T_T_decide cy_T_decide cv_T_decide (c_T_decide l D _ n 8 (Or.inr rfl) (r, pl, la, dn, vi, de, ct, en, ou, ed) ⟨rfl, rfl⟩ true) rfl rfl rfl rfl (Nat.le_of_ble_eq_true rfl) (Nat.le_of_ble_eq_true rfl) (Nat.le_of_ble_eq_true rfl) (Nat.le_of_ble_eq_true rfl) (Nat.le_of_ble_eq_true rfl) (fun v h' n' hq => ?_)
      obtain ⟨rfl, rfl, rfl⟩ := hq
      refine za_look (h1 := h) (v1 := [(8, tr_c 8 (tr_dec (r, pl, la, dn, vi, de, ct, en, ou, ed) true)), (9, tr_g (tr_dec (r, pl, la, dn, vi, de, ct, en, ou, ed) true))]) (tr_back h 8 ((r, pl, la, dn, vi, de, ct, en, ou, ed)) (tr_dec (r, pl, la, dn, vi, de, ct, en, ou, ed) true)) ?_
      iterate 1 refine za_step X rfl rfl rfl ?_
      refine za_ifne X 39 rfl (by decide) (fun h2 => absurd h1 h2) (fun h2 => ?_)
      iterate 4 refine za_step X rfl rfl rfl ?_
      refine za_callV X rfl cl_T_T_finish cy_T_finish cv_T_finish (c_T_finish l D _ n 8 (Or.inr rfl) (tr_dec (r, pl, la, dn, vi, de, ct, en, ou, ed) true) ⟨rfl, rfl⟩ 1 la) rfl rfl rfl rfl (Nat.le_of_ble_eq_true rfl) (Nat.le_of_ble_eq_true rfl) (Nat.le_of_ble_eq_true rfl) (Nat.le_of_ble_eq_true rfl) (Nat.le_of_ble_eq_true rfl) (fun v h' n' hq => ?_)
      obtain ⟨rfl, rfl, rfl⟩ := hq
      refine za_look (h1 := h) (v1 := [(8, tr_c 8 (tr_fin (tr_dec (r, pl, la, dn, vi, de, ct, en, ou, ed) true) 1 la)), (9, tr_g (tr_fin (tr_dec (r, pl, la, dn, vi, de, ct, en, ou, ed) true) 1 la))]) (tr_back h 8 (tr_dec (r, pl, la, dn, vi, de, ct, en, ou, ed) true) (tr_fin (tr_dec (r, pl, la, dn, vi, de, ct, en, ou, ed) true) 1 la)) ?_
      iterate 1 refine za_step X rfl rfl rfl ?_
      exact za_vret X rfl ⟨rfl, by
        have e : tr_div (r, pl, la, dn, vi, de, ct, en, ou, ed) a b x = tr_fin (tr_dec (r, pl, la, dn, vi, de, ct, en, ou, ed) true) 1 la := if_pos h1
        rw [e]
        exact tr_ov h 8 (tr_fin (tr_dec (r, pl, la, dn, vi, de, ct, en, ou, ed) true) 1 la), rfl⟩ (Nat.le_refl _) (Nat.le_refl _)
set_option maxHeartbeats 4000000 in
set_option maxRecDepth 100000 in
theorem c_T_claim (l : Launch) (D : za_D) (h : za_H) (n : Nat) (t : Nat) (ht : t = 6 ∨ t = 8) (T : tr_T) (hT : tr_at h t T) (a : Int32) (ha : pr_up 3 a = true) : za_M l D Y_T_claim 2 0 0 [vR t, vI a] h n (fun v h' n' => v = none ∧ h' = tr_put h t (tr_clm T a) ∧ n = n') := by
  obtain ⟨r, pl, la, dn, vi, de, ct, en, ou, ed⟩ := T
  obtain ⟨hT1, hT2⟩ := hT
  rcases ht with rfl | rfl
  · refine za_enter cd_T_claim fl_T (by decide) cdok_T_claim flok_T (Nat.le_of_ble_eq_true rfl) ?_
    intro p e s m args below meth c X hnm
    refine za_view [(6, tr_c 6 (r, pl, la, dn, vi, de, ct, en, ou, ed)), (7, tr_g (r, pl, la, dn, vi, de, ct, en, ou, ed))] (by simp [hT1, hT2]) ?_
    iterate 3 refine za_step X rfl rfl rfl ?_
    refine za_iald X rfl rfl rfl (rg_in ha) ?_
    refine za_ifne X 13 rfl (by decide) (fun h1 => ?_) (fun h1 => ?_)
    · iterate 4 refine za_step X rfl rfl rfl ?_
      refine za_callV X rfl cl_T_T_decide cy_T_decide cv_T_decide (c_T_decide l D _ n 6 (Or.inl rfl) (r, pl, la, dn, vi, de, ct, en, ou, ed) ⟨rfl, rfl⟩ false) rfl rfl rfl rfl (Nat.le_of_ble_eq_true rfl) (Nat.le_of_ble_eq_true rfl) (Nat.le_of_ble_eq_true rfl) (Nat.le_of_ble_eq_true rfl) (Nat.le_of_ble_eq_true rfl) (fun v h' n' hq => ?_)
      obtain ⟨rfl, rfl, rfl⟩ := hq
      refine za_look (h1 := h) (v1 := [(6, tr_c 6 (tr_dec (r, pl, la, dn, vi, de, ct, en, ou, ed) false)), (7, tr_g (tr_dec (r, pl, la, dn, vi, de, ct, en, ou, ed) false))]) (tr_back h 6 ((r, pl, la, dn, vi, de, ct, en, ou, ed)) (tr_dec (r, pl, la, dn, vi, de, ct, en, ou, ed) false)) ?_
      iterate 1 refine za_step X rfl rfl rfl ?_
      refine za_ifeq X 33 rfl (by decide) (fun h2 => ?_) (fun h2 => absurd rfl h2)
      exact za_vret X rfl ⟨rfl, by
        have e : tr_clm (r, pl, la, dn, vi, de, ct, en, ou, ed) a = tr_dec (r, pl, la, dn, vi, de, ct, en, ou, ed) false := if_neg h1
        rw [e]
        exact tr_ov h 6 (tr_dec (r, pl, la, dn, vi, de, ct, en, ou, ed) false), rfl⟩ (Nat.le_refl _) (Nat.le_refl _)
    · iterate 5 refine za_step X rfl rfl rfl ?_
      refine za_callV X rfl cl_T_T_decide cy_T_decide cv_T_decide (c_T_decide l D _ n 6 (Or.inl rfl) (r, pl, la, dn, vi, de, ct, en, ou, ed) ⟨rfl, rfl⟩ true) rfl rfl rfl rfl (Nat.le_of_ble_eq_true rfl) (Nat.le_of_ble_eq_true rfl) (Nat.le_of_ble_eq_true rfl) (Nat.le_of_ble_eq_true rfl) (Nat.le_of_ble_eq_true rfl) (fun v h' n' hq => ?_)
      obtain ⟨rfl, rfl, rfl⟩ := hq
      refine za_look (h1 := h) (v1 := [(6, tr_c 6 (tr_dec (r, pl, la, dn, vi, de, ct, en, ou, ed) true)), (7, tr_g (tr_dec (r, pl, la, dn, vi, de, ct, en, ou, ed) true))]) (tr_back h 6 ((r, pl, la, dn, vi, de, ct, en, ou, ed)) (tr_dec (r, pl, la, dn, vi, de, ct, en, ou, ed) true)) ?_
      iterate 1 refine za_step X rfl rfl rfl ?_
      refine za_ifeq X 33 rfl (by decide) (fun h2 => absurd h2 (by decide)) (fun h2 => ?_)
      iterate 4 refine za_step X rfl rfl rfl ?_
      refine za_callV X rfl cl_T_T_finish cy_T_finish cv_T_finish (c_T_finish l D _ n 6 (Or.inl rfl) (tr_dec (r, pl, la, dn, vi, de, ct, en, ou, ed) true) ⟨rfl, rfl⟩ 2 la) rfl rfl rfl rfl (Nat.le_of_ble_eq_true rfl) (Nat.le_of_ble_eq_true rfl) (Nat.le_of_ble_eq_true rfl) (Nat.le_of_ble_eq_true rfl) (Nat.le_of_ble_eq_true rfl) (fun v h' n' hq => ?_)
      obtain ⟨rfl, rfl, rfl⟩ := hq
      refine za_look (h1 := h) (v1 := [(6, tr_c 6 (tr_fin (tr_dec (r, pl, la, dn, vi, de, ct, en, ou, ed) true) 2 la)), (7, tr_g (tr_fin (tr_dec (r, pl, la, dn, vi, de, ct, en, ou, ed) true) 2 la))]) (tr_back h 6 (tr_dec (r, pl, la, dn, vi, de, ct, en, ou, ed) true) (tr_fin (tr_dec (r, pl, la, dn, vi, de, ct, en, ou, ed) true) 2 la)) ?_
      exact za_vret X rfl ⟨rfl, by
        have e : tr_clm (r, pl, la, dn, vi, de, ct, en, ou, ed) a = tr_fin (tr_dec (r, pl, la, dn, vi, de, ct, en, ou, ed) true) 2 la := if_pos h1
        rw [e]
        exact tr_ov h 6 (tr_fin (tr_dec (r, pl, la, dn, vi, de, ct, en, ou, ed) true) 2 la), rfl⟩ (Nat.le_refl _) (Nat.le_refl _)
  · refine za_enter cd_T_claim fl_T (by decide) cdok_T_claim flok_T (Nat.le_of_ble_eq_true rfl) ?_
    intro p e s m args below meth c X hnm
    refine za_view [(8, tr_c 8 (r, pl, la, dn, vi, de, ct, en, ou, ed)), (9, tr_g (r, pl, la, dn, vi, de, ct, en, ou, ed))] (by simp [hT1, hT2]) ?_
    iterate 3 refine za_step X rfl rfl rfl ?_
    refine za_iald X rfl rfl rfl (rg_in ha) ?_
    refine za_ifne X 13 rfl (by decide) (fun h1 => ?_) (fun h1 => ?_)
    · iterate 4 refine za_step X rfl rfl rfl ?_
      refine za_callV X rfl cl_T_T_decide cy_T_decide cv_T_decide (c_T_decide l D _ n 8 (Or.inr rfl) (r, pl, la, dn, vi, de, ct, en, ou, ed) ⟨rfl, rfl⟩ false) rfl rfl rfl rfl (Nat.le_of_ble_eq_true rfl) (Nat.le_of_ble_eq_true rfl) (Nat.le_of_ble_eq_true rfl) (Nat.le_of_ble_eq_true rfl) (Nat.le_of_ble_eq_true rfl) (fun v h' n' hq => ?_)
      obtain ⟨rfl, rfl, rfl⟩ := hq
      refine za_look (h1 := h) (v1 := [(8, tr_c 8 (tr_dec (r, pl, la, dn, vi, de, ct, en, ou, ed) false)), (9, tr_g (tr_dec (r, pl, la, dn, vi, de, ct, en, ou, ed) false))]) (tr_back h 8 ((r, pl, la, dn, vi, de, ct, en, ou, ed)) (tr_dec (r, pl, la, dn, vi, de, ct, en, ou, ed) false)) ?_
      iterate 1 refine za_step X rfl rfl rfl ?_
      refine za_ifeq X 33 rfl (by decide) (fun h2 => ?_) (fun h2 => absurd rfl h2)
      exact za_vret X rfl ⟨rfl, by
        have e : tr_clm (r, pl, la, dn, vi, de, ct, en, ou, ed) a = tr_dec (r, pl, la, dn, vi, de, ct, en, ou, ed) false := if_neg h1
        rw [e]
        exact tr_ov h 8 (tr_dec (r, pl, la, dn, vi, de, ct, en, ou, ed) false), rfl⟩ (Nat.le_refl _) (Nat.le_refl _)
    · iterate 5 refine za_step X rfl rfl rfl ?_
      refine za_callV X rfl cl_T_T_decide cy_T_decide cv_T_decide (c_T_decide l D _ n 8 (Or.inr rfl) (r, pl, la, dn, vi, de, ct, en, ou, ed) ⟨rfl, rfl⟩ true) rfl rfl rfl rfl (Nat.le_of_ble_eq_true rfl) (Nat.le_of_ble_eq_true rfl) (Nat.le_of_ble_eq_true rfl) (Nat.le_of_ble_eq_true rfl) (Nat.le_of_ble_eq_true rfl) (fun v h' n' hq => ?_)
      obtain ⟨rfl, rfl, rfl⟩ := hq
      refine za_look (h1 := h) (v1 := [(8, tr_c 8 (tr_dec (r, pl, la, dn, vi, de, ct, en, ou, ed) true)), (9, tr_g (tr_dec (r, pl, la, dn, vi, de, ct, en, ou, ed) true))]) (tr_back h 8 ((r, pl, la, dn, vi, de, ct, en, ou, ed)) (tr_dec (r, pl, la, dn, vi, de, ct, en, ou, ed) true)) ?_
      iterate 1 refine za_step X rfl rfl rfl ?_
      refine za_ifeq X 33 rfl (by decide) (fun h2 => absurd h2 (by decide)) (fun h2 => ?_)
      iterate 4 refine za_step X rfl rfl rfl ?_
      refine za_callV X rfl cl_T_T_finish cy_T_finish cv_T_finish (c_T_finish l D _ n 8 (Or.inr rfl) (tr_dec (r, pl, la, dn, vi, de, ct, en, ou, ed) true) ⟨rfl, rfl⟩ 2 la) rfl rfl rfl rfl (Nat.le_of_ble_eq_true rfl) (Nat.le_of_ble_eq_true rfl) (Nat.le_of_ble_eq_true rfl) (Nat.le_of_ble_eq_true rfl) (Nat.le_of_ble_eq_true rfl) (fun v h' n' hq => ?_)
      obtain ⟨rfl, rfl, rfl⟩ := hq
      refine za_look (h1 := h) (v1 := [(8, tr_c 8 (tr_fin (tr_dec (r, pl, la, dn, vi, de, ct, en, ou, ed) true) 2 la)), (9, tr_g (tr_fin (tr_dec (r, pl, la, dn, vi, de, ct, en, ou, ed) true) 2 la))]) (tr_back h 8 (tr_dec (r, pl, la, dn, vi, de, ct, en, ou, ed) true) (tr_fin (tr_dec (r, pl, la, dn, vi, de, ct, en, ou, ed) true) 2 la)) ?_
      exact za_vret X rfl ⟨rfl, by
        have e : tr_clm (r, pl, la, dn, vi, de, ct, en, ou, ed) a = tr_fin (tr_dec (r, pl, la, dn, vi, de, ct, en, ou, ed) true) 2 la := if_pos h1
        rw [e]
        exact tr_ov h 8 (tr_fin (tr_dec (r, pl, la, dn, vi, de, ct, en, ou, ed) true) 2 la), rfl⟩ (Nat.le_refl _) (Nat.le_refl _)
end
section
set_option maxHeartbeats 4000000 in
set_option maxRecDepth 100000 in
theorem c_T_combine (l : Launch) (D : za_D) (h : za_H) (n : Nat) (op b x : Int32) (hop : op = 1 ∨ op = 2 ∨ op = 3 ∨ op = 4 ∨ op = 5 ∨ op = 6) : za_M l D Y_T_combine 0 0 0 [vI op, vI b, vI x] h n (fun v h' n' => v = some (vI (tr_com op b x)) ∧ h' = h ∧ n = n') := by
  refine za_enter cd_T_combine fl_T (by decide) cdok_T_combine flok_T (Nat.le_of_ble_eq_true rfl) ?_
  intro p e s m args below meth c X hnm
  have k255 : (Int16.ofInt 255).toInt32 = 255 := by decide
  iterate 1 refine za_step X rfl rfl rfl ?_
  rcases hop with rfl | rfl | rfl | rfl | rfl | rfl
  · refine za_tsw X 1 36 rfl (by decide) (by decide) (by decide) rfl (by decide) ?_
    iterate 5 refine za_step X rfl rfl rfl ?_
    exact za_iret X rfl ⟨by rw [k255]; rfl, rfl, rfl⟩ (Nat.le_refl _) (Nat.le_refl _)
  · refine za_tsw X 2 44 rfl (by decide) (by decide) (by decide) rfl (by decide) ?_
    iterate 5 refine za_step X rfl rfl rfl ?_
    exact za_iret X rfl ⟨by rw [k255]; rfl, rfl, rfl⟩ (Nat.le_refl _) (Nat.le_refl _)
  · refine za_tsw X 3 52 rfl (by decide) (by decide) (by decide) rfl (by decide) ?_
    iterate 3 refine za_step X rfl rfl rfl ?_
    exact za_iret X rfl ⟨by rfl, rfl, rfl⟩ (Nat.le_refl _) (Nat.le_refl _)
  · refine za_tsw X 4 56 rfl (by decide) (by decide) (by decide) rfl (by decide) ?_
    iterate 3 refine za_step X rfl rfl rfl ?_
    exact za_iret X rfl ⟨by rfl, rfl, rfl⟩ (Nat.le_refl _) (Nat.le_refl _)
  · refine za_tsw X 5 60 rfl (by decide) (by decide) (by decide) rfl (by decide) ?_
    iterate 3 refine za_step X rfl rfl rfl ?_
    exact za_iret X rfl ⟨by rfl, rfl, rfl⟩ (Nat.le_refl _) (Nat.le_refl _)
  · refine za_tsd X 64 rfl (by decide) (by decide) ?_
    iterate 5 refine za_step X rfl rfl rfl ?_
    exact za_iret X rfl ⟨by rw [k255]; rfl, rfl, rfl⟩ (Nat.le_refl _) (Nat.le_refl _)
theorem i32_of {x : Int32} {k : Nat} (h : x.toInt = (k : Int)) (hk : k < 2 ^ 31) : x = nI k := Int32.toInt_inj.mp (by rw [nI_toInt hk]; exact h)
theorem op_cases (x : Int32) : (x.toInt < 0 ∨ 13 < x.toInt) ∨ x = 0 ∨ x = 1 ∨ x = 2 ∨ x = 3 ∨ x = 4 ∨ x = 5 ∨ x = 6 ∨ x = 7 ∨ x = 8 ∨ x = 9 ∨ x = 10 ∨ x = 11 ∨ x = 12 ∨ x = 13 := by
  by_cases h : x.toInt < 0 ∨ 13 < x.toInt
  · exact Or.inl h
  · right
    obtain ⟨k, hk⟩ : ∃ k : Nat, x.toInt = (k : Int) := ⟨x.toInt.toNat, by omega⟩
    have hk2 : k ≤ 13 := by omega
    have e := i32_of hk (by omega)
    subst e
    rcases (show k = 0 ∨ k = 1 ∨ k = 2 ∨ k = 3 ∨ k = 4 ∨ k = 5 ∨ k = 6 ∨ k = 7 ∨ k = 8 ∨ k = 9 ∨ k = 10 ∨ k = 11 ∨ k = 12 ∨ k = 13 by omega) with rfl | rfl | rfl | rfl | rfl | rfl | rfl | rfl | rfl | rfl | rfl | rfl | rfl | rfl <;> decide
theorem al_out {op a b c : Int32} (h : op.toInt < 0 ∨ 13 < op.toInt) : pr_al op a b c = false := by
  have ne : ∀ k : Int32, 0 ≤ k.toInt → k.toInt ≤ 13 → op ≠ k := by
    intro k h1 h2 e
    subst e
    omega
  have n0 := ne 0 (by decide) (by decide)
  have n1 := ne 1 (by decide) (by decide)
  have n2 := ne 2 (by decide) (by decide)
  have n3 := ne 3 (by decide) (by decide)
  have n4 := ne 4 (by decide) (by decide)
  have n5 := ne 5 (by decide) (by decide)
  have n6 := ne 6 (by decide) (by decide)
  have n7 := ne 7 (by decide) (by decide)
  have n8 := ne 8 (by decide) (by decide)
  have n9 := ne 9 (by decide) (by decide)
  have n10 := ne 10 (by decide) (by decide)
  have n11 := ne 11 (by decide) (by decide)
  have n12 := ne 12 (by decide) (by decide)
  have n13 := ne 13 (by decide) (by decide)
  simp [pr_al, n0, n1, n2, n3, n4, n5, n6, n7, n8, n9, n10, n11, n12, n13]
set_option maxHeartbeats 4000000 in
set_option maxRecDepth 100000 in
theorem c_P_allows (l : Launch) (D : za_D) (h : za_H) (n : Nat) (op a b x : Int32) : za_M l D Y_P_allows 2 0 0 [vI op, vI a, vI b, vI x] h n (fun v h' n' => v = some (vI (bI (pr_al op a b x))) ∧ h' = h ∧ n = n') := by
  refine za_enter cd_P_allows fl_P (by decide) cdok_P_allows flok_P (Nat.le_of_ble_eq_true rfl) ?_
  intro p e s m args below meth c X hnm
  iterate 1 refine za_step X rfl rfl rfl ?_
  rcases op_cases op with hop | rfl | rfl | rfl | rfl | rfl | rfl | rfl | rfl | rfl | rfl | rfl | rfl | rfl | rfl
  · refine za_tsd X 192 rfl hop (by decide) ?_
    iterate 1 refine za_step X rfl rfl rfl ?_
    exact za_zret X rfl (Or.inl rfl) ⟨by rw [al_out hop]; rfl, rfl, rfl⟩ (Nat.le_refl _) (Nat.le_refl _)
  · refine za_tsw X 0 72 rfl (by decide) (by decide) (by decide) rfl (by decide) ?_
    iterate 1 refine za_step X rfl rfl rfl ?_
    refine za_callS X rfl cl_P_P_isRegister cy_P_isRegister cs_P_isRegister (c_P_isRegister l D _ n a) rfl rfl (Nat.le_of_ble_eq_true rfl) (Nat.le_of_ble_eq_true rfl) (Nat.le_of_ble_eq_true rfl) (Nat.le_of_ble_eq_true rfl) (Nat.le_of_ble_eq_true rfl) (fun v h' n' hq => ?_)
    obtain ⟨rfl, rfl, rfl⟩ := hq
    refine za_ifeq X 93 rfl (by decide) (fun q0 => ?_) (fun q0 => ?_)
    · iterate 1 refine za_step X rfl rfl rfl ?_
      exact za_zret X rfl (Or.inl rfl) ⟨by simp [pr_al, bI, bI_0 q0], rfl, rfl⟩ (Nat.le_refl _) (Nat.le_refl _)
    · iterate 2 refine za_step X rfl rfl rfl ?_
      refine za_callS X rfl cl_P_F_isUpTo cy_F_isUpTo cs_F_isUpTo (c_F_isUpTo l D _ n 255 b) rfl rfl (Nat.le_of_ble_eq_true rfl) (Nat.le_of_ble_eq_true rfl) (Nat.le_of_ble_eq_true rfl) (Nat.le_of_ble_eq_true rfl) (Nat.le_of_ble_eq_true rfl) (fun v h' n' hq => ?_)
      obtain ⟨rfl, rfl, rfl⟩ := hq
      refine za_ifeq X 93 rfl (by decide) (fun q1 => ?_) (fun q1 => ?_)
      · iterate 1 refine za_step X rfl rfl rfl ?_
        exact za_zret X rfl (Or.inl rfl) ⟨by simp [pr_al, bI, bI_0 q1], rfl, rfl⟩ (Nat.le_refl _) (Nat.le_refl _)
      · iterate 2 refine za_step X rfl rfl rfl ?_
        exact za_zret X rfl (Or.inr rfl) ⟨by simp [pr_al, bI, bI_n0 q0, bI_n0 q1], rfl, rfl⟩ (Nat.le_refl _) (Nat.le_refl _)
  · refine za_tsw X 1 95 rfl (by decide) (by decide) (by decide) rfl (by decide) ?_
    iterate 1 refine za_step X rfl rfl rfl ?_
    refine za_callS X rfl cl_P_P_isRegister cy_P_isRegister cs_P_isRegister (c_P_isRegister l D _ n a) rfl rfl (Nat.le_of_ble_eq_true rfl) (Nat.le_of_ble_eq_true rfl) (Nat.le_of_ble_eq_true rfl) (Nat.le_of_ble_eq_true rfl) (Nat.le_of_ble_eq_true rfl) (fun v h' n' hq => ?_)
    obtain ⟨rfl, rfl, rfl⟩ := hq
    refine za_ifeq X 120 rfl (by decide) (fun q0 => ?_) (fun q0 => ?_)
    · iterate 1 refine za_step X rfl rfl rfl ?_
      exact za_zret X rfl (Or.inl rfl) ⟨by simp [pr_al, bI, bI_0 q0], rfl, rfl⟩ (Nat.le_refl _) (Nat.le_refl _)
    · iterate 1 refine za_step X rfl rfl rfl ?_
      refine za_callS X rfl cl_P_P_isRegister cy_P_isRegister cs_P_isRegister (c_P_isRegister l D _ n b) rfl rfl (Nat.le_of_ble_eq_true rfl) (Nat.le_of_ble_eq_true rfl) (Nat.le_of_ble_eq_true rfl) (Nat.le_of_ble_eq_true rfl) (Nat.le_of_ble_eq_true rfl) (fun v h' n' hq => ?_)
      obtain ⟨rfl, rfl, rfl⟩ := hq
      refine za_ifeq X 120 rfl (by decide) (fun q1 => ?_) (fun q1 => ?_)
      · iterate 1 refine za_step X rfl rfl rfl ?_
        exact za_zret X rfl (Or.inl rfl) ⟨by simp [pr_al, bI, bI_0 q1], rfl, rfl⟩ (Nat.le_refl _) (Nat.le_refl _)
      · iterate 1 refine za_step X rfl rfl rfl ?_
        refine za_callS X rfl cl_P_P_isRegister cy_P_isRegister cs_P_isRegister (c_P_isRegister l D _ n x) rfl rfl (Nat.le_of_ble_eq_true rfl) (Nat.le_of_ble_eq_true rfl) (Nat.le_of_ble_eq_true rfl) (Nat.le_of_ble_eq_true rfl) (Nat.le_of_ble_eq_true rfl) (fun v h' n' hq => ?_)
        obtain ⟨rfl, rfl, rfl⟩ := hq
        refine za_ifeq X 120 rfl (by decide) (fun q2 => ?_) (fun q2 => ?_)
        · iterate 1 refine za_step X rfl rfl rfl ?_
          exact za_zret X rfl (Or.inl rfl) ⟨by simp [pr_al, bI, bI_0 q2], rfl, rfl⟩ (Nat.le_refl _) (Nat.le_refl _)
        · iterate 2 refine za_step X rfl rfl rfl ?_
          exact za_zret X rfl (Or.inr rfl) ⟨by simp [pr_al, bI, bI_n0 q0, bI_n0 q1, bI_n0 q2], rfl, rfl⟩ (Nat.le_refl _) (Nat.le_refl _)
  · refine za_tsw X 2 95 rfl (by decide) (by decide) (by decide) rfl (by decide) ?_
    iterate 1 refine za_step X rfl rfl rfl ?_
    refine za_callS X rfl cl_P_P_isRegister cy_P_isRegister cs_P_isRegister (c_P_isRegister l D _ n a) rfl rfl (Nat.le_of_ble_eq_true rfl) (Nat.le_of_ble_eq_true rfl) (Nat.le_of_ble_eq_true rfl) (Nat.le_of_ble_eq_true rfl) (Nat.le_of_ble_eq_true rfl) (fun v h' n' hq => ?_)
    obtain ⟨rfl, rfl, rfl⟩ := hq
    refine za_ifeq X 120 rfl (by decide) (fun q0 => ?_) (fun q0 => ?_)
    · iterate 1 refine za_step X rfl rfl rfl ?_
      exact za_zret X rfl (Or.inl rfl) ⟨by simp [pr_al, bI, bI_0 q0], rfl, rfl⟩ (Nat.le_refl _) (Nat.le_refl _)
    · iterate 1 refine za_step X rfl rfl rfl ?_
      refine za_callS X rfl cl_P_P_isRegister cy_P_isRegister cs_P_isRegister (c_P_isRegister l D _ n b) rfl rfl (Nat.le_of_ble_eq_true rfl) (Nat.le_of_ble_eq_true rfl) (Nat.le_of_ble_eq_true rfl) (Nat.le_of_ble_eq_true rfl) (Nat.le_of_ble_eq_true rfl) (fun v h' n' hq => ?_)
      obtain ⟨rfl, rfl, rfl⟩ := hq
      refine za_ifeq X 120 rfl (by decide) (fun q1 => ?_) (fun q1 => ?_)
      · iterate 1 refine za_step X rfl rfl rfl ?_
        exact za_zret X rfl (Or.inl rfl) ⟨by simp [pr_al, bI, bI_0 q1], rfl, rfl⟩ (Nat.le_refl _) (Nat.le_refl _)
      · iterate 1 refine za_step X rfl rfl rfl ?_
        refine za_callS X rfl cl_P_P_isRegister cy_P_isRegister cs_P_isRegister (c_P_isRegister l D _ n x) rfl rfl (Nat.le_of_ble_eq_true rfl) (Nat.le_of_ble_eq_true rfl) (Nat.le_of_ble_eq_true rfl) (Nat.le_of_ble_eq_true rfl) (Nat.le_of_ble_eq_true rfl) (fun v h' n' hq => ?_)
        obtain ⟨rfl, rfl, rfl⟩ := hq
        refine za_ifeq X 120 rfl (by decide) (fun q2 => ?_) (fun q2 => ?_)
        · iterate 1 refine za_step X rfl rfl rfl ?_
          exact za_zret X rfl (Or.inl rfl) ⟨by simp [pr_al, bI, bI_0 q2], rfl, rfl⟩ (Nat.le_refl _) (Nat.le_refl _)
        · iterate 2 refine za_step X rfl rfl rfl ?_
          exact za_zret X rfl (Or.inr rfl) ⟨by simp [pr_al, bI, bI_n0 q0, bI_n0 q1, bI_n0 q2], rfl, rfl⟩ (Nat.le_refl _) (Nat.le_refl _)
  · refine za_tsw X 3 95 rfl (by decide) (by decide) (by decide) rfl (by decide) ?_
    iterate 1 refine za_step X rfl rfl rfl ?_
    refine za_callS X rfl cl_P_P_isRegister cy_P_isRegister cs_P_isRegister (c_P_isRegister l D _ n a) rfl rfl (Nat.le_of_ble_eq_true rfl) (Nat.le_of_ble_eq_true rfl) (Nat.le_of_ble_eq_true rfl) (Nat.le_of_ble_eq_true rfl) (Nat.le_of_ble_eq_true rfl) (fun v h' n' hq => ?_)
    obtain ⟨rfl, rfl, rfl⟩ := hq
    refine za_ifeq X 120 rfl (by decide) (fun q0 => ?_) (fun q0 => ?_)
    · iterate 1 refine za_step X rfl rfl rfl ?_
      exact za_zret X rfl (Or.inl rfl) ⟨by simp [pr_al, bI, bI_0 q0], rfl, rfl⟩ (Nat.le_refl _) (Nat.le_refl _)
    · iterate 1 refine za_step X rfl rfl rfl ?_
      refine za_callS X rfl cl_P_P_isRegister cy_P_isRegister cs_P_isRegister (c_P_isRegister l D _ n b) rfl rfl (Nat.le_of_ble_eq_true rfl) (Nat.le_of_ble_eq_true rfl) (Nat.le_of_ble_eq_true rfl) (Nat.le_of_ble_eq_true rfl) (Nat.le_of_ble_eq_true rfl) (fun v h' n' hq => ?_)
      obtain ⟨rfl, rfl, rfl⟩ := hq
      refine za_ifeq X 120 rfl (by decide) (fun q1 => ?_) (fun q1 => ?_)
      · iterate 1 refine za_step X rfl rfl rfl ?_
        exact za_zret X rfl (Or.inl rfl) ⟨by simp [pr_al, bI, bI_0 q1], rfl, rfl⟩ (Nat.le_refl _) (Nat.le_refl _)
      · iterate 1 refine za_step X rfl rfl rfl ?_
        refine za_callS X rfl cl_P_P_isRegister cy_P_isRegister cs_P_isRegister (c_P_isRegister l D _ n x) rfl rfl (Nat.le_of_ble_eq_true rfl) (Nat.le_of_ble_eq_true rfl) (Nat.le_of_ble_eq_true rfl) (Nat.le_of_ble_eq_true rfl) (Nat.le_of_ble_eq_true rfl) (fun v h' n' hq => ?_)
        obtain ⟨rfl, rfl, rfl⟩ := hq
        refine za_ifeq X 120 rfl (by decide) (fun q2 => ?_) (fun q2 => ?_)
        · iterate 1 refine za_step X rfl rfl rfl ?_
          exact za_zret X rfl (Or.inl rfl) ⟨by simp [pr_al, bI, bI_0 q2], rfl, rfl⟩ (Nat.le_refl _) (Nat.le_refl _)
        · iterate 2 refine za_step X rfl rfl rfl ?_
          exact za_zret X rfl (Or.inr rfl) ⟨by simp [pr_al, bI, bI_n0 q0, bI_n0 q1, bI_n0 q2], rfl, rfl⟩ (Nat.le_refl _) (Nat.le_refl _)
  · refine za_tsw X 4 95 rfl (by decide) (by decide) (by decide) rfl (by decide) ?_
    iterate 1 refine za_step X rfl rfl rfl ?_
    refine za_callS X rfl cl_P_P_isRegister cy_P_isRegister cs_P_isRegister (c_P_isRegister l D _ n a) rfl rfl (Nat.le_of_ble_eq_true rfl) (Nat.le_of_ble_eq_true rfl) (Nat.le_of_ble_eq_true rfl) (Nat.le_of_ble_eq_true rfl) (Nat.le_of_ble_eq_true rfl) (fun v h' n' hq => ?_)
    obtain ⟨rfl, rfl, rfl⟩ := hq
    refine za_ifeq X 120 rfl (by decide) (fun q0 => ?_) (fun q0 => ?_)
    · iterate 1 refine za_step X rfl rfl rfl ?_
      exact za_zret X rfl (Or.inl rfl) ⟨by simp [pr_al, bI, bI_0 q0], rfl, rfl⟩ (Nat.le_refl _) (Nat.le_refl _)
    · iterate 1 refine za_step X rfl rfl rfl ?_
      refine za_callS X rfl cl_P_P_isRegister cy_P_isRegister cs_P_isRegister (c_P_isRegister l D _ n b) rfl rfl (Nat.le_of_ble_eq_true rfl) (Nat.le_of_ble_eq_true rfl) (Nat.le_of_ble_eq_true rfl) (Nat.le_of_ble_eq_true rfl) (Nat.le_of_ble_eq_true rfl) (fun v h' n' hq => ?_)
      obtain ⟨rfl, rfl, rfl⟩ := hq
      refine za_ifeq X 120 rfl (by decide) (fun q1 => ?_) (fun q1 => ?_)
      · iterate 1 refine za_step X rfl rfl rfl ?_
        exact za_zret X rfl (Or.inl rfl) ⟨by simp [pr_al, bI, bI_0 q1], rfl, rfl⟩ (Nat.le_refl _) (Nat.le_refl _)
      · iterate 1 refine za_step X rfl rfl rfl ?_
        refine za_callS X rfl cl_P_P_isRegister cy_P_isRegister cs_P_isRegister (c_P_isRegister l D _ n x) rfl rfl (Nat.le_of_ble_eq_true rfl) (Nat.le_of_ble_eq_true rfl) (Nat.le_of_ble_eq_true rfl) (Nat.le_of_ble_eq_true rfl) (Nat.le_of_ble_eq_true rfl) (fun v h' n' hq => ?_)
        obtain ⟨rfl, rfl, rfl⟩ := hq
        refine za_ifeq X 120 rfl (by decide) (fun q2 => ?_) (fun q2 => ?_)
        · iterate 1 refine za_step X rfl rfl rfl ?_
          exact za_zret X rfl (Or.inl rfl) ⟨by simp [pr_al, bI, bI_0 q2], rfl, rfl⟩ (Nat.le_refl _) (Nat.le_refl _)
        · iterate 2 refine za_step X rfl rfl rfl ?_
          exact za_zret X rfl (Or.inr rfl) ⟨by simp [pr_al, bI, bI_n0 q0, bI_n0 q1, bI_n0 q2], rfl, rfl⟩ (Nat.le_refl _) (Nat.le_refl _)
  · refine za_tsw X 5 95 rfl (by decide) (by decide) (by decide) rfl (by decide) ?_
    iterate 1 refine za_step X rfl rfl rfl ?_
    refine za_callS X rfl cl_P_P_isRegister cy_P_isRegister cs_P_isRegister (c_P_isRegister l D _ n a) rfl rfl (Nat.le_of_ble_eq_true rfl) (Nat.le_of_ble_eq_true rfl) (Nat.le_of_ble_eq_true rfl) (Nat.le_of_ble_eq_true rfl) (Nat.le_of_ble_eq_true rfl) (fun v h' n' hq => ?_)
    obtain ⟨rfl, rfl, rfl⟩ := hq
    refine za_ifeq X 120 rfl (by decide) (fun q0 => ?_) (fun q0 => ?_)
    · iterate 1 refine za_step X rfl rfl rfl ?_
      exact za_zret X rfl (Or.inl rfl) ⟨by simp [pr_al, bI, bI_0 q0], rfl, rfl⟩ (Nat.le_refl _) (Nat.le_refl _)
    · iterate 1 refine za_step X rfl rfl rfl ?_
      refine za_callS X rfl cl_P_P_isRegister cy_P_isRegister cs_P_isRegister (c_P_isRegister l D _ n b) rfl rfl (Nat.le_of_ble_eq_true rfl) (Nat.le_of_ble_eq_true rfl) (Nat.le_of_ble_eq_true rfl) (Nat.le_of_ble_eq_true rfl) (Nat.le_of_ble_eq_true rfl) (fun v h' n' hq => ?_)
      obtain ⟨rfl, rfl, rfl⟩ := hq
      refine za_ifeq X 120 rfl (by decide) (fun q1 => ?_) (fun q1 => ?_)
      · iterate 1 refine za_step X rfl rfl rfl ?_
        exact za_zret X rfl (Or.inl rfl) ⟨by simp [pr_al, bI, bI_0 q1], rfl, rfl⟩ (Nat.le_refl _) (Nat.le_refl _)
      · iterate 1 refine za_step X rfl rfl rfl ?_
        refine za_callS X rfl cl_P_P_isRegister cy_P_isRegister cs_P_isRegister (c_P_isRegister l D _ n x) rfl rfl (Nat.le_of_ble_eq_true rfl) (Nat.le_of_ble_eq_true rfl) (Nat.le_of_ble_eq_true rfl) (Nat.le_of_ble_eq_true rfl) (Nat.le_of_ble_eq_true rfl) (fun v h' n' hq => ?_)
        obtain ⟨rfl, rfl, rfl⟩ := hq
        refine za_ifeq X 120 rfl (by decide) (fun q2 => ?_) (fun q2 => ?_)
        · iterate 1 refine za_step X rfl rfl rfl ?_
          exact za_zret X rfl (Or.inl rfl) ⟨by simp [pr_al, bI, bI_0 q2], rfl, rfl⟩ (Nat.le_refl _) (Nat.le_refl _)
        · iterate 2 refine za_step X rfl rfl rfl ?_
          exact za_zret X rfl (Or.inr rfl) ⟨by simp [pr_al, bI, bI_n0 q0, bI_n0 q1, bI_n0 q2], rfl, rfl⟩ (Nat.le_refl _) (Nat.le_refl _)
  · refine za_tsw X 6 95 rfl (by decide) (by decide) (by decide) rfl (by decide) ?_
    iterate 1 refine za_step X rfl rfl rfl ?_
    refine za_callS X rfl cl_P_P_isRegister cy_P_isRegister cs_P_isRegister (c_P_isRegister l D _ n a) rfl rfl (Nat.le_of_ble_eq_true rfl) (Nat.le_of_ble_eq_true rfl) (Nat.le_of_ble_eq_true rfl) (Nat.le_of_ble_eq_true rfl) (Nat.le_of_ble_eq_true rfl) (fun v h' n' hq => ?_)
    obtain ⟨rfl, rfl, rfl⟩ := hq
    refine za_ifeq X 120 rfl (by decide) (fun q0 => ?_) (fun q0 => ?_)
    · iterate 1 refine za_step X rfl rfl rfl ?_
      exact za_zret X rfl (Or.inl rfl) ⟨by simp [pr_al, bI, bI_0 q0], rfl, rfl⟩ (Nat.le_refl _) (Nat.le_refl _)
    · iterate 1 refine za_step X rfl rfl rfl ?_
      refine za_callS X rfl cl_P_P_isRegister cy_P_isRegister cs_P_isRegister (c_P_isRegister l D _ n b) rfl rfl (Nat.le_of_ble_eq_true rfl) (Nat.le_of_ble_eq_true rfl) (Nat.le_of_ble_eq_true rfl) (Nat.le_of_ble_eq_true rfl) (Nat.le_of_ble_eq_true rfl) (fun v h' n' hq => ?_)
      obtain ⟨rfl, rfl, rfl⟩ := hq
      refine za_ifeq X 120 rfl (by decide) (fun q1 => ?_) (fun q1 => ?_)
      · iterate 1 refine za_step X rfl rfl rfl ?_
        exact za_zret X rfl (Or.inl rfl) ⟨by simp [pr_al, bI, bI_0 q1], rfl, rfl⟩ (Nat.le_refl _) (Nat.le_refl _)
      · iterate 1 refine za_step X rfl rfl rfl ?_
        refine za_callS X rfl cl_P_P_isRegister cy_P_isRegister cs_P_isRegister (c_P_isRegister l D _ n x) rfl rfl (Nat.le_of_ble_eq_true rfl) (Nat.le_of_ble_eq_true rfl) (Nat.le_of_ble_eq_true rfl) (Nat.le_of_ble_eq_true rfl) (Nat.le_of_ble_eq_true rfl) (fun v h' n' hq => ?_)
        obtain ⟨rfl, rfl, rfl⟩ := hq
        refine za_ifeq X 120 rfl (by decide) (fun q2 => ?_) (fun q2 => ?_)
        · iterate 1 refine za_step X rfl rfl rfl ?_
          exact za_zret X rfl (Or.inl rfl) ⟨by simp [pr_al, bI, bI_0 q2], rfl, rfl⟩ (Nat.le_refl _) (Nat.le_refl _)
        · iterate 2 refine za_step X rfl rfl rfl ?_
          exact za_zret X rfl (Or.inr rfl) ⟨by simp [pr_al, bI, bI_n0 q0, bI_n0 q1, bI_n0 q2], rfl, rfl⟩ (Nat.le_refl _) (Nat.le_refl _)
  · refine za_tsw X 7 122 rfl (by decide) (by decide) (by decide) rfl (by decide) ?_
    iterate 1 refine za_step X rfl rfl rfl ?_
    refine za_callS X rfl cl_P_P_isRegister cy_P_isRegister cs_P_isRegister (c_P_isRegister l D _ n a) rfl rfl (Nat.le_of_ble_eq_true rfl) (Nat.le_of_ble_eq_true rfl) (Nat.le_of_ble_eq_true rfl) (Nat.le_of_ble_eq_true rfl) (Nat.le_of_ble_eq_true rfl) (fun v h' n' hq => ?_)
    obtain ⟨rfl, rfl, rfl⟩ := hq
    refine za_ifeq X 149 rfl (by decide) (fun q0 => ?_) (fun q0 => ?_)
    · iterate 1 refine za_step X rfl rfl rfl ?_
      exact za_zret X rfl (Or.inl rfl) ⟨by simp [pr_al, bI, bI_0 q0], rfl, rfl⟩ (Nat.le_refl _) (Nat.le_refl _)
    · iterate 1 refine za_step X rfl rfl rfl ?_
      refine za_callS X rfl cl_P_P_isRegister cy_P_isRegister cs_P_isRegister (c_P_isRegister l D _ n b) rfl rfl (Nat.le_of_ble_eq_true rfl) (Nat.le_of_ble_eq_true rfl) (Nat.le_of_ble_eq_true rfl) (Nat.le_of_ble_eq_true rfl) (Nat.le_of_ble_eq_true rfl) (fun v h' n' hq => ?_)
      obtain ⟨rfl, rfl, rfl⟩ := hq
      refine za_ifeq X 149 rfl (by decide) (fun q1 => ?_) (fun q1 => ?_)
      · iterate 1 refine za_step X rfl rfl rfl ?_
        exact za_zret X rfl (Or.inl rfl) ⟨by simp [pr_al, bI, bI_0 q1], rfl, rfl⟩ (Nat.le_refl _) (Nat.le_refl _)
      · iterate 2 refine za_step X rfl rfl rfl ?_
        refine za_callS X rfl cl_P_F_isUpTo cy_F_isUpTo cs_F_isUpTo (c_F_isUpTo l D _ n 7 x) rfl rfl (Nat.le_of_ble_eq_true rfl) (Nat.le_of_ble_eq_true rfl) (Nat.le_of_ble_eq_true rfl) (Nat.le_of_ble_eq_true rfl) (Nat.le_of_ble_eq_true rfl) (fun v h' n' hq => ?_)
        obtain ⟨rfl, rfl, rfl⟩ := hq
        refine za_ifeq X 149 rfl (by decide) (fun q2 => ?_) (fun q2 => ?_)
        · iterate 1 refine za_step X rfl rfl rfl ?_
          exact za_zret X rfl (Or.inl rfl) ⟨by simp [pr_al, bI, bI_0 q2], rfl, rfl⟩ (Nat.le_refl _) (Nat.le_refl _)
        · iterate 2 refine za_step X rfl rfl rfl ?_
          exact za_zret X rfl (Or.inr rfl) ⟨by simp [pr_al, bI, bI_n0 q0, bI_n0 q1, bI_n0 q2], rfl, rfl⟩ (Nat.le_refl _) (Nat.le_refl _)
  · refine za_tsw X 8 151 rfl (by decide) (by decide) (by decide) rfl (by decide) ?_
    iterate 1 refine za_step X rfl rfl rfl ?_
    refine za_callS X rfl cl_P_P_isRegister cy_P_isRegister cs_P_isRegister (c_P_isRegister l D _ n a) rfl rfl (Nat.le_of_ble_eq_true rfl) (Nat.le_of_ble_eq_true rfl) (Nat.le_of_ble_eq_true rfl) (Nat.le_of_ble_eq_true rfl) (Nat.le_of_ble_eq_true rfl) (fun v h' n' hq => ?_)
    obtain ⟨rfl, rfl, rfl⟩ := hq
    refine za_ifeq X 178 rfl (by decide) (fun q0 => ?_) (fun q0 => ?_)
    · iterate 1 refine za_step X rfl rfl rfl ?_
      exact za_zret X rfl (Or.inl rfl) ⟨by simp [pr_al, bI, bI_0 q0], rfl, rfl⟩ (Nat.le_refl _) (Nat.le_refl _)
    · iterate 1 refine za_step X rfl rfl rfl ?_
      refine za_callS X rfl cl_P_P_isRegister cy_P_isRegister cs_P_isRegister (c_P_isRegister l D _ n b) rfl rfl (Nat.le_of_ble_eq_true rfl) (Nat.le_of_ble_eq_true rfl) (Nat.le_of_ble_eq_true rfl) (Nat.le_of_ble_eq_true rfl) (Nat.le_of_ble_eq_true rfl) (fun v h' n' hq => ?_)
      obtain ⟨rfl, rfl, rfl⟩ := hq
      refine za_ifeq X 178 rfl (by decide) (fun q1 => ?_) (fun q1 => ?_)
      · iterate 1 refine za_step X rfl rfl rfl ?_
        exact za_zret X rfl (Or.inl rfl) ⟨by simp [pr_al, bI, bI_0 q1], rfl, rfl⟩ (Nat.le_refl _) (Nat.le_refl _)
      · iterate 2 refine za_step X rfl rfl rfl ?_
        refine za_callS X rfl cl_P_F_isUpTo cy_F_isUpTo cs_F_isUpTo (c_F_isUpTo l D _ n 24 x) rfl rfl (Nat.le_of_ble_eq_true rfl) (Nat.le_of_ble_eq_true rfl) (Nat.le_of_ble_eq_true rfl) (Nat.le_of_ble_eq_true rfl) (Nat.le_of_ble_eq_true rfl) (fun v h' n' hq => ?_)
        obtain ⟨rfl, rfl, rfl⟩ := hq
        refine za_ifeq X 178 rfl (by decide) (fun q2 => ?_) (fun q2 => ?_)
        · iterate 1 refine za_step X rfl rfl rfl ?_
          exact za_zret X rfl (Or.inl rfl) ⟨by simp [pr_al, bI, bI_0 q2], rfl, rfl⟩ (Nat.le_refl _) (Nat.le_refl _)
        · iterate 2 refine za_step X rfl rfl rfl ?_
          exact za_zret X rfl (Or.inr rfl) ⟨by simp [pr_al, bI, bI_n0 q0, bI_n0 q1, bI_n0 q2], rfl, rfl⟩ (Nat.le_refl _) (Nat.le_refl _)
  · refine za_tsw X 9 151 rfl (by decide) (by decide) (by decide) rfl (by decide) ?_
    iterate 1 refine za_step X rfl rfl rfl ?_
    refine za_callS X rfl cl_P_P_isRegister cy_P_isRegister cs_P_isRegister (c_P_isRegister l D _ n a) rfl rfl (Nat.le_of_ble_eq_true rfl) (Nat.le_of_ble_eq_true rfl) (Nat.le_of_ble_eq_true rfl) (Nat.le_of_ble_eq_true rfl) (Nat.le_of_ble_eq_true rfl) (fun v h' n' hq => ?_)
    obtain ⟨rfl, rfl, rfl⟩ := hq
    refine za_ifeq X 178 rfl (by decide) (fun q0 => ?_) (fun q0 => ?_)
    · iterate 1 refine za_step X rfl rfl rfl ?_
      exact za_zret X rfl (Or.inl rfl) ⟨by simp [pr_al, bI, bI_0 q0], rfl, rfl⟩ (Nat.le_refl _) (Nat.le_refl _)
    · iterate 1 refine za_step X rfl rfl rfl ?_
      refine za_callS X rfl cl_P_P_isRegister cy_P_isRegister cs_P_isRegister (c_P_isRegister l D _ n b) rfl rfl (Nat.le_of_ble_eq_true rfl) (Nat.le_of_ble_eq_true rfl) (Nat.le_of_ble_eq_true rfl) (Nat.le_of_ble_eq_true rfl) (Nat.le_of_ble_eq_true rfl) (fun v h' n' hq => ?_)
      obtain ⟨rfl, rfl, rfl⟩ := hq
      refine za_ifeq X 178 rfl (by decide) (fun q1 => ?_) (fun q1 => ?_)
      · iterate 1 refine za_step X rfl rfl rfl ?_
        exact za_zret X rfl (Or.inl rfl) ⟨by simp [pr_al, bI, bI_0 q1], rfl, rfl⟩ (Nat.le_refl _) (Nat.le_refl _)
      · iterate 2 refine za_step X rfl rfl rfl ?_
        refine za_callS X rfl cl_P_F_isUpTo cy_F_isUpTo cs_F_isUpTo (c_F_isUpTo l D _ n 24 x) rfl rfl (Nat.le_of_ble_eq_true rfl) (Nat.le_of_ble_eq_true rfl) (Nat.le_of_ble_eq_true rfl) (Nat.le_of_ble_eq_true rfl) (Nat.le_of_ble_eq_true rfl) (fun v h' n' hq => ?_)
        obtain ⟨rfl, rfl, rfl⟩ := hq
        refine za_ifeq X 178 rfl (by decide) (fun q2 => ?_) (fun q2 => ?_)
        · iterate 1 refine za_step X rfl rfl rfl ?_
          exact za_zret X rfl (Or.inl rfl) ⟨by simp [pr_al, bI, bI_0 q2], rfl, rfl⟩ (Nat.le_refl _) (Nat.le_refl _)
        · iterate 2 refine za_step X rfl rfl rfl ?_
          exact za_zret X rfl (Or.inr rfl) ⟨by simp [pr_al, bI, bI_n0 q0, bI_n0 q1, bI_n0 q2], rfl, rfl⟩ (Nat.le_refl _) (Nat.le_refl _)
  · refine za_tsw X 10 180 rfl (by decide) (by decide) (by decide) rfl (by decide) ?_
    iterate 2 refine za_step X rfl rfl rfl ?_
    refine za_callS X rfl cl_P_F_isUpTo cy_F_isUpTo cs_F_isUpTo (c_F_isUpTo l D _ n 24 x) rfl rfl (Nat.le_of_ble_eq_true rfl) (Nat.le_of_ble_eq_true rfl) (Nat.le_of_ble_eq_true rfl) (Nat.le_of_ble_eq_true rfl) (Nat.le_of_ble_eq_true rfl) (fun v h' n' hq => ?_)
    obtain ⟨rfl, rfl, rfl⟩ := hq
    exact za_zret X rfl (bI_01 _) ⟨by simp [pr_al], rfl, rfl⟩ (Nat.le_refl _) (Nat.le_refl _)
  · refine za_tsw X 11 95 rfl (by decide) (by decide) (by decide) rfl (by decide) ?_
    iterate 1 refine za_step X rfl rfl rfl ?_
    refine za_callS X rfl cl_P_P_isRegister cy_P_isRegister cs_P_isRegister (c_P_isRegister l D _ n a) rfl rfl (Nat.le_of_ble_eq_true rfl) (Nat.le_of_ble_eq_true rfl) (Nat.le_of_ble_eq_true rfl) (Nat.le_of_ble_eq_true rfl) (Nat.le_of_ble_eq_true rfl) (fun v h' n' hq => ?_)
    obtain ⟨rfl, rfl, rfl⟩ := hq
    refine za_ifeq X 120 rfl (by decide) (fun q0 => ?_) (fun q0 => ?_)
    · iterate 1 refine za_step X rfl rfl rfl ?_
      exact za_zret X rfl (Or.inl rfl) ⟨by simp [pr_al, bI, bI_0 q0], rfl, rfl⟩ (Nat.le_refl _) (Nat.le_refl _)
    · iterate 1 refine za_step X rfl rfl rfl ?_
      refine za_callS X rfl cl_P_P_isRegister cy_P_isRegister cs_P_isRegister (c_P_isRegister l D _ n b) rfl rfl (Nat.le_of_ble_eq_true rfl) (Nat.le_of_ble_eq_true rfl) (Nat.le_of_ble_eq_true rfl) (Nat.le_of_ble_eq_true rfl) (Nat.le_of_ble_eq_true rfl) (fun v h' n' hq => ?_)
      obtain ⟨rfl, rfl, rfl⟩ := hq
      refine za_ifeq X 120 rfl (by decide) (fun q1 => ?_) (fun q1 => ?_)
      · iterate 1 refine za_step X rfl rfl rfl ?_
        exact za_zret X rfl (Or.inl rfl) ⟨by simp [pr_al, bI, bI_0 q1], rfl, rfl⟩ (Nat.le_refl _) (Nat.le_refl _)
      · iterate 1 refine za_step X rfl rfl rfl ?_
        refine za_callS X rfl cl_P_P_isRegister cy_P_isRegister cs_P_isRegister (c_P_isRegister l D _ n x) rfl rfl (Nat.le_of_ble_eq_true rfl) (Nat.le_of_ble_eq_true rfl) (Nat.le_of_ble_eq_true rfl) (Nat.le_of_ble_eq_true rfl) (Nat.le_of_ble_eq_true rfl) (fun v h' n' hq => ?_)
        obtain ⟨rfl, rfl, rfl⟩ := hq
        refine za_ifeq X 120 rfl (by decide) (fun q2 => ?_) (fun q2 => ?_)
        · iterate 1 refine za_step X rfl rfl rfl ?_
          exact za_zret X rfl (Or.inl rfl) ⟨by simp [pr_al, bI, bI_0 q2], rfl, rfl⟩ (Nat.le_refl _) (Nat.le_refl _)
        · iterate 2 refine za_step X rfl rfl rfl ?_
          exact za_zret X rfl (Or.inr rfl) ⟨by simp [pr_al, bI, bI_n0 q0, bI_n0 q1, bI_n0 q2], rfl, rfl⟩ (Nat.le_refl _) (Nat.le_refl _)
  · refine za_tsw X 12 187 rfl (by decide) (by decide) (by decide) rfl (by decide) ?_
    iterate 1 refine za_step X rfl rfl rfl ?_
    refine za_callS X rfl cl_P_P_isRegister cy_P_isRegister cs_P_isRegister (c_P_isRegister l D _ n a) rfl rfl (Nat.le_of_ble_eq_true rfl) (Nat.le_of_ble_eq_true rfl) (Nat.le_of_ble_eq_true rfl) (Nat.le_of_ble_eq_true rfl) (Nat.le_of_ble_eq_true rfl) (fun v h' n' hq => ?_)
    obtain ⟨rfl, rfl, rfl⟩ := hq
    exact za_zret X rfl (bI_01 _) ⟨by simp [pr_al], rfl, rfl⟩ (Nat.le_refl _) (Nat.le_refl _)
  · refine za_tsw X 13 187 rfl (by decide) (by decide) (by decide) rfl (by decide) ?_
    iterate 1 refine za_step X rfl rfl rfl ?_
    refine za_callS X rfl cl_P_P_isRegister cy_P_isRegister cs_P_isRegister (c_P_isRegister l D _ n a) rfl rfl (Nat.le_of_ble_eq_true rfl) (Nat.le_of_ble_eq_true rfl) (Nat.le_of_ble_eq_true rfl) (Nat.le_of_ble_eq_true rfl) (Nat.le_of_ble_eq_true rfl) (fun v h' n' hq => ?_)
    obtain ⟨rfl, rfl, rfl⟩ := hq
    exact za_zret X rfl (bI_01 _) ⟨by simp [pr_al], rfl, rfl⟩ (Nat.le_refl _) (Nat.le_refl _)
end
section
/-- the program's cells, anew -/
def pr_new (h h' : za_H) (P : pr_T) : Prop := pr_at h' P ∧ ∀ j, (j < 1 ∨ 5 < j) → h' j = h j
theorem za_ov_off {h : za_H} {v : List (Nat × za_C)} {j : Nat} (e : ∀ q ∈ v, q.1 ≠ j) : za_ov h v j = h j := by
  have key : ∀ (w : List (Nat × za_C)), (∀ q ∈ w, q.1 ≠ j) → za_vg w j = none := by
    intro w
    induction w with
    | nil => intro _; rfl
    | cons q t ih =>
      obtain ⟨a, d⟩ := q
      intro hw
      rw [za_vg_cons, if_neg (hw (a, d) List.mem_cons_self)]
      exact ih (fun q hq => hw q (List.mem_cons_of_mem _ hq))
  show (match za_vg v j with | some c => some c | none => h j) = _
  rw [key v e]
set_option maxHeartbeats 4000000 in
set_option maxRecDepth 100000 in
theorem c_P_append (l : Launch) (D : za_D) (h : za_H) (n : Nat) (P : pr_T) (hP : pr_at h P) (hn : P.2.2.2.2 < 24) (x y z w : Int32) : za_M l D Y_P_append 0 0 0 [vR 1, vI x, vI y, vI z, vI w] h n (fun v h' n' => v = none ∧ pr_new h h' (pr_add P x y z w) ∧ n = n') := by
  obtain ⟨oo, aa, bb, cc0, k⟩ := P
  obtain ⟨hP1, hP2, hP3, hP4, hP5⟩ := hP
  have hk : k < 24 := hn
  have hin : vp_in (nI k) 24 := vp_in_nI hk (by decide)
  have hcl : (nI k).toNatClampNeg = k := nI_clamp (by omega)
  refine za_enter cd_P_append fl_P (by decide) cdok_P_append flok_P (Nat.le_of_ble_eq_true rfl) ?_
  intro p e s m args below meth c X hnm
  refine za_view [(1, pr_c k), (2, pr_g oo), (3, pr_g aa), (4, pr_g bb), (5, pr_g cc0)] (by simp [hP1, hP2, hP3, hP4, hP5]) ?_
  iterate 5 refine za_step X rfl rfl rfl ?_
  refine za_iast X rfl rfl rfl hin ?_
  iterate 5 refine za_step X rfl rfl rfl ?_
  refine za_iast X rfl rfl rfl hin ?_
  iterate 5 refine za_step X rfl rfl rfl ?_
  refine za_iast X rfl rfl rfl hin ?_
  iterate 5 refine za_step X rfl rfl rfl ?_
  refine za_iast X rfl rfl rfl hin ?_
  iterate 6 refine za_step X rfl rfl rfl ?_
  refine za_vret X rfl ⟨rfl, ⟨⟨?_, ?_, ?_, ?_, ?_⟩, fun j hj => ?_⟩, rfl⟩ (Nat.le_refl _) (Nat.le_refl _)
  · show some (.inr (zn_P, [vR 2, vR 3, vR 4, vR 5, vI (nI k + 1)])) = some (pr_c (k + 1))
    rw [nI_1]; rfl
  · show some (.inl (0, 24, .inl (upd oo (nI k).toNatClampNeg x))) = some (pr_g (upd oo k x))
    rw [hcl]; rfl
  · show some (.inl (0, 24, .inl (upd aa (nI k).toNatClampNeg y))) = some (pr_g (upd aa k y))
    rw [hcl]; rfl
  · show some (.inl (0, 24, .inl (upd bb (nI k).toNatClampNeg z))) = some (pr_g (upd bb k z))
    rw [hcl]; rfl
  · show some (.inl (0, 24, .inl (upd cc0 (nI k).toNatClampNeg w))) = some (pr_g (upd cc0 k w))
    rw [hcl]; rfl
  · refine za_ov_off (v := [(1, _), (2, _), (3, _), (4, _), (5, _)]) ?_
    intro q hq
    simp only [List.mem_cons, List.not_mem_nil, or_false] at hq
    rcases hq with rfl | rfl | rfl | rfl | rfl <;> (show _ ≠ j; omega)
theorem has_spec {oo aa bb cc0 : Nat → Int32} {k : Nat} {x : Int32} (hk : k ≤ 24) (h : pr_has (oo, aa, bb, cc0, k) x = true) : vp_in x 24 ∧ x.toNatClampNeg < k := by
  simp only [pr_has, Bool.and_eq_true, decide_eq_true_eq] at h
  obtain ⟨j, hj, rfl⟩ := nI_of (Int32.not_lt.mpr h.1)
  have h2 := (nI_ltI hj (by omega)).mp h.2
  rw [nI_clamp hj]
  exact ⟨vp_in_nI (by omega) (by decide), h2⟩
theorem al_use {op a b c : Int32} (h : pr_al op a b c = true) : (op = 0 ∧ pr_up 3 a = true) ∨ (op = 7 ∧ pr_up 3 a = true ∧ pr_up 3 b = true) ∨ (op = 8 ∧ pr_up 3 a = true ∧ pr_up 3 b = true) ∨ (op = 9 ∧ pr_up 3 a = true ∧ pr_up 3 b = true) ∨ op = 10 ∨ (op = 11 ∧ pr_up 3 a = true ∧ pr_up 3 b = true ∧ pr_up 3 c = true) ∨ (op = 12 ∧ pr_up 3 a = true) ∨ (op = 13 ∧ pr_up 3 a = true) ∨ ((op = 1 ∨ op = 2 ∨ op = 3 ∨ op = 4 ∨ op = 5 ∨ op = 6) ∧ pr_up 3 a = true ∧ pr_up 3 b = true ∧ pr_up 3 c = true) := by
  rcases op_cases op with hop | rfl | rfl | rfl | rfl | rfl | rfl | rfl | rfl | rfl | rfl | rfl | rfl | rfl | rfl
  · rw [al_out hop] at h; cases h
  all_goals (simp [pr_al] at h; simp [h])
set_option maxHeartbeats 4000000 in
set_option maxRecDepth 100000 in
theorem c_T_step (l : Launch) (D : za_D) (h : za_H) (n : Nat) (t : Nat) (ht : t = 6 ∨ t = 8) (T : tr_T) (hT : tr_at h t T) (P : pr_T) (hP : pr_at h P) (hok : pr_ok P) (hhas : pr_has P (tr_pl T) = true) : za_M l D Y_T_step 3 0 0 [vR t, vR 1] h n (fun v h' n' => v = none ∧ h' = tr_put h t (tr_stp P T) ∧ n = n') := by
  obtain ⟨oo, aa, bb, cc0, k⟩ := P
  obtain ⟨hP1, hP2, hP3, hP4, hP5⟩ := hP
  obtain ⟨r, pl, la, dn, vi, de, ct, en, ou, ed⟩ := T
  obtain ⟨hT1, hT2⟩ := hT
  obtain ⟨hin, hidx⟩ := has_spec (x := pl) hok.1 hhas
  rcases ht with rfl | rfl
  · refine za_enter cd_T_step fl_T (by decide) cdok_T_step flok_T (Nat.le_of_ble_eq_true rfl) ?_
    intro p e s m args below meth c X hnm
    refine za_view [(6, tr_c 6 (r, pl, la, dn, vi, de, ct, en, ou, ed)), (7, tr_g (r, pl, la, dn, vi, de, ct, en, ou, ed)), (1, pr_c k), (2, pr_g oo), (3, pr_g aa), (4, pr_g bb), (5, pr_g cc0)] (by simp [hT1, hT2, hP1, hP2, hP3, hP4, hP5]) ?_
    iterate 29 refine za_step X rfl rfl rfl ?_
    refine za_iald X rfl rfl rfl hin ?_
    iterate 5 refine za_step X rfl rfl rfl ?_
    refine za_iald X rfl rfl rfl hin ?_
    iterate 5 refine za_step X rfl rfl rfl ?_
    refine za_iald X rfl rfl rfl hin ?_
    iterate 5 refine za_step X rfl rfl rfl ?_
    refine za_iald X rfl rfl rfl hin ?_
    iterate 1 refine za_step X rfl rfl rfl ?_
    refine za_look (h1 := h) (v1 := [(6, tr_c 6 (tr_pre (r, pl, la, dn, vi, de, ct, en, ou, ed))), (7, tr_g (tr_pre (r, pl, la, dn, vi, de, ct, en, ou, ed)))]) (za_ov_app [(6, tr_c 6 (tr_pre (r, pl, la, dn, vi, de, ct, en, ou, ed))), (7, tr_g (tr_pre (r, pl, la, dn, vi, de, ct, en, ou, ed)))] (w := [(1, pr_c k), (2, pr_g oo), (3, pr_g aa), (4, pr_g bb), (5, pr_g cc0)]) (by simp [hP1, hP2, hP3, hP4, hP5])) ?_
    have hal := hok.2 _ hidx
    have key0 : tr_stp (oo, aa, bb, cc0, k) (r, pl, la, dn, vi, de, ct, en, ou, ed) = tr_ins (tr_pre (r, pl, la, dn, vi, de, ct, en, ou, ed)) (oo pl.toNatClampNeg) (aa pl.toNatClampNeg) (bb pl.toNatClampNeg) (cc0 pl.toNatClampNeg) := rfl
    generalize oo pl.toNatClampNeg = op at hal key0 ⊢
    generalize aa pl.toNatClampNeg = a at hal key0 ⊢
    generalize bb pl.toNatClampNeg = b at hal key0 ⊢
    generalize cc0 pl.toNatClampNeg = x at hal key0 ⊢
    rw [key0]
    iterate 1 refine za_step X rfl rfl rfl ?_
    rcases al_use hal with ⟨rfl, ha⟩ | ⟨rfl, ha, hb⟩ | ⟨rfl, ha, hb⟩ | ⟨rfl, ha, hb⟩ | rfl | ⟨rfl, ha, hb, hx⟩ | ⟨rfl, ha⟩ | ⟨rfl, ha⟩ | ⟨hop, ha, hb, hx⟩
    · refine za_tsw X 0 156 rfl (by decide) (by decide) (by decide) rfl (by decide) ?_
      iterate 4 refine za_step X rfl rfl rfl ?_
      refine za_iast X rfl rfl rfl (rg_in ha) ?_
      iterate 1 refine za_step X rfl rfl rfl ?_
      exact za_vret X rfl ⟨rfl, tr_ov h 6 (tr_reg (tr_pre (r, pl, la, dn, vi, de, ct, en, ou, ed)) a.toNatClampNeg b), rfl⟩ (Nat.le_refl _) (Nat.le_refl _)
    · refine za_tsw X 7 166 rfl (by decide) (by decide) (by decide) rfl (by decide) ?_
      iterate 6 refine za_step X rfl rfl rfl ?_
      refine za_iald X rfl rfl rfl (rg_in hb) ?_
      iterate 2 refine za_step X rfl rfl rfl ?_
      refine za_iast X rfl rfl rfl (rg_in ha) ?_
      iterate 1 refine za_step X rfl rfl rfl ?_
      exact za_vret X rfl ⟨rfl, tr_ov h 6 (tr_reg (tr_pre (r, pl, la, dn, vi, de, ct, en, ou, ed)) a.toNatClampNeg (r b.toNatClampNeg >>> (x &&& 31))), rfl⟩ (Nat.le_refl _) (Nat.le_refl _)
    · refine za_tsw X 8 184 rfl (by decide) (by decide) (by decide) rfl (by decide) ?_
      iterate 4 refine za_step X rfl rfl rfl ?_
      refine za_iald X rfl rfl rfl (rg_in ha) ?_
      iterate 3 refine za_step X rfl rfl rfl ?_
      refine za_iald X rfl rfl rfl (rg_in hb) ?_
      refine za_icge X 204 rfl (by decide) (fun q1 => ?_) (fun q1 => ?_)
      · have e1 : tr_ins (tr_pre (r, pl, la, dn, vi, de, ct, en, ou, ed)) 8 a b x = tr_goif (tr_pre (r, pl, la, dn, vi, de, ct, en, ou, ed)) false x := by
          show tr_goif (tr_pre (r, pl, la, dn, vi, de, ct, en, ou, ed)) (decide (r a.toNatClampNeg < r b.toNatClampNeg)) x = _
          rw [decide_eq_false (show ¬ r a.toNatClampNeg < r b.toNatClampNeg from Int32.not_lt.mpr q1)]
        rw [e1]
        iterate 2 refine za_step X rfl rfl rfl ?_
        refine za_callV X rfl cl_T_T_goIf cy_T_goIf cv_T_goIf (c_T_goIf l D _ n 6 (Or.inl rfl) (tr_pre (r, pl, la, dn, vi, de, ct, en, ou, ed)) ⟨rfl, rfl⟩ false x) rfl rfl rfl rfl (Nat.le_of_ble_eq_true rfl) (Nat.le_of_ble_eq_true rfl) (Nat.le_of_ble_eq_true rfl) (Nat.le_of_ble_eq_true rfl) (Nat.le_of_ble_eq_true rfl) (fun v h' n' hq => ?_)
        obtain ⟨rfl, rfl, rfl⟩ := hq
        refine za_look (h1 := h) (v1 := [(6, tr_c 6 (tr_goif (tr_pre (r, pl, la, dn, vi, de, ct, en, ou, ed)) false x)), (7, tr_g (tr_goif (tr_pre (r, pl, la, dn, vi, de, ct, en, ou, ed)) false x))]) (tr_back h 6 ((tr_pre (r, pl, la, dn, vi, de, ct, en, ou, ed))) (tr_goif (tr_pre (r, pl, la, dn, vi, de, ct, en, ou, ed)) false x)) ?_
        iterate 1 refine za_step X rfl rfl rfl ?_
        exact za_vret X rfl ⟨rfl, tr_ov h 6 (tr_goif (tr_pre (r, pl, la, dn, vi, de, ct, en, ou, ed)) false x), rfl⟩ (Nat.le_refl _) (Nat.le_refl _)
      · have e1 : tr_ins (tr_pre (r, pl, la, dn, vi, de, ct, en, ou, ed)) 8 a b x = tr_goif (tr_pre (r, pl, la, dn, vi, de, ct, en, ou, ed)) true x := by
          show tr_goif (tr_pre (r, pl, la, dn, vi, de, ct, en, ou, ed)) (decide (r a.toNatClampNeg < r b.toNatClampNeg)) x = _
          rw [decide_eq_true (show r a.toNatClampNeg < r b.toNatClampNeg from Int32.not_le.mp q1)]
        rw [e1]
        iterate 3 refine za_step X rfl rfl rfl ?_
        refine za_callV X rfl cl_T_T_goIf cy_T_goIf cv_T_goIf (c_T_goIf l D _ n 6 (Or.inl rfl) (tr_pre (r, pl, la, dn, vi, de, ct, en, ou, ed)) ⟨rfl, rfl⟩ true x) rfl rfl rfl rfl (Nat.le_of_ble_eq_true rfl) (Nat.le_of_ble_eq_true rfl) (Nat.le_of_ble_eq_true rfl) (Nat.le_of_ble_eq_true rfl) (Nat.le_of_ble_eq_true rfl) (fun v h' n' hq => ?_)
        obtain ⟨rfl, rfl, rfl⟩ := hq
        refine za_look (h1 := h) (v1 := [(6, tr_c 6 (tr_goif (tr_pre (r, pl, la, dn, vi, de, ct, en, ou, ed)) true x)), (7, tr_g (tr_goif (tr_pre (r, pl, la, dn, vi, de, ct, en, ou, ed)) true x))]) (tr_back h 6 ((tr_pre (r, pl, la, dn, vi, de, ct, en, ou, ed))) (tr_goif (tr_pre (r, pl, la, dn, vi, de, ct, en, ou, ed)) true x)) ?_
        iterate 1 refine za_step X rfl rfl rfl ?_
        exact za_vret X rfl ⟨rfl, tr_ov h 6 (tr_goif (tr_pre (r, pl, la, dn, vi, de, ct, en, ou, ed)) true x), rfl⟩ (Nat.le_refl _) (Nat.le_refl _)
    · refine za_tsw X 9 213 rfl (by decide) (by decide) (by decide) rfl (by decide) ?_
      iterate 4 refine za_step X rfl rfl rfl ?_
      refine za_iald X rfl rfl rfl (rg_in ha) ?_
      iterate 3 refine za_step X rfl rfl rfl ?_
      refine za_iald X rfl rfl rfl (rg_in hb) ?_
      refine za_icne X 233 rfl (by decide) (fun q1 => ?_) (fun q1 => ?_)
      · have e1 : tr_ins (tr_pre (r, pl, la, dn, vi, de, ct, en, ou, ed)) 9 a b x = tr_goif (tr_pre (r, pl, la, dn, vi, de, ct, en, ou, ed)) false x := by
          show tr_goif (tr_pre (r, pl, la, dn, vi, de, ct, en, ou, ed)) (decide (r a.toNatClampNeg = r b.toNatClampNeg)) x = _
          rw [decide_eq_false (show ¬ r a.toNatClampNeg = r b.toNatClampNeg from q1)]
        rw [e1]
        iterate 2 refine za_step X rfl rfl rfl ?_
        refine za_callV X rfl cl_T_T_goIf cy_T_goIf cv_T_goIf (c_T_goIf l D _ n 6 (Or.inl rfl) (tr_pre (r, pl, la, dn, vi, de, ct, en, ou, ed)) ⟨rfl, rfl⟩ false x) rfl rfl rfl rfl (Nat.le_of_ble_eq_true rfl) (Nat.le_of_ble_eq_true rfl) (Nat.le_of_ble_eq_true rfl) (Nat.le_of_ble_eq_true rfl) (Nat.le_of_ble_eq_true rfl) (fun v h' n' hq => ?_)
        obtain ⟨rfl, rfl, rfl⟩ := hq
        refine za_look (h1 := h) (v1 := [(6, tr_c 6 (tr_goif (tr_pre (r, pl, la, dn, vi, de, ct, en, ou, ed)) false x)), (7, tr_g (tr_goif (tr_pre (r, pl, la, dn, vi, de, ct, en, ou, ed)) false x))]) (tr_back h 6 ((tr_pre (r, pl, la, dn, vi, de, ct, en, ou, ed))) (tr_goif (tr_pre (r, pl, la, dn, vi, de, ct, en, ou, ed)) false x)) ?_
        iterate 1 refine za_step X rfl rfl rfl ?_
        exact za_vret X rfl ⟨rfl, tr_ov h 6 (tr_goif (tr_pre (r, pl, la, dn, vi, de, ct, en, ou, ed)) false x), rfl⟩ (Nat.le_refl _) (Nat.le_refl _)
      · have e1 : tr_ins (tr_pre (r, pl, la, dn, vi, de, ct, en, ou, ed)) 9 a b x = tr_goif (tr_pre (r, pl, la, dn, vi, de, ct, en, ou, ed)) true x := by
          show tr_goif (tr_pre (r, pl, la, dn, vi, de, ct, en, ou, ed)) (decide (r a.toNatClampNeg = r b.toNatClampNeg)) x = _
          rw [decide_eq_true (show r a.toNatClampNeg = r b.toNatClampNeg from q1)]
        rw [e1]
        iterate 3 refine za_step X rfl rfl rfl ?_
        refine za_callV X rfl cl_T_T_goIf cy_T_goIf cv_T_goIf (c_T_goIf l D _ n 6 (Or.inl rfl) (tr_pre (r, pl, la, dn, vi, de, ct, en, ou, ed)) ⟨rfl, rfl⟩ true x) rfl rfl rfl rfl (Nat.le_of_ble_eq_true rfl) (Nat.le_of_ble_eq_true rfl) (Nat.le_of_ble_eq_true rfl) (Nat.le_of_ble_eq_true rfl) (Nat.le_of_ble_eq_true rfl) (fun v h' n' hq => ?_)
        obtain ⟨rfl, rfl, rfl⟩ := hq
        refine za_look (h1 := h) (v1 := [(6, tr_c 6 (tr_goif (tr_pre (r, pl, la, dn, vi, de, ct, en, ou, ed)) true x)), (7, tr_g (tr_goif (tr_pre (r, pl, la, dn, vi, de, ct, en, ou, ed)) true x))]) (tr_back h 6 ((tr_pre (r, pl, la, dn, vi, de, ct, en, ou, ed))) (tr_goif (tr_pre (r, pl, la, dn, vi, de, ct, en, ou, ed)) true x)) ?_
        iterate 1 refine za_step X rfl rfl rfl ?_
        exact za_vret X rfl ⟨rfl, tr_ov h 6 (tr_goif (tr_pre (r, pl, la, dn, vi, de, ct, en, ou, ed)) true x), rfl⟩ (Nat.le_refl _) (Nat.le_refl _)
    · refine za_tsw X 10 242 rfl (by decide) (by decide) (by decide) rfl (by decide) ?_
      iterate 4 refine za_step X rfl rfl rfl ?_
      exact za_vret X rfl ⟨rfl, tr_ov h 6 (tr_go (tr_pre (r, pl, la, dn, vi, de, ct, en, ou, ed)) x), rfl⟩ (Nat.le_refl _) (Nat.le_refl _)
    · refine za_tsw X 11 251 rfl (by decide) (by decide) (by decide) rfl (by decide) ?_
      iterate 4 refine za_step X rfl rfl rfl ?_
      refine za_callV X rfl cl_T_T_divide cy_T_divide cv_T_divide (c_T_divide l D _ n 6 (Or.inl rfl) (tr_pre (r, pl, la, dn, vi, de, ct, en, ou, ed)) ⟨rfl, rfl⟩ a b x ha hb hx) rfl rfl rfl rfl (Nat.le_of_ble_eq_true rfl) (Nat.le_of_ble_eq_true rfl) (Nat.le_of_ble_eq_true rfl) (Nat.le_of_ble_eq_true rfl) (Nat.le_of_ble_eq_true rfl) (fun v h' n' hq => ?_)
      obtain ⟨rfl, rfl, rfl⟩ := hq
      refine za_look (h1 := h) (v1 := [(6, tr_c 6 (tr_div (tr_pre (r, pl, la, dn, vi, de, ct, en, ou, ed)) a b x)), (7, tr_g (tr_div (tr_pre (r, pl, la, dn, vi, de, ct, en, ou, ed)) a b x))]) (tr_back h 6 ((tr_pre (r, pl, la, dn, vi, de, ct, en, ou, ed))) (tr_div (tr_pre (r, pl, la, dn, vi, de, ct, en, ou, ed)) a b x)) ?_
      iterate 1 refine za_step X rfl rfl rfl ?_
      exact za_vret X rfl ⟨rfl, tr_ov h 6 (tr_div (tr_pre (r, pl, la, dn, vi, de, ct, en, ou, ed)) a b x), rfl⟩ (Nat.le_refl _) (Nat.le_refl _)
    · refine za_tsw X 12 262 rfl (by decide) (by decide) (by decide) rfl (by decide) ?_
      iterate 2 refine za_step X rfl rfl rfl ?_
      refine za_callV X rfl cl_T_T_claim cy_T_claim cv_T_claim (c_T_claim l D _ n 6 (Or.inl rfl) (tr_pre (r, pl, la, dn, vi, de, ct, en, ou, ed)) ⟨rfl, rfl⟩ a ha) rfl rfl rfl rfl (Nat.le_of_ble_eq_true rfl) (Nat.le_of_ble_eq_true rfl) (Nat.le_of_ble_eq_true rfl) (Nat.le_of_ble_eq_true rfl) (Nat.le_of_ble_eq_true rfl) (fun v h' n' hq => ?_)
      obtain ⟨rfl, rfl, rfl⟩ := hq
      refine za_look (h1 := h) (v1 := [(6, tr_c 6 (tr_clm (tr_pre (r, pl, la, dn, vi, de, ct, en, ou, ed)) a)), (7, tr_g (tr_clm (tr_pre (r, pl, la, dn, vi, de, ct, en, ou, ed)) a))]) (tr_back h 6 ((tr_pre (r, pl, la, dn, vi, de, ct, en, ou, ed))) (tr_clm (tr_pre (r, pl, la, dn, vi, de, ct, en, ou, ed)) a)) ?_
      iterate 1 refine za_step X rfl rfl rfl ?_
      exact za_vret X rfl ⟨rfl, tr_ov h 6 (tr_clm (tr_pre (r, pl, la, dn, vi, de, ct, en, ou, ed)) a), rfl⟩ (Nat.le_refl _) (Nat.le_refl _)
    · refine za_tsw X 13 270 rfl (by decide) (by decide) (by decide) rfl (by decide) ?_
      iterate 5 refine za_step X rfl rfl rfl ?_
      refine za_iald X rfl rfl rfl (rg_in ha) ?_
      refine za_callV X rfl cl_T_T_finish cy_T_finish cv_T_finish (c_T_finish l D _ n 6 (Or.inl rfl) (tr_pre (r, pl, la, dn, vi, de, ct, en, ou, ed)) ⟨rfl, rfl⟩ 0 (r a.toNatClampNeg)) rfl rfl rfl rfl (Nat.le_of_ble_eq_true rfl) (Nat.le_of_ble_eq_true rfl) (Nat.le_of_ble_eq_true rfl) (Nat.le_of_ble_eq_true rfl) (Nat.le_of_ble_eq_true rfl) (fun v h' n' hq => ?_)
      obtain ⟨rfl, rfl, rfl⟩ := hq
      refine za_look (h1 := h) (v1 := [(6, tr_c 6 (tr_fin (tr_pre (r, pl, la, dn, vi, de, ct, en, ou, ed)) 0 (r a.toNatClampNeg))), (7, tr_g (tr_fin (tr_pre (r, pl, la, dn, vi, de, ct, en, ou, ed)) 0 (r a.toNatClampNeg)))]) (tr_back h 6 ((tr_pre (r, pl, la, dn, vi, de, ct, en, ou, ed))) (tr_fin (tr_pre (r, pl, la, dn, vi, de, ct, en, ou, ed)) 0 (r a.toNatClampNeg))) ?_
      iterate 1 refine za_step X rfl rfl rfl ?_
      exact za_vret X rfl ⟨rfl, tr_ov h 6 (tr_fin (tr_pre (r, pl, la, dn, vi, de, ct, en, ou, ed)) 0 (r a.toNatClampNeg)), rfl⟩ (Nat.le_refl _) (Nat.le_refl _)
    · have e1 : tr_ins (tr_pre (r, pl, la, dn, vi, de, ct, en, ou, ed)) op a b x = tr_reg (tr_pre (r, pl, la, dn, vi, de, ct, en, ou, ed)) a.toNatClampNeg (tr_com op (r b.toNatClampNeg) (r x.toNatClampNeg)) := by
        rcases hop with rfl | rfl | rfl | rfl | rfl | rfl <;> rfl
      rw [e1]
      have go284 : za_W p l e (za_rm 3 0 0) s m args below meth c D 6 (MQ below (za_Q D (fun v h' n' => v = none ∧ h' = tr_put h 6 (tr_reg (tr_pre (r, pl, la, dn, vi, de, ct, en, ou, ed)) a.toNatClampNeg (tr_com op (r b.toNatClampNeg) (r x.toNatClampNeg))) ∧ n = n')) args s 0 0 (fun q : Nat => D.2.2 ≤ q)) h n 0 0 284 [(0, vR 6), (1, vR 1), (2, vI a), (3, vI b), (4, vI x), (5, vI op)] [] [(6, tr_c 6 (tr_pre (r, pl, la, dn, vi, de, ct, en, ou, ed))), (7, tr_g (tr_pre (r, pl, la, dn, vi, de, ct, en, ou, ed)))] := by
        iterate 7 refine za_step X rfl rfl rfl ?_
        refine za_iald X rfl rfl rfl (rg_in hb) ?_
        iterate 3 refine za_step X rfl rfl rfl ?_
        refine za_iald X rfl rfl rfl (rg_in hx) ?_
        refine za_callS X rfl cl_T_T_combine cy_T_combine cs_T_combine (c_T_combine l D _ n op (r b.toNatClampNeg) (r x.toNatClampNeg) hop) rfl rfl (Nat.le_of_ble_eq_true rfl) (Nat.le_of_ble_eq_true rfl) (Nat.le_of_ble_eq_true rfl) (Nat.le_of_ble_eq_true rfl) (Nat.le_of_ble_eq_true rfl) (fun v h' n' hq => ?_)
        obtain ⟨rfl, rfl, rfl⟩ := hq
        refine za_look (h1 := h) (v1 := [(6, tr_c 6 (tr_pre (r, pl, la, dn, vi, de, ct, en, ou, ed))), (7, tr_g (tr_pre (r, pl, la, dn, vi, de, ct, en, ou, ed)))]) rfl ?_
        refine za_iast X rfl rfl rfl (rg_in ha) ?_
        exact za_vret X rfl ⟨rfl, tr_ov h 6 (tr_reg (tr_pre (r, pl, la, dn, vi, de, ct, en, ou, ed)) a.toNatClampNeg (tr_com op (r b.toNatClampNeg) (r x.toNatClampNeg))), rfl⟩ (Nat.le_refl _) (Nat.le_refl _)
      rcases hop with rfl | rfl | rfl | rfl | rfl | rfl
      · refine za_tsw X 1 284 rfl (by decide) (by decide) (by decide) rfl (by decide) ?_
        exact za_loc [(0, vR 6), (1, vR 1), (2, vI a), (3, vI b), (4, vI x), (5, vI 1)] rfl go284
      · refine za_tsw X 2 284 rfl (by decide) (by decide) (by decide) rfl (by decide) ?_
        exact za_loc [(0, vR 6), (1, vR 1), (2, vI a), (3, vI b), (4, vI x), (5, vI 2)] rfl go284
      · refine za_tsw X 3 284 rfl (by decide) (by decide) (by decide) rfl (by decide) ?_
        exact za_loc [(0, vR 6), (1, vR 1), (2, vI a), (3, vI b), (4, vI x), (5, vI 3)] rfl go284
      · refine za_tsw X 4 284 rfl (by decide) (by decide) (by decide) rfl (by decide) ?_
        exact za_loc [(0, vR 6), (1, vR 1), (2, vI a), (3, vI b), (4, vI x), (5, vI 4)] rfl go284
      · refine za_tsw X 5 284 rfl (by decide) (by decide) (by decide) rfl (by decide) ?_
        exact za_loc [(0, vR 6), (1, vR 1), (2, vI a), (3, vI b), (4, vI x), (5, vI 5)] rfl go284
      · refine za_tsw X 6 284 rfl (by decide) (by decide) (by decide) rfl (by decide) ?_
        exact za_loc [(0, vR 6), (1, vR 1), (2, vI a), (3, vI b), (4, vI x), (5, vI 6)] rfl go284
  · refine za_enter cd_T_step fl_T (by decide) cdok_T_step flok_T (Nat.le_of_ble_eq_true rfl) ?_
    intro p e s m args below meth c X hnm
    refine za_view [(8, tr_c 8 (r, pl, la, dn, vi, de, ct, en, ou, ed)), (9, tr_g (r, pl, la, dn, vi, de, ct, en, ou, ed)), (1, pr_c k), (2, pr_g oo), (3, pr_g aa), (4, pr_g bb), (5, pr_g cc0)] (by simp [hT1, hT2, hP1, hP2, hP3, hP4, hP5]) ?_
    iterate 29 refine za_step X rfl rfl rfl ?_
    refine za_iald X rfl rfl rfl hin ?_
    iterate 5 refine za_step X rfl rfl rfl ?_
    refine za_iald X rfl rfl rfl hin ?_
    iterate 5 refine za_step X rfl rfl rfl ?_
    refine za_iald X rfl rfl rfl hin ?_
    iterate 5 refine za_step X rfl rfl rfl ?_
    refine za_iald X rfl rfl rfl hin ?_
    iterate 1 refine za_step X rfl rfl rfl ?_
    refine za_look (h1 := h) (v1 := [(8, tr_c 8 (tr_pre (r, pl, la, dn, vi, de, ct, en, ou, ed))), (9, tr_g (tr_pre (r, pl, la, dn, vi, de, ct, en, ou, ed)))]) (za_ov_app [(8, tr_c 8 (tr_pre (r, pl, la, dn, vi, de, ct, en, ou, ed))), (9, tr_g (tr_pre (r, pl, la, dn, vi, de, ct, en, ou, ed)))] (w := [(1, pr_c k), (2, pr_g oo), (3, pr_g aa), (4, pr_g bb), (5, pr_g cc0)]) (by simp [hP1, hP2, hP3, hP4, hP5])) ?_
    have hal := hok.2 _ hidx
    have key0 : tr_stp (oo, aa, bb, cc0, k) (r, pl, la, dn, vi, de, ct, en, ou, ed) = tr_ins (tr_pre (r, pl, la, dn, vi, de, ct, en, ou, ed)) (oo pl.toNatClampNeg) (aa pl.toNatClampNeg) (bb pl.toNatClampNeg) (cc0 pl.toNatClampNeg) := rfl
    generalize oo pl.toNatClampNeg = op at hal key0 ⊢
    generalize aa pl.toNatClampNeg = a at hal key0 ⊢
    generalize bb pl.toNatClampNeg = b at hal key0 ⊢
    generalize cc0 pl.toNatClampNeg = x at hal key0 ⊢
    rw [key0]
    iterate 1 refine za_step X rfl rfl rfl ?_
    rcases al_use hal with ⟨rfl, ha⟩ | ⟨rfl, ha, hb⟩ | ⟨rfl, ha, hb⟩ | ⟨rfl, ha, hb⟩ | rfl | ⟨rfl, ha, hb, hx⟩ | ⟨rfl, ha⟩ | ⟨rfl, ha⟩ | ⟨hop, ha, hb, hx⟩
    · refine za_tsw X 0 156 rfl (by decide) (by decide) (by decide) rfl (by decide) ?_
      iterate 4 refine za_step X rfl rfl rfl ?_
      refine za_iast X rfl rfl rfl (rg_in ha) ?_
      iterate 1 refine za_step X rfl rfl rfl ?_
      exact za_vret X rfl ⟨rfl, tr_ov h 8 (tr_reg (tr_pre (r, pl, la, dn, vi, de, ct, en, ou, ed)) a.toNatClampNeg b), rfl⟩ (Nat.le_refl _) (Nat.le_refl _)
    · refine za_tsw X 7 166 rfl (by decide) (by decide) (by decide) rfl (by decide) ?_
      iterate 6 refine za_step X rfl rfl rfl ?_
      refine za_iald X rfl rfl rfl (rg_in hb) ?_
      iterate 2 refine za_step X rfl rfl rfl ?_
      refine za_iast X rfl rfl rfl (rg_in ha) ?_
      iterate 1 refine za_step X rfl rfl rfl ?_
      exact za_vret X rfl ⟨rfl, tr_ov h 8 (tr_reg (tr_pre (r, pl, la, dn, vi, de, ct, en, ou, ed)) a.toNatClampNeg (r b.toNatClampNeg >>> (x &&& 31))), rfl⟩ (Nat.le_refl _) (Nat.le_refl _)
    · refine za_tsw X 8 184 rfl (by decide) (by decide) (by decide) rfl (by decide) ?_
      iterate 4 refine za_step X rfl rfl rfl ?_
      refine za_iald X rfl rfl rfl (rg_in ha) ?_
      iterate 3 refine za_step X rfl rfl rfl ?_
      refine za_iald X rfl rfl rfl (rg_in hb) ?_
      refine za_icge X 204 rfl (by decide) (fun q1 => ?_) (fun q1 => ?_)
      · have e1 : tr_ins (tr_pre (r, pl, la, dn, vi, de, ct, en, ou, ed)) 8 a b x = tr_goif (tr_pre (r, pl, la, dn, vi, de, ct, en, ou, ed)) false x := by
          show tr_goif (tr_pre (r, pl, la, dn, vi, de, ct, en, ou, ed)) (decide (r a.toNatClampNeg < r b.toNatClampNeg)) x = _
          rw [decide_eq_false (show ¬ r a.toNatClampNeg < r b.toNatClampNeg from Int32.not_lt.mpr q1)]
        rw [e1]
        iterate 2 refine za_step X rfl rfl rfl ?_
        refine za_callV X rfl cl_T_T_goIf cy_T_goIf cv_T_goIf (c_T_goIf l D _ n 8 (Or.inr rfl) (tr_pre (r, pl, la, dn, vi, de, ct, en, ou, ed)) ⟨rfl, rfl⟩ false x) rfl rfl rfl rfl (Nat.le_of_ble_eq_true rfl) (Nat.le_of_ble_eq_true rfl) (Nat.le_of_ble_eq_true rfl) (Nat.le_of_ble_eq_true rfl) (Nat.le_of_ble_eq_true rfl) (fun v h' n' hq => ?_)
        obtain ⟨rfl, rfl, rfl⟩ := hq
        refine za_look (h1 := h) (v1 := [(8, tr_c 8 (tr_goif (tr_pre (r, pl, la, dn, vi, de, ct, en, ou, ed)) false x)), (9, tr_g (tr_goif (tr_pre (r, pl, la, dn, vi, de, ct, en, ou, ed)) false x))]) (tr_back h 8 ((tr_pre (r, pl, la, dn, vi, de, ct, en, ou, ed))) (tr_goif (tr_pre (r, pl, la, dn, vi, de, ct, en, ou, ed)) false x)) ?_
        iterate 1 refine za_step X rfl rfl rfl ?_
        exact za_vret X rfl ⟨rfl, tr_ov h 8 (tr_goif (tr_pre (r, pl, la, dn, vi, de, ct, en, ou, ed)) false x), rfl⟩ (Nat.le_refl _) (Nat.le_refl _)
      · have e1 : tr_ins (tr_pre (r, pl, la, dn, vi, de, ct, en, ou, ed)) 8 a b x = tr_goif (tr_pre (r, pl, la, dn, vi, de, ct, en, ou, ed)) true x := by
          show tr_goif (tr_pre (r, pl, la, dn, vi, de, ct, en, ou, ed)) (decide (r a.toNatClampNeg < r b.toNatClampNeg)) x = _
          rw [decide_eq_true (show r a.toNatClampNeg < r b.toNatClampNeg from Int32.not_le.mp q1)]
        rw [e1]
        iterate 3 refine za_step X rfl rfl rfl ?_
        refine za_callV X rfl cl_T_T_goIf cy_T_goIf cv_T_goIf (c_T_goIf l D _ n 8 (Or.inr rfl) (tr_pre (r, pl, la, dn, vi, de, ct, en, ou, ed)) ⟨rfl, rfl⟩ true x) rfl rfl rfl rfl (Nat.le_of_ble_eq_true rfl) (Nat.le_of_ble_eq_true rfl) (Nat.le_of_ble_eq_true rfl) (Nat.le_of_ble_eq_true rfl) (Nat.le_of_ble_eq_true rfl) (fun v h' n' hq => ?_)
        obtain ⟨rfl, rfl, rfl⟩ := hq
        refine za_look (h1 := h) (v1 := [(8, tr_c 8 (tr_goif (tr_pre (r, pl, la, dn, vi, de, ct, en, ou, ed)) true x)), (9, tr_g (tr_goif (tr_pre (r, pl, la, dn, vi, de, ct, en, ou, ed)) true x))]) (tr_back h 8 ((tr_pre (r, pl, la, dn, vi, de, ct, en, ou, ed))) (tr_goif (tr_pre (r, pl, la, dn, vi, de, ct, en, ou, ed)) true x)) ?_
        iterate 1 refine za_step X rfl rfl rfl ?_
        exact za_vret X rfl ⟨rfl, tr_ov h 8 (tr_goif (tr_pre (r, pl, la, dn, vi, de, ct, en, ou, ed)) true x), rfl⟩ (Nat.le_refl _) (Nat.le_refl _)
    · refine za_tsw X 9 213 rfl (by decide) (by decide) (by decide) rfl (by decide) ?_
      iterate 4 refine za_step X rfl rfl rfl ?_
      refine za_iald X rfl rfl rfl (rg_in ha) ?_
      iterate 3 refine za_step X rfl rfl rfl ?_
      refine za_iald X rfl rfl rfl (rg_in hb) ?_
      refine za_icne X 233 rfl (by decide) (fun q1 => ?_) (fun q1 => ?_)
      · have e1 : tr_ins (tr_pre (r, pl, la, dn, vi, de, ct, en, ou, ed)) 9 a b x = tr_goif (tr_pre (r, pl, la, dn, vi, de, ct, en, ou, ed)) false x := by
          show tr_goif (tr_pre (r, pl, la, dn, vi, de, ct, en, ou, ed)) (decide (r a.toNatClampNeg = r b.toNatClampNeg)) x = _
          rw [decide_eq_false (show ¬ r a.toNatClampNeg = r b.toNatClampNeg from q1)]
        rw [e1]
        iterate 2 refine za_step X rfl rfl rfl ?_
        refine za_callV X rfl cl_T_T_goIf cy_T_goIf cv_T_goIf (c_T_goIf l D _ n 8 (Or.inr rfl) (tr_pre (r, pl, la, dn, vi, de, ct, en, ou, ed)) ⟨rfl, rfl⟩ false x) rfl rfl rfl rfl (Nat.le_of_ble_eq_true rfl) (Nat.le_of_ble_eq_true rfl) (Nat.le_of_ble_eq_true rfl) (Nat.le_of_ble_eq_true rfl) (Nat.le_of_ble_eq_true rfl) (fun v h' n' hq => ?_)
        obtain ⟨rfl, rfl, rfl⟩ := hq
        refine za_look (h1 := h) (v1 := [(8, tr_c 8 (tr_goif (tr_pre (r, pl, la, dn, vi, de, ct, en, ou, ed)) false x)), (9, tr_g (tr_goif (tr_pre (r, pl, la, dn, vi, de, ct, en, ou, ed)) false x))]) (tr_back h 8 ((tr_pre (r, pl, la, dn, vi, de, ct, en, ou, ed))) (tr_goif (tr_pre (r, pl, la, dn, vi, de, ct, en, ou, ed)) false x)) ?_
        iterate 1 refine za_step X rfl rfl rfl ?_
        exact za_vret X rfl ⟨rfl, tr_ov h 8 (tr_goif (tr_pre (r, pl, la, dn, vi, de, ct, en, ou, ed)) false x), rfl⟩ (Nat.le_refl _) (Nat.le_refl _)
      · have e1 : tr_ins (tr_pre (r, pl, la, dn, vi, de, ct, en, ou, ed)) 9 a b x = tr_goif (tr_pre (r, pl, la, dn, vi, de, ct, en, ou, ed)) true x := by
          show tr_goif (tr_pre (r, pl, la, dn, vi, de, ct, en, ou, ed)) (decide (r a.toNatClampNeg = r b.toNatClampNeg)) x = _
          rw [decide_eq_true (show r a.toNatClampNeg = r b.toNatClampNeg from q1)]
        rw [e1]
        iterate 3 refine za_step X rfl rfl rfl ?_
        refine za_callV X rfl cl_T_T_goIf cy_T_goIf cv_T_goIf (c_T_goIf l D _ n 8 (Or.inr rfl) (tr_pre (r, pl, la, dn, vi, de, ct, en, ou, ed)) ⟨rfl, rfl⟩ true x) rfl rfl rfl rfl (Nat.le_of_ble_eq_true rfl) (Nat.le_of_ble_eq_true rfl) (Nat.le_of_ble_eq_true rfl) (Nat.le_of_ble_eq_true rfl) (Nat.le_of_ble_eq_true rfl) (fun v h' n' hq => ?_)
        obtain ⟨rfl, rfl, rfl⟩ := hq
        refine za_look (h1 := h) (v1 := [(8, tr_c 8 (tr_goif (tr_pre (r, pl, la, dn, vi, de, ct, en, ou, ed)) true x)), (9, tr_g (tr_goif (tr_pre (r, pl, la, dn, vi, de, ct, en, ou, ed)) true x))]) (tr_back h 8 ((tr_pre (r, pl, la, dn, vi, de, ct, en, ou, ed))) (tr_goif (tr_pre (r, pl, la, dn, vi, de, ct, en, ou, ed)) true x)) ?_
        iterate 1 refine za_step X rfl rfl rfl ?_
        exact za_vret X rfl ⟨rfl, tr_ov h 8 (tr_goif (tr_pre (r, pl, la, dn, vi, de, ct, en, ou, ed)) true x), rfl⟩ (Nat.le_refl _) (Nat.le_refl _)
    · refine za_tsw X 10 242 rfl (by decide) (by decide) (by decide) rfl (by decide) ?_
      iterate 4 refine za_step X rfl rfl rfl ?_
      exact za_vret X rfl ⟨rfl, tr_ov h 8 (tr_go (tr_pre (r, pl, la, dn, vi, de, ct, en, ou, ed)) x), rfl⟩ (Nat.le_refl _) (Nat.le_refl _)
    · refine za_tsw X 11 251 rfl (by decide) (by decide) (by decide) rfl (by decide) ?_
      iterate 4 refine za_step X rfl rfl rfl ?_
      refine za_callV X rfl cl_T_T_divide cy_T_divide cv_T_divide (c_T_divide l D _ n 8 (Or.inr rfl) (tr_pre (r, pl, la, dn, vi, de, ct, en, ou, ed)) ⟨rfl, rfl⟩ a b x ha hb hx) rfl rfl rfl rfl (Nat.le_of_ble_eq_true rfl) (Nat.le_of_ble_eq_true rfl) (Nat.le_of_ble_eq_true rfl) (Nat.le_of_ble_eq_true rfl) (Nat.le_of_ble_eq_true rfl) (fun v h' n' hq => ?_)
      obtain ⟨rfl, rfl, rfl⟩ := hq
      refine za_look (h1 := h) (v1 := [(8, tr_c 8 (tr_div (tr_pre (r, pl, la, dn, vi, de, ct, en, ou, ed)) a b x)), (9, tr_g (tr_div (tr_pre (r, pl, la, dn, vi, de, ct, en, ou, ed)) a b x))]) (tr_back h 8 ((tr_pre (r, pl, la, dn, vi, de, ct, en, ou, ed))) (tr_div (tr_pre (r, pl, la, dn, vi, de, ct, en, ou, ed)) a b x)) ?_
      iterate 1 refine za_step X rfl rfl rfl ?_
      exact za_vret X rfl ⟨rfl, tr_ov h 8 (tr_div (tr_pre (r, pl, la, dn, vi, de, ct, en, ou, ed)) a b x), rfl⟩ (Nat.le_refl _) (Nat.le_refl _)
    · refine za_tsw X 12 262 rfl (by decide) (by decide) (by decide) rfl (by decide) ?_
      iterate 2 refine za_step X rfl rfl rfl ?_
      refine za_callV X rfl cl_T_T_claim cy_T_claim cv_T_claim (c_T_claim l D _ n 8 (Or.inr rfl) (tr_pre (r, pl, la, dn, vi, de, ct, en, ou, ed)) ⟨rfl, rfl⟩ a ha) rfl rfl rfl rfl (Nat.le_of_ble_eq_true rfl) (Nat.le_of_ble_eq_true rfl) (Nat.le_of_ble_eq_true rfl) (Nat.le_of_ble_eq_true rfl) (Nat.le_of_ble_eq_true rfl) (fun v h' n' hq => ?_)
      obtain ⟨rfl, rfl, rfl⟩ := hq
      refine za_look (h1 := h) (v1 := [(8, tr_c 8 (tr_clm (tr_pre (r, pl, la, dn, vi, de, ct, en, ou, ed)) a)), (9, tr_g (tr_clm (tr_pre (r, pl, la, dn, vi, de, ct, en, ou, ed)) a))]) (tr_back h 8 ((tr_pre (r, pl, la, dn, vi, de, ct, en, ou, ed))) (tr_clm (tr_pre (r, pl, la, dn, vi, de, ct, en, ou, ed)) a)) ?_
      iterate 1 refine za_step X rfl rfl rfl ?_
      exact za_vret X rfl ⟨rfl, tr_ov h 8 (tr_clm (tr_pre (r, pl, la, dn, vi, de, ct, en, ou, ed)) a), rfl⟩ (Nat.le_refl _) (Nat.le_refl _)
    · refine za_tsw X 13 270 rfl (by decide) (by decide) (by decide) rfl (by decide) ?_
      iterate 5 refine za_step X rfl rfl rfl ?_
      refine za_iald X rfl rfl rfl (rg_in ha) ?_
      refine za_callV X rfl cl_T_T_finish cy_T_finish cv_T_finish (c_T_finish l D _ n 8 (Or.inr rfl) (tr_pre (r, pl, la, dn, vi, de, ct, en, ou, ed)) ⟨rfl, rfl⟩ 0 (r a.toNatClampNeg)) rfl rfl rfl rfl (Nat.le_of_ble_eq_true rfl) (Nat.le_of_ble_eq_true rfl) (Nat.le_of_ble_eq_true rfl) (Nat.le_of_ble_eq_true rfl) (Nat.le_of_ble_eq_true rfl) (fun v h' n' hq => ?_)
      obtain ⟨rfl, rfl, rfl⟩ := hq
      refine za_look (h1 := h) (v1 := [(8, tr_c 8 (tr_fin (tr_pre (r, pl, la, dn, vi, de, ct, en, ou, ed)) 0 (r a.toNatClampNeg))), (9, tr_g (tr_fin (tr_pre (r, pl, la, dn, vi, de, ct, en, ou, ed)) 0 (r a.toNatClampNeg)))]) (tr_back h 8 ((tr_pre (r, pl, la, dn, vi, de, ct, en, ou, ed))) (tr_fin (tr_pre (r, pl, la, dn, vi, de, ct, en, ou, ed)) 0 (r a.toNatClampNeg))) ?_
      iterate 1 refine za_step X rfl rfl rfl ?_
      exact za_vret X rfl ⟨rfl, tr_ov h 8 (tr_fin (tr_pre (r, pl, la, dn, vi, de, ct, en, ou, ed)) 0 (r a.toNatClampNeg)), rfl⟩ (Nat.le_refl _) (Nat.le_refl _)
    · have e1 : tr_ins (tr_pre (r, pl, la, dn, vi, de, ct, en, ou, ed)) op a b x = tr_reg (tr_pre (r, pl, la, dn, vi, de, ct, en, ou, ed)) a.toNatClampNeg (tr_com op (r b.toNatClampNeg) (r x.toNatClampNeg)) := by
        rcases hop with rfl | rfl | rfl | rfl | rfl | rfl <;> rfl
      rw [e1]
      have go284 : za_W p l e (za_rm 3 0 0) s m args below meth c D 6 (MQ below (za_Q D (fun v h' n' => v = none ∧ h' = tr_put h 8 (tr_reg (tr_pre (r, pl, la, dn, vi, de, ct, en, ou, ed)) a.toNatClampNeg (tr_com op (r b.toNatClampNeg) (r x.toNatClampNeg))) ∧ n = n')) args s 0 0 (fun q : Nat => D.2.2 ≤ q)) h n 0 0 284 [(0, vR 8), (1, vR 1), (2, vI a), (3, vI b), (4, vI x), (5, vI op)] [] [(8, tr_c 8 (tr_pre (r, pl, la, dn, vi, de, ct, en, ou, ed))), (9, tr_g (tr_pre (r, pl, la, dn, vi, de, ct, en, ou, ed)))] := by
        iterate 7 refine za_step X rfl rfl rfl ?_
        refine za_iald X rfl rfl rfl (rg_in hb) ?_
        iterate 3 refine za_step X rfl rfl rfl ?_
        refine za_iald X rfl rfl rfl (rg_in hx) ?_
        refine za_callS X rfl cl_T_T_combine cy_T_combine cs_T_combine (c_T_combine l D _ n op (r b.toNatClampNeg) (r x.toNatClampNeg) hop) rfl rfl (Nat.le_of_ble_eq_true rfl) (Nat.le_of_ble_eq_true rfl) (Nat.le_of_ble_eq_true rfl) (Nat.le_of_ble_eq_true rfl) (Nat.le_of_ble_eq_true rfl) (fun v h' n' hq => ?_)
        obtain ⟨rfl, rfl, rfl⟩ := hq
        refine za_look (h1 := h) (v1 := [(8, tr_c 8 (tr_pre (r, pl, la, dn, vi, de, ct, en, ou, ed))), (9, tr_g (tr_pre (r, pl, la, dn, vi, de, ct, en, ou, ed)))]) rfl ?_
        refine za_iast X rfl rfl rfl (rg_in ha) ?_
        exact za_vret X rfl ⟨rfl, tr_ov h 8 (tr_reg (tr_pre (r, pl, la, dn, vi, de, ct, en, ou, ed)) a.toNatClampNeg (tr_com op (r b.toNatClampNeg) (r x.toNatClampNeg))), rfl⟩ (Nat.le_refl _) (Nat.le_refl _)
      rcases hop with rfl | rfl | rfl | rfl | rfl | rfl
      · refine za_tsw X 1 284 rfl (by decide) (by decide) (by decide) rfl (by decide) ?_
        exact za_loc [(0, vR 8), (1, vR 1), (2, vI a), (3, vI b), (4, vI x), (5, vI 1)] rfl go284
      · refine za_tsw X 2 284 rfl (by decide) (by decide) (by decide) rfl (by decide) ?_
        exact za_loc [(0, vR 8), (1, vR 1), (2, vI a), (3, vI b), (4, vI x), (5, vI 2)] rfl go284
      · refine za_tsw X 3 284 rfl (by decide) (by decide) (by decide) rfl (by decide) ?_
        exact za_loc [(0, vR 8), (1, vR 1), (2, vI a), (3, vI b), (4, vI x), (5, vI 3)] rfl go284
      · refine za_tsw X 4 284 rfl (by decide) (by decide) (by decide) rfl (by decide) ?_
        exact za_loc [(0, vR 8), (1, vR 1), (2, vI a), (3, vI b), (4, vI x), (5, vI 4)] rfl go284
      · refine za_tsw X 5 284 rfl (by decide) (by decide) (by decide) rfl (by decide) ?_
        exact za_loc [(0, vR 8), (1, vR 1), (2, vI a), (3, vI b), (4, vI x), (5, vI 5)] rfl go284
      · refine za_tsw X 6 284 rfl (by decide) (by decide) (by decide) rfl (by decide) ?_
        exact za_loc [(0, vR 8), (1, vR 1), (2, vI a), (3, vI b), (4, vI x), (5, vI 6)] rfl go284
end
section
set_option maxHeartbeats 4000000 in
set_option maxRecDepth 100000 in
theorem c_T_finishUnasked (l : Launch) (D : za_D) (h : za_H) (n : Nat) (t : Nat) (ht : t = 6 ∨ t = 8) (T : tr_T) (hT : tr_at h t T) (P : pr_T) (hP : pr_at h P) : za_M l D Y_T_finishUnasked 1 0 0 [vR t, vR 1] h n (fun v h' n' => v = none ∧ h' = tr_put h t (if pr_has P (tr_pl T) = true then tr_fin T 3 (tr_la T) else tr_fin T 0 (T.1 0)) ∧ n = n') := by
  obtain ⟨oo, aa, bb, cc0, k⟩ := P
  obtain ⟨hP1, hP2, hP3, hP4, hP5⟩ := hP
  obtain ⟨r, pl, la, dn, vi, de, ct, en, ou, ed⟩ := T
  obtain ⟨hT1, hT2⟩ := hT
  rcases ht with rfl | rfl
  · refine za_enter cd_T_finishUnasked fl_T (by decide) cdok_T_finishUnasked flok_T (Nat.le_of_ble_eq_true rfl) ?_
    intro p e s m args below meth c X hnm
    refine za_view [(6, tr_c 6 (r, pl, la, dn, vi, de, ct, en, ou, ed)), (7, tr_g (r, pl, la, dn, vi, de, ct, en, ou, ed))] (by simp [hT1, hT2]) ?_
    iterate 3 refine za_step X rfl rfl rfl ?_
    refine za_callV (b := 1) (d := 0) (mc := 0) (ms := 0) (as := [_]) (rest := []) X rfl cl_T_P_has cy_P_has cv_P_has (c_P_has l D (za_ov h [(6, tr_c 6 (r, pl, la, dn, vi, de, ct, en, ou, ed)), (7, tr_g (r, pl, la, dn, vi, de, ct, en, ou, ed))]) n (oo, aa, bb, cc0, k) ⟨hP1, hP2, hP3, hP4, hP5⟩ pl) rfl rfl hP1 rfl (Nat.le_of_ble_eq_true rfl) (Nat.le_of_ble_eq_true rfl) (Nat.le_of_ble_eq_true rfl) (Nat.le_of_ble_eq_true rfl) (Nat.le_of_ble_eq_true rfl) (fun v h' n' hq => ?_)
    obtain ⟨rfl, rfl, rfl⟩ := hq
    refine za_look (h1 := h) (v1 := [(6, tr_c 6 (r, pl, la, dn, vi, de, ct, en, ou, ed)), (7, tr_g (r, pl, la, dn, vi, de, ct, en, ou, ed))]) rfl ?_
    refine za_ifeq X 23 rfl (by decide) (fun q1 => ?_) (fun q1 => ?_)
    · have e1 : (if pr_has (oo, aa, bb, cc0, k) pl = true then tr_fin (r, pl, la, dn, vi, de, ct, en, ou, ed) 3 la else tr_fin (r, pl, la, dn, vi, de, ct, en, ou, ed) 0 (r 0)) = tr_fin (r, pl, la, dn, vi, de, ct, en, ou, ed) 0 (r 0) := if_neg (by rw [bI_0 q1]; decide)
      iterate 5 refine za_step X rfl rfl rfl ?_
      refine za_iald X rfl rfl rfl (by unfold vp_in; decide) ?_
      refine za_callV X rfl cl_T_T_finish cy_T_finish cv_T_finish (c_T_finish l D _ n 6 (Or.inl rfl) (r, pl, la, dn, vi, de, ct, en, ou, ed) ⟨rfl, rfl⟩ 0 (r 0)) rfl rfl rfl rfl (Nat.le_of_ble_eq_true rfl) (Nat.le_of_ble_eq_true rfl) (Nat.le_of_ble_eq_true rfl) (Nat.le_of_ble_eq_true rfl) (Nat.le_of_ble_eq_true rfl) (fun v h' n' hq => ?_)
      obtain ⟨rfl, rfl, rfl⟩ := hq
      refine za_look (h1 := h) (v1 := [(6, tr_c 6 (tr_fin (r, pl, la, dn, vi, de, ct, en, ou, ed) 0 (r 0))), (7, tr_g (tr_fin (r, pl, la, dn, vi, de, ct, en, ou, ed) 0 (r 0)))]) (tr_back h 6 ((r, pl, la, dn, vi, de, ct, en, ou, ed)) (tr_fin (r, pl, la, dn, vi, de, ct, en, ou, ed) 0 (r 0))) ?_
      exact za_vret X rfl ⟨rfl, (tr_ov h 6 (tr_fin (r, pl, la, dn, vi, de, ct, en, ou, ed) 0 (r 0))).trans (congrArg (tr_put h 6) e1.symm), rfl⟩ (Nat.le_refl _) (Nat.le_refl _)
    · have e1 : (if pr_has (oo, aa, bb, cc0, k) pl = true then tr_fin (r, pl, la, dn, vi, de, ct, en, ou, ed) 3 la else tr_fin (r, pl, la, dn, vi, de, ct, en, ou, ed) 0 (r 0)) = tr_fin (r, pl, la, dn, vi, de, ct, en, ou, ed) 3 la := if_pos (bI_n0 q1)
      iterate 4 refine za_step X rfl rfl rfl ?_
      refine za_callV X rfl cl_T_T_finish cy_T_finish cv_T_finish (c_T_finish l D _ n 6 (Or.inl rfl) (r, pl, la, dn, vi, de, ct, en, ou, ed) ⟨rfl, rfl⟩ 3 la) rfl rfl rfl rfl (Nat.le_of_ble_eq_true rfl) (Nat.le_of_ble_eq_true rfl) (Nat.le_of_ble_eq_true rfl) (Nat.le_of_ble_eq_true rfl) (Nat.le_of_ble_eq_true rfl) (fun v h' n' hq => ?_)
      obtain ⟨rfl, rfl, rfl⟩ := hq
      refine za_look (h1 := h) (v1 := [(6, tr_c 6 (tr_fin (r, pl, la, dn, vi, de, ct, en, ou, ed) 3 la)), (7, tr_g (tr_fin (r, pl, la, dn, vi, de, ct, en, ou, ed) 3 la))]) (tr_back h 6 ((r, pl, la, dn, vi, de, ct, en, ou, ed)) (tr_fin (r, pl, la, dn, vi, de, ct, en, ou, ed) 3 la)) ?_
      iterate 1 refine za_step X rfl rfl rfl ?_
      exact za_vret X rfl ⟨rfl, (tr_ov h 6 (tr_fin (r, pl, la, dn, vi, de, ct, en, ou, ed) 3 la)).trans (congrArg (tr_put h 6) e1.symm), rfl⟩ (Nat.le_refl _) (Nat.le_refl _)
  · refine za_enter cd_T_finishUnasked fl_T (by decide) cdok_T_finishUnasked flok_T (Nat.le_of_ble_eq_true rfl) ?_
    intro p e s m args below meth c X hnm
    refine za_view [(8, tr_c 8 (r, pl, la, dn, vi, de, ct, en, ou, ed)), (9, tr_g (r, pl, la, dn, vi, de, ct, en, ou, ed))] (by simp [hT1, hT2]) ?_
    iterate 3 refine za_step X rfl rfl rfl ?_
    refine za_callV (b := 1) (d := 0) (mc := 0) (ms := 0) (as := [_]) (rest := []) X rfl cl_T_P_has cy_P_has cv_P_has (c_P_has l D (za_ov h [(8, tr_c 8 (r, pl, la, dn, vi, de, ct, en, ou, ed)), (9, tr_g (r, pl, la, dn, vi, de, ct, en, ou, ed))]) n (oo, aa, bb, cc0, k) ⟨hP1, hP2, hP3, hP4, hP5⟩ pl) rfl rfl hP1 rfl (Nat.le_of_ble_eq_true rfl) (Nat.le_of_ble_eq_true rfl) (Nat.le_of_ble_eq_true rfl) (Nat.le_of_ble_eq_true rfl) (Nat.le_of_ble_eq_true rfl) (fun v h' n' hq => ?_)
    obtain ⟨rfl, rfl, rfl⟩ := hq
    refine za_look (h1 := h) (v1 := [(8, tr_c 8 (r, pl, la, dn, vi, de, ct, en, ou, ed)), (9, tr_g (r, pl, la, dn, vi, de, ct, en, ou, ed))]) rfl ?_
    refine za_ifeq X 23 rfl (by decide) (fun q1 => ?_) (fun q1 => ?_)
    · have e1 : (if pr_has (oo, aa, bb, cc0, k) pl = true then tr_fin (r, pl, la, dn, vi, de, ct, en, ou, ed) 3 la else tr_fin (r, pl, la, dn, vi, de, ct, en, ou, ed) 0 (r 0)) = tr_fin (r, pl, la, dn, vi, de, ct, en, ou, ed) 0 (r 0) := if_neg (by rw [bI_0 q1]; decide)
      iterate 5 refine za_step X rfl rfl rfl ?_
      refine za_iald X rfl rfl rfl (by unfold vp_in; decide) ?_
      refine za_callV X rfl cl_T_T_finish cy_T_finish cv_T_finish (c_T_finish l D _ n 8 (Or.inr rfl) (r, pl, la, dn, vi, de, ct, en, ou, ed) ⟨rfl, rfl⟩ 0 (r 0)) rfl rfl rfl rfl (Nat.le_of_ble_eq_true rfl) (Nat.le_of_ble_eq_true rfl) (Nat.le_of_ble_eq_true rfl) (Nat.le_of_ble_eq_true rfl) (Nat.le_of_ble_eq_true rfl) (fun v h' n' hq => ?_)
      obtain ⟨rfl, rfl, rfl⟩ := hq
      refine za_look (h1 := h) (v1 := [(8, tr_c 8 (tr_fin (r, pl, la, dn, vi, de, ct, en, ou, ed) 0 (r 0))), (9, tr_g (tr_fin (r, pl, la, dn, vi, de, ct, en, ou, ed) 0 (r 0)))]) (tr_back h 8 ((r, pl, la, dn, vi, de, ct, en, ou, ed)) (tr_fin (r, pl, la, dn, vi, de, ct, en, ou, ed) 0 (r 0))) ?_
      exact za_vret X rfl ⟨rfl, (tr_ov h 8 (tr_fin (r, pl, la, dn, vi, de, ct, en, ou, ed) 0 (r 0))).trans (congrArg (tr_put h 8) e1.symm), rfl⟩ (Nat.le_refl _) (Nat.le_refl _)
    · have e1 : (if pr_has (oo, aa, bb, cc0, k) pl = true then tr_fin (r, pl, la, dn, vi, de, ct, en, ou, ed) 3 la else tr_fin (r, pl, la, dn, vi, de, ct, en, ou, ed) 0 (r 0)) = tr_fin (r, pl, la, dn, vi, de, ct, en, ou, ed) 3 la := if_pos (bI_n0 q1)
      iterate 4 refine za_step X rfl rfl rfl ?_
      refine za_callV X rfl cl_T_T_finish cy_T_finish cv_T_finish (c_T_finish l D _ n 8 (Or.inr rfl) (r, pl, la, dn, vi, de, ct, en, ou, ed) ⟨rfl, rfl⟩ 3 la) rfl rfl rfl rfl (Nat.le_of_ble_eq_true rfl) (Nat.le_of_ble_eq_true rfl) (Nat.le_of_ble_eq_true rfl) (Nat.le_of_ble_eq_true rfl) (Nat.le_of_ble_eq_true rfl) (fun v h' n' hq => ?_)
      obtain ⟨rfl, rfl, rfl⟩ := hq
      refine za_look (h1 := h) (v1 := [(8, tr_c 8 (tr_fin (r, pl, la, dn, vi, de, ct, en, ou, ed) 3 la)), (9, tr_g (tr_fin (r, pl, la, dn, vi, de, ct, en, ou, ed) 3 la))]) (tr_back h 8 ((r, pl, la, dn, vi, de, ct, en, ou, ed)) (tr_fin (r, pl, la, dn, vi, de, ct, en, ou, ed) 3 la)) ?_
      iterate 1 refine za_step X rfl rfl rfl ?_
      exact za_vret X rfl ⟨rfl, (tr_ov h 8 (tr_fin (r, pl, la, dn, vi, de, ct, en, ou, ed) 3 la)).trans (congrArg (tr_put h 8) e1.symm), rfl⟩ (Nat.le_refl _) (Nat.le_refl _)
set_option maxHeartbeats 4000000 in
set_option maxRecDepth 100000 in
theorem c_T_follow (l : Launch) (D : za_D) (h : za_H) (n : Nat) (t : Nat) (ht : t = 6 ∨ t = 8) (T : tr_T) (hT : tr_at h t T) (P : pr_T) (hP : pr_at h P) (hok : pr_ok P) (x y : Int32) : za_M l D Y_T_follow 4 0 0 [vR t, vR 1, vI x, vI y] h n (fun v h' n' => v = none ∧ h' = tr_put h t (tr_run P T x y) ∧ n = n') := by
  obtain ⟨oo, aa, bb, cc0, k⟩ := P
  obtain ⟨hP1, hP2, hP3, hP4, hP5⟩ := hP
  obtain ⟨r, pl, la, dn, vi, de, ct, en, ou, ed⟩ := T
  obtain ⟨hT1, hT2⟩ := hT
  rcases ht with rfl | rfl
  · refine za_enter cd_T_follow fl_T (by decide) cdok_T_follow flok_T (Nat.le_of_ble_eq_true rfl) ?_
    intro p e s m args below meth c X hnm
    refine za_view [(6, tr_c 6 (r, pl, la, dn, vi, de, ct, en, ou, ed)), (7, tr_g (r, pl, la, dn, vi, de, ct, en, ou, ed))] (by simp [hT1, hT2]) ?_
    have k40 : (Int8.ofInt 40).toInt32 = nI 40 := by decide
    have exit45 : ∀ T1 : tr_T, tr_end (oo, aa, bb, cc0, k) T1 = tr_run (oo, aa, bb, cc0, k) (r, pl, la, dn, vi, de, ct, en, ou, ed) x y → za_W p l e (za_rm 4 0 0) s m args below meth c D 5 (MQ below (za_Q D (fun v h' n' => v = none ∧ h' = tr_put h 6 (tr_run (oo, aa, bb, cc0, k) (r, pl, la, dn, vi, de, ct, en, ou, ed) x y) ∧ n = n')) args s 0 0 (fun q : Nat => D.2.2 ≤ q)) h n 0 0 45 [(0, vR 6), (1, vR 1), (2, vI x), (3, vI y)] [] [(6, tr_c 6 T1), (7, tr_g T1)] := by
      intro T1 hfin
      obtain ⟨r1, pl1, la1, dn1, vi1, de1, ct1, en1, ou1, ed1⟩ := T1
      iterate 2 refine za_step X rfl rfl rfl ?_
      refine za_ifne X 57 rfl (by decide) (fun q1 => ?_) (fun q1 => ?_)
      · rw [← hfin, show tr_end (oo, aa, bb, cc0, k) (r1, pl1, la1, dn1, vi1, de1, ct1, en1, ou1, ed1) = (r1, pl1, la1, dn1, vi1, de1, ct1, en1, ou1, ed1) from if_neg q1]
        exact za_vret X rfl ⟨rfl, tr_ov h 6 (r1, pl1, la1, dn1, vi1, de1, ct1, en1, ou1, ed1), rfl⟩ (Nat.le_refl _) (Nat.le_refl _)
      · rw [← hfin, show tr_end (oo, aa, bb, cc0, k) (r1, pl1, la1, dn1, vi1, de1, ct1, en1, ou1, ed1) = (if pr_has (oo, aa, bb, cc0, k) pl1 = true then tr_fin (r1, pl1, la1, dn1, vi1, de1, ct1, en1, ou1, ed1) 3 la1 else tr_fin (r1, pl1, la1, dn1, vi1, de1, ct1, en1, ou1, ed1) 0 (r1 0)) from if_pos q1]
        iterate 2 refine za_step X rfl rfl rfl ?_
        refine za_callV X rfl cl_T_T_finishUnasked cy_T_finishUnasked cv_T_finishUnasked (c_T_finishUnasked l D _ n 6 (Or.inl rfl) (r1, pl1, la1, dn1, vi1, de1, ct1, en1, ou1, ed1) ⟨rfl, rfl⟩ (oo, aa, bb, cc0, k) ⟨hP1, hP2, hP3, hP4, hP5⟩) rfl rfl rfl rfl (Nat.le_of_ble_eq_true rfl) (Nat.le_of_ble_eq_true rfl) (Nat.le_of_ble_eq_true rfl) (Nat.le_of_ble_eq_true rfl) (Nat.le_of_ble_eq_true rfl) (fun v h' n' hq => ?_)
        obtain ⟨rfl, rfl, rfl⟩ := hq
        refine za_look (h1 := h) (v1 := [(6, tr_c 6 (if pr_has (oo, aa, bb, cc0, k) pl1 = true then tr_fin (r1, pl1, la1, dn1, vi1, de1, ct1, en1, ou1, ed1) 3 la1 else tr_fin (r1, pl1, la1, dn1, vi1, de1, ct1, en1, ou1, ed1) 0 (r1 0))), (7, tr_g (if pr_has (oo, aa, bb, cc0, k) pl1 = true then tr_fin (r1, pl1, la1, dn1, vi1, de1, ct1, en1, ou1, ed1) 3 la1 else tr_fin (r1, pl1, la1, dn1, vi1, de1, ct1, en1, ou1, ed1) 0 (r1 0)))]) (tr_back h 6 ((r1, pl1, la1, dn1, vi1, de1, ct1, en1, ou1, ed1)) (if pr_has (oo, aa, bb, cc0, k) pl1 = true then tr_fin (r1, pl1, la1, dn1, vi1, de1, ct1, en1, ou1, ed1) 3 la1 else tr_fin (r1, pl1, la1, dn1, vi1, de1, ct1, en1, ou1, ed1) 0 (r1 0))) ?_
        exact za_vret X rfl ⟨rfl, tr_ov h 6 (if pr_has (oo, aa, bb, cc0, k) pl1 = true then tr_fin (r1, pl1, la1, dn1, vi1, de1, ct1, en1, ou1, ed1) 3 la1 else tr_fin (r1, pl1, la1, dn1, vi1, de1, ct1, en1, ou1, ed1) 0 (r1 0)), rfl⟩ (Nat.le_refl _) (Nat.le_refl _)
    have loop : ∀ (f i : Nat) (T1 : tr_T), i + f = 40 → tr_end (oo, aa, bb, cc0, k) (tr_lop (oo, aa, bb, cc0, k) f T1) = tr_run (oo, aa, bb, cc0, k) (r, pl, la, dn, vi, de, ct, en, ou, ed) x y → za_W p l e (za_rm 4 0 0) s m args below meth c D 5 (MQ below (za_Q D (fun v h' n' => v = none ∧ h' = tr_put h 6 (tr_run (oo, aa, bb, cc0, k) (r, pl, la, dn, vi, de, ct, en, ou, ed) x y) ∧ n = n')) args s 0 0 (fun q : Nat => D.2.2 ≤ q)) h n 0 0 9 [(0, vR 6), (1, vR 1), (2, vI x), (3, vI y), (4, vI (nI i))] [] [(6, tr_c 6 T1), (7, tr_g T1)] := by
      intro f
      induction f with
      | zero =>
        intro i T1 hi hfin
        iterate 2 refine za_step X rfl rfl rfl ?_
        refine za_icge X 45 rfl (by decide) (fun q1 => ?_) (fun q1 => ?_)
        · exact za_loc [(0, vR 6), (1, vR 1), (2, vI x), (3, vI y)] rfl (exit45 T1 hfin)
        · exact absurd (by rw [k40]; exact (nI_leI (by omega) (by omega)).mpr (by omega)) q1
      | succ f ih =>
        intro i T1 hi hfin
        obtain ⟨r1, pl1, la1, dn1, vi1, de1, ct1, en1, ou1, ed1⟩ := T1
        iterate 2 refine za_step X rfl rfl rfl ?_
        refine za_icge X 45 rfl (by decide) (fun q1 => ?_) (fun q1 => ?_)
        · rw [k40] at q1
          exact absurd ((nI_leI (by omega) (by omega)).mp q1) (by omega)
        · iterate 2 refine za_step X rfl rfl rfl ?_
          refine za_ifne X 45 rfl (by decide) (fun q2 => ?_) (fun q2 => ?_)
          · refine za_loc [(0, vR 6), (1, vR 1), (2, vI x), (3, vI y)] rfl (exit45 (r1, pl1, la1, dn1, vi1, de1, ct1, en1, ou1, ed1) ?_)
            rw [← hfin, show tr_lop (oo, aa, bb, cc0, k) (f + 1) (r1, pl1, la1, dn1, vi1, de1, ct1, en1, ou1, ed1) = (r1, pl1, la1, dn1, vi1, de1, ct1, en1, ou1, ed1) from if_neg (fun q => q2 q.1)]
          · iterate 3 refine za_step X rfl rfl rfl ?_
            refine za_callV (b := 1) (d := 0) (mc := 0) (ms := 0) (as := [_]) (rest := []) X rfl cl_T_P_has cy_P_has cv_P_has (c_P_has l D (za_ov h [(6, tr_c 6 (r1, pl1, la1, dn1, vi1, de1, ct1, en1, ou1, ed1)), (7, tr_g (r1, pl1, la1, dn1, vi1, de1, ct1, en1, ou1, ed1))]) n (oo, aa, bb, cc0, k) ⟨hP1, hP2, hP3, hP4, hP5⟩ pl1) rfl rfl hP1 rfl (Nat.le_of_ble_eq_true rfl) (Nat.le_of_ble_eq_true rfl) (Nat.le_of_ble_eq_true rfl) (Nat.le_of_ble_eq_true rfl) (Nat.le_of_ble_eq_true rfl) (fun v h' n' hq => ?_)
            obtain ⟨rfl, rfl, rfl⟩ := hq
            refine za_look (h1 := h) (v1 := [(6, tr_c 6 (r1, pl1, la1, dn1, vi1, de1, ct1, en1, ou1, ed1)), (7, tr_g (r1, pl1, la1, dn1, vi1, de1, ct1, en1, ou1, ed1))]) rfl ?_
            refine za_ifeq X 45 rfl (by decide) (fun q3 => ?_) (fun q3 => ?_)
            · refine za_loc [(0, vR 6), (1, vR 1), (2, vI x), (3, vI y)] rfl (exit45 (r1, pl1, la1, dn1, vi1, de1, ct1, en1, ou1, ed1) ?_)
              rw [← hfin, show tr_lop (oo, aa, bb, cc0, k) (f + 1) (r1, pl1, la1, dn1, vi1, de1, ct1, en1, ou1, ed1) = (r1, pl1, la1, dn1, vi1, de1, ct1, en1, ou1, ed1) from if_neg (fun q => absurd (bI_0 q3) (by rw [show pr_has (oo, aa, bb, cc0, k) pl1 = true from q.2]; decide))]
            · have hh : pr_has (oo, aa, bb, cc0, k) pl1 = true := bI_n0 q3
              iterate 2 refine za_step X rfl rfl rfl ?_
              refine za_callV X rfl cl_T_T_step cy_T_step cv_T_step (c_T_step l D _ n 6 (Or.inl rfl) (r1, pl1, la1, dn1, vi1, de1, ct1, en1, ou1, ed1) ⟨rfl, rfl⟩ (oo, aa, bb, cc0, k) ⟨hP1, hP2, hP3, hP4, hP5⟩ hok hh) rfl rfl rfl rfl (Nat.le_of_ble_eq_true rfl) (Nat.le_of_ble_eq_true rfl) (Nat.le_of_ble_eq_true rfl) (Nat.le_of_ble_eq_true rfl) (Nat.le_of_ble_eq_true rfl) (fun v h' n' hq => ?_)
              obtain ⟨rfl, rfl, rfl⟩ := hq
              refine za_look (h1 := h) (v1 := [(6, tr_c 6 (tr_stp (oo, aa, bb, cc0, k) (r1, pl1, la1, dn1, vi1, de1, ct1, en1, ou1, ed1))), (7, tr_g (tr_stp (oo, aa, bb, cc0, k) (r1, pl1, la1, dn1, vi1, de1, ct1, en1, ou1, ed1)))]) (tr_back h 6 ((r1, pl1, la1, dn1, vi1, de1, ct1, en1, ou1, ed1)) (tr_stp (oo, aa, bb, cc0, k) (r1, pl1, la1, dn1, vi1, de1, ct1, en1, ou1, ed1))) ?_
              iterate 2 refine za_step X rfl rfl rfl ?_
              rw [show nI i + Int32.ofInt 1 = nI (i + 1) from nI_1 i]
              refine za_loc [(0, vR 6), (1, vR 1), (2, vI x), (3, vI y), (4, vI (nI (i + 1)))] rfl (ih (i + 1) (tr_stp (oo, aa, bb, cc0, k) (r1, pl1, la1, dn1, vi1, de1, ct1, en1, ou1, ed1)) (by omega) ?_)
              rw [← hfin, show tr_lop (oo, aa, bb, cc0, k) (f + 1) (r1, pl1, la1, dn1, vi1, de1, ct1, en1, ou1, ed1) = tr_lop (oo, aa, bb, cc0, k) f (tr_stp (oo, aa, bb, cc0, k) (r1, pl1, la1, dn1, vi1, de1, ct1, en1, ou1, ed1)) from if_pos ⟨q2, hh⟩]
    iterate 3 refine za_step X rfl rfl rfl ?_
    refine za_callV X rfl cl_T_T_begin cy_T_begin cv_T_begin (c_T_begin l D _ n 6 (Or.inl rfl) (r, pl, la, dn, vi, de, ct, en, ou, ed) ⟨rfl, rfl⟩ x y) rfl rfl rfl rfl (Nat.le_of_ble_eq_true rfl) (Nat.le_of_ble_eq_true rfl) (Nat.le_of_ble_eq_true rfl) (Nat.le_of_ble_eq_true rfl) (Nat.le_of_ble_eq_true rfl) (fun v h' n' hq => ?_)
    obtain ⟨rfl, rfl, rfl⟩ := hq
    refine za_look (h1 := h) (v1 := [(6, tr_c 6 (tr_beg (r, pl, la, dn, vi, de, ct, en, ou, ed) x y)), (7, tr_g (tr_beg (r, pl, la, dn, vi, de, ct, en, ou, ed) x y))]) (tr_back h 6 ((r, pl, la, dn, vi, de, ct, en, ou, ed)) (tr_beg (r, pl, la, dn, vi, de, ct, en, ou, ed) x y)) ?_
    iterate 2 refine za_step X rfl rfl rfl ?_
    exact za_loc [(0, vR 6), (1, vR 1), (2, vI x), (3, vI y), (4, vI (nI 0))] rfl (loop 40 0 (tr_beg (r, pl, la, dn, vi, de, ct, en, ou, ed) x y) rfl rfl)
  · refine za_enter cd_T_follow fl_T (by decide) cdok_T_follow flok_T (Nat.le_of_ble_eq_true rfl) ?_
    intro p e s m args below meth c X hnm
    refine za_view [(8, tr_c 8 (r, pl, la, dn, vi, de, ct, en, ou, ed)), (9, tr_g (r, pl, la, dn, vi, de, ct, en, ou, ed))] (by simp [hT1, hT2]) ?_
    have k40 : (Int8.ofInt 40).toInt32 = nI 40 := by decide
    have exit45 : ∀ T1 : tr_T, tr_end (oo, aa, bb, cc0, k) T1 = tr_run (oo, aa, bb, cc0, k) (r, pl, la, dn, vi, de, ct, en, ou, ed) x y → za_W p l e (za_rm 4 0 0) s m args below meth c D 5 (MQ below (za_Q D (fun v h' n' => v = none ∧ h' = tr_put h 8 (tr_run (oo, aa, bb, cc0, k) (r, pl, la, dn, vi, de, ct, en, ou, ed) x y) ∧ n = n')) args s 0 0 (fun q : Nat => D.2.2 ≤ q)) h n 0 0 45 [(0, vR 8), (1, vR 1), (2, vI x), (3, vI y)] [] [(8, tr_c 8 T1), (9, tr_g T1)] := by
      intro T1 hfin
      obtain ⟨r1, pl1, la1, dn1, vi1, de1, ct1, en1, ou1, ed1⟩ := T1
      iterate 2 refine za_step X rfl rfl rfl ?_
      refine za_ifne X 57 rfl (by decide) (fun q1 => ?_) (fun q1 => ?_)
      · rw [← hfin, show tr_end (oo, aa, bb, cc0, k) (r1, pl1, la1, dn1, vi1, de1, ct1, en1, ou1, ed1) = (r1, pl1, la1, dn1, vi1, de1, ct1, en1, ou1, ed1) from if_neg q1]
        exact za_vret X rfl ⟨rfl, tr_ov h 8 (r1, pl1, la1, dn1, vi1, de1, ct1, en1, ou1, ed1), rfl⟩ (Nat.le_refl _) (Nat.le_refl _)
      · rw [← hfin, show tr_end (oo, aa, bb, cc0, k) (r1, pl1, la1, dn1, vi1, de1, ct1, en1, ou1, ed1) = (if pr_has (oo, aa, bb, cc0, k) pl1 = true then tr_fin (r1, pl1, la1, dn1, vi1, de1, ct1, en1, ou1, ed1) 3 la1 else tr_fin (r1, pl1, la1, dn1, vi1, de1, ct1, en1, ou1, ed1) 0 (r1 0)) from if_pos q1]
        iterate 2 refine za_step X rfl rfl rfl ?_
        refine za_callV X rfl cl_T_T_finishUnasked cy_T_finishUnasked cv_T_finishUnasked (c_T_finishUnasked l D _ n 8 (Or.inr rfl) (r1, pl1, la1, dn1, vi1, de1, ct1, en1, ou1, ed1) ⟨rfl, rfl⟩ (oo, aa, bb, cc0, k) ⟨hP1, hP2, hP3, hP4, hP5⟩) rfl rfl rfl rfl (Nat.le_of_ble_eq_true rfl) (Nat.le_of_ble_eq_true rfl) (Nat.le_of_ble_eq_true rfl) (Nat.le_of_ble_eq_true rfl) (Nat.le_of_ble_eq_true rfl) (fun v h' n' hq => ?_)
        obtain ⟨rfl, rfl, rfl⟩ := hq
        refine za_look (h1 := h) (v1 := [(8, tr_c 8 (if pr_has (oo, aa, bb, cc0, k) pl1 = true then tr_fin (r1, pl1, la1, dn1, vi1, de1, ct1, en1, ou1, ed1) 3 la1 else tr_fin (r1, pl1, la1, dn1, vi1, de1, ct1, en1, ou1, ed1) 0 (r1 0))), (9, tr_g (if pr_has (oo, aa, bb, cc0, k) pl1 = true then tr_fin (r1, pl1, la1, dn1, vi1, de1, ct1, en1, ou1, ed1) 3 la1 else tr_fin (r1, pl1, la1, dn1, vi1, de1, ct1, en1, ou1, ed1) 0 (r1 0)))]) (tr_back h 8 ((r1, pl1, la1, dn1, vi1, de1, ct1, en1, ou1, ed1)) (if pr_has (oo, aa, bb, cc0, k) pl1 = true then tr_fin (r1, pl1, la1, dn1, vi1, de1, ct1, en1, ou1, ed1) 3 la1 else tr_fin (r1, pl1, la1, dn1, vi1, de1, ct1, en1, ou1, ed1) 0 (r1 0))) ?_
        exact za_vret X rfl ⟨rfl, tr_ov h 8 (if pr_has (oo, aa, bb, cc0, k) pl1 = true then tr_fin (r1, pl1, la1, dn1, vi1, de1, ct1, en1, ou1, ed1) 3 la1 else tr_fin (r1, pl1, la1, dn1, vi1, de1, ct1, en1, ou1, ed1) 0 (r1 0)), rfl⟩ (Nat.le_refl _) (Nat.le_refl _)
    have loop : ∀ (f i : Nat) (T1 : tr_T), i + f = 40 → tr_end (oo, aa, bb, cc0, k) (tr_lop (oo, aa, bb, cc0, k) f T1) = tr_run (oo, aa, bb, cc0, k) (r, pl, la, dn, vi, de, ct, en, ou, ed) x y → za_W p l e (za_rm 4 0 0) s m args below meth c D 5 (MQ below (za_Q D (fun v h' n' => v = none ∧ h' = tr_put h 8 (tr_run (oo, aa, bb, cc0, k) (r, pl, la, dn, vi, de, ct, en, ou, ed) x y) ∧ n = n')) args s 0 0 (fun q : Nat => D.2.2 ≤ q)) h n 0 0 9 [(0, vR 8), (1, vR 1), (2, vI x), (3, vI y), (4, vI (nI i))] [] [(8, tr_c 8 T1), (9, tr_g T1)] := by
      intro f
      induction f with
      | zero =>
        intro i T1 hi hfin
        iterate 2 refine za_step X rfl rfl rfl ?_
        refine za_icge X 45 rfl (by decide) (fun q1 => ?_) (fun q1 => ?_)
        · exact za_loc [(0, vR 8), (1, vR 1), (2, vI x), (3, vI y)] rfl (exit45 T1 hfin)
        · exact absurd (by rw [k40]; exact (nI_leI (by omega) (by omega)).mpr (by omega)) q1
      | succ f ih =>
        intro i T1 hi hfin
        obtain ⟨r1, pl1, la1, dn1, vi1, de1, ct1, en1, ou1, ed1⟩ := T1
        iterate 2 refine za_step X rfl rfl rfl ?_
        refine za_icge X 45 rfl (by decide) (fun q1 => ?_) (fun q1 => ?_)
        · rw [k40] at q1
          exact absurd ((nI_leI (by omega) (by omega)).mp q1) (by omega)
        · iterate 2 refine za_step X rfl rfl rfl ?_
          refine za_ifne X 45 rfl (by decide) (fun q2 => ?_) (fun q2 => ?_)
          · refine za_loc [(0, vR 8), (1, vR 1), (2, vI x), (3, vI y)] rfl (exit45 (r1, pl1, la1, dn1, vi1, de1, ct1, en1, ou1, ed1) ?_)
            rw [← hfin, show tr_lop (oo, aa, bb, cc0, k) (f + 1) (r1, pl1, la1, dn1, vi1, de1, ct1, en1, ou1, ed1) = (r1, pl1, la1, dn1, vi1, de1, ct1, en1, ou1, ed1) from if_neg (fun q => q2 q.1)]
          · iterate 3 refine za_step X rfl rfl rfl ?_
            refine za_callV (b := 1) (d := 0) (mc := 0) (ms := 0) (as := [_]) (rest := []) X rfl cl_T_P_has cy_P_has cv_P_has (c_P_has l D (za_ov h [(8, tr_c 8 (r1, pl1, la1, dn1, vi1, de1, ct1, en1, ou1, ed1)), (9, tr_g (r1, pl1, la1, dn1, vi1, de1, ct1, en1, ou1, ed1))]) n (oo, aa, bb, cc0, k) ⟨hP1, hP2, hP3, hP4, hP5⟩ pl1) rfl rfl hP1 rfl (Nat.le_of_ble_eq_true rfl) (Nat.le_of_ble_eq_true rfl) (Nat.le_of_ble_eq_true rfl) (Nat.le_of_ble_eq_true rfl) (Nat.le_of_ble_eq_true rfl) (fun v h' n' hq => ?_)
            obtain ⟨rfl, rfl, rfl⟩ := hq
            refine za_look (h1 := h) (v1 := [(8, tr_c 8 (r1, pl1, la1, dn1, vi1, de1, ct1, en1, ou1, ed1)), (9, tr_g (r1, pl1, la1, dn1, vi1, de1, ct1, en1, ou1, ed1))]) rfl ?_
            refine za_ifeq X 45 rfl (by decide) (fun q3 => ?_) (fun q3 => ?_)
            · refine za_loc [(0, vR 8), (1, vR 1), (2, vI x), (3, vI y)] rfl (exit45 (r1, pl1, la1, dn1, vi1, de1, ct1, en1, ou1, ed1) ?_)
              rw [← hfin, show tr_lop (oo, aa, bb, cc0, k) (f + 1) (r1, pl1, la1, dn1, vi1, de1, ct1, en1, ou1, ed1) = (r1, pl1, la1, dn1, vi1, de1, ct1, en1, ou1, ed1) from if_neg (fun q => absurd (bI_0 q3) (by rw [show pr_has (oo, aa, bb, cc0, k) pl1 = true from q.2]; decide))]
            · have hh : pr_has (oo, aa, bb, cc0, k) pl1 = true := bI_n0 q3
              iterate 2 refine za_step X rfl rfl rfl ?_
              refine za_callV X rfl cl_T_T_step cy_T_step cv_T_step (c_T_step l D _ n 8 (Or.inr rfl) (r1, pl1, la1, dn1, vi1, de1, ct1, en1, ou1, ed1) ⟨rfl, rfl⟩ (oo, aa, bb, cc0, k) ⟨hP1, hP2, hP3, hP4, hP5⟩ hok hh) rfl rfl rfl rfl (Nat.le_of_ble_eq_true rfl) (Nat.le_of_ble_eq_true rfl) (Nat.le_of_ble_eq_true rfl) (Nat.le_of_ble_eq_true rfl) (Nat.le_of_ble_eq_true rfl) (fun v h' n' hq => ?_)
              obtain ⟨rfl, rfl, rfl⟩ := hq
              refine za_look (h1 := h) (v1 := [(8, tr_c 8 (tr_stp (oo, aa, bb, cc0, k) (r1, pl1, la1, dn1, vi1, de1, ct1, en1, ou1, ed1))), (9, tr_g (tr_stp (oo, aa, bb, cc0, k) (r1, pl1, la1, dn1, vi1, de1, ct1, en1, ou1, ed1)))]) (tr_back h 8 ((r1, pl1, la1, dn1, vi1, de1, ct1, en1, ou1, ed1)) (tr_stp (oo, aa, bb, cc0, k) (r1, pl1, la1, dn1, vi1, de1, ct1, en1, ou1, ed1))) ?_
              iterate 2 refine za_step X rfl rfl rfl ?_
              rw [show nI i + Int32.ofInt 1 = nI (i + 1) from nI_1 i]
              refine za_loc [(0, vR 8), (1, vR 1), (2, vI x), (3, vI y), (4, vI (nI (i + 1)))] rfl (ih (i + 1) (tr_stp (oo, aa, bb, cc0, k) (r1, pl1, la1, dn1, vi1, de1, ct1, en1, ou1, ed1)) (by omega) ?_)
              rw [← hfin, show tr_lop (oo, aa, bb, cc0, k) (f + 1) (r1, pl1, la1, dn1, vi1, de1, ct1, en1, ou1, ed1) = tr_lop (oo, aa, bb, cc0, k) f (tr_stp (oo, aa, bb, cc0, k) (r1, pl1, la1, dn1, vi1, de1, ct1, en1, ou1, ed1)) from if_pos ⟨q2, hh⟩]
    iterate 3 refine za_step X rfl rfl rfl ?_
    refine za_callV X rfl cl_T_T_begin cy_T_begin cv_T_begin (c_T_begin l D _ n 8 (Or.inr rfl) (r, pl, la, dn, vi, de, ct, en, ou, ed) ⟨rfl, rfl⟩ x y) rfl rfl rfl rfl (Nat.le_of_ble_eq_true rfl) (Nat.le_of_ble_eq_true rfl) (Nat.le_of_ble_eq_true rfl) (Nat.le_of_ble_eq_true rfl) (Nat.le_of_ble_eq_true rfl) (fun v h' n' hq => ?_)
    obtain ⟨rfl, rfl, rfl⟩ := hq
    refine za_look (h1 := h) (v1 := [(8, tr_c 8 (tr_beg (r, pl, la, dn, vi, de, ct, en, ou, ed) x y)), (9, tr_g (tr_beg (r, pl, la, dn, vi, de, ct, en, ou, ed) x y))]) (tr_back h 8 ((r, pl, la, dn, vi, de, ct, en, ou, ed)) (tr_beg (r, pl, la, dn, vi, de, ct, en, ou, ed) x y)) ?_
    iterate 2 refine za_step X rfl rfl rfl ?_
    exact za_loc [(0, vR 8), (1, vR 1), (2, vI x), (3, vI y), (4, vI (nI 0))] rfl (loop 40 0 (tr_beg (r, pl, la, dn, vi, de, ct, en, ou, ed) x y) rfl rfl)
end
section
/-! WAYS AND RESULTS AS FUNCTIONS. A way: x, y, outcome, end, decisions, decisionCount, visited -/
abbrev wr_T : Type := Int32 × Int32 × Int32 × Int32 × Int64 × Int32 × Int32
def wr_c : wr_T → za_C | (x, y, ou, ed, de, ct, _) => .inr (zn_W, [vI x, vI y, vI ou, vI ed, vL de, vI ct])
def wr_de (q : wr_T) : Int64 := q.2.2.2.2.1
def wr_ct (q : wr_T) : Int32 := q.2.2.2.2.2.1
def wr_vi (q : wr_T) : Int32 := q.2.2.2.2.2.2
def wr_of : tr_T → Int32 → Int32 → wr_T | (_, _, _, _, vi, de, ct, _, ou, ed), x, y => (x, y, ou, ed, de, ct, vi)
def tr_de (T : tr_T) : Int64 := T.2.2.2.2.2.1
def tr_vi (T : tr_T) : Int32 := T.2.2.2.2.1
def wr_ag (q : wr_T) (T : tr_T) : Bool := decide (¬ wr_ct q < tr_ct T) && decide (wr_de q >>> ((40 - tr_ct T).toInt64 &&& 63) = tr_de T >>> ((40 - tr_ct T).toInt64 &&& 63))
def rs_or (f : Nat → wr_T) : Nat → Int32
  | 0 => 0
  | k + 1 => rs_or f k ||| wr_vi (f k)
/-- the first place from i on, at most m further, whose decisions aren't less -/
def rs_pos (f : Nat → wr_T) (d : Int64) : Nat → Nat → Nat
  | 0, i => i
  | m + 1, i => if wr_de (f i) < d then rs_pos f d m (i + 1) else i
def rs_ins (f : Nat → wr_T) (j : Nat) (q : wr_T) : Nat → wr_T := fun i => if i < j then f i else if i = j then q else f (i - 1)
/-- how many ways, and the ways -/
abbrev rs_T : Type := Nat × (Nat → wr_T)
def rs_take : rs_T → wr_T → Option rs_T | (k, f), q => if rs_pos f (wr_de q) k 0 < k ∧ wr_de (f (rs_pos f (wr_de q) k 0)) = wr_de q then some (k, f) else if k = 64 then none else some (k + 1, rs_ins f (rs_pos f (wr_de q) k 0) q)
theorem rs_pos_le (f : Nat → wr_T) (d : Int64) : ∀ (m i : Nat), i ≤ rs_pos f d m i ∧ rs_pos f d m i ≤ i + m := by
  intro m
  induction m with
  | zero => intro i; exact ⟨Nat.le_refl _, Nat.le_refl _⟩
  | succ m ih =>
    intro i
    unfold rs_pos
    split
    · have := ih (i + 1); omega
    · omega
def rs_c (rid k : Nat) (vis : Int32) : za_C := .inr (zn_R, [vR (rid + 1), vI (nI k), vI vis])
def rs_g (w : Nat → Nat) : za_C := .inl (2, 64, .inr (.inr (fun i => some (w i))))
/-- the Results at rid: its array names the 64 Ways behind it, each once; the first k of them hold f -/
def rs_at (h : za_H) (rid : Nat) (w : Nat → Nat) (S : rs_T) : Prop :=
  h rid = some (rs_c rid S.1 (rs_or S.2 S.1)) ∧ h (rid + 1) = some (rs_g w) ∧ (∀ i, i < 64 → ∃ q, h (w i) = some (wr_c q)) ∧ (∀ i, i < S.1 → h (w i) = some (wr_c (S.2 i))) ∧ (∀ i, i < 64 → rid + 2 ≤ w i ∧ w i < rid + 66) ∧ (∀ i j, i < 64 → j < 64 → w i = w j → i = j) ∧ S.1 ≤ 64
/-- the array's places from i + 1 to k hold what stood one before -/
def rs_mv (w : Nat → Nat) (i k : Nat) : Nat → Nat := fun p => if i < p ∧ p ≤ k then w (p - 1) else w p
def rs_rot (w : Nat → Nat) (j k : Nat) : Nat → Nat := fun p => if p = j then w k else rs_mv w j k p
theorem rs_mv_0 (w : Nat → Nat) (k : Nat) : rs_mv w k k = w := by
  funext p
  unfold rs_mv
  rw [if_neg (by omega)]
theorem rs_g_up (w : Nat → Nat) (j x : Nat) : (va_up (fun i => some (w i)) j (some x) : Nat → Option Nat) = fun i => some (if i = j then x else w i) := by
  funext i
  unfold va_up
  by_cases e : i = j
  · rw [if_pos e, if_pos e]
  · rw [if_neg e, if_neg e]
theorem rs_mv_s {w : Nat → Nat} {i k : Nat} (h : i < k + 1) : (fun p => if p = i + 1 then rs_mv w (i + 1) k i else rs_mv w (i + 1) k p) = if i + 1 ≤ k then rs_mv w i k else fun p => if p = i + 1 then w i else w p := by
  split
  · rename_i hk
    funext p
    unfold rs_mv
    by_cases e : p = i + 1
    · subst e
      rw [if_pos rfl, if_neg (by omega), if_pos (by omega)]
      rfl
    · rw [if_neg e]
      by_cases e2 : i + 1 < p ∧ p ≤ k
      · rw [if_pos e2, if_pos (by omega)]
      · rw [if_neg e2, if_neg (by omega)]
  · rename_i hk
    funext p
    unfold rs_mv
    by_cases e : p = i + 1
    · rw [if_pos e, if_pos e, if_neg (by omega)]
    · rw [if_neg e, if_neg e, if_neg (by omega)]
theorem rs_rot_range {w : Nat → Nat} {lo hi j k : Nat} (hk : k < 64) (hr : ∀ i, i < 64 → lo ≤ w i ∧ w i < hi) : ∀ i, i < 64 → lo ≤ rs_rot w j k i ∧ rs_rot w j k i < hi := by
  intro i hi2
  unfold rs_rot rs_mv
  split
  · exact hr k hk
  · split
    · exact hr (i - 1) (by omega)
    · exact hr i hi2
theorem rs_rot_inj {w : Nat → Nat} {j k : Nat} (hk : k < 64) (hj : j ≤ k) (hi : ∀ a b, a < 64 → b < 64 → w a = w b → a = b) : ∀ a b, a < 64 → b < 64 → rs_rot w j k a = rs_rot w j k b → a = b := by
  intro a b ha hb h
  unfold rs_rot rs_mv at h
  by_cases e1 : a = j <;> by_cases e2 : b = j
  · omega
  · rw [if_pos e1, if_neg e2] at h
    split at h
    · have := hi _ _ hk (by omega) h; omega
    · have := hi _ _ hk hb h; omega
  · rw [if_neg e1, if_pos e2] at h
    split at h
    · have := hi _ _ (by omega) hk h; omega
    · have := hi _ _ ha hk h; omega
  · rw [if_neg e1, if_neg e2] at h
    split at h <;> split at h
    · have := hi _ _ (by omega) (by omega) h; omega
    · have := hi _ _ (by omega) hb h; omega
    · have := hi _ _ ha (by omega) h; omega
    · exact hi _ _ ha hb h
theorem i32_or_assoc (a b c : Int32) : a ||| b ||| c = a ||| (b ||| c) := Int32.or_assoc a b c
theorem i32_or_comm (a b : Int32) : a ||| b = b ||| a := Int32.or_comm a b
theorem rs_or_eq {f g : Nat → wr_T} : ∀ k, (∀ i, i < k → wr_vi (f i) = wr_vi (g i)) → rs_or f k = rs_or g k := by
  intro k
  induction k with
  | zero => intro _; rfl
  | succ k ih =>
    intro h
    unfold rs_or
    rw [ih (fun i hi => h i (by omega)), h k (by omega)]
theorem rs_or_ins (f : Nat → wr_T) (q : wr_T) : ∀ (k j : Nat), j ≤ k → rs_or (rs_ins f j q) (k + 1) = rs_or f k ||| wr_vi q := by
  intro k
  induction k with
  | zero =>
    intro j hj
    have : j = 0 := by omega
    subst this
    show rs_or (rs_ins f 0 q) 0 ||| wr_vi (rs_ins f 0 q 0) = _
    rfl
  | succ k ih =>
    intro j hj
    by_cases e : j = k + 1
    · subst e
      show rs_or (rs_ins f (k + 1) q) (k + 1) ||| wr_vi (rs_ins f (k + 1) q (k + 1)) = _
      have e1 : rs_ins f (k + 1) q (k + 1) = q := by simp [rs_ins]
      rw [e1, rs_or_eq (g := f) (k + 1) (fun i hi => by simp [rs_ins, hi])]
    · show rs_or (rs_ins f j q) (k + 1) ||| wr_vi (rs_ins f j q (k + 1)) = (rs_or f k ||| wr_vi (f k)) ||| wr_vi q
      have e1 : rs_ins f j q (k + 1) = f k := by
        unfold rs_ins
        rw [if_neg (by omega), if_neg (by omega)]; rfl
      rw [ih j (by omega), e1, i32_or_assoc, i32_or_comm (wr_vi q), ← i32_or_assoc]
theorem za_ov_sec {h : za_H} {a b : Nat} {c d d' : za_C} (e : a ≠ b) : za_ov h [(a, c), (b, d')] = za_set (za_ov h [(a, c), (b, d)]) b d' := by
  rw [za_ov2, za_ov2]
  funext k
  by_cases q : k = b
  · subst q
    rw [za_set_ne (Ne.symm e), za_set_eq, za_set_eq]
  · rw [za_set_ne q]
    by_cases q2 : k = a
    · subst q2; rw [za_set_eq, za_set_eq]
    · rw [za_set_ne q2, za_set_ne q2, za_set_ne q, za_set_ne q]
theorem za_ov_sat {h : za_H} {a b : Nat} {c d : za_C} (e : a ≠ b) : za_ov h [(a, c), (b, d)] b = some d := by
  rw [za_ov2, za_set_ne (Ne.symm e), za_set_eq]
theorem lg_0 {x y : Int64} : lg_cmp x y = 0 ↔ x = y := by
  unfold lg_cmp
  by_cases h1 : y < x
  · rw [if_pos h1]
    constructor
    · intro q; cases q
    · intro q; subst q; exact absurd h1 (Int64.lt_irrefl)
  · rw [if_neg h1]
    by_cases h2 : x = y
    · rw [if_pos h2]; exact ⟨fun _ => h2, fun _ => rfl⟩
    · rw [if_neg h2]
      constructor
      · intro q; cases q
      · intro q; exact absurd q h2
theorem lg_neg {x y : Int64} : (0 ≤ lg_cmp x y) ↔ ¬ x < y := by
  unfold lg_cmp
  by_cases h1 : y < x
  · rw [if_pos h1]
    exact ⟨fun _ => Int64.not_lt.mpr (Int64.le_of_lt h1), fun _ => by decide⟩
  · rw [if_neg h1]
    by_cases h2 : x = y
    · rw [if_pos h2]; subst h2; exact ⟨fun _ => Int64.lt_irrefl, fun _ => by decide⟩
    · rw [if_neg h2]
      constructor
      · intro q; exact absurd q (by decide)
      · intro q
        exact absurd (Int64.le_antisymm (Int64.not_lt.mp h1) (Int64.not_lt.mp q)) h2
end
section
set_option maxHeartbeats 4000000 in
set_option maxRecDepth 100000 in
theorem c_W_set (l : Launch) (D : za_D) (h : za_H) (n : Nat) (w : Nat) (hw8 : 8 ≠ w) (q : wr_T) (hq : h w = some (wr_c q)) (T : tr_T) (hT : h 8 = some (tr_c 8 T)) (x y : Int32) : za_M l D Y_W_set 0 0 0 [vR w, vR 8, vI x, vI y] h n (fun v h' n' => v = none ∧ h' = za_set h w (wr_c (wr_of T x y)) ∧ n = n') := by
  obtain ⟨r, pl, la, dn, vi, de, ct, en, ou, ed⟩ := T
  obtain ⟨qx, qy, qo, qe, qd, qc, qv⟩ := q
  refine za_enter cd_W_set fl_W (by decide) cdok_W_set flok_W (Nat.le_of_ble_eq_true rfl) ?_
  intro p e s m args below meth c X hnm
  refine za_view [(8, tr_c 8 (r, pl, la, dn, vi, de, ct, en, ou, ed)), (w, .inr (zn_W, [vI qx, vI qy, vI qo, vI qe, vL qd, vI qc]))] (by simp [hT, show h w = _ from hq, wr_c]) ?_
  iterate 2 refine za_step X rfl rfl rfl ?_
  refine za_putV X [(8, tr_c 8 (r, pl, la, dn, vi, de, ct, en, ou, ed)), (w, .inr (zn_W, [vI x, vI qy, vI qo, vI qe, vL qd, vI qc]))] rfl (za_ov_sat hw8) rfl rfl rfl (Nat.le_of_ble_eq_true rfl) (za_ov_sec hw8) ?_
  iterate 2 refine za_step X rfl rfl rfl ?_
  refine za_putV X [(8, tr_c 8 (r, pl, la, dn, vi, de, ct, en, ou, ed)), (w, .inr (zn_W, [vI x, vI y, vI qo, vI qe, vL qd, vI qc]))] rfl (za_ov_sat hw8) rfl rfl rfl (Nat.le_of_ble_eq_true rfl) (za_ov_sec hw8) ?_
  iterate 3 refine za_step X rfl rfl rfl ?_
  refine za_putV X [(8, tr_c 8 (r, pl, la, dn, vi, de, ct, en, ou, ed)), (w, .inr (zn_W, [vI x, vI y, vI ou, vI qe, vL qd, vI qc]))] rfl (za_ov_sat hw8) rfl rfl rfl (Nat.le_of_ble_eq_true rfl) (za_ov_sec hw8) ?_
  iterate 3 refine za_step X rfl rfl rfl ?_
  refine za_putV X [(8, tr_c 8 (r, pl, la, dn, vi, de, ct, en, ou, ed)), (w, .inr (zn_W, [vI x, vI y, vI ou, vI ed, vL qd, vI qc]))] rfl (za_ov_sat hw8) rfl rfl rfl (Nat.le_of_ble_eq_true rfl) (za_ov_sec hw8) ?_
  iterate 3 refine za_step X rfl rfl rfl ?_
  refine za_putV X [(8, tr_c 8 (r, pl, la, dn, vi, de, ct, en, ou, ed)), (w, .inr (zn_W, [vI x, vI y, vI ou, vI ed, vL de, vI qc]))] rfl (za_ov_sat hw8) rfl rfl rfl (Nat.le_of_ble_eq_true rfl) (za_ov_sec hw8) ?_
  iterate 3 refine za_step X rfl rfl rfl ?_
  refine za_putV X [(8, tr_c 8 (r, pl, la, dn, vi, de, ct, en, ou, ed)), (w, .inr (zn_W, [vI x, vI y, vI ou, vI ed, vL de, vI ct]))] rfl (za_ov_sat hw8) rfl rfl rfl (Nat.le_of_ble_eq_true rfl) (za_ov_sec hw8) ?_
  exact za_vret X rfl ⟨rfl, by
    rw [za_ov2]
    exact za_set_same (by rw [za_set_ne hw8]; exact hT), rfl⟩ (Nat.le_refl _) (Nat.le_refl _)
theorem ov_1 {h : za_H} {a j : Nat} {c : za_C} (e : a ≠ j) : za_ov h [(a, c)] j = h j := by
  rw [za_ov1, za_set_ne (Ne.symm e)]
set_option maxHeartbeats 4000000 in
set_option maxRecDepth 100000 in
theorem c_W_agreesWith (l : Launch) (D : za_D) (h : za_H) (n : Nat) (w : Nat) (hw8 : 8 ≠ w) (q : wr_T) (hq : h w = some (wr_c q)) (T : tr_T) (hT : h 8 = some (tr_c 8 T)) : za_M l D Y_W_agreesWith 0 0 0 [vR w, vR 8] h n (fun v h' n' => v = some (vI (bI (wr_ag q T))) ∧ h' = h ∧ n = n') := by
  obtain ⟨r, pl, la, dn, vi, de, ct, en, ou, ed⟩ := T
  obtain ⟨qx, qy, qo, qe, qd, qc, qv⟩ := q
  refine za_enter cd_W_agreesWith fl_W (by decide) cdok_W_agreesWith flok_W (Nat.le_of_ble_eq_true rfl) ?_
  intro p e s m args below meth c X hnm
  have k40 : (Int8.ofInt 40).toInt32 = 40 := by decide
  have hfin : za_ov h [(8, tr_c 8 (r, pl, la, dn, vi, de, ct, en, ou, ed))] = h := by rw [za_ov1, za_set_same hT]
  have hw : za_ov h [(8, tr_c 8 (r, pl, la, dn, vi, de, ct, en, ou, ed))] w = some (.inr (zn_W, [vI qx, vI qy, vI qo, vI qe, vL qd, vI qc])) := by rw [ov_1 hw8]; exact hq
  refine za_view [(8, tr_c 8 (r, pl, la, dn, vi, de, ct, en, ou, ed))] (by simp [hT]) ?_
  iterate 6 refine za_step X rfl rfl rfl ?_
  refine za_getH X rfl hw rfl rfl ?_
  iterate 2 refine za_step X rfl rfl rfl ?_
  refine za_iclt X 39 rfl (by decide) (fun q1 => ?_) (fun q1 => ?_)
  · iterate 1 refine za_step X rfl rfl rfl ?_
    exact za_zret X rfl (Or.inl rfl) ⟨by
      have e1 : wr_ag (qx, qy, qo, qe, qd, qc, qv) (r, pl, la, dn, vi, de, ct, en, ou, ed) = false := by
        have : ¬ ¬ qc < ct := fun z => z q1
        simp [wr_ag, wr_ct, tr_ct, q1]
      rw [e1]; rfl, hfin, rfl⟩ (Nat.le_refl _) (Nat.le_refl _)
  · iterate 1 refine za_step X rfl rfl rfl ?_
    refine za_getH X rfl hw rfl rfl ?_
    iterate 7 refine za_step X rfl rfl rfl ?_
    refine za_ifne X 39 rfl (by decide) (fun q2 => ?_) (fun q2 => ?_)
    · iterate 1 refine za_step X rfl rfl rfl ?_
      rw [k40] at q2
      have q3 : ¬ qd >>> ((40 - ct).toInt64 &&& 63) = de >>> ((40 - ct).toInt64 &&& 63) := fun z => q2 (lg_0.mpr z)
      exact za_zret X rfl (Or.inl rfl) ⟨by
        have e1 : wr_ag (qx, qy, qo, qe, qd, qc, qv) (r, pl, la, dn, vi, de, ct, en, ou, ed) = false := by
          simp [wr_ag, wr_ct, tr_ct, wr_de, tr_de, q3]
        rw [e1]; rfl, hfin, rfl⟩ (Nat.le_refl _) (Nat.le_refl _)
    · iterate 2 refine za_step X rfl rfl rfl ?_
      rw [k40] at q2
      have q3 : qd >>> ((40 - ct).toInt64 &&& 63) = de >>> ((40 - ct).toInt64 &&& 63) := lg_0.mp q2
      exact za_zret X rfl (Or.inr rfl) ⟨by
        have e1 : wr_ag (qx, qy, qo, qe, qd, qc, qv) (r, pl, la, dn, vi, de, ct, en, ou, ed) = true := by
          simp [wr_ag, wr_ct, tr_ct, wr_de, tr_de, q1, q3]
        rw [e1]; rfl, hfin, rfl⟩ (Nat.le_refl _) (Nat.le_refl _)
set_option maxHeartbeats 4000000 in
set_option maxRecDepth 100000 in
theorem c_R_empty (l : Launch) (D : za_D) (h : za_H) (n : Nat) (rid : Nat) (hrid : rid = 10 ∨ rid = 76) (k : Nat) (vis : Int32) (hr : h rid = some (rs_c rid k vis)) : za_M l D Y_R_empty 0 0 0 [vR rid] h n (fun v h' n' => v = none ∧ h' = za_set h rid (rs_c rid 0 0) ∧ n = n') := by
  rcases hrid with rfl | rfl
  · refine za_enter cd_R_empty fl_R (by decide) cdok_R_empty flok_R (Nat.le_of_ble_eq_true rfl) ?_
    intro p e s m args below meth c X hnm
    refine za_view [(10, rs_c 10 k vis)] (by simp [hr]) ?_
    iterate 6 refine za_step X rfl rfl rfl ?_
    exact za_vret X rfl ⟨rfl, za_ov1 h 10 (rs_c 10 0 0), rfl⟩ (Nat.le_refl _) (Nat.le_refl _)
  · refine za_enter cd_R_empty fl_R (by decide) cdok_R_empty flok_R (Nat.le_of_ble_eq_true rfl) ?_
    intro p e s m args below meth c X hnm
    refine za_view [(76, rs_c 76 k vis)] (by simp [hr]) ?_
    iterate 6 refine za_step X rfl rfl rfl ?_
    exact za_vret X rfl ⟨rfl, za_ov1 h 76 (rs_c 76 0 0), rfl⟩ (Nat.le_refl _) (Nat.le_refl _)
def rs_has (k : Nat) (x : Int32) : Bool := decide (0 ≤ x) && decide (x < nI k)
theorem rh_f1 {k : Nat} {x : Int32} (h : x < 0) : rs_has k x = false := by
  have : ¬ 0 ≤ x := Int32.not_le.mpr h
  simp [rs_has, this]
theorem rh_f2 {k : Nat} {x : Int32} (h : nI k ≤ x) : rs_has k x = false := by
  have : ¬ x < nI k := Int32.not_lt.mpr h
  simp [rs_has, this]
theorem rh_t {k : Nat} {x : Int32} (h1 : ¬ x < 0) (h2 : ¬ nI k ≤ x) : rs_has k x = true := by
  have a : 0 ≤ x := Int32.not_lt.mp h1
  have b : x < nI k := Int32.not_le.mp h2
  simp [rs_has, a, b]
set_option maxHeartbeats 4000000 in
set_option maxRecDepth 100000 in
theorem c_R_has (l : Launch) (D : za_D) (h : za_H) (n : Nat) (rid : Nat) (hrid : rid = 10 ∨ rid = 76) (k : Nat) (vis : Int32) (hr : h rid = some (rs_c rid k vis)) (x : Int32) : za_M l D Y_R_has 0 0 0 [vR rid, vI x] h n (fun v h' n' => v = some (vI (bI (rs_has k x))) ∧ h' = h ∧ n = n') := by
  rcases hrid with rfl | rfl
  · refine za_enter cd_R_has fl_R (by decide) cdok_R_has flok_R (Nat.le_of_ble_eq_true rfl) ?_
    intro p e s m args below meth c X hnm
    refine za_view [(10, rs_c 10 k vis)] (by simp [hr]) ?_
    have hfin : za_ov h [(10, rs_c 10 k vis)] = h := by rw [za_ov1, za_set_same hr]
    iterate 1 refine za_step X rfl rfl rfl ?_
    refine za_iflt X 16 rfl (by decide) (fun h1 => ?_) (fun h1 => ?_)
    · iterate 1 refine za_step X rfl rfl rfl ?_
      exact za_zret X rfl (Or.inl rfl) ⟨by rw [rh_f1 h1]; rfl, hfin, rfl⟩ (Nat.le_refl _) (Nat.le_refl _)
    · iterate 3 refine za_step X rfl rfl rfl ?_
      refine za_icge X 16 rfl (by decide) (fun h2 => ?_) (fun h2 => ?_)
      · iterate 1 refine za_step X rfl rfl rfl ?_
        exact za_zret X rfl (Or.inl rfl) ⟨by rw [rh_f2 h2]; rfl, hfin, rfl⟩ (Nat.le_refl _) (Nat.le_refl _)
      · iterate 2 refine za_step X rfl rfl rfl ?_
        exact za_zret X rfl (Or.inr rfl) ⟨by rw [rh_t h1 h2]; rfl, hfin, rfl⟩ (Nat.le_refl _) (Nat.le_refl _)
  · refine za_enter cd_R_has fl_R (by decide) cdok_R_has flok_R (Nat.le_of_ble_eq_true rfl) ?_
    intro p e s m args below meth c X hnm
    refine za_view [(76, rs_c 76 k vis)] (by simp [hr]) ?_
    have hfin : za_ov h [(76, rs_c 76 k vis)] = h := by rw [za_ov1, za_set_same hr]
    iterate 1 refine za_step X rfl rfl rfl ?_
    refine za_iflt X 16 rfl (by decide) (fun h1 => ?_) (fun h1 => ?_)
    · iterate 1 refine za_step X rfl rfl rfl ?_
      exact za_zret X rfl (Or.inl rfl) ⟨by rw [rh_f1 h1]; rfl, hfin, rfl⟩ (Nat.le_refl _) (Nat.le_refl _)
    · iterate 3 refine za_step X rfl rfl rfl ?_
      refine za_icge X 16 rfl (by decide) (fun h2 => ?_) (fun h2 => ?_)
      · iterate 1 refine za_step X rfl rfl rfl ?_
        exact za_zret X rfl (Or.inl rfl) ⟨by rw [rh_f2 h2]; rfl, hfin, rfl⟩ (Nat.le_refl _) (Nat.le_refl _)
      · iterate 2 refine za_step X rfl rfl rfl ?_
        exact za_zret X rfl (Or.inr rfl) ⟨by rw [rh_t h1 h2]; rfl, hfin, rfl⟩ (Nat.le_refl _) (Nat.le_refl _)
set_option maxHeartbeats 4000000 in
set_option maxRecDepth 100000 in
theorem c_R_firstNotBefore (l : Launch) (D : za_D) (h : za_H) (n : Nat) (rid : Nat) (hrid : rid = 10 ∨ rid = 76) (w : Nat → Nat) (k : Nat) (f : Nat → wr_T) (hS : rs_at h rid w (k, f)) (d : Int64) : za_M l D Y_R_firstNotBefore 0 0 0 [vR rid, vL d] h n (fun v h' n' => v = some (vI (nI (rs_pos f d k 0))) ∧ h' = h ∧ n = n') := by
  obtain ⟨hr, hg, hw, hf, hrg, hij, hk⟩ := hS
  dsimp only at hr hf hk
  generalize rs_or f k = vis at hr
  rcases hrid with rfl | rfl
  · refine za_enter cd_R_firstNotBefore fl_R (by decide) cdok_R_firstNotBefore flok_R (Nat.le_of_ble_eq_true rfl) ?_
    intro p e s m args below meth c X hnm
    refine za_view [(10, rs_c 10 k vis), (11, rs_g w)] (by simp [hr, hg]) ?_
    have hfin : za_ov h [(10, rs_c 10 k vis), (11, rs_g w)] = h := by rw [za_ov2, za_set_same hg, za_set_same hr]
    have loop : ∀ (g i : Nat), i + g = k → rs_pos f d g i = rs_pos f d k 0 → za_W p l e (za_rm 0 0 0) s m args below meth c D 4 (MQ below (za_Q D (fun v h' n' => v = some (vI (nI (rs_pos f d k 0))) ∧ h' = h ∧ n = n')) args s 0 0 (fun q : Nat => D.2.2 ≤ q)) h n 0 0 2 [(0, vR 10), (1, vL d), (3, vI (nI i))] [] [(10, rs_c 10 k vis), (11, rs_g w)] := by
      intro g
      induction g with
      | zero =>
        intro i hi hp
        iterate 3 refine za_step X rfl rfl rfl ?_
        refine za_icge X 30 rfl (by decide) (fun q1 => ?_) (fun q1 => ?_)
        · iterate 1 refine za_step X rfl rfl rfl ?_
          exact za_iret X rfl ⟨by rw [← hp]; rfl, hfin, rfl⟩ (Nat.le_refl _) (Nat.le_refl _)
        · exact absurd ((nI_leI (by omega) (by omega)).mpr (by omega)) q1
      | succ g ih =>
        intro i hi hp
        have hwi : za_ov h [(10, rs_c 10 k vis), (11, rs_g w)] (w i) = some (wr_c (f i)) := by
          have := hrg i (by omega)
          rw [za_ov2, za_set_ne (by omega), za_set_ne (by omega)]
          exact hf i (by omega)
        have hci : (nI i).toNatClampNeg = i := nI_clamp (by omega)
        rcases hfi : f i with ⟨ax, ay, ao, ae, ad, ac, av⟩
        rw [hfi] at hwi
        iterate 3 refine za_step X rfl rfl rfl ?_
        refine za_icge X 30 rfl (by decide) (fun q1 => ?_) (fun q1 => ?_)
        · exact absurd ((nI_leI (by omega) (by omega)).mp q1) (by omega)
        · iterate 3 refine za_step X rfl rfl rfl ?_
          refine za_aald X rfl rfl rfl (vp_in_nI (by omega) (by decide)) ?_
          rw [hci]
          refine za_getH X rfl hwi rfl rfl ?_
          iterate 2 refine za_step X rfl rfl rfl ?_
          refine za_ifge X 30 rfl (by decide) (fun q2 => ?_) (fun q2 => ?_)
          · iterate 1 refine za_step X rfl rfl rfl ?_
            have q3 : ¬ ad < d := lg_neg.mp q2
            exact za_iret X rfl ⟨by rw [← hp, show rs_pos f d (g + 1) i = i from if_neg (by rw [hfi]; exact q3)], hfin, rfl⟩ (Nat.le_refl _) (Nat.le_refl _)
          · have q3 : ad < d := by
              by_cases z : ad < d
              · exact z
              · exact absurd (lg_neg.mpr z) q2
            iterate 2 refine za_step X rfl rfl rfl ?_
            rw [show nI i + Int32.ofInt 1 = nI (i + 1) from nI_1 i]
            refine za_loc [(0, vR 10), (1, vL d), (3, vI (nI (i + 1)))] rfl (ih (i + 1) (by omega) ?_)
            rw [← hp, show rs_pos f d (g + 1) i = rs_pos f d g (i + 1) from if_pos (by rw [hfi]; exact q3)]
    iterate 2 refine za_step X rfl rfl rfl ?_
    exact za_loc [(0, vR 10), (1, vL d), (3, vI (nI 0))] rfl (loop k 0 (by omega) rfl)
  · refine za_enter cd_R_firstNotBefore fl_R (by decide) cdok_R_firstNotBefore flok_R (Nat.le_of_ble_eq_true rfl) ?_
    intro p e s m args below meth c X hnm
    refine za_view [(76, rs_c 76 k vis), (77, rs_g w)] (by simp [hr, hg]) ?_
    have hfin : za_ov h [(76, rs_c 76 k vis), (77, rs_g w)] = h := by rw [za_ov2, za_set_same hg, za_set_same hr]
    have loop : ∀ (g i : Nat), i + g = k → rs_pos f d g i = rs_pos f d k 0 → za_W p l e (za_rm 0 0 0) s m args below meth c D 4 (MQ below (za_Q D (fun v h' n' => v = some (vI (nI (rs_pos f d k 0))) ∧ h' = h ∧ n = n')) args s 0 0 (fun q : Nat => D.2.2 ≤ q)) h n 0 0 2 [(0, vR 76), (1, vL d), (3, vI (nI i))] [] [(76, rs_c 76 k vis), (77, rs_g w)] := by
      intro g
      induction g with
      | zero =>
        intro i hi hp
        iterate 3 refine za_step X rfl rfl rfl ?_
        refine za_icge X 30 rfl (by decide) (fun q1 => ?_) (fun q1 => ?_)
        · iterate 1 refine za_step X rfl rfl rfl ?_
          exact za_iret X rfl ⟨by rw [← hp]; rfl, hfin, rfl⟩ (Nat.le_refl _) (Nat.le_refl _)
        · exact absurd ((nI_leI (by omega) (by omega)).mpr (by omega)) q1
      | succ g ih =>
        intro i hi hp
        have hwi : za_ov h [(76, rs_c 76 k vis), (77, rs_g w)] (w i) = some (wr_c (f i)) := by
          have := hrg i (by omega)
          rw [za_ov2, za_set_ne (by omega), za_set_ne (by omega)]
          exact hf i (by omega)
        have hci : (nI i).toNatClampNeg = i := nI_clamp (by omega)
        rcases hfi : f i with ⟨ax, ay, ao, ae, ad, ac, av⟩
        rw [hfi] at hwi
        iterate 3 refine za_step X rfl rfl rfl ?_
        refine za_icge X 30 rfl (by decide) (fun q1 => ?_) (fun q1 => ?_)
        · exact absurd ((nI_leI (by omega) (by omega)).mp q1) (by omega)
        · iterate 3 refine za_step X rfl rfl rfl ?_
          refine za_aald X rfl rfl rfl (vp_in_nI (by omega) (by decide)) ?_
          rw [hci]
          refine za_getH X rfl hwi rfl rfl ?_
          iterate 2 refine za_step X rfl rfl rfl ?_
          refine za_ifge X 30 rfl (by decide) (fun q2 => ?_) (fun q2 => ?_)
          · iterate 1 refine za_step X rfl rfl rfl ?_
            have q3 : ¬ ad < d := lg_neg.mp q2
            exact za_iret X rfl ⟨by rw [← hp, show rs_pos f d (g + 1) i = i from if_neg (by rw [hfi]; exact q3)], hfin, rfl⟩ (Nat.le_refl _) (Nat.le_refl _)
          · have q3 : ad < d := by
              by_cases z : ad < d
              · exact z
              · exact absurd (lg_neg.mpr z) q2
            iterate 2 refine za_step X rfl rfl rfl ?_
            rw [show nI i + Int32.ofInt 1 = nI (i + 1) from nI_1 i]
            refine za_loc [(0, vR 76), (1, vL d), (3, vI (nI (i + 1)))] rfl (ih (i + 1) (by omega) ?_)
            rw [← hp, show rs_pos f d (g + 1) i = rs_pos f d g (i + 1) from if_pos (by rw [hfi]; exact q3)]
    iterate 2 refine za_step X rfl rfl rfl ?_
    exact za_loc [(0, vR 76), (1, vL d), (3, vI (nI 0))] rfl (loop k 0 (by omega) rfl)
end
section
set_option maxHeartbeats 4000000 in
set_option maxRecDepth 100000 in
theorem c_R_makeRoom (l : Launch) (D : za_D) (h : za_H) (n : Nat) (rid : Nat) (hrid : rid = 10 ∨ rid = 76) (w : Nat → Nat) (k j : Nat) (vis : Int32) (hr : h rid = some (rs_c rid k vis)) (hg : h (rid + 1) = some (rs_g w)) (hw : ∀ i, i < 64 → ∃ q, h (w i) = some (wr_c q)) (hrg : ∀ i, i < 64 → rid + 2 ≤ w i ∧ w i < rid + 66) (hj : j ≤ k) (hk : k < 64) : za_M l D Y_R_makeRoom 0 0 0 [vR rid, vI (nI j)] h n (fun v h' n' => v = none ∧ h' = za_set (za_set h (rid + 1) (rs_g (rs_rot w j k))) rid (rs_c rid (k + 1) vis) ∧ n = n') := by
  rcases hrid with rfl | rfl
  · refine za_enter cd_R_makeRoom fl_R (by decide) cdok_R_makeRoom flok_R (Nat.le_of_ble_eq_true rfl) ?_
    intro p e s m args below meth c X hnm
    have hwo : ∀ (g : Nat → Nat) (i : Nat), i < 64 → ∃ q, za_ov h [(10, rs_c 10 k vis), (11, rs_g (g))] (w i) = some (wr_c q) := by
      intro g i hi
      have := hrg i hi
      rw [za_ov2, za_set_ne (by omega), za_set_ne (by omega)]
      exact hw i hi
    have hck : (nI k).toNatClampNeg = k := nI_clamp (by omega)
    have hcj : (nI j).toNatClampNeg = j := nI_clamp (by omega)
    have loop : ∀ (g i : Nat), i = j + g → i ≤ k → za_W p l e (za_rm 0 0 0) s m args below meth c D 4 (MQ below (za_Q D (fun v h' n' => v = none ∧ h' = za_set (za_set h (10 + 1) (rs_g (rs_rot w j k))) 10 (rs_c 10 (k + 1) vis) ∧ n = n')) args s 0 0 (fun q : Nat => D.2.2 ≤ q)) h n 0 0 15 [(0, vR 10), (1, vI (nI j)), (2, vR (w k)), (3, vI (nI i))] [] [(10, rs_c 10 k vis), (11, rs_g (rs_mv w i k))] := by
      intro g
      induction g with
      | zero =>
        intro i hi hik
        have hi2 : i = j := by omega
        subst hi2
        iterate 2 refine za_step X rfl rfl rfl ?_
        refine za_icle X 40 rfl (by decide) (fun q1 => ?_) (fun q1 => ?_)
        · iterate 4 refine za_step X rfl rfl rfl ?_
          obtain ⟨⟨ax, ay, ao, ae, ad, ac, av⟩, hq⟩ := hwo (rs_mv w i k) k hk
          refine za_aast X rfl rfl rfl hq rfl (vp_in_nI (by omega) (by decide)) ?_
          refine za_look (h1 := h) (v1 := [(10, rs_c 10 k vis), (11, rs_g (rs_rot w i k))]) ?_ ?_
          · show za_ov h [(10, rs_c 10 k vis), (11, rs_g (rs_rot w i k))] = za_ov h [(10, rs_c 10 k vis), (11, .inl (2, 64, .inr (.inr (va_up (fun p => some (rs_mv w i k p)) (nI i).toNatClampNeg (some (w k))))))]
            rw [hcj, rs_g_up]
            rfl
          · iterate 6 refine za_step X rfl rfl rfl ?_
            refine za_vret X rfl ⟨rfl, ?_, rfl⟩ (Nat.le_refl _) (Nat.le_refl _)
            show za_ov h [(10, .inr (zn_R, [vR (10 + 1), vI (nI k + 1), vI vis])), (11, rs_g (rs_rot w i k))] = _
            rw [nI_1]
            exact za_ov2 h 10 11 (rs_c 10 (k + 1) vis) (rs_g (rs_rot w i k))
        · exact absurd ((nI_leI (by omega) (by omega)).mpr (by omega)) q1
      | succ g ih =>
        intro i hi hik
        obtain ⟨i', rfl⟩ : ∃ i', i = i' + 1 := ⟨j + g, by omega⟩
        have hci : (nI i').toNatClampNeg = i' := nI_clamp (by omega)
        have hci1 : (nI (i' + 1)).toNatClampNeg = i' + 1 := nI_clamp (by omega)
        iterate 2 refine za_step X rfl rfl rfl ?_
        refine za_icle X 40 rfl (by decide) (fun q1 => ?_) (fun q1 => ?_)
        · exact absurd ((nI_leI (by omega) (by omega)).mp q1) (by omega)
        · iterate 8 refine za_step X rfl rfl rfl ?_
          rw [show nI (i' + 1) - Int32.ofInt 1 = nI i' from nI_pred i']
          refine za_aald X rfl rfl rfl (vp_in_nI (by omega) (by decide)) ?_
          rw [hci]
          obtain ⟨⟨ax, ay, ao, ae, ad, ac, av⟩, hq⟩ := hwo (rs_mv w (i' + 1) k) i' (by omega)
          have hmv : rs_mv w (i' + 1) k i' = w i' := by unfold rs_mv; rw [if_neg (by omega)]
          rw [← hmv] at hq
          refine za_aast X rfl rfl rfl hq rfl (vp_in_nI (by omega) (by decide)) ?_
          refine za_look (h1 := h) (v1 := [(10, rs_c 10 k vis), (11, rs_g (rs_mv w i' k))]) ?_ ?_
          · show za_ov h [(10, rs_c 10 k vis), (11, rs_g (rs_mv w i' k))] = za_ov h [(10, rs_c 10 k vis), (11, .inl (2, 64, .inr (.inr (va_up (fun p => some (rs_mv w (i' + 1) k p)) (nI (i' + 1)).toNatClampNeg (some (rs_mv w (i' + 1) k i'))))))]
            have e9 := rs_mv_s (w := w) (i := i') (k := k) (by omega)
            rw [if_pos (by omega)] at e9
            rw [hci1, rs_g_up]
            show za_ov h [(10, rs_c 10 k vis), (11, rs_g (rs_mv w i' k))] = za_ov h [(10, rs_c 10 k vis), (11, rs_g (fun p => if p = i' + 1 then rs_mv w (i' + 1) k i' else rs_mv w (i' + 1) k p))]
            rw [e9]
          · iterate 2 refine za_step X rfl rfl rfl ?_
            rw [show nI (i' + 1) + Int32.ofInt (-1) = nI i' from pk_m1 i']
            exact za_loc [(0, vR 10), (1, vI (nI j)), (2, vR (w k)), (3, vI (nI i'))] rfl (ih i' (by omega) (by omega))
    refine za_view [(10, rs_c 10 k vis), (11, rs_g (w))] (by simp [hr, hg]) ?_
    iterate 4 refine za_step X rfl rfl rfl ?_
    refine za_aald X rfl rfl rfl (vp_in_nI (by omega) (by decide)) ?_
    rw [hck]
    iterate 4 refine za_step X rfl rfl rfl ?_
    have := loop (k - j) k (by omega) (Nat.le_refl _)
    rw [rs_mv_0] at this
    exact za_loc [(0, vR 10), (1, vI (nI j)), (2, vR (w k)), (3, vI (nI k))] rfl this
  · refine za_enter cd_R_makeRoom fl_R (by decide) cdok_R_makeRoom flok_R (Nat.le_of_ble_eq_true rfl) ?_
    intro p e s m args below meth c X hnm
    have hwo : ∀ (g : Nat → Nat) (i : Nat), i < 64 → ∃ q, za_ov h [(76, rs_c 76 k vis), (77, rs_g (g))] (w i) = some (wr_c q) := by
      intro g i hi
      have := hrg i hi
      rw [za_ov2, za_set_ne (by omega), za_set_ne (by omega)]
      exact hw i hi
    have hck : (nI k).toNatClampNeg = k := nI_clamp (by omega)
    have hcj : (nI j).toNatClampNeg = j := nI_clamp (by omega)
    have loop : ∀ (g i : Nat), i = j + g → i ≤ k → za_W p l e (za_rm 0 0 0) s m args below meth c D 4 (MQ below (za_Q D (fun v h' n' => v = none ∧ h' = za_set (za_set h (76 + 1) (rs_g (rs_rot w j k))) 76 (rs_c 76 (k + 1) vis) ∧ n = n')) args s 0 0 (fun q : Nat => D.2.2 ≤ q)) h n 0 0 15 [(0, vR 76), (1, vI (nI j)), (2, vR (w k)), (3, vI (nI i))] [] [(76, rs_c 76 k vis), (77, rs_g (rs_mv w i k))] := by
      intro g
      induction g with
      | zero =>
        intro i hi hik
        have hi2 : i = j := by omega
        subst hi2
        iterate 2 refine za_step X rfl rfl rfl ?_
        refine za_icle X 40 rfl (by decide) (fun q1 => ?_) (fun q1 => ?_)
        · iterate 4 refine za_step X rfl rfl rfl ?_
          obtain ⟨⟨ax, ay, ao, ae, ad, ac, av⟩, hq⟩ := hwo (rs_mv w i k) k hk
          refine za_aast X rfl rfl rfl hq rfl (vp_in_nI (by omega) (by decide)) ?_
          refine za_look (h1 := h) (v1 := [(76, rs_c 76 k vis), (77, rs_g (rs_rot w i k))]) ?_ ?_
          · show za_ov h [(76, rs_c 76 k vis), (77, rs_g (rs_rot w i k))] = za_ov h [(76, rs_c 76 k vis), (77, .inl (2, 64, .inr (.inr (va_up (fun p => some (rs_mv w i k p)) (nI i).toNatClampNeg (some (w k))))))]
            rw [hcj, rs_g_up]
            rfl
          · iterate 6 refine za_step X rfl rfl rfl ?_
            refine za_vret X rfl ⟨rfl, ?_, rfl⟩ (Nat.le_refl _) (Nat.le_refl _)
            show za_ov h [(76, .inr (zn_R, [vR (76 + 1), vI (nI k + 1), vI vis])), (77, rs_g (rs_rot w i k))] = _
            rw [nI_1]
            exact za_ov2 h 76 77 (rs_c 76 (k + 1) vis) (rs_g (rs_rot w i k))
        · exact absurd ((nI_leI (by omega) (by omega)).mpr (by omega)) q1
      | succ g ih =>
        intro i hi hik
        obtain ⟨i', rfl⟩ : ∃ i', i = i' + 1 := ⟨j + g, by omega⟩
        have hci : (nI i').toNatClampNeg = i' := nI_clamp (by omega)
        have hci1 : (nI (i' + 1)).toNatClampNeg = i' + 1 := nI_clamp (by omega)
        iterate 2 refine za_step X rfl rfl rfl ?_
        refine za_icle X 40 rfl (by decide) (fun q1 => ?_) (fun q1 => ?_)
        · exact absurd ((nI_leI (by omega) (by omega)).mp q1) (by omega)
        · iterate 8 refine za_step X rfl rfl rfl ?_
          rw [show nI (i' + 1) - Int32.ofInt 1 = nI i' from nI_pred i']
          refine za_aald X rfl rfl rfl (vp_in_nI (by omega) (by decide)) ?_
          rw [hci]
          obtain ⟨⟨ax, ay, ao, ae, ad, ac, av⟩, hq⟩ := hwo (rs_mv w (i' + 1) k) i' (by omega)
          have hmv : rs_mv w (i' + 1) k i' = w i' := by unfold rs_mv; rw [if_neg (by omega)]
          rw [← hmv] at hq
          refine za_aast X rfl rfl rfl hq rfl (vp_in_nI (by omega) (by decide)) ?_
          refine za_look (h1 := h) (v1 := [(76, rs_c 76 k vis), (77, rs_g (rs_mv w i' k))]) ?_ ?_
          · show za_ov h [(76, rs_c 76 k vis), (77, rs_g (rs_mv w i' k))] = za_ov h [(76, rs_c 76 k vis), (77, .inl (2, 64, .inr (.inr (va_up (fun p => some (rs_mv w (i' + 1) k p)) (nI (i' + 1)).toNatClampNeg (some (rs_mv w (i' + 1) k i'))))))]
            have e9 := rs_mv_s (w := w) (i := i') (k := k) (by omega)
            rw [if_pos (by omega)] at e9
            rw [hci1, rs_g_up]
            show za_ov h [(76, rs_c 76 k vis), (77, rs_g (rs_mv w i' k))] = za_ov h [(76, rs_c 76 k vis), (77, rs_g (fun p => if p = i' + 1 then rs_mv w (i' + 1) k i' else rs_mv w (i' + 1) k p))]
            rw [e9]
          · iterate 2 refine za_step X rfl rfl rfl ?_
            rw [show nI (i' + 1) + Int32.ofInt (-1) = nI i' from pk_m1 i']
            exact za_loc [(0, vR 76), (1, vI (nI j)), (2, vR (w k)), (3, vI (nI i'))] rfl (ih i' (by omega) (by omega))
    refine za_view [(76, rs_c 76 k vis), (77, rs_g (w))] (by simp [hr, hg]) ?_
    iterate 4 refine za_step X rfl rfl rfl ?_
    refine za_aald X rfl rfl rfl (vp_in_nI (by omega) (by decide)) ?_
    rw [hck]
    iterate 4 refine za_step X rfl rfl rfl ?_
    have := loop (k - j) k (by omega) (Nat.le_refl _)
    rw [rs_mv_0] at this
    exact za_loc [(0, vR 76), (1, vI (nI j)), (2, vR (w k)), (3, vI (nI k))] rfl this
end
section
def rs_fa (f : Nat → wr_T) (T : tr_T) : Nat → Nat → Nat
  | 0, i => i
  | m + 1, i => if wr_ag (f i) T = true then i else rs_fa f T m (i + 1)
def wr_in : wr_T → Int32 | (x, y, _, _, _, _, _) => (x <<< ((4 : Int32) &&& 31)) + y
def wr_ou (q : wr_T) : Int32 := q.2.2.1
def rs_li (f : Nat → wr_T) (o : Int32) : Nat → Nat → Int32 → Int32
  | 0, _, a => a
  | m + 1, i, a => rs_li f o m (i + 1) (if wr_ou (f i) = o then (if wr_in (f i) < a then wr_in (f i) else a) else a)
theorem za_ov3 (h : za_H) (i j k : Nat) (c d e : za_C) : za_ov h [(i, c), (j, d), (k, e)] = za_set (za_set (za_set h k e) j d) i c := by
  funext q
  show (match za_vg [(i, c), (j, d), (k, e)] q with | some c => some c | none => h q) = _
  rw [za_vg_cons, za_vg_cons, za_vg_cons]
  by_cases e1 : i = q
  · subst e1; rw [if_pos rfl, za_set_eq]
  · rw [if_neg e1, za_set_ne (fun z => e1 z.symm)]
    by_cases e2 : j = q
    · subst e2; rw [if_pos rfl, za_set_eq]
    · rw [if_neg e2, za_set_ne (fun z => e2 z.symm)]
      by_cases e3 : k = q
      · subst e3; rw [if_pos rfl, za_set_eq]
      · rw [if_neg e3, za_set_ne (fun z => e3 z.symm)]; rfl
set_option maxHeartbeats 4000000 in
set_option maxRecDepth 100000 in
theorem c_R_firstAgreeing (l : Launch) (D : za_D) (h : za_H) (n : Nat) (rid : Nat) (hrid : rid = 10 ∨ rid = 76) (w : Nat → Nat) (k : Nat) (f : Nat → wr_T) (hS : rs_at h rid w (k, f)) (T : tr_T) (hT : h 8 = some (tr_c 8 T)) : za_M l D Y_R_firstAgreeing 1 0 0 [vR rid, vR 8] h n (fun v h' n' => v = some (vI (nI (rs_fa f T k 0))) ∧ h' = h ∧ n = n') := by
  obtain ⟨r, pl, la, dn, vi, de, ct, en, ou, ed⟩ := T
  obtain ⟨hr, hg, hw, hf, hrg, hij, hk⟩ := hS
  dsimp only at hr hf hk
  generalize rs_or f k = vis at hr
  rcases hrid with rfl | rfl
  · refine za_enter cd_R_firstAgreeing fl_R (by decide) cdok_R_firstAgreeing flok_R (Nat.le_of_ble_eq_true rfl) ?_
    intro p e s m args below meth c X hnm
    have hfin : za_ov h [(10, rs_c 10 k vis), (11, rs_g w), (8, tr_c 8 (r, pl, la, dn, vi, de, ct, en, ou, ed))] = h := by rw [za_ov3, za_set_same hT, za_set_same hg, za_set_same hr]
    have loop : ∀ (g i : Nat), i + g = k → rs_fa f (r, pl, la, dn, vi, de, ct, en, ou, ed) g i = rs_fa f (r, pl, la, dn, vi, de, ct, en, ou, ed) k 0 → za_W p l e (za_rm 1 0 0) s m args below meth c D 3 (MQ below (za_Q D (fun v h' n' => v = some (vI (nI (rs_fa f (r, pl, la, dn, vi, de, ct, en, ou, ed) k 0))) ∧ h' = h ∧ n = n')) args s 0 0 (fun q : Nat => D.2.2 ≤ q)) h n 0 0 2 [(0, vR 10), (1, vR 8), (2, vI (nI i))] [] [(10, rs_c 10 k vis), (11, rs_g w), (8, tr_c 8 (r, pl, la, dn, vi, de, ct, en, ou, ed))] := by
      intro g
      induction g with
      | zero =>
        intro i hi hp
        iterate 3 refine za_step X rfl rfl rfl ?_
        refine za_icge X 29 rfl (by decide) (fun q1 => ?_) (fun q1 => ?_)
        · iterate 1 refine za_step X rfl rfl rfl ?_
          exact za_iret X rfl ⟨by rw [← hp]; rfl, hfin, rfl⟩ (Nat.le_refl _) (Nat.le_refl _)
        · exact absurd ((nI_leI (by omega) (by omega)).mpr (by omega)) q1
      | succ g ih =>
        intro i hi hp
        have hrgi := hrg i (by omega)
        have hwi : za_ov h [(10, rs_c 10 k vis), (11, rs_g w), (8, tr_c 8 (r, pl, la, dn, vi, de, ct, en, ou, ed))] (w i) = some (wr_c (f i)) := by rw [hfin]; exact hf i (by omega)
        have hci : (nI i).toNatClampNeg = i := nI_clamp (by omega)
        iterate 3 refine za_step X rfl rfl rfl ?_
        refine za_icge X 29 rfl (by decide) (fun q1 => ?_) (fun q1 => ?_)
        · exact absurd ((nI_leI (by omega) (by omega)).mp q1) (by omega)
        · iterate 3 refine za_step X rfl rfl rfl ?_
          refine za_aald X rfl rfl rfl (vp_in_nI (by omega) (by decide)) ?_
          rw [hci]
          iterate 1 refine za_step X rfl rfl rfl ?_
          refine za_callV (b := w i) (d := 0) (mc := 0) (ms := 0) (as := [vR 8]) (rest := []) X rfl cl_R_W_agreesWith cy_W_agreesWith cv_W_agreesWith (c_W_agreesWith l D (za_ov h [(10, rs_c 10 k vis), (11, rs_g w), (8, tr_c 8 (r, pl, la, dn, vi, de, ct, en, ou, ed))]) n (w i) (by omega) (f i) hwi (r, pl, la, dn, vi, de, ct, en, ou, ed) rfl) rfl rfl hwi rfl (Nat.le_of_ble_eq_true rfl) (Nat.le_of_ble_eq_true rfl) (Nat.le_of_ble_eq_true rfl) (Nat.le_of_ble_eq_true rfl) (Nat.le_of_ble_eq_true rfl) (fun v h' n' hq => ?_)
          obtain ⟨rfl, rfl, rfl⟩ := hq
          refine za_look (h1 := h) (v1 := [(10, rs_c 10 k vis), (11, rs_g w), (8, tr_c 8 (r, pl, la, dn, vi, de, ct, en, ou, ed))]) rfl ?_
          refine za_ifne X 29 rfl (by decide) (fun q2 => ?_) (fun q2 => ?_)
          · iterate 1 refine za_step X rfl rfl rfl ?_
            exact za_iret X rfl ⟨by rw [← hp, show rs_fa f (r, pl, la, dn, vi, de, ct, en, ou, ed) (g + 1) i = i from if_pos (bI_n0 q2)], hfin, rfl⟩ (Nat.le_refl _) (Nat.le_refl _)
          · iterate 2 refine za_step X rfl rfl rfl ?_
            rw [show nI i + Int32.ofInt 1 = nI (i + 1) from nI_1 i]
            refine za_loc [(0, vR 10), (1, vR 8), (2, vI (nI (i + 1)))] rfl (ih (i + 1) (by omega) ?_)
            rw [← hp, show rs_fa f (r, pl, la, dn, vi, de, ct, en, ou, ed) (g + 1) i = rs_fa f (r, pl, la, dn, vi, de, ct, en, ou, ed) g (i + 1) from if_neg (by rw [bI_0 q2]; decide)]
    refine za_view [(10, rs_c 10 k vis), (11, rs_g w), (8, tr_c 8 (r, pl, la, dn, vi, de, ct, en, ou, ed))] (by simp [hr, hg, hT]) ?_
    iterate 2 refine za_step X rfl rfl rfl ?_
    exact za_loc [(0, vR 10), (1, vR 8), (2, vI (nI 0))] rfl (loop k 0 (by omega) rfl)
  · refine za_enter cd_R_firstAgreeing fl_R (by decide) cdok_R_firstAgreeing flok_R (Nat.le_of_ble_eq_true rfl) ?_
    intro p e s m args below meth c X hnm
    have hfin : za_ov h [(76, rs_c 76 k vis), (77, rs_g w), (8, tr_c 8 (r, pl, la, dn, vi, de, ct, en, ou, ed))] = h := by rw [za_ov3, za_set_same hT, za_set_same hg, za_set_same hr]
    have loop : ∀ (g i : Nat), i + g = k → rs_fa f (r, pl, la, dn, vi, de, ct, en, ou, ed) g i = rs_fa f (r, pl, la, dn, vi, de, ct, en, ou, ed) k 0 → za_W p l e (za_rm 1 0 0) s m args below meth c D 3 (MQ below (za_Q D (fun v h' n' => v = some (vI (nI (rs_fa f (r, pl, la, dn, vi, de, ct, en, ou, ed) k 0))) ∧ h' = h ∧ n = n')) args s 0 0 (fun q : Nat => D.2.2 ≤ q)) h n 0 0 2 [(0, vR 76), (1, vR 8), (2, vI (nI i))] [] [(76, rs_c 76 k vis), (77, rs_g w), (8, tr_c 8 (r, pl, la, dn, vi, de, ct, en, ou, ed))] := by
      intro g
      induction g with
      | zero =>
        intro i hi hp
        iterate 3 refine za_step X rfl rfl rfl ?_
        refine za_icge X 29 rfl (by decide) (fun q1 => ?_) (fun q1 => ?_)
        · iterate 1 refine za_step X rfl rfl rfl ?_
          exact za_iret X rfl ⟨by rw [← hp]; rfl, hfin, rfl⟩ (Nat.le_refl _) (Nat.le_refl _)
        · exact absurd ((nI_leI (by omega) (by omega)).mpr (by omega)) q1
      | succ g ih =>
        intro i hi hp
        have hrgi := hrg i (by omega)
        have hwi : za_ov h [(76, rs_c 76 k vis), (77, rs_g w), (8, tr_c 8 (r, pl, la, dn, vi, de, ct, en, ou, ed))] (w i) = some (wr_c (f i)) := by rw [hfin]; exact hf i (by omega)
        have hci : (nI i).toNatClampNeg = i := nI_clamp (by omega)
        iterate 3 refine za_step X rfl rfl rfl ?_
        refine za_icge X 29 rfl (by decide) (fun q1 => ?_) (fun q1 => ?_)
        · exact absurd ((nI_leI (by omega) (by omega)).mp q1) (by omega)
        · iterate 3 refine za_step X rfl rfl rfl ?_
          refine za_aald X rfl rfl rfl (vp_in_nI (by omega) (by decide)) ?_
          rw [hci]
          iterate 1 refine za_step X rfl rfl rfl ?_
          refine za_callV (b := w i) (d := 0) (mc := 0) (ms := 0) (as := [vR 8]) (rest := []) X rfl cl_R_W_agreesWith cy_W_agreesWith cv_W_agreesWith (c_W_agreesWith l D (za_ov h [(76, rs_c 76 k vis), (77, rs_g w), (8, tr_c 8 (r, pl, la, dn, vi, de, ct, en, ou, ed))]) n (w i) (by omega) (f i) hwi (r, pl, la, dn, vi, de, ct, en, ou, ed) rfl) rfl rfl hwi rfl (Nat.le_of_ble_eq_true rfl) (Nat.le_of_ble_eq_true rfl) (Nat.le_of_ble_eq_true rfl) (Nat.le_of_ble_eq_true rfl) (Nat.le_of_ble_eq_true rfl) (fun v h' n' hq => ?_)
          obtain ⟨rfl, rfl, rfl⟩ := hq
          refine za_look (h1 := h) (v1 := [(76, rs_c 76 k vis), (77, rs_g w), (8, tr_c 8 (r, pl, la, dn, vi, de, ct, en, ou, ed))]) rfl ?_
          refine za_ifne X 29 rfl (by decide) (fun q2 => ?_) (fun q2 => ?_)
          · iterate 1 refine za_step X rfl rfl rfl ?_
            exact za_iret X rfl ⟨by rw [← hp, show rs_fa f (r, pl, la, dn, vi, de, ct, en, ou, ed) (g + 1) i = i from if_pos (bI_n0 q2)], hfin, rfl⟩ (Nat.le_refl _) (Nat.le_refl _)
          · iterate 2 refine za_step X rfl rfl rfl ?_
            rw [show nI i + Int32.ofInt 1 = nI (i + 1) from nI_1 i]
            refine za_loc [(0, vR 76), (1, vR 8), (2, vI (nI (i + 1)))] rfl (ih (i + 1) (by omega) ?_)
            rw [← hp, show rs_fa f (r, pl, la, dn, vi, de, ct, en, ou, ed) (g + 1) i = rs_fa f (r, pl, la, dn, vi, de, ct, en, ou, ed) g (i + 1) from if_neg (by rw [bI_0 q2]; decide)]
    refine za_view [(76, rs_c 76 k vis), (77, rs_g w), (8, tr_c 8 (r, pl, la, dn, vi, de, ct, en, ou, ed))] (by simp [hr, hg, hT]) ?_
    iterate 2 refine za_step X rfl rfl rfl ?_
    exact za_loc [(0, vR 76), (1, vR 8), (2, vI (nI 0))] rfl (loop k 0 (by omega) rfl)
theorem wr_cu (q : wr_T) : ∃ (x y ou ed : Int32) (de : Int64) (ct vi : Int32), q = (x, y, ou, ed, de, ct, vi) := ⟨_, _, _, _, _, _, _, rfl⟩
set_option maxHeartbeats 4000000 in
set_option maxRecDepth 100000 in
theorem c_R_leastInputs (l : Launch) (D : za_D) (h : za_H) (n : Nat) (rid : Nat) (hrid : rid = 10 ∨ rid = 76) (w : Nat → Nat) (k : Nat) (f : Nat → wr_T) (hS : rs_at h rid w (k, f)) (o : Int32) : za_M l D Y_R_leastInputs 1 0 0 [vR rid, vI o] h n (fun v h' n' => v = some (vI (rs_li f o k 0 256)) ∧ h' = h ∧ n = n') := by
  obtain ⟨hr, hg, hw, hf, hrg, hij, hk⟩ := hS
  dsimp only at hr hf hk
  generalize rs_or f k = vis at hr
  rcases hrid with rfl | rfl
  · refine za_enter cd_R_leastInputs fl_R (by decide) cdok_R_leastInputs flok_R (Nat.le_of_ble_eq_true rfl) ?_
    intro p e s m args below meth c X hnm
    have hfin : za_ov h [(10, rs_c 10 k vis), (11, rs_g w)] = h := by rw [za_ov2, za_set_same hg, za_set_same hr]
    have loop : ∀ (g i : Nat) (a : Int32), i + g = k → rs_li f o g i a = rs_li f o k 0 256 → za_W p l e (za_rm 1 0 0) s m args below meth c D 4 (MQ below (za_Q D (fun v h' n' => v = some (vI (rs_li f o k 0 256)) ∧ h' = h ∧ n = n')) args s 0 0 (fun q : Nat => D.2.2 ≤ q)) h n 0 0 6 [(0, vR 10), (1, vI o), (2, vI a), (3, vI (nI i))] [] [(10, rs_c 10 k vis), (11, rs_g w)] := by
      intro g
      induction g with
      | zero =>
        intro i a hi hp
        iterate 3 refine za_step X rfl rfl rfl ?_
        refine za_icge X 59 rfl (by decide) (fun q1 => ?_) (fun q1 => ?_)
        · iterate 1 refine za_step X rfl rfl rfl ?_
          exact za_iret X rfl ⟨by rw [← hp]; rfl, hfin, rfl⟩ (Nat.le_refl _) (Nat.le_refl _)
        · exact absurd ((nI_leI (by omega) (by omega)).mpr (by omega)) q1
      | succ g ih =>
        intro i a hi hp
        have hwi : za_ov h [(10, rs_c 10 k vis), (11, rs_g w)] (w i) = some (wr_c (f i)) := by rw [hfin]; exact hf i (by omega)
        have hci : (nI i).toNatClampNeg = i := nI_clamp (by omega)
        obtain ⟨ax, ay, ao, ae, ad, ac, av, hfi⟩ := wr_cu (f i)
        rw [hfi] at hwi
        have hp2 : rs_li f o g (i + 1) (if ao = o then (if (ax <<< ((4 : Int32) &&& 31)) + ay < a then (ax <<< ((4 : Int32) &&& 31)) + ay else a) else a) = rs_li f o k 0 256 := by
          rw [← hp]
          show _ = rs_li f o g (i + 1) (if wr_ou (f i) = o then (if wr_in (f i) < a then wr_in (f i) else a) else a)
          rw [hfi]
          rfl
        iterate 3 refine za_step X rfl rfl rfl ?_
        refine za_icge X 59 rfl (by decide) (fun q1 => ?_) (fun q1 => ?_)
        · exact absurd ((nI_leI (by omega) (by omega)).mp q1) (by omega)
        · iterate 3 refine za_step X rfl rfl rfl ?_
          refine za_aald X rfl rfl rfl (vp_in_nI (by omega) (by decide)) ?_
          rw [hci]
          refine za_getH X rfl hwi rfl rfl ?_
          iterate 1 refine za_step X rfl rfl rfl ?_
          refine za_icne X 53 rfl (by decide) (fun q2 => ?_) (fun q2 => ?_)
          · rw [if_neg q2] at hp2
            iterate 2 refine za_step X rfl rfl rfl ?_
            rw [show nI i + Int32.ofInt 1 = nI (i + 1) from nI_1 i]
            exact za_loc [(0, vR 10), (1, vI o), (2, vI a), (3, vI (nI (i + 1)))] rfl (ih (i + 1) a (by omega) hp2)
          · rw [if_pos q2] at hp2
            iterate 4 refine za_step X rfl rfl rfl ?_
            refine za_aald X rfl rfl rfl (vp_in_nI (by omega) (by decide)) ?_
            rw [hci]
            refine za_getH X rfl hwi rfl rfl ?_
            iterate 5 refine za_step X rfl rfl rfl ?_
            refine za_aald X rfl rfl rfl (vp_in_nI (by omega) (by decide)) ?_
            rw [hci]
            refine za_getH X rfl hwi rfl rfl ?_
            iterate 1 refine za_step X rfl rfl rfl ?_
            refine za_min X rfl zmin_R zm_1 zj_Math zm_2 (Nat.le_of_ble_eq_true rfl) (Nat.le_of_ble_eq_true rfl) (Nat.le_of_ble_eq_true rfl) (Nat.le_of_ble_eq_true rfl) (Nat.le_of_ble_eq_true rfl) ?_
            iterate 3 refine za_step X rfl rfl rfl ?_
            rw [show nI i + Int32.ofInt 1 = nI (i + 1) from nI_1 i]
            exact za_loc [(0, vR 10), (1, vI o), (2, vI (if (ax <<< ((4 : Int32) &&& 31)) + ay < a then (ax <<< ((4 : Int32) &&& 31)) + ay else a)), (3, vI (nI (i + 1)))] rfl (ih (i + 1) _ (by omega) hp2)
    refine za_view [(10, rs_c 10 k vis), (11, rs_g w)] (by simp [hr, hg]) ?_
    iterate 4 refine za_step X rfl rfl rfl ?_
    exact za_loc [(0, vR 10), (1, vI o), (2, vI 256), (3, vI (nI 0))] rfl (loop k 0 256 (by omega) rfl)
  · refine za_enter cd_R_leastInputs fl_R (by decide) cdok_R_leastInputs flok_R (Nat.le_of_ble_eq_true rfl) ?_
    intro p e s m args below meth c X hnm
    have hfin : za_ov h [(76, rs_c 76 k vis), (77, rs_g w)] = h := by rw [za_ov2, za_set_same hg, za_set_same hr]
    have loop : ∀ (g i : Nat) (a : Int32), i + g = k → rs_li f o g i a = rs_li f o k 0 256 → za_W p l e (za_rm 1 0 0) s m args below meth c D 4 (MQ below (za_Q D (fun v h' n' => v = some (vI (rs_li f o k 0 256)) ∧ h' = h ∧ n = n')) args s 0 0 (fun q : Nat => D.2.2 ≤ q)) h n 0 0 6 [(0, vR 76), (1, vI o), (2, vI a), (3, vI (nI i))] [] [(76, rs_c 76 k vis), (77, rs_g w)] := by
      intro g
      induction g with
      | zero =>
        intro i a hi hp
        iterate 3 refine za_step X rfl rfl rfl ?_
        refine za_icge X 59 rfl (by decide) (fun q1 => ?_) (fun q1 => ?_)
        · iterate 1 refine za_step X rfl rfl rfl ?_
          exact za_iret X rfl ⟨by rw [← hp]; rfl, hfin, rfl⟩ (Nat.le_refl _) (Nat.le_refl _)
        · exact absurd ((nI_leI (by omega) (by omega)).mpr (by omega)) q1
      | succ g ih =>
        intro i a hi hp
        have hwi : za_ov h [(76, rs_c 76 k vis), (77, rs_g w)] (w i) = some (wr_c (f i)) := by rw [hfin]; exact hf i (by omega)
        have hci : (nI i).toNatClampNeg = i := nI_clamp (by omega)
        obtain ⟨ax, ay, ao, ae, ad, ac, av, hfi⟩ := wr_cu (f i)
        rw [hfi] at hwi
        have hp2 : rs_li f o g (i + 1) (if ao = o then (if (ax <<< ((4 : Int32) &&& 31)) + ay < a then (ax <<< ((4 : Int32) &&& 31)) + ay else a) else a) = rs_li f o k 0 256 := by
          rw [← hp]
          show _ = rs_li f o g (i + 1) (if wr_ou (f i) = o then (if wr_in (f i) < a then wr_in (f i) else a) else a)
          rw [hfi]
          rfl
        iterate 3 refine za_step X rfl rfl rfl ?_
        refine za_icge X 59 rfl (by decide) (fun q1 => ?_) (fun q1 => ?_)
        · exact absurd ((nI_leI (by omega) (by omega)).mp q1) (by omega)
        · iterate 3 refine za_step X rfl rfl rfl ?_
          refine za_aald X rfl rfl rfl (vp_in_nI (by omega) (by decide)) ?_
          rw [hci]
          refine za_getH X rfl hwi rfl rfl ?_
          iterate 1 refine za_step X rfl rfl rfl ?_
          refine za_icne X 53 rfl (by decide) (fun q2 => ?_) (fun q2 => ?_)
          · rw [if_neg q2] at hp2
            iterate 2 refine za_step X rfl rfl rfl ?_
            rw [show nI i + Int32.ofInt 1 = nI (i + 1) from nI_1 i]
            exact za_loc [(0, vR 76), (1, vI o), (2, vI a), (3, vI (nI (i + 1)))] rfl (ih (i + 1) a (by omega) hp2)
          · rw [if_pos q2] at hp2
            iterate 4 refine za_step X rfl rfl rfl ?_
            refine za_aald X rfl rfl rfl (vp_in_nI (by omega) (by decide)) ?_
            rw [hci]
            refine za_getH X rfl hwi rfl rfl ?_
            iterate 5 refine za_step X rfl rfl rfl ?_
            refine za_aald X rfl rfl rfl (vp_in_nI (by omega) (by decide)) ?_
            rw [hci]
            refine za_getH X rfl hwi rfl rfl ?_
            iterate 1 refine za_step X rfl rfl rfl ?_
            refine za_min X rfl zmin_R zm_1 zj_Math zm_2 (Nat.le_of_ble_eq_true rfl) (Nat.le_of_ble_eq_true rfl) (Nat.le_of_ble_eq_true rfl) (Nat.le_of_ble_eq_true rfl) (Nat.le_of_ble_eq_true rfl) ?_
            iterate 3 refine za_step X rfl rfl rfl ?_
            rw [show nI i + Int32.ofInt 1 = nI (i + 1) from nI_1 i]
            exact za_loc [(0, vR 76), (1, vI o), (2, vI (if (ax <<< ((4 : Int32) &&& 31)) + ay < a then (ax <<< ((4 : Int32) &&& 31)) + ay else a)), (3, vI (nI (i + 1)))] rfl (ih (i + 1) _ (by omega) hp2)
    refine za_view [(76, rs_c 76 k vis), (77, rs_g w)] (by simp [hr, hg]) ?_
    iterate 4 refine za_step X rfl rfl rfl ?_
    exact za_loc [(0, vR 76), (1, vI o), (2, vI 256), (3, vI (nI 0))] rfl (loop k 0 256 (by omega) rfl)
def rs_tk (h : za_H) (rid : Nat) (v : Option za_V) (h' : za_H) (R : Option rs_T) : Prop := match R with
  | none => v = some (vI 0) ∧ h' = h
  | some S => v = some (vI 1) ∧ (∃ w, rs_at h' rid w S) ∧ ∀ j, (j < rid ∨ rid + 66 ≤ j) → h' j = h j
theorem rs_taken {h h3 : za_H} {rid : Nat} {w : Nat → Nat} {k j : Nat} {f : Nat → wr_T} {q : wr_T} (hS : rs_at h rid w (k, f)) (hj : j ≤ k) (hk : k < 64) (e3 : h3 = za_set (za_set (za_set h (rid + 1) (rs_g (rs_rot w j k))) (w k) (wr_c q)) rid (rs_c rid (k + 1) (rs_or f k ||| wr_vi q))) :
    rs_at h3 rid (rs_rot w j k) (k + 1, rs_ins f j q) ∧ ∀ i, (i < rid ∨ rid + 66 ≤ i) → h3 i = h i := by
  obtain ⟨hr, hg, hw, hf, hrg, hij, -⟩ := hS
  dsimp only at hr hf
  have hwk := hrg k hk
  have off : ∀ i, i < 64 → i ≠ k → h3 (w i) = h (w i) := by
    intro i hi hne
    have := hrg i hi
    rw [e3, za_set_ne (by omega), za_set_ne (fun z => hne (hij _ _ hi hk z)), za_set_ne (by omega)]
  have atk : h3 (w k) = some (wr_c q) := by
    rw [e3, za_set_ne (by omega), za_set_eq]
  refine ⟨⟨?_, ?_, ?_, ?_, rs_rot_range hk hrg, rs_rot_inj hk hj hij, by show k + 1 ≤ 64; omega⟩, ?_⟩
  · show h3 rid = some (rs_c rid (k + 1) (rs_or (rs_ins f j q) (k + 1)))
    rw [rs_or_ins f q k j hj, e3, za_set_eq]
  · rw [e3, za_set_ne (by omega), za_set_ne (by omega), za_set_eq]
  · intro i hi
    by_cases e1 : i = j
    · rw [show rs_rot w j k i = w k by unfold rs_rot; rw [if_pos e1]]
      exact ⟨q, atk⟩
    · by_cases e2 : j < i ∧ i ≤ k
      · rw [show rs_rot w j k i = w (i - 1) by unfold rs_rot rs_mv; rw [if_neg e1, if_pos e2], off (i - 1) (by omega) (by omega)]
        exact hw (i - 1) (by omega)
      · rw [show rs_rot w j k i = w i by unfold rs_rot rs_mv; rw [if_neg e1, if_neg e2]]
        by_cases e4 : i = k
        · subst e4; exact ⟨q, atk⟩
        · rw [off i hi e4]; exact hw i hi
  · intro i hi
    have hi2 : i < k + 1 := hi
    show h3 (rs_rot w j k i) = some (wr_c (rs_ins f j q i))
    by_cases e1 : i = j
    · rw [show rs_rot w j k i = w k by unfold rs_rot; rw [if_pos e1], show rs_ins f j q i = q by unfold rs_ins; rw [if_neg (by omega), if_pos e1]]
      exact atk
    · by_cases e2 : j < i ∧ i ≤ k
      · rw [show rs_rot w j k i = w (i - 1) by unfold rs_rot rs_mv; rw [if_neg e1, if_pos e2], off (i - 1) (by omega) (by omega), show rs_ins f j q i = f (i - 1) by unfold rs_ins; rw [if_neg (by omega), if_neg e1]]
        exact hf (i - 1) (by omega)
      · rw [show rs_rot w j k i = w i by unfold rs_rot rs_mv; rw [if_neg e1, if_neg e2], off i (by omega) (by omega), show rs_ins f j q i = f i by unfold rs_ins; rw [if_pos (by omega)]]
        exact hf i (by omega)
  · intro i hi
    rw [e3, za_set_ne (by omega), za_set_ne (by omega), za_set_ne (by omega)]
set_option maxHeartbeats 4000000 in
set_option maxRecDepth 100000 in
theorem c_R_take (l : Launch) (D : za_D) (h : za_H) (n : Nat) (rid : Nat) (hrid : rid = 10 ∨ rid = 76) (w : Nat → Nat) (k : Nat) (f : Nat → wr_T) (hS : rs_at h rid w (k, f)) (T : tr_T) (hT : h 8 = some (tr_c 8 T)) (x y : Int32) : za_M l D Y_R_take 1 0 0 [vR rid, vR 8, vI x, vI y] h n (fun v h' n' => rs_tk h rid v h' (rs_take (k, f) (wr_of T x y)) ∧ n = n') := by
  obtain ⟨r, pl, la, dn, vi, de, ct, en, ou, ed⟩ := T
  have hS0 := hS
  obtain ⟨hr, hg, hw, hf, hrg, hij, hk⟩ := hS
  dsimp only at hr hf hk
  generalize hj : rs_pos f de k 0 = j
  have hjk : j ≤ k := by have := (rs_pos_le f de k 0).2; omega
  have htk : rs_take (k, f) (wr_of (r, pl, la, dn, vi, de, ct, en, ou, ed) x y) = if j < k ∧ wr_de (f j) = de then some (k, f) else if k = 64 then none else some (k + 1, rs_ins f j (wr_of (r, pl, la, dn, vi, de, ct, en, ou, ed) x y)) := by
    show (if rs_pos f de k 0 < k ∧ wr_de (f (rs_pos f de k 0)) = de then some (k, f) else if k = 64 then none else some (k + 1, rs_ins f (rs_pos f de k 0) (wr_of (r, pl, la, dn, vi, de, ct, en, ou, ed) x y))) = _
    rw [hj]
  rw [htk]
  have k64 : (Int8.ofInt 64).toInt32 = nI 64 := by decide
  have hcj : (nI j).toNatClampNeg = j := nI_clamp (by omega)
  obtain ⟨vis, hvis⟩ : ∃ v, v = rs_or f k := ⟨_, rfl⟩
  rw [← hvis] at hr
  rcases hrid with rfl | rfl
  · refine za_enter cd_R_take fl_R (by decide) cdok_R_take flok_R (Nat.le_of_ble_eq_true rfl) ?_
    intro p e s m args below meth c X hnm
    have hfin : za_ov h [(10, rs_c 10 k vis), (11, rs_g w), (8, tr_c 8 (r, pl, la, dn, vi, de, ct, en, ou, ed))] = h := by rw [za_ov3, za_set_same hT, za_set_same hg, za_set_same hr]
    have go39 : ¬ (j < k ∧ wr_de (f j) = de) → za_W p l e (za_rm 1 0 0) s m args below meth c D 5 (MQ below (za_Q D (fun v h' n' => rs_tk h 10 v h' (if j < k ∧ wr_de (f j) = de then some (k, f) else if k = 64 then none else some (k + 1, rs_ins f j (wr_of (r, pl, la, dn, vi, de, ct, en, ou, ed) x y))) ∧ n = n')) args s 0 0 (fun q : Nat => D.2.2 ≤ q)) h n 0 0 39 [(0, vR 10), (1, vR 8), (2, vI x), (3, vI y), (4, vI (nI j))] [] [(10, rs_c 10 k vis), (11, rs_g w), (8, tr_c 8 (r, pl, la, dn, vi, de, ct, en, ou, ed))] := by
      intro hno
      rw [if_neg hno]
      iterate 3 refine za_step X rfl rfl rfl ?_
      refine za_icne X 50 rfl (by decide) (fun q1 => ?_) (fun q1 => ?_)
      · rw [k64] at q1
        have hk2 : k ≠ 64 := fun z => q1 (by rw [z])
        have hk3 : k < 64 := by omega
        rw [if_neg hk2]
        iterate 2 refine za_step X rfl rfl rfl ?_
        refine za_callV (b := 10) (d := 0) (mc := 0) (ms := 0) (as := [vI (nI j)]) (rest := []) X rfl cl_R_R_makeRoom cy_R_makeRoom cv_R_makeRoom (c_R_makeRoom l D (za_ov h [(10, rs_c 10 k vis), (11, rs_g w), (8, tr_c 8 (r, pl, la, dn, vi, de, ct, en, ou, ed))]) n 10 (Or.inl rfl) w k j vis rfl rfl (by rw [hfin]; exact hw) hrg hjk hk3) rfl rfl rfl rfl (Nat.le_of_ble_eq_true rfl) (Nat.le_of_ble_eq_true rfl) (Nat.le_of_ble_eq_true rfl) (Nat.le_of_ble_eq_true rfl) (Nat.le_of_ble_eq_true rfl) (fun v h' n' hq => ?_)
        obtain ⟨rfl, rfl, rfl⟩ := hq
        rw [hfin]
        have hwk := hrg k hk3
        generalize hh1 : za_set (za_set h (10 + 1) (rs_g (rs_rot w j k))) 10 (rs_c 10 (k + 1) vis) = h1
        have a1 : h1 10 = some (rs_c 10 (k + 1) vis) := by rw [← hh1, za_set_eq]
        have a2 : h1 11 = some (rs_g (rs_rot w j k)) := by rw [← hh1, za_set_ne (by omega), za_set_eq]
        have a3 : h1 8 = some (tr_c 8 (r, pl, la, dn, vi, de, ct, en, ou, ed)) := by rw [← hh1, za_set_ne (by omega), za_set_ne (by omega)]; exact hT
        have a4 : ∃ q, h1 (w k) = some (wr_c q) := by rw [← hh1, za_set_ne (by omega), za_set_ne (by omega)]; exact hw k hk3
        obtain ⟨q4, a4⟩ := a4
        have hrot : rs_rot w j k j = w k := by unfold rs_rot; rw [if_pos rfl]
        have hf1 : za_ov h1 [(10, rs_c 10 (k + 1) vis), (11, rs_g (rs_rot w j k)), (8, tr_c 8 (r, pl, la, dn, vi, de, ct, en, ou, ed))] = h1 := by rw [za_ov3, za_set_same a3, za_set_same a2, za_set_same a1]
        refine za_view [(10, rs_c 10 (k + 1) vis), (11, rs_g (rs_rot w j k)), (8, tr_c 8 (r, pl, la, dn, vi, de, ct, en, ou, ed))] (by simp [a1, a2, a3]) ?_
        iterate 3 refine za_step X rfl rfl rfl ?_
        refine za_aald X rfl rfl rfl (vp_in_nI (by omega) (by decide)) ?_
        rw [hcj, hrot]
        iterate 3 refine za_step X rfl rfl rfl ?_
        refine za_callV (b := w k) (d := 0) (mc := 0) (ms := 0) (as := [vR 8, vI x, vI y]) (rest := []) X rfl cl_R_W_set cy_W_set cv_W_set (c_W_set l D (za_ov h1 [(10, rs_c 10 (k + 1) vis), (11, rs_g (rs_rot w j k)), (8, tr_c 8 (r, pl, la, dn, vi, de, ct, en, ou, ed))]) n (w k) (by omega) q4 (by rw [hf1]; exact a4) (r, pl, la, dn, vi, de, ct, en, ou, ed) rfl x y) rfl rfl (show za_ov h1 _ (w k) = _ by rw [hf1]; exact a4) rfl (Nat.le_of_ble_eq_true rfl) (Nat.le_of_ble_eq_true rfl) (Nat.le_of_ble_eq_true rfl) (Nat.le_of_ble_eq_true rfl) (Nat.le_of_ble_eq_true rfl) (fun v h' n' hq => ?_)
        obtain ⟨rfl, rfl, rfl⟩ := hq
        rw [hf1]
        generalize hh2 : za_set h1 (w k) (wr_c (wr_of (r, pl, la, dn, vi, de, ct, en, ou, ed) x y)) = h2
        have b1 : h2 10 = some (rs_c 10 (k + 1) vis) := by rw [← hh2, za_set_ne (by omega)]; exact a1
        have b3 : h2 8 = some (tr_c 8 (r, pl, la, dn, vi, de, ct, en, ou, ed)) := by rw [← hh2, za_set_ne (by omega)]; exact a3
        refine za_view [(10, rs_c 10 (k + 1) vis), (8, tr_c 8 (r, pl, la, dn, vi, de, ct, en, ou, ed))] (by simp [b1, b3]) ?_
        iterate 8 refine za_step X rfl rfl rfl ?_
        refine za_zret X rfl (Or.inr rfl) ⟨?_, rfl⟩ (Nat.le_refl _) (Nat.le_refl _)
        have e3 : za_ov h2 [(10, rs_c 10 (k + 1) (vis ||| vi)), (8, tr_c 8 (r, pl, la, dn, vi, de, ct, en, ou, ed))] = za_set (za_set (za_set h (10 + 1) (rs_g (rs_rot w j k))) (w k) (wr_c (wr_of (r, pl, la, dn, vi, de, ct, en, ou, ed) x y))) 10 (rs_c 10 (k + 1) (rs_or f k ||| wr_vi (wr_of (r, pl, la, dn, vi, de, ct, en, ou, ed) x y))) := by
          rw [za_ov2, za_set_same b3, ← hh2, ← hh1, za_set_comm (show 10 ≠ w k by omega), za_set_set, hvis]
          rfl
        have e4 := rs_taken (q := wr_of (r, pl, la, dn, vi, de, ct, en, ou, ed) x y) hS0 hjk hk3 e3
        exact ⟨rfl, ⟨_, e4.1⟩, e4.2⟩
      · rw [k64] at q1
        have hk2 : k = 64 := (nI_eq (by omega) (by omega)).mp q1
        rw [if_pos hk2]
        iterate 1 refine za_step X rfl rfl rfl ?_
        exact za_zret X rfl (Or.inl rfl) ⟨⟨rfl, hfin⟩, rfl⟩ (Nat.le_refl _) (Nat.le_refl _)
    refine za_view [(10, rs_c 10 k vis), (11, rs_g w), (8, tr_c 8 (r, pl, la, dn, vi, de, ct, en, ou, ed))] (by simp [hr, hg, hT]) ?_
    iterate 3 refine za_step X rfl rfl rfl ?_
    refine za_callV (b := 10) (d := 0) (mc := 0) (ms := 0) (as := [vL de]) (rest := []) X rfl cl_R_R_firstNotBefore cy_R_firstNotBefore cv_R_firstNotBefore (c_R_firstNotBefore l D (za_ov h [(10, rs_c 10 k vis), (11, rs_g w), (8, tr_c 8 (r, pl, la, dn, vi, de, ct, en, ou, ed))]) n 10 (Or.inl rfl) w k f (by rw [hfin]; exact hS0) de) rfl rfl rfl rfl (Nat.le_of_ble_eq_true rfl) (Nat.le_of_ble_eq_true rfl) (Nat.le_of_ble_eq_true rfl) (Nat.le_of_ble_eq_true rfl) (Nat.le_of_ble_eq_true rfl) (fun v h' n' hq => ?_)
    obtain ⟨rfl, rfl, rfl⟩ := hq
    refine za_look (h1 := h) (v1 := [(10, rs_c 10 k vis), (11, rs_g w), (8, tr_c 8 (r, pl, la, dn, vi, de, ct, en, ou, ed))]) rfl ?_
    rw [hj]
    iterate 3 refine za_step X rfl rfl rfl ?_
    refine za_callV (b := 10) (d := 0) (mc := 0) (ms := 0) (as := [vI (nI j)]) (rest := []) X rfl cl_R_R_has cy_R_has cv_R_has (c_R_has l D (za_ov h [(10, rs_c 10 k vis), (11, rs_g w), (8, tr_c 8 (r, pl, la, dn, vi, de, ct, en, ou, ed))]) n 10 (Or.inl rfl) k vis rfl (nI j)) rfl rfl rfl rfl (Nat.le_of_ble_eq_true rfl) (Nat.le_of_ble_eq_true rfl) (Nat.le_of_ble_eq_true rfl) (Nat.le_of_ble_eq_true rfl) (Nat.le_of_ble_eq_true rfl) (fun v h' n' hq => ?_)
    obtain ⟨rfl, rfl, rfl⟩ := hq
    refine za_look (h1 := h) (v1 := [(10, rs_c 10 k vis), (11, rs_g w), (8, tr_c 8 (r, pl, la, dn, vi, de, ct, en, ou, ed))]) rfl ?_
    have hhas : rs_has k (nI j) = decide (j < k) := by
      have p1 : (0 : Int32) ≤ nI j := nI_pos' (by omega)
      have p2 : (nI j < nI k) = (j < k) := propext (nI_ltI (by omega) (by omega))
      simp [rs_has, p1, p2]
    refine za_ifeq X 39 rfl (by decide) (fun q1 => ?_) (fun q1 => ?_)
    · have q2 := bI_0 q1
      rw [hhas] at q2
      exact za_loc [(0, vR 10), (1, vR 8), (2, vI x), (3, vI y), (4, vI (nI j))] rfl (go39 (fun z => by simp [z.1] at q2))
    · have q2 := bI_n0 q1
      rw [hhas] at q2
      have q3 : j < k := by simpa using q2
      have hwi : za_ov h [(10, rs_c 10 k vis), (11, rs_g w), (8, tr_c 8 (r, pl, la, dn, vi, de, ct, en, ou, ed))] (w j) = some (wr_c (f j)) := by rw [hfin]; exact hf j q3
      obtain ⟨ax, ay, ao, ae, ad, ac, av, hfi⟩ := wr_cu (f j)
      rw [hfi] at hwi
      iterate 3 refine za_step X rfl rfl rfl ?_
      refine za_aald X rfl rfl rfl (vp_in_nI (by omega) (by decide)) ?_
      rw [hcj]
      refine za_getH X rfl hwi rfl rfl ?_
      iterate 3 refine za_step X rfl rfl rfl ?_
      refine za_ifne X 39 rfl (by decide) (fun q4 => ?_) (fun q4 => ?_)
      · exact za_loc [(0, vR 10), (1, vR 8), (2, vI x), (3, vI y), (4, vI (nI j))] rfl (go39 (fun z => q4 (lg_0.mpr (by have := z.2; rw [hfi] at this; exact this))))
      · rw [if_pos ⟨q3, by rw [hfi]; exact lg_0.mp q4⟩]
        iterate 1 refine za_step X rfl rfl rfl ?_
        exact za_zret X rfl (Or.inr rfl) ⟨⟨rfl, ⟨w, by rw [hfin]; exact hS0⟩, fun i _ => by rw [hfin]⟩, rfl⟩ (Nat.le_refl _) (Nat.le_refl _)
  · refine za_enter cd_R_take fl_R (by decide) cdok_R_take flok_R (Nat.le_of_ble_eq_true rfl) ?_
    intro p e s m args below meth c X hnm
    have hfin : za_ov h [(76, rs_c 76 k vis), (77, rs_g w), (8, tr_c 8 (r, pl, la, dn, vi, de, ct, en, ou, ed))] = h := by rw [za_ov3, za_set_same hT, za_set_same hg, za_set_same hr]
    have go39 : ¬ (j < k ∧ wr_de (f j) = de) → za_W p l e (za_rm 1 0 0) s m args below meth c D 5 (MQ below (za_Q D (fun v h' n' => rs_tk h 76 v h' (if j < k ∧ wr_de (f j) = de then some (k, f) else if k = 64 then none else some (k + 1, rs_ins f j (wr_of (r, pl, la, dn, vi, de, ct, en, ou, ed) x y))) ∧ n = n')) args s 0 0 (fun q : Nat => D.2.2 ≤ q)) h n 0 0 39 [(0, vR 76), (1, vR 8), (2, vI x), (3, vI y), (4, vI (nI j))] [] [(76, rs_c 76 k vis), (77, rs_g w), (8, tr_c 8 (r, pl, la, dn, vi, de, ct, en, ou, ed))] := by
      intro hno
      rw [if_neg hno]
      iterate 3 refine za_step X rfl rfl rfl ?_
      refine za_icne X 50 rfl (by decide) (fun q1 => ?_) (fun q1 => ?_)
      · rw [k64] at q1
        have hk2 : k ≠ 64 := fun z => q1 (by rw [z])
        have hk3 : k < 64 := by omega
        rw [if_neg hk2]
        iterate 2 refine za_step X rfl rfl rfl ?_
        refine za_callV (b := 76) (d := 0) (mc := 0) (ms := 0) (as := [vI (nI j)]) (rest := []) X rfl cl_R_R_makeRoom cy_R_makeRoom cv_R_makeRoom (c_R_makeRoom l D (za_ov h [(76, rs_c 76 k vis), (77, rs_g w), (8, tr_c 8 (r, pl, la, dn, vi, de, ct, en, ou, ed))]) n 76 (Or.inr rfl) w k j vis rfl rfl (by rw [hfin]; exact hw) hrg hjk hk3) rfl rfl rfl rfl (Nat.le_of_ble_eq_true rfl) (Nat.le_of_ble_eq_true rfl) (Nat.le_of_ble_eq_true rfl) (Nat.le_of_ble_eq_true rfl) (Nat.le_of_ble_eq_true rfl) (fun v h' n' hq => ?_)
        obtain ⟨rfl, rfl, rfl⟩ := hq
        rw [hfin]
        have hwk := hrg k hk3
        generalize hh1 : za_set (za_set h (76 + 1) (rs_g (rs_rot w j k))) 76 (rs_c 76 (k + 1) vis) = h1
        have a1 : h1 76 = some (rs_c 76 (k + 1) vis) := by rw [← hh1, za_set_eq]
        have a2 : h1 77 = some (rs_g (rs_rot w j k)) := by rw [← hh1, za_set_ne (by omega), za_set_eq]
        have a3 : h1 8 = some (tr_c 8 (r, pl, la, dn, vi, de, ct, en, ou, ed)) := by rw [← hh1, za_set_ne (by omega), za_set_ne (by omega)]; exact hT
        have a4 : ∃ q, h1 (w k) = some (wr_c q) := by rw [← hh1, za_set_ne (by omega), za_set_ne (by omega)]; exact hw k hk3
        obtain ⟨q4, a4⟩ := a4
        have hrot : rs_rot w j k j = w k := by unfold rs_rot; rw [if_pos rfl]
        have hf1 : za_ov h1 [(76, rs_c 76 (k + 1) vis), (77, rs_g (rs_rot w j k)), (8, tr_c 8 (r, pl, la, dn, vi, de, ct, en, ou, ed))] = h1 := by rw [za_ov3, za_set_same a3, za_set_same a2, za_set_same a1]
        refine za_view [(76, rs_c 76 (k + 1) vis), (77, rs_g (rs_rot w j k)), (8, tr_c 8 (r, pl, la, dn, vi, de, ct, en, ou, ed))] (by simp [a1, a2, a3]) ?_
        iterate 3 refine za_step X rfl rfl rfl ?_
        refine za_aald X rfl rfl rfl (vp_in_nI (by omega) (by decide)) ?_
        rw [hcj, hrot]
        iterate 3 refine za_step X rfl rfl rfl ?_
        refine za_callV (b := w k) (d := 0) (mc := 0) (ms := 0) (as := [vR 8, vI x, vI y]) (rest := []) X rfl cl_R_W_set cy_W_set cv_W_set (c_W_set l D (za_ov h1 [(76, rs_c 76 (k + 1) vis), (77, rs_g (rs_rot w j k)), (8, tr_c 8 (r, pl, la, dn, vi, de, ct, en, ou, ed))]) n (w k) (by omega) q4 (by rw [hf1]; exact a4) (r, pl, la, dn, vi, de, ct, en, ou, ed) rfl x y) rfl rfl (show za_ov h1 _ (w k) = _ by rw [hf1]; exact a4) rfl (Nat.le_of_ble_eq_true rfl) (Nat.le_of_ble_eq_true rfl) (Nat.le_of_ble_eq_true rfl) (Nat.le_of_ble_eq_true rfl) (Nat.le_of_ble_eq_true rfl) (fun v h' n' hq => ?_)
        obtain ⟨rfl, rfl, rfl⟩ := hq
        rw [hf1]
        generalize hh2 : za_set h1 (w k) (wr_c (wr_of (r, pl, la, dn, vi, de, ct, en, ou, ed) x y)) = h2
        have b1 : h2 76 = some (rs_c 76 (k + 1) vis) := by rw [← hh2, za_set_ne (by omega)]; exact a1
        have b3 : h2 8 = some (tr_c 8 (r, pl, la, dn, vi, de, ct, en, ou, ed)) := by rw [← hh2, za_set_ne (by omega)]; exact a3
        refine za_view [(76, rs_c 76 (k + 1) vis), (8, tr_c 8 (r, pl, la, dn, vi, de, ct, en, ou, ed))] (by simp [b1, b3]) ?_
        iterate 8 refine za_step X rfl rfl rfl ?_
        refine za_zret X rfl (Or.inr rfl) ⟨?_, rfl⟩ (Nat.le_refl _) (Nat.le_refl _)
        have e3 : za_ov h2 [(76, rs_c 76 (k + 1) (vis ||| vi)), (8, tr_c 8 (r, pl, la, dn, vi, de, ct, en, ou, ed))] = za_set (za_set (za_set h (76 + 1) (rs_g (rs_rot w j k))) (w k) (wr_c (wr_of (r, pl, la, dn, vi, de, ct, en, ou, ed) x y))) 76 (rs_c 76 (k + 1) (rs_or f k ||| wr_vi (wr_of (r, pl, la, dn, vi, de, ct, en, ou, ed) x y))) := by
          rw [za_ov2, za_set_same b3, ← hh2, ← hh1, za_set_comm (show 76 ≠ w k by omega), za_set_set, hvis]
          rfl
        have e4 := rs_taken (q := wr_of (r, pl, la, dn, vi, de, ct, en, ou, ed) x y) hS0 hjk hk3 e3
        exact ⟨rfl, ⟨_, e4.1⟩, e4.2⟩
      · rw [k64] at q1
        have hk2 : k = 64 := (nI_eq (by omega) (by omega)).mp q1
        rw [if_pos hk2]
        iterate 1 refine za_step X rfl rfl rfl ?_
        exact za_zret X rfl (Or.inl rfl) ⟨⟨rfl, hfin⟩, rfl⟩ (Nat.le_refl _) (Nat.le_refl _)
    refine za_view [(76, rs_c 76 k vis), (77, rs_g w), (8, tr_c 8 (r, pl, la, dn, vi, de, ct, en, ou, ed))] (by simp [hr, hg, hT]) ?_
    iterate 3 refine za_step X rfl rfl rfl ?_
    refine za_callV (b := 76) (d := 0) (mc := 0) (ms := 0) (as := [vL de]) (rest := []) X rfl cl_R_R_firstNotBefore cy_R_firstNotBefore cv_R_firstNotBefore (c_R_firstNotBefore l D (za_ov h [(76, rs_c 76 k vis), (77, rs_g w), (8, tr_c 8 (r, pl, la, dn, vi, de, ct, en, ou, ed))]) n 76 (Or.inr rfl) w k f (by rw [hfin]; exact hS0) de) rfl rfl rfl rfl (Nat.le_of_ble_eq_true rfl) (Nat.le_of_ble_eq_true rfl) (Nat.le_of_ble_eq_true rfl) (Nat.le_of_ble_eq_true rfl) (Nat.le_of_ble_eq_true rfl) (fun v h' n' hq => ?_)
    obtain ⟨rfl, rfl, rfl⟩ := hq
    refine za_look (h1 := h) (v1 := [(76, rs_c 76 k vis), (77, rs_g w), (8, tr_c 8 (r, pl, la, dn, vi, de, ct, en, ou, ed))]) rfl ?_
    rw [hj]
    iterate 3 refine za_step X rfl rfl rfl ?_
    refine za_callV (b := 76) (d := 0) (mc := 0) (ms := 0) (as := [vI (nI j)]) (rest := []) X rfl cl_R_R_has cy_R_has cv_R_has (c_R_has l D (za_ov h [(76, rs_c 76 k vis), (77, rs_g w), (8, tr_c 8 (r, pl, la, dn, vi, de, ct, en, ou, ed))]) n 76 (Or.inr rfl) k vis rfl (nI j)) rfl rfl rfl rfl (Nat.le_of_ble_eq_true rfl) (Nat.le_of_ble_eq_true rfl) (Nat.le_of_ble_eq_true rfl) (Nat.le_of_ble_eq_true rfl) (Nat.le_of_ble_eq_true rfl) (fun v h' n' hq => ?_)
    obtain ⟨rfl, rfl, rfl⟩ := hq
    refine za_look (h1 := h) (v1 := [(76, rs_c 76 k vis), (77, rs_g w), (8, tr_c 8 (r, pl, la, dn, vi, de, ct, en, ou, ed))]) rfl ?_
    have hhas : rs_has k (nI j) = decide (j < k) := by
      have p1 : (0 : Int32) ≤ nI j := nI_pos' (by omega)
      have p2 : (nI j < nI k) = (j < k) := propext (nI_ltI (by omega) (by omega))
      simp [rs_has, p1, p2]
    refine za_ifeq X 39 rfl (by decide) (fun q1 => ?_) (fun q1 => ?_)
    · have q2 := bI_0 q1
      rw [hhas] at q2
      exact za_loc [(0, vR 76), (1, vR 8), (2, vI x), (3, vI y), (4, vI (nI j))] rfl (go39 (fun z => by simp [z.1] at q2))
    · have q2 := bI_n0 q1
      rw [hhas] at q2
      have q3 : j < k := by simpa using q2
      have hwi : za_ov h [(76, rs_c 76 k vis), (77, rs_g w), (8, tr_c 8 (r, pl, la, dn, vi, de, ct, en, ou, ed))] (w j) = some (wr_c (f j)) := by rw [hfin]; exact hf j q3
      obtain ⟨ax, ay, ao, ae, ad, ac, av, hfi⟩ := wr_cu (f j)
      rw [hfi] at hwi
      iterate 3 refine za_step X rfl rfl rfl ?_
      refine za_aald X rfl rfl rfl (vp_in_nI (by omega) (by decide)) ?_
      rw [hcj]
      refine za_getH X rfl hwi rfl rfl ?_
      iterate 3 refine za_step X rfl rfl rfl ?_
      refine za_ifne X 39 rfl (by decide) (fun q4 => ?_) (fun q4 => ?_)
      · exact za_loc [(0, vR 76), (1, vR 8), (2, vI x), (3, vI y), (4, vI (nI j))] rfl (go39 (fun z => q4 (lg_0.mpr (by have := z.2; rw [hfi] at this; exact this))))
      · rw [if_pos ⟨q3, by rw [hfi]; exact lg_0.mp q4⟩]
        iterate 1 refine za_step X rfl rfl rfl ?_
        exact za_zret X rfl (Or.inr rfl) ⟨⟨rfl, ⟨w, by rw [hfin]; exact hS0⟩, fun i _ => by rw [hfin]⟩, rfl⟩ (Nat.le_refl _) (Nat.le_refl _)
end
section
/-! A RUN DOES NOT DEPEND ON THE RUN BEFORE IT -/
def tr_sm (A B : tr_T) : Prop := ∃ (r : Nat → Int32) (pl la dn vi : Int32) (de : Int64) (ct en o1 e1 o2 e2 : Int32), A = (r, pl, la, dn, vi, de, ct, en, o1, e1) ∧ B = (r, pl, la, dn, vi, de, ct, en, o2, e2) ∧ (en = 0 ∨ (o1 = o2 ∧ e1 = e2))
theorem sm_reg {A B : tr_T} (h : tr_sm A B) (i : Nat) (x : Int32) : tr_sm (tr_reg A i x) (tr_reg B i x) := by
  obtain ⟨r, pl, la, dn, vi, de, ct, en, o1, e1, o2, e2, rfl, rfl, h⟩ := h
  exact ⟨_, _, _, _, _, _, _, _, _, _, _, _, rfl, rfl, h⟩
theorem sm_go {A B : tr_T} (h : tr_sm A B) (x : Int32) : tr_sm (tr_go A x) (tr_go B x) := by
  obtain ⟨r, pl, la, dn, vi, de, ct, en, o1, e1, o2, e2, rfl, rfl, h⟩ := h
  exact ⟨_, _, _, _, _, _, _, _, _, _, _, _, rfl, rfl, h⟩
theorem sm_dec {A B : tr_T} (h : tr_sm A B) (y : Bool) : tr_sm (tr_dec A y) (tr_dec B y) := by
  obtain ⟨r, pl, la, dn, vi, de, ct, en, o1, e1, o2, e2, rfl, rfl, h⟩ := h
  exact ⟨_, _, _, _, _, _, _, _, _, _, _, _, rfl, rfl, h⟩
theorem sm_pre {A B : tr_T} (h : tr_sm A B) : tr_sm (tr_pre A) (tr_pre B) := by
  obtain ⟨r, pl, la, dn, vi, de, ct, en, o1, e1, o2, e2, rfl, rfl, h⟩ := h
  exact ⟨_, _, _, _, _, _, _, _, _, _, _, _, rfl, rfl, h⟩
theorem sm_fin {A B : tr_T} (h : tr_sm A B) (o e : Int32) : tr_sm (tr_fin A o e) (tr_fin B o e) := by
  obtain ⟨r, pl, la, dn, vi, de, ct, en, o1, e1, o2, e2, rfl, rfl, h⟩ := h
  exact ⟨_, _, _, _, _, _, _, _, _, _, _, _, rfl, rfl, Or.inr ⟨rfl, rfl⟩⟩
theorem sm_r {A B : tr_T} (h : tr_sm A B) (i : Int32) : tr_r A i = tr_r B i := by
  obtain ⟨r, pl, la, dn, vi, de, ct, en, o1, e1, o2, e2, rfl, rfl, h⟩ := h
  rfl
theorem sm_r0 {A B : tr_T} (h : tr_sm A B) : A.1 = B.1 := by
  obtain ⟨r, pl, la, dn, vi, de, ct, en, o1, e1, o2, e2, rfl, rfl, h⟩ := h
  rfl
theorem sm_la {A B : tr_T} (h : tr_sm A B) : tr_la A = tr_la B := by
  obtain ⟨r, pl, la, dn, vi, de, ct, en, o1, e1, o2, e2, rfl, rfl, h⟩ := h
  rfl
theorem sm_pl {A B : tr_T} (h : tr_sm A B) : tr_pl A = tr_pl B := by
  obtain ⟨r, pl, la, dn, vi, de, ct, en, o1, e1, o2, e2, rfl, rfl, h⟩ := h
  rfl
theorem sm_en {A B : tr_T} (h : tr_sm A B) : tr_en A = tr_en B := by
  obtain ⟨r, pl, la, dn, vi, de, ct, en, o1, e1, o2, e2, rfl, rfl, h⟩ := h
  rfl
theorem sm_eq {A B : tr_T} (h : tr_sm A B) (hn : ¬ tr_en A = 0) : A = B := by
  obtain ⟨r, pl, la, dn, vi, de, ct, en, o1, e1, o2, e2, rfl, rfl, h⟩ := h
  rcases h with h | ⟨rfl, rfl⟩
  · exact absurd h hn
  · rfl
theorem sm_goif {A B : tr_T} (h : tr_sm A B) (y : Bool) (c : Int32) : tr_sm (tr_goif A y c) (tr_goif B y c) := by
  unfold tr_goif
  by_cases e : y = true
  · rw [if_pos e, if_pos e]; exact sm_go (sm_dec h y) c
  · rw [if_neg e, if_neg e]; exact sm_dec h y
theorem sm_ins {A B : tr_T} (h : tr_sm A B) (op a b c : Int32) : tr_sm (tr_ins A op a b c) (tr_ins B op a b c) := by
  unfold tr_ins
  by_cases h0 : op = 0
  · rw [if_pos h0, if_pos h0]; exact sm_reg h _ _
  rw [if_neg h0, if_neg h0]
  by_cases h7 : op = 7
  · rw [if_pos h7, if_pos h7, sm_r h]; exact sm_reg h _ _
  rw [if_neg h7, if_neg h7]
  by_cases h8 : op = 8
  · rw [if_pos h8, if_pos h8, sm_r h, sm_r h]; exact sm_goif h _ _
  rw [if_neg h8, if_neg h8]
  by_cases h9 : op = 9
  · rw [if_pos h9, if_pos h9, sm_r h, sm_r h]; exact sm_goif h _ _
  rw [if_neg h9, if_neg h9]
  by_cases h10 : op = 10
  · rw [if_pos h10, if_pos h10]; exact sm_go h _
  rw [if_neg h10, if_neg h10]
  by_cases h11 : op = 11
  · rw [if_pos h11, if_pos h11]
    unfold tr_div
    rw [sm_r h c, sm_r h b, sm_la h]
    by_cases e : tr_r B c = 0
    · rw [if_pos e, if_pos e]; exact sm_fin (sm_dec h _) _ _
    · rw [if_neg e, if_neg e]; exact sm_reg (sm_dec h _) _ _
  rw [if_neg h11, if_neg h11]
  by_cases h12 : op = 12
  · rw [if_pos h12, if_pos h12]
    unfold tr_clm
    rw [sm_r h a, sm_la h]
    by_cases e : tr_r B a = 0
    · rw [if_pos e, if_pos e]; exact sm_fin (sm_dec h _) _ _
    · rw [if_neg e, if_neg e]; exact sm_dec h _
  rw [if_neg h12, if_neg h12]
  by_cases h13 : op = 13
  · rw [if_pos h13, if_pos h13, sm_r h]; exact sm_fin h _ _
  rw [if_neg h13, if_neg h13, sm_r h b, sm_r h c]
  exact sm_reg h _ _
theorem sm_lop (P : pr_T) : ∀ (k : Nat) (A B : tr_T), tr_sm A B → tr_sm (tr_lop P k A) (tr_lop P k B) := by
  intro k
  induction k with
  | zero => intro A B h; exact h
  | succ k ih =>
    intro A B h
    unfold tr_lop
    rw [sm_en h, sm_pl h]
    by_cases e : tr_en B = 0 ∧ pr_has P (tr_pl B) = true
    · rw [if_pos e, if_pos e]
      refine ih _ _ ?_
      unfold tr_stp
      rw [sm_pl h]
      exact sm_ins (sm_pre h) _ _ _ _
    · rw [if_neg e, if_neg e]; exact h
theorem sm_end (P : pr_T) {A B : tr_T} (h : tr_sm A B) : tr_end P A = tr_end P B := by
  unfold tr_end
  by_cases e : tr_en A = 0
  · have eB : tr_en B = 0 := by rw [← sm_en h]; exact e
    rw [if_pos e, if_pos eB, sm_pl h, sm_la h, sm_r0 h]
    split
    · exact sm_eq (sm_fin h _ _) (by obtain ⟨r, pl, la, dn, vi, de, ct, en, o1, e1, o2, e2, rfl, rfl, -⟩ := h; show ¬ (1 : Int32) = 0; decide)
    · exact sm_eq (sm_fin h _ _) (by obtain ⟨r, pl, la, dn, vi, de, ct, en, o1, e1, o2, e2, rfl, rfl, -⟩ := h; show ¬ (1 : Int32) = 0; decide)
  · have eB : ¬ tr_en B = 0 := by rw [← sm_en h]; exact e
    rw [if_neg e, if_neg eB]
    exact sm_eq h e
theorem sm_beg (A B : tr_T) (x y : Int32) : tr_sm (tr_beg A x y) (tr_beg B x y) := by
  obtain ⟨r, pl, la, dn, vi, de, ct, en, ou, ed⟩ := A
  obtain ⟨r', pl', la', dn', vi', de', ct', en', ou', ed'⟩ := B
  exact ⟨_, _, _, _, _, _, _, _, _, _, _, _, rfl, rfl, Or.inl rfl⟩
def tr_0 : tr_T := (fun _ => 0, 0, 0, 0, 0, 0, 0, 0, 0, 0)
def tr_run0 (P : pr_T) (x y : Int32) : tr_T := tr_run P tr_0 x y
theorem tr_run_eq (P : pr_T) (T : tr_T) (x y : Int32) : tr_run P T x y = tr_run0 P x y := sm_end P (sm_lop P 40 _ _ (sm_beg _ _ x y))
/-! EXPLORING AS A FUNCTION: N rows of N inputs -/
def ex_way (P : pr_T) (x y : Nat) : wr_T := wr_of (tr_run0 P (nI x) (nI y)) (nI x) (nI y)
def ex_row (P : pr_T) (x : Nat) : Nat → Nat → rs_T → Option rs_T
  | 0, _, S => some S
  | g + 1, y, S => match rs_take S (ex_way P x y) with
    | none => none
    | some S' => ex_row P x g (y + 1) S'
def ex_all (P : pr_T) (N : Nat) : Nat → Nat → rs_T → Option rs_T
  | 0, _, S => some S
  | g + 1, x, S => match ex_row P x N 0 S with
    | none => none
    | some S' => ex_all P N g (x + 1) S'
def in_lg (b : Nat) : Int32 := ((1 : Int32) <<< (nI b &&& 31)) - 1
def in_ok (b : Nat) (x y : Int32) : Bool := pr_up (in_lg b) x && pr_up (in_lg b) y
theorem in_pw {b : Nat} (h1 : 1 ≤ b) (h4 : b ≤ 4) : (1 : Int32) <<< (nI b &&& 31) = nI (2 ^ b) := by
  rcases (show b = 1 ∨ b = 2 ∨ b = 3 ∨ b = 4 by omega) with rfl | rfl | rfl | rfl <;> decide
end
section
/-- the WayFinder at 0 -/
def fs_c (ra rb b : Nat) (q : Int32) : za_C := .inr (zn_F, [vR 1, vR 6, vR 8, vR ra, vR rb, vI (nI b), vI q])
set_option maxHeartbeats 4000000 in
set_option maxRecDepth 100000 in
theorem c_F_areInputs (l : Launch) (D : za_D) (h : za_H) (n : Nat) (ra rb b : Nat) (q : Int32) (hF : h 0 = some (fs_c ra rb b q)) (x y : Int32) : za_M l D Y_F_areInputs 1 0 0 [vR 0, vI x, vI y] h n (fun v h' n' => v = some (vI (bI (in_ok b x y))) ∧ h' = h ∧ n = n') := by
  refine za_enter cd_F_areInputs fl_F (by decide) cdok_F_areInputs flok_F (Nat.le_of_ble_eq_true rfl) ?_
  intro p e s m args below meth c X hnm
  have hfin : za_ov h [(0, fs_c ra rb b q)] = h := by rw [za_ov1, za_set_same hF]
  refine za_view [(0, fs_c ra rb b q)] (by simp [hF]) ?_
  iterate 9 refine za_step X rfl rfl rfl ?_
  refine za_callS X rfl cl_F_F_isUpTo cy_F_isUpTo cs_F_isUpTo (c_F_isUpTo l D _ n (in_lg b) x) rfl rfl (Nat.le_of_ble_eq_true rfl) (Nat.le_of_ble_eq_true rfl) (Nat.le_of_ble_eq_true rfl) (Nat.le_of_ble_eq_true rfl) (Nat.le_of_ble_eq_true rfl) (fun v h' n' hq => ?_)
  obtain ⟨rfl, rfl, rfl⟩ := hq
  refine za_look (h1 := h) (v1 := [(0, fs_c ra rb b q)]) rfl ?_
  refine za_ifeq X 29 rfl (by decide) (fun q1 => ?_) (fun q1 => ?_)
  · iterate 1 refine za_step X rfl rfl rfl ?_
    exact za_zret X rfl (Or.inl rfl) ⟨by simp [in_ok, bI_0 q1, bI], hfin, rfl⟩ (Nat.le_refl _) (Nat.le_refl _)
  · iterate 2 refine za_step X rfl rfl rfl ?_
    refine za_callS X rfl cl_F_F_isUpTo cy_F_isUpTo cs_F_isUpTo (c_F_isUpTo l D _ n (in_lg b) y) rfl rfl (Nat.le_of_ble_eq_true rfl) (Nat.le_of_ble_eq_true rfl) (Nat.le_of_ble_eq_true rfl) (Nat.le_of_ble_eq_true rfl) (Nat.le_of_ble_eq_true rfl) (fun v h' n' hq => ?_)
    obtain ⟨rfl, rfl, rfl⟩ := hq
    refine za_look (h1 := h) (v1 := [(0, fs_c ra rb b q)]) rfl ?_
    refine za_ifeq X 29 rfl (by decide) (fun q2 => ?_) (fun q2 => ?_)
    · iterate 1 refine za_step X rfl rfl rfl ?_
      exact za_zret X rfl (Or.inl rfl) ⟨by simp [in_ok, bI_0 q2, bI], hfin, rfl⟩ (Nat.le_refl _) (Nat.le_refl _)
    · iterate 2 refine za_step X rfl rfl rfl ?_
      exact za_zret X rfl (Or.inr rfl) ⟨by simp [in_ok, bI_n0 q1, bI_n0 q2, bI], hfin, rfl⟩ (Nat.le_refl _) (Nat.le_refl _)
theorem rs_at_off {h h' : za_H} {rid : Nat} {w : Nat → Nat} {S : rs_T} (hS : rs_at h rid w S) (e : ∀ j, rid ≤ j → j < rid + 66 → h' j = h j) : rs_at h' rid w S := by
  obtain ⟨hr, hg, hw, hf, hrg, hij, hk⟩ := hS
  refine ⟨by rw [e rid (by omega) (by omega)]; exact hr, by rw [e (rid + 1) (by omega) (by omega)]; exact hg, fun i hi => ?_, fun i hi => ?_, hrg, hij, hk⟩
  · have := hrg i hi
    rw [e (w i) (by omega) (by omega)]; exact hw i hi
  · have := hrg i (by omega)
    rw [e (w i) (by omega) (by omega)]; exact hf i hi
def wr_0 : wr_T := (0, 0, 0, 0, 0, 0, 0)
def ex_res (P : pr_T) (b : Nat) : Option rs_T := ex_all P (2 ^ b) (2 ^ b) 0 (0, fun _ => wr_0)
/-- the draft at rb holds S; the probe holds some run; all else is as in h -/
def fd_at (h h' : za_H) (rb : Nat) (S : rs_T) : Prop := (∃ T, tr_at h' 8 T) ∧ (∃ w, rs_at h' rb w S) ∧ ∀ j, j ≠ 8 → j ≠ 9 → (j < rb ∨ rb + 66 ≤ j) → h' j = h j
def fd_ps (h : za_H) (rb : Nat) (v : Option za_V) (h' : za_H) (R : Option rs_T) : Prop := match R with
  | none => v = some (vI 0) ∧ ∃ S, fd_at h h' rb S
  | some S => v = some (vI 1) ∧ fd_at h h' rb S
set_option maxHeartbeats 4000000 in
set_option maxRecDepth 100000 in
theorem c_F_fillDraft (l : Launch) (D : za_D) (h : za_H) (n : Nat) (ra rb b : Nat) (q : Int32) (hF : h 0 = some (fs_c ra rb b q)) (hrid : rb = 10 ∨ rb = 76) (hb1 : 1 ≤ b) (hb4 : b ≤ 4) (P : pr_T) (hP : pr_at h P) (hok : pr_ok P) (T8 : tr_T) (hT : tr_at h 8 T8) (wb : Nat → Nat) (SD : rs_T) (hD : rs_at h rb wb SD) : za_M l D Y_F_fillDraft 5 0 0 [vR 0] h n (fun v h' n' => fd_ps h rb v h' (ex_res P b) ∧ n = n') := by
  obtain ⟨k0, f0⟩ := SD
  rcases hrid with rfl | rfl
  · refine za_enter cd_F_fillDraft fl_F (by decide) cdok_F_fillDraft flok_F (Nat.le_of_ble_eq_true rfl) ?_
    intro p e s m args below meth c X hnm
    have hN : 2 ^ b ≤ 16 := by rcases (show b = 1 ∨ b = 2 ∨ b = 3 ∨ b = 4 by omega) with rfl | rfl | rfl | rfl <;> decide
    have outer : ∀ (gx x : Nat) (S : rs_T) (h1 : za_H), x + gx = 2 ^ b → fd_at h h1 10 S → ex_all P (2 ^ b) gx x S = ex_res P b → za_W p l e (za_rm 5 0 0) s m args below meth c D 4 (MQ below (za_Q D (fun v h' n' => fd_ps h 10 v h' (ex_res P b) ∧ n = n')) args s 0 0 (fun q : Nat => D.2.2 ≤ q)) h1 n 0 0 16 [(0, vR 0), (1, vI (nI (2 ^ b))), (2, vI (nI x))] [] [] := by
      intro gx
      induction gx with
      | zero =>
        intro x S h1 hx hfd hR
        iterate 2 refine za_step X rfl rfl rfl ?_
        refine za_icge X 71 rfl (by decide) (fun q1 => ?_) (fun q1 => ?_)
        · iterate 1 refine za_step X rfl rfl rfl ?_
          exact za_zret X rfl (Or.inr rfl) ⟨by rw [← hR]; exact ⟨rfl, hfd⟩, rfl⟩ (Nat.le_refl _) (Nat.le_refl _)
        · exact absurd ((nI_leI (by omega) (by omega)).mpr (by omega)) q1
      | succ gx ihx =>
        intro x S h1 hx hfd hR
        have inner : ∀ (gy y : Nat) (S : rs_T) (h1 : za_H), y + gy = 2 ^ b → fd_at h h1 10 S → (match ex_row P x gy y S with | none => none | some S' => ex_all P (2 ^ b) gx (x + 1) S') = ex_res P b → za_W p l e (za_rm 5 0 0) s m args below meth c D 4 (MQ below (za_Q D (fun v h' n' => fd_ps h 10 v h' (ex_res P b) ∧ n = n')) args s 0 0 (fun q : Nat => D.2.2 ≤ q)) h1 n 0 0 23 [(0, vR 0), (1, vI (nI (2 ^ b))), (2, vI (nI x)), (3, vI (nI y))] [] [] := by
          intro gy
          induction gy with
          | zero =>
            intro y S h1 hy hfd hR
            iterate 2 refine za_step X rfl rfl rfl ?_
            refine za_icge X 65 rfl (by decide) (fun q1 => ?_) (fun q1 => ?_)
            · iterate 2 refine za_step X rfl rfl rfl ?_
              rw [show nI x + Int32.ofInt 1 = nI (x + 1) from nI_1 x]
              exact za_loc [(0, vR 0), (1, vI (nI (2 ^ b))), (2, vI (nI (x + 1)))] rfl (ihx (x + 1) S h1 (by omega) hfd hR)
            · exact absurd ((nI_leI (by omega) (by omega)).mpr (by omega)) q1
          | succ gy ihy =>
            intro y S h1 hy hfd hR
            iterate 2 refine za_step X rfl rfl rfl ?_
            refine za_icge X 65 rfl (by decide) (fun q1 => ?_) (fun q1 => ?_)
            · exact absurd ((nI_leI (by omega) (by omega)).mp q1) (by omega)
            · obtain ⟨⟨T, hT⟩, ⟨w, hw⟩, hoff⟩ := hfd
              obtain ⟨k, f⟩ := S
              have f0 : h1 0 = some (fs_c ra 10 b q) := by rw [hoff 0 (by omega) (by omega) (by omega)]; exact hF
              have fP : pr_at h1 P := pr_at_off hP (fun j a1 a2 => hoff j (by omega) (by omega) (by omega))
              have hv : za_ov h1 [(0, fs_c ra 10 b q)] = h1 := by rw [za_ov1, za_set_same f0]
              refine za_view [(0, fs_c ra 10 b q)] (by simp [f0]) ?_
              iterate 6 refine za_step X rfl rfl rfl ?_
              obtain ⟨r, pl, la, dn, vi, de, ct, en, ou, ed⟩ := T
              refine za_callV (b := 8) (d := 4) (mc := 0) (ms := 0) (as := [vR 1, vI (nI x), vI (nI y)]) (rest := []) X rfl cl_F_T_follow cy_T_follow cv_T_follow (c_T_follow l D (za_ov h1 [(0, fs_c ra 10 b q)]) n 8 (Or.inr rfl) (r, pl, la, dn, vi, de, ct, en, ou, ed) (by rw [hv]; exact hT) P (by rw [hv]; exact fP) hok (nI x) (nI y)) rfl rfl (show za_ov h1 _ 8 = _ from hT.1) rfl (Nat.le_of_ble_eq_true rfl) (Nat.le_of_ble_eq_true rfl) (Nat.le_of_ble_eq_true rfl) (Nat.le_of_ble_eq_true rfl) (Nat.le_of_ble_eq_true rfl) (fun v h' n' hq => ?_)
              obtain ⟨rfl, rfl, rfl⟩ := hq
              rw [hv, tr_run_eq]
              generalize hh2 : tr_put h1 8 (tr_run0 P (nI x) (nI y)) = h2
              have g8 : tr_at h2 8 (tr_run0 P (nI x) (nI y)) := by rw [← hh2]; exact tr_put_at _ _ _
              have goff : ∀ j, j ≠ 8 → j ≠ 9 → h2 j = h1 j := fun j a1 a2 => by rw [← hh2]; exact tr_put_ne a1 a2
              have g0 : h2 0 = some (fs_c ra 10 b q) := by rw [goff 0 (by omega) (by omega)]; exact f0
              have gS : rs_at h2 10 w (k, f) := rs_at_off hw (fun j a1 a2 => goff j (by omega) (by omega))
              have gv : za_ov h2 [(0, fs_c ra 10 b q)] = h2 := by rw [za_ov1, za_set_same g0]
              have gd : fd_at h h2 10 (k, f) := ⟨⟨_, g8⟩, ⟨w, gS⟩, fun j a1 a2 a3 => (goff j a1 a2).trans (hoff j a1 a2 a3)⟩
              refine za_view [(0, fs_c ra 10 b q)] (by simp [g0]) ?_
              iterate 6 refine za_step X rfl rfl rfl ?_
              have hrow : ex_row P x (gy + 1) y (k, f) = (match rs_take (k, f) (wr_of (tr_run0 P (nI x) (nI y)) (nI x) (nI y)) with | none => none | some S' => ex_row P x gy (y + 1) S') := rfl
              refine za_callV (b := 10) (d := 1) (mc := 0) (ms := 0) (as := [vR 8, vI (nI x), vI (nI y)]) (rest := []) X rfl cl_F_R_take cy_R_take cv_R_take (c_R_take l D (za_ov h2 [(0, fs_c ra 10 b q)]) n 10 (Or.inl rfl) w k f (by rw [gv]; exact gS) (tr_run0 P (nI x) (nI y)) (by rw [gv]; exact g8.1) (nI x) (nI y)) rfl rfl (show za_ov h2 _ 10 = _ from gS.1) rfl (Nat.le_of_ble_eq_true rfl) (Nat.le_of_ble_eq_true rfl) (Nat.le_of_ble_eq_true rfl) (Nat.le_of_ble_eq_true rfl) (Nat.le_of_ble_eq_true rfl) (fun v h' n' hq => ?_)
              obtain ⟨hq, rfl⟩ := hq
              rw [gv] at hq
              rw [hrow] at hR
              cases hst : rs_take (k, f) (wr_of (tr_run0 P (nI x) (nI y)) (nI x) (nI y)) with
              | none =>
                rw [hst] at hq hR
                obtain ⟨rfl, rfl⟩ := hq
                refine za_ifne X 59 rfl (by decide) (fun q2 => absurd rfl q2) (fun q2 => ?_)
                iterate 1 refine za_step X rfl rfl rfl ?_
                exact za_zret X rfl (Or.inl rfl) ⟨by rw [← hR]; exact ⟨rfl, _, gd⟩, rfl⟩ (Nat.le_refl _) (Nat.le_refl _)
              | some S' =>
                rw [hst] at hq hR
                obtain ⟨rfl, hS', hoff'⟩ := hq
                refine za_ifne X 59 rfl (by decide) (fun q2 => ?_) (fun q2 => absurd q2 (by decide))
                iterate 2 refine za_step X rfl rfl rfl ?_
                rw [show nI y + Int32.ofInt 1 = nI (y + 1) from nI_1 y]
                refine za_loc [(0, vR 0), (1, vI (nI (2 ^ b))), (2, vI (nI x)), (3, vI (nI (y + 1)))] rfl (ihy (y + 1) S' h' (by omega) ⟨⟨tr_run0 P (nI x) (nI y), ?_⟩, hS', fun j a1 a2 a3 => ?_⟩ hR)
                · exact ⟨by rw [hoff' 8 (by omega)]; exact g8.1, by rw [hoff' 9 (by omega)]; exact g8.2⟩
                · rw [hoff' j a3]; exact gd.2.2 j a1 a2 a3
        iterate 2 refine za_step X rfl rfl rfl ?_
        refine za_icge X 71 rfl (by decide) (fun q1 => ?_) (fun q1 => ?_)
        · exact absurd ((nI_leI (by omega) (by omega)).mp q1) (by omega)
        · iterate 2 refine za_step X rfl rfl rfl ?_
          exact za_loc [(0, vR 0), (1, vI (nI (2 ^ b))), (2, vI (nI x)), (3, vI (nI 0))] rfl (inner (2 ^ b) 0 S h1 (by omega) hfd hR)
    have hv : za_ov h [(0, fs_c ra 10 b q)] = h := by rw [za_ov1, za_set_same hF]
    refine za_view [(0, fs_c ra 10 b q)] (by simp [hF]) ?_
    iterate 2 refine za_step X rfl rfl rfl ?_
    refine za_callV (b := 10) (d := 0) (mc := 0) (ms := 0) (as := []) (rest := []) X rfl cl_F_R_empty cy_R_empty cv_R_empty (c_R_empty l D (za_ov h [(0, fs_c ra 10 b q)]) n 10 (Or.inl rfl) k0 (rs_or f0 k0) (by rw [hv]; exact hD.1)) rfl rfl (show za_ov h _ 10 = _ from hD.1) rfl (Nat.le_of_ble_eq_true rfl) (Nat.le_of_ble_eq_true rfl) (Nat.le_of_ble_eq_true rfl) (Nat.le_of_ble_eq_true rfl) (Nat.le_of_ble_eq_true rfl) (fun v h' n' hq => ?_)
    obtain ⟨rfl, rfl, rfl⟩ := hq
    rw [hv]
    generalize hh1 : za_set h 10 (rs_c 10 0 0) = h1
    have goff : ∀ j, j ≠ 10 → h1 j = h j := fun j a1 => by rw [← hh1]; exact za_set_ne a1
    have g0 : h1 0 = some (fs_c ra 10 b q) := by rw [goff 0 (by omega)]; exact hF
    have gS : rs_at h1 10 wb (0, fun _ => wr_0) := by
      obtain ⟨hr, hg, hw, hf, hrg, hij, hk⟩ := hD
      refine ⟨by rw [← hh1]; exact za_set_eq _ _ _, by rw [goff (10 + 1) (by omega)]; exact hg, fun i hi => ?_, fun i hi => absurd hi (Nat.not_lt_zero i), hrg, hij, Nat.zero_le _⟩
      have := hrg i hi
      rw [goff (wb i) (by omega)]; exact hw i hi
    have gd : fd_at h h1 10 (0, fun _ => wr_0) := ⟨⟨T8, by rw [goff 8 (by omega)]; exact hT.1, by rw [goff (8 + 1) (by omega)]; exact hT.2⟩, ⟨wb, gS⟩, fun j a1 a2 a3 => goff j (by omega)⟩
    refine za_view [(0, fs_c ra 10 b q)] (by simp [g0]) ?_
    iterate 4 refine za_step X rfl rfl rfl ?_
    rw [show (Int32.ofInt 1) <<< (nI b &&& 31) = nI (2 ^ b) from in_pw hb1 hb4]
    iterate 3 refine za_step X rfl rfl rfl ?_
    refine za_look (h1 := h1) (v1 := []) (by rw [za_ov1, za_set_same g0]; rfl) ?_
    exact za_loc [(0, vR 0), (1, vI (nI (2 ^ b))), (2, vI (nI 0))] rfl (outer (2 ^ b) 0 (0, fun _ => wr_0) h1 (by omega) gd rfl)
  · refine za_enter cd_F_fillDraft fl_F (by decide) cdok_F_fillDraft flok_F (Nat.le_of_ble_eq_true rfl) ?_
    intro p e s m args below meth c X hnm
    have hN : 2 ^ b ≤ 16 := by rcases (show b = 1 ∨ b = 2 ∨ b = 3 ∨ b = 4 by omega) with rfl | rfl | rfl | rfl <;> decide
    have outer : ∀ (gx x : Nat) (S : rs_T) (h1 : za_H), x + gx = 2 ^ b → fd_at h h1 76 S → ex_all P (2 ^ b) gx x S = ex_res P b → za_W p l e (za_rm 5 0 0) s m args below meth c D 4 (MQ below (za_Q D (fun v h' n' => fd_ps h 76 v h' (ex_res P b) ∧ n = n')) args s 0 0 (fun q : Nat => D.2.2 ≤ q)) h1 n 0 0 16 [(0, vR 0), (1, vI (nI (2 ^ b))), (2, vI (nI x))] [] [] := by
      intro gx
      induction gx with
      | zero =>
        intro x S h1 hx hfd hR
        iterate 2 refine za_step X rfl rfl rfl ?_
        refine za_icge X 71 rfl (by decide) (fun q1 => ?_) (fun q1 => ?_)
        · iterate 1 refine za_step X rfl rfl rfl ?_
          exact za_zret X rfl (Or.inr rfl) ⟨by rw [← hR]; exact ⟨rfl, hfd⟩, rfl⟩ (Nat.le_refl _) (Nat.le_refl _)
        · exact absurd ((nI_leI (by omega) (by omega)).mpr (by omega)) q1
      | succ gx ihx =>
        intro x S h1 hx hfd hR
        have inner : ∀ (gy y : Nat) (S : rs_T) (h1 : za_H), y + gy = 2 ^ b → fd_at h h1 76 S → (match ex_row P x gy y S with | none => none | some S' => ex_all P (2 ^ b) gx (x + 1) S') = ex_res P b → za_W p l e (za_rm 5 0 0) s m args below meth c D 4 (MQ below (za_Q D (fun v h' n' => fd_ps h 76 v h' (ex_res P b) ∧ n = n')) args s 0 0 (fun q : Nat => D.2.2 ≤ q)) h1 n 0 0 23 [(0, vR 0), (1, vI (nI (2 ^ b))), (2, vI (nI x)), (3, vI (nI y))] [] [] := by
          intro gy
          induction gy with
          | zero =>
            intro y S h1 hy hfd hR
            iterate 2 refine za_step X rfl rfl rfl ?_
            refine za_icge X 65 rfl (by decide) (fun q1 => ?_) (fun q1 => ?_)
            · iterate 2 refine za_step X rfl rfl rfl ?_
              rw [show nI x + Int32.ofInt 1 = nI (x + 1) from nI_1 x]
              exact za_loc [(0, vR 0), (1, vI (nI (2 ^ b))), (2, vI (nI (x + 1)))] rfl (ihx (x + 1) S h1 (by omega) hfd hR)
            · exact absurd ((nI_leI (by omega) (by omega)).mpr (by omega)) q1
          | succ gy ihy =>
            intro y S h1 hy hfd hR
            iterate 2 refine za_step X rfl rfl rfl ?_
            refine za_icge X 65 rfl (by decide) (fun q1 => ?_) (fun q1 => ?_)
            · exact absurd ((nI_leI (by omega) (by omega)).mp q1) (by omega)
            · obtain ⟨⟨T, hT⟩, ⟨w, hw⟩, hoff⟩ := hfd
              obtain ⟨k, f⟩ := S
              have f0 : h1 0 = some (fs_c ra 76 b q) := by rw [hoff 0 (by omega) (by omega) (by omega)]; exact hF
              have fP : pr_at h1 P := pr_at_off hP (fun j a1 a2 => hoff j (by omega) (by omega) (by omega))
              have hv : za_ov h1 [(0, fs_c ra 76 b q)] = h1 := by rw [za_ov1, za_set_same f0]
              refine za_view [(0, fs_c ra 76 b q)] (by simp [f0]) ?_
              iterate 6 refine za_step X rfl rfl rfl ?_
              obtain ⟨r, pl, la, dn, vi, de, ct, en, ou, ed⟩ := T
              refine za_callV (b := 8) (d := 4) (mc := 0) (ms := 0) (as := [vR 1, vI (nI x), vI (nI y)]) (rest := []) X rfl cl_F_T_follow cy_T_follow cv_T_follow (c_T_follow l D (za_ov h1 [(0, fs_c ra 76 b q)]) n 8 (Or.inr rfl) (r, pl, la, dn, vi, de, ct, en, ou, ed) (by rw [hv]; exact hT) P (by rw [hv]; exact fP) hok (nI x) (nI y)) rfl rfl (show za_ov h1 _ 8 = _ from hT.1) rfl (Nat.le_of_ble_eq_true rfl) (Nat.le_of_ble_eq_true rfl) (Nat.le_of_ble_eq_true rfl) (Nat.le_of_ble_eq_true rfl) (Nat.le_of_ble_eq_true rfl) (fun v h' n' hq => ?_)
              obtain ⟨rfl, rfl, rfl⟩ := hq
              rw [hv, tr_run_eq]
              generalize hh2 : tr_put h1 8 (tr_run0 P (nI x) (nI y)) = h2
              have g8 : tr_at h2 8 (tr_run0 P (nI x) (nI y)) := by rw [← hh2]; exact tr_put_at _ _ _
              have goff : ∀ j, j ≠ 8 → j ≠ 9 → h2 j = h1 j := fun j a1 a2 => by rw [← hh2]; exact tr_put_ne a1 a2
              have g0 : h2 0 = some (fs_c ra 76 b q) := by rw [goff 0 (by omega) (by omega)]; exact f0
              have gS : rs_at h2 76 w (k, f) := rs_at_off hw (fun j a1 a2 => goff j (by omega) (by omega))
              have gv : za_ov h2 [(0, fs_c ra 76 b q)] = h2 := by rw [za_ov1, za_set_same g0]
              have gd : fd_at h h2 76 (k, f) := ⟨⟨_, g8⟩, ⟨w, gS⟩, fun j a1 a2 a3 => (goff j a1 a2).trans (hoff j a1 a2 a3)⟩
              refine za_view [(0, fs_c ra 76 b q)] (by simp [g0]) ?_
              iterate 6 refine za_step X rfl rfl rfl ?_
              have hrow : ex_row P x (gy + 1) y (k, f) = (match rs_take (k, f) (wr_of (tr_run0 P (nI x) (nI y)) (nI x) (nI y)) with | none => none | some S' => ex_row P x gy (y + 1) S') := rfl
              refine za_callV (b := 76) (d := 1) (mc := 0) (ms := 0) (as := [vR 8, vI (nI x), vI (nI y)]) (rest := []) X rfl cl_F_R_take cy_R_take cv_R_take (c_R_take l D (za_ov h2 [(0, fs_c ra 76 b q)]) n 76 (Or.inr rfl) w k f (by rw [gv]; exact gS) (tr_run0 P (nI x) (nI y)) (by rw [gv]; exact g8.1) (nI x) (nI y)) rfl rfl (show za_ov h2 _ 76 = _ from gS.1) rfl (Nat.le_of_ble_eq_true rfl) (Nat.le_of_ble_eq_true rfl) (Nat.le_of_ble_eq_true rfl) (Nat.le_of_ble_eq_true rfl) (Nat.le_of_ble_eq_true rfl) (fun v h' n' hq => ?_)
              obtain ⟨hq, rfl⟩ := hq
              rw [gv] at hq
              rw [hrow] at hR
              cases hst : rs_take (k, f) (wr_of (tr_run0 P (nI x) (nI y)) (nI x) (nI y)) with
              | none =>
                rw [hst] at hq hR
                obtain ⟨rfl, rfl⟩ := hq
                refine za_ifne X 59 rfl (by decide) (fun q2 => absurd rfl q2) (fun q2 => ?_)
                iterate 1 refine za_step X rfl rfl rfl ?_
                exact za_zret X rfl (Or.inl rfl) ⟨by rw [← hR]; exact ⟨rfl, _, gd⟩, rfl⟩ (Nat.le_refl _) (Nat.le_refl _)
              | some S' =>
                rw [hst] at hq hR
                obtain ⟨rfl, hS', hoff'⟩ := hq
                refine za_ifne X 59 rfl (by decide) (fun q2 => ?_) (fun q2 => absurd q2 (by decide))
                iterate 2 refine za_step X rfl rfl rfl ?_
                rw [show nI y + Int32.ofInt 1 = nI (y + 1) from nI_1 y]
                refine za_loc [(0, vR 0), (1, vI (nI (2 ^ b))), (2, vI (nI x)), (3, vI (nI (y + 1)))] rfl (ihy (y + 1) S' h' (by omega) ⟨⟨tr_run0 P (nI x) (nI y), ?_⟩, hS', fun j a1 a2 a3 => ?_⟩ hR)
                · exact ⟨by rw [hoff' 8 (by omega)]; exact g8.1, by rw [hoff' 9 (by omega)]; exact g8.2⟩
                · rw [hoff' j a3]; exact gd.2.2 j a1 a2 a3
        iterate 2 refine za_step X rfl rfl rfl ?_
        refine za_icge X 71 rfl (by decide) (fun q1 => ?_) (fun q1 => ?_)
        · exact absurd ((nI_leI (by omega) (by omega)).mp q1) (by omega)
        · iterate 2 refine za_step X rfl rfl rfl ?_
          exact za_loc [(0, vR 0), (1, vI (nI (2 ^ b))), (2, vI (nI x)), (3, vI (nI 0))] rfl (inner (2 ^ b) 0 S h1 (by omega) hfd hR)
    have hv : za_ov h [(0, fs_c ra 76 b q)] = h := by rw [za_ov1, za_set_same hF]
    refine za_view [(0, fs_c ra 76 b q)] (by simp [hF]) ?_
    iterate 2 refine za_step X rfl rfl rfl ?_
    refine za_callV (b := 76) (d := 0) (mc := 0) (ms := 0) (as := []) (rest := []) X rfl cl_F_R_empty cy_R_empty cv_R_empty (c_R_empty l D (za_ov h [(0, fs_c ra 76 b q)]) n 76 (Or.inr rfl) k0 (rs_or f0 k0) (by rw [hv]; exact hD.1)) rfl rfl (show za_ov h _ 76 = _ from hD.1) rfl (Nat.le_of_ble_eq_true rfl) (Nat.le_of_ble_eq_true rfl) (Nat.le_of_ble_eq_true rfl) (Nat.le_of_ble_eq_true rfl) (Nat.le_of_ble_eq_true rfl) (fun v h' n' hq => ?_)
    obtain ⟨rfl, rfl, rfl⟩ := hq
    rw [hv]
    generalize hh1 : za_set h 76 (rs_c 76 0 0) = h1
    have goff : ∀ j, j ≠ 76 → h1 j = h j := fun j a1 => by rw [← hh1]; exact za_set_ne a1
    have g0 : h1 0 = some (fs_c ra 76 b q) := by rw [goff 0 (by omega)]; exact hF
    have gS : rs_at h1 76 wb (0, fun _ => wr_0) := by
      obtain ⟨hr, hg, hw, hf, hrg, hij, hk⟩ := hD
      refine ⟨by rw [← hh1]; exact za_set_eq _ _ _, by rw [goff (76 + 1) (by omega)]; exact hg, fun i hi => ?_, fun i hi => absurd hi (Nat.not_lt_zero i), hrg, hij, Nat.zero_le _⟩
      have := hrg i hi
      rw [goff (wb i) (by omega)]; exact hw i hi
    have gd : fd_at h h1 76 (0, fun _ => wr_0) := ⟨⟨T8, by rw [goff 8 (by omega)]; exact hT.1, by rw [goff (8 + 1) (by omega)]; exact hT.2⟩, ⟨wb, gS⟩, fun j a1 a2 a3 => goff j (by omega)⟩
    refine za_view [(0, fs_c ra 76 b q)] (by simp [g0]) ?_
    iterate 4 refine za_step X rfl rfl rfl ?_
    rw [show (Int32.ofInt 1) <<< (nI b &&& 31) = nI (2 ^ b) from in_pw hb1 hb4]
    iterate 3 refine za_step X rfl rfl rfl ?_
    refine za_look (h1 := h1) (v1 := []) (by rw [za_ov1, za_set_same g0]; rfl) ?_
    exact za_loc [(0, vR 0), (1, vI (nI (2 ^ b))), (2, vI (nI 0))] rfl (outer (2 ^ b) 0 (0, fun _ => wr_0) h1 (by omega) gd rfl)
end
section
/-! THE PUBLIC METHODS: what each answers (0 and a number; 1, 2: it throws) and the state behind it: program, last run, results, width, runs -/
theorem ze_IAE : zt_E "WayFinder" 47 49 "java/lang/IllegalArgumentException" ["java/lang/RuntimeException", "java/lang/Exception"] := ⟨by decide, by decide, zc_F_47, zj_IllegalArgumentException, by decide +kernel⟩
theorem ze_ISE : zt_E "WayFinder" 53 55 "java/lang/IllegalStateException" ["java/lang/RuntimeException", "java/lang/Exception"] := ⟨by decide, by decide, zc_F_53, zj_IllegalStateException, by decide +kernel⟩
theorem ze_NSE : zt_E "WayFinder" 60 62 "java/util/NoSuchElementException" ["java/lang/RuntimeException", "java/lang/Exception"] := ⟨by decide, by decide, zc_F_60, zj_NoSuchElementException, by decide +kernel⟩
abbrev fs_T : Type := pr_T × tr_T × rs_T × Nat × Int32
def fs_at (h : za_H) : fs_T → Prop | (P, T, S, b, q) => pr_ok P ∧ pr_at h P ∧ tr_at h 6 T ∧ 1 ≤ b ∧ b ≤ 4 ∧ ∃ ra rb, ((ra = 10 ∧ rb = 76) ∨ (ra = 76 ∧ rb = 10)) ∧ h 0 = some (fs_c ra rb b q) ∧ (∃ T8, tr_at h 8 T8) ∧ (∃ w, rs_at h ra w S) ∧ ∃ w SD, rs_at h rb w SD
def fs_fr (h h' : za_H) : Prop := ∀ j, 142 ≤ j → h' j = h j
def fs_ps (E1 E2 : String) (h : za_H) (n : Nat) (R : Nat × Int32 × fs_T) (r : Option za_V ⊕ String) (h' : za_H) (n' : Nat) : Prop :=
  fs_at h' R.2.2 ∧ fs_fr h h' ∧ ((R.1 = 0 ∧ r = .inl (some (vI R.2.1)) ∧ n' = n) ∨ (R.1 = 1 ∧ r = .inr E1 ∧ n' = n + 1) ∨ (R.1 = 2 ∧ r = .inr E2 ∧ n' = n + 1))
def sp_instr : fs_T → Int32 → Int32 → Int32 → Int32 → Nat × Int32 × fs_T | (P, T, S, b, q), o, x, y, z => if pr_al o x y z = true then (if P.2.2.2.2 = 24 then (2, 0, (P, T, S, b, q)) else (0, nI (P.2.2.2.2 + 1), (pr_add P o x y z, T, S, b, q))) else (1, 0, (P, T, S, b, q))
def pr_less : pr_T → pr_T | (o, a, b, c, n) => (o, a, b, c, n - 1)
def sp_undo : fs_T → Nat × Int32 × fs_T | (P, T, S, b, q) => if P.2.2.2.2 = 0 then (1, 0, (P, T, S, b, q)) else (0, nI (P.2.2.2.2 - 1), (pr_less P, T, S, b, q))
def sp_width : fs_T → Int32 → Nat × Int32 × fs_T | (P, T, S, b, q), x => if 1 ≤ x ∧ x ≤ 4 then (0, nI b, (P, T, S, x.toNatClampNeg, q)) else (1, 0, (P, T, S, b, q))
def tr_ou (T : tr_T) : Int32 := T.2.2.2.2.2.2.2.2.1
def tr_ed (T : tr_T) : Int32 := T.2.2.2.2.2.2.2.2.2
def tr_dn (T : tr_T) : Int32 := T.2.2.2.1
def sp_run : fs_T → Int32 → Int32 → Nat × Int32 × fs_T | (P, T, S, b, q), x, y => if in_ok b x y = true then (0, tr_ou (tr_run0 P x y), (P, tr_run0 P x y, S, b, q + 1)) else (1, 0, (P, T, S, b, q))
def sp_last : fs_T → Int32 → Nat × Int32 × fs_T | (P, T, S, b, q), x => if q = 0 then (1, 0, (P, T, S, b, q)) else if x = 0 then (0, tr_ed T, (P, T, S, b, q)) else if x = 1 then (0, tr_dn T, (P, T, S, b, q)) else if x = 2 then (0, tr_ct T, (P, T, S, b, q)) else (2, 0, (P, T, S, b, q))
def sp_explore : fs_T → Nat × Int32 × fs_T | (P, T, S, b, q) => match ex_res P b with
  | none => (1, 0, (P, T, S, b, q))
  | some S' => (0, nI S'.1, (P, T, S', b, q))
def wr_x (q : wr_T) : Int32 := q.1
def wr_y (q : wr_T) : Int32 := q.2.1
def wr_ed (q : wr_T) : Int32 := q.2.2.2.1
def sp_way : fs_T → Int32 → Int32 → Nat × Int32 × fs_T | (P, T, S, b, q), k, x => if rs_has S.1 k = true then (if x = 0 then (0, wr_x (S.2 k.toNatClampNeg), (P, T, S, b, q)) else if x = 1 then (0, wr_y (S.2 k.toNatClampNeg), (P, T, S, b, q)) else if x = 2 then (0, wr_ou (S.2 k.toNatClampNeg), (P, T, S, b, q)) else if x = 3 then (0, wr_ed (S.2 k.toNatClampNeg), (P, T, S, b, q)) else if x = 4 then (0, wr_ct (S.2 k.toNatClampNeg), (P, T, S, b, q)) else (2, 0, (P, T, S, b, q))) else (1, 0, (P, T, S, b, q))
def sp_decision : fs_T → Int32 → Int32 → Nat × Int32 × fs_T | (P, T, S, b, q), k, j => if rs_has S.1 k = true ∧ 0 ≤ j ∧ j < wr_ct (S.2 k.toNatClampNeg) then (0, (wr_de (S.2 k.toNatClampNeg) >>> ((39 - j).toInt64 &&& 63)).toInt32 &&& 1, (P, T, S, b, q)) else (1, 0, (P, T, S, b, q))
def sp_match : fs_T → Int32 → Int32 → Nat × Int32 × fs_T | (P, T, S, b, q), x, y => if in_ok b x y = true then (if rs_fa S.2 (tr_run0 P x y) S.1 0 < S.1 then (0, nI (rs_fa S.2 (tr_run0 P x y) S.1 0), (P, T, S, b, q)) else (2, 0, (P, T, S, b, q))) else (1, 0, (P, T, S, b, q))
def sp_example : fs_T → Int32 → Nat × Int32 × fs_T | (P, T, S, b, q), o => if 0 ≤ o ∧ o ≤ 3 then (if rs_li S.2 o S.1 0 256 = 256 then (2, 0, (P, T, S, b, q)) else (0, rs_li S.2 o S.1 0 256, (P, T, S, b, q))) else (1, 0, (P, T, S, b, q))
def sp_count : fs_T → Int32 → Nat × Int32 × fs_T | (P, T, S, b, q), x => if x = 0 then (0, nI P.2.2.2.2, (P, T, S, b, q)) else if x = 1 then (0, nI b, (P, T, S, b, q)) else if x = 2 then (0, nI S.1, (P, T, S, b, q)) else if x = 3 then (0, q, (P, T, S, b, q)) else (1, 0, (P, T, S, b, q))
theorem fs_fr_rf (h : za_H) : fs_fr h h := fun _ _ => rfl
set_option maxHeartbeats 4000000 in
set_option maxRecDepth 100000 in
theorem c_F_instr (l : Launch) (D : za_D) (h : za_H) (n : Nat) (hst : l.stackTraces = false) (σ : fs_T) (hσ : fs_at h σ) (op a x y : Int32) : zg_M l D (.code Y_F_instr.1 Y_F_instr.2.1 Y_F_instr.2.2.1 Y_F_instr.2.2.2) Y_F_instr 6 1 6 [vR 0, vI op, vI a, vI x, vI y] h n (fs_ps "java/lang/IllegalArgumentException" "java/lang/IllegalStateException" h n (sp_instr σ op a x y)) := by
  obtain ⟨P, T, S, b, q⟩ := σ
  have hσ0 := hσ
  obtain ⟨hok, hP, hT, hb1, hb4, ra, rb, hrr, hF, ⟨T8, h8⟩, ⟨w, hS⟩, wb, SD, hD⟩ := hσ
  obtain ⟨oo, aa, bb, cc0, k⟩ := P
  obtain ⟨hP1, hP2, hP3, hP4, hP5⟩ := hP
  have k24 : (Int8.ofInt 24).toInt32 = nI 24 := by decide
  have hv : za_ov h [(0, fs_c ra rb b q), (1, pr_c k)] = h := by rw [za_ov2, za_set_same hP1, za_set_same hF]
  have hs : fs_at (za_ov h [(0, fs_c ra rb b q), (1, pr_c k)]) ((oo, aa, bb, cc0, k), T, S, b, q) := by rw [hv]; exact hσ0
  have hfr : fs_fr h (za_ov h [(0, fs_c ra rb b q), (1, pr_c k)]) := by rw [hv]; exact fs_fr_rf h
  refine zg_enter cd_F_instr fl_F (zg_Kcode Y_F_instr) (by decide) cdok_F_instr flok_F (Nat.le_of_ble_eq_true rfl) ?_
  intro p e s m args below meth c X hH hex
  refine za_view [(0, fs_c ra rb b q), (1, pr_c k)] (by simp [hF, hP1]) ?_
  iterate 4 refine za_step X rfl rfl rfl ?_
  refine za_callS X rfl cl_F_P_allows cy_P_allows cs_P_allows (c_P_allows l D _ n op a x y) rfl rfl (Nat.le_of_ble_eq_true rfl) (Nat.le_of_ble_eq_true rfl) (Nat.le_of_ble_eq_true rfl) (Nat.le_of_ble_eq_true rfl) (Nat.le_of_ble_eq_true rfl) (fun v h' n' hq => ?_)
  obtain ⟨rfl, rfl, rfl⟩ := hq
  refine za_look (h1 := h) (v1 := [(0, fs_c ra rb b q), (1, pr_c k)]) rfl ?_
  refine za_ifne X 19 rfl (by decide) (fun q1 => ?_) (fun q1 => ?_)
  · have hal := bI_n0 q1
    iterate 4 refine za_step X rfl rfl rfl ?_
    refine za_icne X 39 rfl (by decide) (fun q2 => ?_) (fun q2 => ?_)
    · rw [k24] at q2
      have hk : k ≠ 24 := fun z => q2 (by rw [z])
      have hk2 : k < 24 := by have := hok.1; omega
      have e1 : sp_instr ((oo, aa, bb, cc0, k), T, S, b, q) op a x y = (0, nI (k + 1), (pr_add (oo, aa, bb, cc0, k) op a x y, T, S, b, q)) := by
        show (if _ then (if k = 24 then _ else _) else _) = _
        rw [if_pos hal, if_neg hk]
      rw [e1]
      iterate 6 refine za_step X rfl rfl rfl ?_
      refine za_callV (b := 1) (d := 0) (mc := 0) (ms := 0) (as := [vI op, vI a, vI x, vI y]) (rest := []) X rfl cl_F_P_append cy_P_append cv_P_append (c_P_append l D (za_ov h [(0, fs_c ra rb b q), (1, pr_c k)]) n (oo, aa, bb, cc0, k) (by rw [hv]; exact ⟨hP1, hP2, hP3, hP4, hP5⟩) hk2 op a x y) rfl rfl rfl rfl (Nat.le_of_ble_eq_true rfl) (Nat.le_of_ble_eq_true rfl) (Nat.le_of_ble_eq_true rfl) (Nat.le_of_ble_eq_true rfl) (Nat.le_of_ble_eq_true rfl) (fun v h' n' hq => ?_)
      obtain ⟨rfl, ⟨hP', hoff⟩, rfl⟩ := hq
      rw [hv] at hoff
      have g0 : h' 0 = some (fs_c ra rb b q) := by rw [hoff 0 (by omega)]; exact hF
      have g1 : h' 1 = some (pr_c (k + 1)) := hP'.1
      refine za_view [(0, fs_c ra rb b q), (1, pr_c (k + 1))] (by simp [g0, g1]) ?_
      have hv2 : za_ov h' [(0, fs_c ra rb b q), (1, pr_c (k + 1))] = h' := by rw [za_ov2, za_set_same g1, za_set_same g0]
      iterate 3 refine za_step X rfl rfl rfl ?_
      refine zg_of (za_iret X rfl ⟨?_, ?_, Or.inl ⟨rfl, rfl, rfl⟩⟩ (Nat.le_of_ble_eq_true rfl) (Nat.le_of_ble_eq_true rfl))
      · rw [hv2]
        refine ⟨⟨by show k + 1 ≤ 24; omega, fun i hi => ?_⟩, hP', ⟨by rw [hoff 6 (by omega)]; exact hT.1, by rw [hoff (6 + 1) (by omega)]; exact hT.2⟩, hb1, hb4, ra, rb, hrr, g0, ⟨T8, by rw [hoff 8 (by omega)]; exact h8.1, by rw [hoff (8 + 1) (by omega)]; exact h8.2⟩, ⟨w, rs_at_off hS (fun j a1 a2 => hoff j (by omega))⟩, wb, SD, rs_at_off hD (fun j a1 a2 => hoff j (by omega))⟩
        by_cases e : i = k
        · subst e
          simp only [upd, if_true]
          exact hal
        · simp only [upd, if_neg e]
          exact hok.2 i (by have : i < k + 1 := hi; omega)
      · rw [hv2]; exact fun j hj => hoff j (by omega)
    · rw [k24] at q2
      have hk : k = 24 := (nI_eq (by have := hok.1; omega) (by omega)).mp q2
      have e1 : sp_instr ((oo, aa, bb, cc0, k), T, S, b, q) op a x y = (2, 0, ((oo, aa, bb, cc0, k), T, S, b, q)) := by
        show (if _ then (if k = 24 then _ else _) else _) = _
        rw [if_pos hal, if_pos hk]
      rw [e1]
      exact zg_throw X hH hst hex rfl rfl rfl rfl ze_ISE (by decide) (Nat.le_of_ble_eq_true rfl) (Nat.le_of_ble_eq_true rfl) (Nat.le_of_ble_eq_true rfl) ⟨hs, hfr, Or.inr (Or.inr ⟨rfl, rfl, rfl⟩)⟩ (Nat.le_of_ble_eq_true rfl) (Nat.le_of_ble_eq_true rfl)
  · have e1 : sp_instr ((oo, aa, bb, cc0, k), T, S, b, q) op a x y = (1, 0, ((oo, aa, bb, cc0, k), T, S, b, q)) := if_neg (by rw [bI_0 q1]; decide)
    rw [e1]
    exact zg_throw X hH hst hex rfl rfl rfl rfl ze_IAE (by decide) (Nat.le_of_ble_eq_true rfl) (Nat.le_of_ble_eq_true rfl) (Nat.le_of_ble_eq_true rfl) ⟨hs, hfr, Or.inr (Or.inl ⟨rfl, rfl, rfl⟩)⟩ (Nat.le_of_ble_eq_true rfl) (Nat.le_of_ble_eq_true rfl)
end
section
theorem ts_o {x : Int32} {hi : Int} (hh : ∀ i : Int, 0 ≤ i → i ≤ hi → x ≠ Int32.ofInt i) : x.toInt < 0 ∨ hi < x.toInt := by
  by_cases a : x.toInt < 0
  · exact Or.inl a
  · by_cases b : hi < x.toInt
    · exact Or.inr b
    · exact absurd (Int32.ofInt_toInt x).symm (hh x.toInt (by omega) (by omega))
theorem rs_has_n {k : Nat} {x : Int32} (hk : k ≤ 64) (h : rs_has k x = true) : ∃ i, i < k ∧ x = nI i := by
  unfold rs_has at h
  rw [Bool.and_eq_true, decide_eq_true_eq, decide_eq_true_eq] at h
  have h1 : 0 ≤ x.toInt := Int32.le_iff_toInt_le.mp h.1
  have h2 : x.toInt < (nI k).toInt := Int32.lt_iff_toInt_lt.mp h.2
  rw [nI_toInt (by omega)] at h2
  refine ⟨x.toInt.toNat, by omega, ?_⟩
  refine Int32.toInt_inj.mp ?_
  rw [nI_toInt (by omega)]
  omega
theorem rs_has_i {k i : Nat} (hk : k ≤ 64) (h : i < k) : rs_has k (nI i) = true := rh_t (fun q => absurd ((nI_ltI (a := i) (b := 0) (by omega) (by omega)).mp q) (by omega)) (fun q => absurd ((nI_leI (by omega) (by omega)).mp q) (by omega))
theorem rs_has_k {k i : Nat} (hk : k ≤ 64) (h : rs_has k (nI i) = true) (hi : i ≤ 64) : i < k := by
  obtain ⟨j, hj, e⟩ := rs_has_n hk h
  have := (nI_eq (by omega) (by omega)).mp e
  omega
theorem fs_ch {h h' : za_H} {P : pr_T} {T : tr_T} {S : rs_T} {b : Nat} {q : Int32} (hσ : fs_at h (P, T, S, b, q)) (P' : pr_T) (b' : Nat) (q' : Int32) (hok : pr_ok P') (hP : pr_at h' P') (hb1 : 1 ≤ b') (hb4 : b' ≤ 4) (h0 : ∀ ra rb, h 0 = some (fs_c ra rb b q) → h' 0 = some (fs_c ra rb b' q')) (hoff : ∀ j, 6 ≤ j → h' j = h j) : fs_at h' (P', T, S, b', q') := by
  obtain ⟨_, _, hT, _, _, ra, rb, hrr, hF, ⟨T8, h8⟩, ⟨w, hS⟩, wb, SD, hD⟩ := hσ
  exact ⟨hok, hP, ⟨by rw [hoff 6 (by omega)]; exact hT.1, by rw [hoff (6 + 1) (by omega)]; exact hT.2⟩, hb1, hb4, ra, rb, hrr, h0 ra rb hF, ⟨T8, by rw [hoff 8 (by omega)]; exact h8.1, by rw [hoff (8 + 1) (by omega)]; exact h8.2⟩, ⟨w, rs_at_off hS (fun j a1 a2 => hoff j (by omega))⟩, wb, SD, rs_at_off hD (fun j a1 a2 => hoff j (by omega))⟩
theorem fs_t8 {h : za_H} {P : pr_T} {T : tr_T} {S : rs_T} {b : Nat} {q : Int32} (hσ : fs_at h (P, T, S, b, q)) (T8 : tr_T) : fs_at (tr_put h 8 T8) (P, T, S, b, q) := by
  obtain ⟨hok, hP, hT, hb1, hb4, ra, rb, hrr, hF, _, ⟨w, hS⟩, wb, SD, hD⟩ := hσ
  have goff : ∀ j, j ≠ 8 → j ≠ 9 → tr_put h 8 T8 j = h j := fun j a1 a2 => tr_put_ne a1 a2
  exact ⟨hok, pr_at_off hP (fun j a1 a2 => goff j (by omega) (by omega)), ⟨by rw [goff 6 (by omega) (by omega)]; exact hT.1, by rw [goff (6 + 1) (by omega) (by omega)]; exact hT.2⟩, hb1, hb4, ra, rb, hrr, by rw [goff 0 (by omega) (by omega)]; exact hF, ⟨T8, tr_put_at _ _ _⟩, ⟨w, rs_at_off hS (fun j a1 a2 => goff j (by omega) (by omega))⟩, wb, SD, rs_at_off hD (fun j a1 a2 => goff j (by omega) (by omega))⟩
theorem za_ov_f1 {h : za_H} {F c : za_C} (hF : h 0 = some F) : za_ov h [(0, F), (1, c)] = za_set h 1 c := by
  rw [za_ov2, za_set_same (by rw [za_set_ne (by omega)]; exact hF)]
set_option maxHeartbeats 4000000 in
set_option maxRecDepth 100000 in
theorem c_F_undo (l : Launch) (D : za_D) (h : za_H) (n : Nat) (hst : l.stackTraces = false) (σ : fs_T) (hσ : fs_at h σ)  : zg_M l D (.code Y_F_undo.1 Y_F_undo.2.1 Y_F_undo.2.2.1 Y_F_undo.2.2.2) Y_F_undo 6 1 6 [vR 0] h n (fs_ps "java/util/NoSuchElementException" "java/util/NoSuchElementException" h n (sp_undo σ)) := by
  obtain ⟨P, T, S, b, q⟩ := σ
  have hσ0 := hσ
  obtain ⟨hok, hP, hT, hb1, hb4, ra, rb, hrr, hF, ⟨T8, h8⟩, ⟨w, hS⟩, wb, SD, hD⟩ := hσ
  obtain ⟨oo, aa, bb, cc0, k⟩ := P
  obtain ⟨hP1, hP2, hP3, hP4, hP5⟩ := hP
  have hv : za_ov h [(0, fs_c ra rb b q), (1, pr_c k)] = h := by rw [za_ov2, za_set_same hP1, za_set_same hF]
  have hs : fs_at (za_ov h [(0, fs_c ra rb b q), (1, pr_c k)]) ((oo, aa, bb, cc0, k), T, S, b, q) := by rw [hv]; exact hσ0
  have hfr : fs_fr h (za_ov h [(0, fs_c ra rb b q), (1, pr_c k)]) := by rw [hv]; exact fs_fr_rf h
  
  refine zg_enter cd_F_undo fl_F (zg_Kcode Y_F_undo) (by decide) cdok_F_undo flok_F (Nat.le_of_ble_eq_true rfl) ?_
  intro p e s m args below meth c X hH hex
  refine za_view [(0, fs_c ra rb b q), (1, pr_c k)] (by simp [hF, hP1]) ?_
  iterate 3 refine za_step X rfl rfl rfl ?_
  refine za_ifne X 18 rfl (by decide) (fun q1 => ?_) (fun q1 => ?_)
  · have hk : k ≠ 0 := fun z => q1 (by rw [z]; rfl)
    have e1 : sp_undo ((oo, aa, bb, cc0, k), T, S, b, q) = (0, nI (k - 1), ((oo, aa, bb, cc0, k - 1), T, S, b, q)) := if_neg hk
    rw [e1]
    iterate 6 refine za_step X rfl rfl rfl ?_
    rw [show nI k - Int32.ofInt 1 = nI (k - 1) from by have := nI_pred (k - 1); rw [show k - 1 + 1 = k by omega] at this; exact this]
    iterate 4 refine za_step X rfl rfl rfl ?_
    have hfin : za_ov h [(0, fs_c ra rb b q), (1, pr_c (k - 1))] = za_set h 1 (pr_c (k - 1)) := za_ov_f1 hF
    have goff : ∀ j, j ≠ 1 → za_set h 1 (pr_c (k - 1)) j = h j := fun j a => za_set_ne a
    refine zg_of (za_iret X rfl ⟨?_, ?_, Or.inl ⟨rfl, rfl, rfl⟩⟩ (Nat.le_of_ble_eq_true rfl) (Nat.le_of_ble_eq_true rfl))
    · show fs_at (za_ov h [(0, fs_c ra rb b q), (1, pr_c (k - 1))]) _
      rw [hfin]
      refine fs_ch hσ0 (oo, aa, bb, cc0, k - 1) b q ⟨by show k - 1 ≤ 24; have := hok.1; omega, fun i hi => hok.2 i (by have : i < k - 1 := hi; omega)⟩ ⟨za_set_eq _ _ _, by rw [goff 2 (by omega)]; exact hP2, by rw [goff 3 (by omega)]; exact hP3, by rw [goff 4 (by omega)]; exact hP4, by rw [goff 5 (by omega)]; exact hP5⟩ hb1 hb4 (fun ra rb g => by rw [goff 0 (by omega)]; exact g) (fun j hj => goff j (by omega))
    · show fs_fr h (za_ov h [(0, fs_c ra rb b q), (1, pr_c (k - 1))])
      rw [hfin]; exact fun j hj => goff j (by omega)
  · have hk : k = 0 := (nI_eq (by have := hok.1; omega) (by omega)).mp (q1.trans rfl)
    have e1 : sp_undo ((oo, aa, bb, cc0, k), T, S, b, q) = (1, 0, ((oo, aa, bb, cc0, k), T, S, b, q)) := if_pos hk
    rw [e1]
    exact zg_throw X hH hst hex rfl rfl rfl rfl ze_NSE (by decide) (Nat.le_of_ble_eq_true rfl) (Nat.le_of_ble_eq_true rfl) (Nat.le_of_ble_eq_true rfl) ⟨hs, hfr, Or.inr (Or.inl ⟨rfl, rfl, rfl⟩)⟩ (Nat.le_of_ble_eq_true rfl) (Nat.le_of_ble_eq_true rfl)
set_option maxHeartbeats 4000000 in
set_option maxRecDepth 100000 in
theorem c_F_width (l : Launch) (D : za_D) (h : za_H) (n : Nat) (hst : l.stackTraces = false) (σ : fs_T) (hσ : fs_at h σ) (x : Int32) : zg_M l D (.code Y_F_width.1 Y_F_width.2.1 Y_F_width.2.2.1 Y_F_width.2.2.2) Y_F_width 6 1 6 [vR 0, vI x] h n (fs_ps "java/lang/IllegalArgumentException" "java/lang/IllegalArgumentException" h n (sp_width σ x)) := by
  obtain ⟨P, T, S, b, q⟩ := σ
  have hσ0 := hσ
  obtain ⟨hok, hP, hT, hb1, hb4, ra, rb, hrr, hF, ⟨T8, h8⟩, ⟨w, hS⟩, wb, SD, hD⟩ := hσ
  have hv : za_ov h [(0, fs_c ra rb b q)] = h := by rw [za_ov1, za_set_same hF]
  have hs : fs_at (za_ov h [(0, fs_c ra rb b q)]) (P, T, S, b, q) := by rw [hv]; exact hσ0
  have hfr : fs_fr h (za_ov h [(0, fs_c ra rb b q)]) := by rw [hv]; exact fs_fr_rf h
  
  refine zg_enter cd_F_width fl_F (zg_Kcode Y_F_width) (by decide) cdok_F_width flok_F (Nat.le_of_ble_eq_true rfl) ?_
  intro p e s m args below meth c X hH hex
  refine za_view [(0, fs_c ra rb b q)] (by simp [hF]) ?_
  iterate 2 refine za_step X rfl rfl rfl ?_
  refine za_iclt X 10 rfl (by decide) (fun q1 => ?_) (fun q1 => ?_)
  · have e1 : sp_width (P, T, S, b, q) x = (1, 0, (P, T, S, b, q)) := if_neg (fun z => absurd z.1 (Int32.not_le.mpr q1))
    rw [e1]
    exact zg_throw X hH hst hex rfl rfl rfl rfl ze_IAE (by decide) (Nat.le_of_ble_eq_true rfl) (Nat.le_of_ble_eq_true rfl) (Nat.le_of_ble_eq_true rfl) ⟨hs, hfr, Or.inr (Or.inl ⟨rfl, rfl, rfl⟩)⟩ (Nat.le_of_ble_eq_true rfl) (Nat.le_of_ble_eq_true rfl)
  · iterate 2 refine za_step X rfl rfl rfl ?_
    refine za_icle X 18 rfl (by decide) (fun q2 => ?_) (fun q2 => ?_)
    · have hx1 : (1 : Int32) ≤ x := Int32.not_lt.mp q1
      have hx4 : x ≤ (4 : Int32) := q2
      have e1 : sp_width (P, T, S, b, q) x = (0, nI b, (P, T, S, x.toNatClampNeg, q)) := if_pos ⟨hx1, hx4⟩
      rw [e1]
      have t1 : 1 ≤ x.toInt := Int32.le_iff_toInt_le.mp hx1
      have t4 : x.toInt ≤ 4 := Int32.le_iff_toInt_le.mp hx4
      have hc : x.toNatClampNeg = x.toInt.toNat := rfl
      have hx : x = nI x.toNatClampNeg := by
        refine Int32.toInt_inj.mp ?_
        rw [nI_toInt (by omega)]
        omega
      generalize x.toNatClampNeg = k at *
      subst hx
      iterate 7 refine za_step X rfl rfl rfl ?_
      have hfin : za_ov h [(0, fs_c ra rb k q)] = za_set h 0 (fs_c ra rb k q) := za_ov1 _ _ _
      have goff : ∀ j, j ≠ 0 → za_set h 0 (fs_c ra rb k q) j = h j := fun j a => za_set_ne a
      refine zg_of (za_iret X rfl ⟨?_, ?_, Or.inl ⟨rfl, rfl, rfl⟩⟩ (Nat.le_of_ble_eq_true rfl) (Nat.le_of_ble_eq_true rfl))
      · show fs_at (za_ov h [(0, fs_c ra rb k q)]) _
        rw [hfin]
        have hrr2 := hrr
        refine ⟨hok, pr_at_off hP (fun j a1 a2 => goff j (by omega)), ⟨by rw [goff 6 (by omega)]; exact hT.1, by rw [goff (6 + 1) (by omega)]; exact hT.2⟩, by omega, by omega, ra, rb, hrr, za_set_eq _ _ _, ⟨T8, by rw [goff 8 (by omega)]; exact h8.1, by rw [goff (8 + 1) (by omega)]; exact h8.2⟩, ⟨w, rs_at_off hS (fun j a1 a2 => goff j (by omega))⟩, wb, SD, rs_at_off hD (fun j a1 a2 => goff j (by omega))⟩
      · show fs_fr h (za_ov h [(0, fs_c ra rb k q)])
        rw [hfin]; exact fun j hj => goff j (by omega)
    · have e1 : sp_width (P, T, S, b, q) x = (1, 0, (P, T, S, b, q)) := if_neg (fun z => q2 z.2)
      rw [e1]
      exact zg_throw X hH hst hex rfl rfl rfl rfl ze_IAE (by decide) (Nat.le_of_ble_eq_true rfl) (Nat.le_of_ble_eq_true rfl) (Nat.le_of_ble_eq_true rfl) ⟨hs, hfr, Or.inr (Or.inl ⟨rfl, rfl, rfl⟩)⟩ (Nat.le_of_ble_eq_true rfl) (Nat.le_of_ble_eq_true rfl)
set_option maxHeartbeats 4000000 in
set_option maxRecDepth 100000 in
theorem c_F_run (l : Launch) (D : za_D) (h : za_H) (n : Nat) (hst : l.stackTraces = false) (σ : fs_T) (hσ : fs_at h σ) (x y : Int32) : zg_M l D (.code Y_F_run.1 Y_F_run.2.1 Y_F_run.2.2.1 Y_F_run.2.2.2) Y_F_run 6 1 6 [vR 0, vI x, vI y] h n (fs_ps "java/lang/IllegalArgumentException" "java/lang/IllegalArgumentException" h n (sp_run σ x y)) := by
  obtain ⟨P, T, S, b, q⟩ := σ
  have hσ0 := hσ
  obtain ⟨hok, hP, hT, hb1, hb4, ra, rb, hrr, hF, ⟨T8, h8⟩, ⟨w, hS⟩, wb, SD, hD⟩ := hσ
  have hv : za_ov h [(0, fs_c ra rb b q)] = h := by rw [za_ov1, za_set_same hF]
  have hs : fs_at (za_ov h [(0, fs_c ra rb b q)]) (P, T, S, b, q) := by rw [hv]; exact hσ0
  have hfr : fs_fr h (za_ov h [(0, fs_c ra rb b q)]) := by rw [hv]; exact fs_fr_rf h
  
  refine zg_enter cd_F_run fl_F (zg_Kcode Y_F_run) (by decide) cdok_F_run flok_F (Nat.le_of_ble_eq_true rfl) ?_
  intro p e s m args below meth c X hH hex
  refine za_view [(0, fs_c ra rb b q)] (by simp [hF]) ?_
  iterate 3 refine za_step X rfl rfl rfl ?_
  refine za_callV X rfl cl_F_F_areInputs cy_F_areInputs cv_F_areInputs (c_F_areInputs l D (za_ov h [(0, fs_c ra rb b q)]) n ra rb b q rfl x y) rfl rfl rfl rfl (Nat.le_of_ble_eq_true rfl) (Nat.le_of_ble_eq_true rfl) (Nat.le_of_ble_eq_true rfl) (Nat.le_of_ble_eq_true rfl) (Nat.le_of_ble_eq_true rfl) (fun v h' n' hq => ?_)
  obtain ⟨rfl, rfl, rfl⟩ := hq
  refine za_look (h1 := h) (v1 := [(0, fs_c ra rb b q)]) rfl ?_
  refine za_ifne X 17 rfl (by decide) (fun q1 => ?_) (fun q1 => ?_)
  · have e1 : sp_run (P, T, S, b, q) x y = (0, tr_ou (tr_run0 P x y), (P, tr_run0 P x y, S, b, q + 1)) := if_pos (bI_n0 q1)
    rw [e1]
    iterate 6 refine za_step X rfl rfl rfl ?_
    obtain ⟨r, pl, la, dn, vi, de, ct, en, ou, ed⟩ := T
    refine za_callV (b := 6) (d := 4) (mc := 0) (ms := 0) (as := [vR 1, vI x, vI y]) (rest := []) X rfl cl_F_T_follow cy_T_follow cv_T_follow (c_T_follow l D (za_ov h [(0, fs_c ra rb b q)]) n 6 (Or.inl rfl) (r, pl, la, dn, vi, de, ct, en, ou, ed) (by rw [hv]; exact hT) P (by rw [hv]; exact hP) hok x y) rfl rfl (show za_ov h _ 6 = _ from hT.1) rfl (Nat.le_of_ble_eq_true rfl) (Nat.le_of_ble_eq_true rfl) (Nat.le_of_ble_eq_true rfl) (Nat.le_of_ble_eq_true rfl) (Nat.le_of_ble_eq_true rfl) (fun v h' n' hq => ?_)
    obtain ⟨rfl, rfl, rfl⟩ := hq
    rw [hv, tr_run_eq]
    generalize tr_run0 P x y = T'
    generalize hh2 : tr_put h 6 T' = h2
    have g6 : tr_at h2 6 T' := by rw [← hh2]; exact tr_put_at _ _ _
    have goff : ∀ j, j ≠ 6 → j ≠ 7 → h2 j = h j := fun j a1 a2 => by rw [← hh2]; exact tr_put_ne a1 a2
    have g0 : h2 0 = some (fs_c ra rb b q) := by rw [goff 0 (by omega) (by omega)]; exact hF
    clear hh2
    obtain ⟨r, pl, la, dn, vi, de, ct, en, ou, ed⟩ := T'
    refine za_view [(0, fs_c ra rb b q), (6, tr_c 6 (r, pl, la, dn, vi, de, ct, en, ou, ed))] (by simp [g0, g6.1]) ?_
    iterate 9 refine za_step X rfl rfl rfl ?_
    have hfin : za_ov h2 [(0, fs_c ra rb b (q + 1)), (6, tr_c 6 (r, pl, la, dn, vi, de, ct, en, ou, ed))] = za_set h2 0 (fs_c ra rb b (q + 1)) := by rw [za_ov2, za_set_same g6.1]
    have foff : ∀ j, j ≠ 0 → j ≠ 6 → j ≠ 7 → za_set h2 0 (fs_c ra rb b (q + 1)) j = h j := fun j a a1 a2 => (za_set_ne a).trans (goff j a1 a2)
    refine zg_of (za_iret X rfl ⟨?_, ?_, Or.inl ⟨rfl, rfl, rfl⟩⟩ (Nat.le_of_ble_eq_true rfl) (Nat.le_of_ble_eq_true rfl))
    · show fs_at (za_ov h2 [(0, fs_c ra rb b (q + 1)), (6, tr_c 6 (r, pl, la, dn, vi, de, ct, en, ou, ed))]) _
      rw [hfin]
      exact ⟨hok, pr_at_off hP (fun j a1 a2 => foff j (by omega) (by omega) (by omega)), ⟨by rw [za_set_ne (by omega)]; exact g6.1, by rw [za_set_ne (by omega)]; exact g6.2⟩, hb1, hb4, ra, rb, hrr, za_set_eq _ _ _, ⟨T8, by rw [foff 8 (by omega) (by omega) (by omega)]; exact h8.1, by rw [foff (8 + 1) (by omega) (by omega) (by omega)]; exact h8.2⟩, ⟨w, rs_at_off hS (fun j a1 a2 => foff j (by omega) (by omega) (by omega))⟩, wb, SD, rs_at_off hD (fun j a1 a2 => foff j (by omega) (by omega) (by omega))⟩
    · show fs_fr h (za_ov h2 [(0, fs_c ra rb b (q + 1)), (6, tr_c 6 (r, pl, la, dn, vi, de, ct, en, ou, ed))])
      rw [hfin]; exact fun j hj => foff j (by omega) (by omega) (by omega)
  · have e1 : sp_run (P, T, S, b, q) x y = (1, 0, (P, T, S, b, q)) := if_neg (by rw [bI_0 q1]; decide)
    rw [e1]
    exact zg_throw X hH hst hex rfl rfl rfl rfl ze_IAE (by decide) (Nat.le_of_ble_eq_true rfl) (Nat.le_of_ble_eq_true rfl) (Nat.le_of_ble_eq_true rfl) ⟨hs, hfr, Or.inr (Or.inl ⟨rfl, rfl, rfl⟩)⟩ (Nat.le_of_ble_eq_true rfl) (Nat.le_of_ble_eq_true rfl)
set_option maxHeartbeats 4000000 in
set_option maxRecDepth 100000 in
theorem c_F_last (l : Launch) (D : za_D) (h : za_H) (n : Nat) (hst : l.stackTraces = false) (σ : fs_T) (hσ : fs_at h σ) (x : Int32) : zg_M l D (.code Y_F_last.1 Y_F_last.2.1 Y_F_last.2.2.1 Y_F_last.2.2.2) Y_F_last 6 1 6 [vR 0, vI x] h n (fs_ps "java/util/NoSuchElementException" "java/lang/IllegalArgumentException" h n (sp_last σ x)) := by
  obtain ⟨P, T, S, b, q⟩ := σ
  have hσ0 := hσ
  obtain ⟨hok, hP, hT, hb1, hb4, ra, rb, hrr, hF, ⟨T8, h8⟩, ⟨w, hS⟩, wb, SD, hD⟩ := hσ
  obtain ⟨r, pl, la, dn, vi, de, ct, en, ou, ed⟩ := T
  have hv : za_ov h [(0, fs_c ra rb b q), (6, tr_c 6 (r, pl, la, dn, vi, de, ct, en, ou, ed))] = h := by rw [za_ov2, za_set_same hT.1, za_set_same hF]
  have hs : fs_at (za_ov h [(0, fs_c ra rb b q), (6, tr_c 6 (r, pl, la, dn, vi, de, ct, en, ou, ed))]) (P, (r, pl, la, dn, vi, de, ct, en, ou, ed), S, b, q) := by rw [hv]; exact hσ0
  have hfr : fs_fr h (za_ov h [(0, fs_c ra rb b q), (6, tr_c 6 (r, pl, la, dn, vi, de, ct, en, ou, ed))]) := by rw [hv]; exact fs_fr_rf h
  
  refine zg_enter cd_F_last fl_F (zg_Kcode Y_F_last) (by decide) cdok_F_last flok_F (Nat.le_of_ble_eq_true rfl) ?_
  intro p e s m args below meth c X hH hex
  refine za_view [(0, fs_c ra rb b q), (6, tr_c 6 (r, pl, la, dn, vi, de, ct, en, ou, ed))] (by simp [hF, hT.1]) ?_
  iterate 2 refine za_step X rfl rfl rfl ?_
  refine za_ifne X 15 rfl (by decide) (fun q1 => ?_) (fun q1 => ?_)
  · iterate 1 refine za_step X rfl rfl rfl ?_
    by_cases x0 : x = 0
    · subst x0
      have e1 : sp_last (P, (r, pl, la, dn, vi, de, ct, en, ou, ed), S, b, q) 0 = (0, ed, (P, (r, pl, la, dn, vi, de, ct, en, ou, ed), S, b, q)) := by simp [sp_last, q1, tr_ed, tr_dn, tr_ct]
      rw [e1]
      refine za_tsw X 0 44 rfl (by decide) (by decide) (by decide) rfl (by decide) ?_
      iterate 3 refine za_step X rfl rfl rfl ?_
      exact zg_of (za_iret X rfl ⟨hs, hfr, Or.inl ⟨rfl, rfl, rfl⟩⟩ (Nat.le_of_ble_eq_true rfl) (Nat.le_of_ble_eq_true rfl))
    by_cases x1 : x = 1
    · subst x1
      have e1 : sp_last (P, (r, pl, la, dn, vi, de, ct, en, ou, ed), S, b, q) 1 = (0, dn, (P, (r, pl, la, dn, vi, de, ct, en, ou, ed), S, b, q)) := by simp [sp_last, q1, tr_ed, tr_dn, tr_ct]
      rw [e1]
      refine za_tsw X 1 52 rfl (by decide) (by decide) (by decide) rfl (by decide) ?_
      iterate 3 refine za_step X rfl rfl rfl ?_
      exact zg_of (za_iret X rfl ⟨hs, hfr, Or.inl ⟨rfl, rfl, rfl⟩⟩ (Nat.le_of_ble_eq_true rfl) (Nat.le_of_ble_eq_true rfl))
    by_cases x2 : x = 2
    · subst x2
      have e1 : sp_last (P, (r, pl, la, dn, vi, de, ct, en, ou, ed), S, b, q) 2 = (0, ct, (P, (r, pl, la, dn, vi, de, ct, en, ou, ed), S, b, q)) := by simp [sp_last, q1, tr_ed, tr_dn, tr_ct]
      rw [e1]
      refine za_tsw X 2 60 rfl (by decide) (by decide) (by decide) rfl (by decide) ?_
      iterate 3 refine za_step X rfl rfl rfl ?_
      exact zg_of (za_iret X rfl ⟨hs, hfr, Or.inl ⟨rfl, rfl, rfl⟩⟩ (Nat.le_of_ble_eq_true rfl) (Nat.le_of_ble_eq_true rfl))
    
    have e1 : sp_last (P, (r, pl, la, dn, vi, de, ct, en, ou, ed), S, b, q) x = (2, 0, (P, (r, pl, la, dn, vi, de, ct, en, ou, ed), S, b, q)) := by simp [sp_last, q1, x0, x1, x2]
    refine za_tsd X 68 rfl (ts_o (hi := 2) (fun i h1 h2 => by rcases (show i = 0 ∨ i = 1 ∨ i = 2 by omega) with rfl | rfl | rfl <;> first | exact x0 | exact x1 | exact x2)) (by decide) ?_
    rw [e1]
    exact zg_throw X hH hst hex rfl rfl rfl rfl ze_IAE (by decide) (Nat.le_of_ble_eq_true rfl) (Nat.le_of_ble_eq_true rfl) (Nat.le_of_ble_eq_true rfl) ⟨hs, hfr, Or.inr (Or.inr ⟨rfl, rfl, rfl⟩)⟩ (Nat.le_of_ble_eq_true rfl) (Nat.le_of_ble_eq_true rfl)
  · have e1 : sp_last (P, (r, pl, la, dn, vi, de, ct, en, ou, ed), S, b, q) x = (1, 0, (P, (r, pl, la, dn, vi, de, ct, en, ou, ed), S, b, q)) := if_pos q1
    rw [e1]
    exact zg_throw X hH hst hex rfl rfl rfl rfl ze_NSE (by decide) (Nat.le_of_ble_eq_true rfl) (Nat.le_of_ble_eq_true rfl) (Nat.le_of_ble_eq_true rfl) ⟨hs, hfr, Or.inr (Or.inl ⟨rfl, rfl, rfl⟩)⟩ (Nat.le_of_ble_eq_true rfl) (Nat.le_of_ble_eq_true rfl)
end
section
set_option maxHeartbeats 4000000 in
set_option maxRecDepth 100000 in
theorem c_F_explore (l : Launch) (D : za_D) (h : za_H) (n : Nat) (hst : l.stackTraces = false) (σ : fs_T) (hσ : fs_at h σ)  : zg_M l D (.code Y_F_explore.1 Y_F_explore.2.1 Y_F_explore.2.2.1 Y_F_explore.2.2.2) Y_F_explore 6 1 6 [vR 0] h n (fs_ps "java/lang/IllegalStateException" "java/lang/IllegalStateException" h n (sp_explore σ)) := by
  obtain ⟨P, T, S, b, q⟩ := σ
  have hσ0 := hσ
  obtain ⟨hok, hP, hT, hb1, hb4, ra, rb, hrr, hF, ⟨T8, h8⟩, ⟨w, hS⟩, wb, SD, hD⟩ := hσ
  obtain ⟨k, f⟩ := S
  rcases hrr with ⟨rfl, rfl⟩ | ⟨rfl, rfl⟩
  · refine zg_enter cd_F_explore fl_F (zg_Kcode Y_F_explore) (by decide) cdok_F_explore flok_F (Nat.le_of_ble_eq_true rfl) ?_
    intro p e s m args below meth c X hH hex
    have hv : za_ov h [(0, fs_c 10 76 b q)] = h := by rw [za_ov1, za_set_same hF]
    refine za_view [(0, fs_c 10 76 b q)] (by simp [hF]) ?_
    iterate 1 refine za_step X rfl rfl rfl ?_
    refine za_callV (b := 0) (d := 5) (mc := 0) (ms := 0) (as := []) (rest := []) X rfl cl_F_F_fillDraft cy_F_fillDraft cv_F_fillDraft (c_F_fillDraft l D (za_ov h [(0, fs_c 10 76 b q)]) n 10 76 b q rfl (Or.inr rfl) hb1 hb4 P (by rw [hv]; exact hP) hok T8 (by rw [hv]; exact h8) wb SD (by rw [hv]; exact hD)) rfl rfl rfl rfl (Nat.le_of_ble_eq_true rfl) (Nat.le_of_ble_eq_true rfl) (Nat.le_of_ble_eq_true rfl) (Nat.le_of_ble_eq_true rfl) (Nat.le_of_ble_eq_true rfl) (fun v h' n' hq => ?_)
    obtain ⟨hq, rfl⟩ := hq
    rw [hv] at hq
    have keep : ∀ S2, fd_at h h' 76 S2 → h' 0 = some (fs_c 10 76 b q) ∧ pr_at h' P ∧ tr_at h' 6 T ∧ (∃ w, rs_at h' 10 w (k, f)) ∧ fs_fr h h' := by
      intro S2 hfd
      obtain ⟨_, _, hoff⟩ := hfd
      exact ⟨by rw [hoff 0 (by omega) (by omega) (by omega)]; exact hF, pr_at_off hP (fun j a1 a2 => hoff j (by omega) (by omega) (by omega)), ⟨by rw [hoff 6 (by omega) (by omega) (by omega)]; exact hT.1, by rw [hoff (6 + 1) (by omega) (by omega) (by omega)]; exact hT.2⟩, ⟨w, rs_at_off hS (fun j a1 a2 => hoff j (by omega) (by omega) (by omega))⟩, fun j hj => hoff j (by omega) (by omega) (by omega)⟩
    cases hR : ex_res P b with
    | none =>
      rw [hR] at hq
      obtain ⟨rfl, S2, hfd⟩ := hq
      obtain ⟨k0, kP, kT, ⟨w2, kS⟩, hfr⟩ := keep S2 hfd
      have e1 : sp_explore (P, T, (k, f), b, q) = (1, 0, (P, T, (k, f), b, q)) := by simp [sp_explore, hR]
      have hs : fs_at (za_ov h' []) (P, T, (k, f), b, q) := ⟨hok, kP, kT, hb1, hb4, 10, 76, (Or.inl ⟨rfl, rfl⟩), k0, hfd.1, ⟨w2, kS⟩, by obtain ⟨w3, k3⟩ := hfd.2.1; exact ⟨w3, S2, k3⟩⟩
      refine za_ifne X 15 rfl (by decide) (fun q2 => absurd rfl q2) (fun q2 => ?_)
      rw [e1]
      exact zg_throw X hH hst hex rfl rfl rfl rfl ze_ISE (by decide) (Nat.le_of_ble_eq_true rfl) (Nat.le_of_ble_eq_true rfl) (Nat.le_of_ble_eq_true rfl) ⟨hs, hfr, Or.inr (Or.inl ⟨rfl, rfl, rfl⟩)⟩ (Nat.le_of_ble_eq_true rfl) (Nat.le_of_ble_eq_true rfl)
    | some S2 =>
      rw [hR] at hq
      obtain ⟨rfl, hfd⟩ := hq
      obtain ⟨k0, kP, kT, ⟨w2, kS⟩, hfr⟩ := keep S2 hfd
      obtain ⟨k2, f2⟩ := S2
      have e1 : sp_explore (P, T, (k, f), b, q) = (0, nI k2, (P, T, (k2, f2), b, q)) := by simp [sp_explore, hR]
      rw [e1]
      obtain ⟨w3, k3⟩ := hfd.2.1
      have g3 : h' 76 = some (rs_c 76 k2 (rs_or f2 k2)) := k3.1
      generalize rs_or f2 k2 = vis at g3
      refine za_ifne X 15 rfl (by decide) (fun q2 => ?_) (fun q2 => absurd q2 (by decide))
      refine za_view [(0, fs_c 10 76 b q), (76, rs_c 76 k2 vis)] (by simp [k0, g3]) ?_
      iterate 13 refine za_step X rfl rfl rfl ?_
      have hfin : za_ov h' [(0, fs_c 76 10 b q), (76, rs_c 76 k2 vis)] = za_set h' 0 (fs_c 76 10 b q) := by rw [za_ov2, za_set_same g3]
      have goff : ∀ j, j ≠ 0 → za_set h' 0 (fs_c 76 10 b q) j = h' j := fun j a => za_set_ne a
      refine zg_of (za_iret X rfl ⟨?_, ?_, Or.inl ⟨rfl, rfl, rfl⟩⟩ (Nat.le_of_ble_eq_true rfl) (Nat.le_of_ble_eq_true rfl))
      · show fs_at (za_ov h' [(0, fs_c 76 10 b q), (76, rs_c 76 k2 vis)]) _
        rw [hfin]
        obtain ⟨⟨T9, h9⟩, _, _⟩ := hfd
        exact ⟨hok, pr_at_off kP (fun j a1 a2 => goff j (by omega)), ⟨by rw [goff 6 (by omega)]; exact kT.1, by rw [goff (6 + 1) (by omega)]; exact kT.2⟩, hb1, hb4, 76, 10, (Or.inr ⟨rfl, rfl⟩), za_set_eq _ _ _, ⟨T9, by rw [goff 8 (by omega)]; exact h9.1, by rw [goff (8 + 1) (by omega)]; exact h9.2⟩, ⟨w3, rs_at_off k3 (fun j a1 a2 => goff j (by omega))⟩, w2, (k, f), rs_at_off kS (fun j a1 a2 => goff j (by omega))⟩
      · show fs_fr h (za_ov h' [(0, fs_c 76 10 b q), (76, rs_c 76 k2 vis)])
        rw [hfin]; exact fun j hj => (goff j (by omega)).trans (hfr j hj)
  · refine zg_enter cd_F_explore fl_F (zg_Kcode Y_F_explore) (by decide) cdok_F_explore flok_F (Nat.le_of_ble_eq_true rfl) ?_
    intro p e s m args below meth c X hH hex
    have hv : za_ov h [(0, fs_c 76 10 b q)] = h := by rw [za_ov1, za_set_same hF]
    refine za_view [(0, fs_c 76 10 b q)] (by simp [hF]) ?_
    iterate 1 refine za_step X rfl rfl rfl ?_
    refine za_callV (b := 0) (d := 5) (mc := 0) (ms := 0) (as := []) (rest := []) X rfl cl_F_F_fillDraft cy_F_fillDraft cv_F_fillDraft (c_F_fillDraft l D (za_ov h [(0, fs_c 76 10 b q)]) n 76 10 b q rfl (Or.inl rfl) hb1 hb4 P (by rw [hv]; exact hP) hok T8 (by rw [hv]; exact h8) wb SD (by rw [hv]; exact hD)) rfl rfl rfl rfl (Nat.le_of_ble_eq_true rfl) (Nat.le_of_ble_eq_true rfl) (Nat.le_of_ble_eq_true rfl) (Nat.le_of_ble_eq_true rfl) (Nat.le_of_ble_eq_true rfl) (fun v h' n' hq => ?_)
    obtain ⟨hq, rfl⟩ := hq
    rw [hv] at hq
    have keep : ∀ S2, fd_at h h' 10 S2 → h' 0 = some (fs_c 76 10 b q) ∧ pr_at h' P ∧ tr_at h' 6 T ∧ (∃ w, rs_at h' 76 w (k, f)) ∧ fs_fr h h' := by
      intro S2 hfd
      obtain ⟨_, _, hoff⟩ := hfd
      exact ⟨by rw [hoff 0 (by omega) (by omega) (by omega)]; exact hF, pr_at_off hP (fun j a1 a2 => hoff j (by omega) (by omega) (by omega)), ⟨by rw [hoff 6 (by omega) (by omega) (by omega)]; exact hT.1, by rw [hoff (6 + 1) (by omega) (by omega) (by omega)]; exact hT.2⟩, ⟨w, rs_at_off hS (fun j a1 a2 => hoff j (by omega) (by omega) (by omega))⟩, fun j hj => hoff j (by omega) (by omega) (by omega)⟩
    cases hR : ex_res P b with
    | none =>
      rw [hR] at hq
      obtain ⟨rfl, S2, hfd⟩ := hq
      obtain ⟨k0, kP, kT, ⟨w2, kS⟩, hfr⟩ := keep S2 hfd
      have e1 : sp_explore (P, T, (k, f), b, q) = (1, 0, (P, T, (k, f), b, q)) := by simp [sp_explore, hR]
      have hs : fs_at (za_ov h' []) (P, T, (k, f), b, q) := ⟨hok, kP, kT, hb1, hb4, 76, 10, (Or.inr ⟨rfl, rfl⟩), k0, hfd.1, ⟨w2, kS⟩, by obtain ⟨w3, k3⟩ := hfd.2.1; exact ⟨w3, S2, k3⟩⟩
      refine za_ifne X 15 rfl (by decide) (fun q2 => absurd rfl q2) (fun q2 => ?_)
      rw [e1]
      exact zg_throw X hH hst hex rfl rfl rfl rfl ze_ISE (by decide) (Nat.le_of_ble_eq_true rfl) (Nat.le_of_ble_eq_true rfl) (Nat.le_of_ble_eq_true rfl) ⟨hs, hfr, Or.inr (Or.inl ⟨rfl, rfl, rfl⟩)⟩ (Nat.le_of_ble_eq_true rfl) (Nat.le_of_ble_eq_true rfl)
    | some S2 =>
      rw [hR] at hq
      obtain ⟨rfl, hfd⟩ := hq
      obtain ⟨k0, kP, kT, ⟨w2, kS⟩, hfr⟩ := keep S2 hfd
      obtain ⟨k2, f2⟩ := S2
      have e1 : sp_explore (P, T, (k, f), b, q) = (0, nI k2, (P, T, (k2, f2), b, q)) := by simp [sp_explore, hR]
      rw [e1]
      obtain ⟨w3, k3⟩ := hfd.2.1
      have g3 : h' 10 = some (rs_c 10 k2 (rs_or f2 k2)) := k3.1
      generalize rs_or f2 k2 = vis at g3
      refine za_ifne X 15 rfl (by decide) (fun q2 => ?_) (fun q2 => absurd q2 (by decide))
      refine za_view [(0, fs_c 76 10 b q), (10, rs_c 10 k2 vis)] (by simp [k0, g3]) ?_
      iterate 13 refine za_step X rfl rfl rfl ?_
      have hfin : za_ov h' [(0, fs_c 10 76 b q), (10, rs_c 10 k2 vis)] = za_set h' 0 (fs_c 10 76 b q) := by rw [za_ov2, za_set_same g3]
      have goff : ∀ j, j ≠ 0 → za_set h' 0 (fs_c 10 76 b q) j = h' j := fun j a => za_set_ne a
      refine zg_of (za_iret X rfl ⟨?_, ?_, Or.inl ⟨rfl, rfl, rfl⟩⟩ (Nat.le_of_ble_eq_true rfl) (Nat.le_of_ble_eq_true rfl))
      · show fs_at (za_ov h' [(0, fs_c 10 76 b q), (10, rs_c 10 k2 vis)]) _
        rw [hfin]
        obtain ⟨⟨T9, h9⟩, _, _⟩ := hfd
        exact ⟨hok, pr_at_off kP (fun j a1 a2 => goff j (by omega)), ⟨by rw [goff 6 (by omega)]; exact kT.1, by rw [goff (6 + 1) (by omega)]; exact kT.2⟩, hb1, hb4, 10, 76, (Or.inl ⟨rfl, rfl⟩), za_set_eq _ _ _, ⟨T9, by rw [goff 8 (by omega)]; exact h9.1, by rw [goff (8 + 1) (by omega)]; exact h9.2⟩, ⟨w3, rs_at_off k3 (fun j a1 a2 => goff j (by omega))⟩, w2, (k, f), rs_at_off kS (fun j a1 a2 => goff j (by omega))⟩
      · show fs_fr h (za_ov h' [(0, fs_c 10 76 b q), (10, rs_c 10 k2 vis)])
        rw [hfin]; exact fun j hj => (goff j (by omega)).trans (hfr j hj)
set_option maxHeartbeats 4000000 in
set_option maxRecDepth 100000 in
theorem c_F_way (l : Launch) (D : za_D) (h : za_H) (n : Nat) (hst : l.stackTraces = false) (σ : fs_T) (hσ : fs_at h σ) (n1 x : Int32) : zg_M l D (.code Y_F_way.1 Y_F_way.2.1 Y_F_way.2.2.1 Y_F_way.2.2.2) Y_F_way 6 1 6 [vR 0, vI n1, vI x] h n (fs_ps "java/util/NoSuchElementException" "java/lang/IllegalArgumentException" h n (sp_way σ n1 x)) := by
  obtain ⟨P, T, S, b, q⟩ := σ
  have hσ0 := hσ
  obtain ⟨hok, hP, hT, hb1, hb4, ra, rb, hrr, hF, ⟨T8, h8⟩, ⟨w, hS⟩, wb, SD, hD⟩ := hσ
  obtain ⟨k, f⟩ := S
  rcases hrr with ⟨rfl, rfl⟩ | ⟨rfl, rfl⟩
  · have hr : h 10 = some (rs_c 10 k (rs_or f k)) := hS.1
    have hk64 : k ≤ 64 := hS.2.2.2.2.2.2
    generalize rs_or f k = vis at hr
    have hv : za_ov h [(0, fs_c 10 76 b q), (10, rs_c 10 k vis), (11, rs_g w)] = h := by rw [za_ov3, za_set_same hS.2.1, za_set_same hr, za_set_same hF]
    have hs : fs_at (za_ov h [(0, fs_c 10 76 b q), (10, rs_c 10 k vis), (11, rs_g w)]) (P, T, (k, f), b, q) := by rw [hv]; exact hσ0
    have hfr : fs_fr h (za_ov h [(0, fs_c 10 76 b q), (10, rs_c 10 k vis), (11, rs_g w)]) := by rw [hv]; exact fs_fr_rf h
    refine zg_enter cd_F_way fl_F (zg_Kcode Y_F_way) (by decide) cdok_F_way flok_F (Nat.le_of_ble_eq_true rfl) ?_
    intro p e s m args below meth c X hH hex
    refine za_view [(0, fs_c 10 76 b q), (10, rs_c 10 k vis), (11, rs_g w)] (by simp [hF, hr, hS.2.1]) ?_
    iterate 3 refine za_step X rfl rfl rfl ?_
    refine za_callV (b := 10) (d := 0) (mc := 0) (ms := 0) (as := [vI n1]) (rest := []) X rfl cl_F_R_has cy_R_has cv_R_has (c_R_has l D (za_ov h [(0, fs_c 10 76 b q), (10, rs_c 10 k vis), (11, rs_g w)]) n 10 (Or.inl rfl) k vis rfl n1) rfl rfl rfl rfl (Nat.le_of_ble_eq_true rfl) (Nat.le_of_ble_eq_true rfl) (Nat.le_of_ble_eq_true rfl) (Nat.le_of_ble_eq_true rfl) (Nat.le_of_ble_eq_true rfl) (fun v h' n' hq => ?_)
    obtain ⟨rfl, rfl, rfl⟩ := hq
    refine za_look (h1 := h) (v1 := [(0, fs_c 10 76 b q), (10, rs_c 10 k vis), (11, rs_g w)]) rfl ?_
    refine za_ifne X 19 rfl (by decide) (fun q1 => ?_) (fun q1 => ?_)
    · have hal := bI_n0 q1
      obtain ⟨i, hi, rfl⟩ := rs_has_n hk64 hal
      have hci : (nI i).toNatClampNeg = i := nI_clamp (by omega)
      obtain ⟨wx, wy, wo, we, wd, wc, wv, hfi⟩ := wr_cu (f i)
      have hwi : za_ov h [(0, fs_c 10 76 b q), (10, rs_c 10 k vis), (11, rs_g w)] (w i) = some (.inr (zn_W, [vI wx, vI wy, vI wo, vI we, vL wd, vI wc])) := by rw [hv]; have := hS.2.2.2.1 i hi; rw [show ((k, f) : rs_T).2 i = f i from rfl, hfi] at this; exact this
      iterate 4 refine za_step X rfl rfl rfl ?_
      refine za_aald X rfl rfl rfl (vp_in_nI (by omega) (by decide)) ?_
      rw [hci]
      iterate 2 refine za_step X rfl rfl rfl ?_
      by_cases x0 : x = 0
      · subst x0
        have e1 : sp_way (P, T, (k, f), b, q) (nI i) 0 = (0, wx, (P, T, (k, f), b, q)) := by simp [sp_way, hal, hci, hfi, wr_x, wr_y, wr_ou, wr_ed, wr_ct]
        rw [e1]
        refine za_tsw X 0 64 rfl (by decide) (by decide) (by decide) rfl (by decide) ?_
        iterate 1 refine za_step X rfl rfl rfl ?_
        refine za_getH X rfl hwi rfl rfl ?_
        exact zg_of (za_iret X rfl ⟨hs, hfr, Or.inl ⟨rfl, rfl, rfl⟩⟩ (Nat.le_of_ble_eq_true rfl) (Nat.le_of_ble_eq_true rfl))
      by_cases x1 : x = 1
      · subst x1
        have e1 : sp_way (P, T, (k, f), b, q) (nI i) 1 = (0, wy, (P, T, (k, f), b, q)) := by simp [sp_way, hal, hci, hfi, wr_x, wr_y, wr_ou, wr_ed, wr_ct]
        rw [e1]
        refine za_tsw X 1 69 rfl (by decide) (by decide) (by decide) rfl (by decide) ?_
        iterate 1 refine za_step X rfl rfl rfl ?_
        refine za_getH X rfl hwi rfl rfl ?_
        exact zg_of (za_iret X rfl ⟨hs, hfr, Or.inl ⟨rfl, rfl, rfl⟩⟩ (Nat.le_of_ble_eq_true rfl) (Nat.le_of_ble_eq_true rfl))
      by_cases x2 : x = 2
      · subst x2
        have e1 : sp_way (P, T, (k, f), b, q) (nI i) 2 = (0, wo, (P, T, (k, f), b, q)) := by simp [sp_way, hal, hci, hfi, wr_x, wr_y, wr_ou, wr_ed, wr_ct]
        rw [e1]
        refine za_tsw X 2 74 rfl (by decide) (by decide) (by decide) rfl (by decide) ?_
        iterate 1 refine za_step X rfl rfl rfl ?_
        refine za_getH X rfl hwi rfl rfl ?_
        exact zg_of (za_iret X rfl ⟨hs, hfr, Or.inl ⟨rfl, rfl, rfl⟩⟩ (Nat.le_of_ble_eq_true rfl) (Nat.le_of_ble_eq_true rfl))
      by_cases x3 : x = 3
      · subst x3
        have e1 : sp_way (P, T, (k, f), b, q) (nI i) 3 = (0, we, (P, T, (k, f), b, q)) := by simp [sp_way, hal, hci, hfi, wr_x, wr_y, wr_ou, wr_ed, wr_ct]
        rw [e1]
        refine za_tsw X 3 79 rfl (by decide) (by decide) (by decide) rfl (by decide) ?_
        iterate 1 refine za_step X rfl rfl rfl ?_
        refine za_getH X rfl hwi rfl rfl ?_
        exact zg_of (za_iret X rfl ⟨hs, hfr, Or.inl ⟨rfl, rfl, rfl⟩⟩ (Nat.le_of_ble_eq_true rfl) (Nat.le_of_ble_eq_true rfl))
      by_cases x4 : x = 4
      · subst x4
        have e1 : sp_way (P, T, (k, f), b, q) (nI i) 4 = (0, wc, (P, T, (k, f), b, q)) := by simp [sp_way, hal, hci, hfi, wr_x, wr_y, wr_ou, wr_ed, wr_ct]
        rw [e1]
        refine za_tsw X 4 84 rfl (by decide) (by decide) (by decide) rfl (by decide) ?_
        iterate 1 refine za_step X rfl rfl rfl ?_
        refine za_getH X rfl hwi rfl rfl ?_
        exact zg_of (za_iret X rfl ⟨hs, hfr, Or.inl ⟨rfl, rfl, rfl⟩⟩ (Nat.le_of_ble_eq_true rfl) (Nat.le_of_ble_eq_true rfl))
      
      have e1 : sp_way (P, T, (k, f), b, q) (nI i) x = (2, 0, (P, T, (k, f), b, q)) := by simp [sp_way, hal, x0, x1, x2, x3, x4]
      refine za_tsd X 89 rfl (ts_o (hi := 4) (fun i h1 h2 => by rcases (show i = 0 ∨ i = 1 ∨ i = 2 ∨ i = 3 ∨ i = 4 by omega) with rfl | rfl | rfl | rfl | rfl <;> first | exact x0 | exact x1 | exact x2 | exact x3 | exact x4)) (by decide) ?_
      rw [e1]
      exact zg_throw X hH hst hex rfl rfl rfl rfl ze_IAE (by decide) (Nat.le_of_ble_eq_true rfl) (Nat.le_of_ble_eq_true rfl) (Nat.le_of_ble_eq_true rfl) ⟨hs, hfr, Or.inr (Or.inr ⟨rfl, rfl, rfl⟩)⟩ (Nat.le_of_ble_eq_true rfl) (Nat.le_of_ble_eq_true rfl)
    · have e1 : sp_way (P, T, (k, f), b, q) n1 x = (1, 0, (P, T, (k, f), b, q)) := if_neg (by show ¬ rs_has k n1 = true; rw [bI_0 q1]; decide)
      rw [e1]
      exact zg_throw X hH hst hex rfl rfl rfl rfl ze_NSE (by decide) (Nat.le_of_ble_eq_true rfl) (Nat.le_of_ble_eq_true rfl) (Nat.le_of_ble_eq_true rfl) ⟨hs, hfr, Or.inr (Or.inl ⟨rfl, rfl, rfl⟩)⟩ (Nat.le_of_ble_eq_true rfl) (Nat.le_of_ble_eq_true rfl)
  · have hr : h 76 = some (rs_c 76 k (rs_or f k)) := hS.1
    have hk64 : k ≤ 64 := hS.2.2.2.2.2.2
    generalize rs_or f k = vis at hr
    have hv : za_ov h [(0, fs_c 76 10 b q), (76, rs_c 76 k vis), (77, rs_g w)] = h := by rw [za_ov3, za_set_same hS.2.1, za_set_same hr, za_set_same hF]
    have hs : fs_at (za_ov h [(0, fs_c 76 10 b q), (76, rs_c 76 k vis), (77, rs_g w)]) (P, T, (k, f), b, q) := by rw [hv]; exact hσ0
    have hfr : fs_fr h (za_ov h [(0, fs_c 76 10 b q), (76, rs_c 76 k vis), (77, rs_g w)]) := by rw [hv]; exact fs_fr_rf h
    refine zg_enter cd_F_way fl_F (zg_Kcode Y_F_way) (by decide) cdok_F_way flok_F (Nat.le_of_ble_eq_true rfl) ?_
    intro p e s m args below meth c X hH hex
    refine za_view [(0, fs_c 76 10 b q), (76, rs_c 76 k vis), (77, rs_g w)] (by simp [hF, hr, hS.2.1]) ?_
    iterate 3 refine za_step X rfl rfl rfl ?_
    refine za_callV (b := 76) (d := 0) (mc := 0) (ms := 0) (as := [vI n1]) (rest := []) X rfl cl_F_R_has cy_R_has cv_R_has (c_R_has l D (za_ov h [(0, fs_c 76 10 b q), (76, rs_c 76 k vis), (77, rs_g w)]) n 76 (Or.inr rfl) k vis rfl n1) rfl rfl rfl rfl (Nat.le_of_ble_eq_true rfl) (Nat.le_of_ble_eq_true rfl) (Nat.le_of_ble_eq_true rfl) (Nat.le_of_ble_eq_true rfl) (Nat.le_of_ble_eq_true rfl) (fun v h' n' hq => ?_)
    obtain ⟨rfl, rfl, rfl⟩ := hq
    refine za_look (h1 := h) (v1 := [(0, fs_c 76 10 b q), (76, rs_c 76 k vis), (77, rs_g w)]) rfl ?_
    refine za_ifne X 19 rfl (by decide) (fun q1 => ?_) (fun q1 => ?_)
    · have hal := bI_n0 q1
      obtain ⟨i, hi, rfl⟩ := rs_has_n hk64 hal
      have hci : (nI i).toNatClampNeg = i := nI_clamp (by omega)
      obtain ⟨wx, wy, wo, we, wd, wc, wv, hfi⟩ := wr_cu (f i)
      have hwi : za_ov h [(0, fs_c 76 10 b q), (76, rs_c 76 k vis), (77, rs_g w)] (w i) = some (.inr (zn_W, [vI wx, vI wy, vI wo, vI we, vL wd, vI wc])) := by rw [hv]; have := hS.2.2.2.1 i hi; rw [show ((k, f) : rs_T).2 i = f i from rfl, hfi] at this; exact this
      iterate 4 refine za_step X rfl rfl rfl ?_
      refine za_aald X rfl rfl rfl (vp_in_nI (by omega) (by decide)) ?_
      rw [hci]
      iterate 2 refine za_step X rfl rfl rfl ?_
      by_cases x0 : x = 0
      · subst x0
        have e1 : sp_way (P, T, (k, f), b, q) (nI i) 0 = (0, wx, (P, T, (k, f), b, q)) := by simp [sp_way, hal, hci, hfi, wr_x, wr_y, wr_ou, wr_ed, wr_ct]
        rw [e1]
        refine za_tsw X 0 64 rfl (by decide) (by decide) (by decide) rfl (by decide) ?_
        iterate 1 refine za_step X rfl rfl rfl ?_
        refine za_getH X rfl hwi rfl rfl ?_
        exact zg_of (za_iret X rfl ⟨hs, hfr, Or.inl ⟨rfl, rfl, rfl⟩⟩ (Nat.le_of_ble_eq_true rfl) (Nat.le_of_ble_eq_true rfl))
      by_cases x1 : x = 1
      · subst x1
        have e1 : sp_way (P, T, (k, f), b, q) (nI i) 1 = (0, wy, (P, T, (k, f), b, q)) := by simp [sp_way, hal, hci, hfi, wr_x, wr_y, wr_ou, wr_ed, wr_ct]
        rw [e1]
        refine za_tsw X 1 69 rfl (by decide) (by decide) (by decide) rfl (by decide) ?_
        iterate 1 refine za_step X rfl rfl rfl ?_
        refine za_getH X rfl hwi rfl rfl ?_
        exact zg_of (za_iret X rfl ⟨hs, hfr, Or.inl ⟨rfl, rfl, rfl⟩⟩ (Nat.le_of_ble_eq_true rfl) (Nat.le_of_ble_eq_true rfl))
      by_cases x2 : x = 2
      · subst x2
        have e1 : sp_way (P, T, (k, f), b, q) (nI i) 2 = (0, wo, (P, T, (k, f), b, q)) := by simp [sp_way, hal, hci, hfi, wr_x, wr_y, wr_ou, wr_ed, wr_ct]
        rw [e1]
        refine za_tsw X 2 74 rfl (by decide) (by decide) (by decide) rfl (by decide) ?_
        iterate 1 refine za_step X rfl rfl rfl ?_
        refine za_getH X rfl hwi rfl rfl ?_
        exact zg_of (za_iret X rfl ⟨hs, hfr, Or.inl ⟨rfl, rfl, rfl⟩⟩ (Nat.le_of_ble_eq_true rfl) (Nat.le_of_ble_eq_true rfl))
      by_cases x3 : x = 3
      · subst x3
        have e1 : sp_way (P, T, (k, f), b, q) (nI i) 3 = (0, we, (P, T, (k, f), b, q)) := by simp [sp_way, hal, hci, hfi, wr_x, wr_y, wr_ou, wr_ed, wr_ct]
        rw [e1]
        refine za_tsw X 3 79 rfl (by decide) (by decide) (by decide) rfl (by decide) ?_
        iterate 1 refine za_step X rfl rfl rfl ?_
        refine za_getH X rfl hwi rfl rfl ?_
        exact zg_of (za_iret X rfl ⟨hs, hfr, Or.inl ⟨rfl, rfl, rfl⟩⟩ (Nat.le_of_ble_eq_true rfl) (Nat.le_of_ble_eq_true rfl))
      by_cases x4 : x = 4
      · subst x4
        have e1 : sp_way (P, T, (k, f), b, q) (nI i) 4 = (0, wc, (P, T, (k, f), b, q)) := by simp [sp_way, hal, hci, hfi, wr_x, wr_y, wr_ou, wr_ed, wr_ct]
        rw [e1]
        refine za_tsw X 4 84 rfl (by decide) (by decide) (by decide) rfl (by decide) ?_
        iterate 1 refine za_step X rfl rfl rfl ?_
        refine za_getH X rfl hwi rfl rfl ?_
        exact zg_of (za_iret X rfl ⟨hs, hfr, Or.inl ⟨rfl, rfl, rfl⟩⟩ (Nat.le_of_ble_eq_true rfl) (Nat.le_of_ble_eq_true rfl))
      
      have e1 : sp_way (P, T, (k, f), b, q) (nI i) x = (2, 0, (P, T, (k, f), b, q)) := by simp [sp_way, hal, x0, x1, x2, x3, x4]
      refine za_tsd X 89 rfl (ts_o (hi := 4) (fun i h1 h2 => by rcases (show i = 0 ∨ i = 1 ∨ i = 2 ∨ i = 3 ∨ i = 4 by omega) with rfl | rfl | rfl | rfl | rfl <;> first | exact x0 | exact x1 | exact x2 | exact x3 | exact x4)) (by decide) ?_
      rw [e1]
      exact zg_throw X hH hst hex rfl rfl rfl rfl ze_IAE (by decide) (Nat.le_of_ble_eq_true rfl) (Nat.le_of_ble_eq_true rfl) (Nat.le_of_ble_eq_true rfl) ⟨hs, hfr, Or.inr (Or.inr ⟨rfl, rfl, rfl⟩)⟩ (Nat.le_of_ble_eq_true rfl) (Nat.le_of_ble_eq_true rfl)
    · have e1 : sp_way (P, T, (k, f), b, q) n1 x = (1, 0, (P, T, (k, f), b, q)) := if_neg (by show ¬ rs_has k n1 = true; rw [bI_0 q1]; decide)
      rw [e1]
      exact zg_throw X hH hst hex rfl rfl rfl rfl ze_NSE (by decide) (Nat.le_of_ble_eq_true rfl) (Nat.le_of_ble_eq_true rfl) (Nat.le_of_ble_eq_true rfl) ⟨hs, hfr, Or.inr (Or.inl ⟨rfl, rfl, rfl⟩)⟩ (Nat.le_of_ble_eq_true rfl) (Nat.le_of_ble_eq_true rfl)
set_option maxHeartbeats 4000000 in
set_option maxRecDepth 100000 in
theorem c_F_decision (l : Launch) (D : za_D) (h : za_H) (n : Nat) (hst : l.stackTraces = false) (σ : fs_T) (hσ : fs_at h σ) (n1 j : Int32) : zg_M l D (.code Y_F_decision.1 Y_F_decision.2.1 Y_F_decision.2.2.1 Y_F_decision.2.2.2) Y_F_decision 6 1 6 [vR 0, vI n1, vI j] h n (fs_ps "java/util/NoSuchElementException" "java/util/NoSuchElementException" h n (sp_decision σ n1 j)) := by
  obtain ⟨P, T, S, b, q⟩ := σ
  have hσ0 := hσ
  obtain ⟨hok, hP, hT, hb1, hb4, ra, rb, hrr, hF, ⟨T8, h8⟩, ⟨w, hS⟩, wb, SD, hD⟩ := hσ
  obtain ⟨k, f⟩ := S
  rcases hrr with ⟨rfl, rfl⟩ | ⟨rfl, rfl⟩
  · have hr : h 10 = some (rs_c 10 k (rs_or f k)) := hS.1
    have hk64 : k ≤ 64 := hS.2.2.2.2.2.2
    generalize rs_or f k = vis at hr
    have hv : za_ov h [(0, fs_c 10 76 b q), (10, rs_c 10 k vis), (11, rs_g w)] = h := by rw [za_ov3, za_set_same hS.2.1, za_set_same hr, za_set_same hF]
    have hs : fs_at (za_ov h [(0, fs_c 10 76 b q), (10, rs_c 10 k vis), (11, rs_g w)]) (P, T, (k, f), b, q) := by rw [hv]; exact hσ0
    have hfr : fs_fr h (za_ov h [(0, fs_c 10 76 b q), (10, rs_c 10 k vis), (11, rs_g w)]) := by rw [hv]; exact fs_fr_rf h
    refine zg_enter cd_F_decision fl_F (zg_Kcode Y_F_decision) (by decide) cdok_F_decision flok_F (Nat.le_of_ble_eq_true rfl) ?_
    intro p e s m args below meth c X hH hex
    refine za_view [(0, fs_c 10 76 b q), (10, rs_c 10 k vis), (11, rs_g w)] (by simp [hF, hr, hS.2.1]) ?_
    iterate 3 refine za_step X rfl rfl rfl ?_
    refine za_callV (b := 10) (d := 0) (mc := 0) (ms := 0) (as := [vI n1]) (rest := []) X rfl cl_F_R_has cy_R_has cv_R_has (c_R_has l D (za_ov h [(0, fs_c 10 76 b q), (10, rs_c 10 k vis), (11, rs_g w)]) n 10 (Or.inl rfl) k vis rfl n1) rfl rfl rfl rfl (Nat.le_of_ble_eq_true rfl) (Nat.le_of_ble_eq_true rfl) (Nat.le_of_ble_eq_true rfl) (Nat.le_of_ble_eq_true rfl) (Nat.le_of_ble_eq_true rfl) (fun v h' n' hq => ?_)
    obtain ⟨rfl, rfl, rfl⟩ := hq
    refine za_look (h1 := h) (v1 := [(0, fs_c 10 76 b q), (10, rs_c 10 k vis), (11, rs_g w)]) rfl ?_
    refine za_ifeq X 31 rfl (by decide) (fun q1 => ?_) (fun q1 => ?_)
    · have e1 : sp_decision (P, T, (k, f), b, q) n1 j = (1, 0, (P, T, (k, f), b, q)) := if_neg (by intro z; have z1 : rs_has k n1 = true := z.1; rw [bI_0 q1] at z1; cases z1)
      rw [e1]
      exact zg_throw X hH hst hex rfl rfl rfl rfl ze_NSE (by decide) (Nat.le_of_ble_eq_true rfl) (Nat.le_of_ble_eq_true rfl) (Nat.le_of_ble_eq_true rfl) ⟨hs, hfr, Or.inr (Or.inl ⟨rfl, rfl, rfl⟩)⟩ (Nat.le_of_ble_eq_true rfl) (Nat.le_of_ble_eq_true rfl)
    · have hal := bI_n0 q1
      obtain ⟨i, hi, rfl⟩ := rs_has_n hk64 hal
      have hci : (nI i).toNatClampNeg = i := nI_clamp (by omega)
      obtain ⟨wx, wy, wo, we, wd, wc, wv, hfi⟩ := wr_cu (f i)
      have hwi : za_ov h [(0, fs_c 10 76 b q), (10, rs_c 10 k vis), (11, rs_g w)] (w i) = some (.inr (zn_W, [vI wx, vI wy, vI wo, vI we, vL wd, vI wc])) := by rw [hv]; have := hS.2.2.2.1 i hi; rw [show ((k, f) : rs_T).2 i = f i from rfl, hfi] at this; exact this
      iterate 1 refine za_step X rfl rfl rfl ?_
      refine za_iflt X 31 rfl (by decide) (fun q2 => ?_) (fun q2 => ?_)
      · have e1 : sp_decision (P, T, (k, f), b, q) (nI i) j = (1, 0, (P, T, (k, f), b, q)) := if_neg (fun z => absurd z.2.1 (Int32.not_le.mpr q2))
        rw [e1]
        exact zg_throw X hH hst hex rfl rfl rfl rfl ze_NSE (by decide) (Nat.le_of_ble_eq_true rfl) (Nat.le_of_ble_eq_true rfl) (Nat.le_of_ble_eq_true rfl) ⟨hs, hfr, Or.inr (Or.inl ⟨rfl, rfl, rfl⟩)⟩ (Nat.le_of_ble_eq_true rfl) (Nat.le_of_ble_eq_true rfl)
      · iterate 5 refine za_step X rfl rfl rfl ?_
        refine za_aald X rfl rfl rfl (vp_in_nI (by omega) (by decide)) ?_
        rw [hci]
        refine za_getH X rfl hwi rfl rfl ?_
        refine za_iclt X 39 rfl (by decide) (fun q3 => ?_) (fun q3 => ?_)
        · have e1 : sp_decision (P, T, (k, f), b, q) (nI i) j = (0, (wd >>> ((39 - j).toInt64 &&& 63)).toInt32 &&& 1, (P, T, (k, f), b, q)) := by
            have hc : rs_has k (nI i) = true ∧ 0 ≤ j ∧ j < wr_ct (f (nI i).toNatClampNeg) := ⟨hal, Int32.not_lt.mp q2, by rw [hci, hfi]; exact q3⟩
            show (if rs_has k (nI i) = true ∧ 0 ≤ j ∧ j < wr_ct (f (nI i).toNatClampNeg) then _ else _) = _
            rw [if_pos hc]
            show (0, (wr_de (f (nI i).toNatClampNeg) >>> ((39 - j).toInt64 &&& 63)).toInt32 &&& 1, _) = _
            rw [hci, hfi]; rfl
          rw [e1]
          iterate 4 refine za_step X rfl rfl rfl ?_
          refine za_aald X rfl rfl rfl (vp_in_nI (by omega) (by decide)) ?_
          rw [hci]
          refine za_getH X rfl hwi rfl rfl ?_
          iterate 1 refine za_step X rfl rfl rfl ?_
          refine za_callS X rfl cl_F_F_decisionBit cy_F_decisionBit cs_F_decisionBit (c_F_decisionBit l D _ n j) rfl rfl (Nat.le_of_ble_eq_true rfl) (Nat.le_of_ble_eq_true rfl) (Nat.le_of_ble_eq_true rfl) (Nat.le_of_ble_eq_true rfl) (Nat.le_of_ble_eq_true rfl) (fun v h' n' hq => ?_)
          obtain ⟨rfl, rfl, rfl⟩ := hq
          refine za_look (h1 := h) (v1 := [(0, fs_c 10 76 b q), (10, rs_c 10 k vis), (11, rs_g w)]) rfl ?_
          iterate 4 refine za_step X rfl rfl rfl ?_
          exact zg_of (za_iret X rfl ⟨hs, hfr, Or.inl ⟨rfl, rfl, rfl⟩⟩ (Nat.le_of_ble_eq_true rfl) (Nat.le_of_ble_eq_true rfl))
        · have e1 : sp_decision (P, T, (k, f), b, q) (nI i) j = (1, 0, (P, T, (k, f), b, q)) := if_neg (by intro z; have z2 : j < wr_ct (f (nI i).toNatClampNeg) := z.2.2; rw [hci, hfi] at z2; exact q3 z2)
          rw [e1]
          exact zg_throw X hH hst hex rfl rfl rfl rfl ze_NSE (by decide) (Nat.le_of_ble_eq_true rfl) (Nat.le_of_ble_eq_true rfl) (Nat.le_of_ble_eq_true rfl) ⟨hs, hfr, Or.inr (Or.inl ⟨rfl, rfl, rfl⟩)⟩ (Nat.le_of_ble_eq_true rfl) (Nat.le_of_ble_eq_true rfl)
  · have hr : h 76 = some (rs_c 76 k (rs_or f k)) := hS.1
    have hk64 : k ≤ 64 := hS.2.2.2.2.2.2
    generalize rs_or f k = vis at hr
    have hv : za_ov h [(0, fs_c 76 10 b q), (76, rs_c 76 k vis), (77, rs_g w)] = h := by rw [za_ov3, za_set_same hS.2.1, za_set_same hr, za_set_same hF]
    have hs : fs_at (za_ov h [(0, fs_c 76 10 b q), (76, rs_c 76 k vis), (77, rs_g w)]) (P, T, (k, f), b, q) := by rw [hv]; exact hσ0
    have hfr : fs_fr h (za_ov h [(0, fs_c 76 10 b q), (76, rs_c 76 k vis), (77, rs_g w)]) := by rw [hv]; exact fs_fr_rf h
    refine zg_enter cd_F_decision fl_F (zg_Kcode Y_F_decision) (by decide) cdok_F_decision flok_F (Nat.le_of_ble_eq_true rfl) ?_
    intro p e s m args below meth c X hH hex
    refine za_view [(0, fs_c 76 10 b q), (76, rs_c 76 k vis), (77, rs_g w)] (by simp [hF, hr, hS.2.1]) ?_
    iterate 3 refine za_step X rfl rfl rfl ?_
    refine za_callV (b := 76) (d := 0) (mc := 0) (ms := 0) (as := [vI n1]) (rest := []) X rfl cl_F_R_has cy_R_has cv_R_has (c_R_has l D (za_ov h [(0, fs_c 76 10 b q), (76, rs_c 76 k vis), (77, rs_g w)]) n 76 (Or.inr rfl) k vis rfl n1) rfl rfl rfl rfl (Nat.le_of_ble_eq_true rfl) (Nat.le_of_ble_eq_true rfl) (Nat.le_of_ble_eq_true rfl) (Nat.le_of_ble_eq_true rfl) (Nat.le_of_ble_eq_true rfl) (fun v h' n' hq => ?_)
    obtain ⟨rfl, rfl, rfl⟩ := hq
    refine za_look (h1 := h) (v1 := [(0, fs_c 76 10 b q), (76, rs_c 76 k vis), (77, rs_g w)]) rfl ?_
    refine za_ifeq X 31 rfl (by decide) (fun q1 => ?_) (fun q1 => ?_)
    · have e1 : sp_decision (P, T, (k, f), b, q) n1 j = (1, 0, (P, T, (k, f), b, q)) := if_neg (by intro z; have z1 : rs_has k n1 = true := z.1; rw [bI_0 q1] at z1; cases z1)
      rw [e1]
      exact zg_throw X hH hst hex rfl rfl rfl rfl ze_NSE (by decide) (Nat.le_of_ble_eq_true rfl) (Nat.le_of_ble_eq_true rfl) (Nat.le_of_ble_eq_true rfl) ⟨hs, hfr, Or.inr (Or.inl ⟨rfl, rfl, rfl⟩)⟩ (Nat.le_of_ble_eq_true rfl) (Nat.le_of_ble_eq_true rfl)
    · have hal := bI_n0 q1
      obtain ⟨i, hi, rfl⟩ := rs_has_n hk64 hal
      have hci : (nI i).toNatClampNeg = i := nI_clamp (by omega)
      obtain ⟨wx, wy, wo, we, wd, wc, wv, hfi⟩ := wr_cu (f i)
      have hwi : za_ov h [(0, fs_c 76 10 b q), (76, rs_c 76 k vis), (77, rs_g w)] (w i) = some (.inr (zn_W, [vI wx, vI wy, vI wo, vI we, vL wd, vI wc])) := by rw [hv]; have := hS.2.2.2.1 i hi; rw [show ((k, f) : rs_T).2 i = f i from rfl, hfi] at this; exact this
      iterate 1 refine za_step X rfl rfl rfl ?_
      refine za_iflt X 31 rfl (by decide) (fun q2 => ?_) (fun q2 => ?_)
      · have e1 : sp_decision (P, T, (k, f), b, q) (nI i) j = (1, 0, (P, T, (k, f), b, q)) := if_neg (fun z => absurd z.2.1 (Int32.not_le.mpr q2))
        rw [e1]
        exact zg_throw X hH hst hex rfl rfl rfl rfl ze_NSE (by decide) (Nat.le_of_ble_eq_true rfl) (Nat.le_of_ble_eq_true rfl) (Nat.le_of_ble_eq_true rfl) ⟨hs, hfr, Or.inr (Or.inl ⟨rfl, rfl, rfl⟩)⟩ (Nat.le_of_ble_eq_true rfl) (Nat.le_of_ble_eq_true rfl)
      · iterate 5 refine za_step X rfl rfl rfl ?_
        refine za_aald X rfl rfl rfl (vp_in_nI (by omega) (by decide)) ?_
        rw [hci]
        refine za_getH X rfl hwi rfl rfl ?_
        refine za_iclt X 39 rfl (by decide) (fun q3 => ?_) (fun q3 => ?_)
        · have e1 : sp_decision (P, T, (k, f), b, q) (nI i) j = (0, (wd >>> ((39 - j).toInt64 &&& 63)).toInt32 &&& 1, (P, T, (k, f), b, q)) := by
            have hc : rs_has k (nI i) = true ∧ 0 ≤ j ∧ j < wr_ct (f (nI i).toNatClampNeg) := ⟨hal, Int32.not_lt.mp q2, by rw [hci, hfi]; exact q3⟩
            show (if rs_has k (nI i) = true ∧ 0 ≤ j ∧ j < wr_ct (f (nI i).toNatClampNeg) then _ else _) = _
            rw [if_pos hc]
            show (0, (wr_de (f (nI i).toNatClampNeg) >>> ((39 - j).toInt64 &&& 63)).toInt32 &&& 1, _) = _
            rw [hci, hfi]; rfl
          rw [e1]
          iterate 4 refine za_step X rfl rfl rfl ?_
          refine za_aald X rfl rfl rfl (vp_in_nI (by omega) (by decide)) ?_
          rw [hci]
          refine za_getH X rfl hwi rfl rfl ?_
          iterate 1 refine za_step X rfl rfl rfl ?_
          refine za_callS X rfl cl_F_F_decisionBit cy_F_decisionBit cs_F_decisionBit (c_F_decisionBit l D _ n j) rfl rfl (Nat.le_of_ble_eq_true rfl) (Nat.le_of_ble_eq_true rfl) (Nat.le_of_ble_eq_true rfl) (Nat.le_of_ble_eq_true rfl) (Nat.le_of_ble_eq_true rfl) (fun v h' n' hq => ?_)
          obtain ⟨rfl, rfl, rfl⟩ := hq
          refine za_look (h1 := h) (v1 := [(0, fs_c 76 10 b q), (76, rs_c 76 k vis), (77, rs_g w)]) rfl ?_
          iterate 4 refine za_step X rfl rfl rfl ?_
          exact zg_of (za_iret X rfl ⟨hs, hfr, Or.inl ⟨rfl, rfl, rfl⟩⟩ (Nat.le_of_ble_eq_true rfl) (Nat.le_of_ble_eq_true rfl))
        · have e1 : sp_decision (P, T, (k, f), b, q) (nI i) j = (1, 0, (P, T, (k, f), b, q)) := if_neg (by intro z; have z2 : j < wr_ct (f (nI i).toNatClampNeg) := z.2.2; rw [hci, hfi] at z2; exact q3 z2)
          rw [e1]
          exact zg_throw X hH hst hex rfl rfl rfl rfl ze_NSE (by decide) (Nat.le_of_ble_eq_true rfl) (Nat.le_of_ble_eq_true rfl) (Nat.le_of_ble_eq_true rfl) ⟨hs, hfr, Or.inr (Or.inl ⟨rfl, rfl, rfl⟩)⟩ (Nat.le_of_ble_eq_true rfl) (Nat.le_of_ble_eq_true rfl)
theorem rs_fa_le (f : Nat → wr_T) (T : tr_T) : ∀ (g i : Nat), rs_fa f T g i ≤ i + g := by
  intro g
  induction g with
  | zero => intro i; exact Nat.le_refl _
  | succ g ih =>
    intro i
    unfold rs_fa
    split
    · omega
    · have := ih (i + 1); omega
set_option maxHeartbeats 4000000 in
set_option maxRecDepth 100000 in
theorem c_F_match (l : Launch) (D : za_D) (h : za_H) (n : Nat) (hst : l.stackTraces = false) (σ : fs_T) (hσ : fs_at h σ) (x y : Int32) : zg_M l D (.code Y_F_match.1 Y_F_match.2.1 Y_F_match.2.2.1 Y_F_match.2.2.2) Y_F_match 6 1 6 [vR 0, vI x, vI y] h n (fs_ps "java/lang/IllegalArgumentException" "java/util/NoSuchElementException" h n (sp_match σ x y)) := by
  obtain ⟨P, T, S, b, q⟩ := σ
  have hσ0 := hσ
  obtain ⟨hok, hP, hT, hb1, hb4, ra, rb, hrr, hF, ⟨T8, h8⟩, ⟨w, hS⟩, wb, SD, hD⟩ := hσ
  obtain ⟨k, f⟩ := S
  rcases hrr with ⟨rfl, rfl⟩ | ⟨rfl, rfl⟩
  · have hv : za_ov h [(0, fs_c 10 76 b q)] = h := by rw [za_ov1, za_set_same hF]
    have hs : fs_at (za_ov h [(0, fs_c 10 76 b q)]) (P, T, (k, f), b, q) := by rw [hv]; exact hσ0
    have hfr : fs_fr h (za_ov h [(0, fs_c 10 76 b q)]) := by rw [hv]; exact fs_fr_rf h
    refine zg_enter cd_F_match fl_F (zg_Kcode Y_F_match) (by decide) cdok_F_match flok_F (Nat.le_of_ble_eq_true rfl) ?_
    intro p e s m args below meth c X hH hex
    refine za_view [(0, fs_c 10 76 b q)] (by simp [hF]) ?_
    iterate 3 refine za_step X rfl rfl rfl ?_
    refine za_callV X rfl cl_F_F_areInputs cy_F_areInputs cv_F_areInputs (c_F_areInputs l D (za_ov h [(0, fs_c 10 76 b q)]) n 10 76 b q rfl x y) rfl rfl rfl rfl (Nat.le_of_ble_eq_true rfl) (Nat.le_of_ble_eq_true rfl) (Nat.le_of_ble_eq_true rfl) (Nat.le_of_ble_eq_true rfl) (Nat.le_of_ble_eq_true rfl) (fun v h' n' hq => ?_)
    obtain ⟨rfl, rfl, rfl⟩ := hq
    refine za_look (h1 := h) (v1 := [(0, fs_c 10 76 b q)]) rfl ?_
    refine za_ifne X 17 rfl (by decide) (fun q1 => ?_) (fun q1 => ?_)
    · iterate 6 refine za_step X rfl rfl rfl ?_
      obtain ⟨r, pl, la, dn, vi, de, ct, en, ou, ed⟩ := T8
      refine za_callV (b := 8) (d := 4) (mc := 0) (ms := 0) (as := [vR 1, vI x, vI y]) (rest := []) X rfl cl_F_T_follow cy_T_follow cv_T_follow (c_T_follow l D (za_ov h [(0, fs_c 10 76 b q)]) n 8 (Or.inr rfl) (r, pl, la, dn, vi, de, ct, en, ou, ed) (by rw [hv]; exact h8) P (by rw [hv]; exact hP) hok x y) rfl rfl (show za_ov h _ 8 = _ from h8.1) rfl (Nat.le_of_ble_eq_true rfl) (Nat.le_of_ble_eq_true rfl) (Nat.le_of_ble_eq_true rfl) (Nat.le_of_ble_eq_true rfl) (Nat.le_of_ble_eq_true rfl) (fun v h' n' hq => ?_)
      obtain ⟨rfl, rfl, rfl⟩ := hq
      rw [hv, tr_run_eq]
      have hσ2 := fs_t8 hσ0 (tr_run0 P x y)
      generalize hT2 : tr_run0 P x y = T2 at hσ2
      generalize hh2 : tr_put h 8 T2 = h2 at hσ2
      have g8 : tr_at h2 8 T2 := by rw [← hh2]; exact tr_put_at _ _ _
      have goff : ∀ j, j ≠ 8 → j ≠ 9 → h2 j = h j := fun j a1 a2 => by rw [← hh2]; exact tr_put_ne a1 a2
      have g0 : h2 0 = some (fs_c 10 76 b q) := by rw [goff 0 (by omega) (by omega)]; exact hF
      have gS : rs_at h2 10 w (k, f) := rs_at_off hS (fun j a1 a2 => goff j (by omega) (by omega))
      have hk64 : k ≤ 64 := hS.2.2.2.2.2.2
      have gr : h2 10 = some (rs_c 10 k (rs_or f k)) := gS.1
      have gv : za_ov h2 [(0, fs_c 10 76 b q)] = h2 := by rw [za_ov1, za_set_same g0]
      have hs : fs_at (za_ov h2 [(0, fs_c 10 76 b q)]) (P, T, (k, f), b, q) := by rw [gv]; exact hσ2
      have hfr : fs_fr h (za_ov h2 [(0, fs_c 10 76 b q)]) := by rw [gv]; exact fun j hj => goff j (by omega) (by omega)
      refine za_view [(0, fs_c 10 76 b q)] (by simp [g0]) ?_
      iterate 4 refine za_step X rfl rfl rfl ?_
      refine za_callV (b := 10) (d := 1) (mc := 0) (ms := 0) (as := [vR 8]) (rest := []) X rfl cl_F_R_firstAgreeing cy_R_firstAgreeing cv_R_firstAgreeing (c_R_firstAgreeing l D (za_ov h2 [(0, fs_c 10 76 b q)]) n 10 (Or.inl rfl) w k f (by rw [gv]; exact gS) T2 (by rw [gv]; exact g8.1)) rfl rfl (show za_ov h2 _ 10 = _ from gr) rfl (Nat.le_of_ble_eq_true rfl) (Nat.le_of_ble_eq_true rfl) (Nat.le_of_ble_eq_true rfl) (Nat.le_of_ble_eq_true rfl) (Nat.le_of_ble_eq_true rfl) (fun v h' n' hq => ?_)
      obtain ⟨rfl, rfl, rfl⟩ := hq
      refine za_look (h1 := h2) (v1 := [(0, fs_c 10 76 b q)]) rfl ?_
      iterate 4 refine za_step X rfl rfl rfl ?_
      refine za_callV (b := 10) (d := 0) (mc := 0) (ms := 0) (as := [vI (nI (rs_fa f T2 k 0))]) (rest := []) X rfl cl_F_R_has cy_R_has cv_R_has (c_R_has l D (za_ov h2 [(0, fs_c 10 76 b q)]) n 10 (Or.inl rfl) k (rs_or f k) (by rw [gv]; exact gr) (nI (rs_fa f T2 k 0))) rfl rfl (show za_ov h2 _ 10 = _ from gr) rfl (Nat.le_of_ble_eq_true rfl) (Nat.le_of_ble_eq_true rfl) (Nat.le_of_ble_eq_true rfl) (Nat.le_of_ble_eq_true rfl) (Nat.le_of_ble_eq_true rfl) (fun v h' n' hq => ?_)
      obtain ⟨rfl, rfl, rfl⟩ := hq
      refine za_look (h1 := h2) (v1 := [(0, fs_c 10 76 b q)]) rfl ?_
      have hle := rs_fa_le f T2 k 0
      refine za_ifne X 61 rfl (by decide) (fun q2 => ?_) (fun q2 => ?_)
      · have hlt : rs_fa f T2 k 0 < k := rs_has_k hk64 (bI_n0 q2) (by omega)
        have e1 : sp_match (P, T, (k, f), b, q) x y = (0, nI (rs_fa f T2 k 0), (P, T, (k, f), b, q)) := by
          show (if in_ok b x y = true then (if rs_fa f (tr_run0 P x y) k 0 < k then (0, nI (rs_fa f (tr_run0 P x y) k 0), _) else _) else _) = _
          rw [if_pos (bI_n0 q1), hT2, if_pos hlt]
        rw [e1]
        iterate 1 refine za_step X rfl rfl rfl ?_
        exact zg_of (za_iret X rfl ⟨hs, hfr, Or.inl ⟨rfl, rfl, rfl⟩⟩ (Nat.le_of_ble_eq_true rfl) (Nat.le_of_ble_eq_true rfl))
      · have hlt : ¬ rs_fa f T2 k 0 < k := fun z => by have := rs_has_i hk64 z; rw [bI_0 q2] at this; cases this
        have e1 : sp_match (P, T, (k, f), b, q) x y = (2, 0, (P, T, (k, f), b, q)) := by
          show (if in_ok b x y = true then (if rs_fa f (tr_run0 P x y) k 0 < k then _ else (2, 0, _)) else _) = _
          rw [if_pos (bI_n0 q1), hT2, if_neg hlt]
        rw [e1]
        exact zg_throw X hH hst hex rfl rfl rfl rfl ze_NSE (by decide) (Nat.le_of_ble_eq_true rfl) (Nat.le_of_ble_eq_true rfl) (Nat.le_of_ble_eq_true rfl) ⟨hs, hfr, Or.inr (Or.inr ⟨rfl, rfl, rfl⟩)⟩ (Nat.le_of_ble_eq_true rfl) (Nat.le_of_ble_eq_true rfl)
    · have e1 : sp_match (P, T, (k, f), b, q) x y = (1, 0, (P, T, (k, f), b, q)) := if_neg (by rw [bI_0 q1]; decide)
      rw [e1]
      exact zg_throw X hH hst hex rfl rfl rfl rfl ze_IAE (by decide) (Nat.le_of_ble_eq_true rfl) (Nat.le_of_ble_eq_true rfl) (Nat.le_of_ble_eq_true rfl) ⟨hs, hfr, Or.inr (Or.inl ⟨rfl, rfl, rfl⟩)⟩ (Nat.le_of_ble_eq_true rfl) (Nat.le_of_ble_eq_true rfl)
  · have hv : za_ov h [(0, fs_c 76 10 b q)] = h := by rw [za_ov1, za_set_same hF]
    have hs : fs_at (za_ov h [(0, fs_c 76 10 b q)]) (P, T, (k, f), b, q) := by rw [hv]; exact hσ0
    have hfr : fs_fr h (za_ov h [(0, fs_c 76 10 b q)]) := by rw [hv]; exact fs_fr_rf h
    refine zg_enter cd_F_match fl_F (zg_Kcode Y_F_match) (by decide) cdok_F_match flok_F (Nat.le_of_ble_eq_true rfl) ?_
    intro p e s m args below meth c X hH hex
    refine za_view [(0, fs_c 76 10 b q)] (by simp [hF]) ?_
    iterate 3 refine za_step X rfl rfl rfl ?_
    refine za_callV X rfl cl_F_F_areInputs cy_F_areInputs cv_F_areInputs (c_F_areInputs l D (za_ov h [(0, fs_c 76 10 b q)]) n 76 10 b q rfl x y) rfl rfl rfl rfl (Nat.le_of_ble_eq_true rfl) (Nat.le_of_ble_eq_true rfl) (Nat.le_of_ble_eq_true rfl) (Nat.le_of_ble_eq_true rfl) (Nat.le_of_ble_eq_true rfl) (fun v h' n' hq => ?_)
    obtain ⟨rfl, rfl, rfl⟩ := hq
    refine za_look (h1 := h) (v1 := [(0, fs_c 76 10 b q)]) rfl ?_
    refine za_ifne X 17 rfl (by decide) (fun q1 => ?_) (fun q1 => ?_)
    · iterate 6 refine za_step X rfl rfl rfl ?_
      obtain ⟨r, pl, la, dn, vi, de, ct, en, ou, ed⟩ := T8
      refine za_callV (b := 8) (d := 4) (mc := 0) (ms := 0) (as := [vR 1, vI x, vI y]) (rest := []) X rfl cl_F_T_follow cy_T_follow cv_T_follow (c_T_follow l D (za_ov h [(0, fs_c 76 10 b q)]) n 8 (Or.inr rfl) (r, pl, la, dn, vi, de, ct, en, ou, ed) (by rw [hv]; exact h8) P (by rw [hv]; exact hP) hok x y) rfl rfl (show za_ov h _ 8 = _ from h8.1) rfl (Nat.le_of_ble_eq_true rfl) (Nat.le_of_ble_eq_true rfl) (Nat.le_of_ble_eq_true rfl) (Nat.le_of_ble_eq_true rfl) (Nat.le_of_ble_eq_true rfl) (fun v h' n' hq => ?_)
      obtain ⟨rfl, rfl, rfl⟩ := hq
      rw [hv, tr_run_eq]
      have hσ2 := fs_t8 hσ0 (tr_run0 P x y)
      generalize hT2 : tr_run0 P x y = T2 at hσ2
      generalize hh2 : tr_put h 8 T2 = h2 at hσ2
      have g8 : tr_at h2 8 T2 := by rw [← hh2]; exact tr_put_at _ _ _
      have goff : ∀ j, j ≠ 8 → j ≠ 9 → h2 j = h j := fun j a1 a2 => by rw [← hh2]; exact tr_put_ne a1 a2
      have g0 : h2 0 = some (fs_c 76 10 b q) := by rw [goff 0 (by omega) (by omega)]; exact hF
      have gS : rs_at h2 76 w (k, f) := rs_at_off hS (fun j a1 a2 => goff j (by omega) (by omega))
      have hk64 : k ≤ 64 := hS.2.2.2.2.2.2
      have gr : h2 76 = some (rs_c 76 k (rs_or f k)) := gS.1
      have gv : za_ov h2 [(0, fs_c 76 10 b q)] = h2 := by rw [za_ov1, za_set_same g0]
      have hs : fs_at (za_ov h2 [(0, fs_c 76 10 b q)]) (P, T, (k, f), b, q) := by rw [gv]; exact hσ2
      have hfr : fs_fr h (za_ov h2 [(0, fs_c 76 10 b q)]) := by rw [gv]; exact fun j hj => goff j (by omega) (by omega)
      refine za_view [(0, fs_c 76 10 b q)] (by simp [g0]) ?_
      iterate 4 refine za_step X rfl rfl rfl ?_
      refine za_callV (b := 76) (d := 1) (mc := 0) (ms := 0) (as := [vR 8]) (rest := []) X rfl cl_F_R_firstAgreeing cy_R_firstAgreeing cv_R_firstAgreeing (c_R_firstAgreeing l D (za_ov h2 [(0, fs_c 76 10 b q)]) n 76 (Or.inr rfl) w k f (by rw [gv]; exact gS) T2 (by rw [gv]; exact g8.1)) rfl rfl (show za_ov h2 _ 76 = _ from gr) rfl (Nat.le_of_ble_eq_true rfl) (Nat.le_of_ble_eq_true rfl) (Nat.le_of_ble_eq_true rfl) (Nat.le_of_ble_eq_true rfl) (Nat.le_of_ble_eq_true rfl) (fun v h' n' hq => ?_)
      obtain ⟨rfl, rfl, rfl⟩ := hq
      refine za_look (h1 := h2) (v1 := [(0, fs_c 76 10 b q)]) rfl ?_
      iterate 4 refine za_step X rfl rfl rfl ?_
      refine za_callV (b := 76) (d := 0) (mc := 0) (ms := 0) (as := [vI (nI (rs_fa f T2 k 0))]) (rest := []) X rfl cl_F_R_has cy_R_has cv_R_has (c_R_has l D (za_ov h2 [(0, fs_c 76 10 b q)]) n 76 (Or.inr rfl) k (rs_or f k) (by rw [gv]; exact gr) (nI (rs_fa f T2 k 0))) rfl rfl (show za_ov h2 _ 76 = _ from gr) rfl (Nat.le_of_ble_eq_true rfl) (Nat.le_of_ble_eq_true rfl) (Nat.le_of_ble_eq_true rfl) (Nat.le_of_ble_eq_true rfl) (Nat.le_of_ble_eq_true rfl) (fun v h' n' hq => ?_)
      obtain ⟨rfl, rfl, rfl⟩ := hq
      refine za_look (h1 := h2) (v1 := [(0, fs_c 76 10 b q)]) rfl ?_
      have hle := rs_fa_le f T2 k 0
      refine za_ifne X 61 rfl (by decide) (fun q2 => ?_) (fun q2 => ?_)
      · have hlt : rs_fa f T2 k 0 < k := rs_has_k hk64 (bI_n0 q2) (by omega)
        have e1 : sp_match (P, T, (k, f), b, q) x y = (0, nI (rs_fa f T2 k 0), (P, T, (k, f), b, q)) := by
          show (if in_ok b x y = true then (if rs_fa f (tr_run0 P x y) k 0 < k then (0, nI (rs_fa f (tr_run0 P x y) k 0), _) else _) else _) = _
          rw [if_pos (bI_n0 q1), hT2, if_pos hlt]
        rw [e1]
        iterate 1 refine za_step X rfl rfl rfl ?_
        exact zg_of (za_iret X rfl ⟨hs, hfr, Or.inl ⟨rfl, rfl, rfl⟩⟩ (Nat.le_of_ble_eq_true rfl) (Nat.le_of_ble_eq_true rfl))
      · have hlt : ¬ rs_fa f T2 k 0 < k := fun z => by have := rs_has_i hk64 z; rw [bI_0 q2] at this; cases this
        have e1 : sp_match (P, T, (k, f), b, q) x y = (2, 0, (P, T, (k, f), b, q)) := by
          show (if in_ok b x y = true then (if rs_fa f (tr_run0 P x y) k 0 < k then _ else (2, 0, _)) else _) = _
          rw [if_pos (bI_n0 q1), hT2, if_neg hlt]
        rw [e1]
        exact zg_throw X hH hst hex rfl rfl rfl rfl ze_NSE (by decide) (Nat.le_of_ble_eq_true rfl) (Nat.le_of_ble_eq_true rfl) (Nat.le_of_ble_eq_true rfl) ⟨hs, hfr, Or.inr (Or.inr ⟨rfl, rfl, rfl⟩)⟩ (Nat.le_of_ble_eq_true rfl) (Nat.le_of_ble_eq_true rfl)
    · have e1 : sp_match (P, T, (k, f), b, q) x y = (1, 0, (P, T, (k, f), b, q)) := if_neg (by rw [bI_0 q1]; decide)
      rw [e1]
      exact zg_throw X hH hst hex rfl rfl rfl rfl ze_IAE (by decide) (Nat.le_of_ble_eq_true rfl) (Nat.le_of_ble_eq_true rfl) (Nat.le_of_ble_eq_true rfl) ⟨hs, hfr, Or.inr (Or.inl ⟨rfl, rfl, rfl⟩)⟩ (Nat.le_of_ble_eq_true rfl) (Nat.le_of_ble_eq_true rfl)
set_option maxHeartbeats 4000000 in
set_option maxRecDepth 100000 in
theorem c_F_example (l : Launch) (D : za_D) (h : za_H) (n : Nat) (hst : l.stackTraces = false) (σ : fs_T) (hσ : fs_at h σ) (x : Int32) : zg_M l D (.code Y_F_example.1 Y_F_example.2.1 Y_F_example.2.2.1 Y_F_example.2.2.2) Y_F_example 6 1 6 [vR 0, vI x] h n (fs_ps "java/lang/IllegalArgumentException" "java/util/NoSuchElementException" h n (sp_example σ x)) := by
  obtain ⟨P, T, S, b, q⟩ := σ
  have hσ0 := hσ
  obtain ⟨hok, hP, hT, hb1, hb4, ra, rb, hrr, hF, ⟨T8, h8⟩, ⟨w, hS⟩, wb, SD, hD⟩ := hσ
  obtain ⟨k, f⟩ := S
  rcases hrr with ⟨rfl, rfl⟩ | ⟨rfl, rfl⟩
  · have hv : za_ov h [(0, fs_c 10 76 b q)] = h := by rw [za_ov1, za_set_same hF]
    have hs : fs_at (za_ov h [(0, fs_c 10 76 b q)]) (P, T, (k, f), b, q) := by rw [hv]; exact hσ0
    have hfr : fs_fr h (za_ov h [(0, fs_c 10 76 b q)]) := by rw [hv]; exact fs_fr_rf h
    have gr : h 10 = some (rs_c 10 k (rs_or f k)) := hS.1
    refine zg_enter cd_F_example fl_F (zg_Kcode Y_F_example) (by decide) cdok_F_example flok_F (Nat.le_of_ble_eq_true rfl) ?_
    intro p e s m args below meth c X hH hex
    refine za_view [(0, fs_c 10 76 b q)] (by simp [hF]) ?_
    iterate 1 refine za_step X rfl rfl rfl ?_
    refine za_iflt X 9 rfl (by decide) (fun q1 => ?_) (fun q1 => ?_)
    · have e1 : sp_example (P, T, (k, f), b, q) x = (1, 0, (P, T, (k, f), b, q)) := if_neg (fun z => absurd z.1 (Int32.not_le.mpr q1))
      rw [e1]
      exact zg_throw X hH hst hex rfl rfl rfl rfl ze_IAE (by decide) (Nat.le_of_ble_eq_true rfl) (Nat.le_of_ble_eq_true rfl) (Nat.le_of_ble_eq_true rfl) ⟨hs, hfr, Or.inr (Or.inl ⟨rfl, rfl, rfl⟩)⟩ (Nat.le_of_ble_eq_true rfl) (Nat.le_of_ble_eq_true rfl)
    · iterate 2 refine za_step X rfl rfl rfl ?_
      refine za_icle X 17 rfl (by decide) (fun q2 => ?_) (fun q2 => ?_)
      · have hc : 0 ≤ x ∧ x ≤ 3 := ⟨Int32.not_lt.mp q1, q2⟩
        iterate 3 refine za_step X rfl rfl rfl ?_
        refine za_callV (b := 10) (d := 1) (mc := 0) (ms := 0) (as := [vI x]) (rest := []) X rfl cl_F_R_leastInputs cy_R_leastInputs cv_R_leastInputs (c_R_leastInputs l D (za_ov h [(0, fs_c 10 76 b q)]) n 10 (Or.inl rfl) w k f (by rw [hv]; exact hS) x) rfl rfl (show za_ov h _ 10 = _ from gr) rfl (Nat.le_of_ble_eq_true rfl) (Nat.le_of_ble_eq_true rfl) (Nat.le_of_ble_eq_true rfl) (Nat.le_of_ble_eq_true rfl) (Nat.le_of_ble_eq_true rfl) (fun v h' n' hq => ?_)
        obtain ⟨rfl, rfl, rfl⟩ := hq
        refine za_look (h1 := h) (v1 := [(0, fs_c 10 76 b q)]) rfl ?_
        iterate 3 refine za_step X rfl rfl rfl ?_
        rw [show (Int16.ofInt 256).toInt32 = 256 from by decide]
        refine za_icne X 41 rfl (by decide) (fun q3 => ?_) (fun q3 => ?_)
        · have e1 : sp_example (P, T, (k, f), b, q) x = (0, rs_li f x k 0 256, (P, T, (k, f), b, q)) := by
            show (if 0 ≤ x ∧ x ≤ 3 then (if rs_li f x k 0 256 = 256 then _ else (0, rs_li f x k 0 256, _)) else _) = _
            rw [if_pos hc, if_neg q3]
          rw [e1]
          iterate 1 refine za_step X rfl rfl rfl ?_
          exact zg_of (za_iret X rfl ⟨hs, hfr, Or.inl ⟨rfl, rfl, rfl⟩⟩ (Nat.le_of_ble_eq_true rfl) (Nat.le_of_ble_eq_true rfl))
        · have e1 : sp_example (P, T, (k, f), b, q) x = (2, 0, (P, T, (k, f), b, q)) := by
            show (if 0 ≤ x ∧ x ≤ 3 then (if rs_li f x k 0 256 = 256 then (2, 0, _) else _) else _) = _
            rw [if_pos hc, if_pos q3]
          rw [e1]
          exact zg_throw X hH hst hex rfl rfl rfl rfl ze_NSE (by decide) (Nat.le_of_ble_eq_true rfl) (Nat.le_of_ble_eq_true rfl) (Nat.le_of_ble_eq_true rfl) ⟨hs, hfr, Or.inr (Or.inr ⟨rfl, rfl, rfl⟩)⟩ (Nat.le_of_ble_eq_true rfl) (Nat.le_of_ble_eq_true rfl)
      · have e1 : sp_example (P, T, (k, f), b, q) x = (1, 0, (P, T, (k, f), b, q)) := if_neg (fun z => q2 z.2)
        rw [e1]
        exact zg_throw X hH hst hex rfl rfl rfl rfl ze_IAE (by decide) (Nat.le_of_ble_eq_true rfl) (Nat.le_of_ble_eq_true rfl) (Nat.le_of_ble_eq_true rfl) ⟨hs, hfr, Or.inr (Or.inl ⟨rfl, rfl, rfl⟩)⟩ (Nat.le_of_ble_eq_true rfl) (Nat.le_of_ble_eq_true rfl)
  · have hv : za_ov h [(0, fs_c 76 10 b q)] = h := by rw [za_ov1, za_set_same hF]
    have hs : fs_at (za_ov h [(0, fs_c 76 10 b q)]) (P, T, (k, f), b, q) := by rw [hv]; exact hσ0
    have hfr : fs_fr h (za_ov h [(0, fs_c 76 10 b q)]) := by rw [hv]; exact fs_fr_rf h
    have gr : h 76 = some (rs_c 76 k (rs_or f k)) := hS.1
    refine zg_enter cd_F_example fl_F (zg_Kcode Y_F_example) (by decide) cdok_F_example flok_F (Nat.le_of_ble_eq_true rfl) ?_
    intro p e s m args below meth c X hH hex
    refine za_view [(0, fs_c 76 10 b q)] (by simp [hF]) ?_
    iterate 1 refine za_step X rfl rfl rfl ?_
    refine za_iflt X 9 rfl (by decide) (fun q1 => ?_) (fun q1 => ?_)
    · have e1 : sp_example (P, T, (k, f), b, q) x = (1, 0, (P, T, (k, f), b, q)) := if_neg (fun z => absurd z.1 (Int32.not_le.mpr q1))
      rw [e1]
      exact zg_throw X hH hst hex rfl rfl rfl rfl ze_IAE (by decide) (Nat.le_of_ble_eq_true rfl) (Nat.le_of_ble_eq_true rfl) (Nat.le_of_ble_eq_true rfl) ⟨hs, hfr, Or.inr (Or.inl ⟨rfl, rfl, rfl⟩)⟩ (Nat.le_of_ble_eq_true rfl) (Nat.le_of_ble_eq_true rfl)
    · iterate 2 refine za_step X rfl rfl rfl ?_
      refine za_icle X 17 rfl (by decide) (fun q2 => ?_) (fun q2 => ?_)
      · have hc : 0 ≤ x ∧ x ≤ 3 := ⟨Int32.not_lt.mp q1, q2⟩
        iterate 3 refine za_step X rfl rfl rfl ?_
        refine za_callV (b := 76) (d := 1) (mc := 0) (ms := 0) (as := [vI x]) (rest := []) X rfl cl_F_R_leastInputs cy_R_leastInputs cv_R_leastInputs (c_R_leastInputs l D (za_ov h [(0, fs_c 76 10 b q)]) n 76 (Or.inr rfl) w k f (by rw [hv]; exact hS) x) rfl rfl (show za_ov h _ 76 = _ from gr) rfl (Nat.le_of_ble_eq_true rfl) (Nat.le_of_ble_eq_true rfl) (Nat.le_of_ble_eq_true rfl) (Nat.le_of_ble_eq_true rfl) (Nat.le_of_ble_eq_true rfl) (fun v h' n' hq => ?_)
        obtain ⟨rfl, rfl, rfl⟩ := hq
        refine za_look (h1 := h) (v1 := [(0, fs_c 76 10 b q)]) rfl ?_
        iterate 3 refine za_step X rfl rfl rfl ?_
        rw [show (Int16.ofInt 256).toInt32 = 256 from by decide]
        refine za_icne X 41 rfl (by decide) (fun q3 => ?_) (fun q3 => ?_)
        · have e1 : sp_example (P, T, (k, f), b, q) x = (0, rs_li f x k 0 256, (P, T, (k, f), b, q)) := by
            show (if 0 ≤ x ∧ x ≤ 3 then (if rs_li f x k 0 256 = 256 then _ else (0, rs_li f x k 0 256, _)) else _) = _
            rw [if_pos hc, if_neg q3]
          rw [e1]
          iterate 1 refine za_step X rfl rfl rfl ?_
          exact zg_of (za_iret X rfl ⟨hs, hfr, Or.inl ⟨rfl, rfl, rfl⟩⟩ (Nat.le_of_ble_eq_true rfl) (Nat.le_of_ble_eq_true rfl))
        · have e1 : sp_example (P, T, (k, f), b, q) x = (2, 0, (P, T, (k, f), b, q)) := by
            show (if 0 ≤ x ∧ x ≤ 3 then (if rs_li f x k 0 256 = 256 then (2, 0, _) else _) else _) = _
            rw [if_pos hc, if_pos q3]
          rw [e1]
          exact zg_throw X hH hst hex rfl rfl rfl rfl ze_NSE (by decide) (Nat.le_of_ble_eq_true rfl) (Nat.le_of_ble_eq_true rfl) (Nat.le_of_ble_eq_true rfl) ⟨hs, hfr, Or.inr (Or.inr ⟨rfl, rfl, rfl⟩)⟩ (Nat.le_of_ble_eq_true rfl) (Nat.le_of_ble_eq_true rfl)
      · have e1 : sp_example (P, T, (k, f), b, q) x = (1, 0, (P, T, (k, f), b, q)) := if_neg (fun z => q2 z.2)
        rw [e1]
        exact zg_throw X hH hst hex rfl rfl rfl rfl ze_IAE (by decide) (Nat.le_of_ble_eq_true rfl) (Nat.le_of_ble_eq_true rfl) (Nat.le_of_ble_eq_true rfl) ⟨hs, hfr, Or.inr (Or.inl ⟨rfl, rfl, rfl⟩)⟩ (Nat.le_of_ble_eq_true rfl) (Nat.le_of_ble_eq_true rfl)
set_option maxHeartbeats 4000000 in
set_option maxRecDepth 100000 in
theorem c_F_count (l : Launch) (D : za_D) (h : za_H) (n : Nat) (hst : l.stackTraces = false) (σ : fs_T) (hσ : fs_at h σ) (x : Int32) : zg_M l D (.code Y_F_count.1 Y_F_count.2.1 Y_F_count.2.2.1 Y_F_count.2.2.2) Y_F_count 6 1 6 [vR 0, vI x] h n (fs_ps "java/lang/IllegalArgumentException" "java/lang/IllegalArgumentException" h n (sp_count σ x)) := by
  obtain ⟨P, T, S, b, q⟩ := σ
  have hσ0 := hσ
  obtain ⟨hok, hP, hT, hb1, hb4, ra, rb, hrr, hF, ⟨T8, h8⟩, ⟨w, hS⟩, wb, SD, hD⟩ := hσ
  obtain ⟨oo, aa, bb, cc0, pn⟩ := P
  obtain ⟨k, f⟩ := S
  rcases hrr with ⟨rfl, rfl⟩ | ⟨rfl, rfl⟩
  · have hr : h 10 = some (rs_c 10 k (rs_or f k)) := hS.1
    generalize rs_or f k = vis at hr
    have hv : za_ov h [(0, fs_c 10 76 b q), (10, rs_c 10 k vis), (1, pr_c pn)] = h := by rw [za_ov3, za_set_same hP.1, za_set_same hr, za_set_same hF]
    have hs : fs_at (za_ov h [(0, fs_c 10 76 b q), (10, rs_c 10 k vis), (1, pr_c pn)]) ((oo, aa, bb, cc0, pn), T, (k, f), b, q) := by rw [hv]; exact hσ0
    have hfr : fs_fr h (za_ov h [(0, fs_c 10 76 b q), (10, rs_c 10 k vis), (1, pr_c pn)]) := by rw [hv]; exact fs_fr_rf h
    refine zg_enter cd_F_count fl_F (zg_Kcode Y_F_count) (by decide) cdok_F_count flok_F (Nat.le_of_ble_eq_true rfl) ?_
    intro p e s m args below meth c X hH hex
    refine za_view [(0, fs_c 10 76 b q), (10, rs_c 10 k vis), (1, pr_c pn)] (by simp [hF, hr, hP.1]) ?_
    iterate 1 refine za_step X rfl rfl rfl ?_
    by_cases x0 : x = 0
    · subst x0
      have e1 : sp_count ((oo, aa, bb, cc0, pn), T, (k, f), b, q) 0 = (0, nI pn, ((oo, aa, bb, cc0, pn), T, (k, f), b, q)) := by simp [sp_count]
      rw [e1]
      refine za_tsw X 0 32 rfl (by decide) (by decide) (by decide) rfl (by decide) ?_
      iterate 3 refine za_step X rfl rfl rfl ?_
      exact zg_of (za_iret X rfl ⟨hs, hfr, Or.inl ⟨rfl, rfl, rfl⟩⟩ (Nat.le_of_ble_eq_true rfl) (Nat.le_of_ble_eq_true rfl))
    by_cases x1 : x = 1
    · subst x1
      have e1 : sp_count ((oo, aa, bb, cc0, pn), T, (k, f), b, q) 1 = (0, nI b, ((oo, aa, bb, cc0, pn), T, (k, f), b, q)) := by simp [sp_count]
      rw [e1]
      refine za_tsw X 1 40 rfl (by decide) (by decide) (by decide) rfl (by decide) ?_
      iterate 2 refine za_step X rfl rfl rfl ?_
      exact zg_of (za_iret X rfl ⟨hs, hfr, Or.inl ⟨rfl, rfl, rfl⟩⟩ (Nat.le_of_ble_eq_true rfl) (Nat.le_of_ble_eq_true rfl))
    by_cases x2 : x = 2
    · subst x2
      have e1 : sp_count ((oo, aa, bb, cc0, pn), T, (k, f), b, q) 2 = (0, nI k, ((oo, aa, bb, cc0, pn), T, (k, f), b, q)) := by simp [sp_count]
      rw [e1]
      refine za_tsw X 2 45 rfl (by decide) (by decide) (by decide) rfl (by decide) ?_
      iterate 3 refine za_step X rfl rfl rfl ?_
      exact zg_of (za_iret X rfl ⟨hs, hfr, Or.inl ⟨rfl, rfl, rfl⟩⟩ (Nat.le_of_ble_eq_true rfl) (Nat.le_of_ble_eq_true rfl))
    by_cases x3 : x = 3
    · subst x3
      have e1 : sp_count ((oo, aa, bb, cc0, pn), T, (k, f), b, q) 3 = (0, q, ((oo, aa, bb, cc0, pn), T, (k, f), b, q)) := by simp [sp_count]
      rw [e1]
      refine za_tsw X 3 53 rfl (by decide) (by decide) (by decide) rfl (by decide) ?_
      iterate 2 refine za_step X rfl rfl rfl ?_
      exact zg_of (za_iret X rfl ⟨hs, hfr, Or.inl ⟨rfl, rfl, rfl⟩⟩ (Nat.le_of_ble_eq_true rfl) (Nat.le_of_ble_eq_true rfl))
    have e1 : sp_count ((oo, aa, bb, cc0, pn), T, (k, f), b, q) x = (1, 0, ((oo, aa, bb, cc0, pn), T, (k, f), b, q)) := by simp [sp_count, x0, x1, x2, x3]
    refine za_tsd X 58 rfl (ts_o (hi := 3) (fun i h1 h2 => by rcases (show i = 0 ∨ i = 1 ∨ i = 2 ∨ i = 3 by omega) with rfl | rfl | rfl | rfl <;> first | exact x0 | exact x1 | exact x2 | exact x3)) (by decide) ?_
    rw [e1]
    exact zg_throw X hH hst hex rfl rfl rfl rfl ze_IAE (by decide) (Nat.le_of_ble_eq_true rfl) (Nat.le_of_ble_eq_true rfl) (Nat.le_of_ble_eq_true rfl) ⟨hs, hfr, Or.inr (Or.inl ⟨rfl, rfl, rfl⟩)⟩ (Nat.le_of_ble_eq_true rfl) (Nat.le_of_ble_eq_true rfl)
  · have hr : h 76 = some (rs_c 76 k (rs_or f k)) := hS.1
    generalize rs_or f k = vis at hr
    have hv : za_ov h [(0, fs_c 76 10 b q), (76, rs_c 76 k vis), (1, pr_c pn)] = h := by rw [za_ov3, za_set_same hP.1, za_set_same hr, za_set_same hF]
    have hs : fs_at (za_ov h [(0, fs_c 76 10 b q), (76, rs_c 76 k vis), (1, pr_c pn)]) ((oo, aa, bb, cc0, pn), T, (k, f), b, q) := by rw [hv]; exact hσ0
    have hfr : fs_fr h (za_ov h [(0, fs_c 76 10 b q), (76, rs_c 76 k vis), (1, pr_c pn)]) := by rw [hv]; exact fs_fr_rf h
    refine zg_enter cd_F_count fl_F (zg_Kcode Y_F_count) (by decide) cdok_F_count flok_F (Nat.le_of_ble_eq_true rfl) ?_
    intro p e s m args below meth c X hH hex
    refine za_view [(0, fs_c 76 10 b q), (76, rs_c 76 k vis), (1, pr_c pn)] (by simp [hF, hr, hP.1]) ?_
    iterate 1 refine za_step X rfl rfl rfl ?_
    by_cases x0 : x = 0
    · subst x0
      have e1 : sp_count ((oo, aa, bb, cc0, pn), T, (k, f), b, q) 0 = (0, nI pn, ((oo, aa, bb, cc0, pn), T, (k, f), b, q)) := by simp [sp_count]
      rw [e1]
      refine za_tsw X 0 32 rfl (by decide) (by decide) (by decide) rfl (by decide) ?_
      iterate 3 refine za_step X rfl rfl rfl ?_
      exact zg_of (za_iret X rfl ⟨hs, hfr, Or.inl ⟨rfl, rfl, rfl⟩⟩ (Nat.le_of_ble_eq_true rfl) (Nat.le_of_ble_eq_true rfl))
    by_cases x1 : x = 1
    · subst x1
      have e1 : sp_count ((oo, aa, bb, cc0, pn), T, (k, f), b, q) 1 = (0, nI b, ((oo, aa, bb, cc0, pn), T, (k, f), b, q)) := by simp [sp_count]
      rw [e1]
      refine za_tsw X 1 40 rfl (by decide) (by decide) (by decide) rfl (by decide) ?_
      iterate 2 refine za_step X rfl rfl rfl ?_
      exact zg_of (za_iret X rfl ⟨hs, hfr, Or.inl ⟨rfl, rfl, rfl⟩⟩ (Nat.le_of_ble_eq_true rfl) (Nat.le_of_ble_eq_true rfl))
    by_cases x2 : x = 2
    · subst x2
      have e1 : sp_count ((oo, aa, bb, cc0, pn), T, (k, f), b, q) 2 = (0, nI k, ((oo, aa, bb, cc0, pn), T, (k, f), b, q)) := by simp [sp_count]
      rw [e1]
      refine za_tsw X 2 45 rfl (by decide) (by decide) (by decide) rfl (by decide) ?_
      iterate 3 refine za_step X rfl rfl rfl ?_
      exact zg_of (za_iret X rfl ⟨hs, hfr, Or.inl ⟨rfl, rfl, rfl⟩⟩ (Nat.le_of_ble_eq_true rfl) (Nat.le_of_ble_eq_true rfl))
    by_cases x3 : x = 3
    · subst x3
      have e1 : sp_count ((oo, aa, bb, cc0, pn), T, (k, f), b, q) 3 = (0, q, ((oo, aa, bb, cc0, pn), T, (k, f), b, q)) := by simp [sp_count]
      rw [e1]
      refine za_tsw X 3 53 rfl (by decide) (by decide) (by decide) rfl (by decide) ?_
      iterate 2 refine za_step X rfl rfl rfl ?_
      exact zg_of (za_iret X rfl ⟨hs, hfr, Or.inl ⟨rfl, rfl, rfl⟩⟩ (Nat.le_of_ble_eq_true rfl) (Nat.le_of_ble_eq_true rfl))
    have e1 : sp_count ((oo, aa, bb, cc0, pn), T, (k, f), b, q) x = (1, 0, ((oo, aa, bb, cc0, pn), T, (k, f), b, q)) := by simp [sp_count, x0, x1, x2, x3]
    refine za_tsd X 58 rfl (ts_o (hi := 3) (fun i h1 h2 => by rcases (show i = 0 ∨ i = 1 ∨ i = 2 ∨ i = 3 by omega) with rfl | rfl | rfl | rfl <;> first | exact x0 | exact x1 | exact x2 | exact x3)) (by decide) ?_
    rw [e1]
    exact zg_throw X hH hst hex rfl rfl rfl rfl ze_IAE (by decide) (Nat.le_of_ble_eq_true rfl) (Nat.le_of_ble_eq_true rfl) (Nat.le_of_ble_eq_true rfl) ⟨hs, hfr, Or.inr (Or.inl ⟨rfl, rfl, rfl⟩)⟩ (Nat.le_of_ble_eq_true rfl) (Nat.le_of_ble_eq_true rfl)
set_option maxHeartbeats 4000000 in
set_option maxRecDepth 100000 in
theorem c_F_covered (l : Launch) (D : za_D) (h : za_H) (n : Nat) (σ : fs_T) (hσ : fs_at h σ) : za_M l D Y_F_covered 6 0 0 [vR 0] h n (fun v h' n' => v = some (vI (rs_or σ.2.2.1.2 σ.2.2.1.1)) ∧ h' = h ∧ n = n') := by
  obtain ⟨P, T, S, b, q⟩ := σ
  obtain ⟨hok, hP, hT, hb1, hb4, ra, rb, hrr, hF, ⟨T8, h8⟩, ⟨w, hS⟩, wb, SD, hD⟩ := hσ
  obtain ⟨k, f⟩ := S
  show za_M l D Y_F_covered 6 0 0 [vR 0] h n (fun v h' n' => v = some (vI (rs_or f k)) ∧ h' = h ∧ n = n')
  rcases hrr with ⟨rfl, rfl⟩ | ⟨rfl, rfl⟩
  · have hr : h 10 = some (rs_c 10 k (rs_or f k)) := hS.1
    generalize rs_or f k = vis at *
    have hv : za_ov h [(0, fs_c 10 76 b q), (10, rs_c 10 k vis)] = h := by rw [za_ov2, za_set_same hr, za_set_same hF]
    refine za_enter cd_F_covered fl_F (by decide) cdok_F_covered flok_F (Nat.le_of_ble_eq_true rfl) ?_
    intro p e s m args below meth c X hnm
    refine za_view [(0, fs_c 10 76 b q), (10, rs_c 10 k vis)] (by simp [hF, hr]) ?_
    iterate 3 refine za_step X rfl rfl rfl ?_
    exact za_iret X rfl ⟨rfl, hv, rfl⟩ (Nat.le_refl _) (Nat.le_refl _)
  · have hr : h 76 = some (rs_c 76 k (rs_or f k)) := hS.1
    generalize rs_or f k = vis at *
    have hv : za_ov h [(0, fs_c 76 10 b q), (76, rs_c 76 k vis)] = h := by rw [za_ov2, za_set_same hr, za_set_same hF]
    refine za_enter cd_F_covered fl_F (by decide) cdok_F_covered flok_F (Nat.le_of_ble_eq_true rfl) ?_
    intro p e s m args below meth c X hnm
    refine za_view [(0, fs_c 76 10 b q), (76, rs_c 76 k vis)] (by simp [hF, hr]) ?_
    iterate 3 refine za_step X rfl rfl rfl ?_
    exact za_iret X rfl ⟨rfl, hv, rfl⟩ (Nat.le_refl _) (Nat.le_refl _)
end
section
/-! THE MODEL'S CELLS: the model 142, op 143, ia 144, ib 145, ic 146, reg 147, its lists behind. thrown, size, width; a run; runs, last three, found, results, covered -/
abbrev ma_T : Type := Int32 × Nat × Nat
abbrev mz_T : Type := Int32 × Int32 × Int32 × Int32 × Nat × Nat × Int32
def mo_c : ma_T → tr_T → mz_T → za_C | (th, n0, b), (_, _, _, dn, vi, de, ct, _, ou, ed), (q0, ln, ld, lc, fd, rs, cv) => .inr (zn_M, [vI th, vR 143, vR 144, vR 145, vR 146, vI (nI n0), vI (nI b), vR 147, vI ou, vI ed, vI dn, vI vi, vL de, vI ct, vI q0, vI ln, vI ld, vI lc, vR 148, vR 149, vR 150, vR 151, vR 152, vR 153, vI (nI fd), vR 154, vR 155, vR 156, vR 157, vR 158, vI (nI rs), vI cv])
def mo_at (h : za_H) (A : ma_T) (G : tr_T) (Z : mz_T) : Prop := h 142 = some (mo_c A G Z) ∧ h 147 = some (tr_g G)
def mo_put (h : za_H) (A : ma_T) (G : tr_T) (Z : mz_T) : za_H := za_set (za_set h 147 (tr_g G)) 142 (mo_c A G Z)
theorem mo_ov (h : za_H) (A : ma_T) (G : tr_T) (Z : mz_T) : za_ov h [(142, mo_c A G Z), (147, tr_g G)] = mo_put h A G Z := za_ov2 h 142 147 _ _
theorem mo_put_at (h : za_H) (A : ma_T) (G : tr_T) (Z : mz_T) : mo_at (mo_put h A G Z) A G Z := ⟨za_set_eq _ _ _, by unfold mo_put; rw [za_set_ne (by omega), za_set_eq]⟩
theorem mo_put_ne {h : za_H} {A : ma_T} {G : tr_T} {Z : mz_T} {j : Nat} (h1 : j ≠ 142) (h2 : j ≠ 147) : mo_put h A G Z j = h j := by unfold mo_put; rw [za_set_ne h1, za_set_ne h2]
theorem mo_put_put (h : za_H) (A : ma_T) (G : tr_T) (Z : mz_T) (A' : ma_T) (G' : tr_T) (Z' : mz_T) : mo_put (mo_put h A G Z) A' G' Z' = mo_put h A' G' Z' := by
  funext j
  by_cases e1 : j = 142
  · subst e1; rw [(mo_put_at _ _ _ _).1, (mo_put_at _ _ _ _).1]
  · by_cases e2 : j = 147
    · subst e2; rw [(mo_put_at _ _ _ _).2, (mo_put_at _ _ _ _).2]
    · rw [mo_put_ne e1 e2, mo_put_ne e1 e2, mo_put_ne e1 e2]
theorem mo_put_same {h : za_H} {A : ma_T} {G : tr_T} {Z : mz_T} (e : mo_at h A G Z) : mo_put h A G Z = h := by
  unfold mo_put; rw [za_set_same e.2, za_set_same e.1]
theorem mo_bk (h : za_H) (c c' g : za_C) : za_ov h [(142, c'), (147, g)] = za_ov (za_set (za_ov h [(142, c), (147, g)]) 142 c') [] := by
  rw [za_ov2, za_ov2, za_ov_nil, za_set_set]
theorem mo_bp (h : za_H) (c g : za_C) (A : ma_T) (G : tr_T) (Z : mz_T) : za_ov h [(142, mo_c A G Z), (147, tr_g G)] = za_ov (mo_put (za_ov h [(142, c), (147, g)]) A G Z) [] := by
  rw [za_ov_nil, za_ov2, za_ov2]
  unfold mo_put
  rw [za_set_comm (i := 142) (j := 147) (by omega), za_set_set, za_set_set]
def mp_at (h : za_H) : pr_T → Prop | (o, a, b, c, _) => h 143 = some (pr_g o) ∧ h 144 = some (pr_g a) ∧ h 145 = some (pr_g b) ∧ h 146 = some (pr_g c)
def mi_in (v lo hi : Int32) : Bool := decide (lo ≤ v) && decide (v ≤ hi)
theorem mi_up (v hi : Int32) : mi_in v 0 hi = pr_up hi v := rfl
set_option maxHeartbeats 4000000 in
set_option maxRecDepth 100000 in
theorem c_M_in (l : Launch) (D : za_D) (h : za_H) (n : Nat) (v0 lo hi : Int32) : za_M l D Y_M_in 0 0 0 [vI v0, vI lo, vI hi] h n (fun v h' n' => v = some (vI (bI (mi_in v0 lo hi))) ∧ h' = h ∧ n = n') := by
  refine za_enter cd_M_in fl_M (by decide) cdok_M_in flok_M (Nat.le_of_ble_eq_true rfl) ?_
  intro p e s m args below meth c X hnm
  iterate 2 refine za_step X rfl rfl rfl ?_
  refine za_iclt X 14 rfl (by decide) (fun h1 => ?_) (fun h1 => ?_)
  · iterate 1 refine za_step X rfl rfl rfl ?_
    exact za_zret X rfl (Or.inl rfl) ⟨by rw [show mi_in v0 lo hi = false from by simp [mi_in, Int32.not_le.mpr h1]]; rfl, rfl, rfl⟩ (Nat.le_refl _) (Nat.le_refl _)
  · iterate 2 refine za_step X rfl rfl rfl ?_
    refine za_icgt X 14 rfl (by decide) (fun h2 => ?_) (fun h2 => ?_)
    · iterate 1 refine za_step X rfl rfl rfl ?_
      exact za_zret X rfl (Or.inl rfl) ⟨by rw [show mi_in v0 lo hi = false from by simp [mi_in, Int32.not_le.mpr h2]]; rfl, rfl, rfl⟩ (Nat.le_refl _) (Nat.le_refl _)
    · iterate 2 refine za_step X rfl rfl rfl ?_
      exact za_zret X rfl (Or.inr rfl) ⟨by rw [show mi_in v0 lo hi = true from by simp [mi_in, Int32.not_lt.mp h1, Int32.not_lt.mp h2]]; rfl, rfl, rfl⟩ (Nat.le_refl _) (Nat.le_refl _)
def mf_2 (o1 b1 : Int32) : Bool := (!(mi_in o1 1 9 || decide (o1 = 11)) || mi_in b1 0 3) && (!(decide (o1 = 0)) || mi_in b1 0 255)
def mf_3 (o1 c1 : Int32) : Bool := (!(mi_in o1 1 6 || decide (o1 = 11)) || mi_in c1 0 3) && (!(decide (o1 = 7)) || mi_in c1 0 7)
def mf_4 (o1 c1 : Int32) : Bool := !(mi_in o1 8 10) || mi_in c1 0 24
def mi_fits (o1 a1 b1 c1 : Int32) : Bool := (mi_in o1 0 13 && (decide (o1 = 10) || mi_in a1 0 3)) && (mf_2 o1 b1 && (mf_3 o1 c1 && mf_4 o1 c1))
set_option maxHeartbeats 4000000 in
set_option maxRecDepth 100000 in
theorem c_M_fits (l : Launch) (D : za_D) (h : za_H) (n : Nat) (o1 a1 b1 c1 : Int32) : za_M l D Y_M_fits 1 0 0 [vI o1, vI a1, vI b1, vI c1] h n (fun v h' n' => v = some (vI (bI (mi_fits o1 a1 b1 c1))) ∧ h' = h ∧ n = n') := by
  refine za_enter cd_M_fits fl_M (by decide) cdok_M_fits flok_M (Nat.le_of_ble_eq_true rfl) ?_
  intro p e s m args below meth c X hnm
  have at112 : mi_fits o1 a1 b1 c1 = mf_4 o1 c1 → za_W p l e (za_rm 1 0 0) s m args below meth c D 4 (MQ below (za_Q D (fun v h' n' => v = some (vI (bI (mi_fits o1 a1 b1 c1))) ∧ h' = h ∧ n = n')) args s 0 0 (fun q : Nat => D.2.2 ≤ q)) h n 0 0 112 [(0, vI o1), (1, vI a1), (2, vI b1), (3, vI c1)] [] [] := by
    intro hE
    iterate 3 refine za_step X rfl rfl rfl ?_
    refine za_callS X rfl cl_M_M_in cy_M_in cs_M_in (c_M_in l D _ n o1 8 10) rfl rfl (Nat.le_of_ble_eq_true rfl) (Nat.le_of_ble_eq_true rfl) (Nat.le_of_ble_eq_true rfl) (Nat.le_of_ble_eq_true rfl) (Nat.le_of_ble_eq_true rfl) (fun v h' n' hq => ?_)
    obtain ⟨rfl, rfl, rfl⟩ := hq
    refine za_look (h1 := h) (v1 := []) rfl ?_
    refine za_ifeq X 133 rfl (by decide) (fun q1 => ?_) (fun q1 => ?_)
    · have f1 := bI_0 q1
      iterate 2 refine za_step X rfl rfl rfl ?_
      exact za_zret X rfl (Or.inr rfl) ⟨by rw [show mi_fits o1 a1 b1 c1 = true from by rw [hE]; simp [mf_4, f1]]; rfl, rfl, rfl⟩ (Nat.le_refl _) (Nat.le_refl _)
    · have f1 := bI_n0 q1
      iterate 3 refine za_step X rfl rfl rfl ?_
      refine za_callS X rfl cl_M_M_in cy_M_in cs_M_in (c_M_in l D _ n c1 0 24) rfl rfl (Nat.le_of_ble_eq_true rfl) (Nat.le_of_ble_eq_true rfl) (Nat.le_of_ble_eq_true rfl) (Nat.le_of_ble_eq_true rfl) (Nat.le_of_ble_eq_true rfl) (fun v h' n' hq => ?_)
      obtain ⟨rfl, rfl, rfl⟩ := hq
      refine za_look (h1 := h) (v1 := []) rfl ?_
      refine za_ifeq X 137 rfl (by decide) (fun q2 => ?_) (fun q2 => ?_)
      · have f2 := bI_0 q2
        iterate 1 refine za_step X rfl rfl rfl ?_
        exact za_zret X rfl (Or.inl rfl) ⟨by rw [show mi_fits o1 a1 b1 c1 = false from by rw [hE]; simp [mf_4, f1, f2]]; rfl, rfl, rfl⟩ (Nat.le_refl _) (Nat.le_refl _)
      · have f2 := bI_n0 q2
        iterate 2 refine za_step X rfl rfl rfl ?_
        exact za_zret X rfl (Or.inr rfl) ⟨by rw [show mi_fits o1 a1 b1 c1 = true from by rw [hE]; simp [mf_4, f2]]; rfl, rfl, rfl⟩ (Nat.le_refl _) (Nat.le_refl _)
  have at94 : mi_fits o1 a1 b1 c1 = (mf_3 o1 c1 && mf_4 o1 c1) → (!(mi_in o1 1 6 || decide (o1 = 11)) || mi_in c1 0 3) = true → za_W p l e (za_rm 1 0 0) s m args below meth c D 4 (MQ below (za_Q D (fun v h' n' => v = some (vI (bI (mi_fits o1 a1 b1 c1))) ∧ h' = h ∧ n = n')) args s 0 0 (fun q : Nat => D.2.2 ≤ q)) h n 0 0 94 [(0, vI o1), (1, vI a1), (2, vI b1), (3, vI c1)] [] [] := by
    intro hE hA
    iterate 2 refine za_step X rfl rfl rfl ?_
    refine za_icne X 112 rfl (by decide) (fun q1 => ?_) (fun q1 => ?_)
    · have f1 : ¬ o1 = 7 := q1
      exact at112 (by rw [hE]; unfold mf_3; rw [hA]; simp [f1])
    · have f1 : o1 = 7 := q1
      iterate 3 refine za_step X rfl rfl rfl ?_
      refine za_callS X rfl cl_M_M_in cy_M_in cs_M_in (c_M_in l D _ n c1 0 7) rfl rfl (Nat.le_of_ble_eq_true rfl) (Nat.le_of_ble_eq_true rfl) (Nat.le_of_ble_eq_true rfl) (Nat.le_of_ble_eq_true rfl) (Nat.le_of_ble_eq_true rfl) (fun v h' n' hq => ?_)
      obtain ⟨rfl, rfl, rfl⟩ := hq
      refine za_look (h1 := h) (v1 := []) rfl ?_
      refine za_ifne X 112 rfl (by decide) (fun q2 => ?_) (fun q2 => ?_)
      · have f2 := bI_n0 q2
        exact at112 (by rw [hE]; unfold mf_3; rw [hA]; simp [f2])
      · have f2 := bI_0 q2
        iterate 1 refine za_step X rfl rfl rfl ?_
        exact za_zret X rfl (Or.inl rfl) ⟨by rw [show mi_fits o1 a1 b1 c1 = false from by rw [hE]; unfold mf_3; rw [hA]; simp [f1, f2]]; rfl, rfl, rfl⟩ (Nat.le_refl _) (Nat.le_refl _)
  have at85 : mi_fits o1 a1 b1 c1 = (mf_3 o1 c1 && mf_4 o1 c1) → (mi_in o1 1 6 || decide (o1 = 11)) = true → za_W p l e (za_rm 1 0 0) s m args below meth c D 4 (MQ below (za_Q D (fun v h' n' => v = some (vI (bI (mi_fits o1 a1 b1 c1))) ∧ h' = h ∧ n = n')) args s 0 0 (fun q : Nat => D.2.2 ≤ q)) h n 0 0 85 [(0, vI o1), (1, vI a1), (2, vI b1), (3, vI c1)] [] [] := by
    intro hE hA
    iterate 3 refine za_step X rfl rfl rfl ?_
    refine za_callS X rfl cl_M_M_in cy_M_in cs_M_in (c_M_in l D _ n c1 0 3) rfl rfl (Nat.le_of_ble_eq_true rfl) (Nat.le_of_ble_eq_true rfl) (Nat.le_of_ble_eq_true rfl) (Nat.le_of_ble_eq_true rfl) (Nat.le_of_ble_eq_true rfl) (fun v h' n' hq => ?_)
    obtain ⟨rfl, rfl, rfl⟩ := hq
    refine za_look (h1 := h) (v1 := []) rfl ?_
    refine za_ifeq X 110 rfl (by decide) (fun q1 => ?_) (fun q1 => ?_)
    · have f1 := bI_0 q1
      iterate 1 refine za_step X rfl rfl rfl ?_
      exact za_zret X rfl (Or.inl rfl) ⟨by rw [show mi_fits o1 a1 b1 c1 = false from by rw [hE]; unfold mf_3; rw [hA]; simp [f1]]; rfl, rfl, rfl⟩ (Nat.le_refl _) (Nat.le_refl _)
    · have f1 := bI_n0 q1
      exact at94 hE (by simp [f1])
  have at69 : mi_fits o1 a1 b1 c1 = (mf_3 o1 c1 && mf_4 o1 c1) → za_W p l e (za_rm 1 0 0) s m args below meth c D 4 (MQ below (za_Q D (fun v h' n' => v = some (vI (bI (mi_fits o1 a1 b1 c1))) ∧ h' = h ∧ n = n')) args s 0 0 (fun q : Nat => D.2.2 ≤ q)) h n 0 0 69 [(0, vI o1), (1, vI a1), (2, vI b1), (3, vI c1)] [] [] := by
    intro hE
    iterate 3 refine za_step X rfl rfl rfl ?_
    refine za_callS X rfl cl_M_M_in cy_M_in cs_M_in (c_M_in l D _ n o1 1 6) rfl rfl (Nat.le_of_ble_eq_true rfl) (Nat.le_of_ble_eq_true rfl) (Nat.le_of_ble_eq_true rfl) (Nat.le_of_ble_eq_true rfl) (Nat.le_of_ble_eq_true rfl) (fun v h' n' hq => ?_)
    obtain ⟨rfl, rfl, rfl⟩ := hq
    refine za_look (h1 := h) (v1 := []) rfl ?_
    refine za_ifne X 85 rfl (by decide) (fun q1 => ?_) (fun q1 => ?_)
    · exact at85 hE (by simp [bI_n0 q1])
    · iterate 2 refine za_step X rfl rfl rfl ?_
      refine za_icne X 94 rfl (by decide) (fun q2 => ?_) (fun q2 => ?_)
      · have f2 : ¬ o1 = 11 := q2
        exact at94 hE (by simp [bI_0 q1, f2])
      · have f2 : o1 = 11 := q2
        exact at85 hE (by simp [f2])
  have at52 : mi_fits o1 a1 b1 c1 = (mf_2 o1 b1 && (mf_3 o1 c1 && mf_4 o1 c1)) → (!(mi_in o1 1 9 || decide (o1 = 11)) || mi_in b1 0 3) = true → za_W p l e (za_rm 1 0 0) s m args below meth c D 4 (MQ below (za_Q D (fun v h' n' => v = some (vI (bI (mi_fits o1 a1 b1 c1))) ∧ h' = h ∧ n = n')) args s 0 0 (fun q : Nat => D.2.2 ≤ q)) h n 0 0 52 [(0, vI o1), (1, vI a1), (2, vI b1), (3, vI c1)] [] [] := by
    intro hE hA
    iterate 1 refine za_step X rfl rfl rfl ?_
    refine za_ifne X 69 rfl (by decide) (fun q1 => ?_) (fun q1 => ?_)
    · exact at69 (by rw [hE]; unfold mf_2; rw [hA]; simp [q1])
    · iterate 3 refine za_step X rfl rfl rfl ?_
      refine za_callS X rfl cl_M_M_in cy_M_in cs_M_in (c_M_in l D _ n b1 0 255) rfl rfl (Nat.le_of_ble_eq_true rfl) (Nat.le_of_ble_eq_true rfl) (Nat.le_of_ble_eq_true rfl) (Nat.le_of_ble_eq_true rfl) (Nat.le_of_ble_eq_true rfl) (fun v h' n' hq => ?_)
      obtain ⟨rfl, rfl, rfl⟩ := hq
      refine za_look (h1 := h) (v1 := []) rfl ?_
      refine za_ifne X 69 rfl (by decide) (fun q2 => ?_) (fun q2 => ?_)
      · exact at69 (by rw [hE]; unfold mf_2; rw [hA]; simp [bI_n0 q2])
      · iterate 1 refine za_step X rfl rfl rfl ?_
        exact za_zret X rfl (Or.inl rfl) ⟨by rw [show mi_fits o1 a1 b1 c1 = false from by rw [hE]; unfold mf_2; rw [hA]; simp [q1, bI_0 q2]]; rfl, rfl, rfl⟩ (Nat.le_refl _) (Nat.le_refl _)
  have at43 : mi_fits o1 a1 b1 c1 = (mf_2 o1 b1 && (mf_3 o1 c1 && mf_4 o1 c1)) → (mi_in o1 1 9 || decide (o1 = 11)) = true → za_W p l e (za_rm 1 0 0) s m args below meth c D 4 (MQ below (za_Q D (fun v h' n' => v = some (vI (bI (mi_fits o1 a1 b1 c1))) ∧ h' = h ∧ n = n')) args s 0 0 (fun q : Nat => D.2.2 ≤ q)) h n 0 0 43 [(0, vI o1), (1, vI a1), (2, vI b1), (3, vI c1)] [] [] := by
    intro hE hA
    iterate 3 refine za_step X rfl rfl rfl ?_
    refine za_callS X rfl cl_M_M_in cy_M_in cs_M_in (c_M_in l D _ n b1 0 3) rfl rfl (Nat.le_of_ble_eq_true rfl) (Nat.le_of_ble_eq_true rfl) (Nat.le_of_ble_eq_true rfl) (Nat.le_of_ble_eq_true rfl) (Nat.le_of_ble_eq_true rfl) (fun v h' n' hq => ?_)
    obtain ⟨rfl, rfl, rfl⟩ := hq
    refine za_look (h1 := h) (v1 := []) rfl ?_
    refine za_ifeq X 67 rfl (by decide) (fun q1 => ?_) (fun q1 => ?_)
    · iterate 1 refine za_step X rfl rfl rfl ?_
      exact za_zret X rfl (Or.inl rfl) ⟨by rw [show mi_fits o1 a1 b1 c1 = false from by rw [hE]; unfold mf_2; rw [hA]; simp [bI_0 q1]]; rfl, rfl, rfl⟩ (Nat.le_refl _) (Nat.le_refl _)
    · exact at52 hE (by simp [bI_n0 q1])
  have at27 : mi_fits o1 a1 b1 c1 = (mf_2 o1 b1 && (mf_3 o1 c1 && mf_4 o1 c1)) → za_W p l e (za_rm 1 0 0) s m args below meth c D 4 (MQ below (za_Q D (fun v h' n' => v = some (vI (bI (mi_fits o1 a1 b1 c1))) ∧ h' = h ∧ n = n')) args s 0 0 (fun q : Nat => D.2.2 ≤ q)) h n 0 0 27 [(0, vI o1), (1, vI a1), (2, vI b1), (3, vI c1)] [] [] := by
    intro hE
    iterate 3 refine za_step X rfl rfl rfl ?_
    refine za_callS X rfl cl_M_M_in cy_M_in cs_M_in (c_M_in l D _ n o1 1 9) rfl rfl (Nat.le_of_ble_eq_true rfl) (Nat.le_of_ble_eq_true rfl) (Nat.le_of_ble_eq_true rfl) (Nat.le_of_ble_eq_true rfl) (Nat.le_of_ble_eq_true rfl) (fun v h' n' hq => ?_)
    obtain ⟨rfl, rfl, rfl⟩ := hq
    refine za_look (h1 := h) (v1 := []) rfl ?_
    refine za_ifne X 43 rfl (by decide) (fun q1 => ?_) (fun q1 => ?_)
    · exact at43 hE (by simp [bI_n0 q1])
    · iterate 2 refine za_step X rfl rfl rfl ?_
      refine za_icne X 52 rfl (by decide) (fun q2 => ?_) (fun q2 => ?_)
      · have f2 : ¬ o1 = 11 := q2
        exact at52 hE (by simp [bI_0 q1, f2])
      · have f2 : o1 = 11 := q2
        exact at43 hE (by simp [f2])
  iterate 3 refine za_step X rfl rfl rfl ?_
  refine za_callS X rfl cl_M_M_in cy_M_in cs_M_in (c_M_in l D _ n o1 0 13) rfl rfl (Nat.le_of_ble_eq_true rfl) (Nat.le_of_ble_eq_true rfl) (Nat.le_of_ble_eq_true rfl) (Nat.le_of_ble_eq_true rfl) (Nat.le_of_ble_eq_true rfl) (fun v h' n' hq => ?_)
  obtain ⟨rfl, rfl, rfl⟩ := hq
  refine za_look (h1 := h) (v1 := []) rfl ?_
  refine za_ifeq X 25 rfl (by decide) (fun q1 => ?_) (fun q1 => ?_)
  · iterate 1 refine za_step X rfl rfl rfl ?_
    exact za_zret X rfl (Or.inl rfl) ⟨by rw [show mi_fits o1 a1 b1 c1 = false from by simp [mi_fits, bI_0 q1]]; rfl, rfl, rfl⟩ (Nat.le_refl _) (Nat.le_refl _)
  · iterate 2 refine za_step X rfl rfl rfl ?_
    refine za_iceq X 27 rfl (by decide) (fun q2 => ?_) (fun q2 => ?_)
    · have f2 : o1 = 10 := q2
      exact at27 (by unfold mi_fits; rw [bI_n0 q1]; simp [f2])
    · have f2 : ¬ o1 = 10 := q2
      iterate 3 refine za_step X rfl rfl rfl ?_
      refine za_callS X rfl cl_M_M_in cy_M_in cs_M_in (c_M_in l D _ n a1 0 3) rfl rfl (Nat.le_of_ble_eq_true rfl) (Nat.le_of_ble_eq_true rfl) (Nat.le_of_ble_eq_true rfl) (Nat.le_of_ble_eq_true rfl) (Nat.le_of_ble_eq_true rfl) (fun v h' n' hq => ?_)
      obtain ⟨rfl, rfl, rfl⟩ := hq
      refine za_look (h1 := h) (v1 := []) rfl ?_
      refine za_ifne X 27 rfl (by decide) (fun q3 => ?_) (fun q3 => ?_)
      · exact at27 (by unfold mi_fits; rw [bI_n0 q1, bI_n0 q3]; simp)
      · iterate 1 refine za_step X rfl rfl rfl ?_
        exact za_zret X rfl (Or.inl rfl) ⟨by rw [show mi_fits o1 a1 b1 c1 = false from by simp [mi_fits, f2, bI_0 q3]]; rfl, rfl, rfl⟩ (Nat.le_refl _) (Nat.le_refl _)
theorem mi_fits_al (o1 a1 b1 c1 : Int32) : mi_fits o1 a1 b1 c1 = pr_al o1 a1 b1 c1 := by
  have i3 : ∀ x : Int32, mi_in x 0 3 = pr_up 3 x := fun _ => rfl
  have i7 : ∀ x : Int32, mi_in x 0 7 = pr_up 7 x := fun _ => rfl
  have i24 : ∀ x : Int32, mi_in x 0 24 = pr_up 24 x := fun _ => rfl
  have i255 : ∀ x : Int32, mi_in x 0 255 = pr_up 255 x := fun _ => rfl
  rcases op_cases o1 with hop | rfl | rfl | rfl | rfl | rfl | rfl | rfl | rfl | rfl | rfl | rfl | rfl | rfl | rfl
  · rw [al_out hop]
    have : mi_in o1 0 13 = false := by
      unfold mi_in
      rcases hop with z | z
      · rw [decide_eq_false (fun q => absurd (Int32.le_iff_toInt_le.mp q) (by show ¬ (0 : Int) ≤ _; omega))]; rfl
      · rw [decide_eq_false (p := o1 ≤ 13) (fun q => absurd (Int32.le_iff_toInt_le.mp q) (by show ¬ _ ≤ (13 : Int); omega))]; simp
    simp [mi_fits, this]
  all_goals simp [mi_fits, mf_2, mf_3, mf_4, pr_al, i3, i7, i24, i255, show mi_in 0 0 13 = true from by decide, show mi_in 1 0 13 = true from by decide, show mi_in 2 0 13 = true from by decide, show mi_in 3 0 13 = true from by decide, show mi_in 4 0 13 = true from by decide, show mi_in 5 0 13 = true from by decide, show mi_in 6 0 13 = true from by decide, show mi_in 7 0 13 = true from by decide, show mi_in 8 0 13 = true from by decide, show mi_in 9 0 13 = true from by decide, show mi_in 10 0 13 = true from by decide, show mi_in 11 0 13 = true from by decide, show mi_in 12 0 13 = true from by decide, show mi_in 13 0 13 = true from by decide, show mi_in 0 1 9 = false from by decide, show mi_in 1 1 9 = true from by decide, show mi_in 2 1 9 = true from by decide, show mi_in 3 1 9 = true from by decide, show mi_in 4 1 9 = true from by decide, show mi_in 5 1 9 = true from by decide, show mi_in 6 1 9 = true from by decide, show mi_in 7 1 9 = true from by decide, show mi_in 8 1 9 = true from by decide, show mi_in 9 1 9 = true from by decide, show mi_in 10 1 9 = false from by decide, show mi_in 11 1 9 = false from by decide, show mi_in 12 1 9 = false from by decide, show mi_in 13 1 9 = false from by decide, show mi_in 0 1 6 = false from by decide, show mi_in 1 1 6 = true from by decide, show mi_in 2 1 6 = true from by decide, show mi_in 3 1 6 = true from by decide, show mi_in 4 1 6 = true from by decide, show mi_in 5 1 6 = true from by decide, show mi_in 6 1 6 = true from by decide, show mi_in 7 1 6 = false from by decide, show mi_in 8 1 6 = false from by decide, show mi_in 9 1 6 = false from by decide, show mi_in 10 1 6 = false from by decide, show mi_in 11 1 6 = false from by decide, show mi_in 12 1 6 = false from by decide, show mi_in 13 1 6 = false from by decide, show mi_in 0 8 10 = false from by decide, show mi_in 1 8 10 = false from by decide, show mi_in 2 8 10 = false from by decide, show mi_in 3 8 10 = false from by decide, show mi_in 4 8 10 = false from by decide, show mi_in 5 8 10 = false from by decide, show mi_in 6 8 10 = false from by decide, show mi_in 7 8 10 = false from by decide, show mi_in 8 8 10 = true from by decide, show mi_in 9 8 10 = true from by decide, show mi_in 10 8 10 = true from by decide, show mi_in 11 8 10 = false from by decide, show mi_in 12 8 10 = false from by decide, show mi_in 13 8 10 = false from by decide]
  all_goals (cases pr_up 3 a1 <;> simp)
set_option maxHeartbeats 4000000 in
set_option maxRecDepth 100000 in
theorem c_M_raise (l : Launch) (D : za_D) (h : za_H) (n : Nat) (A : ma_T) (G : tr_T) (Z : mz_T) (hM : h 142 = some (mo_c A G Z)) (x : Int32) : za_M l D Y_M_raise 0 0 0 [vR 142, vI x] h n (fun v h' n' => v = some (vI 0) ∧ h' = za_set h 142 (mo_c (x, A.2.1, A.2.2) G Z) ∧ n = n') := by
  obtain ⟨th, n0, b⟩ := A
  obtain ⟨r, pl, la, dn, vi, de, ct, en, ou, ed⟩ := G
  obtain ⟨q0, ln, ld, lc, fd, rs, cv⟩ := Z
  refine za_enter cd_M_raise fl_M (by decide) cdok_M_raise flok_M (Nat.le_of_ble_eq_true rfl) ?_
  intro p e s m args below meth c X hnm
  refine za_view [(142, mo_c (th, n0, b) (r, pl, la, dn, vi, de, ct, en, ou, ed) (q0, ln, ld, lc, fd, rs, cv))] (by simp [hM]) ?_
  iterate 4 refine za_step X rfl rfl rfl ?_
  exact za_iret X rfl ⟨rfl, za_ov1 h 142 (mo_c (x, n0, b) (r, pl, la, dn, vi, de, ct, en, ou, ed) (q0, ln, ld, lc, fd, rs, cv)), rfl⟩ (Nat.le_refl _) (Nat.le_refl _)
set_option maxHeartbeats 4000000 in
set_option maxRecDepth 100000 in
theorem c_M_thrown (l : Launch) (D : za_D) (h : za_H) (n : Nat) (A : ma_T) (G : tr_T) (Z : mz_T) (hM : h 142 = some (mo_c A G Z)) : za_M l D Y_M_thrown 0 0 0 [vR 142] h n (fun v h' n' => v = some (vI A.1) ∧ h' = h ∧ n = n') := by
  obtain ⟨th, n0, b⟩ := A
  obtain ⟨r, pl, la, dn, vi, de, ct, en, ou, ed⟩ := G
  obtain ⟨q0, ln, ld, lc, fd, rs, cv⟩ := Z
  refine za_enter cd_M_thrown fl_M (by decide) cdok_M_thrown flok_M (Nat.le_of_ble_eq_true rfl) ?_
  intro p e s m args below meth c X hnm
  refine za_view [(142, mo_c (th, n0, b) (r, pl, la, dn, vi, de, ct, en, ou, ed) (q0, ln, ld, lc, fd, rs, cv))] (by simp [hM]) ?_
  iterate 2 refine za_step X rfl rfl rfl ?_
  exact za_iret X rfl ⟨rfl, by rw [za_ov1, za_set_same hM], rfl⟩ (Nat.le_refl _) (Nat.le_refl _)
set_option maxHeartbeats 4000000 in
set_option maxRecDepth 100000 in
theorem c_M_decide (l : Launch) (D : za_D) (h : za_H) (n : Nat) (A : ma_T) (G : tr_T) (Z : mz_T) (hM : h 142 = some (mo_c A G Z)) (y : Bool) : za_M l D Y_M_decide 0 0 0 [vR 142, vI (bI y)] h n (fun v h' n' => v = some (vI (bI y)) ∧ h' = za_set h 142 (mo_c A (tr_dec G y) Z) ∧ n = n') := by
  obtain ⟨th, n0, b⟩ := A
  obtain ⟨r, pl, la, dn, vi, de, ct, en, ou, ed⟩ := G
  obtain ⟨q0, ln, ld, lc, fd, rs, cv⟩ := Z
  refine za_enter cd_M_decide fl_M (by decide) cdok_M_decide flok_M (Nat.le_of_ble_eq_true rfl) ?_
  intro p e s m args below meth c X hnm
  refine za_view [(142, mo_c (th, n0, b) (r, pl, la, dn, vi, de, ct, en, ou, ed) (q0, ln, ld, lc, fd, rs, cv))] (by simp [hM]) ?_
  iterate 1 refine za_step X rfl rfl rfl ?_
  refine za_ifeq X 22 rfl (by decide) (fun h1 => ?_) (fun h1 => ?_)
  · have hy := bI_0 h1
    subst hy
    iterate 7 refine za_step X rfl rfl rfl ?_
    exact za_zret X rfl (Or.inl rfl) ⟨rfl, za_ov1 h 142 (mo_c (th, n0, b) (tr_dec (r, pl, la, dn, vi, de, ct, en, ou, ed) false) (q0, ln, ld, lc, fd, rs, cv)), rfl⟩ (Nat.le_refl _) (Nat.le_refl _)
  · have hy := bI_n0 h1
    subst hy
    iterate 18 refine za_step X rfl rfl rfl ?_
    exact za_zret X rfl (Or.inr rfl) ⟨rfl, za_ov1 h 142 (mo_c (th, n0, b) (tr_dec (r, pl, la, dn, vi, de, ct, en, ou, ed) true) (q0, ln, ld, lc, fd, rs, cv)), rfl⟩ (Nat.le_refl _) (Nat.le_refl _)
set_option maxHeartbeats 4000000 in
set_option maxRecDepth 100000 in
theorem c_M_finish (l : Launch) (D : za_D) (h : za_H) (n : Nat) (A : ma_T) (G : tr_T) (Z : mz_T) (hM : h 142 = some (mo_c A G Z)) (x y : Int32) : za_M l D Y_M_finish 0 0 0 [vR 142, vI x, vI y] h n (fun v h' n' => v = none ∧ h' = za_set h 142 (mo_c A (tr_fin G x y) Z) ∧ n = n') := by
  obtain ⟨th, n0, b⟩ := A
  obtain ⟨r, pl, la, dn, vi, de, ct, en, ou, ed⟩ := G
  obtain ⟨q0, ln, ld, lc, fd, rs, cv⟩ := Z
  refine za_enter cd_M_finish fl_M (by decide) cdok_M_finish flok_M (Nat.le_of_ble_eq_true rfl) ?_
  intro p e s m args below meth c X hnm
  refine za_view [(142, mo_c (th, n0, b) (r, pl, la, dn, vi, de, ct, en, ou, ed) (q0, ln, ld, lc, fd, rs, cv))] (by simp [hM]) ?_
  iterate 6 refine za_step X rfl rfl rfl ?_
  exact za_vret X rfl ⟨rfl, za_ov1 h 142 (mo_c (th, n0, b) (tr_fin (r, pl, la, dn, vi, de, ct, en, ou, ed) x y) (q0, ln, ld, lc, fd, rs, cv)), rfl⟩ (Nat.le_refl _) (Nat.le_refl _)
set_option maxHeartbeats 4000000 in
set_option maxRecDepth 100000 in
theorem c_M_isInput (l : Launch) (D : za_D) (h : za_H) (n : Nat) (A : ma_T) (G : tr_T) (Z : mz_T) (hM : h 142 = some (mo_c A G Z)) (x : Int32) : za_M l D Y_M_isInput 1 0 0 [vR 142, vI x] h n (fun v h' n' => v = some (vI (bI (pr_up (in_lg A.2.2) x))) ∧ h' = h ∧ n = n') := by
  obtain ⟨th, n0, b⟩ := A
  obtain ⟨r, pl, la, dn, vi, de, ct, en, ou, ed⟩ := G
  obtain ⟨q0, ln, ld, lc, fd, rs, cv⟩ := Z
  refine za_enter cd_M_isInput fl_M (by decide) cdok_M_isInput flok_M (Nat.le_of_ble_eq_true rfl) ?_
  intro p e s m args below meth c X hnm
  refine za_view [(142, mo_c (th, n0, b) (r, pl, la, dn, vi, de, ct, en, ou, ed) (q0, ln, ld, lc, fd, rs, cv))] (by simp [hM]) ?_
  iterate 8 refine za_step X rfl rfl rfl ?_
  refine za_callS X rfl cl_M_M_in cy_M_in cs_M_in (c_M_in l D _ n x 0 (in_lg b)) rfl rfl (Nat.le_of_ble_eq_true rfl) (Nat.le_of_ble_eq_true rfl) (Nat.le_of_ble_eq_true rfl) (Nat.le_of_ble_eq_true rfl) (Nat.le_of_ble_eq_true rfl) (fun v h' n' hq => ?_)
  obtain ⟨rfl, rfl, rfl⟩ := hq
  refine za_look (h1 := h) (v1 := [(142, mo_c (th, n0, b) (r, pl, la, dn, vi, de, ct, en, ou, ed) (q0, ln, ld, lc, fd, rs, cv))]) rfl ?_
  exact za_zret X rfl (bI_01 _) ⟨rfl, by rw [za_ov1, za_set_same hM], rfl⟩ (Nat.le_refl _) (Nat.le_refl _)
def mw_ed (cc0 : Nat → Int32) (op x y k : Int32) : Int32 := if op = 7 then x >>> (cc0 k.toNatClampNeg &&& 31) else tr_com op x y
set_option maxHeartbeats 4000000 in
set_option maxRecDepth 100000 in
theorem c_M_worked (l : Launch) (D : za_D) (h : za_H) (n : Nat) (A : ma_T) (G : tr_T) (Z : mz_T) (hM : h 142 = some (mo_c A G Z)) (cc0 : Nat → Int32) (hC : h 146 = some (pr_g cc0)) (op x y k : Int32) (hk : vp_in k 24) (hop : op = 1 ∨ op = 2 ∨ op = 3 ∨ op = 4 ∨ op = 5 ∨ op = 6 ∨ op = 7) : za_M l D Y_M_worked 0 0 0 [vR 142, vI op, vI x, vI y, vI k] h n (fun v h' n' => v = some (vI (mw_ed cc0 op x y k)) ∧ h' = h ∧ n = n') := by
  obtain ⟨th, n0, b⟩ := A
  obtain ⟨r, pl, la, dn, vi, de, ct, en, ou, ed⟩ := G
  obtain ⟨q0, ln, ld, lc, fd, rs, cv⟩ := Z
  refine za_enter cd_M_worked fl_M (by decide) cdok_M_worked flok_M (Nat.le_of_ble_eq_true rfl) ?_
  intro p e s m args below meth c X hnm
  have hfin : za_ov h [(142, mo_c (th, n0, b) (r, pl, la, dn, vi, de, ct, en, ou, ed) (q0, ln, ld, lc, fd, rs, cv))] = h := by rw [za_ov1, za_set_same hM]
  refine za_view [(142, mo_c (th, n0, b) (r, pl, la, dn, vi, de, ct, en, ou, ed) (q0, ln, ld, lc, fd, rs, cv))] (by simp [hM]) ?_
  iterate 1 refine za_step X rfl rfl rfl ?_
  rcases hop with rfl | rfl | rfl | rfl | rfl | rfl | rfl
  · refine za_tsw X 1 40 rfl (by decide) (by decide) (by decide) rfl (by decide) ?_
    iterate 5 refine za_step X rfl rfl rfl ?_
    exact za_iret X rfl ⟨rfl, hfin, rfl⟩ (Nat.le_refl _) (Nat.le_refl _)
  · refine za_tsw X 2 48 rfl (by decide) (by decide) (by decide) rfl (by decide) ?_
    iterate 5 refine za_step X rfl rfl rfl ?_
    exact za_iret X rfl ⟨rfl, hfin, rfl⟩ (Nat.le_refl _) (Nat.le_refl _)
  · refine za_tsw X 3 56 rfl (by decide) (by decide) (by decide) rfl (by decide) ?_
    iterate 3 refine za_step X rfl rfl rfl ?_
    exact za_iret X rfl ⟨rfl, hfin, rfl⟩ (Nat.le_refl _) (Nat.le_refl _)
  · refine za_tsw X 4 60 rfl (by decide) (by decide) (by decide) rfl (by decide) ?_
    iterate 3 refine za_step X rfl rfl rfl ?_
    exact za_iret X rfl ⟨rfl, hfin, rfl⟩ (Nat.le_refl _) (Nat.le_refl _)
  · refine za_tsw X 5 64 rfl (by decide) (by decide) (by decide) rfl (by decide) ?_
    iterate 3 refine za_step X rfl rfl rfl ?_
    exact za_iret X rfl ⟨rfl, hfin, rfl⟩ (Nat.le_refl _) (Nat.le_refl _)
  · refine za_tsw X 6 68 rfl (by decide) (by decide) (by decide) rfl (by decide) ?_
    iterate 5 refine za_step X rfl rfl rfl ?_
    exact za_iret X rfl ⟨rfl, hfin, rfl⟩ (Nat.le_refl _) (Nat.le_refl _)
  · refine za_tsd X 76 rfl (by decide) (by decide) ?_
    iterate 4 refine za_step X rfl rfl rfl ?_
    refine za_iald X rfl hC rfl hk ?_
    iterate 1 refine za_step X rfl rfl rfl ?_
    exact za_iret X rfl ⟨rfl, hfin, rfl⟩ (Nat.le_refl _) (Nat.le_refl _)
end
section
def mp_pc (T : tr_T) : Int32 := if tr_en T = 0 then tr_pl T else -1
theorem up24 {c1 : Int32} (h : pr_up 24 c1 = true) : ∃ j, j ≤ 24 ∧ c1 = nI j := by
  simp only [pr_up, Bool.and_eq_true, decide_eq_true_eq] at h
  obtain ⟨j, hj, rfl⟩ := nI_of (Int32.not_lt.mpr h.1)
  exact ⟨j, (nI_leI (b := 24) hj (by omega)).mp h.2, rfl⟩
theorem ins_dn (G : tr_T) (op a1 b1 c1 : Int32) : tr_dn (tr_ins G op a1 b1 c1) = tr_dn G := by
  obtain ⟨r, pl, la, dn, vi, de, ct, en, ou, ed⟩ := G
  unfold tr_ins tr_goif tr_div tr_clm
  repeat' split
  all_goals rfl
theorem ins_pl {G : tr_T} {op a1 b1 c1 : Int32} (hal : pr_al op a1 b1 c1 = true) (hg : ∃ j, j ≤ 24 ∧ tr_pl G = nI j) : ∃ j, j ≤ 24 ∧ tr_pl (tr_ins G op a1 b1 c1) = nI j := by
  obtain ⟨r, pl, la, dn, vi, de, ct, en, ou, ed⟩ := G
  rcases op_cases op with hop | rfl | rfl | rfl | rfl | rfl | rfl | rfl | rfl | rfl | rfl | rfl | rfl | rfl | rfl
  · rw [al_out hop] at hal; cases hal
  · exact hg
  · exact hg
  · exact hg
  · exact hg
  · exact hg
  · exact hg
  · exact hg
  · exact hg
  · have h24 : pr_up 24 c1 = true := by simp [pr_al] at hal; exact hal.2.2
    show ∃ j, j ≤ 24 ∧ tr_pl (tr_goif _ (decide (r a1.toNatClampNeg < r b1.toNatClampNeg)) c1) = nI j
    unfold tr_goif
    split
    · exact up24 h24
    · exact hg
  · have h24 : pr_up 24 c1 = true := by simp [pr_al] at hal; exact hal.2.2
    show ∃ j, j ≤ 24 ∧ tr_pl (tr_goif _ (decide (r a1.toNatClampNeg = r b1.toNatClampNeg)) c1) = nI j
    unfold tr_goif
    split
    · exact up24 h24
    · exact hg
  · have h24 : pr_up 24 c1 = true := by simpa [pr_al] using hal
    exact up24 h24
  · show ∃ j, j ≤ 24 ∧ tr_pl (tr_div _ a1 b1 c1) = nI j
    unfold tr_div
    split
    · exact hg
    · exact hg
  · show ∃ j, j ≤ 24 ∧ tr_pl (tr_clm _ a1) = nI j
    unfold tr_clm
    split
    · exact hg
    · exact hg
  · exact hg
set_option maxHeartbeats 4000000 in
set_option maxRecDepth 100000 in
theorem c_M_perform (l : Launch) (D : za_D) (h : za_H) (n : Nat) (A : ma_T) (Z : mz_T) (r : Nat → Int32) (k dn vi : Int32) (de : Int64) (ct ou ed : Int32) (hM : mo_at h A (r, k + 1, k, dn, vi, de, ct, 0, ou, ed) Z) (P : pr_T) (hP : mp_at h P) (hok : pr_ok P) (hin : vp_in k 24) (hidx : k.toNatClampNeg < P.2.2.2.2) : za_M l D Y_M_perform 1 0 0 [vR 142, vI k] h n (fun v h' n' => v = some (vI (mp_pc (tr_ins (r, k + 1, k, dn, vi, de, ct, 0, ou, ed) (P.1 k.toNatClampNeg) (P.2.1 k.toNatClampNeg) (P.2.2.1 k.toNatClampNeg) (P.2.2.2.1 k.toNatClampNeg)))) ∧ h' = mo_put h A (tr_ins (r, k + 1, k, dn, vi, de, ct, 0, ou, ed) (P.1 k.toNatClampNeg) (P.2.1 k.toNatClampNeg) (P.2.2.1 k.toNatClampNeg) (P.2.2.2.1 k.toNatClampNeg)) Z ∧ n = n') := by
  obtain ⟨th, n0, b⟩ := A
  obtain ⟨q0, ln, ld, lc, fd, rs, cv⟩ := Z
  obtain ⟨oo, aa, bb, cc0, pn⟩ := P
  obtain ⟨hP2, hP3, hP4, hP5⟩ := hP
  show za_M l D Y_M_perform 1 0 0 [vR 142, vI k] h n (fun v h' n' => v = some (vI (mp_pc (tr_ins (r, k + 1, k, dn, vi, de, ct, 0, ou, ed) (oo k.toNatClampNeg) (aa k.toNatClampNeg) (bb k.toNatClampNeg) (cc0 k.toNatClampNeg)))) ∧ h' = mo_put h (th, n0, b) (tr_ins (r, k + 1, k, dn, vi, de, ct, 0, ou, ed) (oo k.toNatClampNeg) (aa k.toNatClampNeg) (bb k.toNatClampNeg) (cc0 k.toNatClampNeg)) (q0, ln, ld, lc, fd, rs, cv) ∧ n = n')
  refine za_enter cd_M_perform fl_M (by decide) cdok_M_perform flok_M (Nat.le_of_ble_eq_true rfl) ?_
  intro p e s m args below meth c X hnm
  refine za_view [(142, mo_c (th, n0, b) (r, k + 1, k, dn, vi, de, ct, 0, ou, ed) (q0, ln, ld, lc, fd, rs, cv)), (147, tr_g (r, k + 1, k, dn, vi, de, ct, 0, ou, ed))] (by simp [hM.1, hM.2]) ?_
  iterate 3 refine za_step X rfl rfl rfl ?_
  refine za_iald X rfl hP3 rfl hin ?_
  iterate 4 refine za_step X rfl rfl rfl ?_
  refine za_iald X rfl hP2 rfl hin ?_
  iterate 2 refine za_step X rfl rfl rfl ?_
  have hal := hok.2 _ hidx
  have hal0 := hal
  rcases al_use hal with ⟨ho, ha⟩ | ⟨ho, ha, hb⟩ | ⟨ho, ha, hb⟩ | ⟨ho, ha, hb⟩ | ho | ⟨ho, ha, hb, hx⟩ | ⟨ho, ha⟩ | ⟨ho, ha⟩ | ⟨hop, ha, hb, hx⟩
  · have e1 : tr_ins (r, k + 1, k, dn, vi, de, ct, 0, ou, ed) (oo k.toNatClampNeg) (aa k.toNatClampNeg) (bb k.toNatClampNeg) (cc0 k.toNatClampNeg) = tr_reg (r, k + 1, k, dn, vi, de, ct, 0, ou, ed) (aa k.toNatClampNeg).toNatClampNeg (bb k.toNatClampNeg) := by rw [ho]; rfl
    refine za_tsw X 0 84 rfl (by rw [ho]; decide) (by decide) (by decide) rfl (by decide) ?_
    iterate 6 refine za_step X rfl rfl rfl ?_
    refine za_iald X rfl hP4 rfl hin ?_
    refine za_iast X rfl rfl rfl (rg_in ha) ?_
    iterate 3 refine za_step X rfl rfl rfl ?_
    exact za_iret X rfl ⟨by rw [e1]; rfl, by rw [e1]; exact mo_ov h (th, n0, b) (tr_reg (r, k + 1, k, dn, vi, de, ct, 0, ou, ed) (aa k.toNatClampNeg).toNatClampNeg (bb k.toNatClampNeg)) (q0, ln, ld, lc, fd, rs, cv), rfl⟩ (Nat.le_refl _) (Nat.le_refl _)
  · have e1 : tr_ins (r, k + 1, k, dn, vi, de, ct, 0, ou, ed) (oo k.toNatClampNeg) (aa k.toNatClampNeg) (bb k.toNatClampNeg) (cc0 k.toNatClampNeg) = tr_reg (r, k + 1, k, dn, vi, de, ct, 0, ou, ed) (aa k.toNatClampNeg).toNatClampNeg (r (bb k.toNatClampNeg).toNatClampNeg >>> (cc0 k.toNatClampNeg &&& 31)) := by rw [ho]; rfl
    refine za_tsw X 7 310 rfl (by rw [ho]; decide) (by decide) (by decide) rfl (by decide) ?_
    iterate 10 refine za_step X rfl rfl rfl ?_
    refine za_iald X rfl hP4 rfl hin ?_
    refine za_iald X rfl rfl rfl (rg_in hb) ?_
    iterate 2 refine za_step X rfl rfl rfl ?_
    refine za_icge X 348 rfl (by decide) (fun q1 => ?_) (fun q1 => absurd (show (7 : Int32) ≤ oo k.toNatClampNeg by rw [ho]; decide) q1)
    iterate 2 refine za_step X rfl rfl rfl ?_
    refine za_callV (b := 142) (d := 0) (mc := 0) (ms := 0) (as := [vI (oo k.toNatClampNeg), vI (r (bb k.toNatClampNeg).toNatClampNeg), vI 0, vI k]) (rest := [vI (aa k.toNatClampNeg), vR 147]) X rfl cl_M_M_worked cy_M_worked cv_M_worked (c_M_worked l D (za_ov h [(142, mo_c (th, n0, b) (r, k + 1, k, dn, vi, de, ct, 0, ou, ed) (q0, ln, ld, lc, fd, rs, cv)), (147, tr_g (r, k + 1, k, dn, vi, de, ct, 0, ou, ed))]) n (th, n0, b) (r, k + 1, k, dn, vi, de, ct, 0, ou, ed) (q0, ln, ld, lc, fd, rs, cv) rfl cc0 hP5 (oo k.toNatClampNeg) (r (bb k.toNatClampNeg).toNatClampNeg) 0 k hin (by simp [ho])) rfl rfl rfl rfl (Nat.le_of_ble_eq_true rfl) (Nat.le_of_ble_eq_true rfl) (Nat.le_of_ble_eq_true rfl) (Nat.le_of_ble_eq_true rfl) (Nat.le_of_ble_eq_true rfl) (fun v h' n' hq => ?_)
    obtain ⟨rfl, rfl, rfl⟩ := hq
    rw [show mw_ed cc0 (oo k.toNatClampNeg) (r (bb k.toNatClampNeg).toNatClampNeg) 0 k = r (bb k.toNatClampNeg).toNatClampNeg >>> (cc0 k.toNatClampNeg &&& 31) from if_pos ho]
    refine za_look (h1 := h) (v1 := [(142, mo_c (th, n0, b) (r, k + 1, k, dn, vi, de, ct, 0, ou, ed) (q0, ln, ld, lc, fd, rs, cv)), (147, tr_g (r, k + 1, k, dn, vi, de, ct, 0, ou, ed))]) rfl ?_
    refine za_iast X rfl rfl rfl (rg_in ha) ?_
    iterate 3 refine za_step X rfl rfl rfl ?_
    exact za_iret X rfl ⟨by rw [e1]; rfl, by rw [e1]; exact mo_ov h (th, n0, b) (tr_reg (r, k + 1, k, dn, vi, de, ct, 0, ou, ed) (aa k.toNatClampNeg).toNatClampNeg (r (bb k.toNatClampNeg).toNatClampNeg >>> (cc0 k.toNatClampNeg &&& 31))) (q0, ln, ld, lc, fd, rs, cv), rfl⟩ (Nat.le_refl _) (Nat.le_refl _)
  · skip
    refine za_tsw X 8 100 rfl (by rw [ho]; decide) (by decide) (by decide) rfl (by decide) ?_
    iterate 4 refine za_step X rfl rfl rfl ?_
    refine za_iald X rfl rfl rfl (rg_in ha) ?_
    iterate 5 refine za_step X rfl rfl rfl ?_
    refine za_iald X rfl hP4 rfl hin ?_
    refine za_iald X rfl rfl rfl (rg_in hb) ?_
    refine za_icge X 125 rfl (by decide) (fun q1 => ?_) (fun q1 => ?_)
    · have e1 : tr_ins (r, k + 1, k, dn, vi, de, ct, 0, ou, ed) (oo k.toNatClampNeg) (aa k.toNatClampNeg) (bb k.toNatClampNeg) (cc0 k.toNatClampNeg) = tr_dec (r, k + 1, k, dn, vi, de, ct, 0, ou, ed) false := by
        rw [ho]
        show tr_goif (r, k + 1, k, dn, vi, de, ct, 0, ou, ed) (decide (r (aa k.toNatClampNeg).toNatClampNeg < r (bb k.toNatClampNeg).toNatClampNeg)) (cc0 k.toNatClampNeg) = _
        rw [decide_eq_false (show ¬ r (aa k.toNatClampNeg).toNatClampNeg < r (bb k.toNatClampNeg).toNatClampNeg from Int32.not_lt.mpr q1)]; rfl
      iterate 1 refine za_step X rfl rfl rfl ?_
      refine za_callV (b := 142) (d := 0) (mc := 0) (ms := 0) (as := [vI (bI false)]) (rest := []) X rfl cl_M_M_decide cy_M_decide cv_M_decide (c_M_decide l D (za_ov h [(142, mo_c (th, n0, b) (r, k + 1, k, dn, vi, de, ct, 0, ou, ed) (q0, ln, ld, lc, fd, rs, cv)), (147, tr_g (r, k + 1, k, dn, vi, de, ct, 0, ou, ed))]) n (th, n0, b) (r, k + 1, k, dn, vi, de, ct, 0, ou, ed) (q0, ln, ld, lc, fd, rs, cv) rfl false) rfl rfl rfl rfl (Nat.le_of_ble_eq_true rfl) (Nat.le_of_ble_eq_true rfl) (Nat.le_of_ble_eq_true rfl) (Nat.le_of_ble_eq_true rfl) (Nat.le_of_ble_eq_true rfl) (fun v h' n' hq => ?_)
      obtain ⟨rfl, rfl, rfl⟩ := hq
      refine za_look (h1 := h) (v1 := [(142, mo_c (th, n0, b) (tr_dec (r, k + 1, k, dn, vi, de, ct, 0, ou, ed) false) (q0, ln, ld, lc, fd, rs, cv)), (147, tr_g (r, k + 1, k, dn, vi, de, ct, 0, ou, ed))]) (mo_bk h _ _ _) ?_
      refine za_ifeq X 141 rfl (by decide) (fun q2 => ?_) (fun q2 => absurd rfl q2)
      iterate 3 refine za_step X rfl rfl rfl ?_
      exact za_iret X rfl ⟨by rw [e1]; rfl, by rw [e1]; exact mo_ov h (th, n0, b) (tr_dec (r, k + 1, k, dn, vi, de, ct, 0, ou, ed) false) (q0, ln, ld, lc, fd, rs, cv), rfl⟩ (Nat.le_refl _) (Nat.le_refl _)
    · have e1 : tr_ins (r, k + 1, k, dn, vi, de, ct, 0, ou, ed) (oo k.toNatClampNeg) (aa k.toNatClampNeg) (bb k.toNatClampNeg) (cc0 k.toNatClampNeg) = tr_go (tr_dec (r, k + 1, k, dn, vi, de, ct, 0, ou, ed) true) (cc0 k.toNatClampNeg) := by
        rw [ho]
        show tr_goif (r, k + 1, k, dn, vi, de, ct, 0, ou, ed) (decide (r (aa k.toNatClampNeg).toNatClampNeg < r (bb k.toNatClampNeg).toNatClampNeg)) (cc0 k.toNatClampNeg) = _
        rw [decide_eq_true (show r (aa k.toNatClampNeg).toNatClampNeg < r (bb k.toNatClampNeg).toNatClampNeg from Int32.not_le.mp q1)]; rfl
      iterate 2 refine za_step X rfl rfl rfl ?_
      refine za_callV (b := 142) (d := 0) (mc := 0) (ms := 0) (as := [vI (bI true)]) (rest := []) X rfl cl_M_M_decide cy_M_decide cv_M_decide (c_M_decide l D (za_ov h [(142, mo_c (th, n0, b) (r, k + 1, k, dn, vi, de, ct, 0, ou, ed) (q0, ln, ld, lc, fd, rs, cv)), (147, tr_g (r, k + 1, k, dn, vi, de, ct, 0, ou, ed))]) n (th, n0, b) (r, k + 1, k, dn, vi, de, ct, 0, ou, ed) (q0, ln, ld, lc, fd, rs, cv) rfl true) rfl rfl rfl rfl (Nat.le_of_ble_eq_true rfl) (Nat.le_of_ble_eq_true rfl) (Nat.le_of_ble_eq_true rfl) (Nat.le_of_ble_eq_true rfl) (Nat.le_of_ble_eq_true rfl) (fun v h' n' hq => ?_)
      obtain ⟨rfl, rfl, rfl⟩ := hq
      refine za_look (h1 := h) (v1 := [(142, mo_c (th, n0, b) (tr_dec (r, k + 1, k, dn, vi, de, ct, 0, ou, ed) true) (q0, ln, ld, lc, fd, rs, cv)), (147, tr_g (r, k + 1, k, dn, vi, de, ct, 0, ou, ed))]) (mo_bk h _ _ _) ?_
      refine za_ifeq X 141 rfl (by decide) (fun q2 => absurd q2 (by decide)) (fun q2 => ?_)
      iterate 3 refine za_step X rfl rfl rfl ?_
      refine za_iald X rfl hP5 rfl hin ?_
      iterate 1 refine za_step X rfl rfl rfl ?_
      exact za_iret X rfl ⟨by rw [e1]; rfl, by rw [e1]; exact mo_ov h (th, n0, b) (tr_go (tr_dec (r, k + 1, k, dn, vi, de, ct, 0, ou, ed) true) (cc0 k.toNatClampNeg)) (q0, ln, ld, lc, fd, rs, cv), rfl⟩ (Nat.le_refl _) (Nat.le_refl _)
  · skip
    refine za_tsw X 9 145 rfl (by rw [ho]; decide) (by decide) (by decide) rfl (by decide) ?_
    iterate 4 refine za_step X rfl rfl rfl ?_
    refine za_iald X rfl rfl rfl (rg_in ha) ?_
    iterate 5 refine za_step X rfl rfl rfl ?_
    refine za_iald X rfl hP4 rfl hin ?_
    refine za_iald X rfl rfl rfl (rg_in hb) ?_
    refine za_icne X 170 rfl (by decide) (fun q1 => ?_) (fun q1 => ?_)
    · have e1 : tr_ins (r, k + 1, k, dn, vi, de, ct, 0, ou, ed) (oo k.toNatClampNeg) (aa k.toNatClampNeg) (bb k.toNatClampNeg) (cc0 k.toNatClampNeg) = tr_dec (r, k + 1, k, dn, vi, de, ct, 0, ou, ed) false := by
        rw [ho]
        show tr_goif (r, k + 1, k, dn, vi, de, ct, 0, ou, ed) (decide (r (aa k.toNatClampNeg).toNatClampNeg = r (bb k.toNatClampNeg).toNatClampNeg)) (cc0 k.toNatClampNeg) = _
        rw [decide_eq_false (show ¬ r (aa k.toNatClampNeg).toNatClampNeg = r (bb k.toNatClampNeg).toNatClampNeg from q1)]; rfl
      iterate 1 refine za_step X rfl rfl rfl ?_
      refine za_callV (b := 142) (d := 0) (mc := 0) (ms := 0) (as := [vI (bI false)]) (rest := []) X rfl cl_M_M_decide cy_M_decide cv_M_decide (c_M_decide l D (za_ov h [(142, mo_c (th, n0, b) (r, k + 1, k, dn, vi, de, ct, 0, ou, ed) (q0, ln, ld, lc, fd, rs, cv)), (147, tr_g (r, k + 1, k, dn, vi, de, ct, 0, ou, ed))]) n (th, n0, b) (r, k + 1, k, dn, vi, de, ct, 0, ou, ed) (q0, ln, ld, lc, fd, rs, cv) rfl false) rfl rfl rfl rfl (Nat.le_of_ble_eq_true rfl) (Nat.le_of_ble_eq_true rfl) (Nat.le_of_ble_eq_true rfl) (Nat.le_of_ble_eq_true rfl) (Nat.le_of_ble_eq_true rfl) (fun v h' n' hq => ?_)
      obtain ⟨rfl, rfl, rfl⟩ := hq
      refine za_look (h1 := h) (v1 := [(142, mo_c (th, n0, b) (tr_dec (r, k + 1, k, dn, vi, de, ct, 0, ou, ed) false) (q0, ln, ld, lc, fd, rs, cv)), (147, tr_g (r, k + 1, k, dn, vi, de, ct, 0, ou, ed))]) (mo_bk h _ _ _) ?_
      refine za_ifeq X 186 rfl (by decide) (fun q2 => ?_) (fun q2 => absurd rfl q2)
      iterate 3 refine za_step X rfl rfl rfl ?_
      exact za_iret X rfl ⟨by rw [e1]; rfl, by rw [e1]; exact mo_ov h (th, n0, b) (tr_dec (r, k + 1, k, dn, vi, de, ct, 0, ou, ed) false) (q0, ln, ld, lc, fd, rs, cv), rfl⟩ (Nat.le_refl _) (Nat.le_refl _)
    · have e1 : tr_ins (r, k + 1, k, dn, vi, de, ct, 0, ou, ed) (oo k.toNatClampNeg) (aa k.toNatClampNeg) (bb k.toNatClampNeg) (cc0 k.toNatClampNeg) = tr_go (tr_dec (r, k + 1, k, dn, vi, de, ct, 0, ou, ed) true) (cc0 k.toNatClampNeg) := by
        rw [ho]
        show tr_goif (r, k + 1, k, dn, vi, de, ct, 0, ou, ed) (decide (r (aa k.toNatClampNeg).toNatClampNeg = r (bb k.toNatClampNeg).toNatClampNeg)) (cc0 k.toNatClampNeg) = _
        rw [decide_eq_true (show r (aa k.toNatClampNeg).toNatClampNeg = r (bb k.toNatClampNeg).toNatClampNeg from q1)]; rfl
      iterate 2 refine za_step X rfl rfl rfl ?_
      refine za_callV (b := 142) (d := 0) (mc := 0) (ms := 0) (as := [vI (bI true)]) (rest := []) X rfl cl_M_M_decide cy_M_decide cv_M_decide (c_M_decide l D (za_ov h [(142, mo_c (th, n0, b) (r, k + 1, k, dn, vi, de, ct, 0, ou, ed) (q0, ln, ld, lc, fd, rs, cv)), (147, tr_g (r, k + 1, k, dn, vi, de, ct, 0, ou, ed))]) n (th, n0, b) (r, k + 1, k, dn, vi, de, ct, 0, ou, ed) (q0, ln, ld, lc, fd, rs, cv) rfl true) rfl rfl rfl rfl (Nat.le_of_ble_eq_true rfl) (Nat.le_of_ble_eq_true rfl) (Nat.le_of_ble_eq_true rfl) (Nat.le_of_ble_eq_true rfl) (Nat.le_of_ble_eq_true rfl) (fun v h' n' hq => ?_)
      obtain ⟨rfl, rfl, rfl⟩ := hq
      refine za_look (h1 := h) (v1 := [(142, mo_c (th, n0, b) (tr_dec (r, k + 1, k, dn, vi, de, ct, 0, ou, ed) true) (q0, ln, ld, lc, fd, rs, cv)), (147, tr_g (r, k + 1, k, dn, vi, de, ct, 0, ou, ed))]) (mo_bk h _ _ _) ?_
      refine za_ifeq X 186 rfl (by decide) (fun q2 => absurd q2 (by decide)) (fun q2 => ?_)
      iterate 3 refine za_step X rfl rfl rfl ?_
      refine za_iald X rfl hP5 rfl hin ?_
      iterate 1 refine za_step X rfl rfl rfl ?_
      exact za_iret X rfl ⟨by rw [e1]; rfl, by rw [e1]; exact mo_ov h (th, n0, b) (tr_go (tr_dec (r, k + 1, k, dn, vi, de, ct, 0, ou, ed) true) (cc0 k.toNatClampNeg)) (q0, ln, ld, lc, fd, rs, cv), rfl⟩ (Nat.le_refl _) (Nat.le_refl _)
  · have e1 : tr_ins (r, k + 1, k, dn, vi, de, ct, 0, ou, ed) (oo k.toNatClampNeg) (aa k.toNatClampNeg) (bb k.toNatClampNeg) (cc0 k.toNatClampNeg) = tr_go (r, k + 1, k, dn, vi, de, ct, 0, ou, ed) (cc0 k.toNatClampNeg) := by rw [ho]; rfl
    refine za_tsw X 10 190 rfl (by rw [ho]; decide) (by decide) (by decide) rfl (by decide) ?_
    iterate 3 refine za_step X rfl rfl rfl ?_
    refine za_iald X rfl hP5 rfl hin ?_
    exact za_iret X rfl ⟨by rw [e1]; rfl, by rw [e1]; exact mo_ov h (th, n0, b) (tr_go (r, k + 1, k, dn, vi, de, ct, 0, ou, ed) (cc0 k.toNatClampNeg)) (q0, ln, ld, lc, fd, rs, cv), rfl⟩ (Nat.le_refl _) (Nat.le_refl _)
  · skip
    refine za_tsw X 11 197 rfl (by rw [ho]; decide) (by decide) (by decide) rfl (by decide) ?_
    iterate 6 refine za_step X rfl rfl rfl ?_
    refine za_iald X rfl hP5 rfl hin ?_
    refine za_iald X rfl rfl rfl (rg_in hx) ?_
    refine za_ifne X 216 rfl (by decide) (fun q1 => ?_) (fun q1 => ?_)
    · have e1 : tr_ins (r, k + 1, k, dn, vi, de, ct, 0, ou, ed) (oo k.toNatClampNeg) (aa k.toNatClampNeg) (bb k.toNatClampNeg) (cc0 k.toNatClampNeg) = tr_reg (tr_dec (r, k + 1, k, dn, vi, de, ct, 0, ou, ed) false) (aa k.toNatClampNeg).toNatClampNeg (r (bb k.toNatClampNeg).toNatClampNeg / r (cc0 k.toNatClampNeg).toNatClampNeg) := by
        rw [ho]; exact if_neg q1
      iterate 1 refine za_step X rfl rfl rfl ?_
      refine za_callV (b := 142) (d := 0) (mc := 0) (ms := 0) (as := [vI (bI false)]) (rest := []) X rfl cl_M_M_decide cy_M_decide cv_M_decide (c_M_decide l D (za_ov h [(142, mo_c (th, n0, b) (r, k + 1, k, dn, vi, de, ct, 0, ou, ed) (q0, ln, ld, lc, fd, rs, cv)), (147, tr_g (r, k + 1, k, dn, vi, de, ct, 0, ou, ed))]) n (th, n0, b) (r, k + 1, k, dn, vi, de, ct, 0, ou, ed) (q0, ln, ld, lc, fd, rs, cv) rfl false) rfl rfl rfl rfl (Nat.le_of_ble_eq_true rfl) (Nat.le_of_ble_eq_true rfl) (Nat.le_of_ble_eq_true rfl) (Nat.le_of_ble_eq_true rfl) (Nat.le_of_ble_eq_true rfl) (fun v h' n' hq => ?_)
      obtain ⟨rfl, rfl, rfl⟩ := hq
      refine za_look (h1 := h) (v1 := [(142, mo_c (th, n0, b) (tr_dec (r, k + 1, k, dn, vi, de, ct, 0, ou, ed) false) (q0, ln, ld, lc, fd, rs, cv)), (147, tr_g (r, k + 1, k, dn, vi, de, ct, 0, ou, ed))]) (mo_bk h _ _ _) ?_
      refine za_ifeq X 231 rfl (by decide) (fun q2 => ?_) (fun q2 => absurd rfl q2)
      iterate 8 refine za_step X rfl rfl rfl ?_
      refine za_iald X rfl hP4 rfl hin ?_
      refine za_iald X rfl rfl rfl (rg_in hb) ?_
      iterate 5 refine za_step X rfl rfl rfl ?_
      refine za_iald X rfl hP5 rfl hin ?_
      refine za_iald X rfl rfl rfl (rg_in hx) ?_
      refine za_idiv X rfl q1 ?_
      refine za_iast X rfl rfl rfl (rg_in ha) ?_
      iterate 3 refine za_step X rfl rfl rfl ?_
      exact za_iret X rfl ⟨by rw [e1]; rfl, by rw [e1]; exact mo_ov h (th, n0, b) (tr_reg (tr_dec (r, k + 1, k, dn, vi, de, ct, 0, ou, ed) false) (aa k.toNatClampNeg).toNatClampNeg (r (bb k.toNatClampNeg).toNatClampNeg / r (cc0 k.toNatClampNeg).toNatClampNeg)) (q0, ln, ld, lc, fd, rs, cv), rfl⟩ (Nat.le_refl _) (Nat.le_refl _)
    · have e1 : tr_ins (r, k + 1, k, dn, vi, de, ct, 0, ou, ed) (oo k.toNatClampNeg) (aa k.toNatClampNeg) (bb k.toNatClampNeg) (cc0 k.toNatClampNeg) = tr_fin (tr_dec (r, k + 1, k, dn, vi, de, ct, 0, ou, ed) true) 1 k := by
        rw [ho]; exact if_pos q1
      iterate 2 refine za_step X rfl rfl rfl ?_
      refine za_callV (b := 142) (d := 0) (mc := 0) (ms := 0) (as := [vI (bI true)]) (rest := []) X rfl cl_M_M_decide cy_M_decide cv_M_decide (c_M_decide l D (za_ov h [(142, mo_c (th, n0, b) (r, k + 1, k, dn, vi, de, ct, 0, ou, ed) (q0, ln, ld, lc, fd, rs, cv)), (147, tr_g (r, k + 1, k, dn, vi, de, ct, 0, ou, ed))]) n (th, n0, b) (r, k + 1, k, dn, vi, de, ct, 0, ou, ed) (q0, ln, ld, lc, fd, rs, cv) rfl true) rfl rfl rfl rfl (Nat.le_of_ble_eq_true rfl) (Nat.le_of_ble_eq_true rfl) (Nat.le_of_ble_eq_true rfl) (Nat.le_of_ble_eq_true rfl) (Nat.le_of_ble_eq_true rfl) (fun v h' n' hq => ?_)
      obtain ⟨rfl, rfl, rfl⟩ := hq
      refine za_look (h1 := h) (v1 := [(142, mo_c (th, n0, b) (tr_dec (r, k + 1, k, dn, vi, de, ct, 0, ou, ed) true) (q0, ln, ld, lc, fd, rs, cv)), (147, tr_g (r, k + 1, k, dn, vi, de, ct, 0, ou, ed))]) (mo_bk h _ _ _) ?_
      refine za_ifeq X 231 rfl (by decide) (fun q2 => absurd q2 (by decide)) (fun q2 => ?_)
      iterate 3 refine za_step X rfl rfl rfl ?_
      refine za_callV (b := 142) (d := 0) (mc := 0) (ms := 0) (as := [vI 1, vI k]) (rest := []) X rfl cl_M_M_finish cy_M_finish cv_M_finish (c_M_finish l D (za_ov h [(142, mo_c (th, n0, b) (tr_dec (r, k + 1, k, dn, vi, de, ct, 0, ou, ed) true) (q0, ln, ld, lc, fd, rs, cv)), (147, tr_g (r, k + 1, k, dn, vi, de, ct, 0, ou, ed))]) n (th, n0, b) (tr_dec (r, k + 1, k, dn, vi, de, ct, 0, ou, ed) true) (q0, ln, ld, lc, fd, rs, cv) rfl 1 k) rfl rfl rfl rfl (Nat.le_of_ble_eq_true rfl) (Nat.le_of_ble_eq_true rfl) (Nat.le_of_ble_eq_true rfl) (Nat.le_of_ble_eq_true rfl) (Nat.le_of_ble_eq_true rfl) (fun v h' n' hq => ?_)
      obtain ⟨rfl, rfl, rfl⟩ := hq
      refine za_look (h1 := h) (v1 := [(142, mo_c (th, n0, b) (tr_fin (tr_dec (r, k + 1, k, dn, vi, de, ct, 0, ou, ed) true) 1 k) (q0, ln, ld, lc, fd, rs, cv)), (147, tr_g (r, k + 1, k, dn, vi, de, ct, 0, ou, ed))]) (mo_bk h _ _ _) ?_
      iterate 1 refine za_step X rfl rfl rfl ?_
      exact za_iret X rfl ⟨by rw [e1]; rfl, by rw [e1]; exact mo_ov h (th, n0, b) (tr_fin (tr_dec (r, k + 1, k, dn, vi, de, ct, 0, ou, ed) true) 1 k) (q0, ln, ld, lc, fd, rs, cv), rfl⟩ (Nat.le_refl _) (Nat.le_refl _)
  · skip
    refine za_tsw X 12 264 rfl (by rw [ho]; decide) (by decide) (by decide) rfl (by decide) ?_
    iterate 4 refine za_step X rfl rfl rfl ?_
    refine za_iald X rfl rfl rfl (rg_in ha) ?_
    refine za_ifne X 278 rfl (by decide) (fun q1 => ?_) (fun q1 => ?_)
    · have e1 : tr_ins (r, k + 1, k, dn, vi, de, ct, 0, ou, ed) (oo k.toNatClampNeg) (aa k.toNatClampNeg) (bb k.toNatClampNeg) (cc0 k.toNatClampNeg) = tr_dec (r, k + 1, k, dn, vi, de, ct, 0, ou, ed) false := by
        rw [ho]; exact if_neg q1
      iterate 1 refine za_step X rfl rfl rfl ?_
      refine za_callV (b := 142) (d := 0) (mc := 0) (ms := 0) (as := [vI (bI false)]) (rest := []) X rfl cl_M_M_decide cy_M_decide cv_M_decide (c_M_decide l D (za_ov h [(142, mo_c (th, n0, b) (r, k + 1, k, dn, vi, de, ct, 0, ou, ed) (q0, ln, ld, lc, fd, rs, cv)), (147, tr_g (r, k + 1, k, dn, vi, de, ct, 0, ou, ed))]) n (th, n0, b) (r, k + 1, k, dn, vi, de, ct, 0, ou, ed) (q0, ln, ld, lc, fd, rs, cv) rfl false) rfl rfl rfl rfl (Nat.le_of_ble_eq_true rfl) (Nat.le_of_ble_eq_true rfl) (Nat.le_of_ble_eq_true rfl) (Nat.le_of_ble_eq_true rfl) (Nat.le_of_ble_eq_true rfl) (fun v h' n' hq => ?_)
      obtain ⟨rfl, rfl, rfl⟩ := hq
      refine za_look (h1 := h) (v1 := [(142, mo_c (th, n0, b) (tr_dec (r, k + 1, k, dn, vi, de, ct, 0, ou, ed) false) (q0, ln, ld, lc, fd, rs, cv)), (147, tr_g (r, k + 1, k, dn, vi, de, ct, 0, ou, ed))]) (mo_bk h _ _ _) ?_
      refine za_ifne X 289 rfl (by decide) (fun q2 => absurd rfl q2) (fun q2 => ?_)
      iterate 3 refine za_step X rfl rfl rfl ?_
      exact za_iret X rfl ⟨by rw [e1]; rfl, by rw [e1]; exact mo_ov h (th, n0, b) (tr_dec (r, k + 1, k, dn, vi, de, ct, 0, ou, ed) false) (q0, ln, ld, lc, fd, rs, cv), rfl⟩ (Nat.le_refl _) (Nat.le_refl _)
    · have e1 : tr_ins (r, k + 1, k, dn, vi, de, ct, 0, ou, ed) (oo k.toNatClampNeg) (aa k.toNatClampNeg) (bb k.toNatClampNeg) (cc0 k.toNatClampNeg) = tr_fin (tr_dec (r, k + 1, k, dn, vi, de, ct, 0, ou, ed) true) 2 k := by
        rw [ho]; exact if_pos q1
      iterate 2 refine za_step X rfl rfl rfl ?_
      refine za_callV (b := 142) (d := 0) (mc := 0) (ms := 0) (as := [vI (bI true)]) (rest := []) X rfl cl_M_M_decide cy_M_decide cv_M_decide (c_M_decide l D (za_ov h [(142, mo_c (th, n0, b) (r, k + 1, k, dn, vi, de, ct, 0, ou, ed) (q0, ln, ld, lc, fd, rs, cv)), (147, tr_g (r, k + 1, k, dn, vi, de, ct, 0, ou, ed))]) n (th, n0, b) (r, k + 1, k, dn, vi, de, ct, 0, ou, ed) (q0, ln, ld, lc, fd, rs, cv) rfl true) rfl rfl rfl rfl (Nat.le_of_ble_eq_true rfl) (Nat.le_of_ble_eq_true rfl) (Nat.le_of_ble_eq_true rfl) (Nat.le_of_ble_eq_true rfl) (Nat.le_of_ble_eq_true rfl) (fun v h' n' hq => ?_)
      obtain ⟨rfl, rfl, rfl⟩ := hq
      refine za_look (h1 := h) (v1 := [(142, mo_c (th, n0, b) (tr_dec (r, k + 1, k, dn, vi, de, ct, 0, ou, ed) true) (q0, ln, ld, lc, fd, rs, cv)), (147, tr_g (r, k + 1, k, dn, vi, de, ct, 0, ou, ed))]) (mo_bk h _ _ _) ?_
      refine za_ifne X 289 rfl (by decide) (fun q2 => ?_) (fun q2 => absurd q2 (by decide))
      iterate 3 refine za_step X rfl rfl rfl ?_
      refine za_callV (b := 142) (d := 0) (mc := 0) (ms := 0) (as := [vI 2, vI k]) (rest := []) X rfl cl_M_M_finish cy_M_finish cv_M_finish (c_M_finish l D (za_ov h [(142, mo_c (th, n0, b) (tr_dec (r, k + 1, k, dn, vi, de, ct, 0, ou, ed) true) (q0, ln, ld, lc, fd, rs, cv)), (147, tr_g (r, k + 1, k, dn, vi, de, ct, 0, ou, ed))]) n (th, n0, b) (tr_dec (r, k + 1, k, dn, vi, de, ct, 0, ou, ed) true) (q0, ln, ld, lc, fd, rs, cv) rfl 2 k) rfl rfl rfl rfl (Nat.le_of_ble_eq_true rfl) (Nat.le_of_ble_eq_true rfl) (Nat.le_of_ble_eq_true rfl) (Nat.le_of_ble_eq_true rfl) (Nat.le_of_ble_eq_true rfl) (fun v h' n' hq => ?_)
      obtain ⟨rfl, rfl, rfl⟩ := hq
      refine za_look (h1 := h) (v1 := [(142, mo_c (th, n0, b) (tr_fin (tr_dec (r, k + 1, k, dn, vi, de, ct, 0, ou, ed) true) 2 k) (q0, ln, ld, lc, fd, rs, cv)), (147, tr_g (r, k + 1, k, dn, vi, de, ct, 0, ou, ed))]) (mo_bk h _ _ _) ?_
      iterate 1 refine za_step X rfl rfl rfl ?_
      exact za_iret X rfl ⟨by rw [e1]; rfl, by rw [e1]; exact mo_ov h (th, n0, b) (tr_fin (tr_dec (r, k + 1, k, dn, vi, de, ct, 0, ou, ed) true) 2 k) (q0, ln, ld, lc, fd, rs, cv), rfl⟩ (Nat.le_refl _) (Nat.le_refl _)
  · have e1 : tr_ins (r, k + 1, k, dn, vi, de, ct, 0, ou, ed) (oo k.toNatClampNeg) (aa k.toNatClampNeg) (bb k.toNatClampNeg) (cc0 k.toNatClampNeg) = tr_fin (r, k + 1, k, dn, vi, de, ct, 0, ou, ed) 0 (r (aa k.toNatClampNeg).toNatClampNeg) := by rw [ho]; rfl
    refine za_tsw X 13 297 rfl (by rw [ho]; decide) (by decide) (by decide) rfl (by decide) ?_
    iterate 5 refine za_step X rfl rfl rfl ?_
    refine za_iald X rfl rfl rfl (rg_in ha) ?_
    refine za_callV (b := 142) (d := 0) (mc := 0) (ms := 0) (as := [vI 0, vI (r (aa k.toNatClampNeg).toNatClampNeg)]) (rest := []) X rfl cl_M_M_finish cy_M_finish cv_M_finish (c_M_finish l D (za_ov h [(142, mo_c (th, n0, b) ((r, k + 1, k, dn, vi, de, ct, 0, ou, ed)) (q0, ln, ld, lc, fd, rs, cv)), (147, tr_g (r, k + 1, k, dn, vi, de, ct, 0, ou, ed))]) n (th, n0, b) ((r, k + 1, k, dn, vi, de, ct, 0, ou, ed)) (q0, ln, ld, lc, fd, rs, cv) rfl 0 (r (aa k.toNatClampNeg).toNatClampNeg)) rfl rfl rfl rfl (Nat.le_of_ble_eq_true rfl) (Nat.le_of_ble_eq_true rfl) (Nat.le_of_ble_eq_true rfl) (Nat.le_of_ble_eq_true rfl) (Nat.le_of_ble_eq_true rfl) (fun v h' n' hq => ?_)
    obtain ⟨rfl, rfl, rfl⟩ := hq
    refine za_look (h1 := h) (v1 := [(142, mo_c (th, n0, b) (tr_fin ((r, k + 1, k, dn, vi, de, ct, 0, ou, ed)) 0 (r (aa k.toNatClampNeg).toNatClampNeg)) (q0, ln, ld, lc, fd, rs, cv)), (147, tr_g (r, k + 1, k, dn, vi, de, ct, 0, ou, ed))]) (mo_bk h _ _ _) ?_
    iterate 1 refine za_step X rfl rfl rfl ?_
    exact za_iret X rfl ⟨by rw [e1]; rfl, by rw [e1]; exact mo_ov h (th, n0, b) (tr_fin (r, k + 1, k, dn, vi, de, ct, 0, ou, ed) 0 (r (aa k.toNatClampNeg).toNatClampNeg)) (q0, ln, ld, lc, fd, rs, cv), rfl⟩ (Nat.le_refl _) (Nat.le_refl _)
  · have e1 : tr_ins (r, k + 1, k, dn, vi, de, ct, 0, ou, ed) (oo k.toNatClampNeg) (aa k.toNatClampNeg) (bb k.toNatClampNeg) (cc0 k.toNatClampNeg) = tr_reg (r, k + 1, k, dn, vi, de, ct, 0, ou, ed) (aa k.toNatClampNeg).toNatClampNeg (tr_com (oo k.toNatClampNeg) (r (bb k.toNatClampNeg).toNatClampNeg) (r (cc0 k.toNatClampNeg).toNatClampNeg)) := by
      rcases hop with z | z | z | z | z | z <;> rw [z] <;> rfl
    have e2 : mw_ed cc0 (oo k.toNatClampNeg) (r (bb k.toNatClampNeg).toNatClampNeg) (r (cc0 k.toNatClampNeg).toNatClampNeg) k = tr_com (oo k.toNatClampNeg) (r (bb k.toNatClampNeg).toNatClampNeg) (r (cc0 k.toNatClampNeg).toNatClampNeg) := if_neg (by rcases hop with z | z | z | z | z | z <;> rw [z] <;> decide)
    have h7 : oo k.toNatClampNeg < 7 := by rcases hop with z | z | z | z | z | z <;> rw [z] <;> decide
    have hop7 : oo k.toNatClampNeg = 1 ∨ oo k.toNatClampNeg = 2 ∨ oo k.toNatClampNeg = 3 ∨ oo k.toNatClampNeg = 4 ∨ oo k.toNatClampNeg = 5 ∨ oo k.toNatClampNeg = 6 ∨ oo k.toNatClampNeg = 7 := by rcases hop with z | z | z | z | z | z <;> simp [z]
    have at310 : za_W p l e (za_rm 1 0 0) s m args below meth c D 4 (MQ below (za_Q D (fun v h' n' => v = some (vI (mp_pc (tr_ins (r, k + 1, k, dn, vi, de, ct, 0, ou, ed) (oo k.toNatClampNeg) (aa k.toNatClampNeg) (bb k.toNatClampNeg) (cc0 k.toNatClampNeg)))) ∧ h' = mo_put h (th, n0, b) (tr_ins (r, k + 1, k, dn, vi, de, ct, 0, ou, ed) (oo k.toNatClampNeg) (aa k.toNatClampNeg) (bb k.toNatClampNeg) (cc0 k.toNatClampNeg)) (q0, ln, ld, lc, fd, rs, cv) ∧ n = n')) args s 0 0 (fun q : Nat => D.2.2 ≤ q)) h n 0 0 310 [(0, vR 142), (1, vI k), (2, vI (aa k.toNatClampNeg)), (3, vI (oo k.toNatClampNeg))] [] [(142, mo_c (th, n0, b) (r, k + 1, k, dn, vi, de, ct, 0, ou, ed) (q0, ln, ld, lc, fd, rs, cv)), (147, tr_g (r, k + 1, k, dn, vi, de, ct, 0, ou, ed))] := by
      iterate 10 refine za_step X rfl rfl rfl ?_
      refine za_iald X rfl hP4 rfl hin ?_
      refine za_iald X rfl rfl rfl (rg_in hb) ?_
      iterate 2 refine za_step X rfl rfl rfl ?_
      refine za_icge X 348 rfl (by decide) (fun q1 => absurd h7 (Int32.not_lt.mpr q1)) (fun q1 => ?_)
      iterate 5 refine za_step X rfl rfl rfl ?_
      refine za_iald X rfl hP5 rfl hin ?_
      refine za_iald X rfl rfl rfl (rg_in hx) ?_
      iterate 2 refine za_step X rfl rfl rfl ?_
      refine za_callV (b := 142) (d := 0) (mc := 0) (ms := 0) (as := [vI (oo k.toNatClampNeg), vI (r (bb k.toNatClampNeg).toNatClampNeg), vI (r (cc0 k.toNatClampNeg).toNatClampNeg), vI k]) (rest := [vI (aa k.toNatClampNeg), vR 147]) X rfl cl_M_M_worked cy_M_worked cv_M_worked (c_M_worked l D (za_ov h [(142, mo_c (th, n0, b) (r, k + 1, k, dn, vi, de, ct, 0, ou, ed) (q0, ln, ld, lc, fd, rs, cv)), (147, tr_g (r, k + 1, k, dn, vi, de, ct, 0, ou, ed))]) n (th, n0, b) (r, k + 1, k, dn, vi, de, ct, 0, ou, ed) (q0, ln, ld, lc, fd, rs, cv) rfl cc0 hP5 (oo k.toNatClampNeg) (r (bb k.toNatClampNeg).toNatClampNeg) (r (cc0 k.toNatClampNeg).toNatClampNeg) k hin hop7) rfl rfl rfl rfl (Nat.le_of_ble_eq_true rfl) (Nat.le_of_ble_eq_true rfl) (Nat.le_of_ble_eq_true rfl) (Nat.le_of_ble_eq_true rfl) (Nat.le_of_ble_eq_true rfl) (fun v h' n' hq => ?_)
      obtain ⟨rfl, rfl, rfl⟩ := hq
      rw [e2]
      refine za_look (h1 := h) (v1 := [(142, mo_c (th, n0, b) (r, k + 1, k, dn, vi, de, ct, 0, ou, ed) (q0, ln, ld, lc, fd, rs, cv)), (147, tr_g (r, k + 1, k, dn, vi, de, ct, 0, ou, ed))]) rfl ?_
      refine za_iast X rfl rfl rfl (rg_in ha) ?_
      iterate 3 refine za_step X rfl rfl rfl ?_
      exact za_iret X rfl ⟨by rw [e1]; rfl, by rw [e1]; exact mo_ov h (th, n0, b) (tr_reg (r, k + 1, k, dn, vi, de, ct, 0, ou, ed) (aa k.toNatClampNeg).toNatClampNeg (tr_com (oo k.toNatClampNeg) (r (bb k.toNatClampNeg).toNatClampNeg) (r (cc0 k.toNatClampNeg).toNatClampNeg))) (q0, ln, ld, lc, fd, rs, cv), rfl⟩ (Nat.le_refl _) (Nat.le_refl _)
    rcases hop with z | z | z | z | z | z
    · refine za_tsw X 1 310 rfl (by rw [z]; decide) (by decide) (by decide) rfl (by decide) (za_loc [(0, vR 142), (1, vI k), (2, vI (aa k.toNatClampNeg)), (3, vI (oo k.toNatClampNeg))] rfl at310)
    · refine za_tsw X 2 310 rfl (by rw [z]; decide) (by decide) (by decide) rfl (by decide) (za_loc [(0, vR 142), (1, vI k), (2, vI (aa k.toNatClampNeg)), (3, vI (oo k.toNatClampNeg))] rfl at310)
    · refine za_tsw X 3 310 rfl (by rw [z]; decide) (by decide) (by decide) rfl (by decide) (za_loc [(0, vR 142), (1, vI k), (2, vI (aa k.toNatClampNeg)), (3, vI (oo k.toNatClampNeg))] rfl at310)
    · refine za_tsw X 4 310 rfl (by rw [z]; decide) (by decide) (by decide) rfl (by decide) (za_loc [(0, vR 142), (1, vI k), (2, vI (aa k.toNatClampNeg)), (3, vI (oo k.toNatClampNeg))] rfl at310)
    · refine za_tsw X 5 310 rfl (by rw [z]; decide) (by decide) (by decide) rfl (by decide) (za_loc [(0, vR 142), (1, vI k), (2, vI (aa k.toNatClampNeg)), (3, vI (oo k.toNatClampNeg))] rfl at310)
    · refine za_tsw X 6 310 rfl (by rw [z]; decide) (by decide) (by decide) rfl (by decide) (za_loc [(0, vR 142), (1, vI k), (2, vI (aa k.toNatClampNeg)), (3, vI (oo k.toNatClampNeg))] rfl at310)
end
section
theorem ins_la (G : tr_T) (op a1 b1 c1 : Int32) : tr_la (tr_ins G op a1 b1 c1) = tr_la G := by
  obtain ⟨r, pl, la, dn, vi, de, ct, en, ou, ed⟩ := G
  unfold tr_ins tr_goif tr_div tr_clm
  repeat' split
  all_goals rfl
theorem lop_0 (P : pr_T) (k : Nat) (T : tr_T) (h : ¬ (tr_en T = 0 ∧ pr_has P (tr_pl T) = true)) : tr_lop P k T = T := by
  cases k with
  | zero => rfl
  | succ k => exact if_neg h
theorem has_nI {oo aa bb cc0 : Nat → Int32} {k j : Nat} (hk : k ≤ 24) (hj : j ≤ 24) : pr_has (oo, aa, bb, cc0, k) (nI j) = true ↔ j < k := by
  simp only [pr_has, Bool.and_eq_true, decide_eq_true_eq]
  constructor
  · intro z; exact (nI_ltI (by omega) (by omega)).mp z.2
  · intro z
    exact ⟨Int32.not_lt.mp (fun w => absurd ((nI_ltI (a := j) (b := 0) (by omega) (by omega)).mp w) (by omega)), (nI_ltI (by omega) (by omega)).mpr z⟩
set_option maxHeartbeats 4000000 in
set_option maxRecDepth 100000 in
theorem c_M_go (l : Launch) (D : za_D) (h : za_H) (n : Nat) (A : ma_T) (G : tr_T) (Z : mz_T) (hM : mo_at h A G Z) (P : pr_T) (hn : P.2.2.2.2 = A.2.1) (hP : mp_at h P) (hok : pr_ok P) (x y : Int32) : za_M l D Y_M_go 2 0 0 [vR 142, vI x, vI y] h n (fun v h' n' => v = none ∧ h' = mo_put h A (tr_run0 P x y) Z ∧ n = n') := by
  obtain ⟨th, n0, b⟩ := A
  obtain ⟨q0, ln, ld, lc, fd, rs, cv⟩ := Z
  obtain ⟨oo, aa, bb, cc0, k⟩ := P
  have hn' : k = n0 := hn
  subst hn'
  have hk24 : k ≤ 24 := hok.1
  refine za_enter cd_M_go fl_M (by decide) cdok_M_go flok_M (Nat.le_of_ble_eq_true rfl) ?_
  intro p e s m args below meth c X hnm
  have at108 : ∀ (j : Nat) (r : Nat → Int32) (la dn vi : Int32) (de : Int64) (ct ou ed : Int32), j ≤ 24 → tr_end (oo, aa, bb, cc0, k) (r, nI j, la, dn, vi, de, ct, 0, ou, ed) = tr_run0 (oo, aa, bb, cc0, k) x y → za_W p l e (za_rm 2 0 0) s m args below meth c D 5 (MQ below (za_Q D (fun v h' n' => v = none ∧ h' = mo_put h (th, k, b) (tr_run0 (oo, aa, bb, cc0, k) x y) (q0, ln, ld, lc, fd, rs, cv) ∧ n = n')) args s 0 0 (fun q : Nat => D.2.2 ≤ q)) h n 0 0 108 [(0, vR 142), (1, vI x), (2, vI y), (3, vI (nI j)), (4, vI la)] [] [(142, mo_c (th, k, b) (r, nI j, la, dn, vi, de, ct, 0, ou, ed) (q0, ln, ld, lc, fd, rs, cv)), (147, tr_g (r, nI j, la, dn, vi, de, ct, 0, ou, ed))] := by
    intro j r la dn vi de ct ou ed hj hR
    iterate 1 refine za_step X rfl rfl rfl ?_
    refine za_iflt X 148 rfl (by decide) (fun q1 => absurd ((nI_ltI (a := j) (b := 0) (by omega) (by omega)).mp q1) (by omega)) (fun q1 => ?_)
    iterate 4 refine za_step X rfl rfl rfl ?_
    refine za_icge X 125 rfl (by decide) (fun q2 => ?_) (fun q2 => ?_)
    · have hjk : k ≤ j := (nI_leI (by omega) (by omega)).mp q2
      have e1 : tr_end (oo, aa, bb, cc0, k) (r, nI j, la, dn, vi, de, ct, 0, ou, ed) = tr_fin (r, nI j, la, dn, vi, de, ct, 0, ou, ed) 0 (r 0) := by
        show (if (0 : Int32) = 0 then (if pr_has (oo, aa, bb, cc0, k) (nI j) = true then _ else _) else _) = _
        rw [if_pos rfl, if_neg (fun z => absurd ((has_nI hk24 hj).mp z) (by omega))]
      iterate 4 refine za_step X rfl rfl rfl ?_
      refine za_icge X 139 rfl (by decide) (fun q3 => ?_) (fun q3 => absurd q2 q3)
      iterate 3 refine za_step X rfl rfl rfl ?_
      refine za_iald X rfl rfl rfl (by unfold vp_in; decide) ?_
      refine za_callV (b := 142) (d := 0) (mc := 0) (ms := 0) (as := [vI 0, vI (r 0)]) (rest := []) X rfl cl_M_M_finish cy_M_finish cv_M_finish (c_M_finish l D (za_ov h [(142, mo_c (th, k, b) (r, nI j, la, dn, vi, de, ct, 0, ou, ed) (q0, ln, ld, lc, fd, rs, cv)), (147, tr_g (r, nI j, la, dn, vi, de, ct, 0, ou, ed))]) n (th, k, b) (r, nI j, la, dn, vi, de, ct, 0, ou, ed) (q0, ln, ld, lc, fd, rs, cv) rfl 0 (r 0)) rfl rfl rfl rfl (Nat.le_of_ble_eq_true rfl) (Nat.le_of_ble_eq_true rfl) (Nat.le_of_ble_eq_true rfl) (Nat.le_of_ble_eq_true rfl) (Nat.le_of_ble_eq_true rfl) (fun v h' n' hq => ?_)
      obtain ⟨rfl, rfl, rfl⟩ := hq
      refine za_look (h1 := h) (v1 := [(142, mo_c (th, k, b) (tr_fin (r, nI j, la, dn, vi, de, ct, 0, ou, ed) 0 (r 0)) (q0, ln, ld, lc, fd, rs, cv)), (147, tr_g (r, nI j, la, dn, vi, de, ct, 0, ou, ed))]) (mo_bk h _ _ _) ?_
      exact za_vret X rfl ⟨rfl, by rw [← hR, e1]; exact mo_ov h (th, k, b) (tr_fin (r, nI j, la, dn, vi, de, ct, 0, ou, ed) 0 (r 0)) (q0, ln, ld, lc, fd, rs, cv), rfl⟩ (Nat.le_refl _) (Nat.le_refl _)
    · have hjk : j < k := by
        rcases Nat.lt_or_ge j k with z | z
        · exact z
        · exact absurd ((nI_leI (by omega) (by omega)).mpr z) q2
      have e1 : tr_end (oo, aa, bb, cc0, k) (r, nI j, la, dn, vi, de, ct, 0, ou, ed) = tr_fin (r, nI j, la, dn, vi, de, ct, 0, ou, ed) 3 la := by
        show (if (0 : Int32) = 0 then (if pr_has (oo, aa, bb, cc0, k) (nI j) = true then _ else _) else _) = _
        rw [if_pos rfl, if_pos ((has_nI hk24 hj).mpr hjk)]
        rfl
      iterate 5 refine za_step X rfl rfl rfl ?_
      refine za_icge X 139 rfl (by decide) (fun q3 => absurd q3 q2) (fun q3 => ?_)
      iterate 2 refine za_step X rfl rfl rfl ?_
      refine za_callV (b := 142) (d := 0) (mc := 0) (ms := 0) (as := [vI 3, vI la]) (rest := []) X rfl cl_M_M_finish cy_M_finish cv_M_finish (c_M_finish l D (za_ov h [(142, mo_c (th, k, b) (r, nI j, la, dn, vi, de, ct, 0, ou, ed) (q0, ln, ld, lc, fd, rs, cv)), (147, tr_g (r, nI j, la, dn, vi, de, ct, 0, ou, ed))]) n (th, k, b) (r, nI j, la, dn, vi, de, ct, 0, ou, ed) (q0, ln, ld, lc, fd, rs, cv) rfl 3 la) rfl rfl rfl rfl (Nat.le_of_ble_eq_true rfl) (Nat.le_of_ble_eq_true rfl) (Nat.le_of_ble_eq_true rfl) (Nat.le_of_ble_eq_true rfl) (Nat.le_of_ble_eq_true rfl) (fun v h' n' hq => ?_)
      obtain ⟨rfl, rfl, rfl⟩ := hq
      refine za_look (h1 := h) (v1 := [(142, mo_c (th, k, b) (tr_fin (r, nI j, la, dn, vi, de, ct, 0, ou, ed) 3 la) (q0, ln, ld, lc, fd, rs, cv)), (147, tr_g (r, nI j, la, dn, vi, de, ct, 0, ou, ed))]) (mo_bk h _ _ _) ?_
      exact za_vret X rfl ⟨rfl, by rw [← hR, e1]; exact mo_ov h (th, k, b) (tr_fin (r, nI j, la, dn, vi, de, ct, 0, ou, ed) 3 la) (q0, ln, ld, lc, fd, rs, cv), rfl⟩ (Nat.le_refl _) (Nat.le_refl _)
  have loop : ∀ (f : Nat) (T : tr_T), f ≤ 40 → tr_dn T = nI (40 - f) → (∃ j, j ≤ 24 ∧ tr_pl T = nI j) → tr_end (oo, aa, bb, cc0, k) (tr_lop (oo, aa, bb, cc0, k) f T) = tr_run0 (oo, aa, bb, cc0, k) x y → za_W p l e (za_rm 2 0 0) s m args below meth c D 5 (MQ below (za_Q D (fun v h' n' => v = none ∧ h' = mo_put h (th, k, b) (tr_run0 (oo, aa, bb, cc0, k) x y) (q0, ln, ld, lc, fd, rs, cv) ∧ n = n')) args s 0 0 (fun q : Nat => D.2.2 ≤ q)) h n 0 0 53 [(0, vR 142), (1, vI x), (2, vI y), (3, vI (mp_pc T)), (4, vI (tr_la T))] [] [(142, mo_c (th, k, b) T (q0, ln, ld, lc, fd, rs, cv)), (147, tr_g T)] := by
    intro f
    induction f with
    | zero =>
      intro T hf hdn hpl hR
      obtain ⟨r, pl, la, dn, vi, de, ct, en, ou, ed⟩ := T
      obtain ⟨j, hj, hpj⟩ := hpl
      have hpj' : pl = nI j := hpj
      subst hpj'
      have hdn' : dn = nI 40 := hdn
      by_cases hen : en = 0
      · subst hen
        show za_W p l e (za_rm 2 0 0) s m args below meth c D 5 (MQ below (za_Q D (fun v h' n' => v = none ∧ h' = mo_put h (th, k, b) (tr_run0 (oo, aa, bb, cc0, k) x y) (q0, ln, ld, lc, fd, rs, cv) ∧ n = n')) args s 0 0 (fun q : Nat => D.2.2 ≤ q)) h n 0 0 53 [(0, vR 142), (1, vI x), (2, vI y), (3, vI (nI j)), (4, vI la)] [] [(142, mo_c (th, k, b) (r, nI j, la, dn, vi, de, ct, 0, ou, ed) (q0, ln, ld, lc, fd, rs, cv)), (147, tr_g (r, nI j, la, dn, vi, de, ct, 0, ou, ed))]
        iterate 1 refine za_step X rfl rfl rfl ?_
        refine za_iflt X 108 rfl (by decide) (fun q1 => absurd ((nI_ltI (a := j) (b := 0) (by omega) (by omega)).mp q1) (by omega)) (fun q1 => ?_)
        iterate 3 refine za_step X rfl rfl rfl ?_
        refine za_icge X 108 rfl (by decide) (fun q2 => at108 j r la dn vi de ct ou ed hj hR) (fun q2 => ?_)
        iterate 3 refine za_step X rfl rfl rfl ?_
        refine za_icge X 108 rfl (by decide) (fun q3 => at108 j r la dn vi de ct ou ed hj hR) (fun q3 => absurd (show (Int8.ofInt 40).toInt32 ≤ dn by rw [hdn']; decide) q3)
      · have e0 : mp_pc (r, nI j, la, dn, vi, de, ct, en, ou, ed) = -1 := if_neg hen
        rw [e0]
        iterate 1 refine za_step X rfl rfl rfl ?_
        refine za_iflt X 108 rfl (by decide) (fun q1 => ?_) (fun q1 => absurd (by decide) q1)
        iterate 1 refine za_step X rfl rfl rfl ?_
        refine za_iflt X 148 rfl (by decide) (fun q2 => ?_) (fun q2 => absurd (by decide) q2)
        exact za_vret X rfl ⟨rfl, by rw [← hR, show tr_end (oo, aa, bb, cc0, k) (tr_lop (oo, aa, bb, cc0, k) 0 (r, nI j, la, dn, vi, de, ct, en, ou, ed)) = (r, nI j, la, dn, vi, de, ct, en, ou, ed) from if_neg hen]; exact mo_ov h (th, k, b) _ (q0, ln, ld, lc, fd, rs, cv), rfl⟩ (Nat.le_refl _) (Nat.le_refl _)
    | succ f ih =>
      intro T hf hdn hpl hR
      obtain ⟨r, pl, la, dn, vi, de, ct, en, ou, ed⟩ := T
      obtain ⟨j, hj, hpj⟩ := hpl
      have hpj' : pl = nI j := hpj
      subst hpj'
      have hdn' : dn = nI (40 - (f + 1)) := hdn
      by_cases hen : en = 0
      · subst hen
        show za_W p l e (za_rm 2 0 0) s m args below meth c D 5 (MQ below (za_Q D (fun v h' n' => v = none ∧ h' = mo_put h (th, k, b) (tr_run0 (oo, aa, bb, cc0, k) x y) (q0, ln, ld, lc, fd, rs, cv) ∧ n = n')) args s 0 0 (fun q : Nat => D.2.2 ≤ q)) h n 0 0 53 [(0, vR 142), (1, vI x), (2, vI y), (3, vI (nI j)), (4, vI la)] [] [(142, mo_c (th, k, b) (r, nI j, la, dn, vi, de, ct, 0, ou, ed) (q0, ln, ld, lc, fd, rs, cv)), (147, tr_g (r, nI j, la, dn, vi, de, ct, 0, ou, ed))]
        iterate 1 refine za_step X rfl rfl rfl ?_
        refine za_iflt X 108 rfl (by decide) (fun q1 => absurd ((nI_ltI (a := j) (b := 0) (by omega) (by omega)).mp q1) (by omega)) (fun q1 => ?_)
        iterate 3 refine za_step X rfl rfl rfl ?_
        refine za_icge X 108 rfl (by decide) (fun q2 => ?_) (fun q2 => ?_)
        · have hjk : k ≤ j := (nI_leI (by omega) (by omega)).mp q2
          refine at108 j r la dn vi de ct ou ed hj ?_
          rw [← hR, lop_0 (oo, aa, bb, cc0, k) (f + 1) (r, nI j, la, dn, vi, de, ct, 0, ou, ed) (fun z => absurd ((has_nI hk24 hj).mp z.2) (by omega))]
        · have hjk : j < k := by
            rcases Nat.lt_or_ge j k with z | z
            · exact z
            · exact absurd ((nI_leI (by omega) (by omega)).mpr z) q2
          iterate 3 refine za_step X rfl rfl rfl ?_
          refine za_icge X 108 rfl (by decide) (fun q3 => ?_) (fun q3 => ?_)
          · rw [hdn', show (Int8.ofInt 40).toInt32 = nI 40 by decide] at q3
            exact absurd ((nI_leI (by omega) (by omega)).mp q3) (by omega)
          · iterate 18 refine za_step X rfl rfl rfl ?_
            have hci : (nI j).toNatClampNeg = j := nI_clamp (by omega)
            have hin : vp_in (nI j) 24 := vp_in_nI (by omega) (by decide)
            refine za_callV (b := 142) (d := 1) (mc := 0) (ms := 0) (as := [vI (nI j)]) (rest := []) X rfl cl_M_M_perform cy_M_perform cv_M_perform (c_M_perform l D (za_ov h [(142, mo_c (th, k, b) (tr_pre (r, nI j, la, dn, vi, de, ct, 0, ou, ed)) (q0, ln, ld, lc, fd, rs, cv)), (147, tr_g (tr_pre (r, nI j, la, dn, vi, de, ct, 0, ou, ed)))]) n (th, k, b) (q0, ln, ld, lc, fd, rs, cv) r (nI j) (dn + 1) (vi ||| ((1 : Int32) <<< (nI j &&& 31))) de ct ou ed ⟨rfl, rfl⟩ (oo, aa, bb, cc0, k) hP hok hin (by rw [hci]; exact hjk)) rfl rfl rfl rfl (Nat.le_of_ble_eq_true rfl) (Nat.le_of_ble_eq_true rfl) (Nat.le_of_ble_eq_true rfl) (Nat.le_of_ble_eq_true rfl) (Nat.le_of_ble_eq_true rfl) (fun v h' n' hq => ?_)
            obtain ⟨rfl, rfl, rfl⟩ := hq
            have hst : tr_ins (r, nI j + 1, nI j, dn + 1, vi ||| ((1 : Int32) <<< (nI j &&& 31)), de, ct, 0, ou, ed) (oo (nI j).toNatClampNeg) (aa (nI j).toNatClampNeg) (bb (nI j).toNatClampNeg) (cc0 (nI j).toNatClampNeg) = tr_stp (oo, aa, bb, cc0, k) (r, nI j, la, dn, vi, de, ct, 0, ou, ed) := rfl
            have hla : tr_la (tr_stp (oo, aa, bb, cc0, k) (r, nI j, la, dn, vi, de, ct, 0, ou, ed)) = nI j := by rw [← hst, ins_la]; rfl
            have hal := hok.2 j hjk
            refine za_look (h1 := h) (v1 := [(142, mo_c (th, k, b) (tr_stp (oo, aa, bb, cc0, k) (r, nI j, la, dn, vi, de, ct, 0, ou, ed)) (q0, ln, ld, lc, fd, rs, cv)), (147, tr_g (tr_stp (oo, aa, bb, cc0, k) (r, nI j, la, dn, vi, de, ct, 0, ou, ed)))]) (mo_bp h _ _ (th, k, b) (tr_stp (oo, aa, bb, cc0, k) (r, nI j, la, dn, vi, de, ct, 0, ou, ed)) (q0, ln, ld, lc, fd, rs, cv)) ?_
            iterate 2 refine za_step X rfl rfl rfl ?_
            refine za_loc [(0, vR 142), (1, vI x), (2, vI y), (3, vI (mp_pc (tr_stp (oo, aa, bb, cc0, k) (r, nI j, la, dn, vi, de, ct, 0, ou, ed)))), (4, vI (nI j))] rfl ?_
            have key := ih (tr_stp (oo, aa, bb, cc0, k) (r, nI j, la, dn, vi, de, ct, 0, ou, ed)) (by omega) (by
              rw [← hst, ins_dn]
              show dn + 1 = nI (40 - f)
              rw [hdn', nI_1, show 40 - (f + 1) + 1 = 40 - f by omega]) (by
              rw [← hst]
              refine ins_pl (by rw [hci]; exact hal) ⟨j + 1, by omega, ?_⟩
              exact nI_1 j) (by
              rw [← hR]
              show _ = tr_end (oo, aa, bb, cc0, k) (if (0 : Int32) = 0 ∧ pr_has (oo, aa, bb, cc0, k) (nI j) = true then tr_lop (oo, aa, bb, cc0, k) f (tr_stp (oo, aa, bb, cc0, k) (r, nI j, la, dn, vi, de, ct, 0, ou, ed)) else _)
              rw [if_pos ⟨rfl, (has_nI hk24 hj).mpr hjk⟩])
            rw [hla] at key
            exact key
      · have e0 : mp_pc (r, nI j, la, dn, vi, de, ct, en, ou, ed) = -1 := if_neg hen
        rw [e0]
        iterate 1 refine za_step X rfl rfl rfl ?_
        refine za_iflt X 108 rfl (by decide) (fun q1 => ?_) (fun q1 => absurd (by decide) q1)
        iterate 1 refine za_step X rfl rfl rfl ?_
        refine za_iflt X 148 rfl (by decide) (fun q2 => ?_) (fun q2 => absurd (by decide) q2)
        exact za_vret X rfl ⟨rfl, by rw [← hR, lop_0 (oo, aa, bb, cc0, k) (f + 1) (r, nI j, la, dn, vi, de, ct, en, ou, ed) (fun z => hen z.1), show tr_end (oo, aa, bb, cc0, k) (r, nI j, la, dn, vi, de, ct, en, ou, ed) = (r, nI j, la, dn, vi, de, ct, en, ou, ed) from if_neg hen]; exact mo_ov h (th, k, b) _ (q0, ln, ld, lc, fd, rs, cv), rfl⟩ (Nat.le_refl _) (Nat.le_refl _)
  obtain ⟨r, pl, la, dn, vi, de, ct, en, ou, ed⟩ := G
  refine za_view [(142, mo_c (th, k, b) (r, pl, la, dn, vi, de, ct, en, ou, ed) (q0, ln, ld, lc, fd, rs, cv)), (147, tr_g (r, pl, la, dn, vi, de, ct, en, ou, ed))] (by simp [hM.1, hM.2]) ?_
  iterate 4 refine za_step X rfl rfl rfl ?_
  refine za_iast X rfl rfl rfl (by unfold vp_in; decide) ?_
  iterate 4 refine za_step X rfl rfl rfl ?_
  refine za_iast X rfl rfl rfl (by unfold vp_in; decide) ?_
  iterate 4 refine za_step X rfl rfl rfl ?_
  refine za_iast X rfl rfl rfl (by unfold vp_in; decide) ?_
  iterate 4 refine za_step X rfl rfl rfl ?_
  refine za_iast X rfl rfl rfl (by unfold vp_in; decide) ?_
  refine za_ext (i := 147) (t0 := 0) (N := 4) (tr_cr x y) rfl (tr_cr_eq r x y) ?_
  iterate 16 refine za_step X rfl rfl rfl ?_
  refine za_loc [(0, vR 142), (1, vI x), (2, vI y), (3, vI 0), (4, vI 0)] rfl ?_
  exact loop 40 (tr_beg (r, pl, la, dn, vi, de, ct, en, ou, ed) x y) (Nat.le_refl _) rfl ⟨0, by omega, rfl⟩ (tr_run_eq (oo, aa, bb, cc0, k) (r, pl, la, dn, vi, de, ct, en, ou, ed) x y)
end
section
/-! THE MODEL'S STATE, held against the class's -/
/-- a way in the model's lists: decisions, length, least, outcome, number, which -/
abbrev mw_T : Type := Int64 × Int32 × Int32 × Int32 × Int32 × Int32
def mw_at (h : za_H) (f : Nat → mw_T) : Prop := h 148 = some (.inl (1, 65, .inr (.inl (fun i => (f i).1)))) ∧ h 149 = some (.inl (0, 65, .inl (fun i => (f i).2.1))) ∧ h 150 = some (.inl (0, 65, .inl (fun i => (f i).2.2.1))) ∧ h 151 = some (.inl (0, 65, .inl (fun i => (f i).2.2.2.1))) ∧ h 152 = some (.inl (0, 65, .inl (fun i => (f i).2.2.2.2.1))) ∧ h 153 = some (.inl (0, 65, .inl (fun i => (f i).2.2.2.2.2)))
def mr_at (h : za_H) (f : Nat → mw_T) : Prop := h 154 = some (.inl (1, 64, .inr (.inl (fun i => (f i).1)))) ∧ h 155 = some (.inl (0, 64, .inl (fun i => (f i).2.1))) ∧ h 156 = some (.inl (0, 64, .inl (fun i => (f i).2.2.1))) ∧ h 157 = some (.inl (0, 64, .inl (fun i => (f i).2.2.2.1))) ∧ h 158 = some (.inl (0, 64, .inl (fun i => (f i).2.2.2.2.1)))
def wr_le (q : wr_T) : Int32 := 16 * wr_x q + wr_y q
def mw_of (q : wr_T) : mw_T := (wr_de q, wr_ct q, wr_le q, wr_ou q, wr_ed q, wr_vi q)
def mr_eq (a : mw_T) (q : wr_T) : Prop := a.1 = wr_de q ∧ a.2.1 = wr_ct q ∧ a.2.2.1 = wr_le q ∧ a.2.2.2.1 = wr_ou q ∧ a.2.2.2.2.1 = wr_ed q
def wr_ok (q : wr_T) : Prop := (∃ a b : Nat, a < 16 ∧ b < 16 ∧ wr_x q = nI a ∧ wr_y q = nI b) ∧ ∃ c : Nat, c ≤ 40 ∧ wr_ct q = nI c
def ms_in (h : za_H) (P : pr_T) (S : rs_T) (G : tr_T) : Prop := h 147 = some (tr_g G) ∧ mp_at h P ∧ (∃ f, mw_at h f) ∧ (∃ r, mr_at h r ∧ ∀ i, i < S.1 → mr_eq (r i) (S.2 i)) ∧ (∀ i, i < S.1 → wr_ok (S.2 i)) ∧ S.1 ≤ 64
def ms_z (T : tr_T) (S : rs_T) (q : Int32) (fd : Nat) : mz_T := (q, tr_ed T, tr_dn T, tr_ct T, fd, S.1, rs_or S.2 S.1)
def ms_at (h : za_H) (th : Int32) : fs_T → Prop | (P, T, S, b, q) => pr_ok P ∧ 1 ≤ b ∧ b ≤ 4 ∧ ∃ G fd, h 142 = some (mo_c (th, P.2.2.2.2, b) G (ms_z T S q fd)) ∧ ms_in h P S G
def ms_fr (h h' : za_H) : Prop := ∀ j, j < 142 ∨ 159 ≤ j → h' j = h j
def ms_ps (h : za_H) (n : Nat) (R : Nat × Int32 × fs_T) (v : Option za_V) (h' : za_H) (n' : Nat) : Prop := v = some (vI R.2.1) ∧ ms_at h' (nI R.1) R.2.2 ∧ ms_fr h h' ∧ n = n'
theorem ms_off {h h' : za_H} {P : pr_T} {S : rs_T} {G : tr_T} (hi : ms_in h P S G) (e : ∀ j, 143 ≤ j → j ≤ 158 → h' j = h j) : ms_in h' P S G := by
  obtain ⟨o, a, b, c, k⟩ := P
  obtain ⟨h1, ⟨p1, p2, p3, p4⟩, ⟨f, f1, f2, f3, f4, f5, f6⟩, ⟨r, ⟨r1, r2, r3, r4, r5⟩, hr⟩, h5⟩ := hi
  refine ⟨?_, ⟨?_, ?_, ?_, ?_⟩, ⟨f, ?_, ?_, ?_, ?_, ?_, ?_⟩, ⟨r, ⟨?_, ?_, ?_, ?_, ?_⟩, hr⟩, h5⟩
  all_goals rw [e _ (by omega) (by omega)]
  all_goals assumption
theorem ms_set {h : za_H} {P : pr_T} {S : rs_T} {G : tr_T} (hi : ms_in h P S G) (cl : za_C) : ms_in (za_set h 142 cl) P S G := ms_off hi (fun j _ _ => za_set_ne (by omega))
theorem ms_fr1 (h : za_H) (cl : za_C) : ms_fr h (za_set h 142 cl) := fun j hj => za_set_ne (by omega)
theorem za_ov11 (h : za_H) (i : Nat) (a d : za_C) : za_ov (za_set (za_ov h [(i, a)]) i d) [] = za_set h i d := by
  rw [za_ov_nil, za_ov1, za_set_set]
theorem hm_has {rs : Nat} (hr : rs ≤ 64) (x : Int32) : mi_in x 0 (nI rs - 1) = rs_has rs x := by
  unfold mi_in rs_has
  congr 1
  refine decide_eq_decide.mpr ?_
  rw [Int32.le_iff_toInt_le, Int32.lt_iff_toInt_lt]
  have e1 : (nI rs).toInt = rs := nI_toInt (by omega)
  have e2 : (nI rs - 1).toInt = (rs : Int) - 1 := by
    rw [Int32.toInt_sub, e1]
    show Int.bmod ((rs : Int) - 1) (2 ^ 32) = _
    rw [Int.bmod_eq_of_le (by omega) (by omega)]
  omega
set_option maxHeartbeats 4000000 in
set_option maxRecDepth 100000 in
theorem c_M_instr (l : Launch) (D : za_D) (h : za_H) (n : Nat) (th : Int32) (σ : fs_T) (hσ : ms_at h th σ) (op a1 x1 y1 : Int32) : za_M l D Y_M_instr 3 0 0 [vR 142, vI op, vI a1, vI x1, vI y1] h n (ms_ps h n (sp_instr σ op a1 x1 y1)) := by
  obtain ⟨P, T, S, b, q⟩ := σ
  obtain ⟨hok, hb1, hb4, G, fd, hM, hin⟩ := hσ
  obtain ⟨oo, aa, bb, cc0, k⟩ := P
  obtain ⟨Tr, Tpl, Tla, Tdn, Tvi, Tde, Tct, Ten, Tou, Ted⟩ := T
  obtain ⟨r, pl, la, dn, vi, de, ct, en, ou, ed⟩ := G
  obtain ⟨sk, sf⟩ := S
  have hk24 : k ≤ 24 := hok.1
  refine za_enter cd_M_instr fl_M (by decide) cdok_M_instr flok_M (Nat.le_of_ble_eq_true rfl) ?_
  intro p e s m args below meth c X hnm
  refine za_view [(142, mo_c (th, k, b) (r, pl, la, dn, vi, de, ct, en, ou, ed) (q, Ted, Tdn, Tct, fd, sk, (rs_or sf sk)))] (by simp [show h 142 = some (mo_c (th, k, b) (r, pl, la, dn, vi, de, ct, en, ou, ed) (q, Ted, Tdn, Tct, fd, sk, (rs_or sf sk))) from hM]) ?_
  iterate 7 refine za_step X rfl rfl rfl ?_
  refine za_callS X rfl cl_M_M_fits cy_M_fits cs_M_fits (c_M_fits l D _ n op a1 x1 y1) rfl rfl (Nat.le_of_ble_eq_true rfl) (Nat.le_of_ble_eq_true rfl) (Nat.le_of_ble_eq_true rfl) (Nat.le_of_ble_eq_true rfl) (Nat.le_of_ble_eq_true rfl) (fun v h' n' hq => ?_)
  obtain ⟨rfl, rfl, rfl⟩ := hq
  rw [mi_fits_al]
  refine za_look (h1 := h) (v1 := [(142, mo_c (0, k, b) (r, pl, la, dn, vi, de, ct, en, ou, ed) (q, Ted, Tdn, Tct, fd, sk, (rs_or sf sk)))]) rfl ?_
  refine za_ifne X 22 rfl (by decide) (fun q1 => ?_) (fun q1 => ?_)
  · have hal := bI_n0 q1
    iterate 3 refine za_step X rfl rfl rfl ?_
    rw [show (Int8.ofInt 24).toInt32 = nI 24 by decide]
    refine za_icne X 37 rfl (by decide) (fun q2 => ?_) (fun q2 => ?_)
    · have hk : k ≠ 24 := fun z => q2 (by rw [z])
      have e1 : sp_instr ((oo, aa, bb, cc0, k), (Tr, Tpl, Tla, Tdn, Tvi, Tde, Tct, Ten, Tou, Ted), (sk, sf), b, q) op a1 x1 y1 = (0, nI (k + 1), (pr_add (oo, aa, bb, cc0, k) op a1 x1 y1, (Tr, Tpl, Tla, Tdn, Tvi, Tde, Tct, Ten, Tou, Ted), (sk, sf), b, q)) := by
        show (if _ then (if k = 24 then _ else _) else _) = _
        rw [if_pos hal, if_neg hk]
      rw [e1]
      obtain ⟨h147, ⟨p1, p2, p3, p4⟩, hw, hr, hx⟩ := hin
      have hin24 : vp_in (nI k) 24 := vp_in_nI (by omega) (by decide)
      have hcl : (nI k).toNatClampNeg = k := nI_clamp (by omega)
      refine za_look (h1 := h) (v1 := [(142, mo_c (0, k, b) (r, pl, la, dn, vi, de, ct, en, ou, ed) (q, Ted, Tdn, Tct, fd, sk, (rs_or sf sk))), (143, pr_g oo), (144, pr_g aa), (145, pr_g bb), (146, pr_g cc0)]) (za_ov_app (h := h) [(142, mo_c (0, k, b) (r, pl, la, dn, vi, de, ct, en, ou, ed) (q, Ted, Tdn, Tct, fd, sk, (rs_or sf sk)))] (w := [(143, pr_g oo), (144, pr_g aa), (145, pr_g bb), (146, pr_g cc0)]) (by simp [p1, p2, p3, p4])).symm ?_
      iterate 5 refine za_step X rfl rfl rfl ?_
      refine za_iast X rfl rfl rfl hin24 ?_
      iterate 5 refine za_step X rfl rfl rfl ?_
      refine za_iast X rfl rfl rfl hin24 ?_
      iterate 5 refine za_step X rfl rfl rfl ?_
      refine za_iast X rfl rfl rfl hin24 ?_
      iterate 5 refine za_step X rfl rfl rfl ?_
      refine za_iast X rfl rfl rfl hin24 ?_
      iterate 5 refine za_step X rfl rfl rfl ?_
      rw [show nI k + Int32.ofInt 1 = nI (k + 1) from nI_1 k, hcl]
      iterate 3 refine za_step X rfl rfl rfl ?_
      refine za_iret X rfl ⟨rfl, ?_, ?_, rfl⟩ (Nat.le_refl _) (Nat.le_refl _)
      · refine ⟨⟨by show k + 1 ≤ 24; omega, fun i hi => ?_⟩, hb1, hb4, (r, pl, la, dn, vi, de, ct, en, ou, ed), fd, rfl, h147, ⟨rfl, rfl, rfl, rfl⟩, hw, hr, hx⟩
        by_cases e : i = k
        · subst e
          simp only [upd, if_true]
          exact hal
        · simp only [upd, if_neg e]
          exact hok.2 i (by have : i < k + 1 := hi; omega)
      · intro j hj
        refine za_ov_off (v := [(142, _), (143, _), (144, _), (145, _), (146, _)]) ?_
        intro q hq
        simp only [List.mem_cons, List.not_mem_nil, or_false] at hq
        rcases hq with rfl | rfl | rfl | rfl | rfl <;> (show _ ≠ j; omega)
    · have hk : k = 24 := (nI_eq (by omega) (by omega)).mp q2
      have e1 : sp_instr ((oo, aa, bb, cc0, k), (Tr, Tpl, Tla, Tdn, Tvi, Tde, Tct, Ten, Tou, Ted), (sk, sf), b, q) op a1 x1 y1 = (2, 0, ((oo, aa, bb, cc0, k), (Tr, Tpl, Tla, Tdn, Tvi, Tde, Tct, Ten, Tou, Ted), (sk, sf), b, q)) := by
        show (if _ then (if k = 24 then _ else _) else _) = _
        rw [if_pos hal, if_pos hk]
      rw [e1]
      iterate 2 refine za_step X rfl rfl rfl ?_
      refine za_callV (b := 142) (d := 0) (mc := 0) (ms := 0) (as := [vI 2]) (rest := []) X rfl cl_M_M_raise cy_M_raise cv_M_raise (c_M_raise l D (za_ov h [(142, mo_c (0, k, b) (r, pl, la, dn, vi, de, ct, en, ou, ed) (q, Ted, Tdn, Tct, fd, sk, (rs_or sf sk)))]) n (0, k, b) (r, pl, la, dn, vi, de, ct, en, ou, ed) (q, Ted, Tdn, Tct, fd, sk, (rs_or sf sk)) rfl 2) rfl rfl rfl rfl (Nat.le_of_ble_eq_true rfl) (Nat.le_of_ble_eq_true rfl) (Nat.le_of_ble_eq_true rfl) (Nat.le_of_ble_eq_true rfl) (Nat.le_of_ble_eq_true rfl) (fun v h' n' hq => ?_)
      obtain ⟨rfl, rfl, rfl⟩ := hq
      refine za_iret X rfl ⟨rfl, ?_, ?_, rfl⟩ (Nat.le_refl _) (Nat.le_refl _)
      · show ms_at (za_ov (za_set (za_ov h [(142, mo_c (0, k, b) (r, pl, la, dn, vi, de, ct, en, ou, ed) (q, Ted, Tdn, Tct, fd, sk, (rs_or sf sk)))]) 142 (mo_c (2, k, b) (r, pl, la, dn, vi, de, ct, en, ou, ed) (q, Ted, Tdn, Tct, fd, sk, (rs_or sf sk)))) []) 2 ((oo, aa, bb, cc0, k), (Tr, Tpl, Tla, Tdn, Tvi, Tde, Tct, Ten, Tou, Ted), (sk, sf), b, q)
        rw [za_ov11]
        exact ⟨hok, hb1, hb4, (r, pl, la, dn, vi, de, ct, en, ou, ed), fd, za_set_eq _ _ _, ms_set hin _⟩
      · show ms_fr h (za_ov (za_set (za_ov h [(142, mo_c (0, k, b) (r, pl, la, dn, vi, de, ct, en, ou, ed) (q, Ted, Tdn, Tct, fd, sk, (rs_or sf sk)))]) 142 (mo_c (2, k, b) (r, pl, la, dn, vi, de, ct, en, ou, ed) (q, Ted, Tdn, Tct, fd, sk, (rs_or sf sk)))) [])
        rw [za_ov11]
        exact ms_fr1 h _
  · have e1 : sp_instr ((oo, aa, bb, cc0, k), (Tr, Tpl, Tla, Tdn, Tvi, Tde, Tct, Ten, Tou, Ted), (sk, sf), b, q) op a1 x1 y1 = (1, 0, ((oo, aa, bb, cc0, k), (Tr, Tpl, Tla, Tdn, Tvi, Tde, Tct, Ten, Tou, Ted), (sk, sf), b, q)) := if_neg (by rw [bI_0 q1]; decide)
    rw [e1]
    iterate 2 refine za_step X rfl rfl rfl ?_
    refine za_callV (b := 142) (d := 0) (mc := 0) (ms := 0) (as := [vI 1]) (rest := []) X rfl cl_M_M_raise cy_M_raise cv_M_raise (c_M_raise l D (za_ov h [(142, mo_c (0, k, b) (r, pl, la, dn, vi, de, ct, en, ou, ed) (q, Ted, Tdn, Tct, fd, sk, (rs_or sf sk)))]) n (0, k, b) (r, pl, la, dn, vi, de, ct, en, ou, ed) (q, Ted, Tdn, Tct, fd, sk, (rs_or sf sk)) rfl 1) rfl rfl rfl rfl (Nat.le_of_ble_eq_true rfl) (Nat.le_of_ble_eq_true rfl) (Nat.le_of_ble_eq_true rfl) (Nat.le_of_ble_eq_true rfl) (Nat.le_of_ble_eq_true rfl) (fun v h' n' hq => ?_)
    obtain ⟨rfl, rfl, rfl⟩ := hq
    refine za_iret X rfl ⟨rfl, ?_, ?_, rfl⟩ (Nat.le_refl _) (Nat.le_refl _)
    · show ms_at (za_ov (za_set (za_ov h [(142, mo_c (0, k, b) (r, pl, la, dn, vi, de, ct, en, ou, ed) (q, Ted, Tdn, Tct, fd, sk, (rs_or sf sk)))]) 142 (mo_c (1, k, b) (r, pl, la, dn, vi, de, ct, en, ou, ed) (q, Ted, Tdn, Tct, fd, sk, (rs_or sf sk)))) []) 1 ((oo, aa, bb, cc0, k), (Tr, Tpl, Tla, Tdn, Tvi, Tde, Tct, Ten, Tou, Ted), (sk, sf), b, q)
      rw [za_ov11]
      exact ⟨hok, hb1, hb4, (r, pl, la, dn, vi, de, ct, en, ou, ed), fd, za_set_eq _ _ _, ms_set hin _⟩
    · show ms_fr h (za_ov (za_set (za_ov h [(142, mo_c (0, k, b) (r, pl, la, dn, vi, de, ct, en, ou, ed) (q, Ted, Tdn, Tct, fd, sk, (rs_or sf sk)))]) 142 (mo_c (1, k, b) (r, pl, la, dn, vi, de, ct, en, ou, ed) (q, Ted, Tdn, Tct, fd, sk, (rs_or sf sk)))) [])
      rw [za_ov11]
      exact ms_fr1 h _
set_option maxHeartbeats 4000000 in
set_option maxRecDepth 100000 in
theorem c_M_undo (l : Launch) (D : za_D) (h : za_H) (n : Nat) (th : Int32) (σ : fs_T) (hσ : ms_at h th σ)  : za_M l D Y_M_undo 3 0 0 [vR 142] h n (ms_ps h n (sp_undo σ)) := by
  obtain ⟨P, T, S, b, q⟩ := σ
  obtain ⟨hok, hb1, hb4, G, fd, hM, hin⟩ := hσ
  obtain ⟨oo, aa, bb, cc0, k⟩ := P
  obtain ⟨Tr, Tpl, Tla, Tdn, Tvi, Tde, Tct, Ten, Tou, Ted⟩ := T
  obtain ⟨r, pl, la, dn, vi, de, ct, en, ou, ed⟩ := G
  obtain ⟨sk, sf⟩ := S
  have hk24 : k ≤ 24 := hok.1
  refine za_enter cd_M_undo fl_M (by decide) cdok_M_undo flok_M (Nat.le_of_ble_eq_true rfl) ?_
  intro p e s m args below meth c X hnm
  refine za_view [(142, mo_c (th, k, b) (r, pl, la, dn, vi, de, ct, en, ou, ed) (q, Ted, Tdn, Tct, fd, sk, (rs_or sf sk)))] (by simp [show h 142 = some (mo_c (th, k, b) (r, pl, la, dn, vi, de, ct, en, ou, ed) (q, Ted, Tdn, Tct, fd, sk, (rs_or sf sk))) from hM]) ?_
  iterate 5 refine za_step X rfl rfl rfl ?_
  refine za_ifne X 18 rfl (by decide) (fun q1 => ?_) (fun q1 => ?_)
  · have hk : k ≠ 0 := fun z => q1 (by rw [z]; rfl)
    have e1 : sp_undo ((oo, aa, bb, cc0, k), (Tr, Tpl, Tla, Tdn, Tvi, Tde, Tct, Ten, Tou, Ted), (sk, sf), b, q) = (0, nI (k - 1), ((oo, aa, bb, cc0, k - 1), (Tr, Tpl, Tla, Tdn, Tvi, Tde, Tct, Ten, Tou, Ted), (sk, sf), b, q)) := if_neg hk
    rw [e1]
    iterate 5 refine za_step X rfl rfl rfl ?_
    rw [show nI k - Int32.ofInt 1 = nI (k - 1) from by have := nI_pred (k - 1); rw [show k - 1 + 1 = k by omega] at this; exact this]
    iterate 3 refine za_step X rfl rfl rfl ?_
    refine za_iret X rfl ⟨rfl, ?_, ?_, rfl⟩ (Nat.le_refl _) (Nat.le_refl _)
    · show ms_at (za_ov h [(142, mo_c (0, (k - 1), b) (r, pl, la, dn, vi, de, ct, en, ou, ed) (q, Ted, Tdn, Tct, fd, sk, (rs_or sf sk)))]) 0 ((oo, aa, bb, cc0, k - 1), (Tr, Tpl, Tla, Tdn, Tvi, Tde, Tct, Ten, Tou, Ted), (sk, sf), b, q)
      rw [za_ov1]
      exact ⟨⟨by show k - 1 ≤ 24; omega, fun i hi => hok.2 i (by have : i < k - 1 := hi; omega)⟩, hb1, hb4, (r, pl, la, dn, vi, de, ct, en, ou, ed), fd, za_set_eq _ _ _, ms_set hin _⟩
    · show ms_fr h (za_ov h [(142, mo_c (0, (k - 1), b) (r, pl, la, dn, vi, de, ct, en, ou, ed) (q, Ted, Tdn, Tct, fd, sk, (rs_or sf sk)))])
      rw [za_ov1]
      exact ms_fr1 h _
  · have hk : k = 0 := (nI_eq (by omega) (by omega)).mp (q1.trans rfl)
    have e1 : sp_undo ((oo, aa, bb, cc0, k), (Tr, Tpl, Tla, Tdn, Tvi, Tde, Tct, Ten, Tou, Ted), (sk, sf), b, q) = (1, 0, ((oo, aa, bb, cc0, k), (Tr, Tpl, Tla, Tdn, Tvi, Tde, Tct, Ten, Tou, Ted), (sk, sf), b, q)) := if_pos hk
    rw [e1]
    iterate 2 refine za_step X rfl rfl rfl ?_
    refine za_callV (b := 142) (d := 0) (mc := 0) (ms := 0) (as := [vI 1]) (rest := []) X rfl cl_M_M_raise cy_M_raise cv_M_raise (c_M_raise l D (za_ov h [(142, mo_c (0, k, b) (r, pl, la, dn, vi, de, ct, en, ou, ed) (q, Ted, Tdn, Tct, fd, sk, (rs_or sf sk)))]) n (0, k, b) (r, pl, la, dn, vi, de, ct, en, ou, ed) (q, Ted, Tdn, Tct, fd, sk, (rs_or sf sk)) rfl 1) rfl rfl rfl rfl (Nat.le_of_ble_eq_true rfl) (Nat.le_of_ble_eq_true rfl) (Nat.le_of_ble_eq_true rfl) (Nat.le_of_ble_eq_true rfl) (Nat.le_of_ble_eq_true rfl) (fun v h' n' hq => ?_)
    obtain ⟨rfl, rfl, rfl⟩ := hq
    refine za_iret X rfl ⟨rfl, ?_, ?_, rfl⟩ (Nat.le_refl _) (Nat.le_refl _)
    · show ms_at (za_ov (za_set (za_ov h [(142, mo_c (0, k, b) (r, pl, la, dn, vi, de, ct, en, ou, ed) (q, Ted, Tdn, Tct, fd, sk, (rs_or sf sk)))]) 142 (mo_c (1, k, b) (r, pl, la, dn, vi, de, ct, en, ou, ed) (q, Ted, Tdn, Tct, fd, sk, (rs_or sf sk)))) []) 1 ((oo, aa, bb, cc0, k), (Tr, Tpl, Tla, Tdn, Tvi, Tde, Tct, Ten, Tou, Ted), (sk, sf), b, q)
      rw [za_ov11]
      exact ⟨hok, hb1, hb4, (r, pl, la, dn, vi, de, ct, en, ou, ed), fd, za_set_eq _ _ _, ms_set hin _⟩
    · show ms_fr h (za_ov (za_set (za_ov h [(142, mo_c (0, k, b) (r, pl, la, dn, vi, de, ct, en, ou, ed) (q, Ted, Tdn, Tct, fd, sk, (rs_or sf sk)))]) 142 (mo_c (1, k, b) (r, pl, la, dn, vi, de, ct, en, ou, ed) (q, Ted, Tdn, Tct, fd, sk, (rs_or sf sk)))) [])
      rw [za_ov11]
      exact ms_fr1 h _
set_option maxHeartbeats 4000000 in
set_option maxRecDepth 100000 in
theorem c_M_width (l : Launch) (D : za_D) (h : za_H) (n : Nat) (th : Int32) (σ : fs_T) (hσ : ms_at h th σ) (x : Int32) : za_M l D Y_M_width 3 0 0 [vR 142, vI x] h n (ms_ps h n (sp_width σ x)) := by
  obtain ⟨P, T, S, b, q⟩ := σ
  obtain ⟨hok, hb1, hb4, G, fd, hM, hin⟩ := hσ
  obtain ⟨oo, aa, bb, cc0, k⟩ := P
  obtain ⟨Tr, Tpl, Tla, Tdn, Tvi, Tde, Tct, Ten, Tou, Ted⟩ := T
  obtain ⟨r, pl, la, dn, vi, de, ct, en, ou, ed⟩ := G
  obtain ⟨sk, sf⟩ := S
  refine za_enter cd_M_width fl_M (by decide) cdok_M_width flok_M (Nat.le_of_ble_eq_true rfl) ?_
  intro p e s m args below meth c X hnm
  refine za_view [(142, mo_c (th, k, b) (r, pl, la, dn, vi, de, ct, en, ou, ed) (q, Ted, Tdn, Tct, fd, sk, (rs_or sf sk)))] (by simp [show h 142 = some (mo_c (th, k, b) (r, pl, la, dn, vi, de, ct, en, ou, ed) (q, Ted, Tdn, Tct, fd, sk, (rs_or sf sk))) from hM]) ?_
  iterate 6 refine za_step X rfl rfl rfl ?_
  refine za_callS X rfl cl_M_M_in cy_M_in cs_M_in (c_M_in l D _ n x 1 4) rfl rfl (Nat.le_of_ble_eq_true rfl) (Nat.le_of_ble_eq_true rfl) (Nat.le_of_ble_eq_true rfl) (Nat.le_of_ble_eq_true rfl) (Nat.le_of_ble_eq_true rfl) (fun v h' n' hq => ?_)
  obtain ⟨rfl, rfl, rfl⟩ := hq
  refine za_look (h1 := h) (v1 := [(142, mo_c (0, k, b) (r, pl, la, dn, vi, de, ct, en, ou, ed) (q, Ted, Tdn, Tct, fd, sk, (rs_or sf sk)))]) rfl ?_
  refine za_ifne X 20 rfl (by decide) (fun q1 => ?_) (fun q1 => ?_)
  · have hin2 : mi_in x 1 4 = true := bI_n0 q1
    have hx : 1 ≤ x ∧ x ≤ 4 := by simpa [mi_in] using hin2
    have e1 : sp_width ((oo, aa, bb, cc0, k), (Tr, Tpl, Tla, Tdn, Tvi, Tde, Tct, Ten, Tou, Ted), (sk, sf), b, q) x = (0, nI b, ((oo, aa, bb, cc0, k), (Tr, Tpl, Tla, Tdn, Tvi, Tde, Tct, Ten, Tou, Ted), (sk, sf), x.toNatClampNeg, q)) := if_pos hx
    rw [e1]
    have t1 : 1 ≤ x.toInt := Int32.le_iff_toInt_le.mp hx.1
    have t4 : x.toInt ≤ 4 := Int32.le_iff_toInt_le.mp hx.2
    have hc : x.toNatClampNeg = x.toInt.toNat := rfl
    have hxn : x = nI x.toNatClampNeg := by
      refine Int32.toInt_inj.mp ?_
      rw [nI_toInt (by omega)]
      omega
    generalize x.toNatClampNeg = w at *
    subst hxn
    iterate 7 refine za_step X rfl rfl rfl ?_
    refine za_iret X rfl ⟨rfl, ?_, ?_, rfl⟩ (Nat.le_refl _) (Nat.le_refl _)
    · show ms_at (za_ov h [(142, mo_c (0, k, w) (r, pl, la, dn, vi, de, ct, en, ou, ed) (q, Ted, Tdn, Tct, fd, sk, (rs_or sf sk)))]) 0 ((oo, aa, bb, cc0, k), (Tr, Tpl, Tla, Tdn, Tvi, Tde, Tct, Ten, Tou, Ted), (sk, sf), w, q)
      rw [za_ov1]
      exact ⟨hok, by omega, by omega, (r, pl, la, dn, vi, de, ct, en, ou, ed), fd, za_set_eq _ _ _, ms_set hin _⟩
    · show ms_fr h (za_ov h [(142, mo_c (0, k, w) (r, pl, la, dn, vi, de, ct, en, ou, ed) (q, Ted, Tdn, Tct, fd, sk, (rs_or sf sk)))])
      rw [za_ov1]
      exact ms_fr1 h _
  · have hin2 : mi_in x 1 4 = false := bI_0 q1
    have e1 : sp_width ((oo, aa, bb, cc0, k), (Tr, Tpl, Tla, Tdn, Tvi, Tde, Tct, Ten, Tou, Ted), (sk, sf), b, q) x = (1, 0, ((oo, aa, bb, cc0, k), (Tr, Tpl, Tla, Tdn, Tvi, Tde, Tct, Ten, Tou, Ted), (sk, sf), b, q)) := if_neg (by intro z; simp [mi_in, z.1, z.2] at hin2)
    rw [e1]
    iterate 2 refine za_step X rfl rfl rfl ?_
    refine za_callV (b := 142) (d := 0) (mc := 0) (ms := 0) (as := [vI 1]) (rest := []) X rfl cl_M_M_raise cy_M_raise cv_M_raise (c_M_raise l D (za_ov h [(142, mo_c (0, k, b) (r, pl, la, dn, vi, de, ct, en, ou, ed) (q, Ted, Tdn, Tct, fd, sk, (rs_or sf sk)))]) n (0, k, b) (r, pl, la, dn, vi, de, ct, en, ou, ed) (q, Ted, Tdn, Tct, fd, sk, (rs_or sf sk)) rfl 1) rfl rfl rfl rfl (Nat.le_of_ble_eq_true rfl) (Nat.le_of_ble_eq_true rfl) (Nat.le_of_ble_eq_true rfl) (Nat.le_of_ble_eq_true rfl) (Nat.le_of_ble_eq_true rfl) (fun v h' n' hq => ?_)
    obtain ⟨rfl, rfl, rfl⟩ := hq
    refine za_iret X rfl ⟨rfl, ?_, ?_, rfl⟩ (Nat.le_refl _) (Nat.le_refl _)
    · show ms_at (za_ov (za_set (za_ov h [(142, mo_c (0, k, b) (r, pl, la, dn, vi, de, ct, en, ou, ed) (q, Ted, Tdn, Tct, fd, sk, (rs_or sf sk)))]) 142 (mo_c (1, k, b) (r, pl, la, dn, vi, de, ct, en, ou, ed) (q, Ted, Tdn, Tct, fd, sk, (rs_or sf sk)))) []) 1 ((oo, aa, bb, cc0, k), (Tr, Tpl, Tla, Tdn, Tvi, Tde, Tct, Ten, Tou, Ted), (sk, sf), b, q)
      rw [za_ov11]
      exact ⟨hok, hb1, hb4, (r, pl, la, dn, vi, de, ct, en, ou, ed), fd, za_set_eq _ _ _, ms_set hin _⟩
    · show ms_fr h (za_ov (za_set (za_ov h [(142, mo_c (0, k, b) (r, pl, la, dn, vi, de, ct, en, ou, ed) (q, Ted, Tdn, Tct, fd, sk, (rs_or sf sk)))]) 142 (mo_c (1, k, b) (r, pl, la, dn, vi, de, ct, en, ou, ed) (q, Ted, Tdn, Tct, fd, sk, (rs_or sf sk)))) [])
      rw [za_ov11]
      exact ms_fr1 h _
set_option maxHeartbeats 4000000 in
set_option maxRecDepth 100000 in
theorem c_M_run (l : Launch) (D : za_D) (h : za_H) (n : Nat) (th : Int32) (σ : fs_T) (hσ : ms_at h th σ) (x y : Int32) : za_M l D Y_M_run 3 0 0 [vR 142, vI x, vI y] h n (ms_ps h n (sp_run σ x y)) := by
  obtain ⟨P, T, S, b, q⟩ := σ
  obtain ⟨hok, hb1, hb4, G, fd, hM, hin⟩ := hσ
  obtain ⟨oo, aa, bb, cc0, k⟩ := P
  obtain ⟨Tr, Tpl, Tla, Tdn, Tvi, Tde, Tct, Ten, Tou, Ted⟩ := T
  obtain ⟨r, pl, la, dn, vi, de, ct, en, ou, ed⟩ := G
  obtain ⟨sk, sf⟩ := S
  refine za_enter cd_M_run fl_M (by decide) cdok_M_run flok_M (Nat.le_of_ble_eq_true rfl) ?_
  intro p e s m args below meth c X hnm
  refine za_view [(142, mo_c (th, k, b) (r, pl, la, dn, vi, de, ct, en, ou, ed) (q, Ted, Tdn, Tct, fd, sk, (rs_or sf sk)))] (by simp [show h 142 = some (mo_c (th, k, b) (r, pl, la, dn, vi, de, ct, en, ou, ed) (q, Ted, Tdn, Tct, fd, sk, (rs_or sf sk))) from hM]) ?_
  iterate 5 refine za_step X rfl rfl rfl ?_
  refine za_callV (b := 142) (d := 1) (mc := 0) (ms := 0) (as := [vI x]) (rest := []) X rfl cl_M_M_isInput cy_M_isInput cv_M_isInput (c_M_isInput l D (za_ov h [(142, mo_c (0, k, b) (r, pl, la, dn, vi, de, ct, en, ou, ed) (q, Ted, Tdn, Tct, fd, sk, (rs_or sf sk)))]) n (0, k, b) (r, pl, la, dn, vi, de, ct, en, ou, ed) (q, Ted, Tdn, Tct, fd, sk, (rs_or sf sk)) rfl x) rfl rfl rfl rfl (Nat.le_of_ble_eq_true rfl) (Nat.le_of_ble_eq_true rfl) (Nat.le_of_ble_eq_true rfl) (Nat.le_of_ble_eq_true rfl) (Nat.le_of_ble_eq_true rfl) (fun v h' n' hq => ?_)
  obtain ⟨rfl, rfl, rfl⟩ := hq
  refine za_look (h1 := h) (v1 := [(142, mo_c (0, k, b) (r, pl, la, dn, vi, de, ct, en, ou, ed) (q, Ted, Tdn, Tct, fd, sk, (rs_or sf sk)))]) rfl ?_
  refine za_ifeq X 21 rfl (by decide) (fun q1 => ?_) (fun q1 => ?_)
  · have e1 : sp_run ((oo, aa, bb, cc0, k), (Tr, Tpl, Tla, Tdn, Tvi, Tde, Tct, Ten, Tou, Ted), (sk, sf), b, q) x y = (1, 0, ((oo, aa, bb, cc0, k), (Tr, Tpl, Tla, Tdn, Tvi, Tde, Tct, Ten, Tou, Ted), (sk, sf), b, q)) := if_neg (by unfold in_ok; rw [show pr_up (in_lg b) x = false from bI_0 q1]; simp)
    rw [e1]
    iterate 2 refine za_step X rfl rfl rfl ?_
    refine za_callV (b := 142) (d := 0) (mc := 0) (ms := 0) (as := [vI 1]) (rest := []) X rfl cl_M_M_raise cy_M_raise cv_M_raise (c_M_raise l D (za_ov h [(142, mo_c (0, k, b) (r, pl, la, dn, vi, de, ct, en, ou, ed) (q, Ted, Tdn, Tct, fd, sk, (rs_or sf sk)))]) n (0, k, b) (r, pl, la, dn, vi, de, ct, en, ou, ed) (q, Ted, Tdn, Tct, fd, sk, (rs_or sf sk)) rfl 1) rfl rfl rfl rfl (Nat.le_of_ble_eq_true rfl) (Nat.le_of_ble_eq_true rfl) (Nat.le_of_ble_eq_true rfl) (Nat.le_of_ble_eq_true rfl) (Nat.le_of_ble_eq_true rfl) (fun v h' n' hq => ?_)
    obtain ⟨rfl, rfl, rfl⟩ := hq
    refine za_iret X rfl ⟨rfl, ?_, ?_, rfl⟩ (Nat.le_refl _) (Nat.le_refl _)
    · show ms_at (za_ov (za_set (za_ov h [(142, mo_c (0, k, b) (r, pl, la, dn, vi, de, ct, en, ou, ed) (q, Ted, Tdn, Tct, fd, sk, (rs_or sf sk)))]) 142 (mo_c (1, k, b) (r, pl, la, dn, vi, de, ct, en, ou, ed) (q, Ted, Tdn, Tct, fd, sk, (rs_or sf sk)))) []) 1 ((oo, aa, bb, cc0, k), (Tr, Tpl, Tla, Tdn, Tvi, Tde, Tct, Ten, Tou, Ted), (sk, sf), b, q)
      rw [za_ov11]
      exact ⟨hok, hb1, hb4, (r, pl, la, dn, vi, de, ct, en, ou, ed), fd, za_set_eq _ _ _, ms_set hin _⟩
    · show ms_fr h (za_ov (za_set (za_ov h [(142, mo_c (0, k, b) (r, pl, la, dn, vi, de, ct, en, ou, ed) (q, Ted, Tdn, Tct, fd, sk, (rs_or sf sk)))]) 142 (mo_c (1, k, b) (r, pl, la, dn, vi, de, ct, en, ou, ed) (q, Ted, Tdn, Tct, fd, sk, (rs_or sf sk)))) [])
      rw [za_ov11]
      exact ms_fr1 h _
  · iterate 2 refine za_step X rfl rfl rfl ?_
    refine za_callV (b := 142) (d := 1) (mc := 0) (ms := 0) (as := [vI y]) (rest := []) X rfl cl_M_M_isInput cy_M_isInput cv_M_isInput (c_M_isInput l D (za_ov h [(142, mo_c (0, k, b) (r, pl, la, dn, vi, de, ct, en, ou, ed) (q, Ted, Tdn, Tct, fd, sk, (rs_or sf sk)))]) n (0, k, b) (r, pl, la, dn, vi, de, ct, en, ou, ed) (q, Ted, Tdn, Tct, fd, sk, (rs_or sf sk)) rfl y) rfl rfl rfl rfl (Nat.le_of_ble_eq_true rfl) (Nat.le_of_ble_eq_true rfl) (Nat.le_of_ble_eq_true rfl) (Nat.le_of_ble_eq_true rfl) (Nat.le_of_ble_eq_true rfl) (fun v h' n' hq => ?_)
    obtain ⟨rfl, rfl, rfl⟩ := hq
    refine za_look (h1 := h) (v1 := [(142, mo_c (0, k, b) (r, pl, la, dn, vi, de, ct, en, ou, ed) (q, Ted, Tdn, Tct, fd, sk, (rs_or sf sk)))]) rfl ?_
    refine za_ifne X 27 rfl (by decide) (fun q2 => ?_) (fun q2 => ?_)
    · have e1 : sp_run ((oo, aa, bb, cc0, k), (Tr, Tpl, Tla, Tdn, Tvi, Tde, Tct, Ten, Tou, Ted), (sk, sf), b, q) x y = (0, tr_ou (tr_run0 (oo, aa, bb, cc0, k) x y), ((oo, aa, bb, cc0, k), tr_run0 (oo, aa, bb, cc0, k) x y, (sk, sf), b, q + 1)) := if_pos (by unfold in_ok; rw [show pr_up (in_lg b) x = true from bI_n0 q1, show pr_up (in_lg b) y = true from bI_n0 q2]; rfl)
      rw [e1]
      iterate 3 refine za_step X rfl rfl rfl ?_
      refine za_callV (b := 142) (d := 2) (mc := 0) (ms := 0) (as := [vI x, vI y]) (rest := []) X rfl cl_M_M_go cy_M_go cv_M_go (c_M_go l D (za_ov h [(142, mo_c (0, k, b) (r, pl, la, dn, vi, de, ct, en, ou, ed) (q, Ted, Tdn, Tct, fd, sk, (rs_or sf sk)))]) n (0, k, b) (r, pl, la, dn, vi, de, ct, en, ou, ed) (q, Ted, Tdn, Tct, fd, sk, (rs_or sf sk)) ⟨rfl, hin.1⟩ (oo, aa, bb, cc0, k) rfl hin.2.1 hok x y) rfl rfl rfl rfl (Nat.le_of_ble_eq_true rfl) (Nat.le_of_ble_eq_true rfl) (Nat.le_of_ble_eq_true rfl) (Nat.le_of_ble_eq_true rfl) (Nat.le_of_ble_eq_true rfl) (fun v h' n' hq => ?_)
      obtain ⟨rfl, rfl, rfl⟩ := hq
      have hin2 : ms_in (mo_put (za_ov h [(142, mo_c (0, k, b) (r, pl, la, dn, vi, de, ct, en, ou, ed) (q, Ted, Tdn, Tct, fd, sk, (rs_or sf sk)))]) (0, k, b) (tr_run0 (oo, aa, bb, cc0, k) x y) (q, Ted, Tdn, Tct, fd, sk, (rs_or sf sk))) (oo, aa, bb, cc0, k) (sk, sf) (tr_run0 (oo, aa, bb, cc0, k) x y) := by
        obtain ⟨h147, hp, hw, hr, hx⟩ := hin
        exact ⟨(mo_put_at _ _ _ _).2, hp, hw, hr, hx⟩
      have hfr : ms_fr h (mo_put (za_ov h [(142, mo_c (0, k, b) (r, pl, la, dn, vi, de, ct, en, ou, ed) (q, Ted, Tdn, Tct, fd, sk, (rs_or sf sk)))]) (0, k, b) (tr_run0 (oo, aa, bb, cc0, k) x y) (q, Ted, Tdn, Tct, fd, sk, (rs_or sf sk))) := by
        intro j hj
        rw [mo_put_ne (by omega) (by omega), za_ov1, za_set_ne (by omega)]
      have hc := (mo_put_at (za_ov h [(142, mo_c (0, k, b) (r, pl, la, dn, vi, de, ct, en, ou, ed) (q, Ted, Tdn, Tct, fd, sk, (rs_or sf sk)))]) (0, k, b) (tr_run0 (oo, aa, bb, cc0, k) x y) (q, Ted, Tdn, Tct, fd, sk, (rs_or sf sk))).1
      generalize mo_put (za_ov h [(142, mo_c (0, k, b) (r, pl, la, dn, vi, de, ct, en, ou, ed) (q, Ted, Tdn, Tct, fd, sk, (rs_or sf sk)))]) (0, k, b) (tr_run0 (oo, aa, bb, cc0, k) x y) (q, Ted, Tdn, Tct, fd, sk, (rs_or sf sk)) = h2 at *
      generalize tr_run0 (oo, aa, bb, cc0, k) x y = T2 at *
      obtain ⟨r2, pl2, la2, dn2, vi2, de2, ct2, en2, ou2, ed2⟩ := T2
      refine za_view [(142, mo_c (0, k, b) (r2, pl2, la2, dn2, vi2, de2, ct2, en2, ou2, ed2) (q, Ted, Tdn, Tct, fd, sk, (rs_or sf sk)))] (by simp [hc]) ?_
      iterate 20 refine za_step X rfl rfl rfl ?_
      refine za_iret X rfl ⟨rfl, ?_, ?_, rfl⟩ (Nat.le_refl _) (Nat.le_refl _)
      · show ms_at (za_ov h2 [(142, mo_c (0, k, b) (r2, pl2, la2, dn2, vi2, de2, ct2, en2, ou2, ed2) ((q + 1), ed2, dn2, ct2, fd, sk, (rs_or sf sk)))]) 0 ((oo, aa, bb, cc0, k), (r2, pl2, la2, dn2, vi2, de2, ct2, en2, ou2, ed2), (sk, sf), b, q + 1)
        rw [za_ov1]
        exact ⟨hok, hb1, hb4, _, fd, za_set_eq _ _ _, ms_set hin2 _⟩
      · show ms_fr h (za_ov h2 [(142, mo_c (0, k, b) (r2, pl2, la2, dn2, vi2, de2, ct2, en2, ou2, ed2) ((q + 1), ed2, dn2, ct2, fd, sk, (rs_or sf sk)))])
        rw [za_ov1]
        exact fun j hj => (ms_fr1 h2 _ j hj).trans (hfr j hj)
    · have e1 : sp_run ((oo, aa, bb, cc0, k), (Tr, Tpl, Tla, Tdn, Tvi, Tde, Tct, Ten, Tou, Ted), (sk, sf), b, q) x y = (1, 0, ((oo, aa, bb, cc0, k), (Tr, Tpl, Tla, Tdn, Tvi, Tde, Tct, Ten, Tou, Ted), (sk, sf), b, q)) := if_neg (by unfold in_ok; rw [show pr_up (in_lg b) y = false from bI_0 q2]; simp)
      rw [e1]
      iterate 2 refine za_step X rfl rfl rfl ?_
      refine za_callV (b := 142) (d := 0) (mc := 0) (ms := 0) (as := [vI 1]) (rest := []) X rfl cl_M_M_raise cy_M_raise cv_M_raise (c_M_raise l D (za_ov h [(142, mo_c (0, k, b) (r, pl, la, dn, vi, de, ct, en, ou, ed) (q, Ted, Tdn, Tct, fd, sk, (rs_or sf sk)))]) n (0, k, b) (r, pl, la, dn, vi, de, ct, en, ou, ed) (q, Ted, Tdn, Tct, fd, sk, (rs_or sf sk)) rfl 1) rfl rfl rfl rfl (Nat.le_of_ble_eq_true rfl) (Nat.le_of_ble_eq_true rfl) (Nat.le_of_ble_eq_true rfl) (Nat.le_of_ble_eq_true rfl) (Nat.le_of_ble_eq_true rfl) (fun v h' n' hq => ?_)
      obtain ⟨rfl, rfl, rfl⟩ := hq
      refine za_iret X rfl ⟨rfl, ?_, ?_, rfl⟩ (Nat.le_refl _) (Nat.le_refl _)
      · show ms_at (za_ov (za_set (za_ov h [(142, mo_c (0, k, b) (r, pl, la, dn, vi, de, ct, en, ou, ed) (q, Ted, Tdn, Tct, fd, sk, (rs_or sf sk)))]) 142 (mo_c (1, k, b) (r, pl, la, dn, vi, de, ct, en, ou, ed) (q, Ted, Tdn, Tct, fd, sk, (rs_or sf sk)))) []) 1 ((oo, aa, bb, cc0, k), (Tr, Tpl, Tla, Tdn, Tvi, Tde, Tct, Ten, Tou, Ted), (sk, sf), b, q)
        rw [za_ov11]
        exact ⟨hok, hb1, hb4, (r, pl, la, dn, vi, de, ct, en, ou, ed), fd, za_set_eq _ _ _, ms_set hin _⟩
      · show ms_fr h (za_ov (za_set (za_ov h [(142, mo_c (0, k, b) (r, pl, la, dn, vi, de, ct, en, ou, ed) (q, Ted, Tdn, Tct, fd, sk, (rs_or sf sk)))]) 142 (mo_c (1, k, b) (r, pl, la, dn, vi, de, ct, en, ou, ed) (q, Ted, Tdn, Tct, fd, sk, (rs_or sf sk)))) [])
        rw [za_ov11]
        exact ms_fr1 h _
set_option maxHeartbeats 4000000 in
set_option maxRecDepth 100000 in
theorem c_M_last (l : Launch) (D : za_D) (h : za_H) (n : Nat) (th : Int32) (σ : fs_T) (hσ : ms_at h th σ) (x : Int32) : za_M l D Y_M_last 3 0 0 [vR 142, vI x] h n (ms_ps h n (sp_last σ x)) := by
  obtain ⟨P, T, S, b, q⟩ := σ
  obtain ⟨hok, hb1, hb4, G, fd, hM, hin⟩ := hσ
  obtain ⟨oo, aa, bb, cc0, k⟩ := P
  obtain ⟨Tr, Tpl, Tla, Tdn, Tvi, Tde, Tct, Ten, Tou, Ted⟩ := T
  obtain ⟨r, pl, la, dn, vi, de, ct, en, ou, ed⟩ := G
  obtain ⟨sk, sf⟩ := S
  refine za_enter cd_M_last fl_M (by decide) cdok_M_last flok_M (Nat.le_of_ble_eq_true rfl) ?_
  intro p e s m args below meth c X hnm
  refine za_view [(142, mo_c (th, k, b) (r, pl, la, dn, vi, de, ct, en, ou, ed) (q, Ted, Tdn, Tct, fd, sk, (rs_or sf sk)))] (by simp [show h 142 = some (mo_c (th, k, b) (r, pl, la, dn, vi, de, ct, en, ou, ed) (q, Ted, Tdn, Tct, fd, sk, (rs_or sf sk))) from hM]) ?_
  iterate 5 refine za_step X rfl rfl rfl ?_
  refine za_ifne X 18 rfl (by decide) (fun q1 => ?_) (fun q1 => ?_)
  · iterate 1 refine za_step X rfl rfl rfl ?_
    by_cases x0 : x = 0
    · subst x0
      have e1 : sp_last ((oo, aa, bb, cc0, k), (Tr, Tpl, Tla, Tdn, Tvi, Tde, Tct, Ten, Tou, Ted), (sk, sf), b, q) 0 = (0, Ted, ((oo, aa, bb, cc0, k), (Tr, Tpl, Tla, Tdn, Tvi, Tde, Tct, Ten, Tou, Ted), (sk, sf), b, q)) := by simp [sp_last, q1, tr_ed, tr_dn, tr_ct]
      rw [e1]
      refine za_tsw X 0 44 rfl (by decide) (by decide) (by decide) rfl (by decide) ?_
      iterate 2 refine za_step X rfl rfl rfl ?_
      refine za_iret X rfl ⟨rfl, ?_, ?_, rfl⟩ (Nat.le_refl _) (Nat.le_refl _)
      · show ms_at (za_ov h [(142, mo_c (0, k, b) (r, pl, la, dn, vi, de, ct, en, ou, ed) (q, Ted, Tdn, Tct, fd, sk, (rs_or sf sk)))]) 0 ((oo, aa, bb, cc0, k), (Tr, Tpl, Tla, Tdn, Tvi, Tde, Tct, Ten, Tou, Ted), (sk, sf), b, q)
        rw [za_ov1]
        exact ⟨hok, hb1, hb4, (r, pl, la, dn, vi, de, ct, en, ou, ed), fd, za_set_eq _ _ _, ms_set hin _⟩
      · show ms_fr h (za_ov h [(142, mo_c (0, k, b) (r, pl, la, dn, vi, de, ct, en, ou, ed) (q, Ted, Tdn, Tct, fd, sk, (rs_or sf sk)))])
        rw [za_ov1]
        exact ms_fr1 h _
    by_cases x1 : x = 1
    · subst x1
      have e1 : sp_last ((oo, aa, bb, cc0, k), (Tr, Tpl, Tla, Tdn, Tvi, Tde, Tct, Ten, Tou, Ted), (sk, sf), b, q) 1 = (0, Tdn, ((oo, aa, bb, cc0, k), (Tr, Tpl, Tla, Tdn, Tvi, Tde, Tct, Ten, Tou, Ted), (sk, sf), b, q)) := by simp [sp_last, q1, tr_ed, tr_dn, tr_ct]
      rw [e1]
      refine za_tsw X 1 49 rfl (by decide) (by decide) (by decide) rfl (by decide) ?_
      iterate 2 refine za_step X rfl rfl rfl ?_
      refine za_iret X rfl ⟨rfl, ?_, ?_, rfl⟩ (Nat.le_refl _) (Nat.le_refl _)
      · show ms_at (za_ov h [(142, mo_c (0, k, b) (r, pl, la, dn, vi, de, ct, en, ou, ed) (q, Ted, Tdn, Tct, fd, sk, (rs_or sf sk)))]) 0 ((oo, aa, bb, cc0, k), (Tr, Tpl, Tla, Tdn, Tvi, Tde, Tct, Ten, Tou, Ted), (sk, sf), b, q)
        rw [za_ov1]
        exact ⟨hok, hb1, hb4, (r, pl, la, dn, vi, de, ct, en, ou, ed), fd, za_set_eq _ _ _, ms_set hin _⟩
      · show ms_fr h (za_ov h [(142, mo_c (0, k, b) (r, pl, la, dn, vi, de, ct, en, ou, ed) (q, Ted, Tdn, Tct, fd, sk, (rs_or sf sk)))])
        rw [za_ov1]
        exact ms_fr1 h _
    by_cases x2 : x = 2
    · subst x2
      have e1 : sp_last ((oo, aa, bb, cc0, k), (Tr, Tpl, Tla, Tdn, Tvi, Tde, Tct, Ten, Tou, Ted), (sk, sf), b, q) 2 = (0, Tct, ((oo, aa, bb, cc0, k), (Tr, Tpl, Tla, Tdn, Tvi, Tde, Tct, Ten, Tou, Ted), (sk, sf), b, q)) := by simp [sp_last, q1, tr_ed, tr_dn, tr_ct]
      rw [e1]
      refine za_tsw X 2 54 rfl (by decide) (by decide) (by decide) rfl (by decide) ?_
      iterate 2 refine za_step X rfl rfl rfl ?_
      refine za_iret X rfl ⟨rfl, ?_, ?_, rfl⟩ (Nat.le_refl _) (Nat.le_refl _)
      · show ms_at (za_ov h [(142, mo_c (0, k, b) (r, pl, la, dn, vi, de, ct, en, ou, ed) (q, Ted, Tdn, Tct, fd, sk, (rs_or sf sk)))]) 0 ((oo, aa, bb, cc0, k), (Tr, Tpl, Tla, Tdn, Tvi, Tde, Tct, Ten, Tou, Ted), (sk, sf), b, q)
        rw [za_ov1]
        exact ⟨hok, hb1, hb4, (r, pl, la, dn, vi, de, ct, en, ou, ed), fd, za_set_eq _ _ _, ms_set hin _⟩
      · show ms_fr h (za_ov h [(142, mo_c (0, k, b) (r, pl, la, dn, vi, de, ct, en, ou, ed) (q, Ted, Tdn, Tct, fd, sk, (rs_or sf sk)))])
        rw [za_ov1]
        exact ms_fr1 h _
    
    have e1 : sp_last ((oo, aa, bb, cc0, k), (Tr, Tpl, Tla, Tdn, Tvi, Tde, Tct, Ten, Tou, Ted), (sk, sf), b, q) x = (2, 0, ((oo, aa, bb, cc0, k), (Tr, Tpl, Tla, Tdn, Tvi, Tde, Tct, Ten, Tou, Ted), (sk, sf), b, q)) := by simp [sp_last, q1, x0, x1, x2]
    refine za_tsd X 59 rfl (ts_o (hi := 2) (fun i h1 h2 => by rcases (show i = 0 ∨ i = 1 ∨ i = 2 by omega) with rfl | rfl | rfl <;> first | exact x0 | exact x1 | exact x2)) (by decide) ?_
    rw [e1]
    iterate 2 refine za_step X rfl rfl rfl ?_
    refine za_callV (b := 142) (d := 0) (mc := 0) (ms := 0) (as := [vI 2]) (rest := []) X rfl cl_M_M_raise cy_M_raise cv_M_raise (c_M_raise l D (za_ov h [(142, mo_c (0, k, b) (r, pl, la, dn, vi, de, ct, en, ou, ed) (q, Ted, Tdn, Tct, fd, sk, (rs_or sf sk)))]) n (0, k, b) (r, pl, la, dn, vi, de, ct, en, ou, ed) (q, Ted, Tdn, Tct, fd, sk, (rs_or sf sk)) rfl 2) rfl rfl rfl rfl (Nat.le_of_ble_eq_true rfl) (Nat.le_of_ble_eq_true rfl) (Nat.le_of_ble_eq_true rfl) (Nat.le_of_ble_eq_true rfl) (Nat.le_of_ble_eq_true rfl) (fun v h' n' hq => ?_)
    obtain ⟨rfl, rfl, rfl⟩ := hq
    refine za_iret X rfl ⟨rfl, ?_, ?_, rfl⟩ (Nat.le_refl _) (Nat.le_refl _)
    · show ms_at (za_ov (za_set (za_ov h [(142, mo_c (0, k, b) (r, pl, la, dn, vi, de, ct, en, ou, ed) (q, Ted, Tdn, Tct, fd, sk, (rs_or sf sk)))]) 142 (mo_c (2, k, b) (r, pl, la, dn, vi, de, ct, en, ou, ed) (q, Ted, Tdn, Tct, fd, sk, (rs_or sf sk)))) []) 2 ((oo, aa, bb, cc0, k), (Tr, Tpl, Tla, Tdn, Tvi, Tde, Tct, Ten, Tou, Ted), (sk, sf), b, q)
      rw [za_ov11]
      exact ⟨hok, hb1, hb4, (r, pl, la, dn, vi, de, ct, en, ou, ed), fd, za_set_eq _ _ _, ms_set hin _⟩
    · show ms_fr h (za_ov (za_set (za_ov h [(142, mo_c (0, k, b) (r, pl, la, dn, vi, de, ct, en, ou, ed) (q, Ted, Tdn, Tct, fd, sk, (rs_or sf sk)))]) 142 (mo_c (2, k, b) (r, pl, la, dn, vi, de, ct, en, ou, ed) (q, Ted, Tdn, Tct, fd, sk, (rs_or sf sk)))) [])
      rw [za_ov11]
      exact ms_fr1 h _
  · have e1 : sp_last ((oo, aa, bb, cc0, k), (Tr, Tpl, Tla, Tdn, Tvi, Tde, Tct, Ten, Tou, Ted), (sk, sf), b, q) x = (1, 0, ((oo, aa, bb, cc0, k), (Tr, Tpl, Tla, Tdn, Tvi, Tde, Tct, Ten, Tou, Ted), (sk, sf), b, q)) := if_pos q1
    rw [e1]
    iterate 2 refine za_step X rfl rfl rfl ?_
    refine za_callV (b := 142) (d := 0) (mc := 0) (ms := 0) (as := [vI 1]) (rest := []) X rfl cl_M_M_raise cy_M_raise cv_M_raise (c_M_raise l D (za_ov h [(142, mo_c (0, k, b) (r, pl, la, dn, vi, de, ct, en, ou, ed) (q, Ted, Tdn, Tct, fd, sk, (rs_or sf sk)))]) n (0, k, b) (r, pl, la, dn, vi, de, ct, en, ou, ed) (q, Ted, Tdn, Tct, fd, sk, (rs_or sf sk)) rfl 1) rfl rfl rfl rfl (Nat.le_of_ble_eq_true rfl) (Nat.le_of_ble_eq_true rfl) (Nat.le_of_ble_eq_true rfl) (Nat.le_of_ble_eq_true rfl) (Nat.le_of_ble_eq_true rfl) (fun v h' n' hq => ?_)
    obtain ⟨rfl, rfl, rfl⟩ := hq
    refine za_iret X rfl ⟨rfl, ?_, ?_, rfl⟩ (Nat.le_refl _) (Nat.le_refl _)
    · show ms_at (za_ov (za_set (za_ov h [(142, mo_c (0, k, b) (r, pl, la, dn, vi, de, ct, en, ou, ed) (q, Ted, Tdn, Tct, fd, sk, (rs_or sf sk)))]) 142 (mo_c (1, k, b) (r, pl, la, dn, vi, de, ct, en, ou, ed) (q, Ted, Tdn, Tct, fd, sk, (rs_or sf sk)))) []) 1 ((oo, aa, bb, cc0, k), (Tr, Tpl, Tla, Tdn, Tvi, Tde, Tct, Ten, Tou, Ted), (sk, sf), b, q)
      rw [za_ov11]
      exact ⟨hok, hb1, hb4, (r, pl, la, dn, vi, de, ct, en, ou, ed), fd, za_set_eq _ _ _, ms_set hin _⟩
    · show ms_fr h (za_ov (za_set (za_ov h [(142, mo_c (0, k, b) (r, pl, la, dn, vi, de, ct, en, ou, ed) (q, Ted, Tdn, Tct, fd, sk, (rs_or sf sk)))]) 142 (mo_c (1, k, b) (r, pl, la, dn, vi, de, ct, en, ou, ed) (q, Ted, Tdn, Tct, fd, sk, (rs_or sf sk)))) [])
      rw [za_ov11]
      exact ms_fr1 h _
set_option maxHeartbeats 4000000 in
set_option maxRecDepth 100000 in
theorem c_M_count (l : Launch) (D : za_D) (h : za_H) (n : Nat) (th : Int32) (σ : fs_T) (hσ : ms_at h th σ) (x : Int32) : za_M l D Y_M_count 3 0 0 [vR 142, vI x] h n (ms_ps h n (sp_count σ x)) := by
  obtain ⟨P, T, S, b, q⟩ := σ
  obtain ⟨hok, hb1, hb4, G, fd, hM, hin⟩ := hσ
  obtain ⟨oo, aa, bb, cc0, k⟩ := P
  obtain ⟨Tr, Tpl, Tla, Tdn, Tvi, Tde, Tct, Ten, Tou, Ted⟩ := T
  obtain ⟨r, pl, la, dn, vi, de, ct, en, ou, ed⟩ := G
  obtain ⟨sk, sf⟩ := S
  refine za_enter cd_M_count fl_M (by decide) cdok_M_count flok_M (Nat.le_of_ble_eq_true rfl) ?_
  intro p e s m args below meth c X hnm
  refine za_view [(142, mo_c (th, k, b) (r, pl, la, dn, vi, de, ct, en, ou, ed) (q, Ted, Tdn, Tct, fd, sk, (rs_or sf sk)))] (by simp [show h 142 = some (mo_c (th, k, b) (r, pl, la, dn, vi, de, ct, en, ou, ed) (q, Ted, Tdn, Tct, fd, sk, (rs_or sf sk))) from hM]) ?_
  iterate 4 refine za_step X rfl rfl rfl ?_
  by_cases x0 : x = 0
  · subst x0
    have e1 : sp_count ((oo, aa, bb, cc0, k), (Tr, Tpl, Tla, Tdn, Tvi, Tde, Tct, Ten, Tou, Ted), (sk, sf), b, q) 0 = (0, nI k, ((oo, aa, bb, cc0, k), (Tr, Tpl, Tla, Tdn, Tvi, Tde, Tct, Ten, Tou, Ted), (sk, sf), b, q)) := by simp [sp_count]
    rw [e1]
    refine za_tsw X 0 36 rfl (by decide) (by decide) (by decide) rfl (by decide) ?_
    iterate 2 refine za_step X rfl rfl rfl ?_
    refine za_iret X rfl ⟨rfl, ?_, ?_, rfl⟩ (Nat.le_refl _) (Nat.le_refl _)
    · show ms_at (za_ov h [(142, mo_c (0, k, b) (r, pl, la, dn, vi, de, ct, en, ou, ed) (q, Ted, Tdn, Tct, fd, sk, (rs_or sf sk)))]) 0 ((oo, aa, bb, cc0, k), (Tr, Tpl, Tla, Tdn, Tvi, Tde, Tct, Ten, Tou, Ted), (sk, sf), b, q)
      rw [za_ov1]
      exact ⟨hok, hb1, hb4, (r, pl, la, dn, vi, de, ct, en, ou, ed), fd, za_set_eq _ _ _, ms_set hin _⟩
    · show ms_fr h (za_ov h [(142, mo_c (0, k, b) (r, pl, la, dn, vi, de, ct, en, ou, ed) (q, Ted, Tdn, Tct, fd, sk, (rs_or sf sk)))])
      rw [za_ov1]
      exact ms_fr1 h _
  by_cases x1 : x = 1
  · subst x1
    have e1 : sp_count ((oo, aa, bb, cc0, k), (Tr, Tpl, Tla, Tdn, Tvi, Tde, Tct, Ten, Tou, Ted), (sk, sf), b, q) 1 = (0, nI b, ((oo, aa, bb, cc0, k), (Tr, Tpl, Tla, Tdn, Tvi, Tde, Tct, Ten, Tou, Ted), (sk, sf), b, q)) := by simp [sp_count]
    rw [e1]
    refine za_tsw X 1 41 rfl (by decide) (by decide) (by decide) rfl (by decide) ?_
    iterate 2 refine za_step X rfl rfl rfl ?_
    refine za_iret X rfl ⟨rfl, ?_, ?_, rfl⟩ (Nat.le_refl _) (Nat.le_refl _)
    · show ms_at (za_ov h [(142, mo_c (0, k, b) (r, pl, la, dn, vi, de, ct, en, ou, ed) (q, Ted, Tdn, Tct, fd, sk, (rs_or sf sk)))]) 0 ((oo, aa, bb, cc0, k), (Tr, Tpl, Tla, Tdn, Tvi, Tde, Tct, Ten, Tou, Ted), (sk, sf), b, q)
      rw [za_ov1]
      exact ⟨hok, hb1, hb4, (r, pl, la, dn, vi, de, ct, en, ou, ed), fd, za_set_eq _ _ _, ms_set hin _⟩
    · show ms_fr h (za_ov h [(142, mo_c (0, k, b) (r, pl, la, dn, vi, de, ct, en, ou, ed) (q, Ted, Tdn, Tct, fd, sk, (rs_or sf sk)))])
      rw [za_ov1]
      exact ms_fr1 h _
  by_cases x2 : x = 2
  · subst x2
    have e1 : sp_count ((oo, aa, bb, cc0, k), (Tr, Tpl, Tla, Tdn, Tvi, Tde, Tct, Ten, Tou, Ted), (sk, sf), b, q) 2 = (0, nI sk, ((oo, aa, bb, cc0, k), (Tr, Tpl, Tla, Tdn, Tvi, Tde, Tct, Ten, Tou, Ted), (sk, sf), b, q)) := by simp [sp_count]
    rw [e1]
    refine za_tsw X 2 46 rfl (by decide) (by decide) (by decide) rfl (by decide) ?_
    iterate 2 refine za_step X rfl rfl rfl ?_
    refine za_iret X rfl ⟨rfl, ?_, ?_, rfl⟩ (Nat.le_refl _) (Nat.le_refl _)
    · show ms_at (za_ov h [(142, mo_c (0, k, b) (r, pl, la, dn, vi, de, ct, en, ou, ed) (q, Ted, Tdn, Tct, fd, sk, (rs_or sf sk)))]) 0 ((oo, aa, bb, cc0, k), (Tr, Tpl, Tla, Tdn, Tvi, Tde, Tct, Ten, Tou, Ted), (sk, sf), b, q)
      rw [za_ov1]
      exact ⟨hok, hb1, hb4, (r, pl, la, dn, vi, de, ct, en, ou, ed), fd, za_set_eq _ _ _, ms_set hin _⟩
    · show ms_fr h (za_ov h [(142, mo_c (0, k, b) (r, pl, la, dn, vi, de, ct, en, ou, ed) (q, Ted, Tdn, Tct, fd, sk, (rs_or sf sk)))])
      rw [za_ov1]
      exact ms_fr1 h _
  by_cases x3 : x = 3
  · subst x3
    have e1 : sp_count ((oo, aa, bb, cc0, k), (Tr, Tpl, Tla, Tdn, Tvi, Tde, Tct, Ten, Tou, Ted), (sk, sf), b, q) 3 = (0, q, ((oo, aa, bb, cc0, k), (Tr, Tpl, Tla, Tdn, Tvi, Tde, Tct, Ten, Tou, Ted), (sk, sf), b, q)) := by simp [sp_count]
    rw [e1]
    refine za_tsw X 3 51 rfl (by decide) (by decide) (by decide) rfl (by decide) ?_
    iterate 2 refine za_step X rfl rfl rfl ?_
    refine za_iret X rfl ⟨rfl, ?_, ?_, rfl⟩ (Nat.le_refl _) (Nat.le_refl _)
    · show ms_at (za_ov h [(142, mo_c (0, k, b) (r, pl, la, dn, vi, de, ct, en, ou, ed) (q, Ted, Tdn, Tct, fd, sk, (rs_or sf sk)))]) 0 ((oo, aa, bb, cc0, k), (Tr, Tpl, Tla, Tdn, Tvi, Tde, Tct, Ten, Tou, Ted), (sk, sf), b, q)
      rw [za_ov1]
      exact ⟨hok, hb1, hb4, (r, pl, la, dn, vi, de, ct, en, ou, ed), fd, za_set_eq _ _ _, ms_set hin _⟩
    · show ms_fr h (za_ov h [(142, mo_c (0, k, b) (r, pl, la, dn, vi, de, ct, en, ou, ed) (q, Ted, Tdn, Tct, fd, sk, (rs_or sf sk)))])
      rw [za_ov1]
      exact ms_fr1 h _
  
  have e1 : sp_count ((oo, aa, bb, cc0, k), (Tr, Tpl, Tla, Tdn, Tvi, Tde, Tct, Ten, Tou, Ted), (sk, sf), b, q) x = (1, 0, ((oo, aa, bb, cc0, k), (Tr, Tpl, Tla, Tdn, Tvi, Tde, Tct, Ten, Tou, Ted), (sk, sf), b, q)) := by simp [sp_count, x0, x1, x2, x3]
  refine za_tsd X 56 rfl (ts_o (hi := 3) (fun i h1 h2 => by rcases (show i = 0 ∨ i = 1 ∨ i = 2 ∨ i = 3 by omega) with rfl | rfl | rfl | rfl <;> first | exact x0 | exact x1 | exact x2 | exact x3)) (by decide) ?_
  rw [e1]
  iterate 2 refine za_step X rfl rfl rfl ?_
  refine za_callV (b := 142) (d := 0) (mc := 0) (ms := 0) (as := [vI 1]) (rest := []) X rfl cl_M_M_raise cy_M_raise cv_M_raise (c_M_raise l D (za_ov h [(142, mo_c (0, k, b) (r, pl, la, dn, vi, de, ct, en, ou, ed) (q, Ted, Tdn, Tct, fd, sk, (rs_or sf sk)))]) n (0, k, b) (r, pl, la, dn, vi, de, ct, en, ou, ed) (q, Ted, Tdn, Tct, fd, sk, (rs_or sf sk)) rfl 1) rfl rfl rfl rfl (Nat.le_of_ble_eq_true rfl) (Nat.le_of_ble_eq_true rfl) (Nat.le_of_ble_eq_true rfl) (Nat.le_of_ble_eq_true rfl) (Nat.le_of_ble_eq_true rfl) (fun v h' n' hq => ?_)
  obtain ⟨rfl, rfl, rfl⟩ := hq
  refine za_iret X rfl ⟨rfl, ?_, ?_, rfl⟩ (Nat.le_refl _) (Nat.le_refl _)
  · show ms_at (za_ov (za_set (za_ov h [(142, mo_c (0, k, b) (r, pl, la, dn, vi, de, ct, en, ou, ed) (q, Ted, Tdn, Tct, fd, sk, (rs_or sf sk)))]) 142 (mo_c (1, k, b) (r, pl, la, dn, vi, de, ct, en, ou, ed) (q, Ted, Tdn, Tct, fd, sk, (rs_or sf sk)))) []) 1 ((oo, aa, bb, cc0, k), (Tr, Tpl, Tla, Tdn, Tvi, Tde, Tct, Ten, Tou, Ted), (sk, sf), b, q)
    rw [za_ov11]
    exact ⟨hok, hb1, hb4, (r, pl, la, dn, vi, de, ct, en, ou, ed), fd, za_set_eq _ _ _, ms_set hin _⟩
  · show ms_fr h (za_ov (za_set (za_ov h [(142, mo_c (0, k, b) (r, pl, la, dn, vi, de, ct, en, ou, ed) (q, Ted, Tdn, Tct, fd, sk, (rs_or sf sk)))]) 142 (mo_c (1, k, b) (r, pl, la, dn, vi, de, ct, en, ou, ed) (q, Ted, Tdn, Tct, fd, sk, (rs_or sf sk)))) [])
    rw [za_ov11]
    exact ms_fr1 h _
def sp_covered (σ : fs_T) : Nat × Int32 × fs_T := (0, rs_or σ.2.2.1.2 σ.2.2.1.1, σ)
set_option maxHeartbeats 4000000 in
set_option maxRecDepth 100000 in
theorem c_M_covered (l : Launch) (D : za_D) (h : za_H) (n : Nat) (th : Int32) (σ : fs_T) (hσ : ms_at h th σ)  : za_M l D Y_M_covered 3 0 0 [vR 142] h n (ms_ps h n (sp_covered σ)) := by
  obtain ⟨P, T, S, b, q⟩ := σ
  obtain ⟨hok, hb1, hb4, G, fd, hM, hin⟩ := hσ
  obtain ⟨oo, aa, bb, cc0, k⟩ := P
  obtain ⟨Tr, Tpl, Tla, Tdn, Tvi, Tde, Tct, Ten, Tou, Ted⟩ := T
  obtain ⟨r, pl, la, dn, vi, de, ct, en, ou, ed⟩ := G
  obtain ⟨sk, sf⟩ := S
  refine za_enter cd_M_covered fl_M (by decide) cdok_M_covered flok_M (Nat.le_of_ble_eq_true rfl) ?_
  intro p e s m args below meth c X hnm
  refine za_view [(142, mo_c (th, k, b) (r, pl, la, dn, vi, de, ct, en, ou, ed) (q, Ted, Tdn, Tct, fd, sk, (rs_or sf sk)))] (by simp [show h 142 = some (mo_c (th, k, b) (r, pl, la, dn, vi, de, ct, en, ou, ed) (q, Ted, Tdn, Tct, fd, sk, (rs_or sf sk))) from hM]) ?_
  iterate 5 refine za_step X rfl rfl rfl ?_
  refine za_iret X rfl ⟨rfl, ?_, ?_, rfl⟩ (Nat.le_refl _) (Nat.le_refl _)
  · show ms_at (za_ov h [(142, mo_c (0, k, b) (r, pl, la, dn, vi, de, ct, en, ou, ed) (q, Ted, Tdn, Tct, fd, sk, (rs_or sf sk)))]) 0 ((oo, aa, bb, cc0, k), (Tr, Tpl, Tla, Tdn, Tvi, Tde, Tct, Ten, Tou, Ted), (sk, sf), b, q)
    rw [za_ov1]
    exact ⟨hok, hb1, hb4, (r, pl, la, dn, vi, de, ct, en, ou, ed), fd, za_set_eq _ _ _, ms_set hin _⟩
  · show ms_fr h (za_ov h [(142, mo_c (0, k, b) (r, pl, la, dn, vi, de, ct, en, ou, ed) (q, Ted, Tdn, Tct, fd, sk, (rs_or sf sk)))])
    rw [za_ov1]
    exact ms_fr1 h _
end
section
section ZAREM
variable {p : Program} {l : Launch} {e : Env} {R : Room} {s : State} {m : MethodId} {args : Array Value} {below : List Frame} {meth : Method} {c : Code} {D : za_D} {nL : Nat} {Q : State → Prop} {h0 : za_H} {n cells slots pc : Nat} {lv : List (Nat × za_V)} {st : List za_V} {vw : List (Nat × za_C)} {own : String} {cc : ByteArray} {cd : List (Nat × Instr × Nat)} {fl : List (Nat × Nat × Nat)} {ret : Option FieldType}
theorem za_irem (X : za_X p s m args meth c D own cc cd fl nL ret) {x y : Int32} (hf : za_fe cd pc = some (.irem, 1)) (hne : ¬ y = 0) (kk : za_W p l e R s m args below meth c D nL Q h0 n cells slots (pc + 1) lv (vI (x - x / y * y) :: st) vw) : za_W p l e R s m args below meth c D nL Q h0 n cells slots pc lv (.inl y :: .inl x :: st) vw := by
  intro H locs ls hR hS hl
  exact lv_irem X.1 X.2.1 (za_fe_ok X.2.2.2.2.2.2.1 hf) hne (kk H locs ls hR hS hl)
end ZAREM
theorem le_all : ∀ a b : Fin 16, (16 * nI a.val + nI b.val) / 16 = nI a.val ∧ (16 * nI a.val + nI b.val) - (16 * nI a.val + nI b.val) / 16 * 16 = nI b.val ∧ (nI a.val <<< ((4 : Int32) &&& 31)) + nI b.val = 16 * nI a.val + nI b.val := by decide +kernel
theorem le_w {q : wr_T} (h : wr_ok q) : wr_le q / 16 = wr_x q ∧ wr_le q - wr_le q / 16 * 16 = wr_y q ∧ wr_in q = wr_le q := by
  obtain ⟨⟨a, b, ha, hb, hx, hy⟩, _⟩ := h
  have := le_all ⟨a, ha⟩ ⟨b, hb⟩
  obtain ⟨x, y, ou, ed, de, ct, vi⟩ := q
  have hx' : x = nI a := hx
  have hy' : y = nI b := hy
  subst hx'; subst hy'
  exact this
set_option maxHeartbeats 4000000 in
set_option maxRecDepth 100000 in
theorem c_M_way (l : Launch) (D : za_D) (h : za_H) (n : Nat) (th : Int32) (σ : fs_T) (hσ : ms_at h th σ) (n1 x : Int32) : za_M l D Y_M_way 3 0 0 [vR 142, vI n1, vI x] h n (ms_ps h n (sp_way σ n1 x)) := by
  obtain ⟨P, T, S, b, q⟩ := σ
  obtain ⟨hok, hb1, hb4, G, fd, hM, hin⟩ := hσ
  obtain ⟨oo, aa, bb, cc0, k⟩ := P
  obtain ⟨Tr, Tpl, Tla, Tdn, Tvi, Tde, Tct, Ten, Tou, Ted⟩ := T
  obtain ⟨r, pl, la, dn, vi, de, ct, en, ou, ed⟩ := G
  obtain ⟨sk, sf⟩ := S
  have hk64 : sk ≤ 64 := hin.2.2.2.2.2
  have hin0 := hin
  refine za_enter cd_M_way fl_M (by decide) cdok_M_way flok_M (Nat.le_of_ble_eq_true rfl) ?_
  intro p e s m args below meth c X hnm
  refine za_view [(142, mo_c (th, k, b) (r, pl, la, dn, vi, de, ct, en, ou, ed) (q, Ted, Tdn, Tct, fd, sk, (rs_or sf sk)))] (by simp [show h 142 = some (mo_c (th, k, b) (r, pl, la, dn, vi, de, ct, en, ou, ed) (q, Ted, Tdn, Tct, fd, sk, (rs_or sf sk))) from hM]) ?_
  iterate 9 refine za_step X rfl rfl rfl ?_
  refine za_callS X rfl cl_M_M_in cy_M_in cs_M_in (c_M_in l D _ n n1 0 (nI sk - 1)) rfl rfl (Nat.le_of_ble_eq_true rfl) (Nat.le_of_ble_eq_true rfl) (Nat.le_of_ble_eq_true rfl) (Nat.le_of_ble_eq_true rfl) (Nat.le_of_ble_eq_true rfl) (fun v h' n' hq => ?_)
  obtain ⟨rfl, rfl, rfl⟩ := hq
  rw [hm_has hk64]
  refine za_look (h1 := h) (v1 := [(142, mo_c (0, k, b) (r, pl, la, dn, vi, de, ct, en, ou, ed) (q, Ted, Tdn, Tct, fd, sk, (rs_or sf sk)))]) rfl ?_
  refine za_ifne X 25 rfl (by decide) (fun q1 => ?_) (fun q1 => ?_)
  · have hal := bI_n0 q1
    obtain ⟨h147, hp, hw, ⟨rr, ⟨r1, r2, r3, r4, r5⟩, hr⟩, hwo, hk64'⟩ := hin0
    obtain ⟨i, hi, rfl⟩ := rs_has_n hk64 hal
    have hci : (nI i).toNatClampNeg = i := nI_clamp (by omega)
    have hvi : vp_in (nI i) 64 := vp_in_nI (by omega) (by decide)
    obtain ⟨d1, d2, d3, d4, d5⟩ := hr i hi
    have hwi := hwo i hi
    iterate 1 refine za_step X rfl rfl rfl ?_
    by_cases x0 : x = 0
    · subst x0
      have e1 : sp_way ((oo, aa, bb, cc0, k), (Tr, Tpl, Tla, Tdn, Tvi, Tde, Tct, Ten, Tou, Ted), (sk, sf), b, q) (nI i) 0 = (0, wr_x (sf i), ((oo, aa, bb, cc0, k), (Tr, Tpl, Tla, Tdn, Tvi, Tde, Tct, Ten, Tou, Ted), (sk, sf), b, q)) := by
        show (if rs_has sk (nI i) = true then _ else _) = _
        rw [if_pos hal]
        show (0, wr_x (sf (nI i).toNatClampNeg), _) = _
        rw [hci]
      rw [e1]
      refine za_tsw X 0 60 rfl (by decide) (by decide) (by decide) rfl (by decide) ?_
      iterate 3 refine za_step X rfl rfl rfl ?_
      refine za_iald X rfl r3 rfl hvi ?_
      rw [hci]
      iterate 1 refine za_step X rfl rfl rfl ?_
      refine za_idiv X rfl (by decide) ?_
      rw [show (rr i).2.2.1 / (Int8.ofInt 16).toInt32 = wr_x (sf i) from by rw [d3]; exact (le_w hwi).1]
      refine za_iret X rfl ⟨rfl, ?_, ?_, rfl⟩ (Nat.le_refl _) (Nat.le_refl _)
      · show ms_at (za_ov h [(142, mo_c (0, k, b) (r, pl, la, dn, vi, de, ct, en, ou, ed) (q, Ted, Tdn, Tct, fd, sk, (rs_or sf sk)))]) 0 ((oo, aa, bb, cc0, k), (Tr, Tpl, Tla, Tdn, Tvi, Tde, Tct, Ten, Tou, Ted), (sk, sf), b, q)
        rw [za_ov1]
        exact ⟨hok, hb1, hb4, (r, pl, la, dn, vi, de, ct, en, ou, ed), fd, za_set_eq _ _ _, ms_set hin _⟩
      · show ms_fr h (za_ov h [(142, mo_c (0, k, b) (r, pl, la, dn, vi, de, ct, en, ou, ed) (q, Ted, Tdn, Tct, fd, sk, (rs_or sf sk)))])
        rw [za_ov1]
        exact ms_fr1 h _
    by_cases x1 : x = 1
    · subst x1
      have e1 : sp_way ((oo, aa, bb, cc0, k), (Tr, Tpl, Tla, Tdn, Tvi, Tde, Tct, Ten, Tou, Ted), (sk, sf), b, q) (nI i) 1 = (0, wr_y (sf i), ((oo, aa, bb, cc0, k), (Tr, Tpl, Tla, Tdn, Tvi, Tde, Tct, Ten, Tou, Ted), (sk, sf), b, q)) := by
        show (if rs_has sk (nI i) = true then _ else _) = _
        rw [if_pos hal]
        show (0, wr_y (sf (nI i).toNatClampNeg), _) = _
        rw [hci]
      rw [e1]
      refine za_tsw X 1 70 rfl (by decide) (by decide) (by decide) rfl (by decide) ?_
      iterate 3 refine za_step X rfl rfl rfl ?_
      refine za_iald X rfl r3 rfl hvi ?_
      rw [hci]
      iterate 1 refine za_step X rfl rfl rfl ?_
      refine za_irem X rfl (by decide) ?_
      rw [show (rr i).2.2.1 - (rr i).2.2.1 / (Int8.ofInt 16).toInt32 * (Int8.ofInt 16).toInt32 = wr_y (sf i) from by rw [d3]; exact (le_w hwi).2.1]
      refine za_iret X rfl ⟨rfl, ?_, ?_, rfl⟩ (Nat.le_refl _) (Nat.le_refl _)
      · show ms_at (za_ov h [(142, mo_c (0, k, b) (r, pl, la, dn, vi, de, ct, en, ou, ed) (q, Ted, Tdn, Tct, fd, sk, (rs_or sf sk)))]) 0 ((oo, aa, bb, cc0, k), (Tr, Tpl, Tla, Tdn, Tvi, Tde, Tct, Ten, Tou, Ted), (sk, sf), b, q)
        rw [za_ov1]
        exact ⟨hok, hb1, hb4, (r, pl, la, dn, vi, de, ct, en, ou, ed), fd, za_set_eq _ _ _, ms_set hin _⟩
      · show ms_fr h (za_ov h [(142, mo_c (0, k, b) (r, pl, la, dn, vi, de, ct, en, ou, ed) (q, Ted, Tdn, Tct, fd, sk, (rs_or sf sk)))])
        rw [za_ov1]
        exact ms_fr1 h _
    by_cases x2 : x = 2
    · subst x2
      have e1 : sp_way ((oo, aa, bb, cc0, k), (Tr, Tpl, Tla, Tdn, Tvi, Tde, Tct, Ten, Tou, Ted), (sk, sf), b, q) (nI i) 2 = (0, wr_ou (sf i), ((oo, aa, bb, cc0, k), (Tr, Tpl, Tla, Tdn, Tvi, Tde, Tct, Ten, Tou, Ted), (sk, sf), b, q)) := by
        show (if rs_has sk (nI i) = true then _ else _) = _
        rw [if_pos hal]
        show (0, wr_ou (sf (nI i).toNatClampNeg), _) = _
        rw [hci]
      rw [e1]
      refine za_tsw X 2 80 rfl (by decide) (by decide) (by decide) rfl (by decide) ?_
      iterate 3 refine za_step X rfl rfl rfl ?_
      refine za_iald X rfl r4 rfl hvi ?_
      rw [hci]
      rw [show (rr i).2.2.2.1 = wr_ou (sf i) from d4]
      refine za_iret X rfl ⟨rfl, ?_, ?_, rfl⟩ (Nat.le_refl _) (Nat.le_refl _)
      · show ms_at (za_ov h [(142, mo_c (0, k, b) (r, pl, la, dn, vi, de, ct, en, ou, ed) (q, Ted, Tdn, Tct, fd, sk, (rs_or sf sk)))]) 0 ((oo, aa, bb, cc0, k), (Tr, Tpl, Tla, Tdn, Tvi, Tde, Tct, Ten, Tou, Ted), (sk, sf), b, q)
        rw [za_ov1]
        exact ⟨hok, hb1, hb4, (r, pl, la, dn, vi, de, ct, en, ou, ed), fd, za_set_eq _ _ _, ms_set hin _⟩
      · show ms_fr h (za_ov h [(142, mo_c (0, k, b) (r, pl, la, dn, vi, de, ct, en, ou, ed) (q, Ted, Tdn, Tct, fd, sk, (rs_or sf sk)))])
        rw [za_ov1]
        exact ms_fr1 h _
    by_cases x3 : x = 3
    · subst x3
      have e1 : sp_way ((oo, aa, bb, cc0, k), (Tr, Tpl, Tla, Tdn, Tvi, Tde, Tct, Ten, Tou, Ted), (sk, sf), b, q) (nI i) 3 = (0, wr_ed (sf i), ((oo, aa, bb, cc0, k), (Tr, Tpl, Tla, Tdn, Tvi, Tde, Tct, Ten, Tou, Ted), (sk, sf), b, q)) := by
        show (if rs_has sk (nI i) = true then _ else _) = _
        rw [if_pos hal]
        show (0, wr_ed (sf (nI i).toNatClampNeg), _) = _
        rw [hci]
      rw [e1]
      refine za_tsw X 3 87 rfl (by decide) (by decide) (by decide) rfl (by decide) ?_
      iterate 3 refine za_step X rfl rfl rfl ?_
      refine za_iald X rfl r5 rfl hvi ?_
      rw [hci]
      rw [show (rr i).2.2.2.2.1 = wr_ed (sf i) from d5]
      refine za_iret X rfl ⟨rfl, ?_, ?_, rfl⟩ (Nat.le_refl _) (Nat.le_refl _)
      · show ms_at (za_ov h [(142, mo_c (0, k, b) (r, pl, la, dn, vi, de, ct, en, ou, ed) (q, Ted, Tdn, Tct, fd, sk, (rs_or sf sk)))]) 0 ((oo, aa, bb, cc0, k), (Tr, Tpl, Tla, Tdn, Tvi, Tde, Tct, Ten, Tou, Ted), (sk, sf), b, q)
        rw [za_ov1]
        exact ⟨hok, hb1, hb4, (r, pl, la, dn, vi, de, ct, en, ou, ed), fd, za_set_eq _ _ _, ms_set hin _⟩
      · show ms_fr h (za_ov h [(142, mo_c (0, k, b) (r, pl, la, dn, vi, de, ct, en, ou, ed) (q, Ted, Tdn, Tct, fd, sk, (rs_or sf sk)))])
        rw [za_ov1]
        exact ms_fr1 h _
    by_cases x4 : x = 4
    · subst x4
      have e1 : sp_way ((oo, aa, bb, cc0, k), (Tr, Tpl, Tla, Tdn, Tvi, Tde, Tct, Ten, Tou, Ted), (sk, sf), b, q) (nI i) 4 = (0, wr_ct (sf i), ((oo, aa, bb, cc0, k), (Tr, Tpl, Tla, Tdn, Tvi, Tde, Tct, Ten, Tou, Ted), (sk, sf), b, q)) := by
        show (if rs_has sk (nI i) = true then _ else _) = _
        rw [if_pos hal]
        show (0, wr_ct (sf (nI i).toNatClampNeg), _) = _
        rw [hci]
      rw [e1]
      refine za_tsw X 4 94 rfl (by decide) (by decide) (by decide) rfl (by decide) ?_
      iterate 3 refine za_step X rfl rfl rfl ?_
      refine za_iald X rfl r2 rfl hvi ?_
      rw [hci]
      rw [show (rr i).2.1 = wr_ct (sf i) from d2]
      refine za_iret X rfl ⟨rfl, ?_, ?_, rfl⟩ (Nat.le_refl _) (Nat.le_refl _)
      · show ms_at (za_ov h [(142, mo_c (0, k, b) (r, pl, la, dn, vi, de, ct, en, ou, ed) (q, Ted, Tdn, Tct, fd, sk, (rs_or sf sk)))]) 0 ((oo, aa, bb, cc0, k), (Tr, Tpl, Tla, Tdn, Tvi, Tde, Tct, Ten, Tou, Ted), (sk, sf), b, q)
        rw [za_ov1]
        exact ⟨hok, hb1, hb4, (r, pl, la, dn, vi, de, ct, en, ou, ed), fd, za_set_eq _ _ _, ms_set hin _⟩
      · show ms_fr h (za_ov h [(142, mo_c (0, k, b) (r, pl, la, dn, vi, de, ct, en, ou, ed) (q, Ted, Tdn, Tct, fd, sk, (rs_or sf sk)))])
        rw [za_ov1]
        exact ms_fr1 h _
    
    have e1 : sp_way ((oo, aa, bb, cc0, k), (Tr, Tpl, Tla, Tdn, Tvi, Tde, Tct, Ten, Tou, Ted), (sk, sf), b, q) (nI i) x = (2, 0, ((oo, aa, bb, cc0, k), (Tr, Tpl, Tla, Tdn, Tvi, Tde, Tct, Ten, Tou, Ted), (sk, sf), b, q)) := by simp [sp_way, hal, x0, x1, x2, x3, x4]
    refine za_tsd X 101 rfl (ts_o (hi := 4) (fun i h1 h2 => by rcases (show i = 0 ∨ i = 1 ∨ i = 2 ∨ i = 3 ∨ i = 4 by omega) with rfl | rfl | rfl | rfl | rfl <;> first | exact x0 | exact x1 | exact x2 | exact x3 | exact x4)) (by decide) ?_
    rw [e1]
    iterate 2 refine za_step X rfl rfl rfl ?_
    refine za_callV (b := 142) (d := 0) (mc := 0) (ms := 0) (as := [vI 2]) (rest := []) X rfl cl_M_M_raise cy_M_raise cv_M_raise (c_M_raise l D (za_ov h [(142, mo_c (0, k, b) (r, pl, la, dn, vi, de, ct, en, ou, ed) (q, Ted, Tdn, Tct, fd, sk, (rs_or sf sk)))]) n (0, k, b) (r, pl, la, dn, vi, de, ct, en, ou, ed) (q, Ted, Tdn, Tct, fd, sk, (rs_or sf sk)) rfl 2) rfl rfl rfl rfl (Nat.le_of_ble_eq_true rfl) (Nat.le_of_ble_eq_true rfl) (Nat.le_of_ble_eq_true rfl) (Nat.le_of_ble_eq_true rfl) (Nat.le_of_ble_eq_true rfl) (fun v h' n' hq => ?_)
    obtain ⟨rfl, rfl, rfl⟩ := hq
    refine za_iret X rfl ⟨rfl, ?_, ?_, rfl⟩ (Nat.le_refl _) (Nat.le_refl _)
    · show ms_at (za_ov (za_set (za_ov h [(142, mo_c (0, k, b) (r, pl, la, dn, vi, de, ct, en, ou, ed) (q, Ted, Tdn, Tct, fd, sk, (rs_or sf sk)))]) 142 (mo_c (2, k, b) (r, pl, la, dn, vi, de, ct, en, ou, ed) (q, Ted, Tdn, Tct, fd, sk, (rs_or sf sk)))) []) 2 ((oo, aa, bb, cc0, k), (Tr, Tpl, Tla, Tdn, Tvi, Tde, Tct, Ten, Tou, Ted), (sk, sf), b, q)
      rw [za_ov11]
      exact ⟨hok, hb1, hb4, (r, pl, la, dn, vi, de, ct, en, ou, ed), fd, za_set_eq _ _ _, ms_set hin _⟩
    · show ms_fr h (za_ov (za_set (za_ov h [(142, mo_c (0, k, b) (r, pl, la, dn, vi, de, ct, en, ou, ed) (q, Ted, Tdn, Tct, fd, sk, (rs_or sf sk)))]) 142 (mo_c (2, k, b) (r, pl, la, dn, vi, de, ct, en, ou, ed) (q, Ted, Tdn, Tct, fd, sk, (rs_or sf sk)))) [])
      rw [za_ov11]
      exact ms_fr1 h _
  · have e1 : sp_way ((oo, aa, bb, cc0, k), (Tr, Tpl, Tla, Tdn, Tvi, Tde, Tct, Ten, Tou, Ted), (sk, sf), b, q) n1 x = (1, 0, ((oo, aa, bb, cc0, k), (Tr, Tpl, Tla, Tdn, Tvi, Tde, Tct, Ten, Tou, Ted), (sk, sf), b, q)) := if_neg (by show ¬ rs_has sk n1 = true; rw [bI_0 q1]; decide)
    rw [e1]
    iterate 2 refine za_step X rfl rfl rfl ?_
    refine za_callV (b := 142) (d := 0) (mc := 0) (ms := 0) (as := [vI 1]) (rest := []) X rfl cl_M_M_raise cy_M_raise cv_M_raise (c_M_raise l D (za_ov h [(142, mo_c (0, k, b) (r, pl, la, dn, vi, de, ct, en, ou, ed) (q, Ted, Tdn, Tct, fd, sk, (rs_or sf sk)))]) n (0, k, b) (r, pl, la, dn, vi, de, ct, en, ou, ed) (q, Ted, Tdn, Tct, fd, sk, (rs_or sf sk)) rfl 1) rfl rfl rfl rfl (Nat.le_of_ble_eq_true rfl) (Nat.le_of_ble_eq_true rfl) (Nat.le_of_ble_eq_true rfl) (Nat.le_of_ble_eq_true rfl) (Nat.le_of_ble_eq_true rfl) (fun v h' n' hq => ?_)
    obtain ⟨rfl, rfl, rfl⟩ := hq
    refine za_iret X rfl ⟨rfl, ?_, ?_, rfl⟩ (Nat.le_refl _) (Nat.le_refl _)
    · show ms_at (za_ov (za_set (za_ov h [(142, mo_c (0, k, b) (r, pl, la, dn, vi, de, ct, en, ou, ed) (q, Ted, Tdn, Tct, fd, sk, (rs_or sf sk)))]) 142 (mo_c (1, k, b) (r, pl, la, dn, vi, de, ct, en, ou, ed) (q, Ted, Tdn, Tct, fd, sk, (rs_or sf sk)))) []) 1 ((oo, aa, bb, cc0, k), (Tr, Tpl, Tla, Tdn, Tvi, Tde, Tct, Ten, Tou, Ted), (sk, sf), b, q)
      rw [za_ov11]
      exact ⟨hok, hb1, hb4, (r, pl, la, dn, vi, de, ct, en, ou, ed), fd, za_set_eq _ _ _, ms_set hin _⟩
    · show ms_fr h (za_ov (za_set (za_ov h [(142, mo_c (0, k, b) (r, pl, la, dn, vi, de, ct, en, ou, ed) (q, Ted, Tdn, Tct, fd, sk, (rs_or sf sk)))]) 142 (mo_c (1, k, b) (r, pl, la, dn, vi, de, ct, en, ou, ed) (q, Ted, Tdn, Tct, fd, sk, (rs_or sf sk)))) [])
      rw [za_ov11]
      exact ms_fr1 h _
set_option maxHeartbeats 4000000 in
set_option maxRecDepth 100000 in
theorem c_M_decision (l : Launch) (D : za_D) (h : za_H) (n : Nat) (th : Int32) (σ : fs_T) (hσ : ms_at h th σ) (n1 j : Int32) : za_M l D Y_M_decision 3 0 0 [vR 142, vI n1, vI j] h n (ms_ps h n (sp_decision σ n1 j)) := by
  obtain ⟨P, T, S, b, q⟩ := σ
  obtain ⟨hok, hb1, hb4, G, fd, hM, hin⟩ := hσ
  obtain ⟨oo, aa, bb, cc0, k⟩ := P
  obtain ⟨Tr, Tpl, Tla, Tdn, Tvi, Tde, Tct, Ten, Tou, Ted⟩ := T
  obtain ⟨r, pl, la, dn, vi, de, ct, en, ou, ed⟩ := G
  obtain ⟨sk, sf⟩ := S
  have hk64 : sk ≤ 64 := hin.2.2.2.2.2
  have hin0 := hin
  refine za_enter cd_M_decision fl_M (by decide) cdok_M_decision flok_M (Nat.le_of_ble_eq_true rfl) ?_
  intro p e s m args below meth c X hnm
  refine za_view [(142, mo_c (th, k, b) (r, pl, la, dn, vi, de, ct, en, ou, ed) (q, Ted, Tdn, Tct, fd, sk, (rs_or sf sk)))] (by simp [show h 142 = some (mo_c (th, k, b) (r, pl, la, dn, vi, de, ct, en, ou, ed) (q, Ted, Tdn, Tct, fd, sk, (rs_or sf sk))) from hM]) ?_
  iterate 9 refine za_step X rfl rfl rfl ?_
  refine za_callS X rfl cl_M_M_in cy_M_in cs_M_in (c_M_in l D _ n n1 0 (nI sk - 1)) rfl rfl (Nat.le_of_ble_eq_true rfl) (Nat.le_of_ble_eq_true rfl) (Nat.le_of_ble_eq_true rfl) (Nat.le_of_ble_eq_true rfl) (Nat.le_of_ble_eq_true rfl) (fun v h' n' hq => ?_)
  obtain ⟨rfl, rfl, rfl⟩ := hq
  rw [hm_has hk64]
  refine za_look (h1 := h) (v1 := [(142, mo_c (0, k, b) (r, pl, la, dn, vi, de, ct, en, ou, ed) (q, Ted, Tdn, Tct, fd, sk, (rs_or sf sk)))]) rfl ?_
  refine za_ifeq X 35 rfl (by decide) (fun q1 => ?_) (fun q1 => ?_)
  · have e1 : sp_decision ((oo, aa, bb, cc0, k), (Tr, Tpl, Tla, Tdn, Tvi, Tde, Tct, Ten, Tou, Ted), (sk, sf), b, q) n1 j = (1, 0, ((oo, aa, bb, cc0, k), (Tr, Tpl, Tla, Tdn, Tvi, Tde, Tct, Ten, Tou, Ted), (sk, sf), b, q)) := if_neg (by intro z; have z1 : rs_has sk n1 = true := z.1; rw [bI_0 q1] at z1; cases z1)
    rw [e1]
    iterate 2 refine za_step X rfl rfl rfl ?_
    refine za_callV (b := 142) (d := 0) (mc := 0) (ms := 0) (as := [vI 1]) (rest := []) X rfl cl_M_M_raise cy_M_raise cv_M_raise (c_M_raise l D (za_ov h [(142, mo_c (0, k, b) (r, pl, la, dn, vi, de, ct, en, ou, ed) (q, Ted, Tdn, Tct, fd, sk, (rs_or sf sk)))]) n (0, k, b) (r, pl, la, dn, vi, de, ct, en, ou, ed) (q, Ted, Tdn, Tct, fd, sk, (rs_or sf sk)) rfl 1) rfl rfl rfl rfl (Nat.le_of_ble_eq_true rfl) (Nat.le_of_ble_eq_true rfl) (Nat.le_of_ble_eq_true rfl) (Nat.le_of_ble_eq_true rfl) (Nat.le_of_ble_eq_true rfl) (fun v h' n' hq => ?_)
    obtain ⟨rfl, rfl, rfl⟩ := hq
    refine za_iret X rfl ⟨rfl, ?_, ?_, rfl⟩ (Nat.le_refl _) (Nat.le_refl _)
    · show ms_at (za_ov (za_set (za_ov h [(142, mo_c (0, k, b) (r, pl, la, dn, vi, de, ct, en, ou, ed) (q, Ted, Tdn, Tct, fd, sk, (rs_or sf sk)))]) 142 (mo_c (1, k, b) (r, pl, la, dn, vi, de, ct, en, ou, ed) (q, Ted, Tdn, Tct, fd, sk, (rs_or sf sk)))) []) 1 ((oo, aa, bb, cc0, k), (Tr, Tpl, Tla, Tdn, Tvi, Tde, Tct, Ten, Tou, Ted), (sk, sf), b, q)
      rw [za_ov11]
      exact ⟨hok, hb1, hb4, (r, pl, la, dn, vi, de, ct, en, ou, ed), fd, za_set_eq _ _ _, ms_set hin _⟩
    · show ms_fr h (za_ov (za_set (za_ov h [(142, mo_c (0, k, b) (r, pl, la, dn, vi, de, ct, en, ou, ed) (q, Ted, Tdn, Tct, fd, sk, (rs_or sf sk)))]) 142 (mo_c (1, k, b) (r, pl, la, dn, vi, de, ct, en, ou, ed) (q, Ted, Tdn, Tct, fd, sk, (rs_or sf sk)))) [])
      rw [za_ov11]
      exact ms_fr1 h _
  · have hal := bI_n0 q1
    obtain ⟨h147, hp, hw, ⟨rr, ⟨r1, r2, r3, r4, r5⟩, hr⟩, hwo, hk64'⟩ := hin0
    obtain ⟨i, hi, rfl⟩ := rs_has_n hk64 hal
    have hci : (nI i).toNatClampNeg = i := nI_clamp (by omega)
    have hvi : vp_in (nI i) 64 := vp_in_nI (by omega) (by decide)
    obtain ⟨d1, d2, d3, d4, d5⟩ := hr i hi
    have hwi := hwo i hi
    obtain ⟨cn, hcn, hct⟩ := hwi.2
    iterate 5 refine za_step X rfl rfl rfl ?_
    refine za_iald X rfl r2 rfl hvi ?_
    rw [hci]
    rw [show (rr i).2.1 = nI cn from d2.trans hct]
    iterate 2 refine za_step X rfl rfl rfl ?_
    refine za_callS X rfl cl_M_M_in cy_M_in cs_M_in (c_M_in l D _ n j 0 (nI cn - 1)) rfl rfl (Nat.le_of_ble_eq_true rfl) (Nat.le_of_ble_eq_true rfl) (Nat.le_of_ble_eq_true rfl) (Nat.le_of_ble_eq_true rfl) (Nat.le_of_ble_eq_true rfl) (fun v h' n' hq => ?_)
    obtain ⟨rfl, rfl, rfl⟩ := hq
    rw [hm_has (rs := cn) (by omega)]
    refine za_look (h1 := h) (v1 := [(142, mo_c (0, k, b) (r, pl, la, dn, vi, de, ct, en, ou, ed) (q, Ted, Tdn, Tct, fd, sk, (rs_or sf sk)))]) rfl ?_
    refine za_ifne X 41 rfl (by decide) (fun q2 => ?_) (fun q2 => ?_)
    · have hj : 0 ≤ j ∧ j < nI cn := by have z := bI_n0 q2; simpa [rs_has] using z
      have e1 : sp_decision ((oo, aa, bb, cc0, k), (Tr, Tpl, Tla, Tdn, Tvi, Tde, Tct, Ten, Tou, Ted), (sk, sf), b, q) (nI i) j = (0, (wr_de (sf i) >>> ((39 - j).toInt64 &&& 63)).toInt32 &&& 1, ((oo, aa, bb, cc0, k), (Tr, Tpl, Tla, Tdn, Tvi, Tde, Tct, Ten, Tou, Ted), (sk, sf), b, q)) := by
        show (if rs_has sk (nI i) = true ∧ 0 ≤ j ∧ j < wr_ct (sf (nI i).toNatClampNeg) then (0, (wr_de (sf (nI i).toNatClampNeg) >>> ((39 - j).toInt64 &&& 63)).toInt32 &&& 1, _) else _) = _
        rw [hci, if_pos ⟨hal, hj.1, by rw [hct]; exact hj.2⟩]
      rw [e1]
      iterate 3 refine za_step X rfl rfl rfl ?_
      refine za_lald X rfl r1 rfl hvi ?_
      rw [hci]
      rw [show (rr i).1 = wr_de (sf i) from d1]
      iterate 7 refine za_step X rfl rfl rfl ?_
      refine za_iret X rfl ⟨congrArg (fun z => some (vI z)) (Int64.toInt32_and _ _), ?_, ?_, rfl⟩ (Nat.le_refl _) (Nat.le_refl _)
      · show ms_at (za_ov h [(142, mo_c (0, k, b) (r, pl, la, dn, vi, de, ct, en, ou, ed) (q, Ted, Tdn, Tct, fd, sk, (rs_or sf sk)))]) 0 ((oo, aa, bb, cc0, k), (Tr, Tpl, Tla, Tdn, Tvi, Tde, Tct, Ten, Tou, Ted), (sk, sf), b, q)
        rw [za_ov1]
        exact ⟨hok, hb1, hb4, (r, pl, la, dn, vi, de, ct, en, ou, ed), fd, za_set_eq _ _ _, ms_set hin _⟩
      · show ms_fr h (za_ov h [(142, mo_c (0, k, b) (r, pl, la, dn, vi, de, ct, en, ou, ed) (q, Ted, Tdn, Tct, fd, sk, (rs_or sf sk)))])
        rw [za_ov1]
        exact ms_fr1 h _
    · have e1 : sp_decision ((oo, aa, bb, cc0, k), (Tr, Tpl, Tla, Tdn, Tvi, Tde, Tct, Ten, Tou, Ted), (sk, sf), b, q) (nI i) j = (1, 0, ((oo, aa, bb, cc0, k), (Tr, Tpl, Tla, Tdn, Tvi, Tde, Tct, Ten, Tou, Ted), (sk, sf), b, q)) := if_neg (by
        intro z
        have z2 : j < wr_ct (sf (nI i).toNatClampNeg) := z.2.2
        rw [hci, hct] at z2
        have z3 : rs_has cn j = true := by simp [rs_has, z.2.1, z2]
        rw [bI_0 q2] at z3
        cases z3)
      rw [e1]
      iterate 2 refine za_step X rfl rfl rfl ?_
      refine za_callV (b := 142) (d := 0) (mc := 0) (ms := 0) (as := [vI 1]) (rest := []) X rfl cl_M_M_raise cy_M_raise cv_M_raise (c_M_raise l D (za_ov h [(142, mo_c (0, k, b) (r, pl, la, dn, vi, de, ct, en, ou, ed) (q, Ted, Tdn, Tct, fd, sk, (rs_or sf sk)))]) n (0, k, b) (r, pl, la, dn, vi, de, ct, en, ou, ed) (q, Ted, Tdn, Tct, fd, sk, (rs_or sf sk)) rfl 1) rfl rfl rfl rfl (Nat.le_of_ble_eq_true rfl) (Nat.le_of_ble_eq_true rfl) (Nat.le_of_ble_eq_true rfl) (Nat.le_of_ble_eq_true rfl) (Nat.le_of_ble_eq_true rfl) (fun v h' n' hq => ?_)
      obtain ⟨rfl, rfl, rfl⟩ := hq
      refine za_iret X rfl ⟨rfl, ?_, ?_, rfl⟩ (Nat.le_refl _) (Nat.le_refl _)
      · show ms_at (za_ov (za_set (za_ov h [(142, mo_c (0, k, b) (r, pl, la, dn, vi, de, ct, en, ou, ed) (q, Ted, Tdn, Tct, fd, sk, (rs_or sf sk)))]) 142 (mo_c (1, k, b) (r, pl, la, dn, vi, de, ct, en, ou, ed) (q, Ted, Tdn, Tct, fd, sk, (rs_or sf sk)))) []) 1 ((oo, aa, bb, cc0, k), (Tr, Tpl, Tla, Tdn, Tvi, Tde, Tct, Ten, Tou, Ted), (sk, sf), b, q)
        rw [za_ov11]
        exact ⟨hok, hb1, hb4, (r, pl, la, dn, vi, de, ct, en, ou, ed), fd, za_set_eq _ _ _, ms_set hin _⟩
      · show ms_fr h (za_ov (za_set (za_ov h [(142, mo_c (0, k, b) (r, pl, la, dn, vi, de, ct, en, ou, ed) (q, Ted, Tdn, Tct, fd, sk, (rs_or sf sk)))]) 142 (mo_c (1, k, b) (r, pl, la, dn, vi, de, ct, en, ou, ed) (q, Ted, Tdn, Tct, fd, sk, (rs_or sf sk)))) [])
        rw [za_ov11]
        exact ms_fr1 h _
set_option maxHeartbeats 4000000 in
set_option maxRecDepth 100000 in
theorem c_M_example (l : Launch) (D : za_D) (h : za_H) (n : Nat) (th : Int32) (σ : fs_T) (hσ : ms_at h th σ) (x : Int32) : za_M l D Y_M_example 3 0 0 [vR 142, vI x] h n (ms_ps h n (sp_example σ x)) := by
  obtain ⟨P, T, S, b, q⟩ := σ
  obtain ⟨hok, hb1, hb4, G, fd, hM, hin⟩ := hσ
  obtain ⟨oo, aa, bb, cc0, k⟩ := P
  obtain ⟨Tr, Tpl, Tla, Tdn, Tvi, Tde, Tct, Ten, Tou, Ted⟩ := T
  obtain ⟨r, pl, la, dn, vi, de, ct, en, ou, ed⟩ := G
  obtain ⟨sk, sf⟩ := S
  have hk64 : sk ≤ 64 := hin.2.2.2.2.2
  have hin0 := hin
  refine za_enter cd_M_example fl_M (by decide) cdok_M_example flok_M (Nat.le_of_ble_eq_true rfl) ?_
  intro p e s m args below meth c X hnm
  refine za_view [(142, mo_c (th, k, b) (r, pl, la, dn, vi, de, ct, en, ou, ed) (q, Ted, Tdn, Tct, fd, sk, (rs_or sf sk)))] (by simp [show h 142 = some (mo_c (th, k, b) (r, pl, la, dn, vi, de, ct, en, ou, ed) (q, Ted, Tdn, Tct, fd, sk, (rs_or sf sk))) from hM]) ?_
  iterate 6 refine za_step X rfl rfl rfl ?_
  refine za_callS X rfl cl_M_M_in cy_M_in cs_M_in (c_M_in l D _ n x 0 (3)) rfl rfl (Nat.le_of_ble_eq_true rfl) (Nat.le_of_ble_eq_true rfl) (Nat.le_of_ble_eq_true rfl) (Nat.le_of_ble_eq_true rfl) (Nat.le_of_ble_eq_true rfl) (fun v h' n' hq => ?_)
  obtain ⟨rfl, rfl, rfl⟩ := hq
  refine za_look (h1 := h) (v1 := [(142, mo_c (0, k, b) (r, pl, la, dn, vi, de, ct, en, ou, ed) (q, Ted, Tdn, Tct, fd, sk, (rs_or sf sk)))]) rfl ?_
  refine za_ifne X 20 rfl (by decide) (fun q1 => ?_) (fun q1 => ?_)
  · have hx : 0 ≤ x ∧ x ≤ 3 := by have z : mi_in x 0 3 = true := bI_n0 q1; simpa [mi_in] using z
    obtain ⟨h147, hp, hw, ⟨rr, ⟨r1, r2, r3, r4, r5⟩, hr⟩, hwo, hk64'⟩ := hin0
    have loop : ∀ (g i : Nat) (acc : Int32), i + g = sk → rs_li sf x g i acc = rs_li sf x sk 0 256 → za_W p l e (za_rm 3 0 0) s m args below meth c D 4 (MQ below (za_Q D (fun v h' n' => ms_ps h n (sp_example ((oo, aa, bb, cc0, k), (Tr, Tpl, Tla, Tdn, Tvi, Tde, Tct, Ten, Tou, Ted), (sk, sf), b, q) x) v h' n')) args s 0 0 (fun q : Nat => D.2.2 ≤ q)) h n 0 0 26 [(0, vR 142), (1, vI x), (2, vI acc), (3, vI (nI i))] [] [(142, mo_c (0, k, b) (r, pl, la, dn, vi, de, ct, en, ou, ed) (q, Ted, Tdn, Tct, fd, sk, (rs_or sf sk)))] := by
      intro g
      induction g with
      | zero =>
        intro i acc hi hR
        iterate 3 refine za_step X rfl rfl rfl ?_
        refine za_icge X 67 rfl (by decide) (fun q2 => ?_) (fun q2 => absurd ((nI_leI (by omega) (by omega)).mpr (by omega)) q2)
        iterate 2 refine za_step X rfl rfl rfl ?_
        have hacc : acc = rs_li sf x sk 0 256 := hR
        rw [show (Int16.ofInt 256).toInt32 = 256 from by decide]
        refine za_icne X 82 rfl (by decide) (fun q3 => ?_) (fun q3 => ?_)
        · have e1 : sp_example ((oo, aa, bb, cc0, k), (Tr, Tpl, Tla, Tdn, Tvi, Tde, Tct, Ten, Tou, Ted), (sk, sf), b, q) x = (0, acc, ((oo, aa, bb, cc0, k), (Tr, Tpl, Tla, Tdn, Tvi, Tde, Tct, Ten, Tou, Ted), (sk, sf), b, q)) := by
            show (if 0 ≤ x ∧ x ≤ 3 then (if rs_li sf x sk 0 256 = 256 then _ else (0, rs_li sf x sk 0 256, _)) else _) = _
            rw [if_pos hx, ← hacc, if_neg q3]
          rw [e1]
          iterate 1 refine za_step X rfl rfl rfl ?_
          refine za_iret X rfl ⟨rfl, ?_, ?_, rfl⟩ (Nat.le_refl _) (Nat.le_refl _)
          · show ms_at (za_ov h [(142, mo_c (0, k, b) (r, pl, la, dn, vi, de, ct, en, ou, ed) (q, Ted, Tdn, Tct, fd, sk, (rs_or sf sk)))]) 0 ((oo, aa, bb, cc0, k), (Tr, Tpl, Tla, Tdn, Tvi, Tde, Tct, Ten, Tou, Ted), (sk, sf), b, q)
            rw [za_ov1]
            exact ⟨hok, hb1, hb4, (r, pl, la, dn, vi, de, ct, en, ou, ed), fd, za_set_eq _ _ _, ms_set hin _⟩
          · show ms_fr h (za_ov h [(142, mo_c (0, k, b) (r, pl, la, dn, vi, de, ct, en, ou, ed) (q, Ted, Tdn, Tct, fd, sk, (rs_or sf sk)))])
            rw [za_ov1]
            exact ms_fr1 h _
        · have e1 : sp_example ((oo, aa, bb, cc0, k), (Tr, Tpl, Tla, Tdn, Tvi, Tde, Tct, Ten, Tou, Ted), (sk, sf), b, q) x = (2, 0, ((oo, aa, bb, cc0, k), (Tr, Tpl, Tla, Tdn, Tvi, Tde, Tct, Ten, Tou, Ted), (sk, sf), b, q)) := by
            show (if 0 ≤ x ∧ x ≤ 3 then (if rs_li sf x sk 0 256 = 256 then (2, 0, _) else _) else _) = _
            rw [if_pos hx, ← hacc, if_pos q3]
          rw [e1]
          iterate 2 refine za_step X rfl rfl rfl ?_
          refine za_callV (b := 142) (d := 0) (mc := 0) (ms := 0) (as := [vI 2]) (rest := []) X rfl cl_M_M_raise cy_M_raise cv_M_raise (c_M_raise l D (za_ov h [(142, mo_c (0, k, b) (r, pl, la, dn, vi, de, ct, en, ou, ed) (q, Ted, Tdn, Tct, fd, sk, (rs_or sf sk)))]) n (0, k, b) (r, pl, la, dn, vi, de, ct, en, ou, ed) (q, Ted, Tdn, Tct, fd, sk, (rs_or sf sk)) rfl 2) rfl rfl rfl rfl (Nat.le_of_ble_eq_true rfl) (Nat.le_of_ble_eq_true rfl) (Nat.le_of_ble_eq_true rfl) (Nat.le_of_ble_eq_true rfl) (Nat.le_of_ble_eq_true rfl) (fun v h' n' hq => ?_)
          obtain ⟨rfl, rfl, rfl⟩ := hq
          iterate 1 refine za_step X rfl rfl rfl ?_
          refine za_iret X rfl ⟨rfl, ?_, ?_, rfl⟩ (Nat.le_refl _) (Nat.le_refl _)
          · show ms_at (za_ov (za_set (za_ov h [(142, mo_c (0, k, b) (r, pl, la, dn, vi, de, ct, en, ou, ed) (q, Ted, Tdn, Tct, fd, sk, (rs_or sf sk)))]) 142 (mo_c (2, k, b) (r, pl, la, dn, vi, de, ct, en, ou, ed) (q, Ted, Tdn, Tct, fd, sk, (rs_or sf sk)))) []) 2 ((oo, aa, bb, cc0, k), (Tr, Tpl, Tla, Tdn, Tvi, Tde, Tct, Ten, Tou, Ted), (sk, sf), b, q)
            rw [za_ov11]
            exact ⟨hok, hb1, hb4, (r, pl, la, dn, vi, de, ct, en, ou, ed), fd, za_set_eq _ _ _, ms_set hin _⟩
          · show ms_fr h (za_ov (za_set (za_ov h [(142, mo_c (0, k, b) (r, pl, la, dn, vi, de, ct, en, ou, ed) (q, Ted, Tdn, Tct, fd, sk, (rs_or sf sk)))]) 142 (mo_c (2, k, b) (r, pl, la, dn, vi, de, ct, en, ou, ed) (q, Ted, Tdn, Tct, fd, sk, (rs_or sf sk)))) [])
            rw [za_ov11]
            exact ms_fr1 h _
      | succ g ih =>
        intro i acc hi hR
        have hci : (nI i).toNatClampNeg = i := nI_clamp (by omega)
        have hvi : vp_in (nI i) 64 := vp_in_nI (by omega) (by decide)
        obtain ⟨d1, d2, d3, d4, d5⟩ := hr i (by show i < sk; omega)
        have hwi := hwo i (by show i < sk; omega)
        have d3' : (rr i).2.2.1 = wr_in (sf i) := d3.trans (le_w hwi).2.2.symm
        have hR' : rs_li sf x g (i + 1) (if wr_ou (sf i) = x then (if wr_in (sf i) < acc then wr_in (sf i) else acc) else acc) = rs_li sf x sk 0 256 := hR
        have at61 : ∀ acc', (if wr_ou (sf i) = x then (if wr_in (sf i) < acc then wr_in (sf i) else acc) else acc) = acc' → za_W p l e (za_rm 3 0 0) s m args below meth c D 4 (MQ below (za_Q D (fun v h' n' => ms_ps h n (sp_example ((oo, aa, bb, cc0, k), (Tr, Tpl, Tla, Tdn, Tvi, Tde, Tct, Ten, Tou, Ted), (sk, sf), b, q) x) v h' n')) args s 0 0 (fun q : Nat => D.2.2 ≤ q)) h n 0 0 61 [(0, vR 142), (1, vI x), (2, vI acc'), (3, vI (nI i))] [] [(142, mo_c (0, k, b) (r, pl, la, dn, vi, de, ct, en, ou, ed) (q, Ted, Tdn, Tct, fd, sk, (rs_or sf sk)))] := by
          intro acc' ha
          iterate 2 refine za_step X rfl rfl rfl ?_
          rw [show nI i + Int32.ofInt 1 = nI (i + 1) from nI_1 i]
          exact za_loc [(0, vR 142), (1, vI x), (2, vI acc'), (3, vI (nI (i + 1)))] rfl (ih (i + 1) acc' (by omega) (by rw [← ha]; exact hR'))
        iterate 3 refine za_step X rfl rfl rfl ?_
        refine za_icge X 67 rfl (by decide) (fun q2 => absurd ((nI_leI (by omega) (by omega)).mp q2) (by omega)) (fun q2 => ?_)
        iterate 3 refine za_step X rfl rfl rfl ?_
        refine za_iald X rfl r4 rfl hvi ?_
        rw [hci, show (rr i).2.2.2.1 = wr_ou (sf i) from d4]
        iterate 1 refine za_step X rfl rfl rfl ?_
        refine za_icne X 61 rfl (by decide) (fun q3 => at61 acc (if_neg q3)) (fun q3 => ?_)
        iterate 3 refine za_step X rfl rfl rfl ?_
        refine za_iald X rfl r3 rfl hvi ?_
        rw [hci, d3']
        iterate 1 refine za_step X rfl rfl rfl ?_
        refine za_icge X 61 rfl (by decide) (fun q4 => at61 acc (by rw [if_pos q3, if_neg (Int32.not_lt.mpr q4)])) (fun q4 => ?_)
        iterate 3 refine za_step X rfl rfl rfl ?_
        refine za_iald X rfl r3 rfl hvi ?_
        rw [hci, d3']
        iterate 1 refine za_step X rfl rfl rfl ?_
        exact za_loc [(0, vR 142), (1, vI x), (2, vI (wr_in (sf i))), (3, vI (nI i))] rfl (at61 (wr_in (sf i)) (by rw [if_pos q3, if_pos (Int32.not_le.mp q4)]))
    iterate 4 refine za_step X rfl rfl rfl ?_
    exact za_loc [(0, vR 142), (1, vI x), (2, vI (256 : Int32)), (3, vI (nI 0))] rfl (loop sk 0 256 (by omega) rfl)
  · have e1 : sp_example ((oo, aa, bb, cc0, k), (Tr, Tpl, Tla, Tdn, Tvi, Tde, Tct, Ten, Tou, Ted), (sk, sf), b, q) x = (1, 0, ((oo, aa, bb, cc0, k), (Tr, Tpl, Tla, Tdn, Tvi, Tde, Tct, Ten, Tou, Ted), (sk, sf), b, q)) := if_neg (by intro z; have w : mi_in x 0 3 = false := bI_0 q1; simp [mi_in, z.1, z.2] at w)
    rw [e1]
    iterate 2 refine za_step X rfl rfl rfl ?_
    refine za_callV (b := 142) (d := 0) (mc := 0) (ms := 0) (as := [vI 1]) (rest := []) X rfl cl_M_M_raise cy_M_raise cv_M_raise (c_M_raise l D (za_ov h [(142, mo_c (0, k, b) (r, pl, la, dn, vi, de, ct, en, ou, ed) (q, Ted, Tdn, Tct, fd, sk, (rs_or sf sk)))]) n (0, k, b) (r, pl, la, dn, vi, de, ct, en, ou, ed) (q, Ted, Tdn, Tct, fd, sk, (rs_or sf sk)) rfl 1) rfl rfl rfl rfl (Nat.le_of_ble_eq_true rfl) (Nat.le_of_ble_eq_true rfl) (Nat.le_of_ble_eq_true rfl) (Nat.le_of_ble_eq_true rfl) (Nat.le_of_ble_eq_true rfl) (fun v h' n' hq => ?_)
    obtain ⟨rfl, rfl, rfl⟩ := hq
    refine za_iret X rfl ⟨rfl, ?_, ?_, rfl⟩ (Nat.le_refl _) (Nat.le_refl _)
    · show ms_at (za_ov (za_set (za_ov h [(142, mo_c (0, k, b) (r, pl, la, dn, vi, de, ct, en, ou, ed) (q, Ted, Tdn, Tct, fd, sk, (rs_or sf sk)))]) 142 (mo_c (1, k, b) (r, pl, la, dn, vi, de, ct, en, ou, ed) (q, Ted, Tdn, Tct, fd, sk, (rs_or sf sk)))) []) 1 ((oo, aa, bb, cc0, k), (Tr, Tpl, Tla, Tdn, Tvi, Tde, Tct, Ten, Tou, Ted), (sk, sf), b, q)
      rw [za_ov11]
      exact ⟨hok, hb1, hb4, (r, pl, la, dn, vi, de, ct, en, ou, ed), fd, za_set_eq _ _ _, ms_set hin _⟩
    · show ms_fr h (za_ov (za_set (za_ov h [(142, mo_c (0, k, b) (r, pl, la, dn, vi, de, ct, en, ou, ed) (q, Ted, Tdn, Tct, fd, sk, (rs_or sf sk)))]) 142 (mo_c (1, k, b) (r, pl, la, dn, vi, de, ct, en, ou, ed) (q, Ted, Tdn, Tct, fd, sk, (rs_or sf sk)))) [])
      rw [za_ov11]
      exact ms_fr1 h _
set_option maxHeartbeats 4000000 in
set_option maxRecDepth 100000 in
theorem c_M_match (l : Launch) (D : za_D) (h : za_H) (n : Nat) (th : Int32) (σ : fs_T) (hσ : ms_at h th σ) (x y : Int32) : za_M l D Y_M_match 3 0 0 [vR 142, vI x, vI y] h n (ms_ps h n (sp_match σ x y)) := by
  obtain ⟨P, T, S, b, q⟩ := σ
  obtain ⟨hok, hb1, hb4, G, fd, hM, hin⟩ := hσ
  obtain ⟨oo, aa, bb, cc0, k⟩ := P
  obtain ⟨Tr, Tpl, Tla, Tdn, Tvi, Tde, Tct, Ten, Tou, Ted⟩ := T
  obtain ⟨r, pl, la, dn, vi, de, ct, en, ou, ed⟩ := G
  obtain ⟨sk, sf⟩ := S
  have hk64 : sk ≤ 64 := hin.2.2.2.2.2
  have hin0 := hin
  refine za_enter cd_M_match fl_M (by decide) cdok_M_match flok_M (Nat.le_of_ble_eq_true rfl) ?_
  intro p e s m args below meth c X hnm
  refine za_view [(142, mo_c (th, k, b) (r, pl, la, dn, vi, de, ct, en, ou, ed) (q, Ted, Tdn, Tct, fd, sk, (rs_or sf sk)))] (by simp [show h 142 = some (mo_c (th, k, b) (r, pl, la, dn, vi, de, ct, en, ou, ed) (q, Ted, Tdn, Tct, fd, sk, (rs_or sf sk))) from hM]) ?_
  iterate 5 refine za_step X rfl rfl rfl ?_
  refine za_callV (b := 142) (d := 1) (mc := 0) (ms := 0) (as := [vI x]) (rest := []) X rfl cl_M_M_isInput cy_M_isInput cv_M_isInput (c_M_isInput l D (za_ov h [(142, mo_c (0, k, b) (r, pl, la, dn, vi, de, ct, en, ou, ed) (q, Ted, Tdn, Tct, fd, sk, (rs_or sf sk)))]) n (0, k, b) (r, pl, la, dn, vi, de, ct, en, ou, ed) (q, Ted, Tdn, Tct, fd, sk, (rs_or sf sk)) rfl x) rfl rfl rfl rfl (Nat.le_of_ble_eq_true rfl) (Nat.le_of_ble_eq_true rfl) (Nat.le_of_ble_eq_true rfl) (Nat.le_of_ble_eq_true rfl) (Nat.le_of_ble_eq_true rfl) (fun v h' n' hq => ?_)
  obtain ⟨rfl, rfl, rfl⟩ := hq
  refine za_look (h1 := h) (v1 := [(142, mo_c (0, k, b) (r, pl, la, dn, vi, de, ct, en, ou, ed) (q, Ted, Tdn, Tct, fd, sk, (rs_or sf sk)))]) rfl ?_
  refine za_ifeq X 21 rfl (by decide) (fun q1 => ?_) (fun q1 => ?_)
  · have e1 : sp_match ((oo, aa, bb, cc0, k), (Tr, Tpl, Tla, Tdn, Tvi, Tde, Tct, Ten, Tou, Ted), (sk, sf), b, q) x y = (1, 0, ((oo, aa, bb, cc0, k), (Tr, Tpl, Tla, Tdn, Tvi, Tde, Tct, Ten, Tou, Ted), (sk, sf), b, q)) := if_neg (by unfold in_ok; rw [show pr_up (in_lg b) x = false from bI_0 q1]; simp)
    rw [e1]
    iterate 2 refine za_step X rfl rfl rfl ?_
    refine za_callV (b := 142) (d := 0) (mc := 0) (ms := 0) (as := [vI 1]) (rest := []) X rfl cl_M_M_raise cy_M_raise cv_M_raise (c_M_raise l D (za_ov h [(142, mo_c (0, k, b) (r, pl, la, dn, vi, de, ct, en, ou, ed) (q, Ted, Tdn, Tct, fd, sk, (rs_or sf sk)))]) n (0, k, b) (r, pl, la, dn, vi, de, ct, en, ou, ed) (q, Ted, Tdn, Tct, fd, sk, (rs_or sf sk)) rfl 1) rfl rfl rfl rfl (Nat.le_of_ble_eq_true rfl) (Nat.le_of_ble_eq_true rfl) (Nat.le_of_ble_eq_true rfl) (Nat.le_of_ble_eq_true rfl) (Nat.le_of_ble_eq_true rfl) (fun v h' n' hq => ?_)
    obtain ⟨rfl, rfl, rfl⟩ := hq
    refine za_iret X rfl ⟨rfl, ?_, ?_, rfl⟩ (Nat.le_refl _) (Nat.le_refl _)
    · show ms_at (za_ov (za_set (za_ov h [(142, mo_c (0, k, b) (r, pl, la, dn, vi, de, ct, en, ou, ed) (q, Ted, Tdn, Tct, fd, sk, (rs_or sf sk)))]) 142 (mo_c (1, k, b) (r, pl, la, dn, vi, de, ct, en, ou, ed) (q, Ted, Tdn, Tct, fd, sk, (rs_or sf sk)))) []) 1 ((oo, aa, bb, cc0, k), (Tr, Tpl, Tla, Tdn, Tvi, Tde, Tct, Ten, Tou, Ted), (sk, sf), b, q)
      rw [za_ov11]
      exact ⟨hok, hb1, hb4, (r, pl, la, dn, vi, de, ct, en, ou, ed), fd, za_set_eq _ _ _, ms_set hin _⟩
    · show ms_fr h (za_ov (za_set (za_ov h [(142, mo_c (0, k, b) (r, pl, la, dn, vi, de, ct, en, ou, ed) (q, Ted, Tdn, Tct, fd, sk, (rs_or sf sk)))]) 142 (mo_c (1, k, b) (r, pl, la, dn, vi, de, ct, en, ou, ed) (q, Ted, Tdn, Tct, fd, sk, (rs_or sf sk)))) [])
      rw [za_ov11]
      exact ms_fr1 h _
  · iterate 2 refine za_step X rfl rfl rfl ?_
    refine za_callV (b := 142) (d := 1) (mc := 0) (ms := 0) (as := [vI y]) (rest := []) X rfl cl_M_M_isInput cy_M_isInput cv_M_isInput (c_M_isInput l D (za_ov h [(142, mo_c (0, k, b) (r, pl, la, dn, vi, de, ct, en, ou, ed) (q, Ted, Tdn, Tct, fd, sk, (rs_or sf sk)))]) n (0, k, b) (r, pl, la, dn, vi, de, ct, en, ou, ed) (q, Ted, Tdn, Tct, fd, sk, (rs_or sf sk)) rfl y) rfl rfl rfl rfl (Nat.le_of_ble_eq_true rfl) (Nat.le_of_ble_eq_true rfl) (Nat.le_of_ble_eq_true rfl) (Nat.le_of_ble_eq_true rfl) (Nat.le_of_ble_eq_true rfl) (fun v h' n' hq => ?_)
    obtain ⟨rfl, rfl, rfl⟩ := hq
    refine za_look (h1 := h) (v1 := [(142, mo_c (0, k, b) (r, pl, la, dn, vi, de, ct, en, ou, ed) (q, Ted, Tdn, Tct, fd, sk, (rs_or sf sk)))]) rfl ?_
    refine za_ifne X 27 rfl (by decide) (fun q2 => ?_) (fun q2 => ?_)
    · have hio : in_ok b x y = true := by unfold in_ok; rw [show pr_up (in_lg b) x = true from bI_n0 q1, show pr_up (in_lg b) y = true from bI_n0 q2]; rfl
      iterate 3 refine za_step X rfl rfl rfl ?_
      refine za_callV (b := 142) (d := 2) (mc := 0) (ms := 0) (as := [vI x, vI y]) (rest := []) X rfl cl_M_M_go cy_M_go cv_M_go (c_M_go l D (za_ov h [(142, mo_c (0, k, b) (r, pl, la, dn, vi, de, ct, en, ou, ed) (q, Ted, Tdn, Tct, fd, sk, (rs_or sf sk)))]) n (0, k, b) (r, pl, la, dn, vi, de, ct, en, ou, ed) (q, Ted, Tdn, Tct, fd, sk, (rs_or sf sk)) ⟨rfl, hin.1⟩ (oo, aa, bb, cc0, k) rfl hin.2.1 hok x y) rfl rfl rfl rfl (Nat.le_of_ble_eq_true rfl) (Nat.le_of_ble_eq_true rfl) (Nat.le_of_ble_eq_true rfl) (Nat.le_of_ble_eq_true rfl) (Nat.le_of_ble_eq_true rfl) (fun v h' n' hq => ?_)
      obtain ⟨rfl, rfl, rfl⟩ := hq
      have hin2 : ms_in (mo_put (za_ov h [(142, mo_c (0, k, b) (r, pl, la, dn, vi, de, ct, en, ou, ed) (q, Ted, Tdn, Tct, fd, sk, (rs_or sf sk)))]) (0, k, b) (tr_run0 (oo, aa, bb, cc0, k) x y) (q, Ted, Tdn, Tct, fd, sk, (rs_or sf sk))) (oo, aa, bb, cc0, k) (sk, sf) (tr_run0 (oo, aa, bb, cc0, k) x y) := by
        obtain ⟨h147, hp, hw, hr, hx⟩ := hin
        exact ⟨(mo_put_at _ _ _ _).2, hp, hw, hr, hx⟩
      have hfr : ms_fr h (mo_put (za_ov h [(142, mo_c (0, k, b) (r, pl, la, dn, vi, de, ct, en, ou, ed) (q, Ted, Tdn, Tct, fd, sk, (rs_or sf sk)))]) (0, k, b) (tr_run0 (oo, aa, bb, cc0, k) x y) (q, Ted, Tdn, Tct, fd, sk, (rs_or sf sk))) := by
        intro j hj
        rw [mo_put_ne (by omega) (by omega), za_ov1, za_set_ne (by omega)]
      have hc := (mo_put_at (za_ov h [(142, mo_c (0, k, b) (r, pl, la, dn, vi, de, ct, en, ou, ed) (q, Ted, Tdn, Tct, fd, sk, (rs_or sf sk)))]) (0, k, b) (tr_run0 (oo, aa, bb, cc0, k) x y) (q, Ted, Tdn, Tct, fd, sk, (rs_or sf sk))).1
      have hsp : sp_match ((oo, aa, bb, cc0, k), (Tr, Tpl, Tla, Tdn, Tvi, Tde, Tct, Ten, Tou, Ted), (sk, sf), b, q) x y = (if rs_fa sf (tr_run0 (oo, aa, bb, cc0, k) x y) sk 0 < sk then (0, nI (rs_fa sf (tr_run0 (oo, aa, bb, cc0, k) x y) sk 0), ((oo, aa, bb, cc0, k), (Tr, Tpl, Tla, Tdn, Tvi, Tde, Tct, Ten, Tou, Ted), (sk, sf), b, q)) else (2, 0, ((oo, aa, bb, cc0, k), (Tr, Tpl, Tla, Tdn, Tvi, Tde, Tct, Ten, Tou, Ted), (sk, sf), b, q))) := if_pos hio
      rw [hsp]
      clear hsp
      generalize mo_put (za_ov h [(142, mo_c (0, k, b) (r, pl, la, dn, vi, de, ct, en, ou, ed) (q, Ted, Tdn, Tct, fd, sk, (rs_or sf sk)))]) (0, k, b) (tr_run0 (oo, aa, bb, cc0, k) x y) (q, Ted, Tdn, Tct, fd, sk, (rs_or sf sk)) = h2 at *
      generalize tr_run0 (oo, aa, bb, cc0, k) x y = T2 at *
      obtain ⟨r2, pl2, la2, dn2, vi2, de2, ct2, en2, ou2, ed2⟩ := T2
      have hin3 := hin2
      obtain ⟨h147, hp, hw, ⟨rr, ⟨r1, rb2, r3, r4, r5⟩, hr⟩, hwo, hk64'⟩ := hin3
      have loop : ∀ (g i : Nat), i + g = sk → rs_fa sf (r2, pl2, la2, dn2, vi2, de2, ct2, en2, ou2, ed2) g i = rs_fa sf (r2, pl2, la2, dn2, vi2, de2, ct2, en2, ou2, ed2) sk 0 → za_W p l e (za_rm 3 0 0) s m args below meth c D 4 (MQ below (za_Q D (fun v h' n' => ms_ps h n (if rs_fa sf (r2, pl2, la2, dn2, vi2, de2, ct2, en2, ou2, ed2) sk 0 < sk then (0, nI (rs_fa sf (r2, pl2, la2, dn2, vi2, de2, ct2, en2, ou2, ed2) sk 0), ((oo, aa, bb, cc0, k), (Tr, Tpl, Tla, Tdn, Tvi, Tde, Tct, Ten, Tou, Ted), (sk, sf), b, q)) else (2, 0, ((oo, aa, bb, cc0, k), (Tr, Tpl, Tla, Tdn, Tvi, Tde, Tct, Ten, Tou, Ted), (sk, sf), b, q))) v h' n')) args s 0 0 (fun q : Nat => D.2.2 ≤ q)) h2 n 0 0 35 [(0, vR 142), (1, vI x), (2, vI y), (3, vI (nI i))] [] [(142, mo_c (0, k, b) (r2, pl2, la2, dn2, vi2, de2, ct2, en2, ou2, ed2) (q, Ted, Tdn, Tct, fd, sk, (rs_or sf sk)))] := by
        intro g
        induction g with
        | zero =>
          intro i hi hR
          iterate 3 refine za_step X rfl rfl rfl ?_
          refine za_icge X 94 rfl (by decide) (fun q3 => ?_) (fun q3 => absurd ((nI_leI (by omega) (by omega)).mpr (by omega)) q3)
          have hF : rs_fa sf (r2, pl2, la2, dn2, vi2, de2, ct2, en2, ou2, ed2) sk 0 = i := hR.symm
          rw [if_neg (by omega)]
          iterate 2 refine za_step X rfl rfl rfl ?_
          refine za_callV (b := 142) (d := 0) (mc := 0) (ms := 0) (as := [vI 2]) (rest := []) X rfl cl_M_M_raise cy_M_raise cv_M_raise (c_M_raise l D (za_ov h2 [(142, mo_c (0, k, b) (r2, pl2, la2, dn2, vi2, de2, ct2, en2, ou2, ed2) (q, Ted, Tdn, Tct, fd, sk, (rs_or sf sk)))]) n (0, k, b) (r2, pl2, la2, dn2, vi2, de2, ct2, en2, ou2, ed2) (q, Ted, Tdn, Tct, fd, sk, (rs_or sf sk)) rfl 2) rfl rfl rfl rfl (Nat.le_of_ble_eq_true rfl) (Nat.le_of_ble_eq_true rfl) (Nat.le_of_ble_eq_true rfl) (Nat.le_of_ble_eq_true rfl) (Nat.le_of_ble_eq_true rfl) (fun v h' n' hq => ?_)
          obtain ⟨rfl, rfl, rfl⟩ := hq
          refine za_iret X rfl ⟨rfl, ?_, ?_, rfl⟩ (Nat.le_refl _) (Nat.le_refl _)
          · show ms_at (za_ov (za_set (za_ov h2 [(142, mo_c (0, k, b) (r2, pl2, la2, dn2, vi2, de2, ct2, en2, ou2, ed2) (q, Ted, Tdn, Tct, fd, sk, (rs_or sf sk)))]) 142 (mo_c (2, k, b) (r2, pl2, la2, dn2, vi2, de2, ct2, en2, ou2, ed2) (q, Ted, Tdn, Tct, fd, sk, (rs_or sf sk)))) []) 2 ((oo, aa, bb, cc0, k), (Tr, Tpl, Tla, Tdn, Tvi, Tde, Tct, Ten, Tou, Ted), (sk, sf), b, q)
            rw [za_ov11]
            exact ⟨hok, hb1, hb4, (r2, pl2, la2, dn2, vi2, de2, ct2, en2, ou2, ed2), fd, za_set_eq _ _ _, ms_set hin2 _⟩
          · show ms_fr h (za_ov (za_set (za_ov h2 [(142, mo_c (0, k, b) (r2, pl2, la2, dn2, vi2, de2, ct2, en2, ou2, ed2) (q, Ted, Tdn, Tct, fd, sk, (rs_or sf sk)))]) 142 (mo_c (2, k, b) (r2, pl2, la2, dn2, vi2, de2, ct2, en2, ou2, ed2) (q, Ted, Tdn, Tct, fd, sk, (rs_or sf sk)))) [])
            rw [za_ov11]
            exact fun j hj => (ms_fr1 h2 _ j hj).trans (hfr j hj)
        | succ g ih =>
          intro i hi hR
          have hci : (nI i).toNatClampNeg = i := nI_clamp (by omega)
          have hvi : vp_in (nI i) 64 := vp_in_nI (by omega) (by decide)
          obtain ⟨d1, d2, d3, d4, d5⟩ := hr i (by show i < sk; omega)
          have hR' : (if wr_ag (sf i) (r2, pl2, la2, dn2, vi2, de2, ct2, en2, ou2, ed2) = true then i else rs_fa sf (r2, pl2, la2, dn2, vi2, de2, ct2, en2, ou2, ed2) g (i + 1)) = rs_fa sf (r2, pl2, la2, dn2, vi2, de2, ct2, en2, ou2, ed2) sk 0 := hR
          have at88 : wr_ag (sf i) (r2, pl2, la2, dn2, vi2, de2, ct2, en2, ou2, ed2) = false → za_W p l e (za_rm 3 0 0) s m args below meth c D 4 (MQ below (za_Q D (fun v h' n' => ms_ps h n (if rs_fa sf (r2, pl2, la2, dn2, vi2, de2, ct2, en2, ou2, ed2) sk 0 < sk then (0, nI (rs_fa sf (r2, pl2, la2, dn2, vi2, de2, ct2, en2, ou2, ed2) sk 0), ((oo, aa, bb, cc0, k), (Tr, Tpl, Tla, Tdn, Tvi, Tde, Tct, Ten, Tou, Ted), (sk, sf), b, q)) else (2, 0, ((oo, aa, bb, cc0, k), (Tr, Tpl, Tla, Tdn, Tvi, Tde, Tct, Ten, Tou, Ted), (sk, sf), b, q))) v h' n')) args s 0 0 (fun q : Nat => D.2.2 ≤ q)) h2 n 0 0 88 [(0, vR 142), (1, vI x), (2, vI y), (3, vI (nI i))] [] [(142, mo_c (0, k, b) (r2, pl2, la2, dn2, vi2, de2, ct2, en2, ou2, ed2) (q, Ted, Tdn, Tct, fd, sk, (rs_or sf sk)))] := by
            intro ha
            iterate 2 refine za_step X rfl rfl rfl ?_
            rw [show nI i + Int32.ofInt 1 = nI (i + 1) from nI_1 i]
            exact za_loc [(0, vR 142), (1, vI x), (2, vI y), (3, vI (nI (i + 1)))] rfl (ih (i + 1) (by omega) (by rw [← hR', ha]; rfl))
          iterate 3 refine za_step X rfl rfl rfl ?_
          refine za_icge X 94 rfl (by decide) (fun q3 => absurd ((nI_leI (by omega) (by omega)).mp q3) (by omega)) (fun q3 => ?_)
          iterate 3 refine za_step X rfl rfl rfl ?_
          refine za_iald X rfl rb2 rfl hvi ?_
          rw [hci, show (rr i).2.1 = wr_ct (sf i) from d2]
          iterate 2 refine za_step X rfl rfl rfl ?_
          refine za_iclt X 88 rfl (by decide) (fun q4 => at88 (by
            have z : wr_ct (sf i) < tr_ct (r2, pl2, la2, dn2, vi2, de2, ct2, en2, ou2, ed2) := q4
            simp [wr_ag, z])) (fun q4 => ?_)
          iterate 10 refine za_step X rfl rfl rfl ?_
          refine za_lald X rfl r1 rfl hvi ?_
          rw [hci, show (rr i).1 = wr_de (sf i) from d1]
          iterate 6 refine za_step X rfl rfl rfl ?_
          refine za_ifne X 88 rfl (by decide) (fun q5 => at88 (by
            have z : ¬ wr_de (sf i) >>> ((40 - tr_ct (r2, pl2, la2, dn2, vi2, de2, ct2, en2, ou2, ed2)).toInt64 &&& 63) = tr_de (r2, pl2, la2, dn2, vi2, de2, ct2, en2, ou2, ed2) >>> ((40 - tr_ct (r2, pl2, la2, dn2, vi2, de2, ct2, en2, ou2, ed2)).toInt64 &&& 63) := fun w => q5 (lg_0.mpr w.symm)
            simp [wr_ag, z])) (fun q5 => ?_)
          have hag : wr_ag (sf i) (r2, pl2, la2, dn2, vi2, de2, ct2, en2, ou2, ed2) = true := by
            have z1 : ¬ wr_ct (sf i) < tr_ct (r2, pl2, la2, dn2, vi2, de2, ct2, en2, ou2, ed2) := q4
            have z2 : wr_de (sf i) >>> ((40 - tr_ct (r2, pl2, la2, dn2, vi2, de2, ct2, en2, ou2, ed2)).toInt64 &&& 63) = tr_de (r2, pl2, la2, dn2, vi2, de2, ct2, en2, ou2, ed2) >>> ((40 - tr_ct (r2, pl2, la2, dn2, vi2, de2, ct2, en2, ou2, ed2)).toInt64 &&& 63) := (lg_0.mp q5).symm
            unfold wr_ag
            rw [decide_eq_true z1, decide_eq_true z2]; rfl
          have hF : rs_fa sf (r2, pl2, la2, dn2, vi2, de2, ct2, en2, ou2, ed2) sk 0 = i := by rw [← hR', hag]; rfl
          rw [hF, if_pos (by omega)]
          iterate 1 refine za_step X rfl rfl rfl ?_
          refine za_iret X rfl ⟨rfl, ?_, ?_, rfl⟩ (Nat.le_refl _) (Nat.le_refl _)
          · show ms_at (za_ov h2 [(142, mo_c (0, k, b) (r2, pl2, la2, dn2, vi2, de2, ct2, en2, ou2, ed2) (q, Ted, Tdn, Tct, fd, sk, (rs_or sf sk)))]) 0 ((oo, aa, bb, cc0, k), (Tr, Tpl, Tla, Tdn, Tvi, Tde, Tct, Ten, Tou, Ted), (sk, sf), b, q)
            rw [za_ov1]
            exact ⟨hok, hb1, hb4, (r2, pl2, la2, dn2, vi2, de2, ct2, en2, ou2, ed2), fd, za_set_eq _ _ _, ms_set hin2 _⟩
          · show ms_fr h (za_ov h2 [(142, mo_c (0, k, b) (r2, pl2, la2, dn2, vi2, de2, ct2, en2, ou2, ed2) (q, Ted, Tdn, Tct, fd, sk, (rs_or sf sk)))])
            rw [za_ov1]
            exact fun j hj => (ms_fr1 h2 _ j hj).trans (hfr j hj)
      refine za_view [(142, mo_c (0, k, b) (r2, pl2, la2, dn2, vi2, de2, ct2, en2, ou2, ed2) (q, Ted, Tdn, Tct, fd, sk, (rs_or sf sk)))] (by simp [hc]) ?_
      iterate 2 refine za_step X rfl rfl rfl ?_
      exact za_loc [(0, vR 142), (1, vI x), (2, vI y), (3, vI (nI 0))] rfl (loop sk 0 (by omega) rfl)
    · have e1 : sp_match ((oo, aa, bb, cc0, k), (Tr, Tpl, Tla, Tdn, Tvi, Tde, Tct, Ten, Tou, Ted), (sk, sf), b, q) x y = (1, 0, ((oo, aa, bb, cc0, k), (Tr, Tpl, Tla, Tdn, Tvi, Tde, Tct, Ten, Tou, Ted), (sk, sf), b, q)) := if_neg (by unfold in_ok; rw [show pr_up (in_lg b) y = false from bI_0 q2]; simp)
      rw [e1]
      iterate 2 refine za_step X rfl rfl rfl ?_
      refine za_callV (b := 142) (d := 0) (mc := 0) (ms := 0) (as := [vI 1]) (rest := []) X rfl cl_M_M_raise cy_M_raise cv_M_raise (c_M_raise l D (za_ov h [(142, mo_c (0, k, b) (r, pl, la, dn, vi, de, ct, en, ou, ed) (q, Ted, Tdn, Tct, fd, sk, (rs_or sf sk)))]) n (0, k, b) (r, pl, la, dn, vi, de, ct, en, ou, ed) (q, Ted, Tdn, Tct, fd, sk, (rs_or sf sk)) rfl 1) rfl rfl rfl rfl (Nat.le_of_ble_eq_true rfl) (Nat.le_of_ble_eq_true rfl) (Nat.le_of_ble_eq_true rfl) (Nat.le_of_ble_eq_true rfl) (Nat.le_of_ble_eq_true rfl) (fun v h' n' hq => ?_)
      obtain ⟨rfl, rfl, rfl⟩ := hq
      refine za_iret X rfl ⟨rfl, ?_, ?_, rfl⟩ (Nat.le_refl _) (Nat.le_refl _)
      · show ms_at (za_ov (za_set (za_ov h [(142, mo_c (0, k, b) (r, pl, la, dn, vi, de, ct, en, ou, ed) (q, Ted, Tdn, Tct, fd, sk, (rs_or sf sk)))]) 142 (mo_c (1, k, b) (r, pl, la, dn, vi, de, ct, en, ou, ed) (q, Ted, Tdn, Tct, fd, sk, (rs_or sf sk)))) []) 1 ((oo, aa, bb, cc0, k), (Tr, Tpl, Tla, Tdn, Tvi, Tde, Tct, Ten, Tou, Ted), (sk, sf), b, q)
        rw [za_ov11]
        exact ⟨hok, hb1, hb4, (r, pl, la, dn, vi, de, ct, en, ou, ed), fd, za_set_eq _ _ _, ms_set hin _⟩
      · show ms_fr h (za_ov (za_set (za_ov h [(142, mo_c (0, k, b) (r, pl, la, dn, vi, de, ct, en, ou, ed) (q, Ted, Tdn, Tct, fd, sk, (rs_or sf sk)))]) 142 (mo_c (1, k, b) (r, pl, la, dn, vi, de, ct, en, ou, ed) (q, Ted, Tdn, Tct, fd, sk, (rs_or sf sk)))) [])
        rw [za_ov11]
        exact ms_fr1 h _
end
section
/-! ENTERING A WAY IN THE MODEL'S LIST -/
def mu (f : Nat → mw_T) (i : Nat) (q : mw_T) : Nat → mw_T := fun p => if p = i then q else f p
def m1 (f : Nat → mw_T) : za_C := .inl (1, 65, .inr (.inl (fun i => (f i).1)))
def m2 (f : Nat → mw_T) : za_C := .inl (0, 65, .inl (fun i => (f i).2.1))
def m3 (f : Nat → mw_T) : za_C := .inl (0, 65, .inl (fun i => (f i).2.2.1))
def m4 (f : Nat → mw_T) : za_C := .inl (0, 65, .inl (fun i => (f i).2.2.2.1))
def m5 (f : Nat → mw_T) : za_C := .inl (0, 65, .inl (fun i => (f i).2.2.2.2.1))
def m6 (f : Nat → mw_T) : za_C := .inl (0, 65, .inl (fun i => (f i).2.2.2.2.2))
theorem mu1 {f : Nat → mw_T} {i c : Nat} {q : mw_T} (hc : c = i) : m1 (mu f i q) = .inl (1, 65, .inr (.inl (vp_updL (fun p => (f p).1) c q.1))) := by
  subst hc
  unfold m1 mu
  congr 5
  funext p
  unfold vp_updL
  by_cases e : p = c
  · rw [if_pos e, if_pos e]
  · rw [if_neg e, if_neg e]
theorem mu2 {f : Nat → mw_T} {i c : Nat} {q : mw_T} (hc : c = i) : m2 (mu f i q) = .inl (0, 65, .inl (upd (fun p => (f p).2.1) c q.2.1)) := by
  subst hc
  unfold m2 mu
  congr 4
  funext p
  unfold upd
  by_cases e : p = c
  · rw [if_pos e, if_pos e]
  · rw [if_neg e, if_neg e]
theorem mu3 {f : Nat → mw_T} {i c : Nat} {q : mw_T} (hc : c = i) : m3 (mu f i q) = .inl (0, 65, .inl (upd (fun p => (f p).2.2.1) c q.2.2.1)) := by
  subst hc
  unfold m3 mu
  congr 4
  funext p
  unfold upd
  by_cases e : p = c
  · rw [if_pos e, if_pos e]
  · rw [if_neg e, if_neg e]
theorem mu4 {f : Nat → mw_T} {i c : Nat} {q : mw_T} (hc : c = i) : m4 (mu f i q) = .inl (0, 65, .inl (upd (fun p => (f p).2.2.2.1) c q.2.2.2.1)) := by
  subst hc
  unfold m4 mu
  congr 4
  funext p
  unfold upd
  by_cases e : p = c
  · rw [if_pos e, if_pos e]
  · rw [if_neg e, if_neg e]
theorem mu5 {f : Nat → mw_T} {i c : Nat} {q : mw_T} (hc : c = i) : m5 (mu f i q) = .inl (0, 65, .inl (upd (fun p => (f p).2.2.2.2.1) c q.2.2.2.2.1)) := by
  subst hc
  unfold m5 mu
  congr 4
  funext p
  unfold upd
  by_cases e : p = c
  · rw [if_pos e, if_pos e]
  · rw [if_neg e, if_neg e]
theorem mu6 {f : Nat → mw_T} {i c : Nat} {q : mw_T} (hc : c = i) : m6 (mu f i q) = .inl (0, 65, .inl (upd (fun p => (f p).2.2.2.2.2) c q.2.2.2.2.2)) := by
  subst hc
  unfold m6 mu
  congr 4
  funext p
  unfold upd
  by_cases e : p = c
  · rw [if_pos e, if_pos e]
  · rw [if_neg e, if_neg e]
theorem nI_dn (i : Nat) : nI (i + 1) + Int32.ofInt (-1) = nI i := by
  rw [← nI_pred i, Int32.sub_eq_add_neg]
  rfl
def me_pos (f : Nat → mw_T) (d : Int64) : Nat → Nat
  | 0 => 0
  | k + 1 => if d < (f k).1 then me_pos f d k else k + 1
def me_mv (f : Nat → mw_T) (i k : Nat) : Nat → mw_T := fun p => if i < p ∧ p ≤ k then f (p - 1) else f p
theorem me_mv_0 (f : Nat → mw_T) (k : Nat) : me_mv f k k = f := by
  funext p
  unfold me_mv
  rw [if_neg (by omega)]
theorem me_mv_s (f : Nat → mw_T) {i k : Nat} (h : i + 1 ≤ k) : mu (me_mv f (i + 1) k) (i + 1) (me_mv f (i + 1) k i) = me_mv f i k := by
  funext p
  unfold mu me_mv
  by_cases e : p = i + 1
  · subst e
    rw [if_pos rfl, if_neg (by omega), if_pos (by omega)]
    rfl
  · rw [if_neg e]
    by_cases e2 : i + 1 < p ∧ p ≤ k
    · rw [if_pos e2, if_pos (by omega)]
    · rw [if_neg e2, if_neg (by omega)]
def me_ent (k : Nat) (f : Nat → mw_T) (q : mw_T) : Nat × (Nat → mw_T) := if 0 < me_pos f q.1 k ∧ (f (me_pos f q.1 k - 1)).1 = q.1 then (k, f) else (k + 1, mu (me_mv f (me_pos f q.1 k) k) (me_pos f q.1 k) q)
theorem me_pos_le (f : Nat → mw_T) (d : Int64) : ∀ k, me_pos f d k ≤ k := by
  intro k
  induction k with
  | zero => exact Nat.le_refl _
  | succ k ih =>
    unfold me_pos
    split
    · omega
    · omega
theorem lg_le {x y : Int64} : (lg_cmp x y ≤ 0) ↔ ¬ y < x := by
  unfold lg_cmp
  by_cases h1 : y < x
  · rw [if_pos h1]
    exact ⟨fun q => absurd q (by decide), fun q => absurd h1 q⟩
  · rw [if_neg h1]
    by_cases h2 : x = y
    · rw [if_pos h2]; exact ⟨fun _ => h1, fun _ => by decide⟩
    · rw [if_neg h2]; exact ⟨fun _ => h1, fun _ => by decide⟩
set_option maxHeartbeats 4000000 in
set_option maxRecDepth 100000 in
theorem c_M_enter (l : Launch) (D : za_D) (h : za_H) (n : Nat) (A : ma_T) (G : tr_T) (q0 ln ld lc : Int32) (k rs : Nat) (cv : Int32) (hk : k ≤ 64) (hM : h 142 = some (mo_c A G (q0, ln, ld, lc, k, rs, cv))) (f : Nat → mw_T) (hw : mw_at h f) (x : Int32) : za_M l D Y_M_enter 0 0 0 [vR 142, vI x] h n (fun v h' n' => v = none ∧ h' 142 = some (mo_c A G (q0, ln, ld, lc, (me_ent k f (tr_de G, tr_ct G, x, tr_ou G, tr_ed G, tr_vi G)).1, rs, cv)) ∧ mw_at h' (me_ent k f (tr_de G, tr_ct G, x, tr_ou G, tr_ed G, tr_vi G)).2 ∧ (∀ j, j ≠ 142 → (j < 148 ∨ 153 < j) → h' j = h j) ∧ n = n') := by
  obtain ⟨th, n0, b⟩ := A
  obtain ⟨r, pl, la, dn, vi, de, ct, en, ou, ed⟩ := G
  show za_M l D Y_M_enter 0 0 0 [vR 142, vI x] h n (fun v h' n' => v = none ∧ h' 142 = some (mo_c (th, n0, b) (r, pl, la, dn, vi, de, ct, en, ou, ed) (q0, ln, ld, lc, (me_ent k f (de, ct, x, ou, ed, vi)).1, rs, cv)) ∧ mw_at h' (me_ent k f (de, ct, x, ou, ed, vi)).2 ∧ (∀ j, j ≠ 142 → (j < 148 ∨ 153 < j) → h' j = h j) ∧ n = n')
  obtain ⟨w1, w2, w3, w4, w5, w6⟩ := hw
  have hsame : za_ov h [(142, mo_c (th, n0, b) (r, pl, la, dn, vi, de, ct, en, ou, ed) (q0, ln, ld, lc, k, rs, cv)), (148, m1 f), (149, m2 f), (150, m3 f), (151, m4 f), (152, m5 f), (153, m6 f)] = h := za_ov_same (by simp [hM, m1, m2, m3, m4, m5, m6, w1, w2, w3, w4, w5, w6])
  have hpk := me_pos_le f de k
  refine za_enter cd_M_enter fl_M (by decide) cdok_M_enter flok_M (Nat.le_of_ble_eq_true rfl) ?_
  intro p e s m args below meth c X hnm
  have at152 : ∀ j, j = me_pos f de k → ¬ (0 < j ∧ (f (j - 1)).1 = de) → ∀ i0 : Int32, za_W p l e (za_rm 0 0 0) s m args below meth c D 4 (MQ below (za_Q D (fun v h' n' => v = none ∧ h' 142 = some (mo_c (th, n0, b) (r, pl, la, dn, vi, de, ct, en, ou, ed) (q0, ln, ld, lc, (me_ent k f (de, ct, x, ou, ed, vi)).1, rs, cv)) ∧ mw_at h' (me_ent k f (de, ct, x, ou, ed, vi)).2 ∧ (∀ j, j ≠ 142 → (j < 148 ∨ 153 < j) → h' j = h j) ∧ n = n')) args s 0 0 (fun q : Nat => D.2.2 ≤ q)) h n 0 0 152 [(0, vR 142), (1, vI x), (2, vI (nI j)), (3, vI i0)] [] [(142, mo_c (th, n0, b) (r, pl, la, dn, vi, de, ct, en, ou, ed) (q0, ln, ld, lc, k, rs, cv)), (148, m1 (me_mv f j k)), (149, m2 (me_mv f j k)), (150, m3 (me_mv f j k)), (151, m4 (me_mv f j k)), (152, m5 (me_mv f j k)), (153, m6 (me_mv f j k))] := by
    intro j hj hno i0
    have hjk : j ≤ k := by omega
    have hcj : (nI j).toNatClampNeg = j := nI_clamp (by omega)
    iterate 5 refine za_step X rfl rfl rfl ?_
    refine za_last X rfl rfl rfl (vp_in_nI (by omega) (by decide)) ?_
    refine za_look (h1 := h) (v1 := [(142, mo_c (th, n0, b) (r, pl, la, dn, vi, de, ct, en, ou, ed) (q0, ln, ld, lc, k, rs, cv)), (148, (m1 (mu (me_mv f j k) j (de, ct, x, ou, ed, vi)))), (149, m2 (me_mv f j k)), (150, m3 (me_mv f j k)), (151, m4 (me_mv f j k)), (152, m5 (me_mv f j k)), (153, m6 (me_mv f j k))]) (congrArg (fun z => za_ov h [(142, mo_c (th, n0, b) (r, pl, la, dn, vi, de, ct, en, ou, ed) (q0, ln, ld, lc, k, rs, cv)), (148, z), (149, m2 (me_mv f j k)), (150, m3 (me_mv f j k)), (151, m4 (me_mv f j k)), (152, m5 (me_mv f j k)), (153, m6 (me_mv f j k))]) (mu1 hcj)) ?_
    iterate 5 refine za_step X rfl rfl rfl ?_
    refine za_iast X rfl rfl rfl (vp_in_nI (by omega) (by decide)) ?_
    refine za_look (h1 := h) (v1 := [(142, mo_c (th, n0, b) (r, pl, la, dn, vi, de, ct, en, ou, ed) (q0, ln, ld, lc, k, rs, cv)), (148, m1 (mu (me_mv f j k) j (de, ct, x, ou, ed, vi))), (149, (m2 (mu (me_mv f j k) j (de, ct, x, ou, ed, vi)))), (150, m3 (me_mv f j k)), (151, m4 (me_mv f j k)), (152, m5 (me_mv f j k)), (153, m6 (me_mv f j k))]) (congrArg (fun z => za_ov h [(142, mo_c (th, n0, b) (r, pl, la, dn, vi, de, ct, en, ou, ed) (q0, ln, ld, lc, k, rs, cv)), (148, m1 (mu (me_mv f j k) j (de, ct, x, ou, ed, vi))), (149, z), (150, m3 (me_mv f j k)), (151, m4 (me_mv f j k)), (152, m5 (me_mv f j k)), (153, m6 (me_mv f j k))]) (mu2 hcj)) ?_
    iterate 4 refine za_step X rfl rfl rfl ?_
    refine za_iast X rfl rfl rfl (vp_in_nI (by omega) (by decide)) ?_
    refine za_look (h1 := h) (v1 := [(142, mo_c (th, n0, b) (r, pl, la, dn, vi, de, ct, en, ou, ed) (q0, ln, ld, lc, k, rs, cv)), (148, m1 (mu (me_mv f j k) j (de, ct, x, ou, ed, vi))), (149, m2 (mu (me_mv f j k) j (de, ct, x, ou, ed, vi))), (150, (m3 (mu (me_mv f j k) j (de, ct, x, ou, ed, vi)))), (151, m4 (me_mv f j k)), (152, m5 (me_mv f j k)), (153, m6 (me_mv f j k))]) (congrArg (fun z => za_ov h [(142, mo_c (th, n0, b) (r, pl, la, dn, vi, de, ct, en, ou, ed) (q0, ln, ld, lc, k, rs, cv)), (148, m1 (mu (me_mv f j k) j (de, ct, x, ou, ed, vi))), (149, m2 (mu (me_mv f j k) j (de, ct, x, ou, ed, vi))), (150, z), (151, m4 (me_mv f j k)), (152, m5 (me_mv f j k)), (153, m6 (me_mv f j k))]) (mu3 hcj)) ?_
    iterate 5 refine za_step X rfl rfl rfl ?_
    refine za_iast X rfl rfl rfl (vp_in_nI (by omega) (by decide)) ?_
    refine za_look (h1 := h) (v1 := [(142, mo_c (th, n0, b) (r, pl, la, dn, vi, de, ct, en, ou, ed) (q0, ln, ld, lc, k, rs, cv)), (148, m1 (mu (me_mv f j k) j (de, ct, x, ou, ed, vi))), (149, m2 (mu (me_mv f j k) j (de, ct, x, ou, ed, vi))), (150, m3 (mu (me_mv f j k) j (de, ct, x, ou, ed, vi))), (151, (m4 (mu (me_mv f j k) j (de, ct, x, ou, ed, vi)))), (152, m5 (me_mv f j k)), (153, m6 (me_mv f j k))]) (congrArg (fun z => za_ov h [(142, mo_c (th, n0, b) (r, pl, la, dn, vi, de, ct, en, ou, ed) (q0, ln, ld, lc, k, rs, cv)), (148, m1 (mu (me_mv f j k) j (de, ct, x, ou, ed, vi))), (149, m2 (mu (me_mv f j k) j (de, ct, x, ou, ed, vi))), (150, m3 (mu (me_mv f j k) j (de, ct, x, ou, ed, vi))), (151, z), (152, m5 (me_mv f j k)), (153, m6 (me_mv f j k))]) (mu4 hcj)) ?_
    iterate 5 refine za_step X rfl rfl rfl ?_
    refine za_iast X rfl rfl rfl (vp_in_nI (by omega) (by decide)) ?_
    refine za_look (h1 := h) (v1 := [(142, mo_c (th, n0, b) (r, pl, la, dn, vi, de, ct, en, ou, ed) (q0, ln, ld, lc, k, rs, cv)), (148, m1 (mu (me_mv f j k) j (de, ct, x, ou, ed, vi))), (149, m2 (mu (me_mv f j k) j (de, ct, x, ou, ed, vi))), (150, m3 (mu (me_mv f j k) j (de, ct, x, ou, ed, vi))), (151, m4 (mu (me_mv f j k) j (de, ct, x, ou, ed, vi))), (152, (m5 (mu (me_mv f j k) j (de, ct, x, ou, ed, vi)))), (153, m6 (me_mv f j k))]) (congrArg (fun z => za_ov h [(142, mo_c (th, n0, b) (r, pl, la, dn, vi, de, ct, en, ou, ed) (q0, ln, ld, lc, k, rs, cv)), (148, m1 (mu (me_mv f j k) j (de, ct, x, ou, ed, vi))), (149, m2 (mu (me_mv f j k) j (de, ct, x, ou, ed, vi))), (150, m3 (mu (me_mv f j k) j (de, ct, x, ou, ed, vi))), (151, m4 (mu (me_mv f j k) j (de, ct, x, ou, ed, vi))), (152, z), (153, m6 (me_mv f j k))]) (mu5 hcj)) ?_
    iterate 5 refine za_step X rfl rfl rfl ?_
    refine za_iast X rfl rfl rfl (vp_in_nI (by omega) (by decide)) ?_
    refine za_look (h1 := h) (v1 := [(142, mo_c (th, n0, b) (r, pl, la, dn, vi, de, ct, en, ou, ed) (q0, ln, ld, lc, k, rs, cv)), (148, m1 (mu (me_mv f j k) j (de, ct, x, ou, ed, vi))), (149, m2 (mu (me_mv f j k) j (de, ct, x, ou, ed, vi))), (150, m3 (mu (me_mv f j k) j (de, ct, x, ou, ed, vi))), (151, m4 (mu (me_mv f j k) j (de, ct, x, ou, ed, vi))), (152, m5 (mu (me_mv f j k) j (de, ct, x, ou, ed, vi))), (153, (m6 (mu (me_mv f j k) j (de, ct, x, ou, ed, vi))))]) (congrArg (fun z => za_ov h [(142, mo_c (th, n0, b) (r, pl, la, dn, vi, de, ct, en, ou, ed) (q0, ln, ld, lc, k, rs, cv)), (148, m1 (mu (me_mv f j k) j (de, ct, x, ou, ed, vi))), (149, m2 (mu (me_mv f j k) j (de, ct, x, ou, ed, vi))), (150, m3 (mu (me_mv f j k) j (de, ct, x, ou, ed, vi))), (151, m4 (mu (me_mv f j k) j (de, ct, x, ou, ed, vi))), (152, m5 (mu (me_mv f j k) j (de, ct, x, ou, ed, vi))), (153, z)]) (mu6 hcj)) ?_
    iterate 5 refine za_step X rfl rfl rfl ?_
    rw [show nI k + Int32.ofInt 1 = nI (k + 1) from nI_1 k]
    iterate 1 refine za_step X rfl rfl rfl ?_
    have he : me_ent k f (de, ct, x, ou, ed, vi) = (k + 1, mu (me_mv f j k) j (de, ct, x, ou, ed, vi)) := by
      unfold me_ent
      show (if 0 < me_pos f de k ∧ (f (me_pos f de k - 1)).1 = de then _ else (k + 1, mu (me_mv f (me_pos f de k) k) (me_pos f de k) (de, ct, x, ou, ed, vi))) = _
      rw [← hj, if_neg hno]
    refine za_vret X rfl ⟨rfl, ?_, ?_, ?_, rfl⟩ (Nat.le_refl _) (Nat.le_refl _)
    · rw [he]; rfl
    · rw [he]; exact ⟨rfl, rfl, rfl, rfl, rfl, rfl⟩
    · intro p hp1 hp2
      refine za_ov_off (v := [(142, _), (148, _), (149, _), (150, _), (151, _), (152, _), (153, _)]) ?_
      intro q hq
      simp only [List.mem_cons, List.not_mem_nil, or_false] at hq
      rcases hq with rfl | rfl | rfl | rfl | rfl | rfl | rfl <;> (show _ ≠ p; omega)
  have at57 : ∀ j, j = me_pos f de k → ¬ (0 < j ∧ (f (j - 1)).1 = de) → ∀ g i : Nat, i = j + g → i ≤ k → za_W p l e (za_rm 0 0 0) s m args below meth c D 4 (MQ below (za_Q D (fun v h' n' => v = none ∧ h' 142 = some (mo_c (th, n0, b) (r, pl, la, dn, vi, de, ct, en, ou, ed) (q0, ln, ld, lc, (me_ent k f (de, ct, x, ou, ed, vi)).1, rs, cv)) ∧ mw_at h' (me_ent k f (de, ct, x, ou, ed, vi)).2 ∧ (∀ j, j ≠ 142 → (j < 148 ∨ 153 < j) → h' j = h j) ∧ n = n')) args s 0 0 (fun q : Nat => D.2.2 ≤ q)) h n 0 0 57 [(0, vR 142), (1, vI x), (2, vI (nI j)), (3, vI (nI i))] [] [(142, mo_c (th, n0, b) (r, pl, la, dn, vi, de, ct, en, ou, ed) (q0, ln, ld, lc, k, rs, cv)), (148, m1 (me_mv f i k)), (149, m2 (me_mv f i k)), (150, m3 (me_mv f i k)), (151, m4 (me_mv f i k)), (152, m5 (me_mv f i k)), (153, m6 (me_mv f i k))] := by
    intro j hj hno g
    induction g with
    | zero =>
      intro i hi hik
      have hij : i = j := by omega
      rw [hij]
      iterate 2 refine za_step X rfl rfl rfl ?_
      refine za_icle X 152 rfl (by decide) (fun q1 => ?_) (fun q1 => absurd (Int32.le_refl _) q1)
      exact za_loc [(0, vR 142), (1, vI x), (2, vI (nI j)), (3, vI (nI j))] rfl (at152 j hj hno (nI j))
    | succ g ih =>
      intro i' hi hik
      obtain ⟨i, rfl⟩ : ∃ i, i' = i + 1 := ⟨j + g, by omega⟩
      have hci : (nI i).toNatClampNeg = i := nI_clamp (by omega)
      have hci1 : (nI (i + 1)).toNatClampNeg = i + 1 := nI_clamp (by omega)
      iterate 2 refine za_step X rfl rfl rfl ?_
      refine za_icle X 152 rfl (by decide) (fun q1 => absurd ((nI_leI (by omega) (by omega)).mp q1) (by omega)) (fun q1 => ?_)
      iterate 8 refine za_step X rfl rfl rfl ?_
      rw [show nI (i + 1) - Int32.ofInt 1 = nI i from nI_pred i]
      refine za_lald X rfl rfl rfl (vp_in_nI (by omega) (by decide)) ?_
      rw [hci]
      refine za_last X rfl rfl rfl (vp_in_nI (by omega) (by decide)) ?_
      refine za_look (h1 := h) (v1 := [(142, mo_c (th, n0, b) (r, pl, la, dn, vi, de, ct, en, ou, ed) (q0, ln, ld, lc, k, rs, cv)), (148, (m1 (mu (me_mv f (i + 1) k) (i + 1) (me_mv f (i + 1) k i)))), (149, m2 (me_mv f (i + 1) k)), (150, m3 (me_mv f (i + 1) k)), (151, m4 (me_mv f (i + 1) k)), (152, m5 (me_mv f (i + 1) k)), (153, m6 (me_mv f (i + 1) k))]) (congrArg (fun z => za_ov h [(142, mo_c (th, n0, b) (r, pl, la, dn, vi, de, ct, en, ou, ed) (q0, ln, ld, lc, k, rs, cv)), (148, z), (149, m2 (me_mv f (i + 1) k)), (150, m3 (me_mv f (i + 1) k)), (151, m4 (me_mv f (i + 1) k)), (152, m5 (me_mv f (i + 1) k)), (153, m6 (me_mv f (i + 1) k))]) (mu1 hci1)) ?_
      iterate 8 refine za_step X rfl rfl rfl ?_
      rw [show nI (i + 1) - Int32.ofInt 1 = nI i from nI_pred i]
      refine za_iald X rfl rfl rfl (vp_in_nI (by omega) (by decide)) ?_
      rw [hci]
      refine za_iast X rfl rfl rfl (vp_in_nI (by omega) (by decide)) ?_
      refine za_look (h1 := h) (v1 := [(142, mo_c (th, n0, b) (r, pl, la, dn, vi, de, ct, en, ou, ed) (q0, ln, ld, lc, k, rs, cv)), (148, m1 (mu (me_mv f (i + 1) k) (i + 1) (me_mv f (i + 1) k i))), (149, (m2 (mu (me_mv f (i + 1) k) (i + 1) (me_mv f (i + 1) k i)))), (150, m3 (me_mv f (i + 1) k)), (151, m4 (me_mv f (i + 1) k)), (152, m5 (me_mv f (i + 1) k)), (153, m6 (me_mv f (i + 1) k))]) (congrArg (fun z => za_ov h [(142, mo_c (th, n0, b) (r, pl, la, dn, vi, de, ct, en, ou, ed) (q0, ln, ld, lc, k, rs, cv)), (148, m1 (mu (me_mv f (i + 1) k) (i + 1) (me_mv f (i + 1) k i))), (149, z), (150, m3 (me_mv f (i + 1) k)), (151, m4 (me_mv f (i + 1) k)), (152, m5 (me_mv f (i + 1) k)), (153, m6 (me_mv f (i + 1) k))]) (mu2 hci1)) ?_
      iterate 8 refine za_step X rfl rfl rfl ?_
      rw [show nI (i + 1) - Int32.ofInt 1 = nI i from nI_pred i]
      refine za_iald X rfl rfl rfl (vp_in_nI (by omega) (by decide)) ?_
      rw [hci]
      refine za_iast X rfl rfl rfl (vp_in_nI (by omega) (by decide)) ?_
      refine za_look (h1 := h) (v1 := [(142, mo_c (th, n0, b) (r, pl, la, dn, vi, de, ct, en, ou, ed) (q0, ln, ld, lc, k, rs, cv)), (148, m1 (mu (me_mv f (i + 1) k) (i + 1) (me_mv f (i + 1) k i))), (149, m2 (mu (me_mv f (i + 1) k) (i + 1) (me_mv f (i + 1) k i))), (150, (m3 (mu (me_mv f (i + 1) k) (i + 1) (me_mv f (i + 1) k i)))), (151, m4 (me_mv f (i + 1) k)), (152, m5 (me_mv f (i + 1) k)), (153, m6 (me_mv f (i + 1) k))]) (congrArg (fun z => za_ov h [(142, mo_c (th, n0, b) (r, pl, la, dn, vi, de, ct, en, ou, ed) (q0, ln, ld, lc, k, rs, cv)), (148, m1 (mu (me_mv f (i + 1) k) (i + 1) (me_mv f (i + 1) k i))), (149, m2 (mu (me_mv f (i + 1) k) (i + 1) (me_mv f (i + 1) k i))), (150, z), (151, m4 (me_mv f (i + 1) k)), (152, m5 (me_mv f (i + 1) k)), (153, m6 (me_mv f (i + 1) k))]) (mu3 hci1)) ?_
      iterate 8 refine za_step X rfl rfl rfl ?_
      rw [show nI (i + 1) - Int32.ofInt 1 = nI i from nI_pred i]
      refine za_iald X rfl rfl rfl (vp_in_nI (by omega) (by decide)) ?_
      rw [hci]
      refine za_iast X rfl rfl rfl (vp_in_nI (by omega) (by decide)) ?_
      refine za_look (h1 := h) (v1 := [(142, mo_c (th, n0, b) (r, pl, la, dn, vi, de, ct, en, ou, ed) (q0, ln, ld, lc, k, rs, cv)), (148, m1 (mu (me_mv f (i + 1) k) (i + 1) (me_mv f (i + 1) k i))), (149, m2 (mu (me_mv f (i + 1) k) (i + 1) (me_mv f (i + 1) k i))), (150, m3 (mu (me_mv f (i + 1) k) (i + 1) (me_mv f (i + 1) k i))), (151, (m4 (mu (me_mv f (i + 1) k) (i + 1) (me_mv f (i + 1) k i)))), (152, m5 (me_mv f (i + 1) k)), (153, m6 (me_mv f (i + 1) k))]) (congrArg (fun z => za_ov h [(142, mo_c (th, n0, b) (r, pl, la, dn, vi, de, ct, en, ou, ed) (q0, ln, ld, lc, k, rs, cv)), (148, m1 (mu (me_mv f (i + 1) k) (i + 1) (me_mv f (i + 1) k i))), (149, m2 (mu (me_mv f (i + 1) k) (i + 1) (me_mv f (i + 1) k i))), (150, m3 (mu (me_mv f (i + 1) k) (i + 1) (me_mv f (i + 1) k i))), (151, z), (152, m5 (me_mv f (i + 1) k)), (153, m6 (me_mv f (i + 1) k))]) (mu4 hci1)) ?_
      iterate 8 refine za_step X rfl rfl rfl ?_
      rw [show nI (i + 1) - Int32.ofInt 1 = nI i from nI_pred i]
      refine za_iald X rfl rfl rfl (vp_in_nI (by omega) (by decide)) ?_
      rw [hci]
      refine za_iast X rfl rfl rfl (vp_in_nI (by omega) (by decide)) ?_
      refine za_look (h1 := h) (v1 := [(142, mo_c (th, n0, b) (r, pl, la, dn, vi, de, ct, en, ou, ed) (q0, ln, ld, lc, k, rs, cv)), (148, m1 (mu (me_mv f (i + 1) k) (i + 1) (me_mv f (i + 1) k i))), (149, m2 (mu (me_mv f (i + 1) k) (i + 1) (me_mv f (i + 1) k i))), (150, m3 (mu (me_mv f (i + 1) k) (i + 1) (me_mv f (i + 1) k i))), (151, m4 (mu (me_mv f (i + 1) k) (i + 1) (me_mv f (i + 1) k i))), (152, (m5 (mu (me_mv f (i + 1) k) (i + 1) (me_mv f (i + 1) k i)))), (153, m6 (me_mv f (i + 1) k))]) (congrArg (fun z => za_ov h [(142, mo_c (th, n0, b) (r, pl, la, dn, vi, de, ct, en, ou, ed) (q0, ln, ld, lc, k, rs, cv)), (148, m1 (mu (me_mv f (i + 1) k) (i + 1) (me_mv f (i + 1) k i))), (149, m2 (mu (me_mv f (i + 1) k) (i + 1) (me_mv f (i + 1) k i))), (150, m3 (mu (me_mv f (i + 1) k) (i + 1) (me_mv f (i + 1) k i))), (151, m4 (mu (me_mv f (i + 1) k) (i + 1) (me_mv f (i + 1) k i))), (152, z), (153, m6 (me_mv f (i + 1) k))]) (mu5 hci1)) ?_
      iterate 8 refine za_step X rfl rfl rfl ?_
      rw [show nI (i + 1) - Int32.ofInt 1 = nI i from nI_pred i]
      refine za_iald X rfl rfl rfl (vp_in_nI (by omega) (by decide)) ?_
      rw [hci]
      refine za_iast X rfl rfl rfl (vp_in_nI (by omega) (by decide)) ?_
      refine za_look (h1 := h) (v1 := [(142, mo_c (th, n0, b) (r, pl, la, dn, vi, de, ct, en, ou, ed) (q0, ln, ld, lc, k, rs, cv)), (148, m1 (mu (me_mv f (i + 1) k) (i + 1) (me_mv f (i + 1) k i))), (149, m2 (mu (me_mv f (i + 1) k) (i + 1) (me_mv f (i + 1) k i))), (150, m3 (mu (me_mv f (i + 1) k) (i + 1) (me_mv f (i + 1) k i))), (151, m4 (mu (me_mv f (i + 1) k) (i + 1) (me_mv f (i + 1) k i))), (152, m5 (mu (me_mv f (i + 1) k) (i + 1) (me_mv f (i + 1) k i))), (153, (m6 (mu (me_mv f (i + 1) k) (i + 1) (me_mv f (i + 1) k i))))]) (congrArg (fun z => za_ov h [(142, mo_c (th, n0, b) (r, pl, la, dn, vi, de, ct, en, ou, ed) (q0, ln, ld, lc, k, rs, cv)), (148, m1 (mu (me_mv f (i + 1) k) (i + 1) (me_mv f (i + 1) k i))), (149, m2 (mu (me_mv f (i + 1) k) (i + 1) (me_mv f (i + 1) k i))), (150, m3 (mu (me_mv f (i + 1) k) (i + 1) (me_mv f (i + 1) k i))), (151, m4 (mu (me_mv f (i + 1) k) (i + 1) (me_mv f (i + 1) k i))), (152, m5 (mu (me_mv f (i + 1) k) (i + 1) (me_mv f (i + 1) k i))), (153, z)]) (mu6 hci1)) ?_
      rw [me_mv_s f hik]
      iterate 2 refine za_step X rfl rfl rfl ?_
      rw [nI_dn i]
      exact za_loc [(0, vR 142), (1, vI x), (2, vI (nI j)), (3, vI (nI i))] rfl (ih i (by omega) (by omega))
  have at52 : ∀ j, j = me_pos f de k → ¬ (0 < j ∧ (f (j - 1)).1 = de) → za_W p l e (za_rm 0 0 0) s m args below meth c D 4 (MQ below (za_Q D (fun v h' n' => v = none ∧ h' 142 = some (mo_c (th, n0, b) (r, pl, la, dn, vi, de, ct, en, ou, ed) (q0, ln, ld, lc, (me_ent k f (de, ct, x, ou, ed, vi)).1, rs, cv)) ∧ mw_at h' (me_ent k f (de, ct, x, ou, ed, vi)).2 ∧ (∀ j, j ≠ 142 → (j < 148 ∨ 153 < j) → h' j = h j) ∧ n = n')) args s 0 0 (fun q : Nat => D.2.2 ≤ q)) h n 0 0 52 [(0, vR 142), (1, vI x), (2, vI (nI j))] [] [(142, mo_c (th, n0, b) (r, pl, la, dn, vi, de, ct, en, ou, ed) (q0, ln, ld, lc, k, rs, cv)), (148, m1 f), (149, m2 f), (150, m3 f), (151, m4 f), (152, m5 f), (153, m6 f)] := by
    intro j hj hno
    iterate 3 refine za_step X rfl rfl rfl ?_
    have z := at57 j hj hno (k - j) k (by omega) (Nat.le_refl _)
    rw [me_mv_0] at z
    exact za_loc [(0, vR 142), (1, vI x), (2, vI (nI j)), (3, vI (nI k))] rfl z
  have at31 : ∀ j, j = me_pos f de k → za_W p l e (za_rm 0 0 0) s m args below meth c D 4 (MQ below (za_Q D (fun v h' n' => v = none ∧ h' 142 = some (mo_c (th, n0, b) (r, pl, la, dn, vi, de, ct, en, ou, ed) (q0, ln, ld, lc, (me_ent k f (de, ct, x, ou, ed, vi)).1, rs, cv)) ∧ mw_at h' (me_ent k f (de, ct, x, ou, ed, vi)).2 ∧ (∀ j, j ≠ 142 → (j < 148 ∨ 153 < j) → h' j = h j) ∧ n = n')) args s 0 0 (fun q : Nat => D.2.2 ≤ q)) h n 0 0 31 [(0, vR 142), (1, vI x), (2, vI (nI j))] [] [(142, mo_c (th, n0, b) (r, pl, la, dn, vi, de, ct, en, ou, ed) (q0, ln, ld, lc, k, rs, cv)), (148, m1 f), (149, m2 f), (150, m3 f), (151, m4 f), (152, m5 f), (153, m6 f)] := by
    intro j hj
    iterate 1 refine za_step X rfl rfl rfl ?_
    cases j with
    | zero =>
      refine za_ifle X 52 rfl (by decide) (fun q1 => ?_) (fun q1 => absurd (by decide) q1)
      exact za_loc [(0, vR 142), (1, vI x), (2, vI (nI 0))] rfl (at52 0 hj (by omega))
    | succ i =>
      have hci : (nI i).toNatClampNeg = i := nI_clamp (by omega)
      refine za_ifle X 52 rfl (by decide) (fun q1 => absurd ((nI_leI (b := 0) (by omega) (by omega)).mp q1) (by omega)) (fun q1 => ?_)
      iterate 5 refine za_step X rfl rfl rfl ?_
      rw [show nI (i + 1) - Int32.ofInt 1 = nI i from nI_pred i]
      refine za_lald X rfl rfl rfl (vp_in_nI (by omega) (by decide)) ?_
      rw [hci]
      iterate 3 refine za_step X rfl rfl rfl ?_
      refine za_ifne X 52 rfl (by decide) (fun q2 => ?_) (fun q2 => ?_)
      · exact za_loc [(0, vR 142), (1, vI x), (2, vI (nI (i + 1)))] rfl (at52 (i + 1) hj (fun z => q2 (lg_0.mpr z.2)))
      · have he : me_ent k f (de, ct, x, ou, ed, vi) = (k, f) := by
          unfold me_ent
          show (if 0 < me_pos f de k ∧ (f (me_pos f de k - 1)).1 = de then _ else _) = _
          rw [← hj, if_pos ⟨by omega, lg_0.mp q2⟩]
        refine za_vret X rfl ⟨rfl, ?_, ?_, ?_, rfl⟩ (Nat.le_refl _) (Nat.le_refl _)
        · rw [he]; rfl
        · rw [he]; exact ⟨rfl, rfl, rfl, rfl, rfl, rfl⟩
        · intro p hp1 hp2
          rw [hsame]
  have loop : ∀ i, i ≤ k → me_pos f de i = me_pos f de k → za_W p l e (za_rm 0 0 0) s m args below meth c D 4 (MQ below (za_Q D (fun v h' n' => v = none ∧ h' 142 = some (mo_c (th, n0, b) (r, pl, la, dn, vi, de, ct, en, ou, ed) (q0, ln, ld, lc, (me_ent k f (de, ct, x, ou, ed, vi)).1, rs, cv)) ∧ mw_at h' (me_ent k f (de, ct, x, ou, ed, vi)).2 ∧ (∀ j, j ≠ 142 → (j < 148 ∨ 153 < j) → h' j = h j) ∧ n = n')) args s 0 0 (fun q : Nat => D.2.2 ≤ q)) h n 0 0 5 [(0, vR 142), (1, vI x), (2, vI (nI i))] [] [(142, mo_c (th, n0, b) (r, pl, la, dn, vi, de, ct, en, ou, ed) (q0, ln, ld, lc, k, rs, cv)), (148, m1 f), (149, m2 f), (150, m3 f), (151, m4 f), (152, m5 f), (153, m6 f)] := by
    intro i
    induction i with
    | zero =>
      intro hi hp
      iterate 1 refine za_step X rfl rfl rfl ?_
      refine za_ifle X 31 rfl (by decide) (fun q1 => ?_) (fun q1 => absurd (by decide) q1)
      exact za_loc [(0, vR 142), (1, vI x), (2, vI (nI 0))] rfl (at31 0 hp)
    | succ i ih =>
      intro hi hp
      have hci : (nI i).toNatClampNeg = i := nI_clamp (by omega)
      have hp' : (if de < (f i).1 then me_pos f de i else i + 1) = me_pos f de k := hp
      iterate 1 refine za_step X rfl rfl rfl ?_
      refine za_ifle X 31 rfl (by decide) (fun q1 => absurd ((nI_leI (b := 0) (by omega) (by omega)).mp q1) (by omega)) (fun q1 => ?_)
      iterate 5 refine za_step X rfl rfl rfl ?_
      rw [show nI (i + 1) - Int32.ofInt 1 = nI i from nI_pred i]
      refine za_lald X rfl rfl rfl (vp_in_nI (by omega) (by decide)) ?_
      rw [hci]
      iterate 3 refine za_step X rfl rfl rfl ?_
      refine za_ifle X 31 rfl (by decide) (fun q2 => ?_) (fun q2 => ?_)
      · exact za_loc [(0, vR 142), (1, vI x), (2, vI (nI (i + 1)))] rfl (at31 (i + 1) (by rw [← hp', if_neg (lg_le.mp q2)]))
      · have hlt : de < (f i).1 := Decidable.byContradiction (fun z => q2 (lg_le.mpr z))
        iterate 2 refine za_step X rfl rfl rfl ?_
        rw [nI_dn i]
        exact za_loc [(0, vR 142), (1, vI x), (2, vI (nI i))] rfl (ih (by omega) (by rw [← hp', if_pos hlt]))
  refine za_view [(142, mo_c (th, n0, b) (r, pl, la, dn, vi, de, ct, en, ou, ed) (q0, ln, ld, lc, k, rs, cv)), (148, m1 f), (149, m2 f), (150, m3 f), (151, m4 f), (152, m5 f), (153, m6 f)] (by simp [hM, m1, m2, m3, m4, m5, m6, w1, w2, w3, w4, w5, w6]) ?_
  iterate 3 refine za_step X rfl rfl rfl ?_
  exact za_loc [(0, vR 142), (1, vI x), (2, vI (nI k))] rfl (loop k (Nat.le_refl _) rfl)
end
section
/-! EXPLORING: the model's list and the class's, side by side -/
def so_ok (S : rs_T) : Prop := ∀ i j, i < j → j < S.1 → wr_de (S.2 i) < wr_de (S.2 j)
theorem i64_lt {a b : Int64} : a < b ↔ a.toInt < b.toInt := Int64.lt_iff_toInt_lt
theorem i64_eq {a b : Int64} : a = b ↔ a.toInt = b.toInt := Int64.toInt_inj.symm
theorem pos_spec (f : Nat → wr_T) (d : Int64) : ∀ (m i : Nat), (∀ t, i ≤ t → t < rs_pos f d m i → wr_de (f t) < d) ∧ (rs_pos f d m i < i + m → ¬ wr_de (f (rs_pos f d m i)) < d) := by
  intro m
  induction m with
  | zero => intro i; exact ⟨fun t h1 h2 => absurd (show t < i from h2) (by omega), fun h => absurd (show i < i + 0 from h) (by omega)⟩
  | succ m ih =>
    intro i
    unfold rs_pos
    by_cases h : wr_de (f i) < d
    · rw [if_pos h]
      obtain ⟨a1, a2⟩ := ih (i + 1)
      refine ⟨fun t h1 h2 => ?_, fun h2 => a2 (by omega)⟩
      by_cases e : t = i
      · subst e; exact h
      · exact a1 t (by omega) h2
    · rw [if_neg h]
      exact ⟨fun t h1 h2 => absurd h2 (by omega), fun _ => h⟩
theorem mpos_spec (f : Nat → mw_T) (d : Int64) : ∀ k, (∀ t, me_pos f d k ≤ t → t < k → d < (f t).1) ∧ (0 < me_pos f d k → ¬ d < (f (me_pos f d k - 1)).1) := by
  intro k
  induction k with
  | zero => exact ⟨fun t h1 h2 => absurd h2 (by omega), fun h => absurd (show 0 < 0 from h) (by omega)⟩
  | succ k ih =>
    unfold me_pos
    by_cases h : d < (f k).1
    · rw [if_pos h]
      refine ⟨fun t h1 h2 => ?_, ih.2⟩
      by_cases e : t = k
      · subst e; exact h
      · exact ih.1 t h1 (by omega)
    · rw [if_neg h]
      exact ⟨fun t h1 h2 => absurd h2 (by omega), fun _ => h⟩
def et_ok (k : Nat) (g : Nat → wr_T) (w : wr_T) (E : Nat × (Nat → mw_T)) : Option rs_T → Prop
  | none => E.1 = 65
  | some S' => E.1 = S'.1 ∧ (∀ i, i < S'.1 → E.2 i = mw_of (S'.2 i)) ∧ so_ok S' ∧ S'.1 ≤ 64 ∧ ∀ i, i < S'.1 → S'.2 i = w ∨ ∃ j, j < k ∧ S'.2 i = g j
theorem me_take {k : Nat} {g : Nat → wr_T} {f : Nat → mw_T} (w : wr_T) (hk : k ≤ 64) (hs : so_ok (k, g)) (ha : ∀ i, i < k → f i = mw_of (g i)) : et_ok k g w (me_ent k f (mw_of w)) (rs_take (k, g) w) := by
  have hle := rs_pos_le g (wr_de w) k 0
  have hml := me_pos_le f (wr_de w) k
  obtain ⟨p1, p2⟩ := pos_spec g (wr_de w) k 0
  obtain ⟨m1, m2⟩ := mpos_spec f (wr_de w) k
  have hfa : ∀ i, i < k → (f i).1 = wr_de (g i) := fun i hi => by rw [ha i hi]; rfl
  show et_ok k g w (if 0 < me_pos f (wr_de w) k ∧ (f (me_pos f (wr_de w) k - 1)).1 = wr_de w then (k, f) else (k + 1, mu (me_mv f (me_pos f (wr_de w) k) k) (me_pos f (wr_de w) k) (mw_of w))) (if rs_pos g (wr_de w) k 0 < k ∧ wr_de (g (rs_pos g (wr_de w) k 0)) = wr_de w then some (k, g) else if k = 64 then none else some (k + 1, rs_ins g (rs_pos g (wr_de w) k 0) w))
  generalize rs_pos g (wr_de w) k 0 = p at *
  generalize me_pos f (wr_de w) k = m at *
  by_cases hc : p < k ∧ wr_de (g p) = wr_de w
  · rw [if_pos hc]
    have hm : m = p + 1 := by
      rcases Nat.lt_trichotomy m (p + 1) with z | z | z
      · have := m1 p (by omega) hc.1
        rw [hfa p hc.1, hc.2, i64_lt] at this
        omega
      · exact z
      · have a := m2 (by omega)
        have b := hs p (m - 1) (by omega) (by show m - 1 < k; omega)
        rw [hfa (m - 1) (by omega)] at a
        have b' : wr_de (g p) < wr_de (g (m - 1)) := b
        rw [hc.2] at b'
        exact absurd b' a
    rw [if_pos ⟨by omega, by rw [hm]; show (f p).1 = _; rw [hfa p hc.1, hc.2]⟩]
    exact ⟨rfl, ha, hs, hk, fun i hi => Or.inr ⟨i, hi, rfl⟩⟩
  · rw [if_neg hc]
    have hgt : p < k → wr_de w < wr_de (g p) := by
      intro z
      have a := p2 (by omega)
      have b : ¬ wr_de (g p) = wr_de w := fun e => hc ⟨z, e⟩
      rw [i64_lt] at a ⊢
      rw [i64_eq] at b
      omega
    have hm : m = p := by
      rcases Nat.lt_trichotomy m p with z | z | z
      · have a := m1 (p - 1) (by omega) (by omega)
        have b := p1 (p - 1) (by omega) (by omega)
        rw [hfa (p - 1) (by omega)] at a
        rw [i64_lt] at a b
        omega
      · exact z
      · have a := m2 (by omega)
        rw [hfa (m - 1) (by omega)] at a
        have b := hgt (by omega)
        by_cases e : m - 1 = p
        · rw [e] at a; exact absurd b a
        · have c : wr_de (g p) < wr_de (g (m - 1)) := hs p (m - 1) (by omega) (by show m - 1 < k; omega)
          rw [i64_lt] at a b c
          omega
    subst hm
    have hno : ¬ (0 < m ∧ (f (m - 1)).1 = wr_de w) := by
      intro z
      have b := p1 (m - 1) (by omega) (by omega)
      have z2 := z.2
      rw [hfa (m - 1) (by omega)] at z2
      rw [z2, i64_lt] at b
      omega
    rw [if_neg hno]
    by_cases h64 : k = 64
    · rw [if_pos h64]
      show k + 1 = 65
      omega
    · rw [if_neg h64]
      refine ⟨rfl, fun i hi => ?_, fun i j hij hj => ?_, by show k + 1 ≤ 64; omega, fun i hi => ?_⟩
      · have hi' : i < k + 1 := hi
        show mu (me_mv f m k) m (mw_of w) i = mw_of (rs_ins g m w i)
        unfold mu me_mv rs_ins
        by_cases e1 : i = m
        · rw [if_pos e1, if_neg (by omega), if_pos e1]
        · rw [if_neg e1]
          by_cases e2 : i < m
          · rw [if_neg (by omega), if_pos e2]; exact ha i (by omega)
          · rw [if_pos (by omega), if_neg e2, if_neg e1]; exact ha (i - 1) (by omega)
      · have hj' : j < k + 1 := hj
        show wr_de (rs_ins g m w i) < wr_de (rs_ins g m w j)
        unfold rs_ins
        by_cases a1 : i < m
        · rw [if_pos a1]
          by_cases b1 : j < m
          · rw [if_pos b1]; exact hs i j hij (by show j < k; omega)
          · rw [if_neg b1]
            by_cases b2 : j = m
            · rw [if_pos b2]; exact p1 i (by omega) a1
            · rw [if_neg b2]; exact hs i (j - 1) (by omega) (by show j - 1 < k; omega)
        · rw [if_neg a1, if_neg (by omega : ¬ j < m)]
          by_cases a2 : i = m
          · rw [if_pos a2, if_neg (by omega : ¬ j = m)]
            have b := hgt (by omega)
            by_cases e : j - 1 = m
            · rw [e]; exact b
            · have c : wr_de (g m) < wr_de (g (j - 1)) := hs m (j - 1) (by omega) (by show j - 1 < k; omega)
              rw [i64_lt] at b c ⊢
              omega
          · rw [if_neg a2, if_neg (by omega : ¬ j = m)]
            exact hs (i - 1) (j - 1) (by omega) (by show j - 1 < k; omega)
      · have hi' : i < k + 1 := hi
        show rs_ins g m w i = w ∨ ∃ j, j < k ∧ rs_ins g m w i = g j
        unfold rs_ins
        by_cases e1 : i < m
        · rw [if_pos e1]; exact Or.inr ⟨i, by omega, rfl⟩
        · rw [if_neg e1]
          by_cases e2 : i = m
          · rw [if_pos e2]; exact Or.inl rfl
          · rw [if_neg e2]; exact Or.inr ⟨i - 1, by omega, rfl⟩
/-- the same exploring, by one number -/
def ex_fl (P : pr_T) (N : Nat) : Nat → Nat → rs_T → Option rs_T
  | 0, _, S => some S
  | g + 1, m, S => match rs_take S (ex_way P (m / N) (m % N)) with
    | none => none
    | some S' => ex_fl P N g (m + 1) S'
theorem fl_row (P : pr_T) (N x : Nat) : ∀ (gy y m : Nat) (S : rs_T), y + gy = N → ex_fl P N (gy + m) (x * N + y) S = (match ex_row P x gy y S with | none => none | some S' => ex_fl P N m ((x + 1) * N) S') := by
  intro gy
  induction gy with
  | zero =>
    intro y m S hy
    have e : x * N + y = (x + 1) * N := by rw [Nat.succ_mul]; omega
    rw [Nat.zero_add, e]; rfl
  | succ gy ih =>
    intro y m S hy
    have hN : 0 < N := by omega
    have e1 : (x * N + y) / N = x := by rw [Nat.mul_comm, Nat.mul_add_div hN, Nat.div_eq_of_lt (by omega)]; omega
    have e2 : (x * N + y) % N = y := by rw [Nat.mul_comm, Nat.mul_add_mod, Nat.mod_eq_of_lt (by omega)]
    rw [show gy + 1 + m = (gy + m) + 1 by omega]
    show (match rs_take S (ex_way P ((x * N + y) / N) ((x * N + y) % N)) with | none => none | some S' => ex_fl P N (gy + m) (x * N + y + 1) S') = (match (match rs_take S (ex_way P x y) with | none => none | some S' => ex_row P x gy (y + 1) S') with | none => none | some S' => ex_fl P N m ((x + 1) * N) S')
    rw [e1, e2]
    cases rs_take S (ex_way P x y) with
    | none => rfl
    | some S' => exact ih (y + 1) m S' (by omega)
theorem fl_all (P : pr_T) (N : Nat) : ∀ (gx x : Nat) (S : rs_T), ex_fl P N (gx * N) (x * N) S = ex_all P N gx x S := by
  intro gx
  induction gx with
  | zero => intro x S; rw [Nat.zero_mul]; rfl
  | succ gx ih =>
    intro x S
    rw [Nat.succ_mul, Nat.add_comm]
    have := fl_row P N x N 0 (gx * N) S (by omega)
    rw [Nat.add_zero] at this
    rw [this]
    show _ = (match ex_row P x N 0 S with | none => none | some S' => ex_all P N gx (x + 1) S')
    cases ex_row P x N 0 S with
    | none => rfl
    | some S' => exact ih (x + 1) S'
theorem fl_res (P : pr_T) (b : Nat) : ex_fl P (2 ^ b) (2 ^ b * 2 ^ b) 0 (0, fun _ => wr_0) = ex_res P b := by
  have := fl_all P (2 ^ b) (2 ^ b) 0 (0, fun _ => wr_0)
  rw [Nat.zero_mul] at this
  exact this
theorem ins_ct (G : tr_T) (op a1 b1 c1 : Int32) : tr_ct (tr_ins G op a1 b1 c1) = tr_ct G ∨ tr_ct (tr_ins G op a1 b1 c1) = tr_ct G + 1 := by
  obtain ⟨r, pl, la, dn, vi, de, ct, en, ou, ed⟩ := G
  unfold tr_ins tr_goif tr_div tr_clm
  repeat' split
  all_goals first | exact Or.inl rfl | exact Or.inr rfl
theorem lop_ct (P : pr_T) : ∀ (f : Nat) (T : tr_T) (c0 : Nat), tr_ct T = nI c0 → ∃ c1, c1 ≤ c0 + f ∧ tr_ct (tr_lop P f T) = nI c1 := by
  intro f
  induction f with
  | zero => intro T c0 h; exact ⟨c0, by omega, h⟩
  | succ f ih =>
    intro T c0 h
    show ∃ c1, c1 ≤ c0 + (f + 1) ∧ tr_ct (if tr_en T = 0 ∧ pr_has P (tr_pl T) = true then tr_lop P f (tr_stp P T) else T) = nI c1
    split
    · have hp : tr_ct (tr_pre T) = nI c0 := by
        obtain ⟨r, pl, la, dn, vi, de, ct, en, ou, ed⟩ := T
        exact h
      rcases ins_ct (tr_pre T) (P.1 (tr_pl T).toNatClampNeg) (P.2.1 (tr_pl T).toNatClampNeg) (P.2.2.1 (tr_pl T).toNatClampNeg) (P.2.2.2.1 (tr_pl T).toNatClampNeg) with z | z
      · obtain ⟨c1, h1, h2⟩ := ih (tr_stp P T) c0 (z.trans hp)
        exact ⟨c1, by omega, h2⟩
      · obtain ⟨c1, h1, h2⟩ := ih (tr_stp P T) (c0 + 1) (z.trans (by rw [hp, nI_1]))
        exact ⟨c1, by omega, h2⟩
    · exact ⟨c0, by omega, h⟩
theorem end_ct (P : pr_T) (T : tr_T) : tr_ct (tr_end P T) = tr_ct T := by
  obtain ⟨r, pl, la, dn, vi, de, ct, en, ou, ed⟩ := T
  unfold tr_end
  repeat' split
  all_goals rfl
theorem run_ct (P : pr_T) (x y : Int32) : ∃ c1, c1 ≤ 40 ∧ tr_ct (tr_run0 P x y) = nI c1 := by
  obtain ⟨c1, h1, h2⟩ := lop_ct P 40 (tr_beg tr_0 x y) 0 rfl
  exact ⟨c1, by omega, (end_ct P _).trans h2⟩
theorem way_ok (P : pr_T) {a b : Nat} (ha : a < 16) (hb : b < 16) : wr_ok (ex_way P a b) := by
  obtain ⟨c1, h1, h2⟩ := run_ct P (nI a) (nI b)
  unfold ex_way
  generalize tr_run0 P (nI a) (nI b) = T at *
  obtain ⟨r, pl, la, dn, vi, de, ct, en, ou, ed⟩ := T
  exact ⟨⟨a, b, ha, hb, rfl, rfl⟩, c1, h1, h2⟩
theorem way_mw (T : tr_T) (x y : Int32) : (tr_de T, tr_ct T, 16 * x + y, tr_ou T, tr_ed T, tr_vi T) = mw_of (wr_of T x y) := by
  obtain ⟨r, pl, la, dn, vi, de, ct, en, ou, ed⟩ := T
  rfl
theorem nn_all : ∀ b : Fin 4, ∀ m : Fin 256, nI m.val >>> (nI (b.val + 1) &&& 31) = nI (m.val / 2 ^ (b.val + 1)) ∧ nI m.val &&& (((1 : Int32) <<< (nI (b.val + 1) &&& 31)) - 1) = nI (m.val % 2 ^ (b.val + 1)) := by decide +kernel
theorem nn_b : ∀ b : Fin 4, ((1 : Int32) <<< ((2 * nI (b.val + 1)) &&& 31)) = nI (2 ^ (b.val + 1) * 2 ^ (b.val + 1)) := by decide +kernel
theorem nn_w {b m : Nat} (h1 : 1 ≤ b) (h4 : b ≤ 4) (hm : m < 256) : nI m >>> (nI b &&& 31) = nI (m / 2 ^ b) ∧ nI m &&& (((1 : Int32) <<< (nI b &&& 31)) - 1) = nI (m % 2 ^ b) := by
  have := nn_all ⟨b - 1, by omega⟩ ⟨m, hm⟩
  rw [show (⟨b - 1, by omega⟩ : Fin 4).val + 1 = b by show b - 1 + 1 = b; omega] at this
  exact this
theorem nn_c {b : Nat} (h1 : 1 ≤ b) (h4 : b ≤ 4) : ((1 : Int32) <<< ((2 * nI b) &&& 31)) = nI (2 ^ b * 2 ^ b) := by
  have := nn_b ⟨b - 1, by omega⟩
  rw [show (⟨b - 1, by omega⟩ : Fin 4).val + 1 = b by show b - 1 + 1 = b; omega] at this
  exact this
end
section
def nw1 (f : Nat → mw_T) : za_C := .inl (1, 64, .inr (.inl (fun i => (f i).1)))
def nw2 (f : Nat → mw_T) : za_C := .inl (0, 64, .inl (fun i => (f i).2.1))
def nw3 (f : Nat → mw_T) : za_C := .inl (0, 64, .inl (fun i => (f i).2.2.1))
def nw4 (f : Nat → mw_T) : za_C := .inl (0, 64, .inl (fun i => (f i).2.2.2.1))
def nw5 (f : Nat → mw_T) : za_C := .inl (0, 64, .inl (fun i => (f i).2.2.2.2.1))
theorem nu1 {f : Nat → mw_T} {i c : Nat} {q : mw_T} (hc : c = i) : nw1 (mu f i q) = .inl (1, 64, .inr (.inl (vp_updL (fun p => (f p).1) c q.1))) := by
  subst hc
  unfold nw1 mu
  congr 5
  funext p
  unfold vp_updL
  by_cases e : p = c
  · rw [if_pos e, if_pos e]
  · rw [if_neg e, if_neg e]
theorem nu2 {f : Nat → mw_T} {i c : Nat} {q : mw_T} (hc : c = i) : nw2 (mu f i q) = .inl (0, 64, .inl (upd (fun p => (f p).2.1) c q.2.1)) := by
  subst hc
  unfold nw2 mu
  congr 4
  funext p
  unfold upd
  by_cases e : p = c
  · rw [if_pos e, if_pos e]
  · rw [if_neg e, if_neg e]
theorem nu3 {f : Nat → mw_T} {i c : Nat} {q : mw_T} (hc : c = i) : nw3 (mu f i q) = .inl (0, 64, .inl (upd (fun p => (f p).2.2.1) c q.2.2.1)) := by
  subst hc
  unfold nw3 mu
  congr 4
  funext p
  unfold upd
  by_cases e : p = c
  · rw [if_pos e, if_pos e]
  · rw [if_neg e, if_neg e]
theorem nu4 {f : Nat → mw_T} {i c : Nat} {q : mw_T} (hc : c = i) : nw4 (mu f i q) = .inl (0, 64, .inl (upd (fun p => (f p).2.2.2.1) c q.2.2.2.1)) := by
  subst hc
  unfold nw4 mu
  congr 4
  funext p
  unfold upd
  by_cases e : p = c
  · rw [if_pos e, if_pos e]
  · rw [if_neg e, if_neg e]
theorem nu5 {f : Nat → mw_T} {i c : Nat} {q : mw_T} (hc : c = i) : nw5 (mu f i q) = .inl (0, 64, .inl (upd (fun p => (f p).2.2.2.2.1) c q.2.2.2.2.1)) := by
  subst hc
  unfold nw5 mu
  congr 4
  funext p
  unfold upd
  by_cases e : p = c
  · rw [if_pos e, if_pos e]
  · rw [if_neg e, if_neg e]
def me_cp (f r : Nat → mw_T) (i : Nat) : Nat → mw_T := fun p => if p < i then f p else r p
theorem me_cp_s (f r : Nat → mw_T) (i : Nat) : mu (me_cp f r i) i (f i) = me_cp f r (i + 1) := by
  funext p
  unfold mu me_cp
  by_cases e : p = i
  · subst e; rw [if_pos rfl, if_pos (by omega)]
  · rw [if_neg e]
    by_cases e2 : p < i
    · rw [if_pos e2, if_pos (by omega)]
    · rw [if_neg e2, if_neg (by omega)]
def es_at (h h1 : za_H) (A : ma_T) (G : tr_T) (Z : mz_T) (f : Nat → mw_T) : Prop := h1 142 = some (mo_c A G Z) ∧ h1 147 = some (tr_g G) ∧ mw_at h1 f ∧ ∀ j, j ≠ 142 → j ≠ 147 → (j < 148 ∨ 153 < j) → h1 j = h j
def es_ok (S : rs_T) (f : Nat → mw_T) : Prop := so_ok S ∧ (∀ i, i < S.1 → f i = mw_of (S.2 i)) ∧ (∀ i, i < S.1 → wr_ok (S.2 i)) ∧ S.1 ≤ 64
theorem es_in {h h1 : za_H} {A : ma_T} {G G0 : tr_T} {Z : mz_T} {f : Nat → mw_T} {P : pr_T} {S : rs_T} (hin : ms_in h P S G0) (he : es_at h h1 A G Z f) : ms_in h1 P S G := by
  obtain ⟨o, a, b, c, k⟩ := P
  obtain ⟨h1', ⟨p1, p2, p3, p4⟩, _, ⟨r, ⟨r1, r2, r3, r4, r5⟩, hr⟩, h5⟩ := hin
  obtain ⟨e1, e2, e3, e⟩ := he
  refine ⟨e2, ⟨?_, ?_, ?_, ?_⟩, ⟨f, e3⟩, ⟨r, ⟨?_, ?_, ?_, ?_, ?_⟩, hr⟩, h5⟩
  all_goals rw [e _ (by omega) (by omega) (by omega)]
  all_goals assumption
set_option maxHeartbeats 4000000 in
set_option maxRecDepth 100000 in
theorem c_M_explore (l : Launch) (D : za_D) (h : za_H) (n : Nat) (th : Int32) (σ : fs_T) (hσ : ms_at h th σ)  : za_M l D Y_M_explore 3 0 0 [vR 142] h n (ms_ps h n (sp_explore σ)) := by
  obtain ⟨P, T, S, b, q⟩ := σ
  obtain ⟨hok, hb1, hb4, G, fd, hM, hin⟩ := hσ
  obtain ⟨oo, aa, bb, cc0, k⟩ := P
  obtain ⟨Tr, Tpl, Tla, Tdn, Tvi, Tde, Tct, Ten, Tou, Ted⟩ := T
  obtain ⟨r, pl, la, dn, vi, de, ct, en, ou, ed⟩ := G
  obtain ⟨sk, sf⟩ := S
  have hk64 : sk ≤ 64 := hin.2.2.2.2.2
  have hN : 2 ^ b ≤ 16 := by rcases (show b = 1 ∨ b = 2 ∨ b = 3 ∨ b = 4 by omega) with rfl | rfl | rfl | rfl <;> decide
  have hN0 : 0 < 2 ^ b := Nat.pos_of_ne_zero (by rcases (show b = 1 ∨ b = 2 ∨ b = 3 ∨ b = 4 by omega) with rfl | rfl | rfl | rfl <;> decide)
  have hNN : 2 ^ b * 2 ^ b ≤ 256 := by rcases (show b = 1 ∨ b = 2 ∨ b = 3 ∨ b = 4 by omega) with rfl | rfl | rfl | rfl <;> decide
  refine za_enter cd_M_explore fl_M (by decide) cdok_M_explore flok_M (Nat.le_of_ble_eq_true rfl) ?_
  intro p e s m args below meth c X hnm
  have at83bad : ∀ (h1 : za_H) (G1 : tr_T) (f : Nat → mw_T) (mm : Int32), sp_explore ((oo, aa, bb, cc0, k), (Tr, Tpl, Tla, Tdn, Tvi, Tde, Tct, Ten, Tou, Ted), (sk, sf), b, q) = (1, 0, ((oo, aa, bb, cc0, k), (Tr, Tpl, Tla, Tdn, Tvi, Tde, Tct, Ten, Tou, Ted), (sk, sf), b, q)) → es_at h h1 (0, k, b) G1 (q, Ted, Tdn, Tct, 65, sk, (rs_or sf sk)) f → za_W p l e (za_rm 3 0 0) s m args below meth c D 2 (MQ below (za_Q D (fun v h' n' => ms_ps h n (sp_explore ((oo, aa, bb, cc0, k), (Tr, Tpl, Tla, Tdn, Tvi, Tde, Tct, Ten, Tou, Ted), (sk, sf), b, q)) v h' n')) args s 0 0 (fun q : Nat => D.2.2 ≤ q)) h1 n 0 0 83 [(0, vR 142), (1, vI mm)] [] [] := by
    intro h1 G1 f mm e1 he
    have hin1 := es_in hin he
    obtain ⟨r1, pl1, la1, dn1, vi1, de1, ct1, en1, ou1, ed1⟩ := G1
    rw [e1]
    refine za_view [(142, mo_c (0, k, b) (r1, pl1, la1, dn1, vi1, de1, ct1, en1, ou1, ed1) (q, Ted, Tdn, Tct, 65, sk, (rs_or sf sk)))] (by simp [he.1]) ?_
    iterate 3 refine za_step X rfl rfl rfl ?_
    refine za_icle X 98 rfl (by decide) (fun q1 => absurd q1 (by decide)) (fun q1 => ?_)
    iterate 2 refine za_step X rfl rfl rfl ?_
    refine za_callV (b := 142) (d := 0) (mc := 0) (ms := 0) (as := [vI 1]) (rest := []) X rfl cl_M_M_raise cy_M_raise cv_M_raise (c_M_raise l D (za_ov h1 [(142, mo_c (0, k, b) (r1, pl1, la1, dn1, vi1, de1, ct1, en1, ou1, ed1) (q, Ted, Tdn, Tct, 65, sk, (rs_or sf sk)))]) n (0, k, b) (r1, pl1, la1, dn1, vi1, de1, ct1, en1, ou1, ed1) (q, Ted, Tdn, Tct, 65, sk, (rs_or sf sk)) rfl 1) rfl rfl rfl rfl (Nat.le_of_ble_eq_true rfl) (Nat.le_of_ble_eq_true rfl) (Nat.le_of_ble_eq_true rfl) (Nat.le_of_ble_eq_true rfl) (Nat.le_of_ble_eq_true rfl) (fun v h' n' hq => ?_)
    obtain ⟨rfl, rfl, rfl⟩ := hq
    refine za_iret X rfl ⟨rfl, ?_, ?_, rfl⟩ (Nat.le_refl _) (Nat.le_refl _)
    · show ms_at (za_ov (za_set (za_ov h1 [(142, mo_c (0, k, b) (r1, pl1, la1, dn1, vi1, de1, ct1, en1, ou1, ed1) (q, Ted, Tdn, Tct, 65, sk, (rs_or sf sk)))]) 142 (mo_c (1, k, b) (r1, pl1, la1, dn1, vi1, de1, ct1, en1, ou1, ed1) (q, Ted, Tdn, Tct, 65, sk, (rs_or sf sk)))) []) 1 ((oo, aa, bb, cc0, k), (Tr, Tpl, Tla, Tdn, Tvi, Tde, Tct, Ten, Tou, Ted), (sk, sf), b, q)
      rw [za_ov11]
      exact ⟨hok, hb1, hb4, (r1, pl1, la1, dn1, vi1, de1, ct1, en1, ou1, ed1), 65, za_set_eq _ _ _, ms_set hin1 _⟩
    · show ms_fr h (za_ov (za_set (za_ov h1 [(142, mo_c (0, k, b) (r1, pl1, la1, dn1, vi1, de1, ct1, en1, ou1, ed1) (q, Ted, Tdn, Tct, 65, sk, (rs_or sf sk)))]) 142 (mo_c (1, k, b) (r1, pl1, la1, dn1, vi1, de1, ct1, en1, ou1, ed1) (q, Ted, Tdn, Tct, 65, sk, (rs_or sf sk)))) [])
      rw [za_ov11]
      exact fun j hj => (ms_fr1 h1 _ j hj).trans (he.2.2.2 j (by omega) (by omega) (by omega))
  have at12bad : ∀ (h1 : za_H) (G1 : tr_T) (f : Nat → mw_T) (mm : Int32), sp_explore ((oo, aa, bb, cc0, k), (Tr, Tpl, Tla, Tdn, Tvi, Tde, Tct, Ten, Tou, Ted), (sk, sf), b, q) = (1, 0, ((oo, aa, bb, cc0, k), (Tr, Tpl, Tla, Tdn, Tvi, Tde, Tct, Ten, Tou, Ted), (sk, sf), b, q)) → es_at h h1 (0, k, b) G1 (q, Ted, Tdn, Tct, 65, sk, (rs_or sf sk)) f → za_W p l e (za_rm 3 0 0) s m args below meth c D 2 (MQ below (za_Q D (fun v h' n' => ms_ps h n (sp_explore ((oo, aa, bb, cc0, k), (Tr, Tpl, Tla, Tdn, Tvi, Tde, Tct, Ten, Tou, Ted), (sk, sf), b, q)) v h' n')) args s 0 0 (fun q : Nat => D.2.2 ≤ q)) h1 n 0 0 12 [(0, vR 142), (1, vI mm)] [] [] := by
    intro h1 G1 f mm e1 he
    have hb := at83bad h1 G1 f mm e1 he
    obtain ⟨r1, pl1, la1, dn1, vi1, de1, ct1, en1, ou1, ed1⟩ := G1
    have hv : za_ov h1 [(142, mo_c (0, k, b) (r1, pl1, la1, dn1, vi1, de1, ct1, en1, ou1, ed1) (q, Ted, Tdn, Tct, 65, sk, (rs_or sf sk)))] = h1 := by rw [za_ov1, za_set_same he.1]
    refine za_view [(142, mo_c (0, k, b) (r1, pl1, la1, dn1, vi1, de1, ct1, en1, ou1, ed1) (q, Ted, Tdn, Tct, 65, sk, (rs_or sf sk)))] (by simp [he.1]) ?_
    iterate 7 refine za_step X rfl rfl rfl ?_
    refine za_icge X 83 rfl (by decide) (fun q1 => ?_) (fun q1 => ?_)
    · exact za_look (h1 := h1) (v1 := []) hv.symm hb
    · iterate 3 refine za_step X rfl rfl rfl ?_
      refine za_icge X 83 rfl (by decide) (fun q2 => ?_) (fun q2 => absurd (by decide) q2)
      exact za_look (h1 := h1) (v1 := []) hv.symm hb
  have at83 : ∀ (h1 : za_H) (G1 : tr_T) (f : Nat → mw_T) (mm : Int32) (K : Nat) (g : Nat → wr_T), ex_res (oo, aa, bb, cc0, k) b = some (K, g) → es_ok (K, g) f → es_at h h1 (0, k, b) G1 (q, Ted, Tdn, Tct, K, sk, (rs_or sf sk)) f → za_W p l e (za_rm 3 0 0) s m args below meth c D 2 (MQ below (za_Q D (fun v h' n' => ms_ps h n (sp_explore ((oo, aa, bb, cc0, k), (Tr, Tpl, Tla, Tdn, Tvi, Tde, Tct, Ten, Tou, Ted), (sk, sf), b, q)) v h' n')) args s 0 0 (fun q : Nat => D.2.2 ≤ q)) h1 n 0 0 83 [(0, vR 142), (1, vI mm)] [] [] := by
    intro h1 G1 f mm K g hR hes he
    have e1 : sp_explore ((oo, aa, bb, cc0, k), (Tr, Tpl, Tla, Tdn, Tvi, Tde, Tct, Ten, Tou, Ted), (sk, sf), b, q) = (0, nI K, ((oo, aa, bb, cc0, k), (Tr, Tpl, Tla, Tdn, Tvi, Tde, Tct, Ten, Tou, Ted), (K, g), b, q)) := by
      show (match ex_res (oo, aa, bb, cc0, k) b with | none => _ | some S' => _) = _
      rw [hR]
    rw [e1]
    have hin1 := es_in hin he
    obtain ⟨r1, pl1, la1, dn1, vi1, de1, ct1, en1, ou1, ed1⟩ := G1
    obtain ⟨h147, hp, _, ⟨rr, ⟨q1, q2, q3, q4, q5⟩, _⟩, _, _⟩ := hin1
    obtain ⟨c142, _, hmw, hoff⟩ := he
    obtain ⟨w1, w2, w3, w4, w5, w6⟩ := hmw
    obtain ⟨_, hag, hwo, hK⟩ := hes
    have hK' : K ≤ 64 := hK
    have loop2 : ∀ (gg i : Nat), i + gg = K → za_W p l e (za_rm 3 0 0) s m args below meth c D 2 (MQ below (za_Q D (fun v h' n' => ms_ps h n (0, nI K, ((oo, aa, bb, cc0, k), (Tr, Tpl, Tla, Tdn, Tvi, Tde, Tct, Ten, Tou, Ted), (K, g), b, q)) v h' n')) args s 0 0 (fun q : Nat => D.2.2 ≤ q)) h1 n 0 0 113 [(0, vR 142), (1, vI (nI i))] [] [(142, mo_c (0, k, b) (r1, pl1, la1, dn1, vi1, de1, ct1, en1, ou1, ed1) (q, Ted, Tdn, Tct, K, K, (rs_or g i))), (154, nw1 (me_cp f rr i)), (155, nw2 (me_cp f rr i)), (156, nw3 (me_cp f rr i)), (157, nw4 (me_cp f rr i)), (158, nw5 (me_cp f rr i))] := by
      intro gg
      induction gg with
      | zero =>
        intro i hi
        iterate 3 refine za_step X rfl rfl rfl ?_
        refine za_icge X 202 rfl (by decide) (fun q1 => ?_) (fun q1 => absurd ((nI_leI (by omega) (by omega)).mpr (by omega)) q1)
        iterate 2 refine za_step X rfl rfl rfl ?_
        have hiK : i = K := by omega
        refine za_iret X rfl ⟨rfl, ?_, ?_, rfl⟩ (Nat.le_refl _) (Nat.le_refl _)
        · rw [hiK]
          refine ⟨hok, hb1, hb4, (r1, pl1, la1, dn1, vi1, de1, ct1, en1, ou1, ed1), K, rfl, h147, hp, ⟨f, w1, w2, w3, w4, w5, w6⟩, ⟨me_cp f rr K, ⟨rfl, rfl, rfl, rfl, rfl⟩, ?_⟩, hwo, hK⟩
          intro p hpK
          have hpK' : p < K := hpK
          rw [show me_cp f rr K p = f p from if_pos hpK', hag p hpK]
          exact ⟨rfl, rfl, rfl, rfl, rfl⟩
        · intro p hp2
          refine Eq.trans (za_ov_off (v := [(142, _), (154, _), (155, _), (156, _), (157, _), (158, _)]) ?_) (hoff p (by omega) (by omega) (by omega))
          intro q hq
          simp only [List.mem_cons, List.not_mem_nil, or_false] at hq
          rcases hq with rfl | rfl | rfl | rfl | rfl | rfl <;> (show _ ≠ p; omega)
      | succ gg ih =>
        intro i hi
        have hci : (nI i).toNatClampNeg = i := nI_clamp (by omega)
        iterate 3 refine za_step X rfl rfl rfl ?_
        refine za_icge X 202 rfl (by decide) (fun q1 => absurd ((nI_leI (by omega) (by omega)).mp q1) (by omega)) (fun q1 => ?_)
        iterate 6 refine za_step X rfl rfl rfl ?_
        refine za_lald X rfl w1 rfl (vp_in_nI (by omega) (by decide)) ?_
        rw [hci]
        refine za_last X rfl rfl rfl (vp_in_nI (by omega) (by decide)) ?_
        refine za_look (h1 := h1) (v1 := [(142, mo_c (0, k, b) (r1, pl1, la1, dn1, vi1, de1, ct1, en1, ou1, ed1) (q, Ted, Tdn, Tct, K, K, (rs_or g i))), (154, (nw1 (mu (me_cp f rr i) i (f i)))), (155, nw2 (me_cp f rr i)), (156, nw3 (me_cp f rr i)), (157, nw4 (me_cp f rr i)), (158, nw5 (me_cp f rr i))]) (congrArg (fun z => za_ov h1 [(142, mo_c (0, k, b) (r1, pl1, la1, dn1, vi1, de1, ct1, en1, ou1, ed1) (q, Ted, Tdn, Tct, K, K, (rs_or g i))), (154, z), (155, nw2 (me_cp f rr i)), (156, nw3 (me_cp f rr i)), (157, nw4 (me_cp f rr i)), (158, nw5 (me_cp f rr i))]) (nu1 hci)) ?_
        iterate 6 refine za_step X rfl rfl rfl ?_
        refine za_iald X rfl w2 rfl (vp_in_nI (by omega) (by decide)) ?_
        rw [hci]
        refine za_iast X rfl rfl rfl (vp_in_nI (by omega) (by decide)) ?_
        refine za_look (h1 := h1) (v1 := [(142, mo_c (0, k, b) (r1, pl1, la1, dn1, vi1, de1, ct1, en1, ou1, ed1) (q, Ted, Tdn, Tct, K, K, (rs_or g i))), (154, nw1 (mu (me_cp f rr i) i (f i))), (155, (nw2 (mu (me_cp f rr i) i (f i)))), (156, nw3 (me_cp f rr i)), (157, nw4 (me_cp f rr i)), (158, nw5 (me_cp f rr i))]) (congrArg (fun z => za_ov h1 [(142, mo_c (0, k, b) (r1, pl1, la1, dn1, vi1, de1, ct1, en1, ou1, ed1) (q, Ted, Tdn, Tct, K, K, (rs_or g i))), (154, nw1 (mu (me_cp f rr i) i (f i))), (155, z), (156, nw3 (me_cp f rr i)), (157, nw4 (me_cp f rr i)), (158, nw5 (me_cp f rr i))]) (nu2 hci)) ?_
        iterate 6 refine za_step X rfl rfl rfl ?_
        refine za_iald X rfl w3 rfl (vp_in_nI (by omega) (by decide)) ?_
        rw [hci]
        refine za_iast X rfl rfl rfl (vp_in_nI (by omega) (by decide)) ?_
        refine za_look (h1 := h1) (v1 := [(142, mo_c (0, k, b) (r1, pl1, la1, dn1, vi1, de1, ct1, en1, ou1, ed1) (q, Ted, Tdn, Tct, K, K, (rs_or g i))), (154, nw1 (mu (me_cp f rr i) i (f i))), (155, nw2 (mu (me_cp f rr i) i (f i))), (156, (nw3 (mu (me_cp f rr i) i (f i)))), (157, nw4 (me_cp f rr i)), (158, nw5 (me_cp f rr i))]) (congrArg (fun z => za_ov h1 [(142, mo_c (0, k, b) (r1, pl1, la1, dn1, vi1, de1, ct1, en1, ou1, ed1) (q, Ted, Tdn, Tct, K, K, (rs_or g i))), (154, nw1 (mu (me_cp f rr i) i (f i))), (155, nw2 (mu (me_cp f rr i) i (f i))), (156, z), (157, nw4 (me_cp f rr i)), (158, nw5 (me_cp f rr i))]) (nu3 hci)) ?_
        iterate 6 refine za_step X rfl rfl rfl ?_
        refine za_iald X rfl w4 rfl (vp_in_nI (by omega) (by decide)) ?_
        rw [hci]
        refine za_iast X rfl rfl rfl (vp_in_nI (by omega) (by decide)) ?_
        refine za_look (h1 := h1) (v1 := [(142, mo_c (0, k, b) (r1, pl1, la1, dn1, vi1, de1, ct1, en1, ou1, ed1) (q, Ted, Tdn, Tct, K, K, (rs_or g i))), (154, nw1 (mu (me_cp f rr i) i (f i))), (155, nw2 (mu (me_cp f rr i) i (f i))), (156, nw3 (mu (me_cp f rr i) i (f i))), (157, (nw4 (mu (me_cp f rr i) i (f i)))), (158, nw5 (me_cp f rr i))]) (congrArg (fun z => za_ov h1 [(142, mo_c (0, k, b) (r1, pl1, la1, dn1, vi1, de1, ct1, en1, ou1, ed1) (q, Ted, Tdn, Tct, K, K, (rs_or g i))), (154, nw1 (mu (me_cp f rr i) i (f i))), (155, nw2 (mu (me_cp f rr i) i (f i))), (156, nw3 (mu (me_cp f rr i) i (f i))), (157, z), (158, nw5 (me_cp f rr i))]) (nu4 hci)) ?_
        iterate 6 refine za_step X rfl rfl rfl ?_
        refine za_iald X rfl w5 rfl (vp_in_nI (by omega) (by decide)) ?_
        rw [hci]
        refine za_iast X rfl rfl rfl (vp_in_nI (by omega) (by decide)) ?_
        refine za_look (h1 := h1) (v1 := [(142, mo_c (0, k, b) (r1, pl1, la1, dn1, vi1, de1, ct1, en1, ou1, ed1) (q, Ted, Tdn, Tct, K, K, (rs_or g i))), (154, nw1 (mu (me_cp f rr i) i (f i))), (155, nw2 (mu (me_cp f rr i) i (f i))), (156, nw3 (mu (me_cp f rr i) i (f i))), (157, nw4 (mu (me_cp f rr i) i (f i))), (158, (nw5 (mu (me_cp f rr i) i (f i))))]) (congrArg (fun z => za_ov h1 [(142, mo_c (0, k, b) (r1, pl1, la1, dn1, vi1, de1, ct1, en1, ou1, ed1) (q, Ted, Tdn, Tct, K, K, (rs_or g i))), (154, nw1 (mu (me_cp f rr i) i (f i))), (155, nw2 (mu (me_cp f rr i) i (f i))), (156, nw3 (mu (me_cp f rr i) i (f i))), (157, nw4 (mu (me_cp f rr i) i (f i))), (158, z)]) (nu5 hci)) ?_
        rw [me_cp_s]
        iterate 6 refine za_step X rfl rfl rfl ?_
        refine za_iald X rfl w6 rfl (vp_in_nI (by omega) (by decide)) ?_
        rw [hci, show (f i).2.2.2.2.2 = wr_vi (g i) from by rw [hag i (by show i < K; omega)]; rfl]
        iterate 4 refine za_step X rfl rfl rfl ?_
        rw [show nI i + Int32.ofInt 1 = nI (i + 1) from nI_1 i]
        exact za_loc [(0, vR 142), (1, vI (nI (i + 1)))] rfl (ih (i + 1) (by omega))
    refine za_view [(142, mo_c (0, k, b) (r1, pl1, la1, dn1, vi1, de1, ct1, en1, ou1, ed1) (q, Ted, Tdn, Tct, K, sk, (rs_or sf sk))), (154, nw1 (me_cp f rr 0)), (155, nw2 (me_cp f rr 0)), (156, nw3 (me_cp f rr 0)), (157, nw4 (me_cp f rr 0)), (158, nw5 (me_cp f rr 0))] (by
      intro p hp2
      simp only [List.mem_cons, List.not_mem_nil, or_false] at hp2
      rcases hp2 with rfl | rfl | rfl | rfl | rfl | rfl
      · exact c142
      · exact q1
      · exact q2
      · exact q3
      · exact q4
      · exact q5) ?_
    iterate 3 refine za_step X rfl rfl rfl ?_
    refine za_icle X 98 rfl (by decide) (fun q1 => ?_) (fun q1 => absurd (show nI K ≤ nI 64 from (nI_leI (by omega) (by omega)).mpr hK') q1)
    iterate 9 refine za_step X rfl rfl rfl ?_
    exact za_loc [(0, vR 142), (1, vI (nI 0))] rfl (loop2 K 0 (by omega))
  have loop : ∀ (g uu : Nat) (S : rs_T) (f : Nat → mw_T) (h1 : za_H) (G1 : tr_T), uu + g = 2 ^ b * 2 ^ b → es_ok S f → ex_fl (oo, aa, bb, cc0, k) (2 ^ b) g uu S = ex_res (oo, aa, bb, cc0, k) b → es_at h h1 (0, k, b) G1 (q, Ted, Tdn, Tct, S.1, sk, (rs_or sf sk)) f → za_W p l e (za_rm 3 0 0) s m args below meth c D 2 (MQ below (za_Q D (fun v h' n' => ms_ps h n (sp_explore ((oo, aa, bb, cc0, k), (Tr, Tpl, Tla, Tdn, Tvi, Tde, Tct, Ten, Tou, Ted), (sk, sf), b, q)) v h' n')) args s 0 0 (fun q : Nat => D.2.2 ≤ q)) h1 n 0 0 12 [(0, vR 142), (1, vI (nI uu))] [] [] := by
    intro g
    induction g with
    | zero =>
      intro uu S f h1 G1 hm hes hR he
      obtain ⟨K, gg⟩ := S
      have hb := at83 h1 G1 f (nI uu) K gg hR.symm hes he
      obtain ⟨r1, pl1, la1, dn1, vi1, de1, ct1, en1, ou1, ed1⟩ := G1
      have hv : za_ov h1 [(142, mo_c (0, k, b) (r1, pl1, la1, dn1, vi1, de1, ct1, en1, ou1, ed1) (q, Ted, Tdn, Tct, K, sk, (rs_or sf sk)))] = h1 := by rw [za_ov1, za_set_same he.1]
      refine za_view [(142, mo_c (0, k, b) (r1, pl1, la1, dn1, vi1, de1, ct1, en1, ou1, ed1) (q, Ted, Tdn, Tct, K, sk, (rs_or sf sk)))] (by intro p hp; simp only [List.mem_cons, List.not_mem_nil, or_false] at hp; subst hp; exact he.1) ?_
      iterate 7 refine za_step X rfl rfl rfl ?_
      rw [show Int32.ofInt 1 <<< ((Int32.ofInt 2 * nI b) &&& 31) = nI (2 ^ b * 2 ^ b) from nn_c hb1 hb4]
      refine za_icge X 83 rfl (by decide) (fun q1 => za_look (h1 := h1) (v1 := []) hv.symm hb) (fun q1 => absurd ((nI_leI (by omega) (by omega)).mpr (by omega)) q1)
    | succ g ih =>
      intro uu S f h1 G1 hm hes hR he
      obtain ⟨K, gg⟩ := S
      have hK : K ≤ 64 := hes.2.2.2
      have hm256 : uu < 256 := by omega
      have hin1 := es_in hin he
      obtain ⟨n1, n2⟩ := nn_w hb1 hb4 hm256
      obtain ⟨r1, pl1, la1, dn1, vi1, de1, ct1, en1, ou1, ed1⟩ := G1
      refine za_view [(142, mo_c (0, k, b) (r1, pl1, la1, dn1, vi1, de1, ct1, en1, ou1, ed1) (q, Ted, Tdn, Tct, K, sk, (rs_or sf sk)))] (by intro p hp; simp only [List.mem_cons, List.not_mem_nil, or_false] at hp; subst hp; exact he.1) ?_
      iterate 7 refine za_step X rfl rfl rfl ?_
      rw [show Int32.ofInt 1 <<< ((Int32.ofInt 2 * nI b) &&& 31) = nI (2 ^ b * 2 ^ b) from nn_c hb1 hb4]
      refine za_icge X 83 rfl (by decide) (fun q1 => absurd ((nI_leI (by omega) (by omega)).mp q1) (by omega)) (fun q1 => ?_)
      iterate 3 refine za_step X rfl rfl rfl ?_
      refine za_icge X 83 rfl (by decide) (fun q2 => absurd ((nI_leI (a := 65) (by omega) (by omega)).mp q2) (by omega)) (fun q2 => ?_)
      iterate 13 refine za_step X rfl rfl rfl ?_
      rw [show nI uu >>> (nI b &&& 31) = nI (uu / 2 ^ b) from n1, show nI uu &&& ((Int32.ofInt 1 <<< (nI b &&& 31)) - Int32.ofInt 1) = nI (uu % 2 ^ b) from n2]
      refine za_callV (b := 142) (d := 2) (mc := 0) (ms := 0) (as := [vI (nI (uu / 2 ^ b)), vI (nI (uu % 2 ^ b))]) (rest := []) X rfl cl_M_M_go cy_M_go cv_M_go (c_M_go l D (za_ov h1 [(142, mo_c (0, k, b) (r1, pl1, la1, dn1, vi1, de1, ct1, en1, ou1, ed1) (q, Ted, Tdn, Tct, K, sk, (rs_or sf sk)))]) n (0, k, b) (r1, pl1, la1, dn1, vi1, de1, ct1, en1, ou1, ed1) (q, Ted, Tdn, Tct, K, sk, (rs_or sf sk)) ⟨rfl, hin1.1⟩ (oo, aa, bb, cc0, k) rfl hin1.2.1 hok (nI (uu / 2 ^ b)) (nI (uu % 2 ^ b))) rfl rfl rfl rfl (Nat.le_of_ble_eq_true rfl) (Nat.le_of_ble_eq_true rfl) (Nat.le_of_ble_eq_true rfl) (Nat.le_of_ble_eq_true rfl) (Nat.le_of_ble_eq_true rfl) (fun v h' n' hq => ?_)
      obtain ⟨rfl, rfl, rfl⟩ := hq
      have hw : ex_way (oo, aa, bb, cc0, k) (uu / 2 ^ b) (uu % 2 ^ b) = wr_of (tr_run0 (oo, aa, bb, cc0, k) (nI (uu / 2 ^ b)) (nI (uu % 2 ^ b))) (nI (uu / 2 ^ b)) (nI (uu % 2 ^ b)) := rfl
      have hwok : wr_ok (ex_way (oo, aa, bb, cc0, k) (uu / 2 ^ b) (uu % 2 ^ b)) := way_ok (oo, aa, bb, cc0, k) (by have : uu / 2 ^ b < 2 ^ b := Nat.div_lt_of_lt_mul (by omega); omega) (by have := Nat.mod_lt uu hN0; omega)
      have he2 : es_at h (mo_put (za_ov h1 [(142, mo_c (0, k, b) (r1, pl1, la1, dn1, vi1, de1, ct1, en1, ou1, ed1) (q, Ted, Tdn, Tct, K, sk, (rs_or sf sk)))]) (0, k, b) (tr_run0 (oo, aa, bb, cc0, k) (nI (uu / 2 ^ b)) (nI (uu % 2 ^ b))) (q, Ted, Tdn, Tct, K, sk, (rs_or sf sk))) (0, k, b) (tr_run0 (oo, aa, bb, cc0, k) (nI (uu / 2 ^ b)) (nI (uu % 2 ^ b))) (q, Ted, Tdn, Tct, K, sk, (rs_or sf sk)) f := by
        refine ⟨(mo_put_at _ _ _ _).1, (mo_put_at _ _ _ _).2, he.2.2.1, fun j a1 a2 a3 => ?_⟩
        rw [mo_put_ne a1 a2, za_ov1, za_set_ne a1]
        exact he.2.2.2 j a1 a2 a3
      generalize mo_put (za_ov h1 [(142, mo_c (0, k, b) (r1, pl1, la1, dn1, vi1, de1, ct1, en1, ou1, ed1) (q, Ted, Tdn, Tct, K, sk, (rs_or sf sk)))]) (0, k, b) (tr_run0 (oo, aa, bb, cc0, k) (nI (uu / 2 ^ b)) (nI (uu % 2 ^ b))) (q, Ted, Tdn, Tct, K, sk, (rs_or sf sk)) = h2 at he2
      have hmw := way_mw (tr_run0 (oo, aa, bb, cc0, k) (nI (uu / 2 ^ b)) (nI (uu % 2 ^ b))) (nI (uu / 2 ^ b)) (nI (uu % 2 ^ b))
      rw [← hw] at hmw
      clear hw
      generalize tr_run0 (oo, aa, bb, cc0, k) (nI (uu / 2 ^ b)) (nI (uu % 2 ^ b)) = G2 at he2 hmw
      obtain ⟨r2, pl2, la2, dn2, vi2, de2, ct2, en2, ou2, ed2⟩ := G2
      refine za_view [(142, mo_c (0, k, b) (r2, pl2, la2, dn2, vi2, de2, ct2, en2, ou2, ed2) (q, Ted, Tdn, Tct, K, sk, (rs_or sf sk)))] (by intro p hp; simp only [List.mem_cons, List.not_mem_nil, or_false] at hp; subst hp; exact he2.1) ?_
      iterate 16 refine za_step X rfl rfl rfl ?_
      rw [show nI uu >>> (nI b &&& 31) = nI (uu / 2 ^ b) from n1, show nI uu &&& ((Int32.ofInt 1 <<< (nI b &&& 31)) - Int32.ofInt 1) = nI (uu % 2 ^ b) from n2]
      have hv2 : za_ov h2 [(142, mo_c (0, k, b) (r2, pl2, la2, dn2, vi2, de2, ct2, en2, ou2, ed2) (q, Ted, Tdn, Tct, K, sk, (rs_or sf sk)))] = h2 := by rw [za_ov1, za_set_same he2.1]
      refine za_callV (b := 142) (d := 0) (mc := 0) (ms := 0) (as := [vI (16 * nI (uu / 2 ^ b) + nI (uu % 2 ^ b))]) (rest := []) X rfl cl_M_M_enter cy_M_enter cv_M_enter (c_M_enter l D (za_ov h2 [(142, mo_c (0, k, b) (r2, pl2, la2, dn2, vi2, de2, ct2, en2, ou2, ed2) (q, Ted, Tdn, Tct, K, sk, (rs_or sf sk)))]) n (0, k, b) (r2, pl2, la2, dn2, vi2, de2, ct2, en2, ou2, ed2) q Ted Tdn Tct K sk (rs_or sf sk) hK rfl f he2.2.2.1 (16 * nI (uu / 2 ^ b) + nI (uu % 2 ^ b))) rfl rfl rfl rfl (Nat.le_of_ble_eq_true rfl) (Nat.le_of_ble_eq_true rfl) (Nat.le_of_ble_eq_true rfl) (Nat.le_of_ble_eq_true rfl) (Nat.le_of_ble_eq_true rfl) (fun v h' n' hq => ?_)
      obtain ⟨rfl, hc3, hw3, hoff3, rfl⟩ := hq
      rw [hv2] at hoff3
      rw [hmw] at hc3 hw3
      have htk := me_take (ex_way (oo, aa, bb, cc0, k) (uu / 2 ^ b) (uu % 2 ^ b)) hK hes.1 hes.2.1
      have hR' : (match rs_take (K, gg) (ex_way (oo, aa, bb, cc0, k) (uu / 2 ^ b) (uu % 2 ^ b)) with | none => none | some S' => ex_fl (oo, aa, bb, cc0, k) (2 ^ b) g (uu + 1) S') = ex_res (oo, aa, bb, cc0, k) b := hR
      iterate 2 refine za_step X rfl rfl rfl ?_
      rw [show nI uu + Int32.ofInt 1 = nI (uu + 1) from nI_1 uu]
      have he3 : es_at h h' (0, k, b) (r2, pl2, la2, dn2, vi2, de2, ct2, en2, ou2, ed2) (q, Ted, Tdn, Tct, (me_ent K f (mw_of (ex_way (oo, aa, bb, cc0, k) (uu / 2 ^ b) (uu % 2 ^ b)))).1, sk, (rs_or sf sk)) (me_ent K f (mw_of (ex_way (oo, aa, bb, cc0, k) (uu / 2 ^ b) (uu % 2 ^ b)))).2 := by
        refine ⟨hc3, ?_, hw3, fun j a1 a2 a3 => ?_⟩
        · rw [hoff3 147 (by omega) (by omega)]; exact he2.2.1
        · rw [hoff3 j a1 a3]; exact he2.2.2.2 j a1 a2 a3
      generalize me_ent K f (mw_of (ex_way (oo, aa, bb, cc0, k) (uu / 2 ^ b) (uu % 2 ^ b))) = E at he3 htk
      cases hst : rs_take (K, gg) (ex_way (oo, aa, bb, cc0, k) (uu / 2 ^ b) (uu % 2 ^ b)) with
      | none =>
        rw [hst] at htk hR'
        have h65 : E.1 = 65 := htk
        rw [h65] at he3
        refine za_loc [(0, vR 142), (1, vI (nI (uu + 1)))] rfl (at12bad h' (r2, pl2, la2, dn2, vi2, de2, ct2, en2, ou2, ed2) E.2 (nI (uu + 1)) ?_ he3)
        show (match ex_res (oo, aa, bb, cc0, k) b with | none => _ | some S' => _) = _
        rw [← hR']
      | some S' =>
        rw [hst] at htk hR'
        obtain ⟨t1, t2, t3, t4, t5⟩ := htk
        rw [t1] at he3
        refine za_loc [(0, vR 142), (1, vI (nI (uu + 1)))] rfl (ih (uu + 1) S' E.2 h' (r2, pl2, la2, dn2, vi2, de2, ct2, en2, ou2, ed2) (by omega) ⟨t3, t2, fun i hi => ?_, t4⟩ hR' he3)
        rcases t5 i hi with z | ⟨j, hj, z⟩
        · rw [z]; exact hwok
        · rw [z]; exact hes.2.2.1 j hj
  refine za_view [(142, mo_c (th, k, b) (r, pl, la, dn, vi, de, ct, en, ou, ed) (q, Ted, Tdn, Tct, fd, sk, (rs_or sf sk)))] (by simp [show h 142 = some (mo_c (th, k, b) (r, pl, la, dn, vi, de, ct, en, ou, ed) (q, Ted, Tdn, Tct, fd, sk, (rs_or sf sk))) from hM]) ?_
  iterate 8 refine za_step X rfl rfl rfl ?_
  obtain ⟨f0, hf0⟩ := hin.2.2.1
  refine za_look (h1 := za_set h 142 (mo_c (0, k, b) (r, pl, la, dn, vi, de, ct, en, ou, ed) (q, Ted, Tdn, Tct, 0, sk, (rs_or sf sk)))) (v1 := []) (za_ov1 h 142 (mo_c (0, k, b) (r, pl, la, dn, vi, de, ct, en, ou, ed) (q, Ted, Tdn, Tct, 0, sk, (rs_or sf sk)))).symm ?_
  refine za_loc [(0, vR 142), (1, vI (nI 0))] rfl (loop (2 ^ b * 2 ^ b) 0 (0, fun _ => wr_0) f0 (za_set h 142 (mo_c (0, k, b) (r, pl, la, dn, vi, de, ct, en, ou, ed) (q, Ted, Tdn, Tct, 0, sk, (rs_or sf sk)))) (r, pl, la, dn, vi, de, ct, en, ou, ed) (by omega) ⟨fun i j _ hj => absurd hj (Nat.not_lt_zero j), fun i hi => absurd hi (Nat.not_lt_zero i), fun i hi => absurd hi (Nat.not_lt_zero i), Nat.zero_le _⟩ (fl_res (oo, aa, bb, cc0, k) b) ⟨za_set_eq _ _ _, ?_, ?_, fun j a1 a2 a3 => za_set_ne a1⟩)
  · rw [za_set_ne (by omega)]; exact hin.1
  · obtain ⟨w1, w2, w3, w4, w5, w6⟩ := hf0
    refine ⟨?_, ?_, ?_, ?_, ?_, ?_⟩
    all_goals rw [za_set_ne (by omega)]
    all_goals assumption
end
section
/-! THE CONSTRUCTORS -/
section ZAEXQ
variable {p : Program} {l : Launch} {e : Env} {R : Room} {s : State} {m : MethodId} {args : Array Value} {below : List Frame} {meth : Method} {c : Code} {D : za_D} {nL : Nat} {Q : State → Prop} {h0 : za_H} {n cells slots pc : Nat} {lv : List (Nat × za_V)} {st : List za_V} {vw : List (Nat × za_C)} {own : String} {cc : ByteArray} {cd : List (Nat × Instr × Nat)} {fl : List (Nat × Nat × Nat)} {ret : Option FieldType}
theorem za_extq {i t0 N : Nat} {f : Nat → Option Nat} (g : Nat → Option Nat) (hi : za_ov h0 vw i = some (.inl (t0, N, .inr (.inr f)))) (hfg : ∀ j, j < N → f j = g j) (kk : za_W p l e R s m args below meth c D nL Q h0 n cells slots pc lv st (za_vs vw i (.inl (t0, N, .inr (.inr g))))) : za_W p l e R s m args below meth c D nL Q h0 n cells slots pc lv st vw := by
  intro H locs ls hR hS hl
  refine kk H locs ls ?_ hS hl
  rw [za_ov_vs]
  refine hR.set rfl ?_ (fun _ _ => rfl)
  have hat : H[D.2.2 + i]? = some (vp_cell (D.2.1 t0) (N, .inr (.inr (.inr (.inr (fun q => (f q).map (fun i => D.2.2 + i))))))) := hR.2.1 i _ hi
  show H[D.2.2 + i]? = some (vp_cell (D.2.1 t0) (N, .inr (.inr (.inr (.inr (fun q => (g q).map (fun i => D.2.2 + i)))))))
  rw [hat, vp_cell_q, vp_cell_q]
  congr 1
  unfold arrV
  congr 2
  funext j
  show va_rf ((f j.val).map (fun i => D.2.2 + i)) = va_rf ((g j.val).map (fun i => D.2.2 + i))
  rw [hfg j.val j.isLt]
end ZAEXQ
def pr_0 : pr_T := (fun _ => 0, fun _ => 0, fun _ => 0, fun _ => 0, 0)
set_option maxHeartbeats 4000000 in
set_option maxRecDepth 100000 in
theorem c_W_init (l : Launch) (D : za_D) (h : za_H) (n : Nat) (w : Nat) (hw : h w = some (wr_c wr_0)) : za_M l D Y_W_init 1 0 0 [vR w] h n (fun v h' n' => v = none ∧ h' = h ∧ n = n') := by
  refine za_enter cd_W_init fl_W (by decide) cdok_W_init flok_W (Nat.le_of_ble_eq_true rfl) ?_
  intro p e s m args below meth c X hnm
  iterate 1 refine za_step X rfl rfl rfl ?_
  refine za_obj X rfl zo_W zo_1 zo_2 (Nat.le_of_ble_eq_true rfl) (Nat.le_of_ble_eq_true rfl) (Nat.le_of_ble_eq_true rfl) ?_
  iterate 2 refine za_step X rfl rfl rfl ?_
  refine za_putV (i := w) (k := 0) (fs := [vI 0, vI 0, vI 0, vI 0, vL 0, vI 0]) X [] rfl hw rfl rfl rfl (Nat.le_of_ble_eq_true rfl) (za_set_same hw).symm ?_
  iterate 2 refine za_step X rfl rfl rfl ?_
  refine za_putV (i := w) (k := 1) (fs := [vI 0, vI 0, vI 0, vI 0, vL 0, vI 0]) X [] rfl hw rfl rfl rfl (Nat.le_of_ble_eq_true rfl) (za_set_same hw).symm ?_
  iterate 2 refine za_step X rfl rfl rfl ?_
  refine za_putV (i := w) (k := 2) (fs := [vI 0, vI 0, vI 0, vI 0, vL 0, vI 0]) X [] rfl hw rfl rfl rfl (Nat.le_of_ble_eq_true rfl) (za_set_same hw).symm ?_
  iterate 2 refine za_step X rfl rfl rfl ?_
  refine za_putV (i := w) (k := 3) (fs := [vI 0, vI 0, vI 0, vI 0, vL 0, vI 0]) X [] rfl hw rfl rfl rfl (Nat.le_of_ble_eq_true rfl) (za_set_same hw).symm ?_
  iterate 2 refine za_step X rfl rfl rfl ?_
  refine za_putV (i := w) (k := 4) (fs := [vI 0, vI 0, vI 0, vI 0, vL 0, vI 0]) X [] rfl hw rfl rfl rfl (Nat.le_of_ble_eq_true rfl) (za_set_same hw).symm ?_
  iterate 2 refine za_step X rfl rfl rfl ?_
  refine za_putV (i := w) (k := 5) (fs := [vI 0, vI 0, vI 0, vI 0, vL 0, vI 0]) X [] rfl hw rfl rfl rfl (Nat.le_of_ble_eq_true rfl) (za_set_same hw).symm ?_
  exact za_vret X rfl ⟨rfl, rfl, rfl⟩ (Nat.le_of_ble_eq_true rfl) (Nat.le_of_ble_eq_true rfl)
set_option maxHeartbeats 4000000 in
set_option maxRecDepth 100000 in
theorem c_P_init (l : Launch) (D : za_D) (h : za_H) (hp : h 1 = some (.inr (zn_P, [vN, vN, vN, vN, vI 0]))) : za_M l D Y_P_init 1 4 96 [vR 1] h 2 (fun v h' n' => v = none ∧ pr_at h' pr_0 ∧ (∀ j, j < 1 ∨ 5 < j → h' j = h j) ∧ n' = 6) := by
  refine za_enter cd_P_init fl_P (by decide) cdok_P_init flok_P (Nat.le_of_ble_eq_true rfl) ?_
  intro p e s m args below meth c X hnm
  refine za_view [(1, .inr (zn_P, [vN, vN, vN, vN, vI 0]))] (by simp [hp]) ?_
  iterate 1 refine za_step X rfl rfl rfl ?_
  refine za_obj X rfl zo_P zo_1 zo_2 (Nat.le_of_ble_eq_true rfl) (Nat.le_of_ble_eq_true rfl) (Nat.le_of_ble_eq_true rfl) ?_
  iterate 2 refine za_step X rfl rfl rfl ?_
  refine za_newi (N := 24) (t0 := 0) X rfl rfl za_intA (by decide) (by decide) (by decide) (Nat.le_of_ble_eq_true rfl) (Nat.le_of_ble_eq_true rfl) ?_
  refine za_putF (k := 0) (ci := 0) X hnm rfl rfl rfl (by decide) rfl rfl (za_in 49 (by decide +kernel) rfl) rfl rfl (Nat.le_of_ble_eq_true rfl) ?_
  iterate 2 refine za_step X rfl rfl rfl ?_
  refine za_newi (N := 24) (t0 := 0) X rfl rfl za_intA (by decide) (by decide) (by decide) (Nat.le_of_ble_eq_true rfl) (Nat.le_of_ble_eq_true rfl) ?_
  refine za_putF (k := 1) (ci := 0) X hnm rfl rfl rfl (by decide) rfl rfl (za_in 51 (by decide +kernel) rfl) rfl rfl (Nat.le_of_ble_eq_true rfl) ?_
  iterate 2 refine za_step X rfl rfl rfl ?_
  refine za_newi (N := 24) (t0 := 0) X rfl rfl za_intA (by decide) (by decide) (by decide) (Nat.le_of_ble_eq_true rfl) (Nat.le_of_ble_eq_true rfl) ?_
  refine za_putF (k := 2) (ci := 0) X hnm rfl rfl rfl (by decide) rfl rfl (za_in 53 (by decide +kernel) rfl) rfl rfl (Nat.le_of_ble_eq_true rfl) ?_
  iterate 2 refine za_step X rfl rfl rfl ?_
  refine za_newi (N := 24) (t0 := 0) X rfl rfl za_intA (by decide) (by decide) (by decide) (Nat.le_of_ble_eq_true rfl) (Nat.le_of_ble_eq_true rfl) ?_
  refine za_putF (k := 3) (ci := 0) X hnm rfl rfl rfl (by decide) rfl rfl (za_in 55 (by decide +kernel) rfl) rfl rfl (Nat.le_of_ble_eq_true rfl) ?_
  iterate 3 refine za_step X rfl rfl rfl ?_
  refine za_vret X rfl ⟨rfl, ⟨rfl, rfl, rfl, rfl, rfl⟩, ?_, rfl⟩ (Nat.le_of_ble_eq_true rfl) (Nat.le_of_ble_eq_true rfl)
  intro j hj
  refine za_ov_off (v := [(1, _), (2, _), (3, _), (4, _), (5, _)]) ?_
  intro q hq
  simp only [List.mem_cons, List.not_mem_nil, or_false] at hq
  rcases hq with rfl | rfl | rfl | rfl | rfl <;> (show _ ≠ j; omega)
set_option maxHeartbeats 4000000 in
set_option maxRecDepth 100000 in
theorem c_T_init6 (l : Launch) (D : za_D) (h : za_H) (hp : h 6 = some (.inr (zn_T, [vN, vI 0, vI 0, vI 0, vI 0, vL 0, vI 0, vI 0, vI 0, vI 0]))) : za_M l D Y_T_init 1 1 4 [vR 6] h 7 (fun v h' n' => v = none ∧ tr_at h' 6 tr_0 ∧ (∀ j, j < 6 ∨ 7 < j → h' j = h j) ∧ n' = 8) := by
  refine za_enter cd_T_init fl_T (by decide) cdok_T_init flok_T (Nat.le_of_ble_eq_true rfl) ?_
  intro p e s m args below meth c X hnm
  refine za_view [(6, .inr (zn_T, [vN, vI 0, vI 0, vI 0, vI 0, vL 0, vI 0, vI 0, vI 0, vI 0]))] (by simp [hp]) ?_
  iterate 1 refine za_step X rfl rfl rfl ?_
  refine za_obj X rfl zo_T zo_1 zo_2 (Nat.le_of_ble_eq_true rfl) (Nat.le_of_ble_eq_true rfl) (Nat.le_of_ble_eq_true rfl) ?_
  iterate 2 refine za_step X rfl rfl rfl ?_
  refine za_newi (N := 4) (t0 := 0) X rfl rfl za_intA (by decide) (by decide) (by decide) (Nat.le_of_ble_eq_true rfl) (Nat.le_of_ble_eq_true rfl) ?_
  refine za_putF (k := 0) (ci := 1) X hnm rfl rfl rfl (by decide) rfl rfl (za_in 77 (by decide +kernel) rfl) rfl rfl (Nat.le_of_ble_eq_true rfl) ?_
  iterate 27 refine za_step X rfl rfl rfl ?_
  refine za_vret X rfl ⟨rfl, ⟨rfl, rfl⟩, ?_, rfl⟩ (Nat.le_of_ble_eq_true rfl) (Nat.le_of_ble_eq_true rfl)
  intro j hj
  refine za_ov_off (v := [(6, _), (7, _)]) ?_
  intro q hq
  simp only [List.mem_cons, List.not_mem_nil, or_false] at hq
  rcases hq with rfl | rfl <;> (show _ ≠ j; omega)
set_option maxHeartbeats 4000000 in
set_option maxRecDepth 100000 in
theorem c_T_init8 (l : Launch) (D : za_D) (h : za_H) (hp : h 8 = some (.inr (zn_T, [vN, vI 0, vI 0, vI 0, vI 0, vL 0, vI 0, vI 0, vI 0, vI 0]))) : za_M l D Y_T_init 1 1 4 [vR 8] h 9 (fun v h' n' => v = none ∧ tr_at h' 8 tr_0 ∧ (∀ j, j < 8 ∨ 9 < j → h' j = h j) ∧ n' = 10) := by
  refine za_enter cd_T_init fl_T (by decide) cdok_T_init flok_T (Nat.le_of_ble_eq_true rfl) ?_
  intro p e s m args below meth c X hnm
  refine za_view [(8, .inr (zn_T, [vN, vI 0, vI 0, vI 0, vI 0, vL 0, vI 0, vI 0, vI 0, vI 0]))] (by simp [hp]) ?_
  iterate 1 refine za_step X rfl rfl rfl ?_
  refine za_obj X rfl zo_T zo_1 zo_2 (Nat.le_of_ble_eq_true rfl) (Nat.le_of_ble_eq_true rfl) (Nat.le_of_ble_eq_true rfl) ?_
  iterate 2 refine za_step X rfl rfl rfl ?_
  refine za_newi (N := 4) (t0 := 0) X rfl rfl za_intA (by decide) (by decide) (by decide) (Nat.le_of_ble_eq_true rfl) (Nat.le_of_ble_eq_true rfl) ?_
  refine za_putF (k := 0) (ci := 1) X hnm rfl rfl rfl (by decide) rfl rfl (za_in 77 (by decide +kernel) rfl) rfl rfl (Nat.le_of_ble_eq_true rfl) ?_
  iterate 27 refine za_step X rfl rfl rfl ?_
  refine za_vret X rfl ⟨rfl, ⟨rfl, rfl⟩, ?_, rfl⟩ (Nat.le_of_ble_eq_true rfl) (Nat.le_of_ble_eq_true rfl)
  intro j hj
  refine za_ov_off (v := [(8, _), (9, _)]) ?_
  intro q hq
  simp only [List.mem_cons, List.not_mem_nil, or_false] at hq
  rcases hq with rfl | rfl <;> (show _ ≠ j; omega)
set_option maxHeartbeats 4000000 in
set_option maxRecDepth 100000 in
theorem c_R_init10 (l : Launch) (D : za_D) (h : za_H) (hp : h 10 = some (.inr (zn_R, [vN, vI 0, vI 0]))) : za_M l D Y_R_init 2 65 448 [vR 10] h 11 (fun v h' n' => v = none ∧ (∃ w, rs_at h' 10 w (0, fun _ => wr_0)) ∧ (∀ j, j < 10 ∨ 75 < j → h' j = h j) ∧ n' = 76) := by
  refine za_enter cd_R_init fl_R (by decide) cdok_R_init flok_R (Nat.le_of_ble_eq_true rfl) ?_
  intro p e s m args below meth c X hnm
  have loop : ∀ (g i : Nat) (h1 : za_H), i + g = 64 → (∀ p, p < i → h1 (12 + p) = some (wr_c wr_0)) → (∀ j, j < 10 ∨ 75 < j → h1 j = h j) → za_W p l e (za_rm 2 65 448) s m args below meth c D 2 (MQ below (za_Q D (fun v h' n' => v = none ∧ (∃ w, rs_at h' 10 w (0, fun _ => wr_0)) ∧ (∀ j, j < 10 ∨ 75 < j → h' j = h j) ∧ n' = 76)) args s 65 448 (fun q : Nat => D.2.2 ≤ q)) h1 (12 + i) (1 + i) (64 + 6 * i) 25 [(0, vR 10), (1, vI (nI i))] [] [(10, rs_c 10 0 0), (11, .inl (2, 64, .inr (.inr (fun p => if p < i then some (12 + p) else none))))] := by
    intro g
    induction g with
    | zero =>
      intro i h1 hi hW hoff
      have hi64 : i = 64 := by omega
      subst hi64
      iterate 2 refine za_step X rfl rfl rfl ?_
      refine za_icge X 50 rfl (by decide) (fun q1 => ?_) (fun q1 => absurd (by decide) q1)
      refine za_extq (i := 11) (t0 := 2) (N := 64) (fun p => some (12 + p)) rfl (fun p hp => if_pos hp) ?_
      refine za_vret X rfl ⟨rfl, ⟨fun p => 12 + p, rfl, rfl, fun p hp => ⟨wr_0, ?_⟩, fun p hp => absurd hp (Nat.not_lt_zero p), fun p hp => ⟨by show 10 + 2 ≤ 12 + p; omega, by show 12 + p < 10 + 66; omega⟩, fun a b _ _ hab => by have hab' : 12 + a = 12 + b := hab; omega, Nat.zero_le _⟩, ?_, rfl⟩ (Nat.le_of_ble_eq_true rfl) (Nat.le_of_ble_eq_true rfl)
      · refine Eq.trans (za_ov_off (v := [(10, _), (11, _)]) ?_) (hW p hp)
        intro q hq
        simp only [List.mem_cons, List.not_mem_nil, or_false] at hq
        rcases hq with rfl | rfl <;> (show _ ≠ _ + p; omega)
      · intro j hj
        refine Eq.trans (za_ov_off (v := [(10, _), (11, _)]) ?_) (hoff j hj)
        intro q hq
        simp only [List.mem_cons, List.not_mem_nil, or_false] at hq
        rcases hq with rfl | rfl <;> (show _ ≠ j; omega)
    | succ g ih =>
      intro i h1 hi hW hoff
      have hci : (nI i).toNatClampNeg = i := nI_clamp (by omega)
      iterate 2 refine za_step X rfl rfl rfl ?_
      refine za_icge X 50 rfl (by decide) (fun q1 => absurd ((nI_leI (a := 64) (by omega) (by omega)).mp q1) (by omega)) (fun q1 => ?_)
      iterate 3 refine za_step X rfl rfl rfl ?_
      refine za_new (N := 6) (ci := zn_W) (fs := [vI 0, vI 0, vI 0, vI 0, vL 0, vI 0]) X rfl rfl zc_R_9 zi_W zj_W (fun z j hj => by rcases (show j = 0 ∨ j = 1 ∨ j = 2 ∨ j = 3 ∨ j = 4 ∨ j = 5 by omega) with rfl | rfl | rfl | rfl | rfl | rfl <;> rfl) (by show 1 + i + 1 ≤ 65; omega) (by show 64 + 6 * i + 6 ≤ 448; omega) ?_
      have hne1 : 12 + i ≠ 10 := by omega
      have hne2 : 12 + i ≠ 11 := by omega
      refine za_look (h1 := za_set h1 (12 + i) (wr_c wr_0)) (v1 := [(10, rs_c 10 0 0), (11, .inl (2, 64, .inr (.inr (fun p => if p < i then some (12 + p) else none))))]) (by
        rw [za_ov_vs, za_ov2, za_ov2]
        show za_set (za_set (za_set h1 (12 + i) (wr_c wr_0)) 11 _) 10 _ = za_set (za_set (za_set h1 11 _) 10 _) (12 + i) (wr_c wr_0)
        rw [za_set_comm (i := 12 + i) (j := 11) hne2, za_set_comm (i := 12 + i) (j := 10) hne1]) ?_
      iterate 1 refine za_step X rfl rfl rfl ?_
      have hwn : za_ov (za_set h1 (12 + i) (wr_c wr_0)) [(10, rs_c 10 0 0), (11, .inl (2, 64, .inr (.inr (fun p => if p < i then some (12 + p) else none))))] (12 + i) = some (wr_c wr_0) := by
        rw [za_ov2, za_set_ne hne1, za_set_ne hne2, za_set_eq]
      refine za_callI (y := Y_W_init.1) (bytes := Y_W_init.2.1) (maxL := Y_W_init.2.2.1) (b := 12 + i) (d := 1) (mc := 0) (ms := 0) (as := []) X rfl cl_R_W_init cy_W_init ci_W_init (c_W_init l D _ _ (12 + i) hwn) rfl rfl (Nat.le_of_ble_eq_true rfl) (Nat.le_of_ble_eq_true rfl) (Nat.le_of_ble_eq_true rfl) (by show 1 + i + 1 + 0 ≤ 65; omega) (by show 64 + 6 * i + 6 + 0 ≤ 448; omega) (fun v h' n' hq => ?_)
      obtain ⟨rfl, rfl, rfl⟩ := hq
      refine za_look (h1 := za_set h1 (12 + i) (wr_c wr_0)) (v1 := [(10, rs_c 10 0 0), (11, .inl (2, 64, .inr (.inr (fun p => if p < i then some (12 + p) else none))))]) rfl ?_
      refine za_aast X rfl rfl rfl hwn rfl (vp_in_nI (by omega) (by decide)) ?_
      rw [hci]
      refine za_look (h1 := za_set h1 (12 + i) (wr_c wr_0)) (v1 := [(10, rs_c 10 0 0), (11, .inl (2, 64, .inr (.inr (fun p => if p < (i + 1) then some (12 + p) else none))))]) (congrArg (fun z => za_ov (za_set h1 (12 + i) (wr_c wr_0)) [(10, rs_c 10 0 0), (11, .inl (2, 64, .inr (.inr z)))]) (funext fun p => by
        unfold va_up
        by_cases e : p = i
        · subst e; rw [if_pos (by omega), if_pos rfl]
        · rw [if_neg e]
          show (if p < i + 1 then some (12 + p) else none) = (if p < i then some (12 + p) else none)
          by_cases e2 : p < i
          · rw [if_pos e2, if_pos (by omega)]
          · rw [if_neg e2, if_neg (by omega)])) ?_
      iterate 2 refine za_step X rfl rfl rfl ?_
      rw [show nI i + Int32.ofInt 1 = nI (i + 1) from nI_1 i]
      have z := ih (i + 1) (za_set h1 (12 + i) (wr_c wr_0)) (by omega) (fun p hp => by
        by_cases e : p = i
        · subst e; exact za_set_eq _ _ _
        · rw [za_set_ne (by omega)]; exact hW p (by omega)) (fun j hj => by rw [za_set_ne (by omega)]; exact hoff j hj)
      rw [show 1 + (i + 1) = 1 + i + 1 by omega, show 64 + 6 * (i + 1) = 64 + 6 * i + 6 by omega, show 12 + (i + 1) = 12 + i + 1 by omega] at z
      exact za_loc [(0, vR 10), (1, vI (nI (i + 1)))] rfl z
  refine za_view [(10, .inr (zn_R, [vN, vI 0, vI 0]))] (by simp [hp]) ?_
  iterate 1 refine za_step X rfl rfl rfl ?_
  refine za_obj X rfl zo_R zo_1 zo_2 (Nat.le_of_ble_eq_true rfl) (Nat.le_of_ble_eq_true rfl) (Nat.le_of_ble_eq_true rfl) ?_
  iterate 2 refine za_step X rfl rfl rfl ?_
  refine za_newq (N := 64) (t0 := 2) X rfl rfl zc_R_9 za_wayA (by decide) (by decide) (by decide) (Nat.le_of_ble_eq_true rfl) (Nat.le_of_ble_eq_true rfl) ?_
  refine za_putF (k := 0) (ci := 3) X hnm rfl rfl rfl (by decide) rfl rfl (za_in 160 (by decide +kernel) rfl) rfl rfl (Nat.le_of_ble_eq_true rfl) ?_
  iterate 8 refine za_step X rfl rfl rfl ?_
  refine za_look (h1 := h) (v1 := [(10, rs_c 10 0 0), (11, .inl (2, 64, .inr (.inr (fun p => if p < 0 then some (12 + p) else none))))]) (congrArg (fun z => za_ov h [(10, rs_c 10 0 0), (11, .inl (2, 64, .inr (.inr z)))]) (funext fun p => if_neg (Nat.not_lt_zero p))) ?_
  exact za_loc [(0, vR 10), (1, vI (nI 0))] rfl (loop 64 0 h (by omega) (fun p hp => absurd hp (Nat.not_lt_zero p)) (fun _ _ => rfl))
set_option maxHeartbeats 4000000 in
set_option maxRecDepth 100000 in
theorem c_R_init76 (l : Launch) (D : za_D) (h : za_H) (hp : h 76 = some (.inr (zn_R, [vN, vI 0, vI 0]))) : za_M l D Y_R_init 2 65 448 [vR 76] h 77 (fun v h' n' => v = none ∧ (∃ w, rs_at h' 76 w (0, fun _ => wr_0)) ∧ (∀ j, j < 76 ∨ 141 < j → h' j = h j) ∧ n' = 142) := by
  refine za_enter cd_R_init fl_R (by decide) cdok_R_init flok_R (Nat.le_of_ble_eq_true rfl) ?_
  intro p e s m args below meth c X hnm
  have loop : ∀ (g i : Nat) (h1 : za_H), i + g = 64 → (∀ p, p < i → h1 (78 + p) = some (wr_c wr_0)) → (∀ j, j < 76 ∨ 141 < j → h1 j = h j) → za_W p l e (za_rm 2 65 448) s m args below meth c D 2 (MQ below (za_Q D (fun v h' n' => v = none ∧ (∃ w, rs_at h' 76 w (0, fun _ => wr_0)) ∧ (∀ j, j < 76 ∨ 141 < j → h' j = h j) ∧ n' = 142)) args s 65 448 (fun q : Nat => D.2.2 ≤ q)) h1 (78 + i) (1 + i) (64 + 6 * i) 25 [(0, vR 76), (1, vI (nI i))] [] [(76, rs_c 76 0 0), (77, .inl (2, 64, .inr (.inr (fun p => if p < i then some (78 + p) else none))))] := by
    intro g
    induction g with
    | zero =>
      intro i h1 hi hW hoff
      have hi64 : i = 64 := by omega
      subst hi64
      iterate 2 refine za_step X rfl rfl rfl ?_
      refine za_icge X 50 rfl (by decide) (fun q1 => ?_) (fun q1 => absurd (by decide) q1)
      refine za_extq (i := 77) (t0 := 2) (N := 64) (fun p => some (78 + p)) rfl (fun p hp => if_pos hp) ?_
      refine za_vret X rfl ⟨rfl, ⟨fun p => 78 + p, rfl, rfl, fun p hp => ⟨wr_0, ?_⟩, fun p hp => absurd hp (Nat.not_lt_zero p), fun p hp => ⟨by show 76 + 2 ≤ 78 + p; omega, by show 78 + p < 76 + 66; omega⟩, fun a b _ _ hab => by have hab' : 78 + a = 78 + b := hab; omega, Nat.zero_le _⟩, ?_, rfl⟩ (Nat.le_of_ble_eq_true rfl) (Nat.le_of_ble_eq_true rfl)
      · refine Eq.trans (za_ov_off (v := [(76, _), (77, _)]) ?_) (hW p hp)
        intro q hq
        simp only [List.mem_cons, List.not_mem_nil, or_false] at hq
        rcases hq with rfl | rfl <;> (show _ ≠ _ + p; omega)
      · intro j hj
        refine Eq.trans (za_ov_off (v := [(76, _), (77, _)]) ?_) (hoff j hj)
        intro q hq
        simp only [List.mem_cons, List.not_mem_nil, or_false] at hq
        rcases hq with rfl | rfl <;> (show _ ≠ j; omega)
    | succ g ih =>
      intro i h1 hi hW hoff
      have hci : (nI i).toNatClampNeg = i := nI_clamp (by omega)
      iterate 2 refine za_step X rfl rfl rfl ?_
      refine za_icge X 50 rfl (by decide) (fun q1 => absurd ((nI_leI (a := 64) (by omega) (by omega)).mp q1) (by omega)) (fun q1 => ?_)
      iterate 3 refine za_step X rfl rfl rfl ?_
      refine za_new (N := 6) (ci := zn_W) (fs := [vI 0, vI 0, vI 0, vI 0, vL 0, vI 0]) X rfl rfl zc_R_9 zi_W zj_W (fun z j hj => by rcases (show j = 0 ∨ j = 1 ∨ j = 2 ∨ j = 3 ∨ j = 4 ∨ j = 5 by omega) with rfl | rfl | rfl | rfl | rfl | rfl <;> rfl) (by show 1 + i + 1 ≤ 65; omega) (by show 64 + 6 * i + 6 ≤ 448; omega) ?_
      have hne1 : 78 + i ≠ 76 := by omega
      have hne2 : 78 + i ≠ 77 := by omega
      refine za_look (h1 := za_set h1 (78 + i) (wr_c wr_0)) (v1 := [(76, rs_c 76 0 0), (77, .inl (2, 64, .inr (.inr (fun p => if p < i then some (78 + p) else none))))]) (by
        rw [za_ov_vs, za_ov2, za_ov2]
        show za_set (za_set (za_set h1 (78 + i) (wr_c wr_0)) 77 _) 76 _ = za_set (za_set (za_set h1 77 _) 76 _) (78 + i) (wr_c wr_0)
        rw [za_set_comm (i := 78 + i) (j := 77) hne2, za_set_comm (i := 78 + i) (j := 76) hne1]) ?_
      iterate 1 refine za_step X rfl rfl rfl ?_
      have hwn : za_ov (za_set h1 (78 + i) (wr_c wr_0)) [(76, rs_c 76 0 0), (77, .inl (2, 64, .inr (.inr (fun p => if p < i then some (78 + p) else none))))] (78 + i) = some (wr_c wr_0) := by
        rw [za_ov2, za_set_ne hne1, za_set_ne hne2, za_set_eq]
      refine za_callI (y := Y_W_init.1) (bytes := Y_W_init.2.1) (maxL := Y_W_init.2.2.1) (b := 78 + i) (d := 1) (mc := 0) (ms := 0) (as := []) X rfl cl_R_W_init cy_W_init ci_W_init (c_W_init l D _ _ (78 + i) hwn) rfl rfl (Nat.le_of_ble_eq_true rfl) (Nat.le_of_ble_eq_true rfl) (Nat.le_of_ble_eq_true rfl) (by show 1 + i + 1 + 0 ≤ 65; omega) (by show 64 + 6 * i + 6 + 0 ≤ 448; omega) (fun v h' n' hq => ?_)
      obtain ⟨rfl, rfl, rfl⟩ := hq
      refine za_look (h1 := za_set h1 (78 + i) (wr_c wr_0)) (v1 := [(76, rs_c 76 0 0), (77, .inl (2, 64, .inr (.inr (fun p => if p < i then some (78 + p) else none))))]) rfl ?_
      refine za_aast X rfl rfl rfl hwn rfl (vp_in_nI (by omega) (by decide)) ?_
      rw [hci]
      refine za_look (h1 := za_set h1 (78 + i) (wr_c wr_0)) (v1 := [(76, rs_c 76 0 0), (77, .inl (2, 64, .inr (.inr (fun p => if p < (i + 1) then some (78 + p) else none))))]) (congrArg (fun z => za_ov (za_set h1 (78 + i) (wr_c wr_0)) [(76, rs_c 76 0 0), (77, .inl (2, 64, .inr (.inr z)))]) (funext fun p => by
        unfold va_up
        by_cases e : p = i
        · subst e; rw [if_pos (by omega), if_pos rfl]
        · rw [if_neg e]
          show (if p < i + 1 then some (78 + p) else none) = (if p < i then some (78 + p) else none)
          by_cases e2 : p < i
          · rw [if_pos e2, if_pos (by omega)]
          · rw [if_neg e2, if_neg (by omega)])) ?_
      iterate 2 refine za_step X rfl rfl rfl ?_
      rw [show nI i + Int32.ofInt 1 = nI (i + 1) from nI_1 i]
      have z := ih (i + 1) (za_set h1 (78 + i) (wr_c wr_0)) (by omega) (fun p hp => by
        by_cases e : p = i
        · subst e; exact za_set_eq _ _ _
        · rw [za_set_ne (by omega)]; exact hW p (by omega)) (fun j hj => by rw [za_set_ne (by omega)]; exact hoff j hj)
      rw [show 1 + (i + 1) = 1 + i + 1 by omega, show 64 + 6 * (i + 1) = 64 + 6 * i + 6 by omega, show 78 + (i + 1) = 78 + i + 1 by omega] at z
      exact za_loc [(0, vR 76), (1, vI (nI (i + 1)))] rfl z
  refine za_view [(76, .inr (zn_R, [vN, vI 0, vI 0]))] (by simp [hp]) ?_
  iterate 1 refine za_step X rfl rfl rfl ?_
  refine za_obj X rfl zo_R zo_1 zo_2 (Nat.le_of_ble_eq_true rfl) (Nat.le_of_ble_eq_true rfl) (Nat.le_of_ble_eq_true rfl) ?_
  iterate 2 refine za_step X rfl rfl rfl ?_
  refine za_newq (N := 64) (t0 := 2) X rfl rfl zc_R_9 za_wayA (by decide) (by decide) (by decide) (Nat.le_of_ble_eq_true rfl) (Nat.le_of_ble_eq_true rfl) ?_
  refine za_putF (k := 0) (ci := 3) X hnm rfl rfl rfl (by decide) rfl rfl (za_in 160 (by decide +kernel) rfl) rfl rfl (Nat.le_of_ble_eq_true rfl) ?_
  iterate 8 refine za_step X rfl rfl rfl ?_
  refine za_look (h1 := h) (v1 := [(76, rs_c 76 0 0), (77, .inl (2, 64, .inr (.inr (fun p => if p < 0 then some (78 + p) else none))))]) (congrArg (fun z => za_ov h [(76, rs_c 76 0 0), (77, .inl (2, 64, .inr (.inr z)))]) (funext fun p => if_neg (Nat.not_lt_zero p))) ?_
  exact za_loc [(0, vR 76), (1, vI (nI 0))] rfl (loop 64 0 h (by omega) (fun p hp => absurd hp (Nat.not_lt_zero p)) (fun _ _ => rfl))
end
section
def fs_0 : fs_T := (pr_0, tr_0, (0, fun _ => wr_0), 3, 0)
theorem pr_ok_0 : pr_ok pr_0 := ⟨by decide, fun i hi => absurd hi (Nat.not_lt_zero i)⟩
theorem za_ov_n2 {h : za_H} {a b j : Nat} {x y : za_C} (h1 : j ≠ a) (h2 : j ≠ b) : za_ov h [(a, x), (b, y)] j = h j := by
  rw [za_ov2, za_set_ne h1, za_set_ne h2]
set_option maxHeartbeats 4000000 in
set_option maxRecDepth 100000 in
theorem c_F_init (l : Launch) (D : za_D) (h : za_H) (hp : h 0 = some (.inr (zn_F, [vN, vN, vN, vN, vN, vI 0, vI 0]))) : za_M l D Y_F_init 4 141 1031 [vR 0] h 1 (fun v h' n' => v = none ∧ fs_at h' fs_0 ∧ fs_fr h h' ∧ n' = 142) := by
  refine za_enter cd_F_init fl_F (by decide) cdok_F_init flok_F (Nat.le_of_ble_eq_true rfl) ?_
  intro p e s m args below meth c X hnm
  refine za_view [(0, .inr (zn_F, [vN, vN, vN, vN, vN, vI 0, vI 0]))] (by simp [hp]) ?_
  iterate 1 refine za_step X rfl rfl rfl ?_
  refine za_obj X rfl zo_F zo_1 zo_2 (Nat.le_of_ble_eq_true rfl) (Nat.le_of_ble_eq_true rfl) (Nat.le_of_ble_eq_true rfl) ?_
  iterate 1 refine za_step X rfl rfl rfl ?_
  refine za_new (N := 5) (ci := zn_P) (fs := [vN, vN, vN, vN, vI 0]) X rfl rfl zc_F_7 zi_P zj_P (fun z j hj => by rcases (show j = 0 ∨ j = 1 ∨ j = 2 ∨ j = 3 ∨ j = 4 by omega) with rfl | rfl | rfl | rfl | rfl <;> rfl) (Nat.le_of_ble_eq_true rfl) (Nat.le_of_ble_eq_true rfl) ?_
  iterate 1 refine za_step X rfl rfl rfl ?_
  refine za_callI (y := Y_P_init.1) (bytes := Y_P_init.2.1) (maxL := Y_P_init.2.2.1) (b := 1) (d := 1) (mc := 4) (ms := 96) (as := []) X rfl cl_F_P_init cy_P_init ci_P_init (c_P_init l D (za_ov h [(0, .inr (zn_F, [vN, vN, vN, vN, vN, vI 0, vI 0])), (1, .inr (zn_P, [vN, vN, vN, vN, vI 0]))]) rfl) rfl rfl (Nat.le_of_ble_eq_true rfl) (Nat.le_of_ble_eq_true rfl) (Nat.le_of_ble_eq_true rfl) (Nat.le_of_ble_eq_true rfl) (Nat.le_of_ble_eq_true rfl) (fun v k1 n' hq => ?_)
  obtain ⟨rfl, f1, o1, rfl⟩ := hq
  have e1 : ∀ j, j ≠ 0 → (j < 1 ∨ 5 < j) → k1 j = h j := fun j a1 a2 => by rw [o1 j a2, za_ov_n2 a1 (by omega)]
  have z1 : k1 0 = some (.inr (zn_F, [vN, vN, vN, vN, vN, vI 0, vI 0])) := (o1 0 (by omega)).trans rfl
  refine za_view [(0, .inr (zn_F, [vN, vN, vN, vN, vN, vI 0, vI 0]))] (by simp [z1]) ?_
  refine za_putF (k := 0) (ci := 4) X hnm rfl rfl rfl (by decide) rfl rfl (za_in 173 (by decide +kernel) rfl) rfl rfl (Nat.le_of_ble_eq_true rfl) ?_
  iterate 1 refine za_step X rfl rfl rfl ?_
  refine za_new (N := 10) (ci := zn_T) (fs := [vN, vI 0, vI 0, vI 0, vI 0, vL 0, vI 0, vI 0, vI 0, vI 0]) X rfl rfl zc_F_16 zi_T zj_T (fun z j hj => by rcases (show j = 0 ∨ j = 1 ∨ j = 2 ∨ j = 3 ∨ j = 4 ∨ j = 5 ∨ j = 6 ∨ j = 7 ∨ j = 8 ∨ j = 9 by omega) with rfl | rfl | rfl | rfl | rfl | rfl | rfl | rfl | rfl | rfl <;> rfl) (Nat.le_of_ble_eq_true rfl) (Nat.le_of_ble_eq_true rfl) ?_
  iterate 1 refine za_step X rfl rfl rfl ?_
  refine za_callI (y := Y_T_init.1) (bytes := Y_T_init.2.1) (maxL := Y_T_init.2.2.1) (b := 6) (d := 1) (mc := 1) (ms := 4) (as := []) X rfl cl_F_T_init cy_T_init ci_T_init (c_T_init6 l D (za_ov k1 [(0, .inr (zn_F, [vR 1, vN, vN, vN, vN, vI 0, vI 0])), (6, .inr (zn_T, [vN, vI 0, vI 0, vI 0, vI 0, vL 0, vI 0, vI 0, vI 0, vI 0]))]) rfl) rfl rfl (Nat.le_of_ble_eq_true rfl) (Nat.le_of_ble_eq_true rfl) (Nat.le_of_ble_eq_true rfl) (Nat.le_of_ble_eq_true rfl) (Nat.le_of_ble_eq_true rfl) (fun v k2 n' hq => ?_)
  obtain ⟨rfl, f2, o2, rfl⟩ := hq
  have e2 : ∀ j, j ≠ 0 → (j < 6 ∨ 7 < j) → k2 j = k1 j := fun j a1 a2 => by rw [o2 j a2, za_ov_n2 a1 (by omega)]
  have z2 : k2 0 = some (.inr (zn_F, [vR 1, vN, vN, vN, vN, vI 0, vI 0])) := (o2 0 (by omega)).trans rfl
  refine za_view [(0, .inr (zn_F, [vR 1, vN, vN, vN, vN, vI 0, vI 0]))] (by simp [z2]) ?_
  refine za_putF (k := 1) (ci := 4) X hnm rfl rfl rfl (by decide) rfl rfl (za_in 174 (by decide +kernel) rfl) rfl rfl (Nat.le_of_ble_eq_true rfl) ?_
  iterate 1 refine za_step X rfl rfl rfl ?_
  refine za_new (N := 10) (ci := zn_T) (fs := [vN, vI 0, vI 0, vI 0, vI 0, vL 0, vI 0, vI 0, vI 0, vI 0]) X rfl rfl zc_F_16 zi_T zj_T (fun z j hj => by rcases (show j = 0 ∨ j = 1 ∨ j = 2 ∨ j = 3 ∨ j = 4 ∨ j = 5 ∨ j = 6 ∨ j = 7 ∨ j = 8 ∨ j = 9 by omega) with rfl | rfl | rfl | rfl | rfl | rfl | rfl | rfl | rfl | rfl <;> rfl) (Nat.le_of_ble_eq_true rfl) (Nat.le_of_ble_eq_true rfl) ?_
  iterate 1 refine za_step X rfl rfl rfl ?_
  refine za_callI (y := Y_T_init.1) (bytes := Y_T_init.2.1) (maxL := Y_T_init.2.2.1) (b := 8) (d := 1) (mc := 1) (ms := 4) (as := []) X rfl cl_F_T_init cy_T_init ci_T_init (c_T_init8 l D (za_ov k2 [(0, .inr (zn_F, [vR 1, vR 6, vN, vN, vN, vI 0, vI 0])), (8, .inr (zn_T, [vN, vI 0, vI 0, vI 0, vI 0, vL 0, vI 0, vI 0, vI 0, vI 0]))]) rfl) rfl rfl (Nat.le_of_ble_eq_true rfl) (Nat.le_of_ble_eq_true rfl) (Nat.le_of_ble_eq_true rfl) (Nat.le_of_ble_eq_true rfl) (Nat.le_of_ble_eq_true rfl) (fun v k3 n' hq => ?_)
  obtain ⟨rfl, f3, o3, rfl⟩ := hq
  have e3 : ∀ j, j ≠ 0 → (j < 8 ∨ 9 < j) → k3 j = k2 j := fun j a1 a2 => by rw [o3 j a2, za_ov_n2 a1 (by omega)]
  have z3 : k3 0 = some (.inr (zn_F, [vR 1, vR 6, vN, vN, vN, vI 0, vI 0])) := (o3 0 (by omega)).trans rfl
  refine za_view [(0, .inr (zn_F, [vR 1, vR 6, vN, vN, vN, vI 0, vI 0]))] (by simp [z3]) ?_
  refine za_putF (k := 2) (ci := 4) X hnm rfl rfl rfl (by decide) rfl rfl (za_in 175 (by decide +kernel) rfl) rfl rfl (Nat.le_of_ble_eq_true rfl) ?_
  iterate 1 refine za_step X rfl rfl rfl ?_
  refine za_new (N := 3) (ci := zn_R) (fs := [vN, vI 0, vI 0]) X rfl rfl zc_F_26 zi_R zj_R (fun z j hj => by rcases (show j = 0 ∨ j = 1 ∨ j = 2 by omega) with rfl | rfl | rfl <;> rfl) (Nat.le_of_ble_eq_true rfl) (Nat.le_of_ble_eq_true rfl) ?_
  iterate 1 refine za_step X rfl rfl rfl ?_
  refine za_callI (y := Y_R_init.1) (bytes := Y_R_init.2.1) (maxL := Y_R_init.2.2.1) (b := 10) (d := 2) (mc := 65) (ms := 448) (as := []) X rfl cl_F_R_init cy_R_init ci_R_init (c_R_init10 l D (za_ov k3 [(0, .inr (zn_F, [vR 1, vR 6, vR 8, vN, vN, vI 0, vI 0])), (10, .inr (zn_R, [vN, vI 0, vI 0]))]) rfl) rfl rfl (Nat.le_of_ble_eq_true rfl) (Nat.le_of_ble_eq_true rfl) (Nat.le_of_ble_eq_true rfl) (Nat.le_of_ble_eq_true rfl) (Nat.le_of_ble_eq_true rfl) (fun v k4 n' hq => ?_)
  obtain ⟨rfl, f4, o4, rfl⟩ := hq
  have e4 : ∀ j, j ≠ 0 → (j < 10 ∨ 75 < j) → k4 j = k3 j := fun j a1 a2 => by rw [o4 j a2, za_ov_n2 a1 (by omega)]
  have z4 : k4 0 = some (.inr (zn_F, [vR 1, vR 6, vR 8, vN, vN, vI 0, vI 0])) := (o4 0 (by omega)).trans rfl
  refine za_view [(0, .inr (zn_F, [vR 1, vR 6, vR 8, vN, vN, vI 0, vI 0]))] (by simp [z4]) ?_
  iterate 1 refine za_step X rfl rfl rfl ?_
  iterate 1 refine za_step X rfl rfl rfl ?_
  refine za_new (N := 3) (ci := zn_R) (fs := [vN, vI 0, vI 0]) X rfl rfl zc_F_26 zi_R zj_R (fun z j hj => by rcases (show j = 0 ∨ j = 1 ∨ j = 2 by omega) with rfl | rfl | rfl <;> rfl) (Nat.le_of_ble_eq_true rfl) (Nat.le_of_ble_eq_true rfl) ?_
  iterate 1 refine za_step X rfl rfl rfl ?_
  refine za_callI (y := Y_R_init.1) (bytes := Y_R_init.2.1) (maxL := Y_R_init.2.2.1) (b := 76) (d := 2) (mc := 65) (ms := 448) (as := []) X rfl cl_F_R_init cy_R_init ci_R_init (c_R_init76 l D (za_ov k4 [(0, .inr (zn_F, [vR 1, vR 6, vR 8, vR 10, vN, vI 0, vI 0])), (76, .inr (zn_R, [vN, vI 0, vI 0]))]) rfl) rfl rfl (Nat.le_of_ble_eq_true rfl) (Nat.le_of_ble_eq_true rfl) (Nat.le_of_ble_eq_true rfl) (Nat.le_of_ble_eq_true rfl) (Nat.le_of_ble_eq_true rfl) (fun v k5 n' hq => ?_)
  obtain ⟨rfl, f5, o5, rfl⟩ := hq
  have e5 : ∀ j, j ≠ 0 → (j < 76 ∨ 141 < j) → k5 j = k4 j := fun j a1 a2 => by rw [o5 j a2, za_ov_n2 a1 (by omega)]
  have z5 : k5 0 = some (.inr (zn_F, [vR 1, vR 6, vR 8, vR 10, vN, vI 0, vI 0])) := (o5 0 (by omega)).trans rfl
  refine za_view [(0, .inr (zn_F, [vR 1, vR 6, vR 8, vR 10, vN, vI 0, vI 0]))] (by simp [z5]) ?_
  iterate 1 refine za_step X rfl rfl rfl ?_
  iterate 6 refine za_step X rfl rfl rfl ?_
  have hfin : za_ov k5 [(0, fs_c 10 76 3 0)] = za_set k5 0 (fs_c 10 76 3 0) := za_ov1 _ _ _
  have ge : ∀ j, j ≠ 0 → za_set k5 0 (fs_c 10 76 3 0) j = k5 j := fun j a => za_set_ne a
  have g1 : ∀ j, 1 ≤ j → j ≤ 5 → za_set k5 0 (fs_c 10 76 3 0) j = k1 j := fun j a b => by rw [ge j (by omega), e5 j (by omega) (by omega), e4 j (by omega) (by omega), e3 j (by omega) (by omega), e2 j (by omega) (by omega)]
  have g2 : ∀ j, 6 ≤ j → j ≤ 7 → za_set k5 0 (fs_c 10 76 3 0) j = k2 j := fun j a b => by rw [ge j (by omega), e5 j (by omega) (by omega), e4 j (by omega) (by omega), e3 j (by omega) (by omega)]
  have g3 : ∀ j, 8 ≤ j → j ≤ 9 → za_set k5 0 (fs_c 10 76 3 0) j = k3 j := fun j a b => by rw [ge j (by omega), e5 j (by omega) (by omega), e4 j (by omega) (by omega)]
  have g4 : ∀ j, 10 ≤ j → j < 10 + 66 → za_set k5 0 (fs_c 10 76 3 0) j = k4 j := fun j a b => by rw [ge j (by omega), e5 j (by omega) (by omega)]
  obtain ⟨w4, f4⟩ := f4
  obtain ⟨w5, f5⟩ := f5
  refine za_vret X rfl ⟨rfl, ?_, ?_, rfl⟩ (Nat.le_of_ble_eq_true rfl) (Nat.le_of_ble_eq_true rfl)
  · show fs_at (za_ov k5 [(0, fs_c 10 76 3 0)]) fs_0
    rw [hfin]
    exact ⟨pr_ok_0, pr_at_off f1 g1, ⟨by rw [g2 6 (by omega) (by omega)]; exact f2.1, by rw [g2 (6 + 1) (by omega) (by omega)]; exact f2.2⟩, by decide, by decide, 10, 76, Or.inl ⟨rfl, rfl⟩, za_set_eq _ _ _, ⟨tr_0, by rw [g3 8 (by omega) (by omega)]; exact f3.1, by rw [g3 (8 + 1) (by omega) (by omega)]; exact f3.2⟩, ⟨w4, rs_at_off f4 g4⟩, w5, (0, fun _ => wr_0), rs_at_off f5 (fun j a b => ge j (by omega))⟩
  · show fs_fr h (za_ov k5 [(0, fs_c 10 76 3 0)])
    rw [hfin]
    intro j hj
    rw [ge j (by omega), e5 j (by omega) (by omega), e4 j (by omega) (by omega), e3 j (by omega) (by omega), e2 j (by omega) (by omega), e1 j (by omega) (by omega)]
set_option maxHeartbeats 4000000 in
set_option maxRecDepth 100000 in
theorem c_M_init (l : Launch) (D : za_D) (h : za_H) (hp : h 142 = some (.inr (zn_M, [vI 0, vN, vN, vN, vN, vI 0, vI 0, vN, vI 0, vI 0, vI 0, vI 0, vL 0, vI 0, vI 0, vI 0, vI 0, vI 0, vN, vN, vN, vN, vN, vN, vI 0, vN, vN, vN, vN, vN, vI 0, vI 0]))) : za_M l D Y_M_init 1 16 810 [vR 142] h 143 (fun v h' n' => v = none ∧ ms_at h' 0 fs_0 ∧ ms_fr h h' ∧ n' = 159) := by
  refine za_enter cd_M_init fl_M (by decide) cdok_M_init flok_M (Nat.le_of_ble_eq_true rfl) ?_
  intro p e s m args below meth c X hnm
  refine za_view [(142, .inr (zn_M, [vI 0, vN, vN, vN, vN, vI 0, vI 0, vN, vI 0, vI 0, vI 0, vI 0, vL 0, vI 0, vI 0, vI 0, vI 0, vI 0, vN, vN, vN, vN, vN, vN, vI 0, vN, vN, vN, vN, vN, vI 0, vI 0]))] (by simp [hp]) ?_
  iterate 1 refine za_step X rfl rfl rfl ?_
  refine za_obj X rfl zo_M zo_1 zo_2 (Nat.le_of_ble_eq_true rfl) (Nat.le_of_ble_eq_true rfl) (Nat.le_of_ble_eq_true rfl) ?_
  iterate 2 refine za_step X rfl rfl rfl ?_
  refine za_newi (N := 24) (t0 := 0) X rfl rfl za_intA (by decide) (by decide) (by decide) (Nat.le_of_ble_eq_true rfl) (Nat.le_of_ble_eq_true rfl) ?_
  refine za_putF (k := 1) (ci := 5) X hnm rfl rfl rfl (by decide) rfl rfl (za_in 488 (by decide +kernel) rfl) rfl rfl (Nat.le_of_ble_eq_true rfl) ?_
  iterate 2 refine za_step X rfl rfl rfl ?_
  refine za_newi (N := 24) (t0 := 0) X rfl rfl za_intA (by decide) (by decide) (by decide) (Nat.le_of_ble_eq_true rfl) (Nat.le_of_ble_eq_true rfl) ?_
  refine za_putF (k := 2) (ci := 5) X hnm rfl rfl rfl (by decide) rfl rfl (za_in 489 (by decide +kernel) rfl) rfl rfl (Nat.le_of_ble_eq_true rfl) ?_
  iterate 2 refine za_step X rfl rfl rfl ?_
  refine za_newi (N := 24) (t0 := 0) X rfl rfl za_intA (by decide) (by decide) (by decide) (Nat.le_of_ble_eq_true rfl) (Nat.le_of_ble_eq_true rfl) ?_
  refine za_putF (k := 3) (ci := 5) X hnm rfl rfl rfl (by decide) rfl rfl (za_in 490 (by decide +kernel) rfl) rfl rfl (Nat.le_of_ble_eq_true rfl) ?_
  iterate 2 refine za_step X rfl rfl rfl ?_
  refine za_newi (N := 24) (t0 := 0) X rfl rfl za_intA (by decide) (by decide) (by decide) (Nat.le_of_ble_eq_true rfl) (Nat.le_of_ble_eq_true rfl) ?_
  refine za_putF (k := 4) (ci := 5) X hnm rfl rfl rfl (by decide) rfl rfl (za_in 491 (by decide +kernel) rfl) rfl rfl (Nat.le_of_ble_eq_true rfl) ?_
  iterate 3 refine za_step X rfl rfl rfl ?_
  iterate 2 refine za_step X rfl rfl rfl ?_
  refine za_newi (N := 4) (t0 := 0) X rfl rfl za_intA (by decide) (by decide) (by decide) (Nat.le_of_ble_eq_true rfl) (Nat.le_of_ble_eq_true rfl) ?_
  refine za_putF (k := 7) (ci := 5) X hnm rfl rfl rfl (by decide) rfl rfl (za_in 494 (by decide +kernel) rfl) rfl rfl (Nat.le_of_ble_eq_true rfl) ?_
  iterate 2 refine za_step X rfl rfl rfl ?_
  refine za_newl (N := 65) (t0 := 1) X rfl rfl za_longA (by decide) (by decide) (by decide) (Nat.le_of_ble_eq_true rfl) (Nat.le_of_ble_eq_true rfl) ?_
  refine za_putF (k := 18) (ci := 5) X hnm rfl rfl rfl (by decide) rfl rfl (za_in 505 (by decide +kernel) rfl) rfl rfl (Nat.le_of_ble_eq_true rfl) ?_
  iterate 2 refine za_step X rfl rfl rfl ?_
  refine za_newi (N := 65) (t0 := 0) X rfl rfl za_intA (by decide) (by decide) (by decide) (Nat.le_of_ble_eq_true rfl) (Nat.le_of_ble_eq_true rfl) ?_
  refine za_putF (k := 19) (ci := 5) X hnm rfl rfl rfl (by decide) rfl rfl (za_in 506 (by decide +kernel) rfl) rfl rfl (Nat.le_of_ble_eq_true rfl) ?_
  iterate 2 refine za_step X rfl rfl rfl ?_
  refine za_newi (N := 65) (t0 := 0) X rfl rfl za_intA (by decide) (by decide) (by decide) (Nat.le_of_ble_eq_true rfl) (Nat.le_of_ble_eq_true rfl) ?_
  refine za_putF (k := 20) (ci := 5) X hnm rfl rfl rfl (by decide) rfl rfl (za_in 507 (by decide +kernel) rfl) rfl rfl (Nat.le_of_ble_eq_true rfl) ?_
  iterate 2 refine za_step X rfl rfl rfl ?_
  refine za_newi (N := 65) (t0 := 0) X rfl rfl za_intA (by decide) (by decide) (by decide) (Nat.le_of_ble_eq_true rfl) (Nat.le_of_ble_eq_true rfl) ?_
  refine za_putF (k := 21) (ci := 5) X hnm rfl rfl rfl (by decide) rfl rfl (za_in 508 (by decide +kernel) rfl) rfl rfl (Nat.le_of_ble_eq_true rfl) ?_
  iterate 2 refine za_step X rfl rfl rfl ?_
  refine za_newi (N := 65) (t0 := 0) X rfl rfl za_intA (by decide) (by decide) (by decide) (Nat.le_of_ble_eq_true rfl) (Nat.le_of_ble_eq_true rfl) ?_
  refine za_putF (k := 22) (ci := 5) X hnm rfl rfl rfl (by decide) rfl rfl (za_in 509 (by decide +kernel) rfl) rfl rfl (Nat.le_of_ble_eq_true rfl) ?_
  iterate 2 refine za_step X rfl rfl rfl ?_
  refine za_newi (N := 65) (t0 := 0) X rfl rfl za_intA (by decide) (by decide) (by decide) (Nat.le_of_ble_eq_true rfl) (Nat.le_of_ble_eq_true rfl) ?_
  refine za_putF (k := 23) (ci := 5) X hnm rfl rfl rfl (by decide) rfl rfl (za_in 510 (by decide +kernel) rfl) rfl rfl (Nat.le_of_ble_eq_true rfl) ?_
  iterate 2 refine za_step X rfl rfl rfl ?_
  refine za_newl (N := 64) (t0 := 1) X rfl rfl za_longA (by decide) (by decide) (by decide) (Nat.le_of_ble_eq_true rfl) (Nat.le_of_ble_eq_true rfl) ?_
  refine za_putF (k := 25) (ci := 5) X hnm rfl rfl rfl (by decide) rfl rfl (za_in 512 (by decide +kernel) rfl) rfl rfl (Nat.le_of_ble_eq_true rfl) ?_
  iterate 2 refine za_step X rfl rfl rfl ?_
  refine za_newi (N := 64) (t0 := 0) X rfl rfl za_intA (by decide) (by decide) (by decide) (Nat.le_of_ble_eq_true rfl) (Nat.le_of_ble_eq_true rfl) ?_
  refine za_putF (k := 26) (ci := 5) X hnm rfl rfl rfl (by decide) rfl rfl (za_in 513 (by decide +kernel) rfl) rfl rfl (Nat.le_of_ble_eq_true rfl) ?_
  iterate 2 refine za_step X rfl rfl rfl ?_
  refine za_newi (N := 64) (t0 := 0) X rfl rfl za_intA (by decide) (by decide) (by decide) (Nat.le_of_ble_eq_true rfl) (Nat.le_of_ble_eq_true rfl) ?_
  refine za_putF (k := 27) (ci := 5) X hnm rfl rfl rfl (by decide) rfl rfl (za_in 514 (by decide +kernel) rfl) rfl rfl (Nat.le_of_ble_eq_true rfl) ?_
  iterate 2 refine za_step X rfl rfl rfl ?_
  refine za_newi (N := 64) (t0 := 0) X rfl rfl za_intA (by decide) (by decide) (by decide) (Nat.le_of_ble_eq_true rfl) (Nat.le_of_ble_eq_true rfl) ?_
  refine za_putF (k := 28) (ci := 5) X hnm rfl rfl rfl (by decide) rfl rfl (za_in 515 (by decide +kernel) rfl) rfl rfl (Nat.le_of_ble_eq_true rfl) ?_
  iterate 2 refine za_step X rfl rfl rfl ?_
  refine za_newi (N := 64) (t0 := 0) X rfl rfl za_intA (by decide) (by decide) (by decide) (Nat.le_of_ble_eq_true rfl) (Nat.le_of_ble_eq_true rfl) ?_
  refine za_putF (k := 29) (ci := 5) X hnm rfl rfl rfl (by decide) rfl rfl (za_in 516 (by decide +kernel) rfl) rfl rfl (Nat.le_of_ble_eq_true rfl) ?_
  refine za_vret X rfl ⟨rfl, ⟨pr_ok_0, by decide, by decide, tr_0, 0, rfl, rfl, ⟨rfl, rfl, rfl, rfl⟩, ⟨fun _ => (0, 0, 0, 0, 0, 0), rfl, rfl, rfl, rfl, rfl, rfl⟩, ⟨fun _ => (0, 0, 0, 0, 0, 0), ⟨rfl, rfl, rfl, rfl, rfl⟩, fun i hi => absurd hi (Nat.not_lt_zero i)⟩, fun i hi => absurd hi (Nat.not_lt_zero i), Nat.zero_le _⟩, ?_, rfl⟩ (Nat.le_of_ble_eq_true rfl) (Nat.le_of_ble_eq_true rfl)
  intro j hj
  refine za_ov_off (v := [(142, _), (143, _), (144, _), (145, _), (146, _), (147, _), (148, _), (149, _), (150, _), (151, _), (152, _), (153, _), (154, _), (155, _), (156, _), (157, _), (158, _)]) ?_
  intro q hq
  simp only [List.mem_cons, List.not_mem_nil, or_false] at hq
  rcases hq with rfl | rfl | rfl | rfl | rfl | rfl | rfl | rfl | rfl | rfl | rfl | rfl | rfl | rfl | rfl | rfl | rfl <;> (show _ ≠ j; omega)
end
section
/-! THE LAW'S METHODS: each calls the class and says 0, 1 or 2 -/
theorem fs_off {h h' : za_H} {σ : fs_T} (hσ : fs_at h σ) (e : ∀ j, j < 142 → h' j = h j) : fs_at h' σ := by
  obtain ⟨P, T, S, b, q⟩ := σ
  obtain ⟨hok, hP, hT, hb1, hb4, ra, rb, hrr, hF, ⟨T8, h8⟩, ⟨w, hS⟩, wb, SD, hD⟩ := hσ
  exact ⟨hok, pr_at_off hP (fun j a1 a2 => e j (by omega)), ⟨by rw [e 6 (by omega)]; exact hT.1, by rw [e (6 + 1) (by omega)]; exact hT.2⟩, hb1, hb4, ra, rb, hrr, by rw [e 0 (by omega)]; exact hF, ⟨T8, by rw [e 8 (by omega)]; exact h8.1, by rw [e (8 + 1) (by omega)]; exact h8.2⟩, ⟨w, rs_at_off hS (fun j a1 a2 => e j (by omega))⟩, wb, SD, rs_at_off hD (fun j a1 a2 => e j (by omega))⟩
def ou_at (h : za_H) (w : Nat → Int64) : Prop := h 159 = some (.inl (1, 1, .inr (.inl w)))
def lw_ps (h : za_H) (n : Nat) (R : Nat × Int32 × fs_T) (r : Option za_V ⊕ String) (h' : za_H) (n' : Nat) : Prop := r = .inl (some (vI (nI R.1))) ∧ fs_at h' R.2.2 ∧ (∀ j, 142 ≤ j → j ≠ 159 → h' j = h j) ∧ (∃ w, ou_at h' w ∧ (R.1 = 0 → w 0 = R.2.1.toInt64)) ∧ n ≤ n' ∧ n' ≤ n + 1
theorem lw_fin {h h1 : za_H} {n n' : Nat} {c : Nat} {v : Int32} {σ : fs_T} {w : Nat → Int64} (hc : ¬ c = 0) (hf : fs_at h1 σ) (hfr : fs_fr h h1) (ho : ou_at h w) (h1' : n ≤ n') (h2' : n' ≤ n + 1) : lw_ps h n (c, v, σ) (.inl (some (vI (nI c)))) h1 n' := ⟨rfl, hf, fun j hj _ => hfr j hj, ⟨w, (hfr 159 (by omega)).trans ho, fun z => absurd z hc⟩, h1', h2'⟩
set_option maxHeartbeats 4000000 in
set_option maxRecDepth 100000 in
theorem c_L_instr (l : Launch) (D : za_D) (h : za_H) (n : Nat) (hst : l.stackTraces = false) (σ : fs_T) (hσ : fs_at h σ) (w0 : Nat → Int64) (ho : ou_at h w0) (op a1 x1 y1 : Int32) : zg_M l D (.codeWith Y_L_instr.1 Y_L_instr.2.1 Y_L_instr.2.2.1 Y_L_instr.2.2.2 hs_L_instr) Y_L_instr 7 1 6 [vR 0, vI op, vI a1, vI x1, vI y1, vR 159] h n (lw_ps h n (sp_instr σ op a1 x1 y1)) := by
  have h2 : True := trivial
  have hF : ∃ cl, h 0 = some (.inr (zn_F, cl)) := by
    obtain ⟨P, T, S, b, q⟩ := σ
    obtain ⟨_, _, _, _, _, ra, rb, _, hF, _⟩ := hσ
    exact ⟨_, hF⟩
  obtain ⟨cl, hF⟩ := hF
  refine zg_enter cd_L_instr fl_L (zg_Kwith Y_L_instr hs_L_instr) (by decide) cdok_L_instr flok_L (Nat.le_of_ble_eq_true rfl) ?_
  intro p e s m args below meth c X hH hex
  iterate 7 refine za_step X rfl rfl rfl ?_
  refine zg_callV (K := .code Y_F_instr.1 Y_F_instr.2.1 Y_F_instr.2.2.1 Y_F_instr.2.2.2) (Y := Y_F_instr) (hs := []) (b := 0) (d := 6) (mc := 1) (ms := 6) (as := [vI op, vI a1, vI x1, vI y1]) (rest := [vI 0, vR 159]) X hH rfl (za_in 204 (by decide +kernel) rfl) (zg_Kcode Y_F_instr) kc_F_instr zj_F cv_F_instr.1 cv_F_instr.2 (by decide) cy_F_instr.2.2.2 (c_F_instr l D h n hst σ hσ op a1 x1 y1) rfl (show za_ov h [] 0 = _ from hF) rfl (Nat.le_of_ble_eq_true rfl) (Nat.le_of_ble_eq_true rfl) (Nat.le_of_ble_eq_true rfl) (Nat.le_of_ble_eq_true rfl) (Nat.le_of_ble_eq_true rfl) (fun r h' n' hq => ?_)
  have hq' : fs_ps "java/lang/IllegalArgumentException" "java/lang/IllegalStateException" h n (sp_instr σ op a1 x1 y1) r h' n' := hq
  generalize sp_instr σ op a1 x1 y1 = R at hq' h2 ⊢
  obtain ⟨cd, v, σ'⟩ := R
  obtain ⟨hfs, hfr, hc⟩ := hq'
  rcases hc with ⟨hR, rfl, rfl⟩ | ⟨hR, rfl, rfl⟩ | ⟨hR, rfl, rfl⟩
  · have hR' : cd = 0 := hR
    subst hR'
    have ho' : h' 159 = some (.inl (1, 1, .inr (.inl w0))) := (hfr 159 (by omega)).trans ho
    refine za_view [(159, .inl (1, 1, .inr (.inl w0)))] (by simp [ho']) ?_
    iterate 1 refine za_step X rfl rfl rfl ?_
    refine za_last X rfl rfl rfl (by unfold vp_in; decide) ?_
    iterate 2 refine za_step X rfl rfl rfl ?_
    refine zg_of (za_iret X rfl ⟨rfl, ?_, ?_, ⟨_, rfl, fun _ => rfl⟩, Nat.le_refl _, Nat.le_succ _⟩ (Nat.le_of_ble_eq_true rfl) (Nat.le_of_ble_eq_true rfl))
    · refine fs_off hfs (fun j hj => ?_)
      refine za_ov_off (v := [(159, _)]) ?_
      intro q hq
      rw [List.mem_singleton] at hq
      subst hq
      show 159 ≠ j
      omega
    · intro j hj hj9
      refine Eq.trans (za_ov_off (v := [(159, _)]) ?_) (hfr j hj)
      intro q hq
      rw [List.mem_singleton] at hq
      subst hq
      show 159 ≠ j
      omega
  · have hR' : cd = 1 := hR
    subst hR'
    intro i
    refine zg_catch (q := (0, 14, 17, 13)) (pr := []) (su := [(0, 14, 21, 15)]) (nm := "java/lang/IllegalArgumentException") X hH hex rfl (fun y hy => absurd hy List.not_mem_nil) rfl (by decide) zc_L_13 zk_IllegalArgumentException ?_
    iterate 2 refine za_step X rfl rfl rfl ?_
    exact zg_of (za_iret X rfl (lw_fin (by decide) hfs hfr ho (by omega) (by omega)) (Nat.le_of_ble_eq_true rfl) (Nat.le_of_ble_eq_true rfl))
  · have hR2 : cd = 2 := hR
    subst hR2
    intro i
    refine zg_catch (q := (0, 14, 21, 15)) (pr := [(0, 14, 17, 13)]) (su := []) (nm := "java/lang/IllegalStateException") X hH hex rfl (fun y hy => by rw [List.mem_singleton] at hy; subst hy; exact Or.inr ⟨rfl, by decide, "java/lang/IllegalArgumentException", zc_L_13, by decide⟩) rfl (by decide) zc_L_15 zk_IllegalStateException ?_
    iterate 2 refine za_step X rfl rfl rfl ?_
    exact zg_of (za_iret X rfl (lw_fin (by decide) hfs hfr ho (by omega) (by omega)) (Nat.le_of_ble_eq_true rfl) (Nat.le_of_ble_eq_true rfl))
theorem sp2_undo (σ : fs_T)  : ¬ (sp_undo σ).1 = 2 := by
  obtain ⟨P, T, S, b, q⟩ := σ
  unfold sp_undo
  repeat' split
  all_goals (first | (show ¬ (0 : Nat) = 2; decide) | (show ¬ (1 : Nat) = 2; decide))
set_option maxHeartbeats 4000000 in
set_option maxRecDepth 100000 in
theorem c_L_undo (l : Launch) (D : za_D) (h : za_H) (n : Nat) (hst : l.stackTraces = false) (σ : fs_T) (hσ : fs_at h σ) (w0 : Nat → Int64) (ho : ou_at h w0)  : zg_M l D (.codeWith Y_L_undo.1 Y_L_undo.2.1 Y_L_undo.2.2.1 Y_L_undo.2.2.2 hs_L_undo) Y_L_undo 7 1 6 [vR 0, vR 159] h n (lw_ps h n (sp_undo σ)) := by
  have h2 : ¬ (sp_undo σ).1 = 2 := sp2_undo σ
  have hF : ∃ cl, h 0 = some (.inr (zn_F, cl)) := by
    obtain ⟨P, T, S, b, q⟩ := σ
    obtain ⟨_, _, _, _, _, ra, rb, _, hF, _⟩ := hσ
    exact ⟨_, hF⟩
  obtain ⟨cl, hF⟩ := hF
  refine zg_enter cd_L_undo fl_L (zg_Kwith Y_L_undo hs_L_undo) (by decide) cdok_L_undo flok_L (Nat.le_of_ble_eq_true rfl) ?_
  intro p e s m args below meth c X hH hex
  iterate 3 refine za_step X rfl rfl rfl ?_
  refine zg_callV (K := .code Y_F_undo.1 Y_F_undo.2.1 Y_F_undo.2.2.1 Y_F_undo.2.2.2) (Y := Y_F_undo) (hs := []) (b := 0) (d := 6) (mc := 1) (ms := 6) (as := []) (rest := [vI 0, vR 159]) X hH rfl (za_in 303 (by decide +kernel) rfl) (zg_Kcode Y_F_undo) kc_F_undo zj_F cv_F_undo.1 cv_F_undo.2 (by decide) cy_F_undo.2.2.2 (c_F_undo l D h n hst σ hσ) rfl (show za_ov h [] 0 = _ from hF) rfl (Nat.le_of_ble_eq_true rfl) (Nat.le_of_ble_eq_true rfl) (Nat.le_of_ble_eq_true rfl) (Nat.le_of_ble_eq_true rfl) (Nat.le_of_ble_eq_true rfl) (fun r h' n' hq => ?_)
  have hq' : fs_ps "java/util/NoSuchElementException" "java/util/NoSuchElementException" h n (sp_undo σ) r h' n' := hq
  generalize sp_undo σ = R at hq' h2 ⊢
  obtain ⟨cd, v, σ'⟩ := R
  obtain ⟨hfs, hfr, hc⟩ := hq'
  rcases hc with ⟨hR, rfl, rfl⟩ | ⟨hR, rfl, rfl⟩ | ⟨hR, rfl, rfl⟩
  · have hR' : cd = 0 := hR
    subst hR'
    have ho' : h' 159 = some (.inl (1, 1, .inr (.inl w0))) := (hfr 159 (by omega)).trans ho
    refine za_view [(159, .inl (1, 1, .inr (.inl w0)))] (by simp [ho']) ?_
    iterate 1 refine za_step X rfl rfl rfl ?_
    refine za_last X rfl rfl rfl (by unfold vp_in; decide) ?_
    iterate 2 refine za_step X rfl rfl rfl ?_
    refine zg_of (za_iret X rfl ⟨rfl, ?_, ?_, ⟨_, rfl, fun _ => rfl⟩, Nat.le_refl _, Nat.le_succ _⟩ (Nat.le_of_ble_eq_true rfl) (Nat.le_of_ble_eq_true rfl))
    · refine fs_off hfs (fun j hj => ?_)
      refine za_ov_off (v := [(159, _)]) ?_
      intro q hq
      rw [List.mem_singleton] at hq
      subst hq
      show 159 ≠ j
      omega
    · intro j hj hj9
      refine Eq.trans (za_ov_off (v := [(159, _)]) ?_) (hfr j hj)
      intro q hq
      rw [List.mem_singleton] at hq
      subst hq
      show 159 ≠ j
      omega
  · have hR' : cd = 1 := hR
    subst hR'
    intro i
    refine zg_catch (q := (0, 8, 11, 21)) (pr := []) (su := []) (nm := "java/util/NoSuchElementException") X hH hex rfl (fun y hy => absurd hy List.not_mem_nil) rfl (by decide) zc_L_21 zk_NoSuchElementException ?_
    iterate 2 refine za_step X rfl rfl rfl ?_
    exact zg_of (za_iret X rfl (lw_fin (by decide) hfs hfr ho (by omega) (by omega)) (Nat.le_of_ble_eq_true rfl) (Nat.le_of_ble_eq_true rfl))
  · skip
    skip
    exact absurd hR h2
theorem sp2_width (σ : fs_T) (x1 : Int32) : ¬ (sp_width σ x1).1 = 2 := by
  obtain ⟨P, T, S, b, q⟩ := σ
  unfold sp_width
  repeat' split
  all_goals (first | (show ¬ (0 : Nat) = 2; decide) | (show ¬ (1 : Nat) = 2; decide))
set_option maxHeartbeats 4000000 in
set_option maxRecDepth 100000 in
theorem c_L_width (l : Launch) (D : za_D) (h : za_H) (n : Nat) (hst : l.stackTraces = false) (σ : fs_T) (hσ : fs_at h σ) (w0 : Nat → Int64) (ho : ou_at h w0) (x1 : Int32) : zg_M l D (.codeWith Y_L_width.1 Y_L_width.2.1 Y_L_width.2.2.1 Y_L_width.2.2.2 hs_L_width) Y_L_width 7 1 6 [vR 0, vI x1, vR 159] h n (lw_ps h n (sp_width σ x1)) := by
  have h2 : ¬ (sp_width σ x1).1 = 2 := sp2_width σ x1
  have hF : ∃ cl, h 0 = some (.inr (zn_F, cl)) := by
    obtain ⟨P, T, S, b, q⟩ := σ
    obtain ⟨_, _, _, _, _, ra, rb, _, hF, _⟩ := hσ
    exact ⟨_, hF⟩
  obtain ⟨cl, hF⟩ := hF
  refine zg_enter cd_L_width fl_L (zg_Kwith Y_L_width hs_L_width) (by decide) cdok_L_width flok_L (Nat.le_of_ble_eq_true rfl) ?_
  intro p e s m args below meth c X hH hex
  iterate 4 refine za_step X rfl rfl rfl ?_
  refine zg_callV (K := .code Y_F_width.1 Y_F_width.2.1 Y_F_width.2.2.1 Y_F_width.2.2.2) (Y := Y_F_width) (hs := []) (b := 0) (d := 6) (mc := 1) (ms := 6) (as := [vI x1]) (rest := [vI 0, vR 159]) X hH rfl (za_in 325 (by decide +kernel) rfl) (zg_Kcode Y_F_width) kc_F_width zj_F cv_F_width.1 cv_F_width.2 (by decide) cy_F_width.2.2.2 (c_F_width l D h n hst σ hσ x1) rfl (show za_ov h [] 0 = _ from hF) rfl (Nat.le_of_ble_eq_true rfl) (Nat.le_of_ble_eq_true rfl) (Nat.le_of_ble_eq_true rfl) (Nat.le_of_ble_eq_true rfl) (Nat.le_of_ble_eq_true rfl) (fun r h' n' hq => ?_)
  have hq' : fs_ps "java/lang/IllegalArgumentException" "java/lang/IllegalArgumentException" h n (sp_width σ x1) r h' n' := hq
  generalize sp_width σ x1 = R at hq' h2 ⊢
  obtain ⟨cd, v, σ'⟩ := R
  obtain ⟨hfs, hfr, hc⟩ := hq'
  rcases hc with ⟨hR, rfl, rfl⟩ | ⟨hR, rfl, rfl⟩ | ⟨hR, rfl, rfl⟩
  · have hR' : cd = 0 := hR
    subst hR'
    have ho' : h' 159 = some (.inl (1, 1, .inr (.inl w0))) := (hfr 159 (by omega)).trans ho
    refine za_view [(159, .inl (1, 1, .inr (.inl w0)))] (by simp [ho']) ?_
    iterate 1 refine za_step X rfl rfl rfl ?_
    refine za_last X rfl rfl rfl (by unfold vp_in; decide) ?_
    iterate 2 refine za_step X rfl rfl rfl ?_
    refine zg_of (za_iret X rfl ⟨rfl, ?_, ?_, ⟨_, rfl, fun _ => rfl⟩, Nat.le_refl _, Nat.le_succ _⟩ (Nat.le_of_ble_eq_true rfl) (Nat.le_of_ble_eq_true rfl))
    · refine fs_off hfs (fun j hj => ?_)
      refine za_ov_off (v := [(159, _)]) ?_
      intro q hq
      rw [List.mem_singleton] at hq
      subst hq
      show 159 ≠ j
      omega
    · intro j hj hj9
      refine Eq.trans (za_ov_off (v := [(159, _)]) ?_) (hfr j hj)
      intro q hq
      rw [List.mem_singleton] at hq
      subst hq
      show 159 ≠ j
      omega
  · have hR' : cd = 1 := hR
    subst hR'
    intro i
    refine zg_catch (q := (0, 9, 12, 13)) (pr := []) (su := []) (nm := "java/lang/IllegalArgumentException") X hH hex rfl (fun y hy => absurd hy List.not_mem_nil) rfl (by decide) zc_L_13 zk_IllegalArgumentException ?_
    iterate 2 refine za_step X rfl rfl rfl ?_
    exact zg_of (za_iret X rfl (lw_fin (by decide) hfs hfr ho (by omega) (by omega)) (Nat.le_of_ble_eq_true rfl) (Nat.le_of_ble_eq_true rfl))
  · skip
    skip
    exact absurd hR h2
theorem sp2_run (σ : fs_T) (x1 y1 : Int32) : ¬ (sp_run σ x1 y1).1 = 2 := by
  obtain ⟨P, T, S, b, q⟩ := σ
  unfold sp_run
  repeat' split
  all_goals (first | (show ¬ (0 : Nat) = 2; decide) | (show ¬ (1 : Nat) = 2; decide))
set_option maxHeartbeats 4000000 in
set_option maxRecDepth 100000 in
theorem c_L_run (l : Launch) (D : za_D) (h : za_H) (n : Nat) (hst : l.stackTraces = false) (σ : fs_T) (hσ : fs_at h σ) (w0 : Nat → Int64) (ho : ou_at h w0) (x1 y1 : Int32) : zg_M l D (.codeWith Y_L_run.1 Y_L_run.2.1 Y_L_run.2.2.1 Y_L_run.2.2.2 hs_L_run) Y_L_run 7 1 6 [vR 0, vI x1, vI y1, vR 159] h n (lw_ps h n (sp_run σ x1 y1)) := by
  have h2 : ¬ (sp_run σ x1 y1).1 = 2 := sp2_run σ x1 y1
  have hF : ∃ cl, h 0 = some (.inr (zn_F, cl)) := by
    obtain ⟨P, T, S, b, q⟩ := σ
    obtain ⟨_, _, _, _, _, ra, rb, _, hF, _⟩ := hσ
    exact ⟨_, hF⟩
  obtain ⟨cl, hF⟩ := hF
  refine zg_enter cd_L_run fl_L (zg_Kwith Y_L_run hs_L_run) (by decide) cdok_L_run flok_L (Nat.le_of_ble_eq_true rfl) ?_
  intro p e s m args below meth c X hH hex
  iterate 5 refine za_step X rfl rfl rfl ?_
  refine zg_callV (K := .code Y_F_run.1 Y_F_run.2.1 Y_F_run.2.2.1 Y_F_run.2.2.2) (Y := Y_F_run) (hs := []) (b := 0) (d := 6) (mc := 1) (ms := 6) (as := [vI x1, vI y1]) (rest := [vI 0, vR 159]) X hH rfl (za_in 332 (by decide +kernel) rfl) (zg_Kcode Y_F_run) kc_F_run zj_F cv_F_run.1 cv_F_run.2 (by decide) cy_F_run.2.2.2 (c_F_run l D h n hst σ hσ x1 y1) rfl (show za_ov h [] 0 = _ from hF) rfl (Nat.le_of_ble_eq_true rfl) (Nat.le_of_ble_eq_true rfl) (Nat.le_of_ble_eq_true rfl) (Nat.le_of_ble_eq_true rfl) (Nat.le_of_ble_eq_true rfl) (fun r h' n' hq => ?_)
  have hq' : fs_ps "java/lang/IllegalArgumentException" "java/lang/IllegalArgumentException" h n (sp_run σ x1 y1) r h' n' := hq
  generalize sp_run σ x1 y1 = R at hq' h2 ⊢
  obtain ⟨cd, v, σ'⟩ := R
  obtain ⟨hfs, hfr, hc⟩ := hq'
  rcases hc with ⟨hR, rfl, rfl⟩ | ⟨hR, rfl, rfl⟩ | ⟨hR, rfl, rfl⟩
  · have hR' : cd = 0 := hR
    subst hR'
    have ho' : h' 159 = some (.inl (1, 1, .inr (.inl w0))) := (hfr 159 (by omega)).trans ho
    refine za_view [(159, .inl (1, 1, .inr (.inl w0)))] (by simp [ho']) ?_
    iterate 1 refine za_step X rfl rfl rfl ?_
    refine za_last X rfl rfl rfl (by unfold vp_in; decide) ?_
    iterate 2 refine za_step X rfl rfl rfl ?_
    refine zg_of (za_iret X rfl ⟨rfl, ?_, ?_, ⟨_, rfl, fun _ => rfl⟩, Nat.le_refl _, Nat.le_succ _⟩ (Nat.le_of_ble_eq_true rfl) (Nat.le_of_ble_eq_true rfl))
    · refine fs_off hfs (fun j hj => ?_)
      refine za_ov_off (v := [(159, _)]) ?_
      intro q hq
      rw [List.mem_singleton] at hq
      subst hq
      show 159 ≠ j
      omega
    · intro j hj hj9
      refine Eq.trans (za_ov_off (v := [(159, _)]) ?_) (hfr j hj)
      intro q hq
      rw [List.mem_singleton] at hq
      subst hq
      show 159 ≠ j
      omega
  · have hR' : cd = 1 := hR
    subst hR'
    intro i
    refine zg_catch (q := (0, 10, 13, 13)) (pr := []) (su := []) (nm := "java/lang/IllegalArgumentException") X hH hex rfl (fun y hy => absurd hy List.not_mem_nil) rfl (by decide) zc_L_13 zk_IllegalArgumentException ?_
    iterate 2 refine za_step X rfl rfl rfl ?_
    exact zg_of (za_iret X rfl (lw_fin (by decide) hfs hfr ho (by omega) (by omega)) (Nat.le_of_ble_eq_true rfl) (Nat.le_of_ble_eq_true rfl))
  · skip
    skip
    exact absurd hR h2
set_option maxHeartbeats 4000000 in
set_option maxRecDepth 100000 in
theorem c_L_last (l : Launch) (D : za_D) (h : za_H) (n : Nat) (hst : l.stackTraces = false) (σ : fs_T) (hσ : fs_at h σ) (w0 : Nat → Int64) (ho : ou_at h w0) (x1 : Int32) : zg_M l D (.codeWith Y_L_last.1 Y_L_last.2.1 Y_L_last.2.2.1 Y_L_last.2.2.2 hs_L_last) Y_L_last 7 1 6 [vR 0, vI x1, vR 159] h n (lw_ps h n (sp_last σ x1)) := by
  have h2 : True := trivial
  have hF : ∃ cl, h 0 = some (.inr (zn_F, cl)) := by
    obtain ⟨P, T, S, b, q⟩ := σ
    obtain ⟨_, _, _, _, _, ra, rb, _, hF, _⟩ := hσ
    exact ⟨_, hF⟩
  obtain ⟨cl, hF⟩ := hF
  refine zg_enter cd_L_last fl_L (zg_Kwith Y_L_last hs_L_last) (by decide) cdok_L_last flok_L (Nat.le_of_ble_eq_true rfl) ?_
  intro p e s m args below meth c X hH hex
  iterate 4 refine za_step X rfl rfl rfl ?_
  refine zg_callV (K := .code Y_F_last.1 Y_F_last.2.1 Y_F_last.2.2.1 Y_F_last.2.2.2) (Y := Y_F_last) (hs := []) (b := 0) (d := 6) (mc := 1) (ms := 6) (as := [vI x1]) (rest := [vI 0, vR 159]) X hH rfl (za_in 390 (by decide +kernel) rfl) (zg_Kcode Y_F_last) kc_F_last zj_F cv_F_last.1 cv_F_last.2 (by decide) cy_F_last.2.2.2 (c_F_last l D h n hst σ hσ x1) rfl (show za_ov h [] 0 = _ from hF) rfl (Nat.le_of_ble_eq_true rfl) (Nat.le_of_ble_eq_true rfl) (Nat.le_of_ble_eq_true rfl) (Nat.le_of_ble_eq_true rfl) (Nat.le_of_ble_eq_true rfl) (fun r h' n' hq => ?_)
  have hq' : fs_ps "java/util/NoSuchElementException" "java/lang/IllegalArgumentException" h n (sp_last σ x1) r h' n' := hq
  generalize sp_last σ x1 = R at hq' h2 ⊢
  obtain ⟨cd, v, σ'⟩ := R
  obtain ⟨hfs, hfr, hc⟩ := hq'
  rcases hc with ⟨hR, rfl, rfl⟩ | ⟨hR, rfl, rfl⟩ | ⟨hR, rfl, rfl⟩
  · have hR' : cd = 0 := hR
    subst hR'
    have ho' : h' 159 = some (.inl (1, 1, .inr (.inl w0))) := (hfr 159 (by omega)).trans ho
    refine za_view [(159, .inl (1, 1, .inr (.inl w0)))] (by simp [ho']) ?_
    iterate 1 refine za_step X rfl rfl rfl ?_
    refine za_last X rfl rfl rfl (by unfold vp_in; decide) ?_
    iterate 2 refine za_step X rfl rfl rfl ?_
    refine zg_of (za_iret X rfl ⟨rfl, ?_, ?_, ⟨_, rfl, fun _ => rfl⟩, Nat.le_refl _, Nat.le_succ _⟩ (Nat.le_of_ble_eq_true rfl) (Nat.le_of_ble_eq_true rfl))
    · refine fs_off hfs (fun j hj => ?_)
      refine za_ov_off (v := [(159, _)]) ?_
      intro q hq
      rw [List.mem_singleton] at hq
      subst hq
      show 159 ≠ j
      omega
    · intro j hj hj9
      refine Eq.trans (za_ov_off (v := [(159, _)]) ?_) (hfr j hj)
      intro q hq
      rw [List.mem_singleton] at hq
      subst hq
      show 159 ≠ j
      omega
  · have hR' : cd = 1 := hR
    subst hR'
    intro i
    refine zg_catch (q := (0, 9, 12, 21)) (pr := []) (su := [(0, 9, 15, 13)]) (nm := "java/util/NoSuchElementException") X hH hex rfl (fun y hy => absurd hy List.not_mem_nil) rfl (by decide) zc_L_21 zk_NoSuchElementException ?_
    iterate 2 refine za_step X rfl rfl rfl ?_
    exact zg_of (za_iret X rfl (lw_fin (by decide) hfs hfr ho (by omega) (by omega)) (Nat.le_of_ble_eq_true rfl) (Nat.le_of_ble_eq_true rfl))
  · have hR2 : cd = 2 := hR
    subst hR2
    intro i
    refine zg_catch (q := (0, 9, 15, 13)) (pr := [(0, 9, 12, 21)]) (su := []) (nm := "java/lang/IllegalArgumentException") X hH hex rfl (fun y hy => by rw [List.mem_singleton] at hy; subst hy; exact Or.inr ⟨rfl, by decide, "java/util/NoSuchElementException", zc_L_21, by decide⟩) rfl (by decide) zc_L_13 zk_IllegalArgumentException ?_
    iterate 2 refine za_step X rfl rfl rfl ?_
    exact zg_of (za_iret X rfl (lw_fin (by decide) hfs hfr ho (by omega) (by omega)) (Nat.le_of_ble_eq_true rfl) (Nat.le_of_ble_eq_true rfl))
theorem sp2_explore (σ : fs_T)  : ¬ (sp_explore σ).1 = 2 := by
  obtain ⟨P, T, S, b, q⟩ := σ
  unfold sp_explore
  repeat' split
  all_goals (first | (show ¬ (0 : Nat) = 2; decide) | (show ¬ (1 : Nat) = 2; decide))
set_option maxHeartbeats 4000000 in
set_option maxRecDepth 100000 in
theorem c_L_explore (l : Launch) (D : za_D) (h : za_H) (n : Nat) (hst : l.stackTraces = false) (σ : fs_T) (hσ : fs_at h σ) (w0 : Nat → Int64) (ho : ou_at h w0)  : zg_M l D (.codeWith Y_L_explore.1 Y_L_explore.2.1 Y_L_explore.2.2.1 Y_L_explore.2.2.2 hs_L_explore) Y_L_explore 7 1 6 [vR 0, vR 159] h n (lw_ps h n (sp_explore σ)) := by
  have h2 : ¬ (sp_explore σ).1 = 2 := sp2_explore σ
  have hF : ∃ cl, h 0 = some (.inr (zn_F, cl)) := by
    obtain ⟨P, T, S, b, q⟩ := σ
    obtain ⟨_, _, _, _, _, ra, rb, _, hF, _⟩ := hσ
    exact ⟨_, hF⟩
  obtain ⟨cl, hF⟩ := hF
  refine zg_enter cd_L_explore fl_L (zg_Kwith Y_L_explore hs_L_explore) (by decide) cdok_L_explore flok_L (Nat.le_of_ble_eq_true rfl) ?_
  intro p e s m args below meth c X hH hex
  iterate 3 refine za_step X rfl rfl rfl ?_
  refine zg_callV (K := .code Y_F_explore.1 Y_F_explore.2.1 Y_F_explore.2.2.1 Y_F_explore.2.2.2) (Y := Y_F_explore) (hs := []) (b := 0) (d := 6) (mc := 1) (ms := 6) (as := []) (rest := [vI 0, vR 159]) X hH rfl (za_in 397 (by decide +kernel) rfl) (zg_Kcode Y_F_explore) kc_F_explore zj_F cv_F_explore.1 cv_F_explore.2 (by decide) cy_F_explore.2.2.2 (c_F_explore l D h n hst σ hσ) rfl (show za_ov h [] 0 = _ from hF) rfl (Nat.le_of_ble_eq_true rfl) (Nat.le_of_ble_eq_true rfl) (Nat.le_of_ble_eq_true rfl) (Nat.le_of_ble_eq_true rfl) (Nat.le_of_ble_eq_true rfl) (fun r h' n' hq => ?_)
  have hq' : fs_ps "java/lang/IllegalStateException" "java/lang/IllegalStateException" h n (sp_explore σ) r h' n' := hq
  generalize sp_explore σ = R at hq' h2 ⊢
  obtain ⟨cd, v, σ'⟩ := R
  obtain ⟨hfs, hfr, hc⟩ := hq'
  rcases hc with ⟨hR, rfl, rfl⟩ | ⟨hR, rfl, rfl⟩ | ⟨hR, rfl, rfl⟩
  · have hR' : cd = 0 := hR
    subst hR'
    have ho' : h' 159 = some (.inl (1, 1, .inr (.inl w0))) := (hfr 159 (by omega)).trans ho
    refine za_view [(159, .inl (1, 1, .inr (.inl w0)))] (by simp [ho']) ?_
    iterate 1 refine za_step X rfl rfl rfl ?_
    refine za_last X rfl rfl rfl (by unfold vp_in; decide) ?_
    iterate 2 refine za_step X rfl rfl rfl ?_
    refine zg_of (za_iret X rfl ⟨rfl, ?_, ?_, ⟨_, rfl, fun _ => rfl⟩, Nat.le_refl _, Nat.le_succ _⟩ (Nat.le_of_ble_eq_true rfl) (Nat.le_of_ble_eq_true rfl))
    · refine fs_off hfs (fun j hj => ?_)
      refine za_ov_off (v := [(159, _)]) ?_
      intro q hq
      rw [List.mem_singleton] at hq
      subst hq
      show 159 ≠ j
      omega
    · intro j hj hj9
      refine Eq.trans (za_ov_off (v := [(159, _)]) ?_) (hfr j hj)
      intro q hq
      rw [List.mem_singleton] at hq
      subst hq
      show 159 ≠ j
      omega
  · have hR' : cd = 1 := hR
    subst hR'
    intro i
    refine zg_catch (q := (0, 8, 11, 15)) (pr := []) (su := []) (nm := "java/lang/IllegalStateException") X hH hex rfl (fun y hy => absurd hy List.not_mem_nil) rfl (by decide) zc_L_15 zk_IllegalStateException ?_
    iterate 2 refine za_step X rfl rfl rfl ?_
    exact zg_of (za_iret X rfl (lw_fin (by decide) hfs hfr ho (by omega) (by omega)) (Nat.le_of_ble_eq_true rfl) (Nat.le_of_ble_eq_true rfl))
  · skip
    skip
    exact absurd hR h2
set_option maxHeartbeats 4000000 in
set_option maxRecDepth 100000 in
theorem c_L_way (l : Launch) (D : za_D) (h : za_H) (n : Nat) (hst : l.stackTraces = false) (σ : fs_T) (hσ : fs_at h σ) (w0 : Nat → Int64) (ho : ou_at h w0) (x1 y1 : Int32) : zg_M l D (.codeWith Y_L_way.1 Y_L_way.2.1 Y_L_way.2.2.1 Y_L_way.2.2.2 hs_L_way) Y_L_way 7 1 6 [vR 0, vI x1, vI y1, vR 159] h n (lw_ps h n (sp_way σ x1 y1)) := by
  have h2 : True := trivial
  have hF : ∃ cl, h 0 = some (.inr (zn_F, cl)) := by
    obtain ⟨P, T, S, b, q⟩ := σ
    obtain ⟨_, _, _, _, _, ra, rb, _, hF, _⟩ := hσ
    exact ⟨_, hF⟩
  obtain ⟨cl, hF⟩ := hF
  refine zg_enter cd_L_way fl_L (zg_Kwith Y_L_way hs_L_way) (by decide) cdok_L_way flok_L (Nat.le_of_ble_eq_true rfl) ?_
  intro p e s m args below meth c X hH hex
  iterate 5 refine za_step X rfl rfl rfl ?_
  refine zg_callV (K := .code Y_F_way.1 Y_F_way.2.1 Y_F_way.2.2.1 Y_F_way.2.2.2) (Y := Y_F_way) (hs := []) (b := 0) (d := 6) (mc := 1) (ms := 6) (as := [vI x1, vI y1]) (rest := [vI 0, vR 159]) X hH rfl (za_in 432 (by decide +kernel) rfl) (zg_Kcode Y_F_way) kc_F_way zj_F cv_F_way.1 cv_F_way.2 (by decide) cy_F_way.2.2.2 (c_F_way l D h n hst σ hσ x1 y1) rfl (show za_ov h [] 0 = _ from hF) rfl (Nat.le_of_ble_eq_true rfl) (Nat.le_of_ble_eq_true rfl) (Nat.le_of_ble_eq_true rfl) (Nat.le_of_ble_eq_true rfl) (Nat.le_of_ble_eq_true rfl) (fun r h' n' hq => ?_)
  have hq' : fs_ps "java/util/NoSuchElementException" "java/lang/IllegalArgumentException" h n (sp_way σ x1 y1) r h' n' := hq
  generalize sp_way σ x1 y1 = R at hq' h2 ⊢
  obtain ⟨cd, v, σ'⟩ := R
  obtain ⟨hfs, hfr, hc⟩ := hq'
  rcases hc with ⟨hR, rfl, rfl⟩ | ⟨hR, rfl, rfl⟩ | ⟨hR, rfl, rfl⟩
  · have hR' : cd = 0 := hR
    subst hR'
    have ho' : h' 159 = some (.inl (1, 1, .inr (.inl w0))) := (hfr 159 (by omega)).trans ho
    refine za_view [(159, .inl (1, 1, .inr (.inl w0)))] (by simp [ho']) ?_
    iterate 1 refine za_step X rfl rfl rfl ?_
    refine za_last X rfl rfl rfl (by unfold vp_in; decide) ?_
    iterate 2 refine za_step X rfl rfl rfl ?_
    refine zg_of (za_iret X rfl ⟨rfl, ?_, ?_, ⟨_, rfl, fun _ => rfl⟩, Nat.le_refl _, Nat.le_succ _⟩ (Nat.le_of_ble_eq_true rfl) (Nat.le_of_ble_eq_true rfl))
    · refine fs_off hfs (fun j hj => ?_)
      refine za_ov_off (v := [(159, _)]) ?_
      intro q hq
      rw [List.mem_singleton] at hq
      subst hq
      show 159 ≠ j
      omega
    · intro j hj hj9
      refine Eq.trans (za_ov_off (v := [(159, _)]) ?_) (hfr j hj)
      intro q hq
      rw [List.mem_singleton] at hq
      subst hq
      show 159 ≠ j
      omega
  · have hR' : cd = 1 := hR
    subst hR'
    intro i
    refine zg_catch (q := (0, 10, 13, 21)) (pr := []) (su := [(0, 10, 17, 13)]) (nm := "java/util/NoSuchElementException") X hH hex rfl (fun y hy => absurd hy List.not_mem_nil) rfl (by decide) zc_L_21 zk_NoSuchElementException ?_
    iterate 2 refine za_step X rfl rfl rfl ?_
    exact zg_of (za_iret X rfl (lw_fin (by decide) hfs hfr ho (by omega) (by omega)) (Nat.le_of_ble_eq_true rfl) (Nat.le_of_ble_eq_true rfl))
  · have hR2 : cd = 2 := hR
    subst hR2
    intro i
    refine zg_catch (q := (0, 10, 17, 13)) (pr := [(0, 10, 13, 21)]) (su := []) (nm := "java/lang/IllegalArgumentException") X hH hex rfl (fun y hy => by rw [List.mem_singleton] at hy; subst hy; exact Or.inr ⟨rfl, by decide, "java/util/NoSuchElementException", zc_L_21, by decide⟩) rfl (by decide) zc_L_13 zk_IllegalArgumentException ?_
    iterate 2 refine za_step X rfl rfl rfl ?_
    exact zg_of (za_iret X rfl (lw_fin (by decide) hfs hfr ho (by omega) (by omega)) (Nat.le_of_ble_eq_true rfl) (Nat.le_of_ble_eq_true rfl))
theorem sp2_decision (σ : fs_T) (x1 y1 : Int32) : ¬ (sp_decision σ x1 y1).1 = 2 := by
  obtain ⟨P, T, S, b, q⟩ := σ
  unfold sp_decision
  repeat' split
  all_goals (first | (show ¬ (0 : Nat) = 2; decide) | (show ¬ (1 : Nat) = 2; decide))
set_option maxHeartbeats 4000000 in
set_option maxRecDepth 100000 in
theorem c_L_decision (l : Launch) (D : za_D) (h : za_H) (n : Nat) (hst : l.stackTraces = false) (σ : fs_T) (hσ : fs_at h σ) (w0 : Nat → Int64) (ho : ou_at h w0) (x1 y1 : Int32) : zg_M l D (.codeWith Y_L_decision.1 Y_L_decision.2.1 Y_L_decision.2.2.1 Y_L_decision.2.2.2 hs_L_decision) Y_L_decision 7 1 6 [vR 0, vI x1, vI y1, vR 159] h n (lw_ps h n (sp_decision σ x1 y1)) := by
  have h2 : ¬ (sp_decision σ x1 y1).1 = 2 := sp2_decision σ x1 y1
  have hF : ∃ cl, h 0 = some (.inr (zn_F, cl)) := by
    obtain ⟨P, T, S, b, q⟩ := σ
    obtain ⟨_, _, _, _, _, ra, rb, _, hF, _⟩ := hσ
    exact ⟨_, hF⟩
  obtain ⟨cl, hF⟩ := hF
  refine zg_enter cd_L_decision fl_L (zg_Kwith Y_L_decision hs_L_decision) (by decide) cdok_L_decision flok_L (Nat.le_of_ble_eq_true rfl) ?_
  intro p e s m args below meth c X hH hex
  iterate 5 refine za_step X rfl rfl rfl ?_
  refine zg_callV (K := .code Y_F_decision.1 Y_F_decision.2.1 Y_F_decision.2.2.1 Y_F_decision.2.2.2) (Y := Y_F_decision) (hs := []) (b := 0) (d := 6) (mc := 1) (ms := 6) (as := [vI x1, vI y1]) (rest := [vI 0, vR 159]) X hH rfl (za_in 440 (by decide +kernel) rfl) (zg_Kcode Y_F_decision) kc_F_decision zj_F cv_F_decision.1 cv_F_decision.2 (by decide) cy_F_decision.2.2.2 (c_F_decision l D h n hst σ hσ x1 y1) rfl (show za_ov h [] 0 = _ from hF) rfl (Nat.le_of_ble_eq_true rfl) (Nat.le_of_ble_eq_true rfl) (Nat.le_of_ble_eq_true rfl) (Nat.le_of_ble_eq_true rfl) (Nat.le_of_ble_eq_true rfl) (fun r h' n' hq => ?_)
  have hq' : fs_ps "java/util/NoSuchElementException" "java/util/NoSuchElementException" h n (sp_decision σ x1 y1) r h' n' := hq
  generalize sp_decision σ x1 y1 = R at hq' h2 ⊢
  obtain ⟨cd, v, σ'⟩ := R
  obtain ⟨hfs, hfr, hc⟩ := hq'
  rcases hc with ⟨hR, rfl, rfl⟩ | ⟨hR, rfl, rfl⟩ | ⟨hR, rfl, rfl⟩
  · have hR' : cd = 0 := hR
    subst hR'
    have ho' : h' 159 = some (.inl (1, 1, .inr (.inl w0))) := (hfr 159 (by omega)).trans ho
    refine za_view [(159, .inl (1, 1, .inr (.inl w0)))] (by simp [ho']) ?_
    iterate 1 refine za_step X rfl rfl rfl ?_
    refine za_last X rfl rfl rfl (by unfold vp_in; decide) ?_
    iterate 2 refine za_step X rfl rfl rfl ?_
    refine zg_of (za_iret X rfl ⟨rfl, ?_, ?_, ⟨_, rfl, fun _ => rfl⟩, Nat.le_refl _, Nat.le_succ _⟩ (Nat.le_of_ble_eq_true rfl) (Nat.le_of_ble_eq_true rfl))
    · refine fs_off hfs (fun j hj => ?_)
      refine za_ov_off (v := [(159, _)]) ?_
      intro q hq
      rw [List.mem_singleton] at hq
      subst hq
      show 159 ≠ j
      omega
    · intro j hj hj9
      refine Eq.trans (za_ov_off (v := [(159, _)]) ?_) (hfr j hj)
      intro q hq
      rw [List.mem_singleton] at hq
      subst hq
      show 159 ≠ j
      omega
  · have hR' : cd = 1 := hR
    subst hR'
    intro i
    refine zg_catch (q := (0, 10, 13, 21)) (pr := []) (su := []) (nm := "java/util/NoSuchElementException") X hH hex rfl (fun y hy => absurd hy List.not_mem_nil) rfl (by decide) zc_L_21 zk_NoSuchElementException ?_
    iterate 2 refine za_step X rfl rfl rfl ?_
    exact zg_of (za_iret X rfl (lw_fin (by decide) hfs hfr ho (by omega) (by omega)) (Nat.le_of_ble_eq_true rfl) (Nat.le_of_ble_eq_true rfl))
  · skip
    skip
    exact absurd hR h2
set_option maxHeartbeats 4000000 in
set_option maxRecDepth 100000 in
theorem c_L_match (l : Launch) (D : za_D) (h : za_H) (n : Nat) (hst : l.stackTraces = false) (σ : fs_T) (hσ : fs_at h σ) (w0 : Nat → Int64) (ho : ou_at h w0) (x1 y1 : Int32) : zg_M l D (.codeWith Y_L_match.1 Y_L_match.2.1 Y_L_match.2.2.1 Y_L_match.2.2.2 hs_L_match) Y_L_match 7 1 6 [vR 0, vI x1, vI y1, vR 159] h n (lw_ps h n (sp_match σ x1 y1)) := by
  have h2 : True := trivial
  have hF : ∃ cl, h 0 = some (.inr (zn_F, cl)) := by
    obtain ⟨P, T, S, b, q⟩ := σ
    obtain ⟨_, _, _, _, _, ra, rb, _, hF, _⟩ := hσ
    exact ⟨_, hF⟩
  obtain ⟨cl, hF⟩ := hF
  refine zg_enter cd_L_match fl_L (zg_Kwith Y_L_match hs_L_match) (by decide) cdok_L_match flok_L (Nat.le_of_ble_eq_true rfl) ?_
  intro p e s m args below meth c X hH hex
  iterate 5 refine za_step X rfl rfl rfl ?_
  refine zg_callV (K := .code Y_F_match.1 Y_F_match.2.1 Y_F_match.2.2.1 Y_F_match.2.2.2) (Y := Y_F_match) (hs := []) (b := 0) (d := 6) (mc := 1) (ms := 6) (as := [vI x1, vI y1]) (rest := [vI 0, vR 159]) X hH rfl (za_in 448 (by decide +kernel) rfl) (zg_Kcode Y_F_match) kc_F_match zj_F cv_F_match.1 cv_F_match.2 (by decide) cy_F_match.2.2.2 (c_F_match l D h n hst σ hσ x1 y1) rfl (show za_ov h [] 0 = _ from hF) rfl (Nat.le_of_ble_eq_true rfl) (Nat.le_of_ble_eq_true rfl) (Nat.le_of_ble_eq_true rfl) (Nat.le_of_ble_eq_true rfl) (Nat.le_of_ble_eq_true rfl) (fun r h' n' hq => ?_)
  have hq' : fs_ps "java/lang/IllegalArgumentException" "java/util/NoSuchElementException" h n (sp_match σ x1 y1) r h' n' := hq
  generalize sp_match σ x1 y1 = R at hq' h2 ⊢
  obtain ⟨cd, v, σ'⟩ := R
  obtain ⟨hfs, hfr, hc⟩ := hq'
  rcases hc with ⟨hR, rfl, rfl⟩ | ⟨hR, rfl, rfl⟩ | ⟨hR, rfl, rfl⟩
  · have hR' : cd = 0 := hR
    subst hR'
    have ho' : h' 159 = some (.inl (1, 1, .inr (.inl w0))) := (hfr 159 (by omega)).trans ho
    refine za_view [(159, .inl (1, 1, .inr (.inl w0)))] (by simp [ho']) ?_
    iterate 1 refine za_step X rfl rfl rfl ?_
    refine za_last X rfl rfl rfl (by unfold vp_in; decide) ?_
    iterate 2 refine za_step X rfl rfl rfl ?_
    refine zg_of (za_iret X rfl ⟨rfl, ?_, ?_, ⟨_, rfl, fun _ => rfl⟩, Nat.le_refl _, Nat.le_succ _⟩ (Nat.le_of_ble_eq_true rfl) (Nat.le_of_ble_eq_true rfl))
    · refine fs_off hfs (fun j hj => ?_)
      refine za_ov_off (v := [(159, _)]) ?_
      intro q hq
      rw [List.mem_singleton] at hq
      subst hq
      show 159 ≠ j
      omega
    · intro j hj hj9
      refine Eq.trans (za_ov_off (v := [(159, _)]) ?_) (hfr j hj)
      intro q hq
      rw [List.mem_singleton] at hq
      subst hq
      show 159 ≠ j
      omega
  · have hR' : cd = 1 := hR
    subst hR'
    intro i
    refine zg_catch (q := (0, 10, 13, 13)) (pr := []) (su := [(0, 10, 17, 21)]) (nm := "java/lang/IllegalArgumentException") X hH hex rfl (fun y hy => absurd hy List.not_mem_nil) rfl (by decide) zc_L_13 zk_IllegalArgumentException ?_
    iterate 2 refine za_step X rfl rfl rfl ?_
    exact zg_of (za_iret X rfl (lw_fin (by decide) hfs hfr ho (by omega) (by omega)) (Nat.le_of_ble_eq_true rfl) (Nat.le_of_ble_eq_true rfl))
  · have hR2 : cd = 2 := hR
    subst hR2
    intro i
    refine zg_catch (q := (0, 10, 17, 21)) (pr := [(0, 10, 13, 13)]) (su := []) (nm := "java/util/NoSuchElementException") X hH hex rfl (fun y hy => by rw [List.mem_singleton] at hy; subst hy; exact Or.inr ⟨rfl, by decide, "java/lang/IllegalArgumentException", zc_L_13, by decide⟩) rfl (by decide) zc_L_21 zk_NoSuchElementException ?_
    iterate 2 refine za_step X rfl rfl rfl ?_
    exact zg_of (za_iret X rfl (lw_fin (by decide) hfs hfr ho (by omega) (by omega)) (Nat.le_of_ble_eq_true rfl) (Nat.le_of_ble_eq_true rfl))
set_option maxHeartbeats 4000000 in
set_option maxRecDepth 100000 in
theorem c_L_example (l : Launch) (D : za_D) (h : za_H) (n : Nat) (hst : l.stackTraces = false) (σ : fs_T) (hσ : fs_at h σ) (w0 : Nat → Int64) (ho : ou_at h w0) (x1 : Int32) : zg_M l D (.codeWith Y_L_example.1 Y_L_example.2.1 Y_L_example.2.2.1 Y_L_example.2.2.2 hs_L_example) Y_L_example 7 1 6 [vR 0, vI x1, vR 159] h n (lw_ps h n (sp_example σ x1)) := by
  have h2 : True := trivial
  have hF : ∃ cl, h 0 = some (.inr (zn_F, cl)) := by
    obtain ⟨P, T, S, b, q⟩ := σ
    obtain ⟨_, _, _, _, _, ra, rb, _, hF, _⟩ := hσ
    exact ⟨_, hF⟩
  obtain ⟨cl, hF⟩ := hF
  refine zg_enter cd_L_example fl_L (zg_Kwith Y_L_example hs_L_example) (by decide) cdok_L_example flok_L (Nat.le_of_ble_eq_true rfl) ?_
  intro p e s m args below meth c X hH hex
  iterate 4 refine za_step X rfl rfl rfl ?_
  refine zg_callV (K := .code Y_F_example.1 Y_F_example.2.1 Y_F_example.2.2.1 Y_F_example.2.2.2) (Y := Y_F_example) (hs := []) (b := 0) (d := 6) (mc := 1) (ms := 6) (as := [vI x1]) (rest := [vI 0, vR 159]) X hH rfl (za_in 463 (by decide +kernel) rfl) (zg_Kcode Y_F_example) kc_F_example zj_F cv_F_example.1 cv_F_example.2 (by decide) cy_F_example.2.2.2 (c_F_example l D h n hst σ hσ x1) rfl (show za_ov h [] 0 = _ from hF) rfl (Nat.le_of_ble_eq_true rfl) (Nat.le_of_ble_eq_true rfl) (Nat.le_of_ble_eq_true rfl) (Nat.le_of_ble_eq_true rfl) (Nat.le_of_ble_eq_true rfl) (fun r h' n' hq => ?_)
  have hq' : fs_ps "java/lang/IllegalArgumentException" "java/util/NoSuchElementException" h n (sp_example σ x1) r h' n' := hq
  generalize sp_example σ x1 = R at hq' h2 ⊢
  obtain ⟨cd, v, σ'⟩ := R
  obtain ⟨hfs, hfr, hc⟩ := hq'
  rcases hc with ⟨hR, rfl, rfl⟩ | ⟨hR, rfl, rfl⟩ | ⟨hR, rfl, rfl⟩
  · have hR' : cd = 0 := hR
    subst hR'
    have ho' : h' 159 = some (.inl (1, 1, .inr (.inl w0))) := (hfr 159 (by omega)).trans ho
    refine za_view [(159, .inl (1, 1, .inr (.inl w0)))] (by simp [ho']) ?_
    iterate 1 refine za_step X rfl rfl rfl ?_
    refine za_last X rfl rfl rfl (by unfold vp_in; decide) ?_
    iterate 2 refine za_step X rfl rfl rfl ?_
    refine zg_of (za_iret X rfl ⟨rfl, ?_, ?_, ⟨_, rfl, fun _ => rfl⟩, Nat.le_refl _, Nat.le_succ _⟩ (Nat.le_of_ble_eq_true rfl) (Nat.le_of_ble_eq_true rfl))
    · refine fs_off hfs (fun j hj => ?_)
      refine za_ov_off (v := [(159, _)]) ?_
      intro q hq
      rw [List.mem_singleton] at hq
      subst hq
      show 159 ≠ j
      omega
    · intro j hj hj9
      refine Eq.trans (za_ov_off (v := [(159, _)]) ?_) (hfr j hj)
      intro q hq
      rw [List.mem_singleton] at hq
      subst hq
      show 159 ≠ j
      omega
  · have hR' : cd = 1 := hR
    subst hR'
    intro i
    refine zg_catch (q := (0, 9, 12, 13)) (pr := []) (su := [(0, 9, 15, 21)]) (nm := "java/lang/IllegalArgumentException") X hH hex rfl (fun y hy => absurd hy List.not_mem_nil) rfl (by decide) zc_L_13 zk_IllegalArgumentException ?_
    iterate 2 refine za_step X rfl rfl rfl ?_
    exact zg_of (za_iret X rfl (lw_fin (by decide) hfs hfr ho (by omega) (by omega)) (Nat.le_of_ble_eq_true rfl) (Nat.le_of_ble_eq_true rfl))
  · have hR2 : cd = 2 := hR
    subst hR2
    intro i
    refine zg_catch (q := (0, 9, 15, 21)) (pr := [(0, 9, 12, 13)]) (su := []) (nm := "java/util/NoSuchElementException") X hH hex rfl (fun y hy => by rw [List.mem_singleton] at hy; subst hy; exact Or.inr ⟨rfl, by decide, "java/lang/IllegalArgumentException", zc_L_13, by decide⟩) rfl (by decide) zc_L_21 zk_NoSuchElementException ?_
    iterate 2 refine za_step X rfl rfl rfl ?_
    exact zg_of (za_iret X rfl (lw_fin (by decide) hfs hfr ho (by omega) (by omega)) (Nat.le_of_ble_eq_true rfl) (Nat.le_of_ble_eq_true rfl))
theorem sp2_count (σ : fs_T) (x1 : Int32) : ¬ (sp_count σ x1).1 = 2 := by
  obtain ⟨P, T, S, b, q⟩ := σ
  unfold sp_count
  repeat' split
  all_goals (first | (show ¬ (0 : Nat) = 2; decide) | (show ¬ (1 : Nat) = 2; decide))
set_option maxHeartbeats 4000000 in
set_option maxRecDepth 100000 in
theorem c_L_count (l : Launch) (D : za_D) (h : za_H) (n : Nat) (hst : l.stackTraces = false) (σ : fs_T) (hσ : fs_at h σ) (w0 : Nat → Int64) (ho : ou_at h w0) (x1 : Int32) : zg_M l D (.codeWith Y_L_count.1 Y_L_count.2.1 Y_L_count.2.2.1 Y_L_count.2.2.2 hs_L_count) Y_L_count 7 1 6 [vR 0, vI x1, vR 159] h n (lw_ps h n (sp_count σ x1)) := by
  have h2 : ¬ (sp_count σ x1).1 = 2 := sp2_count σ x1
  have hF : ∃ cl, h 0 = some (.inr (zn_F, cl)) := by
    obtain ⟨P, T, S, b, q⟩ := σ
    obtain ⟨_, _, _, _, _, ra, rb, _, hF, _⟩ := hσ
    exact ⟨_, hF⟩
  obtain ⟨cl, hF⟩ := hF
  refine zg_enter cd_L_count fl_L (zg_Kwith Y_L_count hs_L_count) (by decide) cdok_L_count flok_L (Nat.le_of_ble_eq_true rfl) ?_
  intro p e s m args below meth c X hH hex
  iterate 4 refine za_step X rfl rfl rfl ?_
  refine zg_callV (K := .code Y_F_count.1 Y_F_count.2.1 Y_F_count.2.2.1 Y_F_count.2.2.2) (Y := Y_F_count) (hs := []) (b := 0) (d := 6) (mc := 1) (ms := 6) (as := [vI x1]) (rest := [vI 0, vR 159]) X hH rfl (za_in 477 (by decide +kernel) rfl) (zg_Kcode Y_F_count) kc_F_count zj_F cv_F_count.1 cv_F_count.2 (by decide) cy_F_count.2.2.2 (c_F_count l D h n hst σ hσ x1) rfl (show za_ov h [] 0 = _ from hF) rfl (Nat.le_of_ble_eq_true rfl) (Nat.le_of_ble_eq_true rfl) (Nat.le_of_ble_eq_true rfl) (Nat.le_of_ble_eq_true rfl) (Nat.le_of_ble_eq_true rfl) (fun r h' n' hq => ?_)
  have hq' : fs_ps "java/lang/IllegalArgumentException" "java/lang/IllegalArgumentException" h n (sp_count σ x1) r h' n' := hq
  generalize sp_count σ x1 = R at hq' h2 ⊢
  obtain ⟨cd, v, σ'⟩ := R
  obtain ⟨hfs, hfr, hc⟩ := hq'
  rcases hc with ⟨hR, rfl, rfl⟩ | ⟨hR, rfl, rfl⟩ | ⟨hR, rfl, rfl⟩
  · have hR' : cd = 0 := hR
    subst hR'
    have ho' : h' 159 = some (.inl (1, 1, .inr (.inl w0))) := (hfr 159 (by omega)).trans ho
    refine za_view [(159, .inl (1, 1, .inr (.inl w0)))] (by simp [ho']) ?_
    iterate 1 refine za_step X rfl rfl rfl ?_
    refine za_last X rfl rfl rfl (by unfold vp_in; decide) ?_
    iterate 2 refine za_step X rfl rfl rfl ?_
    refine zg_of (za_iret X rfl ⟨rfl, ?_, ?_, ⟨_, rfl, fun _ => rfl⟩, Nat.le_refl _, Nat.le_succ _⟩ (Nat.le_of_ble_eq_true rfl) (Nat.le_of_ble_eq_true rfl))
    · refine fs_off hfs (fun j hj => ?_)
      refine za_ov_off (v := [(159, _)]) ?_
      intro q hq
      rw [List.mem_singleton] at hq
      subst hq
      show 159 ≠ j
      omega
    · intro j hj hj9
      refine Eq.trans (za_ov_off (v := [(159, _)]) ?_) (hfr j hj)
      intro q hq
      rw [List.mem_singleton] at hq
      subst hq
      show 159 ≠ j
      omega
  · have hR' : cd = 1 := hR
    subst hR'
    intro i
    refine zg_catch (q := (0, 9, 12, 13)) (pr := []) (su := []) (nm := "java/lang/IllegalArgumentException") X hH hex rfl (fun y hy => absurd hy List.not_mem_nil) rfl (by decide) zc_L_13 zk_IllegalArgumentException ?_
    iterate 2 refine za_step X rfl rfl rfl ?_
    exact zg_of (za_iret X rfl (lw_fin (by decide) hfs hfr ho (by omega) (by omega)) (Nat.le_of_ble_eq_true rfl) (Nat.le_of_ble_eq_true rfl))
  · skip
    skip
    exact absurd hR h2
end
section
/-! THE LAW'S OWN ROWS -/
def cd_L_0 : List (Nat × Instr × Nat) := [(0, .new 8, 3), (3, .dup, 1), (4, .invokespecial 52, 3), (7, .astore_n 1, 1), (8, .new 53, 3), (11, .dup, 1), (12, .invokespecial 55, 3), (15, .astore_n 2, 1), (16, .iconst 1, 1), (17, .newarray .long, 2), (19, .astore_n 3, 1), (20, .iconst 0, 1)]
theorem cdok_L_0 : ∀ q ∈ cd_L_0, decode code q.1 = .ok q.2 := by decide +kernel
def cd_L_1 : List (Nat × Instr × Nat) := [(21, .istore 4, 2), (23, .iload 4, 2), (25, .aload_n 0, 1), (26, .arraylength, 1), (27, .iconst 5, 1), (28, .isub, 1), (29, .if_icmp .gt 766, 3), (32, .aload_n 0, 1), (33, .iload 4, 2), (35, .iaload, 1), (36, .bipush 15, 2), (38, .iand, 1)]
theorem cdok_L_1 : ∀ q ∈ cd_L_1, decode code q.1 = .ok q.2 := by decide +kernel
def cd_L_2 : List (Nat × Instr × Nat) := [(39, .tableswitch 750 0 11 #[61, 153, 197, 253, 321, 377, 421, 489, 557, 625, 681, 694], 61), (100, .aload_n 1, 1), (101, .aload_n 0, 1), (102, .iload 4, 2), (104, .iconst 1, 1), (105, .iadd, 1), (106, .iaload, 1), (107, .aload_n 0, 1), (108, .iload 4, 2), (110, .iconst 2, 1), (111, .iadd, 1), (112, .iaload, 1)]
theorem cdok_L_2 : ∀ q ∈ cd_L_2, decode code q.1 = .ok q.2 := by decide +kernel
def cd_L_3 : List (Nat × Instr × Nat) := [(113, .aload_n 0, 1), (114, .iload 4, 2), (116, .iconst 3, 1), (117, .iadd, 1), (118, .iaload, 1), (119, .aload_n 0, 1), (120, .iload 4, 2), (122, .iconst 4, 1), (123, .iadd, 1), (124, .iaload, 1), (125, .aload_n 3, 1), (126, .invokestatic 56, 3)]
theorem cdok_L_3 : ∀ q ∈ cd_L_3, decode code q.1 = .ok q.2 := by decide +kernel
def cd_L_4 : List (Nat × Instr × Nat) := [(129, .istore 5, 2), (131, .aload_n 2, 1), (132, .aload_n 0, 1), (133, .iload 4, 2), (135, .iconst 1, 1), (136, .iadd, 1), (137, .iaload, 1), (138, .aload_n 0, 1), (139, .iload 4, 2), (141, .iconst 2, 1), (142, .iadd, 1), (143, .iaload, 1)]
theorem cdok_L_4 : ∀ q ∈ cd_L_4, decode code q.1 = .ok q.2 := by decide +kernel
def cd_L_5 : List (Nat × Instr × Nat) := [(144, .aload_n 0, 1), (145, .iload 4, 2), (147, .iconst 3, 1), (148, .iadd, 1), (149, .iaload, 1), (150, .aload_n 0, 1), (151, .iload 4, 2), (153, .iconst 4, 1), (154, .iadd, 1), (155, .iaload, 1), (156, .invokevirtual 61, 3), (159, .istore 6, 2)]
theorem cdok_L_5 : ∀ q ∈ cd_L_5, decode code q.1 = .ok q.2 := by decide +kernel
def cd_L_6 : List (Nat × Instr × Nat) := [(161, .aload_n 2, 1), (162, .invokevirtual 62, 3), (165, .iload 5, 2), (167, .if_icmp .eq 5, 3), (170, .iconst 0, 1), (171, .ireturn, 1), (172, .iload 5, 2), (174, .ifCond .ne 15, 3), (177, .aload_n 3, 1), (178, .iconst 0, 1), (179, .laload, 1), (180, .iload 6, 2)]
theorem cdok_L_6 : ∀ q ∈ cd_L_6, decode code q.1 = .ok q.2 := by decide +kernel
def cd_L_7 : List (Nat × Instr × Nat) := [(182, .i2l, 1), (183, .lcmp, 1), (184, .ifCond .eq 5, 3), (187, .iconst 0, 1), (188, .ireturn, 1), (189, .goto 600, 3), (192, .aload_n 1, 1), (193, .aload_n 3, 1), (194, .invokestatic 65, 3), (197, .istore 5, 2), (199, .aload_n 2, 1), (200, .invokevirtual 68, 3)]
theorem cdok_L_7 : ∀ q ∈ cd_L_7, decode code q.1 = .ok q.2 := by decide +kernel
def cd_L_8 : List (Nat × Instr × Nat) := [(203, .istore 6, 2), (205, .aload_n 2, 1), (206, .invokevirtual 62, 3), (209, .iload 5, 2), (211, .if_icmp .eq 5, 3), (214, .iconst 0, 1), (215, .ireturn, 1), (216, .iload 5, 2), (218, .ifCond .ne 15, 3), (221, .aload_n 3, 1), (222, .iconst 0, 1), (223, .laload, 1)]
theorem cdok_L_8 : ∀ q ∈ cd_L_8, decode code q.1 = .ok q.2 := by decide +kernel
def cd_L_9 : List (Nat × Instr × Nat) := [(224, .iload 6, 2), (226, .i2l, 1), (227, .lcmp, 1), (228, .ifCond .eq 5, 3), (231, .iconst 0, 1), (232, .ireturn, 1), (233, .goto 556, 3), (236, .aload_n 1, 1), (237, .aload_n 0, 1), (238, .iload 4, 2), (240, .iconst 1, 1), (241, .iadd, 1)]
theorem cdok_L_9 : ∀ q ∈ cd_L_9, decode code q.1 = .ok q.2 := by decide +kernel
def cd_L_10 : List (Nat × Instr × Nat) := [(242, .iaload, 1), (243, .aload_n 3, 1), (244, .invokestatic 69, 3), (247, .istore 5, 2), (249, .aload_n 2, 1), (250, .aload_n 0, 1), (251, .iload 4, 2), (253, .iconst 1, 1), (254, .iadd, 1), (255, .iaload, 1), (256, .invokevirtual 72, 3), (259, .istore 6, 2)]
theorem cdok_L_10 : ∀ q ∈ cd_L_10, decode code q.1 = .ok q.2 := by decide +kernel
def cd_L_11 : List (Nat × Instr × Nat) := [(261, .aload_n 2, 1), (262, .invokevirtual 62, 3), (265, .iload 5, 2), (267, .if_icmp .eq 5, 3), (270, .iconst 0, 1), (271, .ireturn, 1), (272, .iload 5, 2), (274, .ifCond .ne 15, 3), (277, .aload_n 3, 1), (278, .iconst 0, 1), (279, .laload, 1), (280, .iload 6, 2)]
theorem cdok_L_11 : ∀ q ∈ cd_L_11, decode code q.1 = .ok q.2 := by decide +kernel
def cd_L_12 : List (Nat × Instr × Nat) := [(282, .i2l, 1), (283, .lcmp, 1), (284, .ifCond .eq 5, 3), (287, .iconst 0, 1), (288, .ireturn, 1), (289, .goto 500, 3), (292, .aload_n 1, 1), (293, .aload_n 0, 1), (294, .iload 4, 2), (296, .iconst 1, 1), (297, .iadd, 1), (298, .iaload, 1)]
theorem cdok_L_12 : ∀ q ∈ cd_L_12, decode code q.1 = .ok q.2 := by decide +kernel
def cd_L_13 : List (Nat × Instr × Nat) := [(299, .aload_n 0, 1), (300, .iload 4, 2), (302, .iconst 2, 1), (303, .iadd, 1), (304, .iaload, 1), (305, .aload_n 3, 1), (306, .invokestatic 73, 3), (309, .istore 5, 2), (311, .aload_n 2, 1), (312, .aload_n 0, 1), (313, .iload 4, 2), (315, .iconst 1, 1)]
theorem cdok_L_13 : ∀ q ∈ cd_L_13, decode code q.1 = .ok q.2 := by decide +kernel
def cd_L_14 : List (Nat × Instr × Nat) := [(316, .iadd, 1), (317, .iaload, 1), (318, .aload_n 0, 1), (319, .iload 4, 2), (321, .iconst 2, 1), (322, .iadd, 1), (323, .iaload, 1), (324, .invokevirtual 76, 3), (327, .istore 6, 2), (329, .aload_n 2, 1), (330, .invokevirtual 62, 3), (333, .iload 5, 2)]
theorem cdok_L_14 : ∀ q ∈ cd_L_14, decode code q.1 = .ok q.2 := by decide +kernel
def cd_L_15 : List (Nat × Instr × Nat) := [(335, .if_icmp .eq 5, 3), (338, .iconst 0, 1), (339, .ireturn, 1), (340, .iload 5, 2), (342, .ifCond .ne 15, 3), (345, .aload_n 3, 1), (346, .iconst 0, 1), (347, .laload, 1), (348, .iload 6, 2), (350, .i2l, 1), (351, .lcmp, 1), (352, .ifCond .eq 5, 3)]
theorem cdok_L_15 : ∀ q ∈ cd_L_15, decode code q.1 = .ok q.2 := by decide +kernel
def cd_L_16 : List (Nat × Instr × Nat) := [(355, .iconst 0, 1), (356, .ireturn, 1), (357, .goto 432, 3), (360, .aload_n 1, 1), (361, .aload_n 0, 1), (362, .iload 4, 2), (364, .iconst 1, 1), (365, .iadd, 1), (366, .iaload, 1), (367, .aload_n 3, 1), (368, .invokestatic 77, 3), (371, .istore 5, 2)]
theorem cdok_L_16 : ∀ q ∈ cd_L_16, decode code q.1 = .ok q.2 := by decide +kernel
def cd_L_17 : List (Nat × Instr × Nat) := [(373, .aload_n 2, 1), (374, .aload_n 0, 1), (375, .iload 4, 2), (377, .iconst 1, 1), (378, .iadd, 1), (379, .iaload, 1), (380, .invokevirtual 79, 3), (383, .istore 6, 2), (385, .aload_n 2, 1), (386, .invokevirtual 62, 3), (389, .iload 5, 2), (391, .if_icmp .eq 5, 3)]
theorem cdok_L_17 : ∀ q ∈ cd_L_17, decode code q.1 = .ok q.2 := by decide +kernel
def cd_L_18 : List (Nat × Instr × Nat) := [(394, .iconst 0, 1), (395, .ireturn, 1), (396, .iload 5, 2), (398, .ifCond .ne 15, 3), (401, .aload_n 3, 1), (402, .iconst 0, 1), (403, .laload, 1), (404, .iload 6, 2), (406, .i2l, 1), (407, .lcmp, 1), (408, .ifCond .eq 5, 3), (411, .iconst 0, 1)]
theorem cdok_L_18 : ∀ q ∈ cd_L_18, decode code q.1 = .ok q.2 := by decide +kernel
def cd_L_19 : List (Nat × Instr × Nat) := [(412, .ireturn, 1), (413, .goto 376, 3), (416, .aload_n 1, 1), (417, .aload_n 3, 1), (418, .invokestatic 80, 3), (421, .istore 5, 2), (423, .aload_n 2, 1), (424, .invokevirtual 82, 3), (427, .istore 6, 2), (429, .aload_n 2, 1), (430, .invokevirtual 62, 3), (433, .iload 5, 2)]
theorem cdok_L_19 : ∀ q ∈ cd_L_19, decode code q.1 = .ok q.2 := by decide +kernel
def cd_L_20 : List (Nat × Instr × Nat) := [(435, .if_icmp .eq 5, 3), (438, .iconst 0, 1), (439, .ireturn, 1), (440, .iload 5, 2), (442, .ifCond .ne 15, 3), (445, .aload_n 3, 1), (446, .iconst 0, 1), (447, .laload, 1), (448, .iload 6, 2), (450, .i2l, 1), (451, .lcmp, 1), (452, .ifCond .eq 5, 3)]
theorem cdok_L_20 : ∀ q ∈ cd_L_20, decode code q.1 = .ok q.2 := by decide +kernel
def cd_L_21 : List (Nat × Instr × Nat) := [(455, .iconst 0, 1), (456, .ireturn, 1), (457, .goto 332, 3), (460, .aload_n 1, 1), (461, .aload_n 0, 1), (462, .iload 4, 2), (464, .iconst 1, 1), (465, .iadd, 1), (466, .iaload, 1), (467, .aload_n 0, 1), (468, .iload 4, 2), (470, .iconst 2, 1)]
theorem cdok_L_21 : ∀ q ∈ cd_L_21, decode code q.1 = .ok q.2 := by decide +kernel
def cd_L_22 : List (Nat × Instr × Nat) := [(471, .iadd, 1), (472, .iaload, 1), (473, .aload_n 3, 1), (474, .invokestatic 83, 3), (477, .istore 5, 2), (479, .aload_n 2, 1), (480, .aload_n 0, 1), (481, .iload 4, 2), (483, .iconst 1, 1), (484, .iadd, 1), (485, .iaload, 1), (486, .aload_n 0, 1)]
theorem cdok_L_22 : ∀ q ∈ cd_L_22, decode code q.1 = .ok q.2 := by decide +kernel
def cd_L_23 : List (Nat × Instr × Nat) := [(487, .iload 4, 2), (489, .iconst 2, 1), (490, .iadd, 1), (491, .iaload, 1), (492, .invokevirtual 85, 3), (495, .istore 6, 2), (497, .aload_n 2, 1), (498, .invokevirtual 62, 3), (501, .iload 5, 2), (503, .if_icmp .eq 5, 3), (506, .iconst 0, 1), (507, .ireturn, 1)]
theorem cdok_L_23 : ∀ q ∈ cd_L_23, decode code q.1 = .ok q.2 := by decide +kernel
def cd_L_24 : List (Nat × Instr × Nat) := [(508, .iload 5, 2), (510, .ifCond .ne 15, 3), (513, .aload_n 3, 1), (514, .iconst 0, 1), (515, .laload, 1), (516, .iload 6, 2), (518, .i2l, 1), (519, .lcmp, 1), (520, .ifCond .eq 5, 3), (523, .iconst 0, 1), (524, .ireturn, 1), (525, .goto 264, 3)]
theorem cdok_L_24 : ∀ q ∈ cd_L_24, decode code q.1 = .ok q.2 := by decide +kernel
def cd_L_25 : List (Nat × Instr × Nat) := [(528, .aload_n 1, 1), (529, .aload_n 0, 1), (530, .iload 4, 2), (532, .iconst 1, 1), (533, .iadd, 1), (534, .iaload, 1), (535, .aload_n 0, 1), (536, .iload 4, 2), (538, .iconst 2, 1), (539, .iadd, 1), (540, .iaload, 1), (541, .aload_n 3, 1)]
theorem cdok_L_25 : ∀ q ∈ cd_L_25, decode code q.1 = .ok q.2 := by decide +kernel
def cd_L_26 : List (Nat × Instr × Nat) := [(542, .invokestatic 86, 3), (545, .istore 5, 2), (547, .aload_n 2, 1), (548, .aload_n 0, 1), (549, .iload 4, 2), (551, .iconst 1, 1), (552, .iadd, 1), (553, .iaload, 1), (554, .aload_n 0, 1), (555, .iload 4, 2), (557, .iconst 2, 1), (558, .iadd, 1)]
theorem cdok_L_26 : ∀ q ∈ cd_L_26, decode code q.1 = .ok q.2 := by decide +kernel
def cd_L_27 : List (Nat × Instr × Nat) := [(559, .iaload, 1), (560, .invokevirtual 88, 3), (563, .istore 6, 2), (565, .aload_n 2, 1), (566, .invokevirtual 62, 3), (569, .iload 5, 2), (571, .if_icmp .eq 5, 3), (574, .iconst 0, 1), (575, .ireturn, 1), (576, .iload 5, 2), (578, .ifCond .ne 15, 3), (581, .aload_n 3, 1)]
theorem cdok_L_27 : ∀ q ∈ cd_L_27, decode code q.1 = .ok q.2 := by decide +kernel
def cd_L_28 : List (Nat × Instr × Nat) := [(582, .iconst 0, 1), (583, .laload, 1), (584, .iload 6, 2), (586, .i2l, 1), (587, .lcmp, 1), (588, .ifCond .eq 5, 3), (591, .iconst 0, 1), (592, .ireturn, 1), (593, .goto 196, 3), (596, .aload_n 1, 1), (597, .aload_n 0, 1), (598, .iload 4, 2)]
theorem cdok_L_28 : ∀ q ∈ cd_L_28, decode code q.1 = .ok q.2 := by decide +kernel
def cd_L_29 : List (Nat × Instr × Nat) := [(600, .iconst 1, 1), (601, .iadd, 1), (602, .iaload, 1), (603, .aload_n 0, 1), (604, .iload 4, 2), (606, .iconst 2, 1), (607, .iadd, 1), (608, .iaload, 1), (609, .aload_n 3, 1), (610, .invokestatic 89, 3), (613, .istore 5, 2), (615, .aload_n 2, 1)]
theorem cdok_L_29 : ∀ q ∈ cd_L_29, decode code q.1 = .ok q.2 := by decide +kernel
def cd_L_30 : List (Nat × Instr × Nat) := [(616, .aload_n 0, 1), (617, .iload 4, 2), (619, .iconst 1, 1), (620, .iadd, 1), (621, .iaload, 1), (622, .aload_n 0, 1), (623, .iload 4, 2), (625, .iconst 2, 1), (626, .iadd, 1), (627, .iaload, 1), (628, .invokevirtual 91, 3), (631, .istore 6, 2)]
theorem cdok_L_30 : ∀ q ∈ cd_L_30, decode code q.1 = .ok q.2 := by decide +kernel
def cd_L_31 : List (Nat × Instr × Nat) := [(633, .aload_n 2, 1), (634, .invokevirtual 62, 3), (637, .iload 5, 2), (639, .if_icmp .eq 5, 3), (642, .iconst 0, 1), (643, .ireturn, 1), (644, .iload 5, 2), (646, .ifCond .ne 15, 3), (649, .aload_n 3, 1), (650, .iconst 0, 1), (651, .laload, 1), (652, .iload 6, 2)]
theorem cdok_L_31 : ∀ q ∈ cd_L_31, decode code q.1 = .ok q.2 := by decide +kernel
def cd_L_32 : List (Nat × Instr × Nat) := [(654, .i2l, 1), (655, .lcmp, 1), (656, .ifCond .eq 5, 3), (659, .iconst 0, 1), (660, .ireturn, 1), (661, .goto 128, 3), (664, .aload_n 1, 1), (665, .aload_n 0, 1), (666, .iload 4, 2), (668, .iconst 1, 1), (669, .iadd, 1), (670, .iaload, 1)]
theorem cdok_L_32 : ∀ q ∈ cd_L_32, decode code q.1 = .ok q.2 := by decide +kernel
def cd_L_33 : List (Nat × Instr × Nat) := [(671, .aload_n 3, 1), (672, .invokestatic 92, 3), (675, .istore 5, 2), (677, .aload_n 2, 1), (678, .aload_n 0, 1), (679, .iload 4, 2), (681, .iconst 1, 1), (682, .iadd, 1), (683, .iaload, 1), (684, .invokevirtual 94, 3), (687, .istore 6, 2), (689, .aload_n 2, 1)]
theorem cdok_L_33 : ∀ q ∈ cd_L_33, decode code q.1 = .ok q.2 := by decide +kernel
def cd_L_34 : List (Nat × Instr × Nat) := [(690, .invokevirtual 62, 3), (693, .iload 5, 2), (695, .if_icmp .eq 5, 3), (698, .iconst 0, 1), (699, .ireturn, 1), (700, .iload 5, 2), (702, .ifCond .ne 15, 3), (705, .aload_n 3, 1), (706, .iconst 0, 1), (707, .laload, 1), (708, .iload 6, 2), (710, .i2l, 1)]
theorem cdok_L_34 : ∀ q ∈ cd_L_34, decode code q.1 = .ok q.2 := by decide +kernel
def cd_L_35 : List (Nat × Instr × Nat) := [(711, .lcmp, 1), (712, .ifCond .eq 5, 3), (715, .iconst 0, 1), (716, .ireturn, 1), (717, .goto 72, 3), (720, .aload_n 1, 1), (721, .invokevirtual 95, 3), (724, .aload_n 2, 1), (725, .invokevirtual 98, 3), (728, .if_icmp .eq 61, 3), (731, .iconst 0, 1), (732, .ireturn, 1)]
theorem cdok_L_35 : ∀ q ∈ cd_L_35, decode code q.1 = .ok q.2 := by decide +kernel
def cd_L_36 : List (Nat × Instr × Nat) := [(733, .aload_n 1, 1), (734, .aload_n 0, 1), (735, .iload 4, 2), (737, .iconst 1, 1), (738, .iadd, 1), (739, .iaload, 1), (740, .aload_n 3, 1), (741, .invokestatic 99, 3), (744, .istore 5, 2), (746, .aload_n 2, 1), (747, .aload_n 0, 1), (748, .iload 4, 2)]
theorem cdok_L_36 : ∀ q ∈ cd_L_36, decode code q.1 = .ok q.2 := by decide +kernel
def cd_L_37 : List (Nat × Instr × Nat) := [(750, .iconst 1, 1), (751, .iadd, 1), (752, .iaload, 1), (753, .invokevirtual 101, 3), (756, .istore 6, 2), (758, .aload_n 2, 1), (759, .invokevirtual 62, 3), (762, .iload 5, 2), (764, .if_icmp .eq 5, 3), (767, .iconst 0, 1), (768, .ireturn, 1), (769, .iload 5, 2)]
theorem cdok_L_37 : ∀ q ∈ cd_L_37, decode code q.1 = .ok q.2 := by decide +kernel
def cd_L_38 : List (Nat × Instr × Nat) := [(771, .ifCond .ne 15, 3), (774, .aload_n 3, 1), (775, .iconst 0, 1), (776, .laload, 1), (777, .iload 6, 2), (779, .i2l, 1), (780, .lcmp, 1), (781, .ifCond .eq 5, 3), (784, .iconst 0, 1), (785, .ireturn, 1), (786, .goto 3, 3), (789, .iinc 4 5, 3)]
theorem cdok_L_38 : ∀ q ∈ cd_L_38, decode code q.1 = .ok q.2 := by decide +kernel
def cd_L_39 : List (Nat × Instr × Nat) := [(792, .goto (-769), 3), (795, .iconst 1, 1), (796, .ireturn, 1)]
theorem cdok_L_39 : ∀ q ∈ cd_L_39, decode code q.1 = .ok q.2 := by decide +kernel
def cd_L_law : List (Nat × Instr × Nat) := [(0, .new 8, 3), (3, .dup, 1), (4, .invokespecial 52, 3), (7, .astore_n 1, 1), (8, .new 53, 3), (11, .dup, 1), (12, .invokespecial 55, 3), (15, .astore_n 2, 1), (16, .iconst 1, 1), (17, .newarray .long, 2), (19, .astore_n 3, 1), (20, .iconst 0, 1), (21, .istore 4, 2), (23, .iload 4, 2), (25, .aload_n 0, 1), (26, .arraylength, 1), (27, .iconst 5, 1), (28, .isub, 1), (29, .if_icmp .gt 766, 3), (32, .aload_n 0, 1), (33, .iload 4, 2), (35, .iaload, 1), (36, .bipush 15, 2), (38, .iand, 1), (39, .tableswitch 750 0 11 #[61, 153, 197, 253, 321, 377, 421, 489, 557, 625, 681, 694], 61), (100, .aload_n 1, 1), (101, .aload_n 0, 1), (102, .iload 4, 2), (104, .iconst 1, 1), (105, .iadd, 1), (106, .iaload, 1), (107, .aload_n 0, 1), (108, .iload 4, 2), (110, .iconst 2, 1), (111, .iadd, 1), (112, .iaload, 1), (113, .aload_n 0, 1), (114, .iload 4, 2), (116, .iconst 3, 1), (117, .iadd, 1), (118, .iaload, 1), (119, .aload_n 0, 1), (120, .iload 4, 2), (122, .iconst 4, 1), (123, .iadd, 1), (124, .iaload, 1), (125, .aload_n 3, 1), (126, .invokestatic 56, 3), (129, .istore 5, 2), (131, .aload_n 2, 1), (132, .aload_n 0, 1), (133, .iload 4, 2), (135, .iconst 1, 1), (136, .iadd, 1), (137, .iaload, 1), (138, .aload_n 0, 1), (139, .iload 4, 2), (141, .iconst 2, 1), (142, .iadd, 1), (143, .iaload, 1), (144, .aload_n 0, 1), (145, .iload 4, 2), (147, .iconst 3, 1), (148, .iadd, 1), (149, .iaload, 1), (150, .aload_n 0, 1), (151, .iload 4, 2), (153, .iconst 4, 1), (154, .iadd, 1), (155, .iaload, 1), (156, .invokevirtual 61, 3), (159, .istore 6, 2), (161, .aload_n 2, 1), (162, .invokevirtual 62, 3), (165, .iload 5, 2), (167, .if_icmp .eq 5, 3), (170, .iconst 0, 1), (171, .ireturn, 1), (172, .iload 5, 2), (174, .ifCond .ne 15, 3), (177, .aload_n 3, 1), (178, .iconst 0, 1), (179, .laload, 1), (180, .iload 6, 2), (182, .i2l, 1), (183, .lcmp, 1), (184, .ifCond .eq 5, 3), (187, .iconst 0, 1), (188, .ireturn, 1), (189, .goto 600, 3), (192, .aload_n 1, 1), (193, .aload_n 3, 1), (194, .invokestatic 65, 3), (197, .istore 5, 2), (199, .aload_n 2, 1), (200, .invokevirtual 68, 3), (203, .istore 6, 2), (205, .aload_n 2, 1), (206, .invokevirtual 62, 3), (209, .iload 5, 2), (211, .if_icmp .eq 5, 3), (214, .iconst 0, 1), (215, .ireturn, 1), (216, .iload 5, 2), (218, .ifCond .ne 15, 3), (221, .aload_n 3, 1), (222, .iconst 0, 1), (223, .laload, 1), (224, .iload 6, 2), (226, .i2l, 1), (227, .lcmp, 1), (228, .ifCond .eq 5, 3), (231, .iconst 0, 1), (232, .ireturn, 1), (233, .goto 556, 3), (236, .aload_n 1, 1), (237, .aload_n 0, 1), (238, .iload 4, 2), (240, .iconst 1, 1), (241, .iadd, 1), (242, .iaload, 1), (243, .aload_n 3, 1), (244, .invokestatic 69, 3), (247, .istore 5, 2), (249, .aload_n 2, 1), (250, .aload_n 0, 1), (251, .iload 4, 2), (253, .iconst 1, 1), (254, .iadd, 1), (255, .iaload, 1), (256, .invokevirtual 72, 3), (259, .istore 6, 2), (261, .aload_n 2, 1), (262, .invokevirtual 62, 3), (265, .iload 5, 2), (267, .if_icmp .eq 5, 3), (270, .iconst 0, 1), (271, .ireturn, 1), (272, .iload 5, 2), (274, .ifCond .ne 15, 3), (277, .aload_n 3, 1), (278, .iconst 0, 1), (279, .laload, 1), (280, .iload 6, 2), (282, .i2l, 1), (283, .lcmp, 1), (284, .ifCond .eq 5, 3), (287, .iconst 0, 1), (288, .ireturn, 1), (289, .goto 500, 3), (292, .aload_n 1, 1), (293, .aload_n 0, 1), (294, .iload 4, 2), (296, .iconst 1, 1), (297, .iadd, 1), (298, .iaload, 1), (299, .aload_n 0, 1), (300, .iload 4, 2), (302, .iconst 2, 1), (303, .iadd, 1), (304, .iaload, 1), (305, .aload_n 3, 1), (306, .invokestatic 73, 3), (309, .istore 5, 2), (311, .aload_n 2, 1), (312, .aload_n 0, 1), (313, .iload 4, 2), (315, .iconst 1, 1), (316, .iadd, 1), (317, .iaload, 1), (318, .aload_n 0, 1), (319, .iload 4, 2), (321, .iconst 2, 1), (322, .iadd, 1), (323, .iaload, 1), (324, .invokevirtual 76, 3), (327, .istore 6, 2), (329, .aload_n 2, 1), (330, .invokevirtual 62, 3), (333, .iload 5, 2), (335, .if_icmp .eq 5, 3), (338, .iconst 0, 1), (339, .ireturn, 1), (340, .iload 5, 2), (342, .ifCond .ne 15, 3), (345, .aload_n 3, 1), (346, .iconst 0, 1), (347, .laload, 1), (348, .iload 6, 2), (350, .i2l, 1), (351, .lcmp, 1), (352, .ifCond .eq 5, 3), (355, .iconst 0, 1), (356, .ireturn, 1), (357, .goto 432, 3), (360, .aload_n 1, 1), (361, .aload_n 0, 1), (362, .iload 4, 2), (364, .iconst 1, 1), (365, .iadd, 1), (366, .iaload, 1), (367, .aload_n 3, 1), (368, .invokestatic 77, 3), (371, .istore 5, 2), (373, .aload_n 2, 1), (374, .aload_n 0, 1), (375, .iload 4, 2), (377, .iconst 1, 1), (378, .iadd, 1), (379, .iaload, 1), (380, .invokevirtual 79, 3), (383, .istore 6, 2), (385, .aload_n 2, 1), (386, .invokevirtual 62, 3), (389, .iload 5, 2), (391, .if_icmp .eq 5, 3), (394, .iconst 0, 1), (395, .ireturn, 1), (396, .iload 5, 2), (398, .ifCond .ne 15, 3), (401, .aload_n 3, 1), (402, .iconst 0, 1), (403, .laload, 1), (404, .iload 6, 2), (406, .i2l, 1), (407, .lcmp, 1), (408, .ifCond .eq 5, 3), (411, .iconst 0, 1), (412, .ireturn, 1), (413, .goto 376, 3), (416, .aload_n 1, 1), (417, .aload_n 3, 1), (418, .invokestatic 80, 3), (421, .istore 5, 2), (423, .aload_n 2, 1), (424, .invokevirtual 82, 3), (427, .istore 6, 2), (429, .aload_n 2, 1), (430, .invokevirtual 62, 3), (433, .iload 5, 2), (435, .if_icmp .eq 5, 3), (438, .iconst 0, 1), (439, .ireturn, 1), (440, .iload 5, 2), (442, .ifCond .ne 15, 3), (445, .aload_n 3, 1), (446, .iconst 0, 1), (447, .laload, 1), (448, .iload 6, 2), (450, .i2l, 1), (451, .lcmp, 1), (452, .ifCond .eq 5, 3), (455, .iconst 0, 1), (456, .ireturn, 1), (457, .goto 332, 3), (460, .aload_n 1, 1), (461, .aload_n 0, 1), (462, .iload 4, 2), (464, .iconst 1, 1), (465, .iadd, 1), (466, .iaload, 1), (467, .aload_n 0, 1), (468, .iload 4, 2), (470, .iconst 2, 1), (471, .iadd, 1), (472, .iaload, 1), (473, .aload_n 3, 1), (474, .invokestatic 83, 3), (477, .istore 5, 2), (479, .aload_n 2, 1), (480, .aload_n 0, 1), (481, .iload 4, 2), (483, .iconst 1, 1), (484, .iadd, 1), (485, .iaload, 1), (486, .aload_n 0, 1), (487, .iload 4, 2), (489, .iconst 2, 1), (490, .iadd, 1), (491, .iaload, 1), (492, .invokevirtual 85, 3), (495, .istore 6, 2), (497, .aload_n 2, 1), (498, .invokevirtual 62, 3), (501, .iload 5, 2), (503, .if_icmp .eq 5, 3), (506, .iconst 0, 1), (507, .ireturn, 1), (508, .iload 5, 2), (510, .ifCond .ne 15, 3), (513, .aload_n 3, 1), (514, .iconst 0, 1), (515, .laload, 1), (516, .iload 6, 2), (518, .i2l, 1), (519, .lcmp, 1), (520, .ifCond .eq 5, 3), (523, .iconst 0, 1), (524, .ireturn, 1), (525, .goto 264, 3), (528, .aload_n 1, 1), (529, .aload_n 0, 1), (530, .iload 4, 2), (532, .iconst 1, 1), (533, .iadd, 1), (534, .iaload, 1), (535, .aload_n 0, 1), (536, .iload 4, 2), (538, .iconst 2, 1), (539, .iadd, 1), (540, .iaload, 1), (541, .aload_n 3, 1), (542, .invokestatic 86, 3), (545, .istore 5, 2), (547, .aload_n 2, 1), (548, .aload_n 0, 1), (549, .iload 4, 2), (551, .iconst 1, 1), (552, .iadd, 1), (553, .iaload, 1), (554, .aload_n 0, 1), (555, .iload 4, 2), (557, .iconst 2, 1), (558, .iadd, 1), (559, .iaload, 1), (560, .invokevirtual 88, 3), (563, .istore 6, 2), (565, .aload_n 2, 1), (566, .invokevirtual 62, 3), (569, .iload 5, 2), (571, .if_icmp .eq 5, 3), (574, .iconst 0, 1), (575, .ireturn, 1), (576, .iload 5, 2), (578, .ifCond .ne 15, 3), (581, .aload_n 3, 1), (582, .iconst 0, 1), (583, .laload, 1), (584, .iload 6, 2), (586, .i2l, 1), (587, .lcmp, 1), (588, .ifCond .eq 5, 3), (591, .iconst 0, 1), (592, .ireturn, 1), (593, .goto 196, 3), (596, .aload_n 1, 1), (597, .aload_n 0, 1), (598, .iload 4, 2), (600, .iconst 1, 1), (601, .iadd, 1), (602, .iaload, 1), (603, .aload_n 0, 1), (604, .iload 4, 2), (606, .iconst 2, 1), (607, .iadd, 1), (608, .iaload, 1), (609, .aload_n 3, 1), (610, .invokestatic 89, 3), (613, .istore 5, 2), (615, .aload_n 2, 1), (616, .aload_n 0, 1), (617, .iload 4, 2), (619, .iconst 1, 1), (620, .iadd, 1), (621, .iaload, 1), (622, .aload_n 0, 1), (623, .iload 4, 2), (625, .iconst 2, 1), (626, .iadd, 1), (627, .iaload, 1), (628, .invokevirtual 91, 3), (631, .istore 6, 2), (633, .aload_n 2, 1), (634, .invokevirtual 62, 3), (637, .iload 5, 2), (639, .if_icmp .eq 5, 3), (642, .iconst 0, 1), (643, .ireturn, 1), (644, .iload 5, 2), (646, .ifCond .ne 15, 3), (649, .aload_n 3, 1), (650, .iconst 0, 1), (651, .laload, 1), (652, .iload 6, 2), (654, .i2l, 1), (655, .lcmp, 1), (656, .ifCond .eq 5, 3), (659, .iconst 0, 1), (660, .ireturn, 1), (661, .goto 128, 3), (664, .aload_n 1, 1), (665, .aload_n 0, 1), (666, .iload 4, 2), (668, .iconst 1, 1), (669, .iadd, 1), (670, .iaload, 1), (671, .aload_n 3, 1), (672, .invokestatic 92, 3), (675, .istore 5, 2), (677, .aload_n 2, 1), (678, .aload_n 0, 1), (679, .iload 4, 2), (681, .iconst 1, 1), (682, .iadd, 1), (683, .iaload, 1), (684, .invokevirtual 94, 3), (687, .istore 6, 2), (689, .aload_n 2, 1), (690, .invokevirtual 62, 3), (693, .iload 5, 2), (695, .if_icmp .eq 5, 3), (698, .iconst 0, 1), (699, .ireturn, 1), (700, .iload 5, 2), (702, .ifCond .ne 15, 3), (705, .aload_n 3, 1), (706, .iconst 0, 1), (707, .laload, 1), (708, .iload 6, 2), (710, .i2l, 1), (711, .lcmp, 1), (712, .ifCond .eq 5, 3), (715, .iconst 0, 1), (716, .ireturn, 1), (717, .goto 72, 3), (720, .aload_n 1, 1), (721, .invokevirtual 95, 3), (724, .aload_n 2, 1), (725, .invokevirtual 98, 3), (728, .if_icmp .eq 61, 3), (731, .iconst 0, 1), (732, .ireturn, 1), (733, .aload_n 1, 1), (734, .aload_n 0, 1), (735, .iload 4, 2), (737, .iconst 1, 1), (738, .iadd, 1), (739, .iaload, 1), (740, .aload_n 3, 1), (741, .invokestatic 99, 3), (744, .istore 5, 2), (746, .aload_n 2, 1), (747, .aload_n 0, 1), (748, .iload 4, 2), (750, .iconst 1, 1), (751, .iadd, 1), (752, .iaload, 1), (753, .invokevirtual 101, 3), (756, .istore 6, 2), (758, .aload_n 2, 1), (759, .invokevirtual 62, 3), (762, .iload 5, 2), (764, .if_icmp .eq 5, 3), (767, .iconst 0, 1), (768, .ireturn, 1), (769, .iload 5, 2), (771, .ifCond .ne 15, 3), (774, .aload_n 3, 1), (775, .iconst 0, 1), (776, .laload, 1), (777, .iload 6, 2), (779, .i2l, 1), (780, .lcmp, 1), (781, .ifCond .eq 5, 3), (784, .iconst 0, 1), (785, .ireturn, 1), (786, .goto 3, 3), (789, .iinc 4 5, 3), (792, .goto (-769), 3), (795, .iconst 1, 1), (796, .ireturn, 1)]
set_option maxRecDepth 100000 in
theorem cd_L_app : cd_L_law = (cd_L_0 ++ (cd_L_1 ++ (cd_L_2 ++ (cd_L_3 ++ (cd_L_4 ++ (cd_L_5 ++ (cd_L_6 ++ (cd_L_7 ++ (cd_L_8 ++ (cd_L_9 ++ (cd_L_10 ++ (cd_L_11 ++ (cd_L_12 ++ (cd_L_13 ++ (cd_L_14 ++ (cd_L_15 ++ (cd_L_16 ++ (cd_L_17 ++ (cd_L_18 ++ (cd_L_19 ++ (cd_L_20 ++ (cd_L_21 ++ (cd_L_22 ++ (cd_L_23 ++ (cd_L_24 ++ (cd_L_25 ++ (cd_L_26 ++ (cd_L_27 ++ (cd_L_28 ++ (cd_L_29 ++ (cd_L_30 ++ (cd_L_31 ++ (cd_L_32 ++ (cd_L_33 ++ (cd_L_34 ++ (cd_L_35 ++ (cd_L_36 ++ (cd_L_37 ++ (cd_L_38 ++ (cd_L_39 ++ [])))))))))))))))))))))))))))))))))))))))) := rfl
theorem cdok_L_law : ∀ q ∈ cd_L_law, decode code q.1 = .ok q.2 := by
  rw [cd_L_app]
  intro q hq
  rcases List.mem_append.mp hq with hq | hq
  · exact cdok_L_0 q hq
  rcases List.mem_append.mp hq with hq | hq
  · exact cdok_L_1 q hq
  rcases List.mem_append.mp hq with hq | hq
  · exact cdok_L_2 q hq
  rcases List.mem_append.mp hq with hq | hq
  · exact cdok_L_3 q hq
  rcases List.mem_append.mp hq with hq | hq
  · exact cdok_L_4 q hq
  rcases List.mem_append.mp hq with hq | hq
  · exact cdok_L_5 q hq
  rcases List.mem_append.mp hq with hq | hq
  · exact cdok_L_6 q hq
  rcases List.mem_append.mp hq with hq | hq
  · exact cdok_L_7 q hq
  rcases List.mem_append.mp hq with hq | hq
  · exact cdok_L_8 q hq
  rcases List.mem_append.mp hq with hq | hq
  · exact cdok_L_9 q hq
  rcases List.mem_append.mp hq with hq | hq
  · exact cdok_L_10 q hq
  rcases List.mem_append.mp hq with hq | hq
  · exact cdok_L_11 q hq
  rcases List.mem_append.mp hq with hq | hq
  · exact cdok_L_12 q hq
  rcases List.mem_append.mp hq with hq | hq
  · exact cdok_L_13 q hq
  rcases List.mem_append.mp hq with hq | hq
  · exact cdok_L_14 q hq
  rcases List.mem_append.mp hq with hq | hq
  · exact cdok_L_15 q hq
  rcases List.mem_append.mp hq with hq | hq
  · exact cdok_L_16 q hq
  rcases List.mem_append.mp hq with hq | hq
  · exact cdok_L_17 q hq
  rcases List.mem_append.mp hq with hq | hq
  · exact cdok_L_18 q hq
  rcases List.mem_append.mp hq with hq | hq
  · exact cdok_L_19 q hq
  rcases List.mem_append.mp hq with hq | hq
  · exact cdok_L_20 q hq
  rcases List.mem_append.mp hq with hq | hq
  · exact cdok_L_21 q hq
  rcases List.mem_append.mp hq with hq | hq
  · exact cdok_L_22 q hq
  rcases List.mem_append.mp hq with hq | hq
  · exact cdok_L_23 q hq
  rcases List.mem_append.mp hq with hq | hq
  · exact cdok_L_24 q hq
  rcases List.mem_append.mp hq with hq | hq
  · exact cdok_L_25 q hq
  rcases List.mem_append.mp hq with hq | hq
  · exact cdok_L_26 q hq
  rcases List.mem_append.mp hq with hq | hq
  · exact cdok_L_27 q hq
  rcases List.mem_append.mp hq with hq | hq
  · exact cdok_L_28 q hq
  rcases List.mem_append.mp hq with hq | hq
  · exact cdok_L_29 q hq
  rcases List.mem_append.mp hq with hq | hq
  · exact cdok_L_30 q hq
  rcases List.mem_append.mp hq with hq | hq
  · exact cdok_L_31 q hq
  rcases List.mem_append.mp hq with hq | hq
  · exact cdok_L_32 q hq
  rcases List.mem_append.mp hq with hq | hq
  · exact cdok_L_33 q hq
  rcases List.mem_append.mp hq with hq | hq
  · exact cdok_L_34 q hq
  rcases List.mem_append.mp hq with hq | hq
  · exact cdok_L_35 q hq
  rcases List.mem_append.mp hq with hq | hq
  · exact cdok_L_36 q hq
  rcases List.mem_append.mp hq with hq | hq
  · exact cdok_L_37 q hq
  rcases List.mem_append.mp hq with hq | hq
  · exact cdok_L_38 q hq
  rcases List.mem_append.mp hq with hq | hq
  · exact cdok_L_39 q hq
  cases hq
section ZLROWS
variable {p : Program} {l : Launch} {e : Env} {R : Room} {s : State} {m : MethodId} {b : Nat} {below : List Frame} {meth : Method} {c : Code} {D : za_D} {nL : Nat} {Q : State → Prop} {h0 : za_H} {n cells slots pc : Nat} {lv : List (Nat × za_V)} {st : List za_V} {vw : List (Nat × za_C)} {own : String} {cc : ByteArray} {cd : List (Nat × Instr × Nat)} {fl : List (Nat × Nat × Nat)} {ret : Option FieldType}
theorem zl_at0 {ls : Array Slot} (hbz : b < D.2.2) (hl : za_lh #[Value.ref b] ls nL D.2.2 lv) : ls[0]? = some (.val (.ref b)) := by
  refine hl.2.2 (0, .ref b) (List.mem_append_left _ ?_)
  show (0, Value.ref b) ∈ (bif Nat.blt b D.2.2 then [(0, Value.ref b)] else [])
  rw [show Nat.blt b D.2.2 = true from by simpa using hbz]
  exact List.mem_cons_self
theorem zl_ln (X : za_X p s m #[Value.ref b] meth c D own cc cd fl nL ret) (hbz : b < D.2.2) (hbs : b < s.heap.size) {L : Nat} {xs : Nat → Int32} (hx : va_X b L xs s s.heap) (f0 : za_fe cd pc = some (.aload_n 0, 1)) (f1 : za_fe cd (pc + 1) = some (.arraylength, 1)) (kk : za_W p l e R s m #[Value.ref b] below meth c D nL Q h0 n cells slots (pc + 2) lv (vI (Int32.ofNat L) :: st) vw) : za_W p l e R s m #[Value.ref b] below meth c D nL Q h0 n cells slots pc lv st vw := by
  intro H locs ls hR hS hl
  refine lv_aload_n X.1 X.2.1 (za_fe_ok X.2.2.2.2.2.2.1 f0) rfl (zl_at0 hbz hl) ?_
  exact va_slen X.1 X.2.1 hx hbs (Nat.not_le.mpr hbz) hS (za_fe_ok X.2.2.2.2.2.2.1 f1) (kk H locs ls hR hS hl)
theorem zl_e0 (X : za_X p s m #[Value.ref b] meth c D own cc cd fl nL ret) (hbz : b < D.2.2) (hbs : b < s.heap.size) {L : Nat} {xs : Nat → Int32} (hx : va_X b L xs s s.heap) {i : Nat} (hi : za_lg lv 4 = some (vI (nI i))) (hiL : i < L) (hL : L ≤ 2560) (f0 : za_fe cd pc = some (.aload_n 0, 1)) (f1 : za_fe cd (pc + 1) = some (.iload 4, 2)) (f2 : za_fe cd (pc + 3) = some (.iaload, 1)) (kk : za_W p l e R s m #[Value.ref b] below meth c D nL Q h0 n cells slots (pc + 4) lv (vI (xs i) :: st) vw) : za_W p l e R s m #[Value.ref b] below meth c D nL Q h0 n cells slots pc lv st vw := by
  intro H locs ls hR hS hl
  refine lv_aload_n X.1 X.2.1 (za_fe_ok X.2.2.2.2.2.2.1 f0) rfl (zl_at0 hbz hl) ?_
  refine lv_iload X.1 X.2.1 (za_fe_ok X.2.2.2.2.2.2.1 f1) (za_lm_at hl hi) ?_
  refine va_sld X.1 X.2.1 hx hbs (Nat.not_le.mpr hbz) hS (vp_in_nI hiL (by omega)) (za_fe_ok X.2.2.2.2.2.2.1 f2) ?_
  have k2 := kk H locs ls hR hS hl
  rw [nI_clamp (by omega)]
  exact k2
theorem nI_k (i k : Nat) : nI i + nI k = nI (i + k) := (Int32.ofNat_add i k).symm
theorem zl_el (X : za_X p s m #[Value.ref b] meth c D own cc cd fl nL ret) (hbz : b < D.2.2) (hbs : b < s.heap.size) {L : Nat} {xs : Nat → Int32} (hx : va_X b L xs s s.heap) {i : Nat} (k : Nat) {kz : Int} (hkz : Int32.ofInt kz = nI k) (hi : za_lg lv 4 = some (vI (nI i))) (hiL : i + k < L) (hL : L ≤ 2560) (f0 : za_fe cd pc = some (.aload_n 0, 1)) (f1 : za_fe cd (pc + 1) = some (.iload 4, 2)) (f2 : za_fe cd (pc + 3) = some (.iconst kz, 1)) (f3 : za_fe cd (pc + 4) = some (.iadd, 1)) (f4 : za_fe cd (pc + 5) = some (.iaload, 1)) (kk : za_W p l e R s m #[Value.ref b] below meth c D nL Q h0 n cells slots (pc + 6) lv (vI (xs (i + k)) :: st) vw) : za_W p l e R s m #[Value.ref b] below meth c D nL Q h0 n cells slots pc lv st vw := by
  intro H locs ls hR hS hl
  refine lv_aload_n X.1 X.2.1 (za_fe_ok X.2.2.2.2.2.2.1 f0) rfl (zl_at0 hbz hl) ?_
  refine lv_iload X.1 X.2.1 (za_fe_ok X.2.2.2.2.2.2.1 f1) (za_lm_at hl hi) ?_
  refine lv_iconst X.1 X.2.1 (za_fe_ok X.2.2.2.2.2.2.1 f2) rfl ?_
  refine lv_iadd X.1 X.2.1 (za_fe_ok X.2.2.2.2.2.2.1 f3) ?_
  rw [hkz, nI_k]
  refine va_sld X.1 X.2.1 hx hbs (Nat.not_le.mpr hbz) hS (vp_in_nI hiL (by omega)) (za_fe_ok X.2.2.2.2.2.2.1 f4) ?_
  have k2 := kk H locs ls hR hS hl
  rw [nI_clamp (by omega)]
  exact k2
end ZLROWS
theorem kw_nd (Y : za_Y) (hs : List (Nat × Nat × Nat × Nat)) : ∀ (a : Array Value) (u : State), (Cond.codeWith Y.1 Y.2.1 Y.2.2.1 Y.2.2.2 hs).before a u = true → ∃ mk, u.methodNamed? Y.1 = some mk := by
  intro a u h
  obtain ⟨m', meth, c, h0, _⟩ := Cond.codeWith_spec h
  exact ⟨m', h0⟩
theorem ms_mv {h h' : za_H} {th : Int32} {σ : fs_T} (hm : ms_at h th σ) (e : ∀ j, 142 ≤ j → j ≤ 158 → h' j = h j) : ms_at h' th σ := by
  obtain ⟨P, T, S, b, q⟩ := σ
  obtain ⟨hok, hb1, hb4, G, fd, hM, hin⟩ := hm
  exact ⟨hok, hb1, hb4, G, fd, by rw [e 142 (by omega) (by omega)]; exact hM, ms_off hin (fun j a1 a2 => e j (by omega) a2)⟩
theorem ms_cell {h : za_H} {th : Int32} {σ : fs_T} (hm : ms_at h th σ) : ∃ cl, h 142 = some (.inr (zn_M, cl)) := by
  obtain ⟨P, T, S, b, q⟩ := σ
  obtain ⟨hok, hb1, hb4, G, fd, hM, hin⟩ := hm
  obtain ⟨r, pl, la, dn, vi, de, ct, en, ou, ed⟩ := G
  exact ⟨_, hM⟩
theorem fs_cell {h : za_H} {σ : fs_T} (hσ : fs_at h σ) : ∃ cl, h 0 = some (.inr (zn_F, cl)) := by
  obtain ⟨P, T, S, b, q⟩ := σ
  obtain ⟨_, _, _, _, _, ra, rb, _, hF, _⟩ := hσ
  exact ⟨_, hF⟩
theorem c_M_thr (l : Launch) (D : za_D) (h : za_H) (n : Nat) (th : Int32) (σ : fs_T) (hm : ms_at h th σ) : za_M l D Y_M_thrown 0 0 0 [vR 142] h n (fun v h' n' => v = some (vI th) ∧ h' = h ∧ n = n') := by
  obtain ⟨P, T, S, b, q⟩ := σ
  obtain ⟨hok, hb1, hb4, G, fd, hM, hin⟩ := hm
  exact c_M_thrown l D h n (th, P.2.2.2.2, b) G (ms_z T S q fd) hM
/-- what holds between two rows of the script -/
def zl_I (h : za_H) (σ : fs_T) : Prop := fs_at h σ ∧ (∃ th, ms_at h th σ) ∧ ∃ w, ou_at h w
theorem spl_instr (σ : fs_T) (a1 a2 a3 a4 : Int32) : (sp_instr σ a1 a2 a3 a4).1 ≤ 2 := by
  obtain ⟨P, T, S, b, q⟩ := σ
  unfold sp_instr
  repeat' split
  all_goals (first | (show (0 : Nat) ≤ 2; decide) | (show (1 : Nat) ≤ 2; decide) | (show (2 : Nat) ≤ 2; decide))
theorem spl_undo (σ : fs_T)  : (sp_undo σ).1 ≤ 2 := by
  obtain ⟨P, T, S, b, q⟩ := σ
  unfold sp_undo
  repeat' split
  all_goals (first | (show (0 : Nat) ≤ 2; decide) | (show (1 : Nat) ≤ 2; decide) | (show (2 : Nat) ≤ 2; decide))
theorem spl_width (σ : fs_T) (a1 : Int32) : (sp_width σ a1).1 ≤ 2 := by
  obtain ⟨P, T, S, b, q⟩ := σ
  unfold sp_width
  repeat' split
  all_goals (first | (show (0 : Nat) ≤ 2; decide) | (show (1 : Nat) ≤ 2; decide) | (show (2 : Nat) ≤ 2; decide))
theorem spl_run (σ : fs_T) (a1 a2 : Int32) : (sp_run σ a1 a2).1 ≤ 2 := by
  obtain ⟨P, T, S, b, q⟩ := σ
  unfold sp_run
  repeat' split
  all_goals (first | (show (0 : Nat) ≤ 2; decide) | (show (1 : Nat) ≤ 2; decide) | (show (2 : Nat) ≤ 2; decide))
theorem spl_last (σ : fs_T) (a1 : Int32) : (sp_last σ a1).1 ≤ 2 := by
  obtain ⟨P, T, S, b, q⟩ := σ
  unfold sp_last
  repeat' split
  all_goals (first | (show (0 : Nat) ≤ 2; decide) | (show (1 : Nat) ≤ 2; decide) | (show (2 : Nat) ≤ 2; decide))
theorem spl_explore (σ : fs_T)  : (sp_explore σ).1 ≤ 2 := by
  obtain ⟨P, T, S, b, q⟩ := σ
  unfold sp_explore
  repeat' split
  all_goals (first | (show (0 : Nat) ≤ 2; decide) | (show (1 : Nat) ≤ 2; decide) | (show (2 : Nat) ≤ 2; decide))
theorem spl_way (σ : fs_T) (a1 a2 : Int32) : (sp_way σ a1 a2).1 ≤ 2 := by
  obtain ⟨P, T, S, b, q⟩ := σ
  unfold sp_way
  repeat' split
  all_goals (first | (show (0 : Nat) ≤ 2; decide) | (show (1 : Nat) ≤ 2; decide) | (show (2 : Nat) ≤ 2; decide))
theorem spl_decision (σ : fs_T) (a1 a2 : Int32) : (sp_decision σ a1 a2).1 ≤ 2 := by
  obtain ⟨P, T, S, b, q⟩ := σ
  unfold sp_decision
  repeat' split
  all_goals (first | (show (0 : Nat) ≤ 2; decide) | (show (1 : Nat) ≤ 2; decide) | (show (2 : Nat) ≤ 2; decide))
theorem spl_match (σ : fs_T) (a1 a2 : Int32) : (sp_match σ a1 a2).1 ≤ 2 := by
  obtain ⟨P, T, S, b, q⟩ := σ
  unfold sp_match
  repeat' split
  all_goals (first | (show (0 : Nat) ≤ 2; decide) | (show (1 : Nat) ≤ 2; decide) | (show (2 : Nat) ≤ 2; decide))
theorem spl_example (σ : fs_T) (a1 : Int32) : (sp_example σ a1).1 ≤ 2 := by
  obtain ⟨P, T, S, b, q⟩ := σ
  unfold sp_example
  repeat' split
  all_goals (first | (show (0 : Nat) ≤ 2; decide) | (show (1 : Nat) ≤ 2; decide) | (show (2 : Nat) ≤ 2; decide))
theorem spl_count (σ : fs_T) (a1 : Int32) : (sp_count σ a1).1 ≤ 2 := by
  obtain ⟨P, T, S, b, q⟩ := σ
  unfold sp_count
  repeat' split
  all_goals (first | (show (0 : Nat) ≤ 2; decide) | (show (1 : Nat) ≤ 2; decide) | (show (2 : Nat) ≤ 2; decide))
end
