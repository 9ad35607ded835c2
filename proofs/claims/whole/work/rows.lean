section
/-- a private method of a class that the tables say can be made, by its rows of tables_1 -/
def lw_okq (q : MethodName × Nat) : Prop := (q.1.cls ≠ "java/lang/invoke/MethodHandle" ∧ q.1.cls ≠ "java/lang/invoke/VarHandle") ∧ Cond.instantiable q.1.cls q.2 ∈ tables_1 ∧ Cond.privateMethod q.1 ∈ tables_1 ∧ Cond.instanceMethod q.1 ∈ tables_1
theorem lw_p0 : lw_okq (⟨"java/lang/Throwable", "fillInStackTrace", "(I)Ljava/lang/Throwable;"⟩, 6) := ⟨⟨by decide +kernel, by decide +kernel⟩, List.mem_of_getElem? (i := 235) (by decide +kernel), List.mem_of_getElem? (i := 233) (by decide +kernel), List.mem_of_getElem? (i := 234) (by decide +kernel)⟩
theorem lw_p1 : lw_okq (⟨"WayFinder", "areInputs", "(II)Z"⟩, 7) := ⟨⟨by decide +kernel, by decide +kernel⟩, List.mem_of_getElem? (i := 15) (by decide +kernel), List.mem_of_getElem? (i := 316) (by decide +kernel), List.mem_of_getElem? (i := 317) (by decide +kernel)⟩
theorem lw_p2 : lw_okq (⟨"WayFinder$Trace", "begin", "(II)V"⟩, 10) := ⟨⟨by decide +kernel, by decide +kernel⟩, List.mem_of_getElem? (i := 51) (by decide +kernel), List.mem_of_getElem? (i := 325) (by decide +kernel), List.mem_of_getElem? (i := 326) (by decide +kernel)⟩
theorem lw_p3 : lw_okq (⟨"WayFinder$Trace", "step", "(LWayFinder$Program;)V"⟩, 10) := ⟨⟨by decide +kernel, by decide +kernel⟩, List.mem_of_getElem? (i := 51) (by decide +kernel), List.mem_of_getElem? (i := 333) (by decide +kernel), List.mem_of_getElem? (i := 334) (by decide +kernel)⟩
theorem lw_p4 : lw_okq (⟨"WayFinder$Trace", "goIf", "(ZI)V"⟩, 10) := ⟨⟨by decide +kernel, by decide +kernel⟩, List.mem_of_getElem? (i := 51) (by decide +kernel), List.mem_of_getElem? (i := 337) (by decide +kernel), List.mem_of_getElem? (i := 338) (by decide +kernel)⟩
theorem lw_p5 : lw_okq (⟨"WayFinder$Trace", "decide", "(Z)V"⟩, 10) := ⟨⟨by decide +kernel, by decide +kernel⟩, List.mem_of_getElem? (i := 51) (by decide +kernel), List.mem_of_getElem? (i := 341) (by decide +kernel), List.mem_of_getElem? (i := 342) (by decide +kernel)⟩
theorem lw_p6 : lw_okq (⟨"WayFinder$Trace", "divide", "(III)V"⟩, 10) := ⟨⟨by decide +kernel, by decide +kernel⟩, List.mem_of_getElem? (i := 51) (by decide +kernel), List.mem_of_getElem? (i := 348) (by decide +kernel), List.mem_of_getElem? (i := 349) (by decide +kernel)⟩
theorem lw_p7 : lw_okq (⟨"WayFinder$Trace", "finish", "(II)V"⟩, 10) := ⟨⟨by decide +kernel, by decide +kernel⟩, List.mem_of_getElem? (i := 51) (by decide +kernel), List.mem_of_getElem? (i := 352) (by decide +kernel), List.mem_of_getElem? (i := 353) (by decide +kernel)⟩
theorem lw_p8 : lw_okq (⟨"WayFinder$Trace", "claim", "(I)V"⟩, 10) := ⟨⟨by decide +kernel, by decide +kernel⟩, List.mem_of_getElem? (i := 51) (by decide +kernel), List.mem_of_getElem? (i := 356) (by decide +kernel), List.mem_of_getElem? (i := 357) (by decide +kernel)⟩
theorem lw_p9 : lw_okq (⟨"WayFinder$Trace", "finishUnasked", "(LWayFinder$Program;)V"⟩, 10) := ⟨⟨by decide +kernel, by decide +kernel⟩, List.mem_of_getElem? (i := 51) (by decide +kernel), List.mem_of_getElem? (i := 363) (by decide +kernel), List.mem_of_getElem? (i := 364) (by decide +kernel)⟩
theorem lw_p10 : lw_okq (⟨"WayFinder", "fillDraft", "()Z"⟩, 7) := ⟨⟨by decide +kernel, by decide +kernel⟩, List.mem_of_getElem? (i := 15) (by decide +kernel), List.mem_of_getElem? (i := 381) (by decide +kernel), List.mem_of_getElem? (i := 382) (by decide +kernel)⟩
theorem lw_p11 : lw_okq (⟨"WayFinder$Results", "firstNotBefore", "(J)I"⟩, 3) := ⟨⟨by decide +kernel, by decide +kernel⟩, List.mem_of_getElem? (i := 98) (by decide +kernel), List.mem_of_getElem? (i := 393) (by decide +kernel), List.mem_of_getElem? (i := 394) (by decide +kernel)⟩
theorem lw_p12 : lw_okq (⟨"WayFinder$Results", "makeRoom", "(I)V"⟩, 3) := ⟨⟨by decide +kernel, by decide +kernel⟩, List.mem_of_getElem? (i := 98) (by decide +kernel), List.mem_of_getElem? (i := 401) (by decide +kernel), List.mem_of_getElem? (i := 402) (by decide +kernel)⟩
theorem lw_p13 : lw_okq (⟨"WayFinderModel", "raise", "(I)I"⟩, 32) := ⟨⟨by decide +kernel, by decide +kernel⟩, List.mem_of_getElem? (i := 461) (by decide +kernel), List.mem_of_getElem? (i := 579) (by decide +kernel), List.mem_of_getElem? (i := 580) (by decide +kernel)⟩
theorem lw_p14 : lw_okq (⟨"WayFinderModel", "isInput", "(I)Z"⟩, 32) := ⟨⟨by decide +kernel, by decide +kernel⟩, List.mem_of_getElem? (i := 461) (by decide +kernel), List.mem_of_getElem? (i := 595) (by decide +kernel), List.mem_of_getElem? (i := 596) (by decide +kernel)⟩
theorem lw_p15 : lw_okq (⟨"WayFinderModel", "go", "(II)V"⟩, 32) := ⟨⟨by decide +kernel, by decide +kernel⟩, List.mem_of_getElem? (i := 461) (by decide +kernel), List.mem_of_getElem? (i := 599) (by decide +kernel), List.mem_of_getElem? (i := 600) (by decide +kernel)⟩
def lw_privs_1 : List (MethodName × Nat) := [(⟨"java/lang/Throwable", "fillInStackTrace", "(I)Ljava/lang/Throwable;"⟩, 6), (⟨"WayFinder", "areInputs", "(II)Z"⟩, 7), (⟨"WayFinder$Trace", "begin", "(II)V"⟩, 10), (⟨"WayFinder$Trace", "step", "(LWayFinder$Program;)V"⟩, 10), (⟨"WayFinder$Trace", "goIf", "(ZI)V"⟩, 10), (⟨"WayFinder$Trace", "decide", "(Z)V"⟩, 10), (⟨"WayFinder$Trace", "divide", "(III)V"⟩, 10), (⟨"WayFinder$Trace", "finish", "(II)V"⟩, 10), (⟨"WayFinder$Trace", "claim", "(I)V"⟩, 10), (⟨"WayFinder$Trace", "finishUnasked", "(LWayFinder$Program;)V"⟩, 10), (⟨"WayFinder", "fillDraft", "()Z"⟩, 7), (⟨"WayFinder$Results", "firstNotBefore", "(J)I"⟩, 3), (⟨"WayFinder$Results", "makeRoom", "(I)V"⟩, 3), (⟨"WayFinderModel", "raise", "(I)I"⟩, 32), (⟨"WayFinderModel", "isInput", "(I)Z"⟩, 32), (⟨"WayFinderModel", "go", "(II)V"⟩, 32)]
theorem lw_r1 : ∀ q ∈ lw_privs_1, lw_okq q := List.forall_mem_cons.mpr ⟨lw_p0, List.forall_mem_cons.mpr ⟨lw_p1, List.forall_mem_cons.mpr ⟨lw_p2, List.forall_mem_cons.mpr ⟨lw_p3, List.forall_mem_cons.mpr ⟨lw_p4, List.forall_mem_cons.mpr ⟨lw_p5, List.forall_mem_cons.mpr ⟨lw_p6, List.forall_mem_cons.mpr ⟨lw_p7, List.forall_mem_cons.mpr ⟨lw_p8, List.forall_mem_cons.mpr ⟨lw_p9, List.forall_mem_cons.mpr ⟨lw_p10, List.forall_mem_cons.mpr ⟨lw_p11, List.forall_mem_cons.mpr ⟨lw_p12, List.forall_mem_cons.mpr ⟨lw_p13, List.forall_mem_cons.mpr ⟨lw_p14, List.forall_mem_cons.mpr ⟨lw_p15, fun _ h => absurd h List.not_mem_nil⟩⟩⟩⟩⟩⟩⟩⟩⟩⟩⟩⟩⟩⟩⟩⟩
theorem lw_p16 : lw_okq (⟨"WayFinderModel", "perform", "(I)I"⟩, 32) := ⟨⟨by decide +kernel, by decide +kernel⟩, List.mem_of_getElem? (i := 461) (by decide +kernel), List.mem_of_getElem? (i := 603) (by decide +kernel), List.mem_of_getElem? (i := 604) (by decide +kernel)⟩
theorem lw_p17 : lw_okq (⟨"WayFinderModel", "decide", "(Z)Z"⟩, 32) := ⟨⟨by decide +kernel, by decide +kernel⟩, List.mem_of_getElem? (i := 461) (by decide +kernel), List.mem_of_getElem? (i := 607) (by decide +kernel), List.mem_of_getElem? (i := 608) (by decide +kernel)⟩
theorem lw_p18 : lw_okq (⟨"WayFinderModel", "finish", "(II)V"⟩, 32) := ⟨⟨by decide +kernel, by decide +kernel⟩, List.mem_of_getElem? (i := 461) (by decide +kernel), List.mem_of_getElem? (i := 611) (by decide +kernel), List.mem_of_getElem? (i := 612) (by decide +kernel)⟩
theorem lw_p19 : lw_okq (⟨"WayFinderModel", "worked", "(IIII)I"⟩, 32) := ⟨⟨by decide +kernel, by decide +kernel⟩, List.mem_of_getElem? (i := 461) (by decide +kernel), List.mem_of_getElem? (i := 615) (by decide +kernel), List.mem_of_getElem? (i := 616) (by decide +kernel)⟩
theorem lw_p20 : lw_okq (⟨"WayFinderModel", "enter", "(I)V"⟩, 32) := ⟨⟨by decide +kernel, by decide +kernel⟩, List.mem_of_getElem? (i := 461) (by decide +kernel), List.mem_of_getElem? (i := 627) (by decide +kernel), List.mem_of_getElem? (i := 628) (by decide +kernel)⟩
def lw_privs_2 : List (MethodName × Nat) := [(⟨"WayFinderModel", "perform", "(I)I"⟩, 32), (⟨"WayFinderModel", "decide", "(Z)Z"⟩, 32), (⟨"WayFinderModel", "finish", "(II)V"⟩, 32), (⟨"WayFinderModel", "worked", "(IIII)I"⟩, 32), (⟨"WayFinderModel", "enter", "(I)V"⟩, 32)]
theorem lw_r2 : ∀ q ∈ lw_privs_2, lw_okq q := List.forall_mem_cons.mpr ⟨lw_p16, List.forall_mem_cons.mpr ⟨lw_p17, List.forall_mem_cons.mpr ⟨lw_p18, List.forall_mem_cons.mpr ⟨lw_p19, List.forall_mem_cons.mpr ⟨lw_p20, fun _ h => absurd h List.not_mem_nil⟩⟩⟩⟩⟩
def lw_privs : List (MethodName × Nat) := lw_privs_1 ++ (lw_privs_2)
def lw_tbl : List Cond := k2_sels lw_privs ++ tables_1
theorem lw_privs_ok : ∀ q ∈ lw_privs, lw_okq q := by
  show ∀ q ∈ lw_privs_1 ++ (lw_privs_2), lw_okq q
  exact List.forall_mem_append.mpr ⟨lw_r1, lw_r2⟩
/-! the words that stay true as the tables warm -/
def za_okw (w : Cond) : Bool := match w with
  | .fieldLinkNest .. => true
  | .methodLinkNest .. => true
  | .arrayOver (.object _) => true
  | .arrayClass _ => true
  | w => w.onTables && w.keepsFace
def za_tt : List Cond := lw_tbl.filter za_okw
theorem za_in {w : Cond} (i : Nat) (h : lw_tbl[i]? = some w) (ok : za_okw w = true) : w ∈ za_tt := List.mem_filter.mpr ⟨List.mem_of_getElem? h, ok⟩
theorem za_pay (w : Cond) (hw : w ∈ za_tt) {args a' : Array Value} {s U : State} (h : w.before args s = true) (hW : s.WarmedH U.vm) : w.before a' U = true := by
  have ok := (List.mem_filter.mp hw).2
  unfold za_okw at ok
  split at ok
  · exact va_tabs rfl (rfl : (s.setVm U.vm).vm = U.vm) (Cond.fieldLinkNest_warmed (args := args) hW h)
  · exact va_tabs rfl (rfl : (s.setVm U.vm).vm = U.vm) (Cond.methodLinkNest_warmed (args := args) hW h)
  · exact va_AO.use (va_AO.moved hW.alike (va_AO.of h))
  · exact word_at hW (Or.inr ⟨_, rfl⟩) h
  · rw [Bool.and_eq_true] at ok
    exact va_tabs ok.1 (rfl : (s.setVm U.vm).vm = U.vm) (Cond.before_shiftedFace (args := args) (State.Shifted.of_warmed hW) _ ok.2 h)
/-! classes: their names, fields in the order of the slots (declarer, name, descriptor, final) -/
def zf_P : u_T := fun k => match k with
  | 0 => ("WayFinder$Program", "ops", "[I", true)
  | 1 => ("WayFinder$Program", "as", "[I", true)
  | 2 => ("WayFinder$Program", "bs", "[I", true)
  | 3 => ("WayFinder$Program", "cs", "[I", true)
  | _ => ("WayFinder$Program", "size", "I", false)
def zf_T : u_T := fun k => match k with
  | 0 => ("WayFinder$Trace", "registers", "[I", true)
  | 1 => ("WayFinder$Trace", "place", "I", false)
  | 2 => ("WayFinder$Trace", "latest", "I", false)
  | 3 => ("WayFinder$Trace", "done", "I", false)
  | 4 => ("WayFinder$Trace", "visited", "I", false)
  | 5 => ("WayFinder$Trace", "decisions", "J", false)
  | 6 => ("WayFinder$Trace", "decisionCount", "I", false)
  | 7 => ("WayFinder$Trace", "ended", "Z", false)
  | 8 => ("WayFinder$Trace", "outcome", "I", false)
  | _ => ("WayFinder$Trace", "end", "I", false)
def zf_W : u_T := fun k => match k with
  | 0 => ("WayFinder$Way", "x", "I", false)
  | 1 => ("WayFinder$Way", "y", "I", false)
  | 2 => ("WayFinder$Way", "outcome", "I", false)
  | 3 => ("WayFinder$Way", "end", "I", false)
  | 4 => ("WayFinder$Way", "decisions", "J", false)
  | _ => ("WayFinder$Way", "decisionCount", "I", false)
def zf_R : u_T := fun k => match k with
  | 0 => ("WayFinder$Results", "ways", "[LWayFinder$Way;", true)
  | 1 => ("WayFinder$Results", "size", "I", false)
  | _ => ("WayFinder$Results", "visited", "I", false)
def zf_F : u_T := fun k => match k with
  | 0 => ("WayFinder", "program", "LWayFinder$Program;", true)
  | 1 => ("WayFinder", "lastTrace", "LWayFinder$Trace;", true)
  | 2 => ("WayFinder", "probe", "LWayFinder$Trace;", true)
  | 3 => ("WayFinder", "results", "LWayFinder$Results;", false)
  | 4 => ("WayFinder", "draft", "LWayFinder$Results;", false)
  | 5 => ("WayFinder", "bits", "I", false)
  | _ => ("WayFinder", "runs", "I", false)
def zf_M : u_T := fun k => match k with
  | 0 => ("WayFinderModel", "thrown", "I", false)
  | 1 => ("WayFinderModel", "op", "[I", true)
  | 2 => ("WayFinderModel", "ia", "[I", true)
  | 3 => ("WayFinderModel", "ib", "[I", true)
  | 4 => ("WayFinderModel", "ic", "[I", true)
  | 5 => ("WayFinderModel", "size", "I", false)
  | 6 => ("WayFinderModel", "width", "I", false)
  | 7 => ("WayFinderModel", "reg", "[I", true)
  | 8 => ("WayFinderModel", "outcome", "I", false)
  | 9 => ("WayFinderModel", "number", "I", false)
  | 10 => ("WayFinderModel", "done", "I", false)
  | 11 => ("WayFinderModel", "which", "I", false)
  | 12 => ("WayFinderModel", "decisions", "J", false)
  | 13 => ("WayFinderModel", "decided", "I", false)
  | 14 => ("WayFinderModel", "runs", "I", false)
  | 15 => ("WayFinderModel", "lastNumber", "I", false)
  | 16 => ("WayFinderModel", "lastDone", "I", false)
  | 17 => ("WayFinderModel", "lastDecided", "I", false)
  | 18 => ("WayFinderModel", "way", "[J", true)
  | 19 => ("WayFinderModel", "wayLength", "[I", true)
  | 20 => ("WayFinderModel", "least", "[I", true)
  | 21 => ("WayFinderModel", "wayOutcome", "[I", true)
  | 22 => ("WayFinderModel", "wayNumber", "[I", true)
  | 23 => ("WayFinderModel", "wayWhich", "[I", true)
  | 24 => ("WayFinderModel", "found", "I", false)
  | 25 => ("WayFinderModel", "rWay", "[J", true)
  | 26 => ("WayFinderModel", "rLength", "[I", true)
  | 27 => ("WayFinderModel", "rLeast", "[I", true)
  | 28 => ("WayFinderModel", "rOutcome", "[I", true)
  | 29 => ("WayFinderModel", "rNumber", "[I", true)
  | 30 => ("WayFinderModel", "results", "I", false)
  | _ => ("WayFinderModel", "covered", "I", false)
abbrev za_cl : List vw_C := [("WayFinder$Program", zf_P, 5), ("WayFinder$Trace", zf_T, 10), ("WayFinder$Way", zf_W, 6), ("WayFinder$Results", zf_R, 3), ("WayFinder", zf_F, 7), ("WayFinderModel", zf_M, 32)]
abbrev zn_P : Nat := 0
abbrev zn_T : Nat := 1
abbrev zn_W : Nat := 2
abbrev zn_R : Nat := 3
abbrev zn_F : Nat := 4
abbrev zn_M : Nat := 5
def za_fts : List (List FieldType) := [[.array (.int), .array (.int), .array (.int), .array (.int), .int], [.array (.int), .int, .int, .int, .int, .long, .int, .boolean, .int, .int], [.int, .int, .int, .int, .long, .int], [.array (.object "WayFinder$Way"), .int, .int], [.object "WayFinder$Program", .object "WayFinder$Trace", .object "WayFinder$Trace", .object "WayFinder$Results", .object "WayFinder$Results", .int, .int], [.int, .array (.int), .array (.int), .array (.int), .array (.int), .int, .int, .array (.int), .int, .int, .int, .int, .long, .int, .int, .int, .int, .int, .array (.long), .array (.int), .array (.int), .array (.int), .array (.int), .array (.int), .int, .array (.long), .array (.int), .array (.int), .array (.int), .array (.int), .int, .int]]
def za_fns : List (List Bool) := [[true, true, true, true, false], [true, false, false, false, false, false, false, false, false, false], [false, false, false, false, false, false], [true, false, false], [true, true, true, false, false, false, false], [false, true, true, true, true, false, false, true, false, false, false, false, false, false, false, false, false, false, true, true, true, true, true, true, false, true, true, true, true, true, false, false]]
def za_fty (c k : Nat) : FieldType := (za_fts.getD c []).getD k .int
def za_fin (c k : Nat) : Bool := (za_fns.getD c []).getD k false
def za_ty : List FieldType := [.int, .long, .object "WayFinder$Way"]
/-! what the tables say of the classes -/
theorem zl_P : ∀ w ∈ u_ws "WayFinder$Program" zf_P 5, w ∈ za_tt := by
  intro w hw
  obtain ⟨k, hk, rfl⟩ := List.mem_map.mp hw
  have hk2 := List.mem_range.mp hk
  match k, hk2 with
  | 0, _ => exact za_in 59 (by decide +kernel) rfl
  | 1, _ => exact za_in 61 (by decide +kernel) rfl
  | 2, _ => exact za_in 63 (by decide +kernel) rfl
  | 3, _ => exact za_in 65 (by decide +kernel) rfl
  | 4, _ => exact za_in 67 (by decide +kernel) rfl
  | k + 5, h => exact absurd h (by omega)
theorem zl_T : ∀ w ∈ u_ws "WayFinder$Trace" zf_T 10, w ∈ za_tt := by
  intro w hw
  obtain ⟨k, hk, rfl⟩ := List.mem_map.mp hw
  have hk2 := List.mem_range.mp hk
  match k, hk2 with
  | 0, _ => exact za_in 97 (by decide +kernel) rfl
  | 1, _ => exact za_in 99 (by decide +kernel) rfl
  | 2, _ => exact za_in 101 (by decide +kernel) rfl
  | 3, _ => exact za_in 103 (by decide +kernel) rfl
  | 4, _ => exact za_in 105 (by decide +kernel) rfl
  | 5, _ => exact za_in 107 (by decide +kernel) rfl
  | 6, _ => exact za_in 109 (by decide +kernel) rfl
  | 7, _ => exact za_in 111 (by decide +kernel) rfl
  | 8, _ => exact za_in 113 (by decide +kernel) rfl
  | 9, _ => exact za_in 115 (by decide +kernel) rfl
  | k + 10, h => exact absurd h (by omega)
theorem zl_W : ∀ w ∈ u_ws "WayFinder$Way" zf_W 6, w ∈ za_tt := by
  intro w hw
  obtain ⟨k, hk, rfl⟩ := List.mem_map.mp hw
  have hk2 := List.mem_range.mp hk
  match k, hk2 with
  | 0, _ => exact za_in 147 (by decide +kernel) rfl
  | 1, _ => exact za_in 149 (by decide +kernel) rfl
  | 2, _ => exact za_in 151 (by decide +kernel) rfl
  | 3, _ => exact za_in 153 (by decide +kernel) rfl
  | 4, _ => exact za_in 155 (by decide +kernel) rfl
  | 5, _ => exact za_in 157 (by decide +kernel) rfl
  | k + 6, h => exact absurd h (by omega)
theorem zl_R : ∀ w ∈ u_ws "WayFinder$Results" zf_R 3, w ∈ za_tt := by
  intro w hw
  obtain ⟨k, hk, rfl⟩ := List.mem_map.mp hw
  have hk2 := List.mem_range.mp hk
  match k, hk2 with
  | 0, _ => exact za_in 166 (by decide +kernel) rfl
  | 1, _ => exact za_in 168 (by decide +kernel) rfl
  | 2, _ => exact za_in 170 (by decide +kernel) rfl
  | k + 3, h => exact absurd h (by omega)
theorem zl_F : ∀ w ∈ u_ws "WayFinder" zf_F 7, w ∈ za_tt := by
  intro w hw
  obtain ⟨k, hk, rfl⟩ := List.mem_map.mp hw
  have hk2 := List.mem_range.mp hk
  match k, hk2 with
  | 0, _ => exact za_in 180 (by decide +kernel) rfl
  | 1, _ => exact za_in 182 (by decide +kernel) rfl
  | 2, _ => exact za_in 184 (by decide +kernel) rfl
  | 3, _ => exact za_in 186 (by decide +kernel) rfl
  | 4, _ => exact za_in 188 (by decide +kernel) rfl
  | 5, _ => exact za_in 190 (by decide +kernel) rfl
  | 6, _ => exact za_in 192 (by decide +kernel) rfl
  | k + 7, h => exact absurd h (by omega)
theorem zl_M : ∀ w ∈ u_ws "WayFinderModel" zf_M 32, w ∈ za_tt := by
  intro w hw
  obtain ⟨k, hk, rfl⟩ := List.mem_map.mp hw
  have hk2 := List.mem_range.mp hk
  match k, hk2 with
  | 0, _ => exact za_in 519 (by decide +kernel) rfl
  | 1, _ => exact za_in 521 (by decide +kernel) rfl
  | 2, _ => exact za_in 523 (by decide +kernel) rfl
  | 3, _ => exact za_in 525 (by decide +kernel) rfl
  | 4, _ => exact za_in 527 (by decide +kernel) rfl
  | 5, _ => exact za_in 529 (by decide +kernel) rfl
  | 6, _ => exact za_in 531 (by decide +kernel) rfl
  | 7, _ => exact za_in 533 (by decide +kernel) rfl
  | 8, _ => exact za_in 535 (by decide +kernel) rfl
  | 9, _ => exact za_in 537 (by decide +kernel) rfl
  | 10, _ => exact za_in 539 (by decide +kernel) rfl
  | 11, _ => exact za_in 541 (by decide +kernel) rfl
  | 12, _ => exact za_in 543 (by decide +kernel) rfl
  | 13, _ => exact za_in 545 (by decide +kernel) rfl
  | 14, _ => exact za_in 547 (by decide +kernel) rfl
  | 15, _ => exact za_in 549 (by decide +kernel) rfl
  | 16, _ => exact za_in 551 (by decide +kernel) rfl
  | 17, _ => exact za_in 553 (by decide +kernel) rfl
  | 18, _ => exact za_in 555 (by decide +kernel) rfl
  | 19, _ => exact za_in 557 (by decide +kernel) rfl
  | 20, _ => exact za_in 559 (by decide +kernel) rfl
  | 21, _ => exact za_in 561 (by decide +kernel) rfl
  | 22, _ => exact za_in 563 (by decide +kernel) rfl
  | 23, _ => exact za_in 565 (by decide +kernel) rfl
  | 24, _ => exact za_in 567 (by decide +kernel) rfl
  | 25, _ => exact za_in 569 (by decide +kernel) rfl
  | 26, _ => exact za_in 571 (by decide +kernel) rfl
  | 27, _ => exact za_in 573 (by decide +kernel) rfl
  | 28, _ => exact za_in 575 (by decide +kernel) rfl
  | 29, _ => exact za_in 577 (by decide +kernel) rfl
  | 30, _ => exact za_in 579 (by decide +kernel) rfl
  | 31, _ => exact za_in 581 (by decide +kernel) rfl
  | k + 32, h => exact absurd h (by omega)
theorem za_cok : ∀ (ci : Nat) (C : String) (T : u_T) (N : Nat), za_cl[ci]? = some (C, T, N) → (∀ w ∈ u_ws C T N, w ∈ za_tt) ∧ (∀ k, k < N → parseFieldDescriptor (T k).2.2.1 = some (za_fty ci k)) ∧ (∀ a, a < N → ∀ b, b < N → a ≠ b → (T a).2.1 ≠ (T b).2.1) ∧ ∀ k, k < N → (T k).2.2.2 = za_fin ci k := by
  intro ci C T N h
  match ci, h with
  | 0, h => cases h; exact ⟨zl_P, by decide +kernel, by decide +kernel, by decide +kernel⟩
  | 1, h => cases h; exact ⟨zl_T, by decide +kernel, by decide +kernel, by decide +kernel⟩
  | 2, h => cases h; exact ⟨zl_W, by decide +kernel, by decide +kernel, by decide +kernel⟩
  | 3, h => cases h; exact ⟨zl_R, by decide +kernel, by decide +kernel, by decide +kernel⟩
  | 4, h => cases h; exact ⟨zl_F, by decide +kernel, by decide +kernel, by decide +kernel⟩
  | 5, h => cases h; exact ⟨zl_M, by decide +kernel, by decide +kernel, by decide +kernel⟩
  | k + 6, h => simp [za_cl] at h
end
section
/-! ABSTRACT VALUES, CELLS, HEAPS. A reference is the number of a cell behind z, the heap's size at the law's entry: what the system makes lies at z + 0, z + 1 .. -/
abbrev za_V : Type := Int32 ⊕ (Int64 ⊕ Option Nat)
abbrev vI (x : Int32) : za_V := Sum.inl x
abbrev vL (x : Int64) : za_V := Sum.inr (Sum.inl x)
abbrev vR (i : Nat) : za_V := Sum.inr (Sum.inr (some i))
abbrev vN : za_V := Sum.inr (Sum.inr none)
/-- an array: the number of its type in za_ty, its length, what it holds -/
abbrev za_A : Type := Nat × Nat × ((Nat → Int32) ⊕ ((Nat → Int64) ⊕ (Nat → Option Nat)))
abbrev za_C : Type := za_A ⊕ (Nat × List za_V)
abbrev za_H : Type := Nat → Option za_C
abbrev za_D : Type := va_G × (Nat → ClassId) × Nat
def za_cv (z : Nat) : za_V → Value
  | .inl x => .int x
  | .inr (.inl x) => .long x
  | .inr (.inr none) => .null
  | .inr (.inr (some i)) => .ref (z + i)
def za_c2 : za_V → Bool
  | .inr (.inl _) => true
  | _ => false
theorem za_cat (z : Nat) (v : za_V) : (za_cv z v).category = if za_c2 v = true then 2 else 1 := by
  rcases v with x | x | x
  · rfl
  · rfl
  · cases x <;> rfl
theorem za_cat1 {z : Nat} {v : za_V} (h : za_c2 v = false) : (za_cv z v).category = 1 := by rw [za_cat, h]; rfl
def za_ce (D : za_D) : za_C → va_E
  | .inl (k, n, .inl f) => .inl (D.2.1 k, n, .inl f)
  | .inl (k, n, .inr (.inl f)) => .inl (D.2.1 k, n, .inr (.inl f))
  | .inl (k, n, .inr (.inr g)) => .inl (D.2.1 k, n, .inr (.inr (.inr (.inr (fun j => (g j).map (fun i => D.2.2 + i))))))
  | .inr (ci, fs) => .inr (ci, fs.map (za_cv D.2.2))
def za_at (D : za_D) (i : Nat) (c : za_C) (H : Heap) : Prop := va_at D.1 za_cl (D.2.2 + i, za_ce D c) H
/-- the heap holds the picture h of n cells behind z; no cell there is a cell of statics -/
def za_Rp (D : za_D) (h : za_H) (n : Nat) (H : Heap) : Prop := H.size = D.2.2 + n ∧ (∀ (i : Nat) (c : za_C), h i = some c → za_at D i c H) ∧ ∀ (q : Nat) (c : Cell), D.2.2 ≤ q → H[q]? = some c → c.vm = .none
def za_tys (D : za_D) : List (ClassId × FieldType) := (List.range za_ty.length).map (fun k => (D.2.1 k, za_ty.getD k .int))
theorem za_tys_at (D : za_D) {k : Nat} {ty : FieldType} (h : za_ty[k]? = some ty) : (za_tys D)[k]? = some (D.2.1 k, ty) := by
  have hl : k < za_ty.length := (List.getElem?_eq_some_iff.mp h).1
  simp only [za_tys, List.getElem?_map, List.getElem?_range hl, Option.map_some, List.getD_eq_getElem?_getD, h, Option.getD_some]
def za_set (h : za_H) (i : Nat) (c : za_C) : za_H := fun j => if j = i then some c else h j
theorem za_set_eq (h : za_H) (i : Nat) (c : za_C) : za_set h i c i = some c := by simp [za_set]
theorem za_set_ne {h : za_H} {i j : Nat} {c : za_C} (e : j ≠ i) : za_set h i c j = h j := by simp [za_set, e]
theorem za_at.ltz {D : za_D} {i : Nat} {c : za_C} {H : Heap} (h : za_at D i c H) : D.2.2 + i < H.size := va_at.lt (q := (D.2.2 + i, za_ce D c)) h
theorem za_at.plain {D : za_D} {i : Nat} {c : za_C} {H : Heap} {q : Cell} (h : za_at D i c H) (hq : H[D.2.2 + i]? = some q) : q.vm = .none := by
  rcases c with ⟨k, n, f | f | f⟩ | ⟨ci, fs⟩
  · have h1 : H[D.2.2 + i]? = some (vp_cell (D.2.1 k) (n, .inl f)) := h
    rw [hq] at h1; cases h1; rfl
  · have h1 : H[D.2.2 + i]? = some (vp_cell (D.2.1 k) (n, .inr (.inl f))) := h
    rw [hq] at h1; cases h1; rfl
  · have h1 : H[D.2.2 + i]? = some (vp_cell (D.2.1 k) (n, .inr (.inr (.inr (.inr (fun j => (f j).map (fun i => D.2.2 + i))))))) := h
    rw [hq] at h1; cases h1; rfl
  · have h1 : ∃ r : vw_C, za_cl[ci]? = some r ∧ t_OB (D.2.2 + i) (D.1.1 ci) r.2.2 (D.1.2 ci) H (vp_V (fs.map (za_cv D.2.2))) := h
    obtain ⟨r, -, cell, q1, -, q3, -⟩ := h1
    rw [hq] at q1; cases q1; exact q3
theorem za_Rp.set {D : za_D} {h : za_H} {n i : Nat} {c : za_C} {H H1 : Heap} (hR : za_Rp D h n H) (hz : H1.size = H.size) (ha : za_at D i c H1) (ho : ∀ q : Nat, q ≠ D.2.2 + i → H1[q]? = H[q]?) : za_Rp D (za_set h i c) n H1 := by
  refine ⟨hz.trans hR.1, fun j c' hj => ?_, fun q cell hq hc => ?_⟩
  · by_cases e : j = i
    · subst e
      rw [za_set_eq] at hj
      cases hj
      exact ha
    · rw [za_set_ne e] at hj
      exact va_at.kept (q := (D.2.2 + j, za_ce D c')) (hR.2.1 j c' hj) (ho (D.2.2 + j) (by omega))
  · by_cases e : q = D.2.2 + i
    · subst e
      exact ha.plain hc
    · rw [ho q e] at hc
      exact hR.2.2 q cell hq hc
theorem za_Rp.push {D : za_D} {h : za_H} {n : Nat} {H H1 : Heap} (hR : za_Rp D h n H) (hz : H1.size = D.2.2 + n + 1) (ho : ∀ q : Nat, q < D.2.2 + n → H1[q]? = H[q]?) (hp : ∀ c : Cell, H1[D.2.2 + n]? = some c → c.vm = .none) : za_Rp D h (n + 1) H1 := by
  refine ⟨by omega, fun j c' hj => ?_, fun q cell hq hc => ?_⟩
  · have h1 := hR.2.1 j c' hj
    have h2 := h1.ltz
    rw [hR.1] at h2
    exact va_at.kept (q := (D.2.2 + j, za_ce D c')) h1 (ho (D.2.2 + j) h2)
  · by_cases e : q = D.2.2 + n
    · subst e
      exact hp cell hc
    · have hl : q < H1.size := (Array.getElem?_eq_some_iff.mp hc).1
      rw [ho q (by omega)] at hc
      exact hR.2.2 q cell hq hc
theorem za_Rp.pushc {D : za_D} {h : za_H} {n : Nat} {c : za_C} {H H1 : Heap} (hR : za_Rp D h n H) (hz : H1.size = D.2.2 + n + 1) (ho : ∀ q : Nat, q < D.2.2 + n → H1[q]? = H[q]?) (ha : za_at D n c H1) : za_Rp D (za_set h n c) (n + 1) H1 := by
  have hp := hR.push hz ho (fun c hc => ha.plain hc)
  refine ⟨hp.1, fun j c' hj => ?_, hp.2.2⟩
  by_cases e : j = n
  · subst e
    rw [za_set_eq] at hj
    cases hj
    exact ha
  · rw [za_set_ne e] at hj
    exact hp.2.1 j c' hj
/-! a heap seen through a list of cells: what the list names, the list tells -/
def za_vg : List (Nat × za_C) → Nat → Option za_C
  | [], _ => none
  | (j, c) :: t, i => bif Nat.beq j i then some c else za_vg t i
theorem za_beq {j i : Nat} (e : j ≠ i) : Nat.beq j i = false := Bool.eq_false_iff.mpr fun h => e (Nat.eq_of_beq_eq_true h)
theorem za_beq_rfl (j : Nat) : Nat.beq j j = true := Nat.beq_refl j
theorem za_vg_cons (j i : Nat) (c : za_C) (t : List (Nat × za_C)) : za_vg ((j, c) :: t) i = if j = i then some c else za_vg t i := by
  show (bif Nat.beq j i then some c else za_vg t i) = _
  by_cases e : j = i
  · subst e
    rw [za_beq_rfl, if_pos rfl]; rfl
  · rw [za_beq e, if_neg e]; rfl
def za_vs : List (Nat × za_C) → Nat → za_C → List (Nat × za_C)
  | [], i, c => [(i, c)]
  | (j, d) :: t, i, c => bif Nat.beq j i then (j, c) :: t else (j, d) :: za_vs t i c
theorem za_vg_vs (v : List (Nat × za_C)) (i : Nat) (c : za_C) (j : Nat) : za_vg (za_vs v i c) j = if j = i then some c else za_vg v j := by
  induction v with
  | nil =>
    show za_vg [(i, c)] j = _
    rw [za_vg_cons]
    by_cases e : i = j
    · rw [if_pos e, if_pos e.symm]
    · rw [if_neg e, if_neg (fun q => e q.symm)]
  | cons q t ih =>
    obtain ⟨a, d⟩ := q
    show za_vg (bif Nat.beq a i then (a, c) :: t else (a, d) :: za_vs t i c) j = _
    by_cases e : a = i
    · subst e
      rw [za_beq_rfl]
      show za_vg ((a, c) :: t) j = _
      rw [za_vg_cons, za_vg_cons]
      by_cases e2 : a = j
      · rw [if_pos e2, if_pos e2.symm]
      · rw [if_neg e2, if_neg (fun q => e2 q.symm), if_neg e2]
    · rw [za_beq e]
      show za_vg ((a, d) :: za_vs t i c) j = _
      rw [za_vg_cons, za_vg_cons, ih]
      by_cases e2 : a = j
      · subst e2
        rw [if_pos rfl, if_pos rfl, if_neg e]
      · rw [if_neg e2, if_neg e2]
def za_ov (h : za_H) (v : List (Nat × za_C)) : za_H := fun i => match za_vg v i with
  | some c => some c
  | none => h i
theorem za_ov_nil (h : za_H) : za_ov h [] = h := rfl
theorem za_ov_at {h : za_H} {v : List (Nat × za_C)} {i : Nat} {c : za_C} (e : za_vg v i = some c) : za_ov h v i = some c := by simp [za_ov, e]
theorem za_ov_vs (h : za_H) (v : List (Nat × za_C)) (i : Nat) (c : za_C) : za_ov h (za_vs v i c) = za_set (za_ov h v) i c := by
  funext j
  show (match za_vg (za_vs v i c) j with | some c => some c | none => h j) = _
  rw [za_vg_vs]
  by_cases e : j = i
  · subst e
    rw [if_pos rfl, za_set_eq]
  · rw [if_neg e, za_set_ne e]
    rfl
/-- what the list says is so already: the list changes nothing -/
theorem za_ov_same {h : za_H} {v : List (Nat × za_C)} (e : ∀ q ∈ v, h q.1 = some q.2) : za_ov h v = h := by
  have key : ∀ (w : List (Nat × za_C)), (∀ q ∈ w, h q.1 = some q.2) → ∀ (i : Nat) (c : za_C), za_vg w i = some c → h i = some c := by
    intro w
    induction w with
    | nil => intro _ i c hc; cases hc
    | cons q t ih =>
      obtain ⟨a, d⟩ := q
      intro hw i c hc
      rw [za_vg_cons] at hc
      by_cases e2 : a = i
      · rw [if_pos e2] at hc
        cases hc
        subst e2
        exact hw (a, d) List.mem_cons_self
      · rw [if_neg e2] at hc
        exact ih (fun q hq => hw q (List.mem_cons_of_mem _ hq)) i c hc
  funext i
  show (match za_vg v i with | some c => some c | none => h i) = _
  cases hc : za_vg v i with
  | none => rfl
  | some c => exact (key v e i c hc).symm
/-! locals -/
def za_lg : List (Nat × za_V) → Nat → Option za_V
  | [], _ => none
  | (j, v) :: t, i => bif Nat.beq j i then some v else za_lg t i
theorem za_lg_mem {lv : List (Nat × za_V)} {i : Nat} {v : za_V} (h : za_lg lv i = some v) : (i, v) ∈ lv := by
  induction lv with
  | nil => cases h
  | cons q t ih =>
    obtain ⟨j, w⟩ := q
    have h2 : (bif Nat.beq j i then some w else za_lg t i) = some v := h
    by_cases e : j = i
    · subst e
      rw [za_beq_rfl] at h2
      cases h2
      exact List.mem_cons_self
    · rw [za_beq e] at h2
      exact List.mem_cons_of_mem _ (ih h2)
def za_lf : List (Nat × za_V) → Nat → List (Nat × za_V)
  | [], _ => []
  | (j, v) :: t, i => bif (Nat.beq j i || (Nat.beq (j + 1) i && za_c2 v)) then za_lf t i else (j, v) :: za_lf t i
theorem za_lf_mem {lv : List (Nat × za_V)} {i : Nat} {q : Nat × za_V} (h : q ∈ za_lf lv i) : q ∈ lv ∧ q.1 ≠ i ∧ ¬ (q.1 + 1 = i ∧ za_c2 q.2 = true) := by
  induction lv with
  | nil => cases h
  | cons r t ih =>
    obtain ⟨j, w⟩ := r
    have h2 : q ∈ (bif (Nat.beq j i || (Nat.beq (j + 1) i && za_c2 w)) then za_lf t i else (j, w) :: za_lf t i) := h
    cases hb : (Nat.beq j i || (Nat.beq (j + 1) i && za_c2 w)) with
    | true =>
      rw [hb] at h2
      obtain ⟨a, b⟩ := ih h2
      exact ⟨List.mem_cons_of_mem _ a, b⟩
    | false =>
      rw [hb] at h2
      rcases List.mem_cons.mp h2 with rfl | h3
      · rw [Bool.or_eq_false_iff] at hb
        refine ⟨List.mem_cons_self, fun e => ?_, fun e => ?_⟩
        · have e1 : j = i := e
          rw [e1, za_beq_rfl] at hb
          cases hb.1
        · have e1 : j + 1 = i := e.1
          have e2 : za_c2 w = true := e.2
          rw [e1, za_beq_rfl, e2] at hb
          cases hb.2
      · obtain ⟨a, b⟩ := ih h3
        exact ⟨List.mem_cons_of_mem _ a, b⟩
def za_lm (z : Nat) (lv : List (Nat × za_V)) : List (Nat × Value) := lv.map (fun q => (q.1, za_cv z q.2))
theorem za_lm_at {z : Nat} {lv : List (Nat × za_V)} {i nL : Nat} {v : za_V} {ls : Array Slot} (hl : lv_has ls nL (za_lm z lv)) (h : za_lg lv i = some v) : ls[i]? = some (.val (za_cv z v)) :=
  hl.2.2 (i, za_cv z v) (List.mem_map.mpr ⟨(i, v), za_lg_mem h, rfl⟩)
theorem za_lh_sub {ls : Array Slot} {nL : Nat} {k k' : List (Nat × Value)} (h : lv_has ls nL k) (hs : ∀ q ∈ k', q ∈ k) : lv_has ls nL k' := ⟨h.1, h.2.1, fun q hq => h.2.2 q (hs q hq)⟩
/-- storing a value of one slot -/
theorem za_lm_st {z i : Nat} {lv : List (Nat × za_V)} {v : za_V} : ∀ q ∈ za_lm z ((i, v) :: za_lf lv i), q ∈ ((i, za_cv z v) :: (za_lm z lv).filter (fun q => !(q.1 == i) && !(q.1 + 1 == i && q.2.category == 2))) := by
  intro q hq
  obtain ⟨r, hr, rfl⟩ := List.mem_map.mp hq
  rcases List.mem_cons.mp hr with rfl | hr
  · exact List.mem_cons_self
  · obtain ⟨h1, h2, h3⟩ := za_lf_mem hr
    refine List.mem_cons_of_mem _ (List.mem_filter.mpr ⟨List.mem_map.mpr ⟨r, h1, rfl⟩, ?_⟩)
    have e1 : (r.1 == i) = false := by simpa using h2
    have e2 : (r.1 + 1 == i && (za_cv z r.2).category == 2) = false := by
      rw [Bool.and_eq_false_iff]
      by_cases e : r.1 + 1 = i
      · right
        have : za_c2 r.2 = false := by
          cases hc : za_c2 r.2 with
          | false => rfl
          | true => exact absurd ⟨e, hc⟩ h3
        rw [za_cat1 this]
        rfl
      · left
        simpa using e
    show (!(r.1 == i) && !(r.1 + 1 == i && (za_cv z r.2).category == 2)) = true
    rw [e1, e2]
    rfl
end
section
/-! THE JUDGEMENT: from every heap that holds the picture, with these locals and this stack at pc, the walk comes to Q -/
def za_W (p : Program) (l : Launch) (e : Env) (R : Room) (s : State) (m : MethodId) (args : Array Value) (below : List Frame) (meth : Method) (c : Code) (D : za_D) (nL : Nat) (Q : State → Prop) (h0 : za_H) (n cells slots pc : Nat) (lv : List (Nat × za_V)) (st : List za_V) (vw : List (Nat × za_C)) : Prop :=
  ∀ (H : Heap) (locs : List Loc) (ls : Array Slot), za_Rp D (za_ov h0 vw) n H → va_S (fun q : Nat => D.2.2 ≤ q) s.heap H locs → lv_has ls nL (za_lm D.2.2 lv) → W p l e R s m args below meth c H locs cells slots Q (F0 m pc ls (st.map (za_cv D.2.2)))
/-- a field of a class's table under a number of its pool: (the number, the class, the field's place) -/
def za_FL (own : String) (q : Nat × Nat × Nat) : Prop := ∃ (C : String) (T : u_T) (N : Nat), za_cl[q.2.1]? = some (C, T, N) ∧ q.2.2 < N ∧ (T q.2.2).1 = C ∧ (Cond.fieldLink own q.1 C (T q.2.2).2.1 (T q.2.2).2.2.1 ∈ za_tt ∨ ∃ host : String, Cond.fieldLinkNest own q.1 C (T q.2.2).2.1 (T q.2.2).2.2.1 host ∈ za_tt)
/-- what holds all along a walk -/
def za_X (p : Program) (s : State) (m : MethodId) (args : Array Value) (meth : Method) (c : Code) (D : za_D) (own : String) (cc : ByteArray) (cd : List (Nat × Instr × Nat)) (fl : List (Nat × Nat × Nat)) (nL : Nat) (ret : Option FieldType) : Prop :=
  p.tables.exec = Jvm.exec ∧ c.code = cc ∧ c.maxLocals = nL ∧ s.vm.findClass own = some m.cls ∧ (∀ w ∈ za_tt, w.before args s = true) ∧ va_K D.1 za_cl (za_tys D) s ∧ (∀ q ∈ cd, decode cc q.1 = .ok q.2) ∧ (∀ q ∈ fl, za_FL own q) ∧ meth.sig.returnType = ret ∧ meth.locks = false ∧ D.2.2 ≤ s.heap.size
def za_fe : List (Nat × Instr × Nat) → Nat → Option (Instr × Nat)
  | [], _ => none
  | (j, r) :: t, i => bif Nat.beq j i then some r else za_fe t i
theorem za_fe_ok {cc : ByteArray} {cd : List (Nat × Instr × Nat)} (h : ∀ q ∈ cd, decode cc q.1 = .ok q.2) {pc : Nat} {r : Instr × Nat} (hf : za_fe cd pc = some r) : decode cc pc = .ok r := by
  induction cd with
  | nil => cases hf
  | cons q t ih =>
    obtain ⟨j, w⟩ := q
    have h2 : (bif Nat.beq j pc then some w else za_fe t pc) = some r := hf
    by_cases e : j = pc
    · subst e
      rw [za_beq_rfl] at h2
      cases h2
      exact h (j, r) List.mem_cons_self
    · rw [za_beq e] at h2
      exact ih (fun q hq => h q (List.mem_cons_of_mem _ hq)) h2
def za_fk : List (Nat × Nat × Nat) → Nat → Option (Nat × Nat)
  | [], _ => none
  | (j, r) :: t, i => bif Nat.beq j i then some r else za_fk t i
theorem za_fk_mem {fl : List (Nat × Nat × Nat)} {i : Nat} {r : Nat × Nat} (h : za_fk fl i = some r) : (i, r) ∈ fl := by
  induction fl with
  | nil => cases h
  | cons q t ih =>
    obtain ⟨j, w⟩ := q
    have h2 : (bif Nat.beq j i then some w else za_fk t i) = some r := h
    by_cases e : j = i
    · subst e
      rw [za_beq_rfl] at h2
      cases h2
      exact List.mem_cons_self
    · rw [za_beq e] at h2
      exact List.mem_cons_of_mem _ (ih h2)
/-- what a field of this type takes -/
def za_okf (ty : FieldType) (v : za_V) : Bool := match ty, v with
  | .int, .inl _ => true
  | .long, .inr (.inl _) => true
  | .boolean, .inl x => x == 0 || x == 1
  | .object _, .inr (.inr _) => true
  | .array _, .inr (.inr _) => true
  | _, _ => false
theorem za_okf_ok {ty : FieldType} {v : za_V} (h : za_okf ty v = true) (z : Nat) : narrow ty (za_cv z v) = za_cv z v ∧ fits ty (za_cv z v) = true := by
  unfold za_okf at h
  split at h
  · exact ⟨rfl, rfl⟩
  · exact ⟨rfl, rfl⟩
  · rename_i x
    rw [Bool.or_eq_true, beq_iff_eq, beq_iff_eq] at h
    rcases h with rfl | rfl
    · exact ⟨(by decide : narrow .boolean (.int 0) = .int 0), (by decide : fits .boolean (.int 0) = true)⟩
    · exact ⟨(by decide : narrow .boolean (.int 1) = .int 1), (by decide : fits .boolean (.int 1) = true)⟩
  · rename_i r
    cases r <;> exact ⟨rfl, rfl⟩
  · rename_i r
    cases r <;> exact ⟨rfl, rfl⟩
  · cases h
def za_gc (fl : List (Nat × Nat × Nat)) (idx : Nat) (c : za_C) : Option za_V := match c with
  | .inr (ci, fs) => match za_fk fl idx with
    | some (cj, k) => bif Nat.beq cj ci then fs[k]? else none
    | none => none
  | .inl _ => none
theorem za_gc_ok {fl : List (Nat × Nat × Nat)} {idx : Nat} {c : za_C} {v : za_V} (h : za_gc fl idx c = some v) : ∃ (ci k : Nat) (fs : List za_V), c = .inr (ci, fs) ∧ (idx, ci, k) ∈ fl ∧ fs[k]? = some v := by
  unfold za_gc at h
  split at h
  · rename_i ci fs
    split at h
    · rename_i cj k hk
      by_cases e : cj = ci
      · subst e
        rw [za_beq_rfl] at h
        exact ⟨cj, k, fs, rfl, za_fk_mem hk, h⟩
      · rw [za_beq e] at h
        cases h
    · cases h
  · cases h
def za_pf (fl : List (Nat × Nat × Nat)) (idx : Nat) (c : za_C) (v : za_V) : Option za_C := match c with
  | .inr (ci, fs) => match za_fk fl idx with
    | some (cj, k) => bif (Nat.beq cj ci && (za_okf (za_fty ci k) v && (!(za_fin ci k) && Nat.blt k fs.length))) then some (.inr (ci, fs.set k v)) else none
    | none => none
  | .inl _ => none
theorem za_pf_ok {fl : List (Nat × Nat × Nat)} {idx : Nat} {c c' : za_C} {v : za_V} (h : za_pf fl idx c v = some c') : ∃ (ci k : Nat) (fs : List za_V), c = .inr (ci, fs) ∧ (idx, ci, k) ∈ fl ∧ za_okf (za_fty ci k) v = true ∧ za_fin ci k = false ∧ k < fs.length ∧ c' = .inr (ci, fs.set k v) := by
  unfold za_pf at h
  split at h
  · rename_i ci fs
    split at h
    · rename_i cj k hk
      cases hb : (Nat.beq cj ci && (za_okf (za_fty ci k) v && (!(za_fin ci k) && Nat.blt k fs.length))) with
      | false => rw [hb] at h; cases h
      | true =>
        rw [hb] at h
        cases h
        rw [Bool.and_eq_true, Bool.and_eq_true, Bool.and_eq_true] at hb
        obtain ⟨h1, h2, h3, h4⟩ := hb
        have e := Nat.eq_of_beq_eq_true h1
        subst e
        exact ⟨cj, k, fs, rfl, za_fk_mem hk, h2, by simpa using h3, by simpa using h4, rfl⟩
    · cases h
  · cases h

def za_ln (i : Instr) : Nat := match i with
  | .iconst _ => 1
  | .bipush _ => 2
  | .sipush _ => 3
  | .lconst _ => 1
  | .aconst_null => 1
  | .iload_n _ => 1
  | .iload _ => 2
  | .lload_n _ => 1
  | .lload _ => 2
  | .aload_n _ => 1
  | .aload _ => 2
  | .istore_n _ => 1
  | .istore _ => 2
  | .astore_n _ => 1
  | .astore _ => 2
  | .iinc _ _ => 3
  | .iadd => 1
  | .isub => 1
  | .imul => 1
  | .iand => 1
  | .ior => 1
  | .ixor => 1
  | .ishl => 1
  | .ishr => 1
  | .ineg => 1
  | .ladd => 1
  | .lsub => 1
  | .land => 1
  | .lor => 1
  | .lxor => 1
  | .lshl => 1
  | .lshr => 1
  | .lcmp => 1
  | .l2i => 1
  | .i2l => 1
  | .dup => 1
  | .pop => 1
  | .dup2 => 1
  | .dup_x1 => 1
  | .goto _ => 3
  | .getfield _ => 3
  | .putfield _ => 3
  | _ => 0
def za_s1 (fl : List (Nat × Nat × Nat)) (nL pc : Nat) (i : Instr) (lv : List (Nat × za_V)) (st : List za_V) (vw : List (Nat × za_C)) : Option (Nat × List (Nat × za_V) × List za_V × List (Nat × za_C)) := match i with
  | .iconst k0 => some (pc + 1, lv, vI (Int32.ofInt k0) :: st, vw)
  | .bipush k0 => some (pc + 2, lv, vI (Int8.ofInt k0).toInt32 :: st, vw)
  | .sipush k0 => some (pc + 3, lv, vI (Int16.ofInt k0).toInt32 :: st, vw)
  | .lconst k0 => some (pc + 1, lv, vL (Int64.ofNat k0.val) :: st, vw)
  | .aconst_null => some (pc + 1, lv, vN :: st, vw)
  | .iload_n k0 => (match za_lg lv k0.val with | some (.inl x) => some (pc + 1, lv, vI x :: st, vw) | _ => none)
  | .iload k0 => (match za_lg lv k0 with | some (.inl x) => some (pc + 2, lv, vI x :: st, vw) | _ => none)
  | .lload_n k0 => (match za_lg lv k0.val with | some (.inr (.inl x)) => some (pc + 1, lv, vL x :: st, vw) | _ => none)
  | .lload k0 => (match za_lg lv k0 with | some (.inr (.inl x)) => some (pc + 2, lv, vL x :: st, vw) | _ => none)
  | .aload_n k0 => (match za_lg lv k0.val with | some (.inr (.inr x)) => some (pc + 1, lv, .inr (.inr x) :: st, vw) | _ => none)
  | .aload k0 => (match za_lg lv k0 with | some (.inr (.inr x)) => some (pc + 2, lv, .inr (.inr x) :: st, vw) | _ => none)
  | .istore_n k0 => (match st with | .inl x :: r => bif Nat.blt k0.val nL then some (pc + 1, (k0.val, vI x) :: za_lf lv k0.val, r, vw) else none | _ => none)
  | .istore k0 => (match st with | .inl x :: r => bif Nat.blt k0 nL then some (pc + 2, (k0, vI x) :: za_lf lv k0, r, vw) else none | _ => none)
  | .astore_n k0 => (match st with | .inr (.inr x) :: r => bif Nat.blt k0.val nL then some (pc + 1, (k0.val, .inr (.inr x)) :: za_lf lv k0.val, r, vw) else none | _ => none)
  | .astore k0 => (match st with | .inr (.inr x) :: r => bif Nat.blt k0 nL then some (pc + 2, (k0, .inr (.inr x)) :: za_lf lv k0, r, vw) else none | _ => none)
  | .iinc k0 d0 => (match za_lg lv k0 with | some (.inl x) => bif Nat.blt k0 nL then some (pc + 3, (k0, vI (x + Int32.ofInt d0)) :: za_lf lv k0, st, vw) else none | _ => none)
  | .iadd => (match st with | .inl y :: .inl x :: r => some (pc + 1, lv, vI (x + y) :: r, vw) | _ => none)
  | .isub => (match st with | .inl y :: .inl x :: r => some (pc + 1, lv, vI (x - y) :: r, vw) | _ => none)
  | .imul => (match st with | .inl y :: .inl x :: r => some (pc + 1, lv, vI (x * y) :: r, vw) | _ => none)
  | .iand => (match st with | .inl y :: .inl x :: r => some (pc + 1, lv, vI (x &&& y) :: r, vw) | _ => none)
  | .ior => (match st with | .inl y :: .inl x :: r => some (pc + 1, lv, vI (x ||| y) :: r, vw) | _ => none)
  | .ixor => (match st with | .inl y :: .inl x :: r => some (pc + 1, lv, vI (x ^^^ y) :: r, vw) | _ => none)
  | .ishl => (match st with | .inl y :: .inl x :: r => some (pc + 1, lv, vI (x <<< (y &&& 31)) :: r, vw) | _ => none)
  | .ishr => (match st with | .inl y :: .inl x :: r => some (pc + 1, lv, vI (x >>> (y &&& 31)) :: r, vw) | _ => none)
  | .ineg => (match st with | .inl x :: r => some (pc + 1, lv, vI (-x) :: r, vw) | _ => none)
  | .ladd => (match st with | .inr (.inl y) :: .inr (.inl x) :: r => some (pc + 1, lv, vL (x + y) :: r, vw) | _ => none)
  | .lsub => (match st with | .inr (.inl y) :: .inr (.inl x) :: r => some (pc + 1, lv, vL (x - y) :: r, vw) | _ => none)
  | .land => (match st with | .inr (.inl y) :: .inr (.inl x) :: r => some (pc + 1, lv, vL (x &&& y) :: r, vw) | _ => none)
  | .lor => (match st with | .inr (.inl y) :: .inr (.inl x) :: r => some (pc + 1, lv, vL (x ||| y) :: r, vw) | _ => none)
  | .lxor => (match st with | .inr (.inl y) :: .inr (.inl x) :: r => some (pc + 1, lv, vL (x ^^^ y) :: r, vw) | _ => none)
  | .lshl => (match st with | .inl y :: .inr (.inl x) :: r => some (pc + 1, lv, vL (x <<< (y.toInt64 &&& 63)) :: r, vw) | _ => none)
  | .lshr => (match st with | .inl y :: .inr (.inl x) :: r => some (pc + 1, lv, vL (x >>> (y.toInt64 &&& 63)) :: r, vw) | _ => none)
  | .lcmp => (match st with | .inr (.inl y) :: .inr (.inl x) :: r => some (pc + 1, lv, vI (lg_cmp x y) :: r, vw) | _ => none)
  | .l2i => (match st with | .inr (.inl x) :: r => some (pc + 1, lv, vI x.toInt32 :: r, vw) | _ => none)
  | .i2l => (match st with | .inl x :: r => some (pc + 1, lv, vL x.toInt64 :: r, vw) | _ => none)
  | .dup => (match st with | x :: r => bif za_c2 x then none else some (pc + 1, lv, x :: x :: r, vw) | _ => none)
  | .pop => (match st with | x :: r => bif za_c2 x then none else some (pc + 1, lv, r, vw) | _ => none)
  | .dup2 => (match st with | x :: y :: r => bif (za_c2 x || za_c2 y) then none else some (pc + 1, lv, x :: y :: x :: y :: r, vw) | _ => none)
  | .dup_x1 => (match st with | x :: y :: r => bif (za_c2 x || za_c2 y) then none else some (pc + 1, lv, x :: y :: x :: r, vw) | _ => none)
  | .goto d0 => (match (pc : Int) + d0 with | .ofNat t => some (t, lv, st, vw) | _ => none)
  | .getfield k0 => (match st with | .inr (.inr (some i)) :: r => (match za_vg vw i with | some cl => (match za_gc fl k0 cl with | some v => some (pc + 3, lv, v :: r, vw) | none => none) | none => none) | _ => none)
  | .putfield k0 => (match st with | v :: .inr (.inr (some i)) :: r => (match za_vg vw i with | some cl => (match za_pf fl k0 cl v with | some cl' => some (pc + 3, lv, r, za_vs vw i cl') | none => none) | none => none) | _ => none)
  | _ => none
section ZAROWS
variable {p : Program} {l : Launch} {e : Env} {R : Room} {s : State} {m : MethodId} {args : Array Value} {below : List Frame} {meth : Method} {c : Code} {D : za_D} {nL : Nat} {Q : State → Prop} {h0 : za_H} {n cells slots pc : Nat} {lv : List (Nat × za_V)} {st : List za_V} {vw : List (Nat × za_C)} {own : String} {cc : ByteArray} {cd : List (Nat × Instr × Nat)} {fl : List (Nat × Nat × Nat)} {ret : Option FieldType}
theorem za_P1 {D : va_G} {cl : List vw_C} {q : Nat × va_E} {H : Heap} (h : va_at D cl q H) : va_P D cl [q] H := by
  intro k x hx
  have hz : k < 1 := (List.getElem?_eq_some_iff.mp hx).1
  rw [show k = 0 by omega] at hx
  cases hx
  exact h
theorem za_getW (X : za_X p s m args meth c D own cc cd fl nL ret) {h : za_H} {H : Heap} {locs : List Loc} {ls : Array Slot} {rest : List Value} (hR : za_Rp D h n H) {i ci k idx : Nat} {fs : List za_V} {v : za_V} (hi : h i = some (.inr (ci, fs))) (hfl : (idx, ci, k) ∈ fl) (hv : fs[k]? = some v) (hd : decode cc pc = .ok (.getfield idx, 3))
    (kk : W p l e R s m args below meth c H locs cells slots Q (F0 m (pc + 3) ls (za_cv D.2.2 v :: rest))) : W p l e R s m args below meth c H locs cells slots Q (F0 m pc ls (.ref (D.2.2 + i) :: rest)) := by
  obtain ⟨hx, hb, hml, hown, hts, hK, hcd, hF, hr, hlocks, hz⟩ := X
  obtain ⟨C, T, N, hc, hk, hC, hlk⟩ := hF _ hfl
  have hok := za_cok _ _ _ _ hc
  have hP : va_P D.1 za_cl [(D.2.2 + i, .inr (ci, fs.map (za_cv D.2.2)))] H := za_P1 (hR.2.1 i _ hi)
  have hv' : (fs.map (za_cv D.2.2))[k]? = some (za_cv D.2.2 v) := by rw [List.getElem?_map, hv]; rfl
  rcases hlk with hlk | ⟨host, hlk⟩
  · exact va_get (ref := C) hx hb hts hok.1 hown hK hP 0 rfl hc k hk (hts _ hlk) (fun x h => by rw [hC] at h; exact h) hv' hd kk
  · exact va_getN (ref := C) hx hb hts hok.1 hown hK hP 0 rfl hc k hk (hts _ hlk) (fun x h => by rw [hC] at h; exact h) hv' hd kk
theorem za_putW (X : za_X p s m args meth c D own cc cd fl nL ret) {h : za_H} {H : Heap} {locs : List Loc} {ls : Array Slot} {rest : List Value} (hR : za_Rp D h n H) (hS : va_S (fun q : Nat => D.2.2 ≤ q) s.heap H locs) {i ci k idx : Nat} {fs : List za_V} {v : za_V} (hi : h i = some (.inr (ci, fs))) (hfl : (idx, ci, k) ∈ fl) (hv : za_okf (za_fty ci k) v = true) (hfin : za_fin ci k = false) (hl : k < fs.length) (hd : decode cc pc = .ok (.putfield idx, 3))
    (kk : ∀ (H1 : Heap) (locs1 : List Loc), za_Rp D (za_set h i (.inr (ci, fs.set k v))) n H1 → va_S (fun q : Nat => D.2.2 ≤ q) s.heap H1 locs1 → W p l e R s m args below meth c H1 locs1 cells slots Q (F0 m (pc + 3) ls rest)) : W p l e R s m args below meth c H locs cells slots Q (F0 m pc ls (za_cv D.2.2 v :: .ref (D.2.2 + i) :: rest)) := by
  obtain ⟨hx, hb, hml, hown, hts, hK, hcd, hF, hr, hlocks, hz⟩ := X
  obtain ⟨C, T, N, hc, hk, hC, hlk⟩ := hF _ hfl
  dsimp only at hc hk hC hlk
  obtain ⟨hin, hty, hnm, hfn⟩ := za_cok _ _ _ _ hc
  have hap := va_apart (own := own) hts hin (za_fty ci) hty hnm hK hc
  have hat : ∃ r : vw_C, za_cl[ci]? = some r ∧ t_OB (D.2.2 + i) (D.1.1 ci) r.2.2 (D.1.2 ci) H (vp_V (fs.map (za_cv D.2.2))) := hR.2.1 i _ hi
  obtain ⟨r, h1, cell, q1, q2, q3, q4⟩ := hat
  have hr' : r = (C, T, N) := Option.some.inj (h1.symm.trans hc)
  subst hr'
  obtain ⟨hSl, hfc, kC, hkC, hkind⟩ := hK.1 ci _ hc
  obtain ⟨cf, kf, fi, f, hif, hsl⟩ := hSl k hk
  have hlay := hts _ (hin _ (u_in_lay hk))
  unfold u_lay at hlay
  rw [if_neg (by rw [hfn k hk, hfin]; decide)] at hlay
  have hst := (u_facts hfc hkC (u_lays hts hin hk) hif).1
  obtain ⟨hn1, hn2⟩ := za_okf_ok hv D.2.2
  have h6 := u_store hfc hkC hkind hlay hif (hty k hk) hn1 hn2
  have hif' : s.fieldFound? C (T k).2.1 (T k).2.2.1 = some (cf, kf, fi, f) := by rw [hC] at hif; exact hif
  have hl' : k < (fs.map (za_cv D.2.2)).length := by rw [List.length_map]; exact hl
  have fin : ∀ H' : Heap, H'[D.2.2 + i]? = some (cell.setSlot f.slot (za_cv D.2.2 v)) → H'.size = H.size → (∀ q, q ≠ D.2.2 + i → H'[q]? = H[q]?) → W p l e R s m args below meth c H' (locs ++ [⟨D.2.2 + i, f.slot⟩]) cells slots Q (F0 m (pc + 3) ls rest) := by
    intro H' e1 e2 e3
    rw [hsl] at e1
    refine kk H' _ (hR.set e2 ?_ e3) (hS.put e2 e3 (Nat.le_add_right _ _))
    have g : t_OB (D.2.2 + i) (D.1.1 ci) N (D.1.2 ci) H' (vp_V ((fs.set k v).map (za_cv D.2.2))) := by
      rw [List.map_set]
      exact t_OB.to (V := updV (vp_V (fs.map (za_cv D.2.2))) k (za_cv D.2.2 v)) ⟨_, e1, q2, q3, t_set q4 hap hk (za_cv D.2.2 v)⟩ (fun j _ => vp_updV_set hl' (za_cv D.2.2 v) j)
    exact ⟨_, hc, g⟩
  rcases hlk with hlk | ⟨host, hlk⟩
  · exact W.putK hx hb (f := f) ⟨hown, hts _ hlk, ⟨_, _, _, hif'⟩, hst⟩ (by rw [q2]; exact h6) q1 q3 (by rw [hsl]; exact k2_hasslot (q4 k hk)) rfl rfl hd fin
  · exact va_WputK hx hb (f := f) hown (hts _ hlk) hif' hst (by rw [q2]; exact h6) q1 q3 (by rw [hsl]; exact k2_hasslot (q4 k hk)) rfl rfl hd fin
end ZAROWS

set_option maxHeartbeats 4000000 in
set_option maxRecDepth 100000 in
/-- ONE STEP of the plain instructions -/
theorem za_step {p : Program} {l : Launch} {e : Env} {R : Room} {s : State} {m : MethodId} {args : Array Value} {below : List Frame} {meth : Method} {c : Code} {D : za_D} {nL : Nat} {Q : State → Prop} {h0 : za_H} {n cells slots pc : Nat} {lv : List (Nat × za_V)} {st : List za_V} {vw : List (Nat × za_C)} {own : String} {cc : ByteArray} {cd : List (Nat × Instr × Nat)} {fl : List (Nat × Nat × Nat)} {ret : Option FieldType} (X : za_X p s m args meth c D own cc cd fl nL ret) {i : Instr} {len : Nat} (hf : za_fe cd pc = some (i, len)) (hln : Nat.beq len (za_ln i) = true) {pc' : Nat} {lv' : List (Nat × za_V)} {st' : List za_V} {vw' : List (Nat × za_C)} (hs : za_s1 fl nL pc i lv st vw = some (pc', lv', st', vw'))
    (k : za_W p l e R s m args below meth c D nL Q h0 n cells slots pc' lv' st' vw') : za_W p l e R s m args below meth c D nL Q h0 n cells slots pc lv st vw := by
  intro H locs ls hR hS hl
  obtain ⟨hx, hb, hml, hown, hts, hK, hcd, hF, hr, hlocks, hz⟩ := id X
  have hd := za_fe_ok hcd hf
  have hle := Nat.eq_of_beq_eq_true hln
  subst hle
  cases i with
  | iconst k0 =>
    have hs2 : some (pc + 1, lv, vI (Int32.ofInt k0) :: st, vw) = some (pc', lv', st', vw') := hs
    cases hs2
    exact lv_iconst hx hb hd rfl (k H locs ls hR hS hl)
  | bipush k0 =>
    have hs2 : some (pc + 2, lv, vI (Int8.ofInt k0).toInt32 :: st, vw) = some (pc', lv', st', vw') := hs
    cases hs2
    exact lv_bipush hx hb hd rfl (k H locs ls hR hS hl)
  | sipush k0 =>
    have hs2 : some (pc + 3, lv, vI (Int16.ofInt k0).toInt32 :: st, vw) = some (pc', lv', st', vw') := hs
    cases hs2
    exact lv_sipush hx hb hd rfl (k H locs ls hR hS hl)
  | lconst k0 =>
    have hs2 : some (pc + 1, lv, vL (Int64.ofNat k0.val) :: st, vw) = some (pc', lv', st', vw') := hs
    cases hs2
    exact lv_lconst hx hb hd rfl (k H locs ls hR hS hl)
  | aconst_null =>
    have hs2 : some (pc + 1, lv, vN :: st, vw) = some (pc', lv', st', vw') := hs
    cases hs2
    exact lv_null hx hb hd (k H locs ls hR hS hl)
  | iload_n k0 =>
    have hs2 : (match (generalizing := false) za_lg lv k0.val with | some (.inl x) => some (pc + 1, lv, vI x :: st, vw) | _ => none) = some (pc', lv', st', vw') := hs
    split at hs2
    · rename_i x he
      cases hs2
      exact lv_iload_n hx hb hd rfl (za_lm_at hl he) (k H locs ls hR hS hl)
    · cases hs2
  | iload k0 =>
    have hs2 : (match (generalizing := false) za_lg lv k0 with | some (.inl x) => some (pc + 2, lv, vI x :: st, vw) | _ => none) = some (pc', lv', st', vw') := hs
    split at hs2
    · rename_i x he
      cases hs2
      exact lv_iload hx hb hd (za_lm_at hl he) (k H locs ls hR hS hl)
    · cases hs2
  | lload_n k0 =>
    have hs2 : (match (generalizing := false) za_lg lv k0.val with | some (.inr (.inl x)) => some (pc + 1, lv, vL x :: st, vw) | _ => none) = some (pc', lv', st', vw') := hs
    split at hs2
    · rename_i x he
      cases hs2
      exact lv_lload_n hx hb hd rfl (za_lm_at hl he) (k H locs ls hR hS hl)
    · cases hs2
  | lload k0 =>
    have hs2 : (match (generalizing := false) za_lg lv k0 with | some (.inr (.inl x)) => some (pc + 2, lv, vL x :: st, vw) | _ => none) = some (pc', lv', st', vw') := hs
    split at hs2
    · rename_i x he
      cases hs2
      exact lv_lload hx hb hd (za_lm_at hl he) (k H locs ls hR hS hl)
    · cases hs2
  | aload_n k0 =>
    have hs2 : (match (generalizing := false) za_lg lv k0.val with | some (.inr (.inr x)) => some (pc + 1, lv, .inr (.inr x) :: st, vw) | _ => none) = some (pc', lv', st', vw') := hs
    split at hs2
    · rename_i x he
      cases hs2
      rcases x with _ | x
      · exact lv_aload_nN hx hb hd rfl (za_lm_at hl he) (k H locs ls hR hS hl)
      · exact lv_aload_n hx hb hd rfl (za_lm_at hl he) (k H locs ls hR hS hl)
    · cases hs2
  | aload k0 =>
    have hs2 : (match (generalizing := false) za_lg lv k0 with | some (.inr (.inr x)) => some (pc + 2, lv, .inr (.inr x) :: st, vw) | _ => none) = some (pc', lv', st', vw') := hs
    split at hs2
    · rename_i x he
      cases hs2
      rcases x with _ | x
      · exact lv_aloadN hx hb hd (za_lm_at hl he) (k H locs ls hR hS hl)
      · exact lv_aload hx hb hd (za_lm_at hl he) (k H locs ls hR hS hl)
    · cases hs2
  | istore_n k0 =>
    have hs2 : (match (generalizing := false) st with | .inl x :: r => bif Nat.blt k0.val nL then some (pc + 1, (k0.val, vI x) :: za_lf lv k0.val, r, vw) else none | _ => none) = some (pc', lv', st', vw') := hs
    split at hs2
    · rename_i x r
      cases hbn : Nat.blt k0.val nL with
      | false => rw [hbn] at hs2; cases hs2
      | true =>
        rw [hbn] at hs2
        cases hs2
        have hn : k0.val < nL := by simpa using hbn
        exact lv_istore_n hx hb hd rfl hl hn rfl (fun ls' hl' => k H locs ls' hR hS (za_lh_sub hl' za_lm_st))
    · cases hs2
  | istore k0 =>
    have hs2 : (match (generalizing := false) st with | .inl x :: r => bif Nat.blt k0 nL then some (pc + 2, (k0, vI x) :: za_lf lv k0, r, vw) else none | _ => none) = some (pc', lv', st', vw') := hs
    split at hs2
    · rename_i x r
      cases hbn : Nat.blt k0 nL with
      | false => rw [hbn] at hs2; cases hs2
      | true =>
        rw [hbn] at hs2
        cases hs2
        have hn : k0 < nL := by simpa using hbn
        exact lv_istore hx hb hd hl hn rfl (fun ls' hl' => k H locs ls' hR hS (za_lh_sub hl' za_lm_st))
    · cases hs2
  | astore_n k0 =>
    have hs2 : (match (generalizing := false) st with | .inr (.inr x) :: r => bif Nat.blt k0.val nL then some (pc + 1, (k0.val, .inr (.inr x)) :: za_lf lv k0.val, r, vw) else none | _ => none) = some (pc', lv', st', vw') := hs
    split at hs2
    · rename_i x r
      cases hbn : Nat.blt k0.val nL with
      | false => rw [hbn] at hs2; cases hs2
      | true =>
        rw [hbn] at hs2
        cases hs2
        have hn : k0.val < nL := by simpa using hbn
        rcases x with _ | x
        · exact lv_astore_nN hx hb hd rfl hl hn rfl (fun ls' hl' => k H locs ls' hR hS (za_lh_sub hl' za_lm_st))
        · exact lv_astore_n hx hb hd rfl hl hn rfl (fun ls' hl' => k H locs ls' hR hS (za_lh_sub hl' za_lm_st))
    · cases hs2
  | astore k0 =>
    have hs2 : (match (generalizing := false) st with | .inr (.inr x) :: r => bif Nat.blt k0 nL then some (pc + 2, (k0, .inr (.inr x)) :: za_lf lv k0, r, vw) else none | _ => none) = some (pc', lv', st', vw') := hs
    split at hs2
    · rename_i x r
      cases hbn : Nat.blt k0 nL with
      | false => rw [hbn] at hs2; cases hs2
      | true =>
        rw [hbn] at hs2
        cases hs2
        have hn : k0 < nL := by simpa using hbn
        rcases x with _ | x
        · exact lv_astoreN hx hb hd hl hn rfl (fun ls' hl' => k H locs ls' hR hS (za_lh_sub hl' za_lm_st))
        · exact lv_astore hx hb hd hl hn rfl (fun ls' hl' => k H locs ls' hR hS (za_lh_sub hl' za_lm_st))
    · cases hs2
  | iinc k0 d0 =>
    have hs2 : (match (generalizing := false) za_lg lv k0 with | some (.inl x) => bif Nat.blt k0 nL then some (pc + 3, (k0, vI (x + Int32.ofInt d0)) :: za_lf lv k0, st, vw) else none | _ => none) = some (pc', lv', st', vw') := hs
    split at hs2
    · rename_i x he
      cases hbn : Nat.blt k0 nL with
      | false => rw [hbn] at hs2; cases hs2
      | true =>
        rw [hbn] at hs2
        cases hs2
        have hn : k0 < nL := by simpa using hbn
        obtain ⟨j, hj⟩ := List.getElem?_of_mem (show (k0, Value.int x) ∈ za_lm D.2.2 lv from List.mem_map.mpr ⟨(k0, vI x), za_lg_mem he, rfl⟩)
        exact lv_iinc hx hb hd hl hj rfl hn rfl (fun ls' hl' => k H locs ls' hR hS (za_lh_sub hl' za_lm_st))
    · cases hs2
  | iadd =>
    have hs2 : (match (generalizing := false) st with | .inl y :: .inl x :: r => some (pc + 1, lv, vI (x + y) :: r, vw) | _ => none) = some (pc', lv', st', vw') := hs
    split at hs2
    · rename_i y x r
      cases hs2
      exact lv_iadd hx hb hd (k H locs ls hR hS hl)
    · cases hs2
  | isub =>
    have hs2 : (match (generalizing := false) st with | .inl y :: .inl x :: r => some (pc + 1, lv, vI (x - y) :: r, vw) | _ => none) = some (pc', lv', st', vw') := hs
    split at hs2
    · rename_i y x r
      cases hs2
      exact lv_isub hx hb hd (k H locs ls hR hS hl)
    · cases hs2
  | imul =>
    have hs2 : (match (generalizing := false) st with | .inl y :: .inl x :: r => some (pc + 1, lv, vI (x * y) :: r, vw) | _ => none) = some (pc', lv', st', vw') := hs
    split at hs2
    · rename_i y x r
      cases hs2
      exact lv_imul hx hb hd (k H locs ls hR hS hl)
    · cases hs2
  | iand =>
    have hs2 : (match (generalizing := false) st with | .inl y :: .inl x :: r => some (pc + 1, lv, vI (x &&& y) :: r, vw) | _ => none) = some (pc', lv', st', vw') := hs
    split at hs2
    · rename_i y x r
      cases hs2
      exact lv_iand hx hb hd (k H locs ls hR hS hl)
    · cases hs2
  | ior =>
    have hs2 : (match (generalizing := false) st with | .inl y :: .inl x :: r => some (pc + 1, lv, vI (x ||| y) :: r, vw) | _ => none) = some (pc', lv', st', vw') := hs
    split at hs2
    · rename_i y x r
      cases hs2
      exact lv_ior hx hb hd (k H locs ls hR hS hl)
    · cases hs2
  | ixor =>
    have hs2 : (match (generalizing := false) st with | .inl y :: .inl x :: r => some (pc + 1, lv, vI (x ^^^ y) :: r, vw) | _ => none) = some (pc', lv', st', vw') := hs
    split at hs2
    · rename_i y x r
      cases hs2
      exact lv_ixor hx hb hd (k H locs ls hR hS hl)
    · cases hs2
  | ishl =>
    have hs2 : (match (generalizing := false) st with | .inl y :: .inl x :: r => some (pc + 1, lv, vI (x <<< (y &&& 31)) :: r, vw) | _ => none) = some (pc', lv', st', vw') := hs
    split at hs2
    · rename_i y x r
      cases hs2
      exact lv_ishl hx hb hd (k H locs ls hR hS hl)
    · cases hs2
  | ishr =>
    have hs2 : (match (generalizing := false) st with | .inl y :: .inl x :: r => some (pc + 1, lv, vI (x >>> (y &&& 31)) :: r, vw) | _ => none) = some (pc', lv', st', vw') := hs
    split at hs2
    · rename_i y x r
      cases hs2
      exact lv_ishr hx hb hd (k H locs ls hR hS hl)
    · cases hs2
  | ineg =>
    have hs2 : (match (generalizing := false) st with | .inl x :: r => some (pc + 1, lv, vI (-x) :: r, vw) | _ => none) = some (pc', lv', st', vw') := hs
    split at hs2
    · rename_i x r
      cases hs2
      exact lv_ineg hx hb hd (k H locs ls hR hS hl)
    · cases hs2
  | ladd =>
    have hs2 : (match (generalizing := false) st with | .inr (.inl y) :: .inr (.inl x) :: r => some (pc + 1, lv, vL (x + y) :: r, vw) | _ => none) = some (pc', lv', st', vw') := hs
    split at hs2
    · rename_i y x r
      cases hs2
      exact lv_ladd hx hb hd (k H locs ls hR hS hl)
    · cases hs2
  | lsub =>
    have hs2 : (match (generalizing := false) st with | .inr (.inl y) :: .inr (.inl x) :: r => some (pc + 1, lv, vL (x - y) :: r, vw) | _ => none) = some (pc', lv', st', vw') := hs
    split at hs2
    · rename_i y x r
      cases hs2
      exact lv_lsub hx hb hd (k H locs ls hR hS hl)
    · cases hs2
  | land =>
    have hs2 : (match (generalizing := false) st with | .inr (.inl y) :: .inr (.inl x) :: r => some (pc + 1, lv, vL (x &&& y) :: r, vw) | _ => none) = some (pc', lv', st', vw') := hs
    split at hs2
    · rename_i y x r
      cases hs2
      exact lv_land hx hb hd (k H locs ls hR hS hl)
    · cases hs2
  | lor =>
    have hs2 : (match (generalizing := false) st with | .inr (.inl y) :: .inr (.inl x) :: r => some (pc + 1, lv, vL (x ||| y) :: r, vw) | _ => none) = some (pc', lv', st', vw') := hs
    split at hs2
    · rename_i y x r
      cases hs2
      exact lv_lor hx hb hd (k H locs ls hR hS hl)
    · cases hs2
  | lxor =>
    have hs2 : (match (generalizing := false) st with | .inr (.inl y) :: .inr (.inl x) :: r => some (pc + 1, lv, vL (x ^^^ y) :: r, vw) | _ => none) = some (pc', lv', st', vw') := hs
    split at hs2
    · rename_i y x r
      cases hs2
      exact lv_lxor hx hb hd (k H locs ls hR hS hl)
    · cases hs2
  | lshl =>
    have hs2 : (match (generalizing := false) st with | .inl y :: .inr (.inl x) :: r => some (pc + 1, lv, vL (x <<< (y.toInt64 &&& 63)) :: r, vw) | _ => none) = some (pc', lv', st', vw') := hs
    split at hs2
    · rename_i y x r
      cases hs2
      exact lv_lshl hx hb hd rfl (k H locs ls hR hS hl)
    · cases hs2
  | lshr =>
    have hs2 : (match (generalizing := false) st with | .inl y :: .inr (.inl x) :: r => some (pc + 1, lv, vL (x >>> (y.toInt64 &&& 63)) :: r, vw) | _ => none) = some (pc', lv', st', vw') := hs
    split at hs2
    · rename_i y x r
      cases hs2
      exact lv_lshr hx hb hd rfl (k H locs ls hR hS hl)
    · cases hs2
  | lcmp =>
    have hs2 : (match (generalizing := false) st with | .inr (.inl y) :: .inr (.inl x) :: r => some (pc + 1, lv, vI (lg_cmp x y) :: r, vw) | _ => none) = some (pc', lv', st', vw') := hs
    split at hs2
    · rename_i y x r
      cases hs2
      exact W.lcmp hx hb hd (k H locs ls hR hS hl)
    · cases hs2
  | l2i =>
    have hs2 : (match (generalizing := false) st with | .inr (.inl x) :: r => some (pc + 1, lv, vI x.toInt32 :: r, vw) | _ => none) = some (pc', lv', st', vw') := hs
    split at hs2
    · rename_i x r
      cases hs2
      exact lv_l2i hx hb hd rfl (k H locs ls hR hS hl)
    · cases hs2
  | i2l =>
    have hs2 : (match (generalizing := false) st with | .inl x :: r => some (pc + 1, lv, vL x.toInt64 :: r, vw) | _ => none) = some (pc', lv', st', vw') := hs
    split at hs2
    · rename_i x r
      cases hs2
      exact lv_i2l hx hb hd rfl (k H locs ls hR hS hl)
    · cases hs2
  | dup =>
    have hs2 : (match (generalizing := false) st with | x :: r => bif za_c2 x then none else some (pc + 1, lv, x :: x :: r, vw) | _ => none) = some (pc', lv', st', vw') := hs
    split at hs2
    · rename_i x r
      cases hc : za_c2 x with
      | true => rw [hc] at hs2; cases hs2
      | false =>
        rw [hc] at hs2
        cases hs2
        exact lv_dup hx hb hd (za_cat1 hc) (k H locs ls hR hS hl)
    · cases hs2
  | pop =>
    have hs2 : (match (generalizing := false) st with | x :: r => bif za_c2 x then none else some (pc + 1, lv, r, vw) | _ => none) = some (pc', lv', st', vw') := hs
    split at hs2
    · rename_i x r
      cases hc : za_c2 x with
      | true => rw [hc] at hs2; cases hs2
      | false =>
        rw [hc] at hs2
        cases hs2
        exact lv_pop hx hb hd (za_cat1 hc) (k H locs ls hR hS hl)
    · cases hs2
  | dup2 =>
    have hs2 : (match (generalizing := false) st with | x :: y :: r => bif (za_c2 x || za_c2 y) then none else some (pc + 1, lv, x :: y :: x :: y :: r, vw) | _ => none) = some (pc', lv', st', vw') := hs
    split at hs2
    · rename_i x y r
      cases hc : (za_c2 x || za_c2 y) with
      | true => rw [hc] at hs2; cases hs2
      | false =>
        rw [hc] at hs2
        cases hs2
        rw [Bool.or_eq_false_iff] at hc
        exact lv_dup2_11 hx hb hd (za_cat1 hc.1) (za_cat1 hc.2) (k H locs ls hR hS hl)
    · cases hs2
  | dup_x1 =>
    have hs2 : (match (generalizing := false) st with | x :: y :: r => bif (za_c2 x || za_c2 y) then none else some (pc + 1, lv, x :: y :: x :: r, vw) | _ => none) = some (pc', lv', st', vw') := hs
    split at hs2
    · rename_i x y r
      cases hc : (za_c2 x || za_c2 y) with
      | true => rw [hc] at hs2; cases hs2
      | false =>
        rw [hc] at hs2
        cases hs2
        rw [Bool.or_eq_false_iff] at hc
        exact lv_dup_x1 hx hb hd (za_cat1 hc.1) (za_cat1 hc.2) (k H locs ls hR hS hl)
    · cases hs2
  | goto d0 =>
    have hs2 : (match (generalizing := false) (pc : Int) + d0 with | .ofNat t => some (t, lv, st, vw) | _ => none) = some (pc', lv', st', vw') := hs
    split at hs2
    · rename_i t he
      cases hs2
      exact lv_goto hx hb hd he (k H locs ls hR hS hl)
    · cases hs2
  | getfield k0 =>
    have hs2 : (match (generalizing := false) st with | .inr (.inr (some i)) :: r => (match (generalizing := false) za_vg vw i with | some cl => (match (generalizing := false) za_gc fl k0 cl with | some v => some (pc + 3, lv, v :: r, vw) | none => none) | none => none) | _ => none) = some (pc', lv', st', vw') := hs
    split at hs2
    · rename_i j r
      split at hs2
      · rename_i cl hcl
        split at hs2
        · rename_i v hv
          cases hs2
          obtain ⟨ci, k1, fs, rfl, h1, h2⟩ := za_gc_ok hv
          exact za_getW X hR (za_ov_at hcl) h1 h2 hd (k H locs ls hR hS hl)
        · cases hs2
      · cases hs2
    · cases hs2
  | putfield k0 =>
    have hs2 : (match (generalizing := false) st with | v :: .inr (.inr (some i)) :: r => (match (generalizing := false) za_vg vw i with | some cl => (match (generalizing := false) za_pf fl k0 cl v with | some cl' => some (pc + 3, lv, r, za_vs vw i cl') | none => none) | none => none) | _ => none) = some (pc', lv', st', vw') := hs
    split at hs2
    · rename_i v j r
      split at hs2
      · rename_i cl hcl
        split at hs2
        · rename_i cl' hv
          cases hs2
          obtain ⟨ci, k1, fs, rfl, h1, h2, h3, h4, rfl⟩ := za_pf_ok hv
          exact za_putW X hR hS (za_ov_at hcl) h1 h2 h3 h4 hd (fun H1 locs1 hR1 hS1 => k H1 locs1 ls (by rw [za_ov_vs]; exact hR1) hS1 hl)
        · cases hs2
      · cases hs2
    · cases hs2
  | _ => cases hs
section ZABR
variable {p : Program} {l : Launch} {e : Env} {R : Room} {s : State} {m : MethodId} {args : Array Value} {below : List Frame} {meth : Method} {c : Code} {D : za_D} {nL : Nat} {Q : State → Prop} {h0 : za_H} {n cells slots pc : Nat} {lv : List (Nat × za_V)} {st : List za_V} {vw : List (Nat × za_C)} {own : String} {cc : ByteArray} {cd : List (Nat × Instr × Nat)} {fl : List (Nat × Nat × Nat)} {ret : Option FieldType}
theorem za_ifeq (X : za_X p s m args meth c D own cc cd fl nL ret) {x : Int32} {off : Int} (tgt : Nat) (hf : za_fe cd pc = some (.ifCond .eq off, 3)) (ht : (pc : Int) + off = (tgt : Int)) (kt : x = 0 → za_W p l e R s m args below meth c D nL Q h0 n cells slots tgt lv st vw) (kf : ¬ (x = 0) → za_W p l e R s m args below meth c D nL Q h0 n cells slots (pc + 3) lv st vw) : za_W p l e R s m args below meth c D nL Q h0 n cells slots pc lv (.inl x :: st) vw := by
  intro H locs ls hR hS hl
  exact lv_if_eq X.1 X.2.1 (za_fe_ok X.2.2.2.2.2.2.1 hf) ht (fun q => kt (by first | exact q | simpa using q) H locs ls hR hS hl) (fun q => kf (by first | exact q | simpa using q) H locs ls hR hS hl)
theorem za_ifne (X : za_X p s m args meth c D own cc cd fl nL ret) {x : Int32} {off : Int} (tgt : Nat) (hf : za_fe cd pc = some (.ifCond .ne off, 3)) (ht : (pc : Int) + off = (tgt : Int)) (kt : ¬ x = 0 → za_W p l e R s m args below meth c D nL Q h0 n cells slots tgt lv st vw) (kf : x = 0 → za_W p l e R s m args below meth c D nL Q h0 n cells slots (pc + 3) lv st vw) : za_W p l e R s m args below meth c D nL Q h0 n cells slots pc lv (.inl x :: st) vw := by
  intro H locs ls hR hS hl
  exact lv_if_ne X.1 X.2.1 (za_fe_ok X.2.2.2.2.2.2.1 hf) ht (fun q => kt (by first | exact q | simpa using q) H locs ls hR hS hl) (fun q => kf (by first | exact q | simpa using q) H locs ls hR hS hl)
theorem za_iflt (X : za_X p s m args meth c D own cc cd fl nL ret) {x : Int32} {off : Int} (tgt : Nat) (hf : za_fe cd pc = some (.ifCond .lt off, 3)) (ht : (pc : Int) + off = (tgt : Int)) (kt : x < 0 → za_W p l e R s m args below meth c D nL Q h0 n cells slots tgt lv st vw) (kf : ¬ (x < 0) → za_W p l e R s m args below meth c D nL Q h0 n cells slots (pc + 3) lv st vw) : za_W p l e R s m args below meth c D nL Q h0 n cells slots pc lv (.inl x :: st) vw := by
  intro H locs ls hR hS hl
  exact lv_if_lt X.1 X.2.1 (za_fe_ok X.2.2.2.2.2.2.1 hf) ht (fun q => kt (by first | exact q | simpa using q) H locs ls hR hS hl) (fun q => kf (by first | exact q | simpa using q) H locs ls hR hS hl)
theorem za_ifge (X : za_X p s m args meth c D own cc cd fl nL ret) {x : Int32} {off : Int} (tgt : Nat) (hf : za_fe cd pc = some (.ifCond .ge off, 3)) (ht : (pc : Int) + off = (tgt : Int)) (kt : 0 ≤ x → za_W p l e R s m args below meth c D nL Q h0 n cells slots tgt lv st vw) (kf : ¬ (0 ≤ x) → za_W p l e R s m args below meth c D nL Q h0 n cells slots (pc + 3) lv st vw) : za_W p l e R s m args below meth c D nL Q h0 n cells slots pc lv (.inl x :: st) vw := by
  intro H locs ls hR hS hl
  exact lv_if_ge X.1 X.2.1 (za_fe_ok X.2.2.2.2.2.2.1 hf) ht (fun q => kt (by first | exact q | simpa using q) H locs ls hR hS hl) (fun q => kf (by first | exact q | simpa using q) H locs ls hR hS hl)
theorem za_ifgt (X : za_X p s m args meth c D own cc cd fl nL ret) {x : Int32} {off : Int} (tgt : Nat) (hf : za_fe cd pc = some (.ifCond .gt off, 3)) (ht : (pc : Int) + off = (tgt : Int)) (kt : 0 < x → za_W p l e R s m args below meth c D nL Q h0 n cells slots tgt lv st vw) (kf : ¬ (0 < x) → za_W p l e R s m args below meth c D nL Q h0 n cells slots (pc + 3) lv st vw) : za_W p l e R s m args below meth c D nL Q h0 n cells slots pc lv (.inl x :: st) vw := by
  intro H locs ls hR hS hl
  exact lv_if_gt X.1 X.2.1 (za_fe_ok X.2.2.2.2.2.2.1 hf) ht (fun q => kt (by first | exact q | simpa using q) H locs ls hR hS hl) (fun q => kf (by first | exact q | simpa using q) H locs ls hR hS hl)
theorem za_ifle (X : za_X p s m args meth c D own cc cd fl nL ret) {x : Int32} {off : Int} (tgt : Nat) (hf : za_fe cd pc = some (.ifCond .le off, 3)) (ht : (pc : Int) + off = (tgt : Int)) (kt : x ≤ 0 → za_W p l e R s m args below meth c D nL Q h0 n cells slots tgt lv st vw) (kf : ¬ (x ≤ 0) → za_W p l e R s m args below meth c D nL Q h0 n cells slots (pc + 3) lv st vw) : za_W p l e R s m args below meth c D nL Q h0 n cells slots pc lv (.inl x :: st) vw := by
  intro H locs ls hR hS hl
  exact lv_if_le X.1 X.2.1 (za_fe_ok X.2.2.2.2.2.2.1 hf) ht (fun q => kt (by first | exact q | simpa using q) H locs ls hR hS hl) (fun q => kf (by first | exact q | simpa using q) H locs ls hR hS hl)
theorem za_iceq (X : za_X p s m args meth c D own cc cd fl nL ret) {x y : Int32} {off : Int} (tgt : Nat) (hf : za_fe cd pc = some (.if_icmp .eq off, 3)) (ht : (pc : Int) + off = (tgt : Int)) (kt : x = y → za_W p l e R s m args below meth c D nL Q h0 n cells slots tgt lv st vw) (kf : ¬ (x = y) → za_W p l e R s m args below meth c D nL Q h0 n cells slots (pc + 3) lv st vw) : za_W p l e R s m args below meth c D nL Q h0 n cells slots pc lv (.inl y :: .inl x :: st) vw := by
  intro H locs ls hR hS hl
  exact lv_icmp_eq X.1 X.2.1 (za_fe_ok X.2.2.2.2.2.2.1 hf) ht (fun q => kt (by first | exact q | simpa using q) H locs ls hR hS hl) (fun q => kf (by first | exact q | simpa using q) H locs ls hR hS hl)
theorem za_icne (X : za_X p s m args meth c D own cc cd fl nL ret) {x y : Int32} {off : Int} (tgt : Nat) (hf : za_fe cd pc = some (.if_icmp .ne off, 3)) (ht : (pc : Int) + off = (tgt : Int)) (kt : ¬ x = y → za_W p l e R s m args below meth c D nL Q h0 n cells slots tgt lv st vw) (kf : x = y → za_W p l e R s m args below meth c D nL Q h0 n cells slots (pc + 3) lv st vw) : za_W p l e R s m args below meth c D nL Q h0 n cells slots pc lv (.inl y :: .inl x :: st) vw := by
  intro H locs ls hR hS hl
  exact lv_icmp_ne X.1 X.2.1 (za_fe_ok X.2.2.2.2.2.2.1 hf) ht (fun q => kt (by first | exact q | simpa using q) H locs ls hR hS hl) (fun q => kf (by first | exact q | simpa using q) H locs ls hR hS hl)
theorem za_iclt (X : za_X p s m args meth c D own cc cd fl nL ret) {x y : Int32} {off : Int} (tgt : Nat) (hf : za_fe cd pc = some (.if_icmp .lt off, 3)) (ht : (pc : Int) + off = (tgt : Int)) (kt : x < y → za_W p l e R s m args below meth c D nL Q h0 n cells slots tgt lv st vw) (kf : ¬ (x < y) → za_W p l e R s m args below meth c D nL Q h0 n cells slots (pc + 3) lv st vw) : za_W p l e R s m args below meth c D nL Q h0 n cells slots pc lv (.inl y :: .inl x :: st) vw := by
  intro H locs ls hR hS hl
  exact lv_icmp_lt X.1 X.2.1 (za_fe_ok X.2.2.2.2.2.2.1 hf) ht (fun q => kt (by first | exact q | simpa using q) H locs ls hR hS hl) (fun q => kf (by first | exact q | simpa using q) H locs ls hR hS hl)
theorem za_icge (X : za_X p s m args meth c D own cc cd fl nL ret) {x y : Int32} {off : Int} (tgt : Nat) (hf : za_fe cd pc = some (.if_icmp .ge off, 3)) (ht : (pc : Int) + off = (tgt : Int)) (kt : y ≤ x → za_W p l e R s m args below meth c D nL Q h0 n cells slots tgt lv st vw) (kf : ¬ (y ≤ x) → za_W p l e R s m args below meth c D nL Q h0 n cells slots (pc + 3) lv st vw) : za_W p l e R s m args below meth c D nL Q h0 n cells slots pc lv (.inl y :: .inl x :: st) vw := by
  intro H locs ls hR hS hl
  exact lv_icmp_ge X.1 X.2.1 (za_fe_ok X.2.2.2.2.2.2.1 hf) ht (fun q => kt (by first | exact q | simpa using q) H locs ls hR hS hl) (fun q => kf (by first | exact q | simpa using q) H locs ls hR hS hl)
theorem za_icgt (X : za_X p s m args meth c D own cc cd fl nL ret) {x y : Int32} {off : Int} (tgt : Nat) (hf : za_fe cd pc = some (.if_icmp .gt off, 3)) (ht : (pc : Int) + off = (tgt : Int)) (kt : y < x → za_W p l e R s m args below meth c D nL Q h0 n cells slots tgt lv st vw) (kf : ¬ (y < x) → za_W p l e R s m args below meth c D nL Q h0 n cells slots (pc + 3) lv st vw) : za_W p l e R s m args below meth c D nL Q h0 n cells slots pc lv (.inl y :: .inl x :: st) vw := by
  intro H locs ls hR hS hl
  exact lv_icmp_gt X.1 X.2.1 (za_fe_ok X.2.2.2.2.2.2.1 hf) ht (fun q => kt (by first | exact q | simpa using q) H locs ls hR hS hl) (fun q => kf (by first | exact q | simpa using q) H locs ls hR hS hl)
theorem za_icle (X : za_X p s m args meth c D own cc cd fl nL ret) {x y : Int32} {off : Int} (tgt : Nat) (hf : za_fe cd pc = some (.if_icmp .le off, 3)) (ht : (pc : Int) + off = (tgt : Int)) (kt : x ≤ y → za_W p l e R s m args below meth c D nL Q h0 n cells slots tgt lv st vw) (kf : ¬ (x ≤ y) → za_W p l e R s m args below meth c D nL Q h0 n cells slots (pc + 3) lv st vw) : za_W p l e R s m args below meth c D nL Q h0 n cells slots pc lv (.inl y :: .inl x :: st) vw := by
  intro H locs ls hR hS hl
  exact lv_icmp_le X.1 X.2.1 (za_fe_ok X.2.2.2.2.2.2.1 hf) ht (fun q => kt (by first | exact q | simpa using q) H locs ls hR hS hl) (fun q => kf (by first | exact q | simpa using q) H locs ls hR hS hl)
/-- a switch by a table, the number known -/
theorem za_tsw (X : za_X p s m args meth c D own cc cd fl nL ret) {x : Int32} {dflt lo hi : Int} {offs : Array Int} {len : Nat} {off : Int} (v : Int) (tgt : Nat) (hf : za_fe cd pc = some (.tableswitch dflt lo hi offs, len)) (hx : x.toInt = v) (h1 : ¬ v < lo) (h2 : ¬ hi < v) (ho : offs[(v - lo).toNat]? = some off) (ht : (pc : Int) + off = (tgt : Int)) (kk : za_W p l e R s m args below meth c D nL Q h0 n cells slots tgt lv st vw) : za_W p l e R s m args below meth c D nL Q h0 n cells slots pc lv (.inl x :: st) vw := by
  intro H locs ls hR hS hl
  subst hx
  exact lv_tableIn X.1 X.2.1 (za_fe_ok X.2.2.2.2.2.2.1 hf) h1 h2 ho ht (kk H locs ls hR hS hl)
theorem za_tsd (X : za_X p s m args meth c D own cc cd fl nL ret) {x : Int32} {dflt lo hi : Int} {offs : Array Int} {len : Nat} (tgt : Nat) (hf : za_fe cd pc = some (.tableswitch dflt lo hi offs, len)) (h : x.toInt < lo ∨ hi < x.toInt) (ht : (pc : Int) + dflt = (tgt : Int)) (kk : za_W p l e R s m args below meth c D nL Q h0 n cells slots tgt lv st vw) : za_W p l e R s m args below meth c D nL Q h0 n cells slots pc lv (.inl x :: st) vw := by
  intro H locs ls hR hS hl
  exact lv_tableOut X.1 X.2.1 (za_fe_ok X.2.2.2.2.2.2.1 hf) h ht (kk H locs ls hR hS hl)
theorem za_idiv (X : za_X p s m args meth c D own cc cd fl nL ret) {x y : Int32} (hf : za_fe cd pc = some (.idiv, 1)) (hne : ¬ y = 0) (kk : za_W p l e R s m args below meth c D nL Q h0 n cells slots (pc + 1) lv (vI (x / y) :: st) vw) : za_W p l e R s m args below meth c D nL Q h0 n cells slots pc lv (.inl y :: .inl x :: st) vw := by
  intro H locs ls hR hS hl
  exact lv_idiv X.1 X.2.1 (za_fe_ok X.2.2.2.2.2.2.1 hf) hne (kk H locs ls hR hS hl)
/-- the same heap seen through another list -/
theorem za_look {h1 : za_H} {v1 : List (Nat × za_C)} (he : za_ov h1 v1 = za_ov h0 vw) (kk : za_W p l e R s m args below meth c D nL Q h1 n cells slots pc lv st v1) : za_W p l e R s m args below meth c D nL Q h0 n cells slots pc lv st vw := by
  intro H locs ls hR hS hl
  exact kk H locs ls (by rw [he]; exact hR) hS hl
/-- take a list to look through -/
theorem za_view (v1 : List (Nat × za_C)) (he : ∀ q ∈ v1, h0 q.1 = some q.2) (kk : za_W p l e R s m args below meth c D nL Q h0 n cells slots pc lv st v1) : za_W p l e R s m args below meth c D nL Q h0 n cells slots pc lv st [] := za_look (by rw [za_ov_same he]; rfl) kk
/-- put the list away -/
theorem za_away (kk : za_W p l e R s m args below meth c D nL Q (za_ov h0 vw) n cells slots pc lv st []) : za_W p l e R s m args below meth c D nL Q h0 n cells slots pc lv st vw := za_look rfl kk
/-- fewer locals, in another order -/
theorem za_loc (lv1 : List (Nat × za_V)) (he : lv1.map (fun q => za_lg lv q.1) = lv1.map (fun q => some q.2)) (kk : za_W p l e R s m args below meth c D nL Q h0 n cells slots pc lv1 st vw) : za_W p l e R s m args below meth c D nL Q h0 n cells slots pc lv st vw := by
  intro H locs ls hR hS hl
  refine kk H locs ls hR hS (za_lh_sub hl fun q hq => ?_)
  obtain ⟨r, hr, rfl⟩ := List.mem_map.mp hq
  have h2 : ∀ q ∈ lv1, za_lg lv q.1 = some q.2 := List.map_inj_left.mp he
  exact List.mem_map.mpr ⟨r, za_lg_mem (h2 r hr), rfl⟩
theorem za_wid {k1 k2 : Nat} (h1 : cells ≤ k1) (h2 : slots ≤ k2) (kk : za_W p l e R s m args below meth c D nL Q h0 n k1 k2 pc lv st vw) : za_W p l e R s m args below meth c D nL Q h0 n cells slots pc lv st vw := by
  intro H locs ls hR hS hl
  exact W.widen h1 h2 (kk H locs ls hR hS hl)
end ZABR
end
section
/-! CONTRACTS over the whole picture. A method: its name, bytes, locals, what it returns -/
abbrev za_Y : Type := MethodName × ByteArray × Nat × Option FieldType
def za_Q (D : za_D) (Post : Option za_V → za_H → Nat → Prop) : Array Value → State → Outcome → State → Prop := fun _ st o t => ∃ (v : Option za_V) (h' : za_H) (n' : Nat), o = .returned (v.map (za_cv D.2.2)) ∧ Post v h' n' ∧ za_Rp D h' n' t.heap ∧ va_F (fun q : Nat => D.2.2 ≤ q) st t
def za_P (D : za_D) (av : List za_V) (h : za_H) (n : Nat) : Array Value → State → Prop := va_Pc (av.map (za_cv D.2.2)) (fun U => za_Rp D h n U.heap ∧ va_K D.1 za_cl (za_tys D) U)
def za_rm (d mc ms : Nat) : Room := { frames := d, cells := mc, slots := ms, locals := 40 * d }
def za_ws (Y : za_Y) : List Cond := Cond.code Y.1 Y.2.1 Y.2.2.1 Y.2.2.2 :: za_tt
/-- CONTRACT: called with av at the picture h of n cells, Y returns, and what it returns and leaves is as Post says; d: calls open at once below it; at most mc new cells of ms slots -/
def za_M (l : Launch) (D : za_D) (Y : za_Y) (d mc ms : Nat) (av : List za_V) (h : za_H) (n : Nat) (Post : Option za_V → za_H → Nat → Prop) : Prop :=
  Met l Y.1 (za_ws Y) (za_rm d mc ms) (za_P D av h n) (za_Q D Post) mc ms (fun q : Nat => D.2.2 ≤ q)
theorem za_blind (D : za_D) (av : List za_V) (h : za_H) (n : Nat) : FrameBlind (za_P D av h n) := fun a U g mk q => ⟨q.1, q.2.1, va_K.moved (u := U) (U := U.calling g mk a) (Vm.Alike.refl U.vm) q.2.2⟩
def za_ar : Nat → List za_V → List (Nat × za_V)
  | _, [] => []
  | i, v :: t => (i, v) :: za_ar (bif za_c2 v then i + 2 else i + 1) t
theorem za_ar_eq (z : Nat) (av : List za_V) : ∀ i : Nat, za_lm z (za_ar i av) = lv_args i (av.map (za_cv z)) := by
  induction av with
  | nil => intro i; rfl
  | cons v t ih =>
    intro i
    show (i, za_cv z v) :: za_lm z (za_ar (bif za_c2 v then i + 2 else i + 1) t) = (i, za_cv z v) :: lv_args (if (za_cv z v).category = 2 then i + 2 else i + 1) (t.map (za_cv z))
    rw [ih, za_cat]
    cases za_c2 v <;> rfl
set_option maxHeartbeats 1000000 in
/-- a contract out of a walk from the entry -/
theorem za_enter {l : Launch} {D : za_D} {Y : za_Y} {d mc ms n : Nat} {av : List za_V} {h : za_H} {Post : Option za_V → za_H → Nat → Prop} (cd : List (Nat × Instr × Nat)) (fl : List (Nat × Nat × Nat)) (hy : plainName Y.1.cls = true) (hcd : ∀ q ∈ cd, decode Y.2.1 q.1 = .ok q.2) (hfl : ∀ q ∈ fl, za_FL Y.1.cls q) (hlen : (lg_sl (av.map (za_cv D.2.2))).length ≤ Y.2.2.1)
    (body : ∀ (p : Program) (e : Env) (s : State) (m : MethodId) (args : Array Value) (below : List Frame) (meth : Method) (c : Code), za_X p s m args meth c D Y.1.cls Y.2.1 cd fl Y.2.2.1 Y.2.2.2 → meth.name = Y.1.name →
      za_W p l e (za_rm d mc ms) s m args below meth c D Y.2.2.1 (MQ below (za_Q D Post) args s mc ms (fun q : Nat => D.2.2 ≤ q)) h n 0 0 0 (za_ar 0 av) [] []) : za_M l D Y d mc ms av h n Post := by
  unfold za_M
  refine Met.ofW (cc := Y.2.1) (maxL := Y.2.2.1) (ret := Y.2.2.2) hy rfl ?_
  intro p e s m args below meth c s₁ B hml hv
  obtain ⟨rfl, hR, hK⟩ := hv
  have hts := atoms_spec (ws := za_ws Y) B.pre
  have hl := lv_entry (av.map (za_cv D.2.2)) (n := Y.2.2.1) hlen
  rw [lg_entry_eq]
  refine body p e s m _ below meth c ⟨B.exec, B.bytes, hml, findClass_of_methodNamed B.named, fun w hw => hts w (List.mem_cons_of_mem _ hw), hK, hcd, hfl, B.returns, B.notSynchronized, by rw [hR.1]; exact Nat.le_add_right _ _⟩ (name_of_methodNamed B.named B.method).1 s.heap [] _ hR va_S.rf ?_
  rw [za_ar_eq]
  exact hl

section ZAEND
variable {p : Program} {l : Launch} {e : Env} {R : Room} {s : State} {m : MethodId} {args : Array Value} {below : List Frame} {meth : Method} {c : Code} {D : za_D} {nL : Nat} {Q : State → Prop} {h0 : za_H} {n cells slots pc : Nat} {lv : List (Nat × za_V)} {st : List za_V} {vw : List (Nat × za_C)} {own : String} {cc : ByteArray} {cd : List (Nat × Instr × Nat)} {fl : List (Nat × Nat × Nat)} {ret : Option FieldType} {mc ms : Nat} {Post : Option za_V → za_H → Nat → Prop}
theorem za_iret (X : za_X p s m args meth c D own cc cd fl nL (some .int)) {x : Int32} (hf : za_fe cd pc = some (.ireturn, 1)) (hp : Post (some (vI x)) (za_ov h0 vw) n) (hc : cells ≤ mc) (hs : slots ≤ ms) : za_W p l e R s m args below meth c D nL (MQ below (za_Q D Post) args s mc ms (fun q : Nat => D.2.2 ≤ q)) h0 n cells slots pc lv [.inl x] vw := by
  intro H locs ls hR hS hl
  refine W.widen hc hs ?_
  exact W.iret (v := x) X.1 X.2.1 X.2.2.2.2.2.2.2.2.1 (fun t ht hW => ⟨some (vI x), za_ov h0 vw, n, rfl, hp, by rw [ht]; exact hR, hS.F ht⟩) hS.2.2 (za_fe_ok X.2.2.2.2.2.2.1 hf) (hlocks := X.2.2.2.2.2.2.2.2.2.1)
theorem za_zret (X : za_X p s m args meth c D own cc cd fl nL (some .boolean)) {x : Int32} (hf : za_fe cd pc = some (.ireturn, 1)) (h01 : x = 0 ∨ x = 1) (hp : Post (some (vI x)) (za_ov h0 vw) n) (hc : cells ≤ mc) (hs : slots ≤ ms) : za_W p l e R s m args below meth c D nL (MQ below (za_Q D Post) args s mc ms (fun q : Nat => D.2.2 ≤ q)) h0 n cells slots pc lv [.inl x] vw := by
  intro H locs ls hR hS hl
  refine W.widen hc hs ?_
  exact W.zret (v := x) X.1 X.2.1 X.2.2.2.2.2.2.2.2.1 (by rcases h01 with rfl | rfl <;> decide) (fun t ht hW => ⟨some (vI x), za_ov h0 vw, n, rfl, hp, by rw [ht]; exact hR, hS.F ht⟩) hS.2.2 (za_fe_ok X.2.2.2.2.2.2.1 hf) (hlocks := X.2.2.2.2.2.2.2.2.2.1)
theorem za_lret (X : za_X p s m args meth c D own cc cd fl nL (some .long)) {x : Int64} (hf : za_fe cd pc = some (.lreturn, 1)) (hp : Post (some (vL x)) (za_ov h0 vw) n) (hc : cells ≤ mc) (hs : slots ≤ ms) : za_W p l e R s m args below meth c D nL (MQ below (za_Q D Post) args s mc ms (fun q : Nat => D.2.2 ≤ q)) h0 n cells slots pc lv [.inr (.inl x)] vw := by
  intro H locs ls hR hS hl
  refine W.widen hc hs ?_
  exact W.lret (v := x) X.1 X.2.1 X.2.2.2.2.2.2.2.2.1 (fun t ht hW => ⟨some (vL x), za_ov h0 vw, n, rfl, hp, by rw [ht]; exact hR, hS.F ht⟩) hS.2.2 (za_fe_ok X.2.2.2.2.2.2.1 hf) (hlocks := X.2.2.2.2.2.2.2.2.2.1)
theorem za_vret (X : za_X p s m args meth c D own cc cd fl nL none) (hf : za_fe cd pc = some (.return_, 1)) (hp : Post none (za_ov h0 vw) n) (hc : cells ≤ mc) (hs : slots ≤ ms) : za_W p l e R s m args below meth c D nL (MQ below (za_Q D Post) args s mc ms (fun q : Nat => D.2.2 ≤ q)) h0 n cells slots pc lv [] vw := by
  intro H locs ls hR hS hl
  refine W.widen hc hs ?_
  exact W.vret X.1 X.2.1 X.2.2.2.2.2.2.2.2.1 (fun t ht hW => ⟨none, za_ov h0 vw, n, rfl, hp, by rw [ht]; exact hR, hS.F ht⟩) hS.2.2 (za_fe_ok X.2.2.2.2.2.2.1 hf) (hlocks := X.2.2.2.2.2.2.2.2.2.1)
end ZAEND
/-! CALLS -/
def za_CL (own : String) (idx : Nat) (y : MethodName) : Prop := Cond.methodLink own idx y ∈ za_tt ∨ ∃ host : String, Cond.methodLinkNest own idx y host ∈ za_tt
/-- a method's own words: its code, its class, how many parameters -/
def za_CY (Y : za_Y) (np : Nat) : Prop := Cond.code Y.1 Y.2.1 Y.2.2.1 Y.2.2.2 ∈ za_tt ∧ Cond.initialized Y.1.cls ∈ za_tt ∧ (Y.1.cls ≠ "java/lang/invoke/MethodHandle" ∧ Y.1.cls ≠ "java/lang/invoke/VarHandle") ∧ (parseMethodDescriptor Y.1.desc).map (fun d => d.parameters.length) = some np
def za_CV (Y : za_Y) : Prop := Cond.instanceMethod Y.1 ∈ za_tt ∧ Cond.selects Y.1.cls Y.1 Y.1 ∈ za_tt
def za_CI (Y : za_Y) : Prop := Cond.instanceMethod Y.1 ∈ za_tt ∧ Y.1.name = "<init>" ∧ Y.2.2.2 = none
def za_CS (Y : za_Y) : Prop := Cond.static Y.1 ∈ za_tt
theorem za_wsp (Y : za_Y) {np : Nat} (hY : za_CY Y np) {args : Array Value} {s : State} (hts : ∀ w ∈ za_tt, w.before args s = true) : ∀ w ∈ za_ws Y, ∀ (a' : Array Value) (U : State), s.WarmedH U.vm → w.before a' U = true := by
  intro w hw a' U hW
  rcases List.mem_cons.mp hw with rfl | hw
  · exact za_pay _ hY.1 (hts _ hY.1) hW
  · exact za_pay _ hw (hts _ hw) hW
theorem za_npar {Y : za_Y} {np : Nat} (hY : za_CY Y np) : ∀ sig, parseMethodDescriptor Y.1.desc = some sig → np = sig.parameters.length := by
  intro sig h
  have h2 := hY.2.2.2
  rw [h] at h2
  exact (Option.some.inj h2).symm
def za_wt (st : List za_V) : Nat := (st.map (fun v => bif za_c2 v then 2 else 1)).sum
theorem za_wt_eq (z : Nat) (st : List za_V) : ((st.map (za_cv z)).map fun v => v.category).sum = za_wt st := by
  unfold za_wt
  rw [List.map_map]
  congr 1
  refine List.map_congr_left fun v _ => ?_
  show (za_cv z v).category = _
  rw [za_cat]
  cases za_c2 v <;> rfl
section ZACALL
variable {p : Program} {l : Launch} {e : Env} {R : Room} {s : State} {m : MethodId} {args : Array Value} {below : List Frame} {meth : Method} {c : Code} {D : za_D} {nL : Nat} {Q : State → Prop} {h0 : za_H} {n cells slots pc : Nat} {lv : List (Nat × za_V)} {st : List za_V} {vw : List (Nat × za_C)} {own : String} {cc : ByteArray} {cd : List (Nat × Instr × Nat)} {fl : List (Nat × Nat × Nat)} {ret : Option FieldType} {mc ms d np idx b : Nat} {Y : za_Y} {as rest : List za_V} {Post : Option za_V → za_H → Nat → Prop}
theorem za_after {H : Heap} {locs : List Loc} {ls : Array Slot} {st0 rst : List Value} {a : Array Value} (hr : va_Run p l e R s m args below meth c H locs cells slots mc ms (F0 m pc ls st0) rst (za_Q D Post a) (fun q : Nat => D.2.2 ≤ q)) (hS : va_S (fun q : Nat => D.2.2 ≤ q) s.heap H locs)
    (kk : ∀ (v : Option za_V) (h' : za_H) (n' : Nat) (H1 : Heap) (locs1 : List Loc), Post v h' n' → za_Rp D h' n' H1 → va_S (fun q : Nat => D.2.2 ≤ q) s.heap H1 locs1 → W p l e R s m args below meth c H1 locs1 (cells + mc) (slots + ms) Q (F0 m (pc + 3) ls ((v.map (za_cv D.2.2)).toList ++ rst))) : W p l e R s m args below meth c H locs cells slots Q (F0 m pc ls st0) := by
  intro T hT X
  obtain ⟨v0, st₀, t, T', L, e0, X', hL, e1, e2, ⟨v, h', n', hv, hp, hRp, hF1, hF2⟩, stp⟩ := hr T hT X
  cases hv
  rw [e0] at hF1 hF2
  obtain ⟨t2, a1, b1⟩ := kk v h' n' T'.heap (locs ++ L) hp (by rw [e1]; exact hRp)
    ⟨Nat.le_trans hS.1 (by rw [e1]; exact hF1), fun q h1 h2 => by rw [e1, hF2 q (Nat.lt_of_lt_of_le h1 hS.1) h2]; exact hS.2.1 q h1 h2, fun q hq => by
      rcases List.mem_append.mp hq with h | h
      · exact hS.2.2 q h
      · exact hL q h⟩ T' rfl X'
  exact ⟨t2, stp t2 a1, b1⟩
theorem za_toL (z : Nat) (v : Option za_V) (rest : List za_V) : (v.map (za_cv z)).toList ++ rest.map (za_cv z) = (v.toList ++ rest).map (za_cv z) := by
  cases v <;> simp
set_option maxHeartbeats 1000000 in
/-- a method of an object -/
theorem za_callV (X : za_X p s m args meth c D own cc cd fl nL ret) (hf : za_fe cd pc = some (.invokevirtual idx, 3)) (hL : za_CL own idx Y.1) (hY : za_CY Y np) (hV : za_CV Y) (hM : za_M l D Y d mc ms (vR b :: as) (za_ov h0 vw) n Post) (hst : st = as.reverse ++ vR b :: rest) (hnp : as.length = np)
    {ci N : Nat} {fs : List za_V} {T : u_T} (hrc : za_ov h0 vw b = some (.inr (ci, fs))) (hcl : za_cl[ci]? = some (Y.1.cls, T, N)) (hw : za_wt rest ≤ 8) (hfr : d + 1 ≤ R.frames) (hlo : 8 + (Y.2.2.1 + 11) + 40 * d ≤ R.locals) (hce : cells + mc ≤ R.cells) (hsl : slots + ms ≤ R.slots)
    (kk : ∀ (v : Option za_V) (h' : za_H) (n' : Nat), Post v h' n' → za_W p l e R s m args below meth c D nL Q h' n' (cells + mc) (slots + ms) (pc + 3) lv (v.toList ++ rest) []) : za_W p l e R s m args below meth c D nL Q h0 n cells slots pc lv st vw := by
  intro H locs ls hR hS hl
  subst hst
  obtain ⟨hx, hb, hml, hown, hts, hK, hcd, hF, hr, hlocks, hz⟩ := X
  have hd := za_fe_ok hcd hf
  have hws := za_wsp Y hY hts
  have hpre : PreV s H Y.1.cls (D.2.2 + b) (za_P D (vR b :: as) (za_ov h0 vw) n) (as.map (za_cv D.2.2)) :=
    ⟨za_blind _ _ _ _, va_recv hK (za_P1 (q := (D.2.2 + b, .inr (ci, fs.map (za_cv D.2.2)))) (hR.2.1 b _ hrc)) hcl (q0 := 0) rfl, fun U hU hW => ⟨rfl, by rw [hU]; exact hR, va_K.moved hW.alike hK⟩⟩
  have hstk : (F0 m pc ls ((as.reverse ++ vR b :: rest).map (za_cv D.2.2))).stack = (as.map (za_cv D.2.2)).reverse ++ .ref (D.2.2 + b) :: rest.map (za_cv D.2.2) := by
    show (as.reverse ++ vR b :: rest).map (za_cv D.2.2) = _
    rw [List.map_append, List.map_reverse]
    rfl
  have hrm := lv_room (m := m) (pc := pc) (ls := ls) (rest := (as.reverse ++ vR b :: rest).map (za_cv D.2.2)) (st := rest.map (za_cv D.2.2)) (by rw [za_wt_eq]; exact hw)
  have hlen : (as.map (za_cv D.2.2)).length = np := by rw [List.length_map]; exact hnp
  have kk2 : ∀ (v : Option za_V) (h' : za_H) (n' : Nat) (H1 : Heap) (locs1 : List Loc), Post v h' n' → za_Rp D h' n' H1 → va_S (fun q : Nat => D.2.2 ≤ q) s.heap H1 locs1 → W p l e R s m args below meth c H1 locs1 (cells + mc) (slots + ms) Q (F0 m (pc + 3) ls ((v.map (za_cv D.2.2)).toList ++ rest.map (za_cv D.2.2))) := by
    intro v h' n' H1 locs1 hp h1 h2
    rw [za_toL]
    exact kk v h' n' hp H1 locs1 ls h1 h2 hl
  rcases hL with hL | ⟨host, hL⟩
  · exact za_after (va_runV ⟨hx, hb, hml, hown, hts⟩ hM ⟨⟨rfl, rfl, hfr, hlo, hws, List.mem_cons_self, hts _ hY.1, hts _ hY.2.1, hY.2.2.1, za_npar hY, hts _ hL⟩, hts _ hV.1, hts _ hV.2⟩ hpre rfl hlen hl.1 hstk hrm hd ⟨hce, hsl⟩) hS kk2
  · exact za_after (va_runVN ⟨hx, hb, hml, hown, hts⟩ hM ⟨⟨⟨rfl, rfl, hfr, hlo, hws, List.mem_cons_self⟩, hts _ hY.1, hts _ hY.2.1, hY.2.2.1, za_npar hY, hts _ hL⟩, hts _ hV.1, hts _ hV.2⟩ hpre rfl hlen hl.1 hstk hrm hd ⟨hce, hsl⟩) hS kk2
set_option maxHeartbeats 1000000 in
/-- a static method -/
theorem za_callS (X : za_X p s m args meth c D own cc cd fl nL ret) (hf : za_fe cd pc = some (.invokestatic idx, 3)) (hL : za_CL own idx Y.1) (hY : za_CY Y np) (hV : za_CS Y) (hM : za_M l D Y d mc ms as (za_ov h0 vw) n Post) (hst : st = as.reverse ++ rest) (hnp : as.length = np)
    (hw : za_wt rest ≤ 8) (hfr : d + 1 ≤ R.frames) (hlo : 8 + (Y.2.2.1 + 11) + 40 * d ≤ R.locals) (hce : cells + mc ≤ R.cells) (hsl : slots + ms ≤ R.slots)
    (kk : ∀ (v : Option za_V) (h' : za_H) (n' : Nat), Post v h' n' → za_W p l e R s m args below meth c D nL Q h' n' (cells + mc) (slots + ms) (pc + 3) lv (v.toList ++ rest) []) : za_W p l e R s m args below meth c D nL Q h0 n cells slots pc lv st vw := by
  intro H locs ls hR hS hl
  subst hst
  obtain ⟨hx, hb, hml, hown, hts, hK, hcd, hF, hr, hlocks, hz⟩ := X
  have hd := za_fe_ok hcd hf
  have hws := za_wsp Y hY hts
  have hpre : PreS s H (za_P D as (za_ov h0 vw) n) (as.map (za_cv D.2.2)) :=
    ⟨za_blind _ _ _ _, fun U hU hW => ⟨rfl, by rw [hU]; exact hR, va_K.moved hW.alike hK⟩⟩
  have hstk : (F0 m pc ls ((as.reverse ++ rest).map (za_cv D.2.2))).stack = (as.map (za_cv D.2.2)).reverse ++ rest.map (za_cv D.2.2) := by
    show (as.reverse ++ rest).map (za_cv D.2.2) = _
    rw [List.map_append, List.map_reverse]
  have hrm := lv_room (m := m) (pc := pc) (ls := ls) (rest := (as.reverse ++ rest).map (za_cv D.2.2)) (st := rest.map (za_cv D.2.2)) (by rw [za_wt_eq]; exact hw)
  have hlen : (as.map (za_cv D.2.2)).length = np := by rw [List.length_map]; exact hnp
  have kk2 : ∀ (v : Option za_V) (h' : za_H) (n' : Nat) (H1 : Heap) (locs1 : List Loc), Post v h' n' → za_Rp D h' n' H1 → va_S (fun q : Nat => D.2.2 ≤ q) s.heap H1 locs1 → W p l e R s m args below meth c H1 locs1 (cells + mc) (slots + ms) Q (F0 m (pc + 3) ls ((v.map (za_cv D.2.2)).toList ++ rest.map (za_cv D.2.2))) := by
    intro v h' n' H1 locs1 hp h1 h2
    rw [za_toL]
    exact kk v h' n' hp H1 locs1 ls h1 h2 hl
  rcases hL with hL | ⟨host, hL⟩
  · exact za_after (va_runS ⟨hx, hb, hml, hown, hts⟩ hM ⟨⟨rfl, rfl, hfr, hlo, hws, List.mem_cons_self, hts _ hY.1, hts _ hY.2.1, hY.2.2.1, za_npar hY, hts _ hL⟩, hts _ hV⟩ hpre rfl hlen hl.1 hstk hrm hd ⟨hce, hsl⟩) hS kk2
  · exact za_after (va_runSN ⟨hx, hb, hml, hown, hts⟩ hM ⟨⟨⟨rfl, rfl, hfr, hlo, hws, List.mem_cons_self⟩, hts _ hY.1, hts _ hY.2.1, hY.2.2.1, za_npar hY, hts _ hL⟩, hts _ hV, trivial⟩ hpre rfl hlen hl.1 hstk hrm hd ⟨hce, hsl⟩) hS kk2
end ZACALL
end
