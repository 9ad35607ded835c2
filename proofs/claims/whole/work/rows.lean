section
/-- a private method of a class that the tables say can be made, by its rows of tables_1 -/
def lw_okq (q : MethodName × Nat) : Prop := (q.1.cls ≠ "java/lang/invoke/MethodHandle" ∧ q.1.cls ≠ "java/lang/invoke/VarHandle") ∧ Cond.instantiable q.1.cls q.2 ∈ tables_1 ∧ Cond.privateMethod q.1 ∈ tables_1 ∧ Cond.instanceMethod q.1 ∈ tables_1
theorem lw_p0 : lw_okq (⟨"java/lang/Throwable", "fillInStackTrace", "(I)Ljava/lang/Throwable;"⟩, 6) := ⟨⟨by decide +kernel, by decide +kernel⟩, List.mem_of_getElem? (i := 235) (by decide +kernel), List.mem_of_getElem? (i := 233) (by decide +kernel), List.mem_of_getElem? (i := 234) (by decide +kernel)⟩
theorem lw_p1 : lw_okq (⟨"WayFinder", "areInputs", "(II)Z"⟩, 7) := ⟨⟨by decide +kernel, by decide +kernel⟩, List.mem_of_getElem? (i := 15) (by decide +kernel), List.mem_of_getElem? (i := 316) (by decide +kernel), List.mem_of_getElem? (i := 317) (by decide +kernel)⟩
theorem lw_p2 : lw_okq (⟨"WayFinder$Trace", "begin", "(II)V"⟩, 10) := ⟨⟨by decide +kernel, by decide +kernel⟩, List.mem_of_getElem? (i := 51) (by decide +kernel), List.mem_of_getElem? (i := 325) (by decide +kernel), List.mem_of_getElem? (i := 326) (by decide +kernel)⟩
theorem lw_p3 : lw_okq (⟨"WayFinder$Trace", "step", "(LWayFinder$Program;)V"⟩, 10) := ⟨⟨by decide +kernel, by decide +kernel⟩, List.mem_of_getElem? (i := 51) (by decide +kernel), List.mem_of_getElem? (i := 333) (by decide +kernel), List.mem_of_getElem? (i := 334) (by decide +kernel)⟩
theorem lw_p4 : lw_okq (⟨"WayFinder$Trace", "goIf", "(ZI)V"⟩, 10) := ⟨⟨by decide +kernel, by decide +kernel⟩, List.mem_of_getElem? (i := 51) (by decide +kernel), List.mem_of_getElem? (i := 337) (by decide +kernel), List.mem_of_getElem? (i := 338) (by decide +kernel)⟩
theorem lw_p5 : lw_okq (⟨"WayFinder$Trace", "decide", "(Z)V"⟩, 10) := ⟨⟨by decide +kernel, by decide +kernel⟩, List.mem_of_getElem? (i := 51) (by decide +kernel), List.mem_of_getElem? (i := 341) (by decide +kernel), List.mem_of_getElem? (i := 342) (by decide +kernel)⟩
theorem lw_p6 : lw_okq (⟨"WayFinder$Trace", "divide", "(III)V"⟩, 10) := ⟨⟨by decide +kernel, by decide +kernel⟩, List.mem_of_getElem? (i := 51) (by decide +kernel), List.mem_of_getElem? (i := 348) (by decide +kernel), List.mem_of_getElem? (i := 349) (by decide +kernel)⟩
theorem lw_p7 : lw_okq (⟨"WayFinder$Trace", "finish", "(II)V"⟩, 10) := ⟨⟨by decide +kernel, by decide +kernel⟩, List.mem_of_getElem? (i := 51) (by decide +kernel), List.mem_of_getElem? (i := 352) (by decide +kernel), List.mem_of_getElem? (i := 353) (by decide +kernel)⟩
theorem lw_p8 : lw_okq (⟨"WayFinder$Trace", "claim", "(I)V"⟩, 10) := ⟨⟨by decide +kernel, by decide +kernel⟩, List.mem_of_getElem? (i := 51) (by decide +kernel), List.mem_of_getElem? (i := 356) (by decide +kernel), List.mem_of_getElem? (i := 357) (by decide +kernel)⟩
theorem lw_p9 : lw_okq (⟨"WayFinder$Trace", "finishUnasked", "(LWayFinder$Program;)V"⟩, 10) := ⟨⟨by decide +kernel, by decide +kernel⟩, List.mem_of_getElem? (i := 51) (by decide +kernel), List.mem_of_getElem? (i := 363) (by decide +kernel), List.mem_of_getElem? (i := 364) (by decide +kernel)⟩
theorem lw_p10 : lw_okq (⟨"WayFinder", "fillDraft", "()Z"⟩, 7) := ⟨⟨by decide +kernel, by decide +kernel⟩, List.mem_of_getElem? (i := 15) (by decide +kernel), List.mem_of_getElem? (i := 381) (by decide +kernel), List.mem_of_getElem? (i := 382) (by decide +kernel)⟩
theorem lw_p11 : lw_okq (⟨"WayFinder$Results", "firstNotBefore", "(J)I"⟩, 3) := ⟨⟨by decide +kernel, by decide +kernel⟩, List.mem_of_getElem? (i := 98) (by decide +kernel), List.mem_of_getElem? (i := 393) (by decide +kernel), List.mem_of_getElem? (i := 394) (by decide +kernel)⟩
theorem lw_p12 : lw_okq (⟨"WayFinder$Results", "makeRoom", "(I)V"⟩, 3) := ⟨⟨by decide +kernel, by decide +kernel⟩, List.mem_of_getElem? (i := 98) (by decide +kernel), List.mem_of_getElem? (i := 401) (by decide +kernel), List.mem_of_getElem? (i := 402) (by decide +kernel)⟩
theorem lw_p13 : lw_okq (⟨"WayFinderModel", "raise", "(I)I"⟩, 32) := ⟨⟨by decide +kernel, by decide +kernel⟩, List.mem_of_getElem? (i := 461) (by decide +kernel), List.mem_of_getElem? (i := 579) (by decide +kernel), List.mem_of_getElem? (i := 580) (by decide +kernel)⟩
theorem lw_p14 : lw_okq (⟨"WayFinderModel", "isInput", "(I)Z"⟩, 32) := ⟨⟨by decide +kernel, by decide +kernel⟩, List.mem_of_getElem? (i := 461) (by decide +kernel), List.mem_of_getElem? (i := 595) (by decide +kernel), List.mem_of_getElem? (i := 596) (by decide +kernel)⟩
theorem lw_p15 : lw_okq (⟨"WayFinderModel", "go", "(II)V"⟩, 32) := ⟨⟨by decide +kernel, by decide +kernel⟩, List.mem_of_getElem? (i := 461) (by decide +kernel), List.mem_of_getElem? (i := 599) (by decide +kernel), List.mem_of_getElem? (i := 600) (by decide +kernel)⟩
def lw_privs_1 : List (MethodName × Nat) := [(⟨"java/lang/Throwable", "fillInStackTrace", "(I)Ljava/lang/Throwable;"⟩, 6), (⟨"WayFinder", "areInputs", "(II)Z"⟩, 7), (⟨"WayFinder$Trace", "begin", "(II)V"⟩, 10), (⟨"WayFinder$Trace", "step", "(LWayFinder$Program;)V"⟩, 10), (⟨"WayFinder$Trace", "goIf", "(ZI)V"⟩, 10), (⟨"WayFinder$Trace", "decide", "(Z)V"⟩, 10), (⟨"WayFinder$Trace", "divide", "(III)V"⟩, 10), (⟨"WayFinder$Trace", "finish", "(II)V"⟩, 10), (⟨"WayFinder$Trace", "claim", "(I)V"⟩, 10), (⟨"WayFinder$Trace", "finishUnasked", "(LWayFinder$Program;)V"⟩, 10), (⟨"WayFinder", "fillDraft", "()Z"⟩, 7), (⟨"WayFinder$Results", "firstNotBefore", "(J)I"⟩, 3), (⟨"WayFinder$Results", "makeRoom", "(I)V"⟩, 3), (⟨"WayFinderModel", "raise", "(I)I"⟩, 32), (⟨"WayFinderModel", "isInput", "(I)Z"⟩, 32), (⟨"WayFinderModel", "go", "(II)V"⟩, 32)]
theorem lw_r1 : ∀ q ∈ lw_privs_1, lw_okq q := List.forall_mem_cons.mpr ⟨lw_p0, List.forall_mem_cons.mpr ⟨lw_p1, List.forall_mem_cons.mpr ⟨lw_p2, List.forall_mem_cons.mpr ⟨lw_p3, List.forall_mem_cons.mpr ⟨lw_p4, List.forall_mem_cons.mpr ⟨lw_p5, List.forall_mem_cons.mpr ⟨lw_p6, List.forall_mem_cons.mpr ⟨lw_p7, List.forall_mem_cons.mpr ⟨lw_p8, List.forall_mem_cons.mpr ⟨lw_p9, List.forall_mem_cons.mpr ⟨lw_p10, List.forall_mem_cons.mpr ⟨lw_p11, List.forall_mem_cons.mpr ⟨lw_p12, List.forall_mem_cons.mpr ⟨lw_p13, List.forall_mem_cons.mpr ⟨lw_p14, List.forall_mem_cons.mpr ⟨lw_p15, fun _ h => absurd h List.not_mem_nil⟩⟩⟩⟩⟩⟩⟩⟩⟩⟩⟩⟩⟩⟩⟩⟩
theorem lw_p16 : lw_okq (⟨"WayFinderModel", "perform", "(I)I"⟩, 32) := ⟨⟨by decide +kernel, by decide +kernel⟩, List.mem_of_getElem? (i := 461) (by decide +kernel), List.mem_of_getElem? (i := 603) (by decide +kernel), List.mem_of_getElem? (i := 604) (by decide +kernel)⟩
theorem lw_p17 : lw_okq (⟨"WayFinderModel", "decide", "(Z)Z"⟩, 32) := ⟨⟨by decide +kernel, by decide +kernel⟩, List.mem_of_getElem? (i := 461) (by decide +kernel), List.mem_of_getElem? (i := 607) (by decide +kernel), List.mem_of_getElem? (i := 608) (by decide +kernel)⟩
theorem lw_p18 : lw_okq (⟨"WayFinderModel", "finish", "(II)V"⟩, 32) := ⟨⟨by decide +kernel, by decide +kernel⟩, List.mem_of_getElem? (i := 461) (by decide +kernel), List.mem_of_getElem? (i := 611) (by decide +kernel), List.mem_of_getElem? (i := 612) (by decide +kernel)⟩
theorem lw_p19 : lw_okq (⟨"WayFinderModel", "worked", "(IIII)I"⟩, 32) := ⟨⟨by decide +kernel, by decide +kernel⟩, List.mem_of_getElem? (i := 461) (by decide +kernel), List.mem_of_getElem? (i := 615) (by decide +kernel), List.mem_of_getElem? (i := 616) (by decide +kernel)⟩
theorem lw_p20 : lw_okq (⟨"WayFinderModel", "enter", "(I)V"⟩, 32) := ⟨⟨by decide +kernel, by decide +kernel⟩, List.mem_of_getElem? (i := 461) (by decide +kernel), List.mem_of_getElem? (i := 627) (by decide +kernel), List.mem_of_getElem? (i := 628) (by decide +kernel)⟩
def lw_privs_2 : List (MethodName × Nat) := [(⟨"WayFinderModel", "perform", "(I)I"⟩, 32), (⟨"WayFinderModel", "decide", "(Z)Z"⟩, 32), (⟨"WayFinderModel", "finish", "(II)V"⟩, 32), (⟨"WayFinderModel", "worked", "(IIII)I"⟩, 32), (⟨"WayFinderModel", "enter", "(I)V"⟩, 32)]
theorem lw_r2 : ∀ q ∈ lw_privs_2, lw_okq q := List.forall_mem_cons.mpr ⟨lw_p16, List.forall_mem_cons.mpr ⟨lw_p17, List.forall_mem_cons.mpr ⟨lw_p18, List.forall_mem_cons.mpr ⟨lw_p19, List.forall_mem_cons.mpr ⟨lw_p20, fun _ h => absurd h List.not_mem_nil⟩⟩⟩⟩⟩
def lw_privs : List (MethodName × Nat) := lw_privs_1 ++ (lw_privs_2)
def lw_tbl : List Cond := k2_sels lw_privs ++ tables_1
theorem lw_privs_ok : ∀ q ∈ lw_privs, lw_okq q := by
  show ∀ q ∈ lw_privs_1 ++ (lw_privs_2), lw_okq q
  exact List.forall_mem_append.mpr ⟨lw_r1, lw_r2⟩
/-! the words that stay true as the tables warm -/
def za_okw (w : Cond) : Bool := match w with
  | .fieldLinkNest .. => true
  | .methodLinkNest .. => true
  | .arrayOver (.object _) => true
  | .arrayClass _ => true
  | w => w.onTables && w.keepsFace
def za_tt : List Cond := lw_tbl.filter za_okw
theorem za_in {w : Cond} (i : Nat) (h : lw_tbl[i]? = some w) (ok : za_okw w = true) : w ∈ za_tt := List.mem_filter.mpr ⟨List.mem_of_getElem? h, ok⟩
theorem za_pay (w : Cond) (hw : w ∈ za_tt) {args a' : Array Value} {s U : State} (h : w.before args s = true) (hW : s.WarmedH U.vm) : w.before a' U = true := by
  have ok := (List.mem_filter.mp hw).2
  unfold za_okw at ok
  split at ok
  · exact va_tabs rfl (rfl : (s.setVm U.vm).vm = U.vm) (Cond.fieldLinkNest_warmed (args := args) hW h)
  · exact va_tabs rfl (rfl : (s.setVm U.vm).vm = U.vm) (Cond.methodLinkNest_warmed (args := args) hW h)
  · exact va_AO.use (va_AO.moved hW.alike (va_AO.of h))
  · exact word_at hW (Or.inr ⟨_, rfl⟩) h
  · rw [Bool.and_eq_true] at ok
    exact va_tabs ok.1 (rfl : (s.setVm U.vm).vm = U.vm) (Cond.before_shiftedFace (args := args) (State.Shifted.of_warmed hW) _ ok.2 h)
/-! classes: their names, fields in the order of the slots (declarer, name, descriptor, final) -/
def zf_P : u_T := fun k => match k with
  | 0 => ("WayFinder$Program", "ops", "[I", true)
  | 1 => ("WayFinder$Program", "as", "[I", true)
  | 2 => ("WayFinder$Program", "bs", "[I", true)
  | 3 => ("WayFinder$Program", "cs", "[I", true)
  | _ => ("WayFinder$Program", "size", "I", false)
def zf_T : u_T := fun k => match k with
  | 0 => ("WayFinder$Trace", "registers", "[I", true)
  | 1 => ("WayFinder$Trace", "place", "I", false)
  | 2 => ("WayFinder$Trace", "latest", "I", false)
  | 3 => ("WayFinder$Trace", "done", "I", false)
  | 4 => ("WayFinder$Trace", "visited", "I", false)
  | 5 => ("WayFinder$Trace", "decisions", "J", false)
  | 6 => ("WayFinder$Trace", "decisionCount", "I", false)
  | 7 => ("WayFinder$Trace", "ended", "Z", false)
  | 8 => ("WayFinder$Trace", "outcome", "I", false)
  | _ => ("WayFinder$Trace", "end", "I", false)
def zf_W : u_T := fun k => match k with
  | 0 => ("WayFinder$Way", "x", "I", false)
  | 1 => ("WayFinder$Way", "y", "I", false)
  | 2 => ("WayFinder$Way", "outcome", "I", false)
  | 3 => ("WayFinder$Way", "end", "I", false)
  | 4 => ("WayFinder$Way", "decisions", "J", false)
  | _ => ("WayFinder$Way", "decisionCount", "I", false)
def zf_R : u_T := fun k => match k with
  | 0 => ("WayFinder$Results", "ways", "[LWayFinder$Way;", true)
  | 1 => ("WayFinder$Results", "size", "I", false)
  | _ => ("WayFinder$Results", "visited", "I", false)
def zf_F : u_T := fun k => match k with
  | 0 => ("WayFinder", "program", "LWayFinder$Program;", true)
  | 1 => ("WayFinder", "lastTrace", "LWayFinder$Trace;", true)
  | 2 => ("WayFinder", "probe", "LWayFinder$Trace;", true)
  | 3 => ("WayFinder", "results", "LWayFinder$Results;", false)
  | 4 => ("WayFinder", "draft", "LWayFinder$Results;", false)
  | 5 => ("WayFinder", "bits", "I", false)
  | _ => ("WayFinder", "runs", "I", false)
def zf_M : u_T := fun k => match k with
  | 0 => ("WayFinderModel", "thrown", "I", false)
  | 1 => ("WayFinderModel", "op", "[I", true)
  | 2 => ("WayFinderModel", "ia", "[I", true)
  | 3 => ("WayFinderModel", "ib", "[I", true)
  | 4 => ("WayFinderModel", "ic", "[I", true)
  | 5 => ("WayFinderModel", "size", "I", false)
  | 6 => ("WayFinderModel", "width", "I", false)
  | 7 => ("WayFinderModel", "reg", "[I", true)
  | 8 => ("WayFinderModel", "outcome", "I", false)
  | 9 => ("WayFinderModel", "number", "I", false)
  | 10 => ("WayFinderModel", "done", "I", false)
  | 11 => ("WayFinderModel", "which", "I", false)
  | 12 => ("WayFinderModel", "decisions", "J", false)
  | 13 => ("WayFinderModel", "decided", "I", false)
  | 14 => ("WayFinderModel", "runs", "I", false)
  | 15 => ("WayFinderModel", "lastNumber", "I", false)
  | 16 => ("WayFinderModel", "lastDone", "I", false)
  | 17 => ("WayFinderModel", "lastDecided", "I", false)
  | 18 => ("WayFinderModel", "way", "[J", true)
  | 19 => ("WayFinderModel", "wayLength", "[I", true)
  | 20 => ("WayFinderModel", "least", "[I", true)
  | 21 => ("WayFinderModel", "wayOutcome", "[I", true)
  | 22 => ("WayFinderModel", "wayNumber", "[I", true)
  | 23 => ("WayFinderModel", "wayWhich", "[I", true)
  | 24 => ("WayFinderModel", "found", "I", false)
  | 25 => ("WayFinderModel", "rWay", "[J", true)
  | 26 => ("WayFinderModel", "rLength", "[I", true)
  | 27 => ("WayFinderModel", "rLeast", "[I", true)
  | 28 => ("WayFinderModel", "rOutcome", "[I", true)
  | 29 => ("WayFinderModel", "rNumber", "[I", true)
  | 30 => ("WayFinderModel", "results", "I", false)
  | _ => ("WayFinderModel", "covered", "I", false)
abbrev za_cl : List vw_C := [("WayFinder$Program", zf_P, 5), ("WayFinder$Trace", zf_T, 10), ("WayFinder$Way", zf_W, 6), ("WayFinder$Results", zf_R, 3), ("WayFinder", zf_F, 7), ("WayFinderModel", zf_M, 32)]
abbrev zn_P : Nat := 0
abbrev zn_T : Nat := 1
abbrev zn_W : Nat := 2
abbrev zn_R : Nat := 3
abbrev zn_F : Nat := 4
abbrev zn_M : Nat := 5
def za_fts : List (List FieldType) := [[.array (.int), .array (.int), .array (.int), .array (.int), .int], [.array (.int), .int, .int, .int, .int, .long, .int, .boolean, .int, .int], [.int, .int, .int, .int, .long, .int], [.array (.object "WayFinder$Way"), .int, .int], [.object "WayFinder$Program", .object "WayFinder$Trace", .object "WayFinder$Trace", .object "WayFinder$Results", .object "WayFinder$Results", .int, .int], [.int, .array (.int), .array (.int), .array (.int), .array (.int), .int, .int, .array (.int), .int, .int, .int, .int, .long, .int, .int, .int, .int, .int, .array (.long), .array (.int), .array (.int), .array (.int), .array (.int), .array (.int), .int, .array (.long), .array (.int), .array (.int), .array (.int), .array (.int), .int, .int]]
def za_fns : List (List Bool) := [[true, true, true, true, false], [true, false, false, false, false, false, false, false, false, false], [false, false, false, false, false, false], [true, false, false], [true, true, true, false, false, false, false], [false, true, true, true, true, false, false, true, false, false, false, false, false, false, false, false, false, false, true, true, true, true, true, true, false, true, true, true, true, true, false, false]]
def za_fty (c k : Nat) : FieldType := (za_fts.getD c []).getD k .int
def za_fin (c k : Nat) : Bool := (za_fns.getD c []).getD k false
def za_ty : List FieldType := [.int, .long, .object "WayFinder$Way"]
/-! what the tables say of the classes -/
theorem zl_P : ∀ w ∈ u_ws "WayFinder$Program" zf_P 5, w ∈ za_tt := by
  intro w hw
  obtain ⟨k, hk, rfl⟩ := List.mem_map.mp hw
  have hk2 := List.mem_range.mp hk
  match k, hk2 with
  | 0, _ => exact za_in 59 (by decide +kernel) rfl
  | 1, _ => exact za_in 61 (by decide +kernel) rfl
  | 2, _ => exact za_in 63 (by decide +kernel) rfl
  | 3, _ => exact za_in 65 (by decide +kernel) rfl
  | 4, _ => exact za_in 67 (by decide +kernel) rfl
  | k + 5, h => exact absurd h (by omega)
theorem zl_T : ∀ w ∈ u_ws "WayFinder$Trace" zf_T 10, w ∈ za_tt := by
  intro w hw
  obtain ⟨k, hk, rfl⟩ := List.mem_map.mp hw
  have hk2 := List.mem_range.mp hk
  match k, hk2 with
  | 0, _ => exact za_in 97 (by decide +kernel) rfl
  | 1, _ => exact za_in 99 (by decide +kernel) rfl
  | 2, _ => exact za_in 101 (by decide +kernel) rfl
  | 3, _ => exact za_in 103 (by decide +kernel) rfl
  | 4, _ => exact za_in 105 (by decide +kernel) rfl
  | 5, _ => exact za_in 107 (by decide +kernel) rfl
  | 6, _ => exact za_in 109 (by decide +kernel) rfl
  | 7, _ => exact za_in 111 (by decide +kernel) rfl
  | 8, _ => exact za_in 113 (by decide +kernel) rfl
  | 9, _ => exact za_in 115 (by decide +kernel) rfl
  | k + 10, h => exact absurd h (by omega)
theorem zl_W : ∀ w ∈ u_ws "WayFinder$Way" zf_W 6, w ∈ za_tt := by
  intro w hw
  obtain ⟨k, hk, rfl⟩ := List.mem_map.mp hw
  have hk2 := List.mem_range.mp hk
  match k, hk2 with
  | 0, _ => exact za_in 147 (by decide +kernel) rfl
  | 1, _ => exact za_in 149 (by decide +kernel) rfl
  | 2, _ => exact za_in 151 (by decide +kernel) rfl
  | 3, _ => exact za_in 153 (by decide +kernel) rfl
  | 4, _ => exact za_in 155 (by decide +kernel) rfl
  | 5, _ => exact za_in 157 (by decide +kernel) rfl
  | k + 6, h => exact absurd h (by omega)
theorem zl_R : ∀ w ∈ u_ws "WayFinder$Results" zf_R 3, w ∈ za_tt := by
  intro w hw
  obtain ⟨k, hk, rfl⟩ := List.mem_map.mp hw
  have hk2 := List.mem_range.mp hk
  match k, hk2 with
  | 0, _ => exact za_in 166 (by decide +kernel) rfl
  | 1, _ => exact za_in 168 (by decide +kernel) rfl
  | 2, _ => exact za_in 170 (by decide +kernel) rfl
  | k + 3, h => exact absurd h (by omega)
theorem zl_F : ∀ w ∈ u_ws "WayFinder" zf_F 7, w ∈ za_tt := by
  intro w hw
  obtain ⟨k, hk, rfl⟩ := List.mem_map.mp hw
  have hk2 := List.mem_range.mp hk
  match k, hk2 with
  | 0, _ => exact za_in 180 (by decide +kernel) rfl
  | 1, _ => exact za_in 182 (by decide +kernel) rfl
  | 2, _ => exact za_in 184 (by decide +kernel) rfl
  | 3, _ => exact za_in 186 (by decide +kernel) rfl
  | 4, _ => exact za_in 188 (by decide +kernel) rfl
  | 5, _ => exact za_in 190 (by decide +kernel) rfl
  | 6, _ => exact za_in 192 (by decide +kernel) rfl
  | k + 7, h => exact absurd h (by omega)
theorem zl_M : ∀ w ∈ u_ws "WayFinderModel" zf_M 32, w ∈ za_tt := by
  intro w hw
  obtain ⟨k, hk, rfl⟩ := List.mem_map.mp hw
  have hk2 := List.mem_range.mp hk
  match k, hk2 with
  | 0, _ => exact za_in 519 (by decide +kernel) rfl
  | 1, _ => exact za_in 521 (by decide +kernel) rfl
  | 2, _ => exact za_in 523 (by decide +kernel) rfl
  | 3, _ => exact za_in 525 (by decide +kernel) rfl
  | 4, _ => exact za_in 527 (by decide +kernel) rfl
  | 5, _ => exact za_in 529 (by decide +kernel) rfl
  | 6, _ => exact za_in 531 (by decide +kernel) rfl
  | 7, _ => exact za_in 533 (by decide +kernel) rfl
  | 8, _ => exact za_in 535 (by decide +kernel) rfl
  | 9, _ => exact za_in 537 (by decide +kernel) rfl
  | 10, _ => exact za_in 539 (by decide +kernel) rfl
  | 11, _ => exact za_in 541 (by decide +kernel) rfl
  | 12, _ => exact za_in 543 (by decide +kernel) rfl
  | 13, _ => exact za_in 545 (by decide +kernel) rfl
  | 14, _ => exact za_in 547 (by decide +kernel) rfl
  | 15, _ => exact za_in 549 (by decide +kernel) rfl
  | 16, _ => exact za_in 551 (by decide +kernel) rfl
  | 17, _ => exact za_in 553 (by decide +kernel) rfl
  | 18, _ => exact za_in 555 (by decide +kernel) rfl
  | 19, _ => exact za_in 557 (by decide +kernel) rfl
  | 20, _ => exact za_in 559 (by decide +kernel) rfl
  | 21, _ => exact za_in 561 (by decide +kernel) rfl
  | 22, _ => exact za_in 563 (by decide +kernel) rfl
  | 23, _ => exact za_in 565 (by decide +kernel) rfl
  | 24, _ => exact za_in 567 (by decide +kernel) rfl
  | 25, _ => exact za_in 569 (by decide +kernel) rfl
  | 26, _ => exact za_in 571 (by decide +kernel) rfl
  | 27, _ => exact za_in 573 (by decide +kernel) rfl
  | 28, _ => exact za_in 575 (by decide +kernel) rfl
  | 29, _ => exact za_in 577 (by decide +kernel) rfl
  | 30, _ => exact za_in 579 (by decide +kernel) rfl
  | 31, _ => exact za_in 581 (by decide +kernel) rfl
  | k + 32, h => exact absurd h (by omega)
theorem za_cok : ∀ (ci : Nat) (C : String) (T : u_T) (N : Nat), za_cl[ci]? = some (C, T, N) → (∀ w ∈ u_ws C T N, w ∈ za_tt) ∧ (∀ k, k < N → parseFieldDescriptor (T k).2.2.1 = some (za_fty ci k)) ∧ (∀ a, a < N → ∀ b, b < N → a ≠ b → (T a).2.1 ≠ (T b).2.1) ∧ ∀ k, k < N → (T k).2.2.2 = za_fin ci k := by
  intro ci C T N h
  match ci, h with
  | 0, h => cases h; exact ⟨zl_P, by decide +kernel, by decide +kernel, by decide +kernel⟩
  | 1, h => cases h; exact ⟨zl_T, by decide +kernel, by decide +kernel, by decide +kernel⟩
  | 2, h => cases h; exact ⟨zl_W, by decide +kernel, by decide +kernel, by decide +kernel⟩
  | 3, h => cases h; exact ⟨zl_R, by decide +kernel, by decide +kernel, by decide +kernel⟩
  | 4, h => cases h; exact ⟨zl_F, by decide +kernel, by decide +kernel, by decide +kernel⟩
  | 5, h => cases h; exact ⟨zl_M, by decide +kernel, by decide +kernel, by decide +kernel⟩
  | k + 6, h => simp [za_cl] at h
end
section
/-! ABSTRACT VALUES, CELLS, HEAPS. A reference is the number of a cell behind z, the heap's size at the law's entry: what the system makes lies at z + 0, z + 1 .. -/
abbrev za_V : Type := Int32 ⊕ (Int64 ⊕ Option Nat)
abbrev vI (x : Int32) : za_V := Sum.inl x
abbrev vL (x : Int64) : za_V := Sum.inr (Sum.inl x)
abbrev vR (i : Nat) : za_V := Sum.inr (Sum.inr (some i))
abbrev vN : za_V := Sum.inr (Sum.inr none)
/-- an array: the number of its type in za_ty, its length, what it holds -/
abbrev za_A : Type := Nat × Nat × ((Nat → Int32) ⊕ ((Nat → Int64) ⊕ (Nat → Option Nat)))
abbrev za_C : Type := za_A ⊕ (Nat × List za_V)
abbrev za_H : Type := Nat → Option za_C
abbrev za_D : Type := va_G × (Nat → ClassId) × Nat
def za_cv (z : Nat) : za_V → Value
  | .inl x => .int x
  | .inr (.inl x) => .long x
  | .inr (.inr none) => .null
  | .inr (.inr (some i)) => .ref (z + i)
def za_c2 : za_V → Bool
  | .inr (.inl _) => true
  | _ => false
theorem za_cat (z : Nat) (v : za_V) : (za_cv z v).category = if za_c2 v = true then 2 else 1 := by
  rcases v with x | x | x
  · rfl
  · rfl
  · cases x <;> rfl
theorem za_cat1 {z : Nat} {v : za_V} (h : za_c2 v = false) : (za_cv z v).category = 1 := by rw [za_cat, h]; rfl
def za_ce (D : za_D) : za_C → va_E
  | .inl (k, n, .inl f) => .inl (D.2.1 k, n, .inl f)
  | .inl (k, n, .inr (.inl f)) => .inl (D.2.1 k, n, .inr (.inl f))
  | .inl (k, n, .inr (.inr g)) => .inl (D.2.1 k, n, .inr (.inr (.inr (.inr (fun j => (g j).map (fun i => D.2.2 + i))))))
  | .inr (ci, fs) => .inr (ci, fs.map (za_cv D.2.2))
def za_at (D : za_D) (i : Nat) (c : za_C) (H : Heap) : Prop := va_at D.1 za_cl (D.2.2 + i, za_ce D c) H
/-- the heap holds the picture h of n cells behind z; no cell there is a cell of statics -/
def za_Rp (D : za_D) (h : za_H) (n : Nat) (H : Heap) : Prop := H.size = D.2.2 + n ∧ (∀ (i : Nat) (c : za_C), h i = some c → za_at D i c H) ∧ ∀ (q : Nat) (c : Cell), D.2.2 ≤ q → H[q]? = some c → c.vm = .none
def za_tys (D : za_D) : List (ClassId × FieldType) := (List.range za_ty.length).map (fun k => (D.2.1 k, za_ty.getD k .int))
theorem za_tys_at (D : za_D) {k : Nat} {ty : FieldType} (h : za_ty[k]? = some ty) : (za_tys D)[k]? = some (D.2.1 k, ty) := by
  have hl : k < za_ty.length := (List.getElem?_eq_some_iff.mp h).1
  simp only [za_tys, List.getElem?_map, List.getElem?_range hl, Option.map_some, List.getD_eq_getElem?_getD, h, Option.getD_some]
def za_set (h : za_H) (i : Nat) (c : za_C) : za_H := fun j => if j = i then some c else h j
theorem za_set_eq (h : za_H) (i : Nat) (c : za_C) : za_set h i c i = some c := by simp [za_set]
theorem za_set_ne {h : za_H} {i j : Nat} {c : za_C} (e : j ≠ i) : za_set h i c j = h j := by simp [za_set, e]
theorem za_at.ltz {D : za_D} {i : Nat} {c : za_C} {H : Heap} (h : za_at D i c H) : D.2.2 + i < H.size := va_at.lt (q := (D.2.2 + i, za_ce D c)) h
theorem za_at.plain {D : za_D} {i : Nat} {c : za_C} {H : Heap} {q : Cell} (h : za_at D i c H) (hq : H[D.2.2 + i]? = some q) : q.vm = .none := by
  rcases c with ⟨k, n, f | f | f⟩ | ⟨ci, fs⟩
  · have h1 : H[D.2.2 + i]? = some (vp_cell (D.2.1 k) (n, .inl f)) := h
    rw [hq] at h1; cases h1; rfl
  · have h1 : H[D.2.2 + i]? = some (vp_cell (D.2.1 k) (n, .inr (.inl f))) := h
    rw [hq] at h1; cases h1; rfl
  · have h1 : H[D.2.2 + i]? = some (vp_cell (D.2.1 k) (n, .inr (.inr (.inr (.inr (fun j => (f j).map (fun i => D.2.2 + i))))))) := h
    rw [hq] at h1; cases h1; rfl
  · have h1 : ∃ r : vw_C, za_cl[ci]? = some r ∧ t_OB (D.2.2 + i) (D.1.1 ci) r.2.2 (D.1.2 ci) H (vp_V (fs.map (za_cv D.2.2))) := h
    obtain ⟨r, -, cell, q1, -, q3, -⟩ := h1
    rw [hq] at q1; cases q1; exact q3
theorem za_Rp.set {D : za_D} {h : za_H} {n i : Nat} {c : za_C} {H H1 : Heap} (hR : za_Rp D h n H) (hz : H1.size = H.size) (ha : za_at D i c H1) (ho : ∀ q : Nat, q ≠ D.2.2 + i → H1[q]? = H[q]?) : za_Rp D (za_set h i c) n H1 := by
  refine ⟨hz.trans hR.1, fun j c' hj => ?_, fun q cell hq hc => ?_⟩
  · by_cases e : j = i
    · subst e
      rw [za_set_eq] at hj
      cases hj
      exact ha
    · rw [za_set_ne e] at hj
      exact va_at.kept (q := (D.2.2 + j, za_ce D c')) (hR.2.1 j c' hj) (ho (D.2.2 + j) (by omega))
  · by_cases e : q = D.2.2 + i
    · subst e
      exact ha.plain hc
    · rw [ho q e] at hc
      exact hR.2.2 q cell hq hc
theorem za_Rp.push {D : za_D} {h : za_H} {n : Nat} {H H1 : Heap} (hR : za_Rp D h n H) (hz : H1.size = D.2.2 + n + 1) (ho : ∀ q : Nat, q < D.2.2 + n → H1[q]? = H[q]?) (hp : ∀ c : Cell, H1[D.2.2 + n]? = some c → c.vm = .none) : za_Rp D h (n + 1) H1 := by
  refine ⟨by omega, fun j c' hj => ?_, fun q cell hq hc => ?_⟩
  · have h1 := hR.2.1 j c' hj
    have h2 := h1.ltz
    rw [hR.1] at h2
    exact va_at.kept (q := (D.2.2 + j, za_ce D c')) h1 (ho (D.2.2 + j) h2)
  · by_cases e : q = D.2.2 + n
    · subst e
      exact hp cell hc
    · have hl : q < H1.size := (Array.getElem?_eq_some_iff.mp hc).1
      rw [ho q (by omega)] at hc
      exact hR.2.2 q cell hq hc
theorem za_Rp.pushc {D : za_D} {h : za_H} {n : Nat} {c : za_C} {H H1 : Heap} (hR : za_Rp D h n H) (hz : H1.size = D.2.2 + n + 1) (ho : ∀ q : Nat, q < D.2.2 + n → H1[q]? = H[q]?) (ha : za_at D n c H1) : za_Rp D (za_set h n c) (n + 1) H1 := by
  have hp := hR.push hz ho (fun c hc => ha.plain hc)
  refine ⟨hp.1, fun j c' hj => ?_, hp.2.2⟩
  by_cases e : j = n
  · subst e
    rw [za_set_eq] at hj
    cases hj
    exact ha
  · rw [za_set_ne e] at hj
    exact hp.2.1 j c' hj
/-! a heap seen through a list of cells: what the list names, the list tells -/
def za_vg : List (Nat × za_C) → Nat → Option za_C
  | [], _ => none
  | (j, c) :: t, i => bif Nat.beq j i then some c else za_vg t i
theorem za_beq {j i : Nat} (e : j ≠ i) : Nat.beq j i = false := Bool.eq_false_iff.mpr fun h => e (Nat.eq_of_beq_eq_true h)
theorem za_beq_rfl (j : Nat) : Nat.beq j j = true := Nat.beq_refl j
theorem za_vg_cons (j i : Nat) (c : za_C) (t : List (Nat × za_C)) : za_vg ((j, c) :: t) i = if j = i then some c else za_vg t i := by
  show (bif Nat.beq j i then some c else za_vg t i) = _
  by_cases e : j = i
  · subst e
    rw [za_beq_rfl, if_pos rfl]; rfl
  · rw [za_beq e, if_neg e]; rfl
def za_vs : List (Nat × za_C) → Nat → za_C → List (Nat × za_C)
  | [], i, c => [(i, c)]
  | (j, d) :: t, i, c => bif Nat.beq j i then (j, c) :: t else (j, d) :: za_vs t i c
theorem za_vg_vs (v : List (Nat × za_C)) (i : Nat) (c : za_C) (j : Nat) : za_vg (za_vs v i c) j = if j = i then some c else za_vg v j := by
  induction v with
  | nil =>
    show za_vg [(i, c)] j = _
    rw [za_vg_cons]
    by_cases e : i = j
    · rw [if_pos e, if_pos e.symm]
    · rw [if_neg e, if_neg (fun q => e q.symm)]
  | cons q t ih =>
    obtain ⟨a, d⟩ := q
    show za_vg (bif Nat.beq a i then (a, c) :: t else (a, d) :: za_vs t i c) j = _
    by_cases e : a = i
    · subst e
      rw [za_beq_rfl]
      show za_vg ((a, c) :: t) j = _
      rw [za_vg_cons, za_vg_cons]
      by_cases e2 : a = j
      · rw [if_pos e2, if_pos e2.symm]
      · rw [if_neg e2, if_neg (fun q => e2 q.symm), if_neg e2]
    · rw [za_beq e]
      show za_vg ((a, d) :: za_vs t i c) j = _
      rw [za_vg_cons, za_vg_cons, ih]
      by_cases e2 : a = j
      · subst e2
        rw [if_pos rfl, if_pos rfl, if_neg e]
      · rw [if_neg e2, if_neg e2]
def za_ov (h : za_H) (v : List (Nat × za_C)) : za_H := fun i => match za_vg v i with
  | some c => some c
  | none => h i
theorem za_ov_nil (h : za_H) : za_ov h [] = h := rfl
theorem za_ov_at {h : za_H} {v : List (Nat × za_C)} {i : Nat} {c : za_C} (e : za_vg v i = some c) : za_ov h v i = some c := by simp [za_ov, e]
theorem za_ov_vs (h : za_H) (v : List (Nat × za_C)) (i : Nat) (c : za_C) : za_ov h (za_vs v i c) = za_set (za_ov h v) i c := by
  funext j
  show (match za_vg (za_vs v i c) j with | some c => some c | none => h j) = _
  rw [za_vg_vs]
  by_cases e : j = i
  · subst e
    rw [if_pos rfl, za_set_eq]
  · rw [if_neg e, za_set_ne e]
    rfl
/-- what the list says is so already: the list changes nothing -/
theorem za_ov_same {h : za_H} {v : List (Nat × za_C)} (e : ∀ q ∈ v, h q.1 = some q.2) : za_ov h v = h := by
  have key : ∀ (w : List (Nat × za_C)), (∀ q ∈ w, h q.1 = some q.2) → ∀ (i : Nat) (c : za_C), za_vg w i = some c → h i = some c := by
    intro w
    induction w with
    | nil => intro _ i c hc; cases hc
    | cons q t ih =>
      obtain ⟨a, d⟩ := q
      intro hw i c hc
      rw [za_vg_cons] at hc
      by_cases e2 : a = i
      · rw [if_pos e2] at hc
        cases hc
        subst e2
        exact hw (a, d) List.mem_cons_self
      · rw [if_neg e2] at hc
        exact ih (fun q hq => hw q (List.mem_cons_of_mem _ hq)) i c hc
  funext i
  show (match za_vg v i with | some c => some c | none => h i) = _
  cases hc : za_vg v i with
  | none => rfl
  | some c => exact (key v e i c hc).symm
/-! locals -/
def za_lg : List (Nat × za_V) → Nat → Option za_V
  | [], _ => none
  | (j, v) :: t, i => bif Nat.beq j i then some v else za_lg t i
theorem za_lg_mem {lv : List (Nat × za_V)} {i : Nat} {v : za_V} (h : za_lg lv i = some v) : (i, v) ∈ lv := by
  induction lv with
  | nil => cases h
  | cons q t ih =>
    obtain ⟨j, w⟩ := q
    have h2 : (bif Nat.beq j i then some w else za_lg t i) = some v := h
    by_cases e : j = i
    · subst e
      rw [za_beq_rfl] at h2
      cases h2
      exact List.mem_cons_self
    · rw [za_beq e] at h2
      exact List.mem_cons_of_mem _ (ih h2)
def za_lf : List (Nat × za_V) → Nat → List (Nat × za_V)
  | [], _ => []
  | (j, v) :: t, i => bif (Nat.beq j i || (Nat.beq (j + 1) i && za_c2 v)) then za_lf t i else (j, v) :: za_lf t i
theorem za_lf_mem {lv : List (Nat × za_V)} {i : Nat} {q : Nat × za_V} (h : q ∈ za_lf lv i) : q ∈ lv ∧ q.1 ≠ i ∧ ¬ (q.1 + 1 = i ∧ za_c2 q.2 = true) := by
  induction lv with
  | nil => cases h
  | cons r t ih =>
    obtain ⟨j, w⟩ := r
    have h2 : q ∈ (bif (Nat.beq j i || (Nat.beq (j + 1) i && za_c2 w)) then za_lf t i else (j, w) :: za_lf t i) := h
    cases hb : (Nat.beq j i || (Nat.beq (j + 1) i && za_c2 w)) with
    | true =>
      rw [hb] at h2
      obtain ⟨a, b⟩ := ih h2
      exact ⟨List.mem_cons_of_mem _ a, b⟩
    | false =>
      rw [hb] at h2
      rcases List.mem_cons.mp h2 with rfl | h3
      · rw [Bool.or_eq_false_iff] at hb
        refine ⟨List.mem_cons_self, fun e => ?_, fun e => ?_⟩
        · have e1 : j = i := e
          rw [e1, za_beq_rfl] at hb
          cases hb.1
        · have e1 : j + 1 = i := e.1
          have e2 : za_c2 w = true := e.2
          rw [e1, za_beq_rfl, e2] at hb
          cases hb.2
      · obtain ⟨a, b⟩ := ih h3
        exact ⟨List.mem_cons_of_mem _ a, b⟩
def za_lm (z : Nat) (lv : List (Nat × za_V)) : List (Nat × Value) := lv.map (fun q => (q.1, za_cv z q.2))
/-- a method whose one argument lies ahead of z keeps it in its place 0 -/
def za_lx (args : Array Value) (z : Nat) : List (Nat × Value) := match args.toList with
  | [.ref b] => bif Nat.blt b z then [(0, .ref b)] else []
  | _ => []
theorem za_lx_in {args : Array Value} {z : Nat} {q : Nat × Value} (h : q ∈ za_lx args z) : q.1 = 0 ∧ q.2.category = 1 := by
  unfold za_lx at h
  split at h
  · cases hb : Nat.blt _ z with
    | true => rw [hb] at h; rw [List.mem_singleton.mp h]; exact ⟨rfl, rfl⟩
    | false => rw [hb] at h; cases h
  · cases h
theorem za_lx_0 (av : List za_V) (z : Nat) : za_lx (av.map (za_cv z)).toArray z = [] := by
  unfold za_lx
  rcases av with _ | ⟨v, _ | ⟨w, t⟩⟩
  · rfl
  · rcases v with x | x | x | x
    · rfl
    · rfl
    · rfl
    · show (bif Nat.blt (z + x) z then _ else _) = _
      cases hb : Nat.blt (z + x) z with
      | true => have : z + x < z := by simpa using hb
                omega
      | false => rfl
  · show (match (za_cv z v :: za_cv z w :: List.map (za_cv z) t) with | [.ref b] => (bif Nat.blt b z then [(0, .ref b)] else []) | _ => []) = ([] : List (Nat × Value))
    generalize za_cv z v = a
    cases a <;> rfl
abbrev za_lh (args : Array Value) (ls : Array Slot) (nL z : Nat) (lv : List (Nat × za_V)) : Prop := lv_has ls nL (za_lx args z ++ za_lm z lv)
theorem za_lm_at {args : Array Value} {z : Nat} {lv : List (Nat × za_V)} {i nL : Nat} {v : za_V} {ls : Array Slot} (hl : za_lh args ls nL z lv) (h : za_lg lv i = some v) : ls[i]? = some (.val (za_cv z v)) :=
  hl.2.2 (i, za_cv z v) (List.mem_append_right _ (List.mem_map.mpr ⟨(i, v), za_lg_mem h, rfl⟩))
theorem za_lh_sub {ls : Array Slot} {nL : Nat} {k k' : List (Nat × Value)} (h : lv_has ls nL k) (hs : ∀ q ∈ k', q ∈ k) : lv_has ls nL k' := ⟨h.1, h.2.1, fun q hq => h.2.2 q (hs q hq)⟩
/-- storing a value of one slot -/
theorem za_lm_st {args : Array Value} {z i : Nat} {lv : List (Nat × za_V)} {v : za_V} (hi0 : 0 < i) : ∀ q ∈ za_lx args z ++ za_lm z ((i, v) :: za_lf lv i), q ∈ ((i, za_cv z v) :: (za_lx args z ++ za_lm z lv).filter (fun q => !(q.1 == i) && !(q.1 + 1 == i && q.2.category == 2))) := by
  intro q hq
  rcases List.mem_append.mp hq with hq | hq
  · obtain ⟨a, b⟩ := za_lx_in hq
    refine List.mem_cons_of_mem _ (List.mem_filter.mpr ⟨List.mem_append_left _ hq, ?_⟩)
    rw [b, a]
    have e1 : (0 == i) = false := by simp; omega
    rw [e1]
    simp
  obtain ⟨r, hr, rfl⟩ := List.mem_map.mp hq
  rcases List.mem_cons.mp hr with rfl | hr
  · exact List.mem_cons_self
  · obtain ⟨h1, h2, h3⟩ := za_lf_mem hr
    refine List.mem_cons_of_mem _ (List.mem_filter.mpr ⟨List.mem_append_right _ (List.mem_map.mpr ⟨r, h1, rfl⟩), ?_⟩)
    have e1 : (r.1 == i) = false := by simpa using h2
    have e2 : (r.1 + 1 == i && (za_cv z r.2).category == 2) = false := by
      rw [Bool.and_eq_false_iff]
      by_cases e : r.1 + 1 = i
      · right
        have : za_c2 r.2 = false := by
          cases hc : za_c2 r.2 with
          | false => rfl
          | true => exact absurd ⟨e, hc⟩ h3
        rw [za_cat1 this]
        rfl
      · left
        simpa using e
    show (!(r.1 == i) && !(r.1 + 1 == i && (za_cv z r.2).category == 2)) = true
    rw [e1, e2]
    rfl
end
section
/-! THE JUDGEMENT: from every heap that holds the picture, with these locals and this stack at pc, the walk comes to Q -/
def za_W (p : Program) (l : Launch) (e : Env) (R : Room) (s : State) (m : MethodId) (args : Array Value) (below : List Frame) (meth : Method) (c : Code) (D : za_D) (nL : Nat) (Q : State → Prop) (h0 : za_H) (n cells slots pc : Nat) (lv : List (Nat × za_V)) (st : List za_V) (vw : List (Nat × za_C)) : Prop :=
  ∀ (H : Heap) (locs : List Loc) (ls : Array Slot), za_Rp D (za_ov h0 vw) n H → va_S (fun q : Nat => D.2.2 ≤ q) s.heap H locs → za_lh args ls nL D.2.2 lv → W p l e R s m args below meth c H locs cells slots Q (F0 m pc ls (st.map (za_cv D.2.2)))
/-- a field of a class's table under a number of its pool: (the number, the class, the field's place) -/
def za_FL (own : String) (q : Nat × Nat × Nat) : Prop := ∃ (C : String) (T : u_T) (N : Nat), za_cl[q.2.1]? = some (C, T, N) ∧ q.2.2 < N ∧ (T q.2.2).1 = C ∧ (Cond.fieldLink own q.1 C (T q.2.2).2.1 (T q.2.2).2.2.1 ∈ za_tt ∨ ∃ host : String, Cond.fieldLinkNest own q.1 C (T q.2.2).2.1 (T q.2.2).2.2.1 host ∈ za_tt)
/-- what holds all along a walk -/
def za_X (p : Program) (s : State) (m : MethodId) (args : Array Value) (meth : Method) (c : Code) (D : za_D) (own : String) (cc : ByteArray) (cd : List (Nat × Instr × Nat)) (fl : List (Nat × Nat × Nat)) (nL : Nat) (ret : Option FieldType) : Prop :=
  p.tables.exec = Jvm.exec ∧ c.code = cc ∧ c.maxLocals = nL ∧ s.vm.findClass own = some m.cls ∧ (∀ w ∈ za_tt, w.before args s = true) ∧ va_K D.1 za_cl (za_tys D) s ∧ (∀ q ∈ cd, decode cc q.1 = .ok q.2) ∧ (∀ q ∈ fl, za_FL own q) ∧ meth.sig.returnType = ret ∧ meth.locks = false ∧ D.2.2 ≤ s.heap.size
def za_fe : List (Nat × Instr × Nat) → Nat → Option (Instr × Nat)
  | [], _ => none
  | (j, r) :: t, i => bif Nat.beq j i then some r else za_fe t i
theorem za_fe_ok {cc : ByteArray} {cd : List (Nat × Instr × Nat)} (h : ∀ q ∈ cd, decode cc q.1 = .ok q.2) {pc : Nat} {r : Instr × Nat} (hf : za_fe cd pc = some r) : decode cc pc = .ok r := by
  induction cd with
  | nil => cases hf
  | cons q t ih =>
    obtain ⟨j, w⟩ := q
    have h2 : (bif Nat.beq j pc then some w else za_fe t pc) = some r := hf
    by_cases e : j = pc
    · subst e
      rw [za_beq_rfl] at h2
      cases h2
      exact h (j, r) List.mem_cons_self
    · rw [za_beq e] at h2
      exact ih (fun q hq => h q (List.mem_cons_of_mem _ hq)) h2
def za_fk : List (Nat × Nat × Nat) → Nat → Option (Nat × Nat)
  | [], _ => none
  | (j, r) :: t, i => bif Nat.beq j i then some r else za_fk t i
theorem za_fk_mem {fl : List (Nat × Nat × Nat)} {i : Nat} {r : Nat × Nat} (h : za_fk fl i = some r) : (i, r) ∈ fl := by
  induction fl with
  | nil => cases h
  | cons q t ih =>
    obtain ⟨j, w⟩ := q
    have h2 : (bif Nat.beq j i then some w else za_fk t i) = some r := h
    by_cases e : j = i
    · subst e
      rw [za_beq_rfl] at h2
      cases h2
      exact List.mem_cons_self
    · rw [za_beq e] at h2
      exact List.mem_cons_of_mem _ (ih h2)
/-- what a field of this type takes -/
def za_okf (ty : FieldType) (v : za_V) : Bool := match ty, v with
  | .int, .inl _ => true
  | .long, .inr (.inl _) => true
  | .boolean, .inl x => x == 0 || x == 1
  | .object _, .inr (.inr _) => true
  | .array _, .inr (.inr _) => true
  | _, _ => false
theorem za_okf_ok {ty : FieldType} {v : za_V} (h : za_okf ty v = true) (z : Nat) : narrow ty (za_cv z v) = za_cv z v ∧ fits ty (za_cv z v) = true := by
  unfold za_okf at h
  split at h
  · exact ⟨rfl, rfl⟩
  · exact ⟨rfl, rfl⟩
  · rename_i x
    rw [Bool.or_eq_true, beq_iff_eq, beq_iff_eq] at h
    rcases h with rfl | rfl
    · exact ⟨(by decide : narrow .boolean (.int 0) = .int 0), (by decide : fits .boolean (.int 0) = true)⟩
    · exact ⟨(by decide : narrow .boolean (.int 1) = .int 1), (by decide : fits .boolean (.int 1) = true)⟩
  · rename_i r
    cases r <;> exact ⟨rfl, rfl⟩
  · rename_i r
    cases r <;> exact ⟨rfl, rfl⟩
  · cases h
def za_gc (fl : List (Nat × Nat × Nat)) (idx : Nat) (c : za_C) : Option za_V := match c with
  | .inr (ci, fs) => match za_fk fl idx with
    | some (cj, k) => bif Nat.beq cj ci then fs[k]? else none
    | none => none
  | .inl _ => none
theorem za_gc_ok {fl : List (Nat × Nat × Nat)} {idx : Nat} {c : za_C} {v : za_V} (h : za_gc fl idx c = some v) : ∃ (ci k : Nat) (fs : List za_V), c = .inr (ci, fs) ∧ (idx, ci, k) ∈ fl ∧ fs[k]? = some v := by
  unfold za_gc at h
  split at h
  · rename_i ci fs
    split at h
    · rename_i cj k hk
      by_cases e : cj = ci
      · subst e
        rw [za_beq_rfl] at h
        exact ⟨cj, k, fs, rfl, za_fk_mem hk, h⟩
      · rw [za_beq e] at h
        cases h
    · cases h
  · cases h
def za_pf (fl : List (Nat × Nat × Nat)) (idx : Nat) (c : za_C) (v : za_V) : Option za_C := match c with
  | .inr (ci, fs) => match za_fk fl idx with
    | some (cj, k) => bif (Nat.beq cj ci && (za_okf (za_fty ci k) v && (!(za_fin ci k) && Nat.blt k fs.length))) then some (.inr (ci, fs.set k v)) else none
    | none => none
  | .inl _ => none
theorem za_pf_ok {fl : List (Nat × Nat × Nat)} {idx : Nat} {c c' : za_C} {v : za_V} (h : za_pf fl idx c v = some c') : ∃ (ci k : Nat) (fs : List za_V), c = .inr (ci, fs) ∧ (idx, ci, k) ∈ fl ∧ za_okf (za_fty ci k) v = true ∧ za_fin ci k = false ∧ k < fs.length ∧ c' = .inr (ci, fs.set k v) := by
  unfold za_pf at h
  split at h
  · rename_i ci fs
    split at h
    · rename_i cj k hk
      cases hb : (Nat.beq cj ci && (za_okf (za_fty ci k) v && (!(za_fin ci k) && Nat.blt k fs.length))) with
      | false => rw [hb] at h; cases h
      | true =>
        rw [hb] at h
        cases h
        rw [Bool.and_eq_true, Bool.and_eq_true, Bool.and_eq_true] at hb
        obtain ⟨h1, h2, h3, h4⟩ := hb
        have e := Nat.eq_of_beq_eq_true h1
        subst e
        exact ⟨cj, k, fs, rfl, za_fk_mem hk, h2, by simpa using h3, by simpa using h4, rfl⟩
    · cases h
  · cases h

def za_ln (i : Instr) : Nat := match i with
  | .iconst _ => 1
  | .bipush _ => 2
  | .sipush _ => 3
  | .lconst _ => 1
  | .aconst_null => 1
  | .iload_n _ => 1
  | .iload _ => 2
  | .lload_n _ => 1
  | .lload _ => 2
  | .aload_n _ => 1
  | .aload _ => 2
  | .istore_n _ => 1
  | .istore _ => 2
  | .astore_n _ => 1
  | .astore _ => 2
  | .iinc _ _ => 3
  | .iadd => 1
  | .isub => 1
  | .imul => 1
  | .iand => 1
  | .ior => 1
  | .ixor => 1
  | .ishl => 1
  | .ishr => 1
  | .ineg => 1
  | .ladd => 1
  | .lsub => 1
  | .land => 1
  | .lor => 1
  | .lxor => 1
  | .lshl => 1
  | .lshr => 1
  | .lcmp => 1
  | .l2i => 1
  | .i2l => 1
  | .dup => 1
  | .pop => 1
  | .dup2 => 1
  | .dup_x1 => 1
  | .goto _ => 3
  | .getfield _ => 3
  | .putfield _ => 3
  | _ => 0
def za_s1 (fl : List (Nat × Nat × Nat)) (nL pc : Nat) (i : Instr) (lv : List (Nat × za_V)) (st : List za_V) (vw : List (Nat × za_C)) : Option (Nat × List (Nat × za_V) × List za_V × List (Nat × za_C)) := match i with
  | .iconst k0 => some (pc + 1, lv, vI (Int32.ofInt k0) :: st, vw)
  | .bipush k0 => some (pc + 2, lv, vI (Int8.ofInt k0).toInt32 :: st, vw)
  | .sipush k0 => some (pc + 3, lv, vI (Int16.ofInt k0).toInt32 :: st, vw)
  | .lconst k0 => some (pc + 1, lv, vL (Int64.ofNat k0.val) :: st, vw)
  | .aconst_null => some (pc + 1, lv, vN :: st, vw)
  | .iload_n k0 => (match za_lg lv k0.val with | some (.inl x) => some (pc + 1, lv, vI x :: st, vw) | _ => none)
  | .iload k0 => (match za_lg lv k0 with | some (.inl x) => some (pc + 2, lv, vI x :: st, vw) | _ => none)
  | .lload_n k0 => (match za_lg lv k0.val with | some (.inr (.inl x)) => some (pc + 1, lv, vL x :: st, vw) | _ => none)
  | .lload k0 => (match za_lg lv k0 with | some (.inr (.inl x)) => some (pc + 2, lv, vL x :: st, vw) | _ => none)
  | .aload_n k0 => (match za_lg lv k0.val with | some (.inr (.inr x)) => some (pc + 1, lv, .inr (.inr x) :: st, vw) | _ => none)
  | .aload k0 => (match za_lg lv k0 with | some (.inr (.inr x)) => some (pc + 2, lv, .inr (.inr x) :: st, vw) | _ => none)
  | .istore_n k0 => (match st with | .inl x :: r => bif (Nat.blt 0 k0.val && Nat.blt k0.val nL) then some (pc + 1, (k0.val, vI x) :: za_lf lv k0.val, r, vw) else none | _ => none)
  | .istore k0 => (match st with | .inl x :: r => bif (Nat.blt 0 k0 && Nat.blt k0 nL) then some (pc + 2, (k0, vI x) :: za_lf lv k0, r, vw) else none | _ => none)
  | .astore_n k0 => (match st with | .inr (.inr x) :: r => bif (Nat.blt 0 k0.val && Nat.blt k0.val nL) then some (pc + 1, (k0.val, .inr (.inr x)) :: za_lf lv k0.val, r, vw) else none | _ => none)
  | .astore k0 => (match st with | .inr (.inr x) :: r => bif (Nat.blt 0 k0 && Nat.blt k0 nL) then some (pc + 2, (k0, .inr (.inr x)) :: za_lf lv k0, r, vw) else none | _ => none)
  | .iinc k0 d0 => (match za_lg lv k0 with | some (.inl x) => bif (Nat.blt 0 k0 && Nat.blt k0 nL) then some (pc + 3, (k0, vI (x + Int32.ofInt d0)) :: za_lf lv k0, st, vw) else none | _ => none)
  | .iadd => (match st with | .inl y :: .inl x :: r => some (pc + 1, lv, vI (x + y) :: r, vw) | _ => none)
  | .isub => (match st with | .inl y :: .inl x :: r => some (pc + 1, lv, vI (x - y) :: r, vw) | _ => none)
  | .imul => (match st with | .inl y :: .inl x :: r => some (pc + 1, lv, vI (x * y) :: r, vw) | _ => none)
  | .iand => (match st with | .inl y :: .inl x :: r => some (pc + 1, lv, vI (x &&& y) :: r, vw) | _ => none)
  | .ior => (match st with | .inl y :: .inl x :: r => some (pc + 1, lv, vI (x ||| y) :: r, vw) | _ => none)
  | .ixor => (match st with | .inl y :: .inl x :: r => some (pc + 1, lv, vI (x ^^^ y) :: r, vw) | _ => none)
  | .ishl => (match st with | .inl y :: .inl x :: r => some (pc + 1, lv, vI (x <<< (y &&& 31)) :: r, vw) | _ => none)
  | .ishr => (match st with | .inl y :: .inl x :: r => some (pc + 1, lv, vI (x >>> (y &&& 31)) :: r, vw) | _ => none)
  | .ineg => (match st with | .inl x :: r => some (pc + 1, lv, vI (-x) :: r, vw) | _ => none)
  | .ladd => (match st with | .inr (.inl y) :: .inr (.inl x) :: r => some (pc + 1, lv, vL (x + y) :: r, vw) | _ => none)
  | .lsub => (match st with | .inr (.inl y) :: .inr (.inl x) :: r => some (pc + 1, lv, vL (x - y) :: r, vw) | _ => none)
  | .land => (match st with | .inr (.inl y) :: .inr (.inl x) :: r => some (pc + 1, lv, vL (x &&& y) :: r, vw) | _ => none)
  | .lor => (match st with | .inr (.inl y) :: .inr (.inl x) :: r => some (pc + 1, lv, vL (x ||| y) :: r, vw) | _ => none)
  | .lxor => (match st with | .inr (.inl y) :: .inr (.inl x) :: r => some (pc + 1, lv, vL (x ^^^ y) :: r, vw) | _ => none)
  | .lshl => (match st with | .inl y :: .inr (.inl x) :: r => some (pc + 1, lv, vL (x <<< (y.toInt64 &&& 63)) :: r, vw) | _ => none)
  | .lshr => (match st with | .inl y :: .inr (.inl x) :: r => some (pc + 1, lv, vL (x >>> (y.toInt64 &&& 63)) :: r, vw) | _ => none)
  | .lcmp => (match st with | .inr (.inl y) :: .inr (.inl x) :: r => some (pc + 1, lv, vI (lg_cmp x y) :: r, vw) | _ => none)
  | .l2i => (match st with | .inr (.inl x) :: r => some (pc + 1, lv, vI x.toInt32 :: r, vw) | _ => none)
  | .i2l => (match st with | .inl x :: r => some (pc + 1, lv, vL x.toInt64 :: r, vw) | _ => none)
  | .dup => (match st with | x :: r => bif za_c2 x then none else some (pc + 1, lv, x :: x :: r, vw) | _ => none)
  | .pop => (match st with | x :: r => bif za_c2 x then none else some (pc + 1, lv, r, vw) | _ => none)
  | .dup2 => (match st with | x :: y :: r => bif (za_c2 x || za_c2 y) then none else some (pc + 1, lv, x :: y :: x :: y :: r, vw) | _ => none)
  | .dup_x1 => (match st with | x :: y :: r => bif (za_c2 x || za_c2 y) then none else some (pc + 1, lv, x :: y :: x :: r, vw) | _ => none)
  | .goto d0 => (match (pc : Int) + d0 with | .ofNat t => some (t, lv, st, vw) | _ => none)
  | .getfield k0 => (match st with | .inr (.inr (some i)) :: r => (match za_vg vw i with | some cl => (match za_gc fl k0 cl with | some v => some (pc + 3, lv, v :: r, vw) | none => none) | none => none) | _ => none)
  | .putfield k0 => (match st with | v :: .inr (.inr (some i)) :: r => (match za_vg vw i with | some cl => (match za_pf fl k0 cl v with | some cl' => some (pc + 3, lv, r, za_vs vw i cl') | none => none) | none => none) | _ => none)
  | _ => none
section ZAROWS
variable {p : Program} {l : Launch} {e : Env} {R : Room} {s : State} {m : MethodId} {args : Array Value} {below : List Frame} {meth : Method} {c : Code} {D : za_D} {nL : Nat} {Q : State → Prop} {h0 : za_H} {n cells slots pc : Nat} {lv : List (Nat × za_V)} {st : List za_V} {vw : List (Nat × za_C)} {own : String} {cc : ByteArray} {cd : List (Nat × Instr × Nat)} {fl : List (Nat × Nat × Nat)} {ret : Option FieldType}
theorem za_P1 {D : va_G} {cl : List vw_C} {q : Nat × va_E} {H : Heap} (h : va_at D cl q H) : va_P D cl [q] H := by
  intro k x hx
  have hz : k < 1 := (List.getElem?_eq_some_iff.mp hx).1
  rw [show k = 0 by omega] at hx
  cases hx
  exact h
theorem za_getW (X : za_X p s m args meth c D own cc cd fl nL ret) {h : za_H} {H : Heap} {locs : List Loc} {ls : Array Slot} {rest : List Value} (hR : za_Rp D h n H) {i ci k idx : Nat} {fs : List za_V} {v : za_V} (hi : h i = some (.inr (ci, fs))) (hfl : (idx, ci, k) ∈ fl) (hv : fs[k]? = some v) (hd : decode cc pc = .ok (.getfield idx, 3))
    (kk : W p l e R s m args below meth c H locs cells slots Q (F0 m (pc + 3) ls (za_cv D.2.2 v :: rest))) : W p l e R s m args below meth c H locs cells slots Q (F0 m pc ls (.ref (D.2.2 + i) :: rest)) := by
  obtain ⟨hx, hb, hml, hown, hts, hK, hcd, hF, hr, hlocks, hz⟩ := X
  obtain ⟨C, T, N, hc, hk, hC, hlk⟩ := hF _ hfl
  have hok := za_cok _ _ _ _ hc
  have hP : va_P D.1 za_cl [(D.2.2 + i, .inr (ci, fs.map (za_cv D.2.2)))] H := za_P1 (hR.2.1 i _ hi)
  have hv' : (fs.map (za_cv D.2.2))[k]? = some (za_cv D.2.2 v) := by rw [List.getElem?_map, hv]; rfl
  rcases hlk with hlk | ⟨host, hlk⟩
  · exact va_get (ref := C) hx hb hts hok.1 hown hK hP 0 rfl hc k hk (hts _ hlk) (fun x h => by rw [hC] at h; exact h) hv' hd kk
  · exact va_getN (ref := C) hx hb hts hok.1 hown hK hP 0 rfl hc k hk (hts _ hlk) (fun x h => by rw [hC] at h; exact h) hv' hd kk
theorem za_putW (X : za_X p s m args meth c D own cc cd fl nL ret) {h : za_H} {H : Heap} {locs : List Loc} {ls : Array Slot} {rest : List Value} (hR : za_Rp D h n H) (hS : va_S (fun q : Nat => D.2.2 ≤ q) s.heap H locs) {i ci k idx : Nat} {fs : List za_V} {v : za_V} (hi : h i = some (.inr (ci, fs))) (hfl : (idx, ci, k) ∈ fl) (hv : za_okf (za_fty ci k) v = true) (hfin : za_fin ci k = false) (hl : k < fs.length) (hd : decode cc pc = .ok (.putfield idx, 3))
    (kk : ∀ (H1 : Heap) (locs1 : List Loc), za_Rp D (za_set h i (.inr (ci, fs.set k v))) n H1 → va_S (fun q : Nat => D.2.2 ≤ q) s.heap H1 locs1 → W p l e R s m args below meth c H1 locs1 cells slots Q (F0 m (pc + 3) ls rest)) : W p l e R s m args below meth c H locs cells slots Q (F0 m pc ls (za_cv D.2.2 v :: .ref (D.2.2 + i) :: rest)) := by
  obtain ⟨hx, hb, hml, hown, hts, hK, hcd, hF, hr, hlocks, hz⟩ := X
  obtain ⟨C, T, N, hc, hk, hC, hlk⟩ := hF _ hfl
  dsimp only at hc hk hC hlk
  obtain ⟨hin, hty, hnm, hfn⟩ := za_cok _ _ _ _ hc
  have hap := va_apart (own := own) hts hin (za_fty ci) hty hnm hK hc
  have hat : ∃ r : vw_C, za_cl[ci]? = some r ∧ t_OB (D.2.2 + i) (D.1.1 ci) r.2.2 (D.1.2 ci) H (vp_V (fs.map (za_cv D.2.2))) := hR.2.1 i _ hi
  obtain ⟨r, h1, cell, q1, q2, q3, q4⟩ := hat
  have hr' : r = (C, T, N) := Option.some.inj (h1.symm.trans hc)
  subst hr'
  obtain ⟨hSl, hfc, kC, hkC, hkind⟩ := hK.1 ci _ hc
  obtain ⟨cf, kf, fi, f, hif, hsl⟩ := hSl k hk
  have hlay := hts _ (hin _ (u_in_lay hk))
  unfold u_lay at hlay
  rw [if_neg (by rw [hfn k hk, hfin]; decide)] at hlay
  have hst := (u_facts hfc hkC (u_lays hts hin hk) hif).1
  obtain ⟨hn1, hn2⟩ := za_okf_ok hv D.2.2
  have h6 := u_store hfc hkC hkind hlay hif (hty k hk) hn1 hn2
  have hif' : s.fieldFound? C (T k).2.1 (T k).2.2.1 = some (cf, kf, fi, f) := by rw [hC] at hif; exact hif
  have hl' : k < (fs.map (za_cv D.2.2)).length := by rw [List.length_map]; exact hl
  have fin : ∀ H' : Heap, H'[D.2.2 + i]? = some (cell.setSlot f.slot (za_cv D.2.2 v)) → H'.size = H.size → (∀ q, q ≠ D.2.2 + i → H'[q]? = H[q]?) → W p l e R s m args below meth c H' (locs ++ [⟨D.2.2 + i, f.slot⟩]) cells slots Q (F0 m (pc + 3) ls rest) := by
    intro H' e1 e2 e3
    rw [hsl] at e1
    refine kk H' _ (hR.set e2 ?_ e3) (hS.put e2 e3 (Nat.le_add_right _ _))
    have g : t_OB (D.2.2 + i) (D.1.1 ci) N (D.1.2 ci) H' (vp_V ((fs.set k v).map (za_cv D.2.2))) := by
      rw [List.map_set]
      exact t_OB.to (V := updV (vp_V (fs.map (za_cv D.2.2))) k (za_cv D.2.2 v)) ⟨_, e1, q2, q3, t_set q4 hap hk (za_cv D.2.2 v)⟩ (fun j _ => vp_updV_set hl' (za_cv D.2.2 v) j)
    exact ⟨_, hc, g⟩
  rcases hlk with hlk | ⟨host, hlk⟩
  · exact W.putK hx hb (f := f) ⟨hown, hts _ hlk, ⟨_, _, _, hif'⟩, hst⟩ (by rw [q2]; exact h6) q1 q3 (by rw [hsl]; exact k2_hasslot (q4 k hk)) rfl rfl hd fin
  · exact va_WputK hx hb (f := f) hown (hts _ hlk) hif' hst (by rw [q2]; exact h6) q1 q3 (by rw [hsl]; exact k2_hasslot (q4 k hk)) rfl rfl hd fin
end ZAROWS

set_option maxHeartbeats 4000000 in
set_option maxRecDepth 100000 in
/-- ONE STEP of the plain instructions -/
theorem za_step {p : Program} {l : Launch} {e : Env} {R : Room} {s : State} {m : MethodId} {args : Array Value} {below : List Frame} {meth : Method} {c : Code} {D : za_D} {nL : Nat} {Q : State → Prop} {h0 : za_H} {n cells slots pc : Nat} {lv : List (Nat × za_V)} {st : List za_V} {vw : List (Nat × za_C)} {own : String} {cc : ByteArray} {cd : List (Nat × Instr × Nat)} {fl : List (Nat × Nat × Nat)} {ret : Option FieldType} (X : za_X p s m args meth c D own cc cd fl nL ret) {i : Instr} {len : Nat} (hf : za_fe cd pc = some (i, len)) (hln : Nat.beq len (za_ln i) = true) {pc' : Nat} {lv' : List (Nat × za_V)} {st' : List za_V} {vw' : List (Nat × za_C)} (hs : za_s1 fl nL pc i lv st vw = some (pc', lv', st', vw'))
    (k : za_W p l e R s m args below meth c D nL Q h0 n cells slots pc' lv' st' vw') : za_W p l e R s m args below meth c D nL Q h0 n cells slots pc lv st vw := by
  intro H locs ls hR hS hl
  obtain ⟨hx, hb, hml, hown, hts, hK, hcd, hF, hr, hlocks, hz⟩ := id X
  have hd := za_fe_ok hcd hf
  have hle := Nat.eq_of_beq_eq_true hln
  subst hle
  cases i with
  | iconst k0 =>
    have hs2 : some (pc + 1, lv, vI (Int32.ofInt k0) :: st, vw) = some (pc', lv', st', vw') := hs
    cases hs2
    exact lv_iconst hx hb hd rfl (k H locs ls hR hS hl)
  | bipush k0 =>
    have hs2 : some (pc + 2, lv, vI (Int8.ofInt k0).toInt32 :: st, vw) = some (pc', lv', st', vw') := hs
    cases hs2
    exact lv_bipush hx hb hd rfl (k H locs ls hR hS hl)
  | sipush k0 =>
    have hs2 : some (pc + 3, lv, vI (Int16.ofInt k0).toInt32 :: st, vw) = some (pc', lv', st', vw') := hs
    cases hs2
    exact lv_sipush hx hb hd rfl (k H locs ls hR hS hl)
  | lconst k0 =>
    have hs2 : some (pc + 1, lv, vL (Int64.ofNat k0.val) :: st, vw) = some (pc', lv', st', vw') := hs
    cases hs2
    exact lv_lconst hx hb hd rfl (k H locs ls hR hS hl)
  | aconst_null =>
    have hs2 : some (pc + 1, lv, vN :: st, vw) = some (pc', lv', st', vw') := hs
    cases hs2
    exact lv_null hx hb hd (k H locs ls hR hS hl)
  | iload_n k0 =>
    have hs2 : (match (generalizing := false) za_lg lv k0.val with | some (.inl x) => some (pc + 1, lv, vI x :: st, vw) | _ => none) = some (pc', lv', st', vw') := hs
    split at hs2
    · rename_i x he
      cases hs2
      exact lv_iload_n hx hb hd rfl (za_lm_at hl he) (k H locs ls hR hS hl)
    · cases hs2
  | iload k0 =>
    have hs2 : (match (generalizing := false) za_lg lv k0 with | some (.inl x) => some (pc + 2, lv, vI x :: st, vw) | _ => none) = some (pc', lv', st', vw') := hs
    split at hs2
    · rename_i x he
      cases hs2
      exact lv_iload hx hb hd (za_lm_at hl he) (k H locs ls hR hS hl)
    · cases hs2
  | lload_n k0 =>
    have hs2 : (match (generalizing := false) za_lg lv k0.val with | some (.inr (.inl x)) => some (pc + 1, lv, vL x :: st, vw) | _ => none) = some (pc', lv', st', vw') := hs
    split at hs2
    · rename_i x he
      cases hs2
      exact lv_lload_n hx hb hd rfl (za_lm_at hl he) (k H locs ls hR hS hl)
    · cases hs2
  | lload k0 =>
    have hs2 : (match (generalizing := false) za_lg lv k0 with | some (.inr (.inl x)) => some (pc + 2, lv, vL x :: st, vw) | _ => none) = some (pc', lv', st', vw') := hs
    split at hs2
    · rename_i x he
      cases hs2
      exact lv_lload hx hb hd (za_lm_at hl he) (k H locs ls hR hS hl)
    · cases hs2
  | aload_n k0 =>
    have hs2 : (match (generalizing := false) za_lg lv k0.val with | some (.inr (.inr x)) => some (pc + 1, lv, .inr (.inr x) :: st, vw) | _ => none) = some (pc', lv', st', vw') := hs
    split at hs2
    · rename_i x he
      cases hs2
      rcases x with _ | x
      · exact lv_aload_nN hx hb hd rfl (za_lm_at hl he) (k H locs ls hR hS hl)
      · exact lv_aload_n hx hb hd rfl (za_lm_at hl he) (k H locs ls hR hS hl)
    · cases hs2
  | aload k0 =>
    have hs2 : (match (generalizing := false) za_lg lv k0 with | some (.inr (.inr x)) => some (pc + 2, lv, .inr (.inr x) :: st, vw) | _ => none) = some (pc', lv', st', vw') := hs
    split at hs2
    · rename_i x he
      cases hs2
      rcases x with _ | x
      · exact lv_aloadN hx hb hd (za_lm_at hl he) (k H locs ls hR hS hl)
      · exact lv_aload hx hb hd (za_lm_at hl he) (k H locs ls hR hS hl)
    · cases hs2
  | istore_n k0 =>
    have hs2 : (match (generalizing := false) st with | .inl x :: r => bif (Nat.blt 0 k0.val && Nat.blt k0.val nL) then some (pc + 1, (k0.val, vI x) :: za_lf lv k0.val, r, vw) else none | _ => none) = some (pc', lv', st', vw') := hs
    split at hs2
    · rename_i x r
      cases hbn : (Nat.blt 0 k0.val && Nat.blt k0.val nL) with
      | false => rw [hbn] at hs2; cases hs2
      | true =>
        rw [hbn] at hs2
        cases hs2
        have hn0 : 0 < k0.val ∧ k0.val < nL := by simpa using hbn
        have hn := hn0.2
        exact lv_istore_n hx hb hd rfl hl hn rfl (fun ls' hl' => k H locs ls' hR hS (za_lh_sub hl' (za_lm_st hn0.1)))
    · cases hs2
  | istore k0 =>
    have hs2 : (match (generalizing := false) st with | .inl x :: r => bif (Nat.blt 0 k0 && Nat.blt k0 nL) then some (pc + 2, (k0, vI x) :: za_lf lv k0, r, vw) else none | _ => none) = some (pc', lv', st', vw') := hs
    split at hs2
    · rename_i x r
      cases hbn : (Nat.blt 0 k0 && Nat.blt k0 nL) with
      | false => rw [hbn] at hs2; cases hs2
      | true =>
        rw [hbn] at hs2
        cases hs2
        have hn0 : 0 < k0 ∧ k0 < nL := by simpa using hbn
        have hn := hn0.2
        exact lv_istore hx hb hd hl hn rfl (fun ls' hl' => k H locs ls' hR hS (za_lh_sub hl' (za_lm_st hn0.1)))
    · cases hs2
  | astore_n k0 =>
    have hs2 : (match (generalizing := false) st with | .inr (.inr x) :: r => bif (Nat.blt 0 k0.val && Nat.blt k0.val nL) then some (pc + 1, (k0.val, .inr (.inr x)) :: za_lf lv k0.val, r, vw) else none | _ => none) = some (pc', lv', st', vw') := hs
    split at hs2
    · rename_i x r
      cases hbn : (Nat.blt 0 k0.val && Nat.blt k0.val nL) with
      | false => rw [hbn] at hs2; cases hs2
      | true =>
        rw [hbn] at hs2
        cases hs2
        have hn0 : 0 < k0.val ∧ k0.val < nL := by simpa using hbn
        have hn := hn0.2
        rcases x with _ | x
        · exact lv_astore_nN hx hb hd rfl hl hn rfl (fun ls' hl' => k H locs ls' hR hS (za_lh_sub hl' (za_lm_st hn0.1)))
        · exact lv_astore_n hx hb hd rfl hl hn rfl (fun ls' hl' => k H locs ls' hR hS (za_lh_sub hl' (za_lm_st hn0.1)))
    · cases hs2
  | astore k0 =>
    have hs2 : (match (generalizing := false) st with | .inr (.inr x) :: r => bif (Nat.blt 0 k0 && Nat.blt k0 nL) then some (pc + 2, (k0, .inr (.inr x)) :: za_lf lv k0, r, vw) else none | _ => none) = some (pc', lv', st', vw') := hs
    split at hs2
    · rename_i x r
      cases hbn : (Nat.blt 0 k0 && Nat.blt k0 nL) with
      | false => rw [hbn] at hs2; cases hs2
      | true =>
        rw [hbn] at hs2
        cases hs2
        have hn0 : 0 < k0 ∧ k0 < nL := by simpa using hbn
        have hn := hn0.2
        rcases x with _ | x
        · exact lv_astoreN hx hb hd hl hn rfl (fun ls' hl' => k H locs ls' hR hS (za_lh_sub hl' (za_lm_st hn0.1)))
        · exact lv_astore hx hb hd hl hn rfl (fun ls' hl' => k H locs ls' hR hS (za_lh_sub hl' (za_lm_st hn0.1)))
    · cases hs2
  | iinc k0 d0 =>
    have hs2 : (match (generalizing := false) za_lg lv k0 with | some (.inl x) => bif (Nat.blt 0 k0 && Nat.blt k0 nL) then some (pc + 3, (k0, vI (x + Int32.ofInt d0)) :: za_lf lv k0, st, vw) else none | _ => none) = some (pc', lv', st', vw') := hs
    split at hs2
    · rename_i x he
      cases hbn : (Nat.blt 0 k0 && Nat.blt k0 nL) with
      | false => rw [hbn] at hs2; cases hs2
      | true =>
        rw [hbn] at hs2
        cases hs2
        have hn0 : 0 < k0 ∧ k0 < nL := by simpa using hbn
        have hn := hn0.2
        obtain ⟨j, hj⟩ := List.getElem?_of_mem (show (k0, Value.int x) ∈ za_lx args D.2.2 ++ za_lm D.2.2 lv from List.mem_append_right _ (List.mem_map.mpr ⟨(k0, vI x), za_lg_mem he, rfl⟩))
        exact lv_iinc hx hb hd hl hj rfl hn rfl (fun ls' hl' => k H locs ls' hR hS (za_lh_sub hl' (za_lm_st hn0.1)))
    · cases hs2
  | iadd =>
    have hs2 : (match (generalizing := false) st with | .inl y :: .inl x :: r => some (pc + 1, lv, vI (x + y) :: r, vw) | _ => none) = some (pc', lv', st', vw') := hs
    split at hs2
    · rename_i y x r
      cases hs2
      exact lv_iadd hx hb hd (k H locs ls hR hS hl)
    · cases hs2
  | isub =>
    have hs2 : (match (generalizing := false) st with | .inl y :: .inl x :: r => some (pc + 1, lv, vI (x - y) :: r, vw) | _ => none) = some (pc', lv', st', vw') := hs
    split at hs2
    · rename_i y x r
      cases hs2
      exact lv_isub hx hb hd (k H locs ls hR hS hl)
    · cases hs2
  | imul =>
    have hs2 : (match (generalizing := false) st with | .inl y :: .inl x :: r => some (pc + 1, lv, vI (x * y) :: r, vw) | _ => none) = some (pc', lv', st', vw') := hs
    split at hs2
    · rename_i y x r
      cases hs2
      exact lv_imul hx hb hd (k H locs ls hR hS hl)
    · cases hs2
  | iand =>
    have hs2 : (match (generalizing := false) st with | .inl y :: .inl x :: r => some (pc + 1, lv, vI (x &&& y) :: r, vw) | _ => none) = some (pc', lv', st', vw') := hs
    split at hs2
    · rename_i y x r
      cases hs2
      exact lv_iand hx hb hd (k H locs ls hR hS hl)
    · cases hs2
  | ior =>
    have hs2 : (match (generalizing := false) st with | .inl y :: .inl x :: r => some (pc + 1, lv, vI (x ||| y) :: r, vw) | _ => none) = some (pc', lv', st', vw') := hs
    split at hs2
    · rename_i y x r
      cases hs2
      exact lv_ior hx hb hd (k H locs ls hR hS hl)
    · cases hs2
  | ixor =>
    have hs2 : (match (generalizing := false) st with | .inl y :: .inl x :: r => some (pc + 1, lv, vI (x ^^^ y) :: r, vw) | _ => none) = some (pc', lv', st', vw') := hs
    split at hs2
    · rename_i y x r
      cases hs2
      exact lv_ixor hx hb hd (k H locs ls hR hS hl)
    · cases hs2
  | ishl =>
    have hs2 : (match (generalizing := false) st with | .inl y :: .inl x :: r => some (pc + 1, lv, vI (x <<< (y &&& 31)) :: r, vw) | _ => none) = some (pc', lv', st', vw') := hs
    split at hs2
    · rename_i y x r
      cases hs2
      exact lv_ishl hx hb hd (k H locs ls hR hS hl)
    · cases hs2
  | ishr =>
    have hs2 : (match (generalizing := false) st with | .inl y :: .inl x :: r => some (pc + 1, lv, vI (x >>> (y &&& 31)) :: r, vw) | _ => none) = some (pc', lv', st', vw') := hs
    split at hs2
    · rename_i y x r
      cases hs2
      exact lv_ishr hx hb hd (k H locs ls hR hS hl)
    · cases hs2
  | ineg =>
    have hs2 : (match (generalizing := false) st with | .inl x :: r => some (pc + 1, lv, vI (-x) :: r, vw) | _ => none) = some (pc', lv', st', vw') := hs
    split at hs2
    · rename_i x r
      cases hs2
      exact lv_ineg hx hb hd (k H locs ls hR hS hl)
    · cases hs2
  | ladd =>
    have hs2 : (match (generalizing := false) st with | .inr (.inl y) :: .inr (.inl x) :: r => some (pc + 1, lv, vL (x + y) :: r, vw) | _ => none) = some (pc', lv', st', vw') := hs
    split at hs2
    · rename_i y x r
      cases hs2
      exact lv_ladd hx hb hd (k H locs ls hR hS hl)
    · cases hs2
  | lsub =>
    have hs2 : (match (generalizing := false) st with | .inr (.inl y) :: .inr (.inl x) :: r => some (pc + 1, lv, vL (x - y) :: r, vw) | _ => none) = some (pc', lv', st', vw') := hs
    split at hs2
    · rename_i y x r
      cases hs2
      exact lv_lsub hx hb hd (k H locs ls hR hS hl)
    · cases hs2
  | land =>
    have hs2 : (match (generalizing := false) st with | .inr (.inl y) :: .inr (.inl x) :: r => some (pc + 1, lv, vL (x &&& y) :: r, vw) | _ => none) = some (pc', lv', st', vw') := hs
    split at hs2
    · rename_i y x r
      cases hs2
      exact lv_land hx hb hd (k H locs ls hR hS hl)
    · cases hs2
  | lor =>
    have hs2 : (match (generalizing := false) st with | .inr (.inl y) :: .inr (.inl x) :: r => some (pc + 1, lv, vL (x ||| y) :: r, vw) | _ => none) = some (pc', lv', st', vw') := hs
    split at hs2
    · rename_i y x r
      cases hs2
      exact lv_lor hx hb hd (k H locs ls hR hS hl)
    · cases hs2
  | lxor =>
    have hs2 : (match (generalizing := false) st with | .inr (.inl y) :: .inr (.inl x) :: r => some (pc + 1, lv, vL (x ^^^ y) :: r, vw) | _ => none) = some (pc', lv', st', vw') := hs
    split at hs2
    · rename_i y x r
      cases hs2
      exact lv_lxor hx hb hd (k H locs ls hR hS hl)
    · cases hs2
  | lshl =>
    have hs2 : (match (generalizing := false) st with | .inl y :: .inr (.inl x) :: r => some (pc + 1, lv, vL (x <<< (y.toInt64 &&& 63)) :: r, vw) | _ => none) = some (pc', lv', st', vw') := hs
    split at hs2
    · rename_i y x r
      cases hs2
      exact lv_lshl hx hb hd rfl (k H locs ls hR hS hl)
    · cases hs2
  | lshr =>
    have hs2 : (match (generalizing := false) st with | .inl y :: .inr (.inl x) :: r => some (pc + 1, lv, vL (x >>> (y.toInt64 &&& 63)) :: r, vw) | _ => none) = some (pc', lv', st', vw') := hs
    split at hs2
    · rename_i y x r
      cases hs2
      exact lv_lshr hx hb hd rfl (k H locs ls hR hS hl)
    · cases hs2
  | lcmp =>
    have hs2 : (match (generalizing := false) st with | .inr (.inl y) :: .inr (.inl x) :: r => some (pc + 1, lv, vI (lg_cmp x y) :: r, vw) | _ => none) = some (pc', lv', st', vw') := hs
    split at hs2
    · rename_i y x r
      cases hs2
      exact W.lcmp hx hb hd (k H locs ls hR hS hl)
    · cases hs2
  | l2i =>
    have hs2 : (match (generalizing := false) st with | .inr (.inl x) :: r => some (pc + 1, lv, vI x.toInt32 :: r, vw) | _ => none) = some (pc', lv', st', vw') := hs
    split at hs2
    · rename_i x r
      cases hs2
      exact lv_l2i hx hb hd rfl (k H locs ls hR hS hl)
    · cases hs2
  | i2l =>
    have hs2 : (match (generalizing := false) st with | .inl x :: r => some (pc + 1, lv, vL x.toInt64 :: r, vw) | _ => none) = some (pc', lv', st', vw') := hs
    split at hs2
    · rename_i x r
      cases hs2
      exact lv_i2l hx hb hd rfl (k H locs ls hR hS hl)
    · cases hs2
  | dup =>
    have hs2 : (match (generalizing := false) st with | x :: r => bif za_c2 x then none else some (pc + 1, lv, x :: x :: r, vw) | _ => none) = some (pc', lv', st', vw') := hs
    split at hs2
    · rename_i x r
      cases hc : za_c2 x with
      | true => rw [hc] at hs2; cases hs2
      | false =>
        rw [hc] at hs2
        cases hs2
        exact lv_dup hx hb hd (za_cat1 hc) (k H locs ls hR hS hl)
    · cases hs2
  | pop =>
    have hs2 : (match (generalizing := false) st with | x :: r => bif za_c2 x then none else some (pc + 1, lv, r, vw) | _ => none) = some (pc', lv', st', vw') := hs
    split at hs2
    · rename_i x r
      cases hc : za_c2 x with
      | true => rw [hc] at hs2; cases hs2
      | false =>
        rw [hc] at hs2
        cases hs2
        exact lv_pop hx hb hd (za_cat1 hc) (k H locs ls hR hS hl)
    · cases hs2
  | dup2 =>
    have hs2 : (match (generalizing := false) st with | x :: y :: r => bif (za_c2 x || za_c2 y) then none else some (pc + 1, lv, x :: y :: x :: y :: r, vw) | _ => none) = some (pc', lv', st', vw') := hs
    split at hs2
    · rename_i x y r
      cases hc : (za_c2 x || za_c2 y) with
      | true => rw [hc] at hs2; cases hs2
      | false =>
        rw [hc] at hs2
        cases hs2
        rw [Bool.or_eq_false_iff] at hc
        exact lv_dup2_11 hx hb hd (za_cat1 hc.1) (za_cat1 hc.2) (k H locs ls hR hS hl)
    · cases hs2
  | dup_x1 =>
    have hs2 : (match (generalizing := false) st with | x :: y :: r => bif (za_c2 x || za_c2 y) then none else some (pc + 1, lv, x :: y :: x :: r, vw) | _ => none) = some (pc', lv', st', vw') := hs
    split at hs2
    · rename_i x y r
      cases hc : (za_c2 x || za_c2 y) with
      | true => rw [hc] at hs2; cases hs2
      | false =>
        rw [hc] at hs2
        cases hs2
        rw [Bool.or_eq_false_iff] at hc
        exact lv_dup_x1 hx hb hd (za_cat1 hc.1) (za_cat1 hc.2) (k H locs ls hR hS hl)
    · cases hs2
  | goto d0 =>
    have hs2 : (match (generalizing := false) (pc : Int) + d0 with | .ofNat t => some (t, lv, st, vw) | _ => none) = some (pc', lv', st', vw') := hs
    split at hs2
    · rename_i t he
      cases hs2
      exact lv_goto hx hb hd he (k H locs ls hR hS hl)
    · cases hs2
  | getfield k0 =>
    have hs2 : (match (generalizing := false) st with | .inr (.inr (some i)) :: r => (match (generalizing := false) za_vg vw i with | some cl => (match (generalizing := false) za_gc fl k0 cl with | some v => some (pc + 3, lv, v :: r, vw) | none => none) | none => none) | _ => none) = some (pc', lv', st', vw') := hs
    split at hs2
    · rename_i j r
      split at hs2
      · rename_i cl hcl
        split at hs2
        · rename_i v hv
          cases hs2
          obtain ⟨ci, k1, fs, rfl, h1, h2⟩ := za_gc_ok hv
          exact za_getW X hR (za_ov_at hcl) h1 h2 hd (k H locs ls hR hS hl)
        · cases hs2
      · cases hs2
    · cases hs2
  | putfield k0 =>
    have hs2 : (match (generalizing := false) st with | v :: .inr (.inr (some i)) :: r => (match (generalizing := false) za_vg vw i with | some cl => (match (generalizing := false) za_pf fl k0 cl v with | some cl' => some (pc + 3, lv, r, za_vs vw i cl') | none => none) | none => none) | _ => none) = some (pc', lv', st', vw') := hs
    split at hs2
    · rename_i v j r
      split at hs2
      · rename_i cl hcl
        split at hs2
        · rename_i cl' hv
          cases hs2
          obtain ⟨ci, k1, fs, rfl, h1, h2, h3, h4, rfl⟩ := za_pf_ok hv
          exact za_putW X hR hS (za_ov_at hcl) h1 h2 h3 h4 hd (fun H1 locs1 hR1 hS1 => k H1 locs1 ls (by rw [za_ov_vs]; exact hR1) hS1 hl)
        · cases hs2
      · cases hs2
    · cases hs2
  | _ => cases hs
section ZABR
variable {p : Program} {l : Launch} {e : Env} {R : Room} {s : State} {m : MethodId} {args : Array Value} {below : List Frame} {meth : Method} {c : Code} {D : za_D} {nL : Nat} {Q : State → Prop} {h0 : za_H} {n cells slots pc : Nat} {lv : List (Nat × za_V)} {st : List za_V} {vw : List (Nat × za_C)} {own : String} {cc : ByteArray} {cd : List (Nat × Instr × Nat)} {fl : List (Nat × Nat × Nat)} {ret : Option FieldType}
theorem za_ifeq (X : za_X p s m args meth c D own cc cd fl nL ret) {x : Int32} {off : Int} (tgt : Nat) (hf : za_fe cd pc = some (.ifCond .eq off, 3)) (ht : (pc : Int) + off = (tgt : Int)) (kt : x = 0 → za_W p l e R s m args below meth c D nL Q h0 n cells slots tgt lv st vw) (kf : ¬ (x = 0) → za_W p l e R s m args below meth c D nL Q h0 n cells slots (pc + 3) lv st vw) : za_W p l e R s m args below meth c D nL Q h0 n cells slots pc lv (.inl x :: st) vw := by
  intro H locs ls hR hS hl
  exact lv_if_eq X.1 X.2.1 (za_fe_ok X.2.2.2.2.2.2.1 hf) ht (fun q => kt (by first | exact q | simpa using q) H locs ls hR hS hl) (fun q => kf (by first | exact q | simpa using q) H locs ls hR hS hl)
theorem za_ifne (X : za_X p s m args meth c D own cc cd fl nL ret) {x : Int32} {off : Int} (tgt : Nat) (hf : za_fe cd pc = some (.ifCond .ne off, 3)) (ht : (pc : Int) + off = (tgt : Int)) (kt : ¬ x = 0 → za_W p l e R s m args below meth c D nL Q h0 n cells slots tgt lv st vw) (kf : x = 0 → za_W p l e R s m args below meth c D nL Q h0 n cells slots (pc + 3) lv st vw) : za_W p l e R s m args below meth c D nL Q h0 n cells slots pc lv (.inl x :: st) vw := by
  intro H locs ls hR hS hl
  exact lv_if_ne X.1 X.2.1 (za_fe_ok X.2.2.2.2.2.2.1 hf) ht (fun q => kt (by first | exact q | simpa using q) H locs ls hR hS hl) (fun q => kf (by first | exact q | simpa using q) H locs ls hR hS hl)
theorem za_iflt (X : za_X p s m args meth c D own cc cd fl nL ret) {x : Int32} {off : Int} (tgt : Nat) (hf : za_fe cd pc = some (.ifCond .lt off, 3)) (ht : (pc : Int) + off = (tgt : Int)) (kt : x < 0 → za_W p l e R s m args below meth c D nL Q h0 n cells slots tgt lv st vw) (kf : ¬ (x < 0) → za_W p l e R s m args below meth c D nL Q h0 n cells slots (pc + 3) lv st vw) : za_W p l e R s m args below meth c D nL Q h0 n cells slots pc lv (.inl x :: st) vw := by
  intro H locs ls hR hS hl
  exact lv_if_lt X.1 X.2.1 (za_fe_ok X.2.2.2.2.2.2.1 hf) ht (fun q => kt (by first | exact q | simpa using q) H locs ls hR hS hl) (fun q => kf (by first | exact q | simpa using q) H locs ls hR hS hl)
theorem za_ifge (X : za_X p s m args meth c D own cc cd fl nL ret) {x : Int32} {off : Int} (tgt : Nat) (hf : za_fe cd pc = some (.ifCond .ge off, 3)) (ht : (pc : Int) + off = (tgt : Int)) (kt : 0 ≤ x → za_W p l e R s m args below meth c D nL Q h0 n cells slots tgt lv st vw) (kf : ¬ (0 ≤ x) → za_W p l e R s m args below meth c D nL Q h0 n cells slots (pc + 3) lv st vw) : za_W p l e R s m args below meth c D nL Q h0 n cells slots pc lv (.inl x :: st) vw := by
  intro H locs ls hR hS hl
  exact lv_if_ge X.1 X.2.1 (za_fe_ok X.2.2.2.2.2.2.1 hf) ht (fun q => kt (by first | exact q | simpa using q) H locs ls hR hS hl) (fun q => kf (by first | exact q | simpa using q) H locs ls hR hS hl)
theorem za_ifgt (X : za_X p s m args meth c D own cc cd fl nL ret) {x : Int32} {off : Int} (tgt : Nat) (hf : za_fe cd pc = some (.ifCond .gt off, 3)) (ht : (pc : Int) + off = (tgt : Int)) (kt : 0 < x → za_W p l e R s m args below meth c D nL Q h0 n cells slots tgt lv st vw) (kf : ¬ (0 < x) → za_W p l e R s m args below meth c D nL Q h0 n cells slots (pc + 3) lv st vw) : za_W p l e R s m args below meth c D nL Q h0 n cells slots pc lv (.inl x :: st) vw := by
  intro H locs ls hR hS hl
  exact lv_if_gt X.1 X.2.1 (za_fe_ok X.2.2.2.2.2.2.1 hf) ht (fun q => kt (by first | exact q | simpa using q) H locs ls hR hS hl) (fun q => kf (by first | exact q | simpa using q) H locs ls hR hS hl)
theorem za_ifle (X : za_X p s m args meth c D own cc cd fl nL ret) {x : Int32} {off : Int} (tgt : Nat) (hf : za_fe cd pc = some (.ifCond .le off, 3)) (ht : (pc : Int) + off = (tgt : Int)) (kt : x ≤ 0 → za_W p l e R s m args below meth c D nL Q h0 n cells slots tgt lv st vw) (kf : ¬ (x ≤ 0) → za_W p l e R s m args below meth c D nL Q h0 n cells slots (pc + 3) lv st vw) : za_W p l e R s m args below meth c D nL Q h0 n cells slots pc lv (.inl x :: st) vw := by
  intro H locs ls hR hS hl
  exact lv_if_le X.1 X.2.1 (za_fe_ok X.2.2.2.2.2.2.1 hf) ht (fun q => kt (by first | exact q | simpa using q) H locs ls hR hS hl) (fun q => kf (by first | exact q | simpa using q) H locs ls hR hS hl)
theorem za_iceq (X : za_X p s m args meth c D own cc cd fl nL ret) {x y : Int32} {off : Int} (tgt : Nat) (hf : za_fe cd pc = some (.if_icmp .eq off, 3)) (ht : (pc : Int) + off = (tgt : Int)) (kt : x = y → za_W p l e R s m args below meth c D nL Q h0 n cells slots tgt lv st vw) (kf : ¬ (x = y) → za_W p l e R s m args below meth c D nL Q h0 n cells slots (pc + 3) lv st vw) : za_W p l e R s m args below meth c D nL Q h0 n cells slots pc lv (.inl y :: .inl x :: st) vw := by
  intro H locs ls hR hS hl
  exact lv_icmp_eq X.1 X.2.1 (za_fe_ok X.2.2.2.2.2.2.1 hf) ht (fun q => kt (by first | exact q | simpa using q) H locs ls hR hS hl) (fun q => kf (by first | exact q | simpa using q) H locs ls hR hS hl)
theorem za_icne (X : za_X p s m args meth c D own cc cd fl nL ret) {x y : Int32} {off : Int} (tgt : Nat) (hf : za_fe cd pc = some (.if_icmp .ne off, 3)) (ht : (pc : Int) + off = (tgt : Int)) (kt : ¬ x = y → za_W p l e R s m args below meth c D nL Q h0 n cells slots tgt lv st vw) (kf : x = y → za_W p l e R s m args below meth c D nL Q h0 n cells slots (pc + 3) lv st vw) : za_W p l e R s m args below meth c D nL Q h0 n cells slots pc lv (.inl y :: .inl x :: st) vw := by
  intro H locs ls hR hS hl
  exact lv_icmp_ne X.1 X.2.1 (za_fe_ok X.2.2.2.2.2.2.1 hf) ht (fun q => kt (by first | exact q | simpa using q) H locs ls hR hS hl) (fun q => kf (by first | exact q | simpa using q) H locs ls hR hS hl)
theorem za_iclt (X : za_X p s m args meth c D own cc cd fl nL ret) {x y : Int32} {off : Int} (tgt : Nat) (hf : za_fe cd pc = some (.if_icmp .lt off, 3)) (ht : (pc : Int) + off = (tgt : Int)) (kt : x < y → za_W p l e R s m args below meth c D nL Q h0 n cells slots tgt lv st vw) (kf : ¬ (x < y) → za_W p l e R s m args below meth c D nL Q h0 n cells slots (pc + 3) lv st vw) : za_W p l e R s m args below meth c D nL Q h0 n cells slots pc lv (.inl y :: .inl x :: st) vw := by
  intro H locs ls hR hS hl
  exact lv_icmp_lt X.1 X.2.1 (za_fe_ok X.2.2.2.2.2.2.1 hf) ht (fun q => kt (by first | exact q | simpa using q) H locs ls hR hS hl) (fun q => kf (by first | exact q | simpa using q) H locs ls hR hS hl)
theorem za_icge (X : za_X p s m args meth c D own cc cd fl nL ret) {x y : Int32} {off : Int} (tgt : Nat) (hf : za_fe cd pc = some (.if_icmp .ge off, 3)) (ht : (pc : Int) + off = (tgt : Int)) (kt : y ≤ x → za_W p l e R s m args below meth c D nL Q h0 n cells slots tgt lv st vw) (kf : ¬ (y ≤ x) → za_W p l e R s m args below meth c D nL Q h0 n cells slots (pc + 3) lv st vw) : za_W p l e R s m args below meth c D nL Q h0 n cells slots pc lv (.inl y :: .inl x :: st) vw := by
  intro H locs ls hR hS hl
  exact lv_icmp_ge X.1 X.2.1 (za_fe_ok X.2.2.2.2.2.2.1 hf) ht (fun q => kt (by first | exact q | simpa using q) H locs ls hR hS hl) (fun q => kf (by first | exact q | simpa using q) H locs ls hR hS hl)
theorem za_icgt (X : za_X p s m args meth c D own cc cd fl nL ret) {x y : Int32} {off : Int} (tgt : Nat) (hf : za_fe cd pc = some (.if_icmp .gt off, 3)) (ht : (pc : Int) + off = (tgt : Int)) (kt : y < x → za_W p l e R s m args below meth c D nL Q h0 n cells slots tgt lv st vw) (kf : ¬ (y < x) → za_W p l e R s m args below meth c D nL Q h0 n cells slots (pc + 3) lv st vw) : za_W p l e R s m args below meth c D nL Q h0 n cells slots pc lv (.inl y :: .inl x :: st) vw := by
  intro H locs ls hR hS hl
  exact lv_icmp_gt X.1 X.2.1 (za_fe_ok X.2.2.2.2.2.2.1 hf) ht (fun q => kt (by first | exact q | simpa using q) H locs ls hR hS hl) (fun q => kf (by first | exact q | simpa using q) H locs ls hR hS hl)
theorem za_icle (X : za_X p s m args meth c D own cc cd fl nL ret) {x y : Int32} {off : Int} (tgt : Nat) (hf : za_fe cd pc = some (.if_icmp .le off, 3)) (ht : (pc : Int) + off = (tgt : Int)) (kt : x ≤ y → za_W p l e R s m args below meth c D nL Q h0 n cells slots tgt lv st vw) (kf : ¬ (x ≤ y) → za_W p l e R s m args below meth c D nL Q h0 n cells slots (pc + 3) lv st vw) : za_W p l e R s m args below meth c D nL Q h0 n cells slots pc lv (.inl y :: .inl x :: st) vw := by
  intro H locs ls hR hS hl
  exact lv_icmp_le X.1 X.2.1 (za_fe_ok X.2.2.2.2.2.2.1 hf) ht (fun q => kt (by first | exact q | simpa using q) H locs ls hR hS hl) (fun q => kf (by first | exact q | simpa using q) H locs ls hR hS hl)
/-- a switch by a table, the number known -/
theorem za_tsw (X : za_X p s m args meth c D own cc cd fl nL ret) {x : Int32} {dflt lo hi : Int} {offs : Array Int} {len : Nat} {off : Int} (v : Int) (tgt : Nat) (hf : za_fe cd pc = some (.tableswitch dflt lo hi offs, len)) (hx : x.toInt = v) (h1 : ¬ v < lo) (h2 : ¬ hi < v) (ho : offs[(v - lo).toNat]? = some off) (ht : (pc : Int) + off = (tgt : Int)) (kk : za_W p l e R s m args below meth c D nL Q h0 n cells slots tgt lv st vw) : za_W p l e R s m args below meth c D nL Q h0 n cells slots pc lv (.inl x :: st) vw := by
  intro H locs ls hR hS hl
  subst hx
  exact lv_tableIn X.1 X.2.1 (za_fe_ok X.2.2.2.2.2.2.1 hf) h1 h2 ho ht (kk H locs ls hR hS hl)
theorem za_tsd (X : za_X p s m args meth c D own cc cd fl nL ret) {x : Int32} {dflt lo hi : Int} {offs : Array Int} {len : Nat} (tgt : Nat) (hf : za_fe cd pc = some (.tableswitch dflt lo hi offs, len)) (h : x.toInt < lo ∨ hi < x.toInt) (ht : (pc : Int) + dflt = (tgt : Int)) (kk : za_W p l e R s m args below meth c D nL Q h0 n cells slots tgt lv st vw) : za_W p l e R s m args below meth c D nL Q h0 n cells slots pc lv (.inl x :: st) vw := by
  intro H locs ls hR hS hl
  exact lv_tableOut X.1 X.2.1 (za_fe_ok X.2.2.2.2.2.2.1 hf) h ht (kk H locs ls hR hS hl)
theorem za_idiv (X : za_X p s m args meth c D own cc cd fl nL ret) {x y : Int32} (hf : za_fe cd pc = some (.idiv, 1)) (hne : ¬ y = 0) (kk : za_W p l e R s m args below meth c D nL Q h0 n cells slots (pc + 1) lv (vI (x / y) :: st) vw) : za_W p l e R s m args below meth c D nL Q h0 n cells slots pc lv (.inl y :: .inl x :: st) vw := by
  intro H locs ls hR hS hl
  exact lv_idiv X.1 X.2.1 (za_fe_ok X.2.2.2.2.2.2.1 hf) hne (kk H locs ls hR hS hl)
/-- the same heap seen through another list -/
theorem za_look {h1 : za_H} {v1 : List (Nat × za_C)} (he : za_ov h1 v1 = za_ov h0 vw) (kk : za_W p l e R s m args below meth c D nL Q h1 n cells slots pc lv st v1) : za_W p l e R s m args below meth c D nL Q h0 n cells slots pc lv st vw := by
  intro H locs ls hR hS hl
  exact kk H locs ls (by rw [he]; exact hR) hS hl
/-- take a list to look through -/
theorem za_view (v1 : List (Nat × za_C)) (he : ∀ q ∈ v1, h0 q.1 = some q.2) (kk : za_W p l e R s m args below meth c D nL Q h0 n cells slots pc lv st v1) : za_W p l e R s m args below meth c D nL Q h0 n cells slots pc lv st [] := za_look (by rw [za_ov_same he]; rfl) kk
/-- put the list away -/
theorem za_away (kk : za_W p l e R s m args below meth c D nL Q (za_ov h0 vw) n cells slots pc lv st []) : za_W p l e R s m args below meth c D nL Q h0 n cells slots pc lv st vw := za_look rfl kk
/-- fewer locals, in another order -/
theorem za_loc (lv1 : List (Nat × za_V)) (he : lv1.map (fun q => za_lg lv q.1) = lv1.map (fun q => some q.2)) (kk : za_W p l e R s m args below meth c D nL Q h0 n cells slots pc lv1 st vw) : za_W p l e R s m args below meth c D nL Q h0 n cells slots pc lv st vw := by
  intro H locs ls hR hS hl
  refine kk H locs ls hR hS (za_lh_sub hl fun q hq => ?_)
  rcases List.mem_append.mp hq with hq | hq
  · exact List.mem_append_left _ hq
  obtain ⟨r, hr, rfl⟩ := List.mem_map.mp hq
  have h2 : ∀ q ∈ lv1, za_lg lv q.1 = some q.2 := List.map_inj_left.mp he
  exact List.mem_append_right _ (List.mem_map.mpr ⟨r, za_lg_mem (h2 r hr), rfl⟩)
theorem za_wid {k1 k2 : Nat} (h1 : cells ≤ k1) (h2 : slots ≤ k2) (kk : za_W p l e R s m args below meth c D nL Q h0 n k1 k2 pc lv st vw) : za_W p l e R s m args below meth c D nL Q h0 n cells slots pc lv st vw := by
  intro H locs ls hR hS hl
  exact W.widen h1 h2 (kk H locs ls hR hS hl)
end ZABR
end
section
/-! CONTRACTS over the whole picture. A method: its name, bytes, locals, what it returns -/
abbrev za_Y : Type := MethodName × ByteArray × Nat × Option FieldType
def za_Q (D : za_D) (Post : Option za_V → za_H → Nat → Prop) : Array Value → State → Outcome → State → Prop := fun _ st o t => ∃ (v : Option za_V) (h' : za_H) (n' : Nat), o = .returned (v.map (za_cv D.2.2)) ∧ Post v h' n' ∧ za_Rp D h' n' t.heap ∧ va_F (fun q : Nat => D.2.2 ≤ q) st t
def za_P (D : za_D) (av : List za_V) (h : za_H) (n : Nat) : Array Value → State → Prop := va_Pc (av.map (za_cv D.2.2)) (fun U => za_Rp D h n U.heap ∧ va_K D.1 za_cl (za_tys D) U)
def za_rm (d mc ms : Nat) : Room := { frames := d, cells := mc, slots := ms, locals := 40 * d }
def za_ws (Y : za_Y) : List Cond := Cond.code Y.1 Y.2.1 Y.2.2.1 Y.2.2.2 :: za_tt
/-- CONTRACT: called with av at the picture h of n cells, Y returns, and what it returns and leaves is as Post says; d: calls open at once below it; at most mc new cells of ms slots -/
def za_M (l : Launch) (D : za_D) (Y : za_Y) (d mc ms : Nat) (av : List za_V) (h : za_H) (n : Nat) (Post : Option za_V → za_H → Nat → Prop) : Prop :=
  Met l Y.1 (za_ws Y) (za_rm d mc ms) (za_P D av h n) (za_Q D Post) mc ms (fun q : Nat => D.2.2 ≤ q)
theorem za_blind (D : za_D) (av : List za_V) (h : za_H) (n : Nat) : FrameBlind (za_P D av h n) := fun a U g mk q => ⟨q.1, q.2.1, va_K.moved (u := U) (U := U.calling g mk a) (Vm.Alike.refl U.vm) q.2.2⟩
def za_ar : Nat → List za_V → List (Nat × za_V)
  | _, [] => []
  | i, v :: t => (i, v) :: za_ar (bif za_c2 v then i + 2 else i + 1) t
theorem za_ar_eq (z : Nat) (av : List za_V) : ∀ i : Nat, za_lm z (za_ar i av) = lv_args i (av.map (za_cv z)) := by
  induction av with
  | nil => intro i; rfl
  | cons v t ih =>
    intro i
    show (i, za_cv z v) :: za_lm z (za_ar (bif za_c2 v then i + 2 else i + 1) t) = (i, za_cv z v) :: lv_args (if (za_cv z v).category = 2 then i + 2 else i + 1) (t.map (za_cv z))
    rw [ih, za_cat]
    cases za_c2 v <;> rfl
set_option maxHeartbeats 1000000 in
/-- a contract out of a walk from the entry -/
theorem za_enter {l : Launch} {D : za_D} {Y : za_Y} {d mc ms n : Nat} {av : List za_V} {h : za_H} {Post : Option za_V → za_H → Nat → Prop} (cd : List (Nat × Instr × Nat)) (fl : List (Nat × Nat × Nat)) (hy : plainName Y.1.cls = true) (hcd : ∀ q ∈ cd, decode Y.2.1 q.1 = .ok q.2) (hfl : ∀ q ∈ fl, za_FL Y.1.cls q) (hlen : (lg_sl (av.map (za_cv D.2.2))).length ≤ Y.2.2.1)
    (body : ∀ (p : Program) (e : Env) (s : State) (m : MethodId) (args : Array Value) (below : List Frame) (meth : Method) (c : Code), za_X p s m args meth c D Y.1.cls Y.2.1 cd fl Y.2.2.1 Y.2.2.2 → meth.name = Y.1.name →
      za_W p l e (za_rm d mc ms) s m args below meth c D Y.2.2.1 (MQ below (za_Q D Post) args s mc ms (fun q : Nat => D.2.2 ≤ q)) h n 0 0 0 (za_ar 0 av) [] []) : za_M l D Y d mc ms av h n Post := by
  unfold za_M
  refine Met.ofW (cc := Y.2.1) (maxL := Y.2.2.1) (ret := Y.2.2.2) hy rfl ?_
  intro p e s m args below meth c s₁ B hml hv
  obtain ⟨rfl, hR, hK⟩ := hv
  have hts := atoms_spec (ws := za_ws Y) B.pre
  have hl := lv_entry (av.map (za_cv D.2.2)) (n := Y.2.2.1) hlen
  rw [lg_entry_eq]
  refine body p e s m _ below meth c ⟨B.exec, B.bytes, hml, findClass_of_methodNamed B.named, fun w hw => hts w (List.mem_cons_of_mem _ hw), hK, hcd, hfl, B.returns, B.notSynchronized, by rw [hR.1]; exact Nat.le_add_right _ _⟩ (name_of_methodNamed B.named B.method).1 s.heap [] _ hR va_S.rf ?_
  show lv_has _ _ (za_lx _ _ ++ _)
  rw [za_lx_0, List.nil_append, za_ar_eq]
  exact hl

section ZAEND
variable {p : Program} {l : Launch} {e : Env} {R : Room} {s : State} {m : MethodId} {args : Array Value} {below : List Frame} {meth : Method} {c : Code} {D : za_D} {nL : Nat} {Q : State → Prop} {h0 : za_H} {n cells slots pc : Nat} {lv : List (Nat × za_V)} {st : List za_V} {vw : List (Nat × za_C)} {own : String} {cc : ByteArray} {cd : List (Nat × Instr × Nat)} {fl : List (Nat × Nat × Nat)} {ret : Option FieldType} {mc ms : Nat} {Post : Option za_V → za_H → Nat → Prop}
theorem za_iret (X : za_X p s m args meth c D own cc cd fl nL (some .int)) {x : Int32} (hf : za_fe cd pc = some (.ireturn, 1)) (hp : Post (some (vI x)) (za_ov h0 vw) n) (hc : cells ≤ mc) (hs : slots ≤ ms) : za_W p l e R s m args below meth c D nL (MQ below (za_Q D Post) args s mc ms (fun q : Nat => D.2.2 ≤ q)) h0 n cells slots pc lv [.inl x] vw := by
  intro H locs ls hR hS hl
  refine W.widen hc hs ?_
  exact W.iret (v := x) X.1 X.2.1 X.2.2.2.2.2.2.2.2.1 (fun t ht hW => ⟨some (vI x), za_ov h0 vw, n, rfl, hp, by rw [ht]; exact hR, hS.F ht⟩) hS.2.2 (za_fe_ok X.2.2.2.2.2.2.1 hf) (hlocks := X.2.2.2.2.2.2.2.2.2.1)
theorem za_zret (X : za_X p s m args meth c D own cc cd fl nL (some .boolean)) {x : Int32} (hf : za_fe cd pc = some (.ireturn, 1)) (h01 : x = 0 ∨ x = 1) (hp : Post (some (vI x)) (za_ov h0 vw) n) (hc : cells ≤ mc) (hs : slots ≤ ms) : za_W p l e R s m args below meth c D nL (MQ below (za_Q D Post) args s mc ms (fun q : Nat => D.2.2 ≤ q)) h0 n cells slots pc lv [.inl x] vw := by
  intro H locs ls hR hS hl
  refine W.widen hc hs ?_
  exact W.zret (v := x) X.1 X.2.1 X.2.2.2.2.2.2.2.2.1 (by rcases h01 with rfl | rfl <;> decide) (fun t ht hW => ⟨some (vI x), za_ov h0 vw, n, rfl, hp, by rw [ht]; exact hR, hS.F ht⟩) hS.2.2 (za_fe_ok X.2.2.2.2.2.2.1 hf) (hlocks := X.2.2.2.2.2.2.2.2.2.1)
theorem za_lret (X : za_X p s m args meth c D own cc cd fl nL (some .long)) {x : Int64} (hf : za_fe cd pc = some (.lreturn, 1)) (hp : Post (some (vL x)) (za_ov h0 vw) n) (hc : cells ≤ mc) (hs : slots ≤ ms) : za_W p l e R s m args below meth c D nL (MQ below (za_Q D Post) args s mc ms (fun q : Nat => D.2.2 ≤ q)) h0 n cells slots pc lv [.inr (.inl x)] vw := by
  intro H locs ls hR hS hl
  refine W.widen hc hs ?_
  exact W.lret (v := x) X.1 X.2.1 X.2.2.2.2.2.2.2.2.1 (fun t ht hW => ⟨some (vL x), za_ov h0 vw, n, rfl, hp, by rw [ht]; exact hR, hS.F ht⟩) hS.2.2 (za_fe_ok X.2.2.2.2.2.2.1 hf) (hlocks := X.2.2.2.2.2.2.2.2.2.1)
theorem za_vret (X : za_X p s m args meth c D own cc cd fl nL none) (hf : za_fe cd pc = some (.return_, 1)) (hp : Post none (za_ov h0 vw) n) (hc : cells ≤ mc) (hs : slots ≤ ms) : za_W p l e R s m args below meth c D nL (MQ below (za_Q D Post) args s mc ms (fun q : Nat => D.2.2 ≤ q)) h0 n cells slots pc lv [] vw := by
  intro H locs ls hR hS hl
  refine W.widen hc hs ?_
  exact W.vret X.1 X.2.1 X.2.2.2.2.2.2.2.2.1 (fun t ht hW => ⟨none, za_ov h0 vw, n, rfl, hp, by rw [ht]; exact hR, hS.F ht⟩) hS.2.2 (za_fe_ok X.2.2.2.2.2.2.1 hf) (hlocks := X.2.2.2.2.2.2.2.2.2.1)
end ZAEND
/-! CALLS -/
def za_CL (own : String) (idx : Nat) (y : MethodName) : Prop := Cond.methodLink own idx y ∈ za_tt ∨ ∃ host : String, Cond.methodLinkNest own idx y host ∈ za_tt
/-- a method's own words: its code, its class, how many parameters -/
def za_CY (Y : za_Y) (np : Nat) : Prop := Cond.code Y.1 Y.2.1 Y.2.2.1 Y.2.2.2 ∈ za_tt ∧ Cond.initialized Y.1.cls ∈ za_tt ∧ (Y.1.cls ≠ "java/lang/invoke/MethodHandle" ∧ Y.1.cls ≠ "java/lang/invoke/VarHandle") ∧ (parseMethodDescriptor Y.1.desc).map (fun d => d.parameters.length) = some np
def za_CV (Y : za_Y) : Prop := Cond.instanceMethod Y.1 ∈ za_tt ∧ Cond.selects Y.1.cls Y.1 Y.1 ∈ za_tt
def za_CI (Y : za_Y) : Prop := Cond.instanceMethod Y.1 ∈ za_tt ∧ Y.1.name = "<init>" ∧ Y.2.2.2 = none
def za_CS (Y : za_Y) : Prop := Cond.static Y.1 ∈ za_tt
theorem za_wsp (Y : za_Y) {np : Nat} (hY : za_CY Y np) {args : Array Value} {s : State} (hts : ∀ w ∈ za_tt, w.before args s = true) : ∀ w ∈ za_ws Y, ∀ (a' : Array Value) (U : State), s.WarmedH U.vm → w.before a' U = true := by
  intro w hw a' U hW
  rcases List.mem_cons.mp hw with rfl | hw
  · exact za_pay _ hY.1 (hts _ hY.1) hW
  · exact za_pay _ hw (hts _ hw) hW
theorem za_npar {Y : za_Y} {np : Nat} (hY : za_CY Y np) : ∀ sig, parseMethodDescriptor Y.1.desc = some sig → np = sig.parameters.length := by
  intro sig h
  have h2 := hY.2.2.2
  rw [h] at h2
  exact (Option.some.inj h2).symm
def za_wt (st : List za_V) : Nat := (st.map (fun v => bif za_c2 v then 2 else 1)).sum
theorem za_wt_eq (z : Nat) (st : List za_V) : ((st.map (za_cv z)).map fun v => v.category).sum = za_wt st := by
  unfold za_wt
  rw [List.map_map]
  congr 1
  refine List.map_congr_left fun v _ => ?_
  show (za_cv z v).category = _
  rw [za_cat]
  cases za_c2 v <;> rfl
section ZACALL
variable {p : Program} {l : Launch} {e : Env} {R : Room} {s : State} {m : MethodId} {args : Array Value} {below : List Frame} {meth : Method} {c : Code} {D : za_D} {nL : Nat} {Q : State → Prop} {h0 : za_H} {n cells slots pc : Nat} {lv : List (Nat × za_V)} {st : List za_V} {vw : List (Nat × za_C)} {own : String} {cc : ByteArray} {cd : List (Nat × Instr × Nat)} {fl : List (Nat × Nat × Nat)} {ret : Option FieldType} {mc ms d np idx b : Nat} {Y : za_Y} {as rest : List za_V} {Post : Option za_V → za_H → Nat → Prop}
theorem za_after {H : Heap} {locs : List Loc} {ls : Array Slot} {st0 rst : List Value} {a : Array Value} (hr : va_Run p l e R s m args below meth c H locs cells slots mc ms (F0 m pc ls st0) rst (za_Q D Post a) (fun q : Nat => D.2.2 ≤ q)) (hS : va_S (fun q : Nat => D.2.2 ≤ q) s.heap H locs)
    (kk : ∀ (v : Option za_V) (h' : za_H) (n' : Nat) (H1 : Heap) (locs1 : List Loc), Post v h' n' → za_Rp D h' n' H1 → va_S (fun q : Nat => D.2.2 ≤ q) s.heap H1 locs1 → W p l e R s m args below meth c H1 locs1 (cells + mc) (slots + ms) Q (F0 m (pc + 3) ls ((v.map (za_cv D.2.2)).toList ++ rst))) : W p l e R s m args below meth c H locs cells slots Q (F0 m pc ls st0) := by
  intro T hT X
  obtain ⟨v0, st₀, t, T', L, e0, X', hL, e1, e2, ⟨v, h', n', hv, hp, hRp, hF1, hF2⟩, stp⟩ := hr T hT X
  cases hv
  rw [e0] at hF1 hF2
  obtain ⟨t2, a1, b1⟩ := kk v h' n' T'.heap (locs ++ L) hp (by rw [e1]; exact hRp)
    ⟨Nat.le_trans hS.1 (by rw [e1]; exact hF1), fun q h1 h2 => by rw [e1, hF2 q (Nat.lt_of_lt_of_le h1 hS.1) h2]; exact hS.2.1 q h1 h2, fun q hq => by
      rcases List.mem_append.mp hq with h | h
      · exact hS.2.2 q h
      · exact hL q h⟩ T' rfl X'
  exact ⟨t2, stp t2 a1, b1⟩
theorem za_toL (z : Nat) (v : Option za_V) (rest : List za_V) : (v.map (za_cv z)).toList ++ rest.map (za_cv z) = (v.toList ++ rest).map (za_cv z) := by
  cases v <;> simp
set_option maxHeartbeats 1000000 in
/-- a method of an object -/
theorem za_callV (X : za_X p s m args meth c D own cc cd fl nL ret) (hf : za_fe cd pc = some (.invokevirtual idx, 3)) (hL : za_CL own idx Y.1) (hY : za_CY Y np) (hV : za_CV Y) (hM : za_M l D Y d mc ms (vR b :: as) (za_ov h0 vw) n Post) (hst : st = as.reverse ++ vR b :: rest) (hnp : as.length = np)
    {ci N : Nat} {fs : List za_V} {T : u_T} (hrc : za_ov h0 vw b = some (.inr (ci, fs))) (hcl : za_cl[ci]? = some (Y.1.cls, T, N)) (hw : za_wt rest ≤ 8) (hfr : d + 1 ≤ R.frames) (hlo : 8 + (Y.2.2.1 + 11) + 40 * d ≤ R.locals) (hce : cells + mc ≤ R.cells) (hsl : slots + ms ≤ R.slots)
    (kk : ∀ (v : Option za_V) (h' : za_H) (n' : Nat), Post v h' n' → za_W p l e R s m args below meth c D nL Q h' n' (cells + mc) (slots + ms) (pc + 3) lv (v.toList ++ rest) []) : za_W p l e R s m args below meth c D nL Q h0 n cells slots pc lv st vw := by
  intro H locs ls hR hS hl
  subst hst
  obtain ⟨hx, hb, hml, hown, hts, hK, hcd, hF, hr, hlocks, hz⟩ := X
  have hd := za_fe_ok hcd hf
  have hws := za_wsp Y hY hts
  have hpre : PreV s H Y.1.cls (D.2.2 + b) (za_P D (vR b :: as) (za_ov h0 vw) n) (as.map (za_cv D.2.2)) :=
    ⟨za_blind _ _ _ _, va_recv hK (za_P1 (q := (D.2.2 + b, .inr (ci, fs.map (za_cv D.2.2)))) (hR.2.1 b _ hrc)) hcl (q0 := 0) rfl, fun U hU hW => ⟨rfl, by rw [hU]; exact hR, va_K.moved hW.alike hK⟩⟩
  have hstk : (F0 m pc ls ((as.reverse ++ vR b :: rest).map (za_cv D.2.2))).stack = (as.map (za_cv D.2.2)).reverse ++ .ref (D.2.2 + b) :: rest.map (za_cv D.2.2) := by
    show (as.reverse ++ vR b :: rest).map (za_cv D.2.2) = _
    rw [List.map_append, List.map_reverse]
    rfl
  have hrm := lv_room (m := m) (pc := pc) (ls := ls) (rest := (as.reverse ++ vR b :: rest).map (za_cv D.2.2)) (st := rest.map (za_cv D.2.2)) (by rw [za_wt_eq]; exact hw)
  have hlen : (as.map (za_cv D.2.2)).length = np := by rw [List.length_map]; exact hnp
  have kk2 : ∀ (v : Option za_V) (h' : za_H) (n' : Nat) (H1 : Heap) (locs1 : List Loc), Post v h' n' → za_Rp D h' n' H1 → va_S (fun q : Nat => D.2.2 ≤ q) s.heap H1 locs1 → W p l e R s m args below meth c H1 locs1 (cells + mc) (slots + ms) Q (F0 m (pc + 3) ls ((v.map (za_cv D.2.2)).toList ++ rest.map (za_cv D.2.2))) := by
    intro v h' n' H1 locs1 hp h1 h2
    rw [za_toL]
    exact kk v h' n' hp H1 locs1 ls h1 h2 hl
  rcases hL with hL | ⟨host, hL⟩
  · exact za_after (va_runV ⟨hx, hb, hml, hown, hts⟩ hM ⟨⟨rfl, rfl, hfr, hlo, hws, List.mem_cons_self, hts _ hY.1, hts _ hY.2.1, hY.2.2.1, za_npar hY, hts _ hL⟩, hts _ hV.1, hts _ hV.2⟩ hpre rfl hlen hl.1 hstk hrm hd ⟨hce, hsl⟩) hS kk2
  · exact za_after (va_runVN ⟨hx, hb, hml, hown, hts⟩ hM ⟨⟨⟨rfl, rfl, hfr, hlo, hws, List.mem_cons_self⟩, hts _ hY.1, hts _ hY.2.1, hY.2.2.1, za_npar hY, hts _ hL⟩, hts _ hV.1, hts _ hV.2⟩ hpre rfl hlen hl.1 hstk hrm hd ⟨hce, hsl⟩) hS kk2
set_option maxHeartbeats 1000000 in
/-- a static method -/
theorem za_callS (X : za_X p s m args meth c D own cc cd fl nL ret) (hf : za_fe cd pc = some (.invokestatic idx, 3)) (hL : za_CL own idx Y.1) (hY : za_CY Y np) (hV : za_CS Y) (hM : za_M l D Y d mc ms as (za_ov h0 vw) n Post) (hst : st = as.reverse ++ rest) (hnp : as.length = np)
    (hw : za_wt rest ≤ 8) (hfr : d + 1 ≤ R.frames) (hlo : 8 + (Y.2.2.1 + 11) + 40 * d ≤ R.locals) (hce : cells + mc ≤ R.cells) (hsl : slots + ms ≤ R.slots)
    (kk : ∀ (v : Option za_V) (h' : za_H) (n' : Nat), Post v h' n' → za_W p l e R s m args below meth c D nL Q h' n' (cells + mc) (slots + ms) (pc + 3) lv (v.toList ++ rest) []) : za_W p l e R s m args below meth c D nL Q h0 n cells slots pc lv st vw := by
  intro H locs ls hR hS hl
  subst hst
  obtain ⟨hx, hb, hml, hown, hts, hK, hcd, hF, hr, hlocks, hz⟩ := X
  have hd := za_fe_ok hcd hf
  have hws := za_wsp Y hY hts
  have hpre : PreS s H (za_P D as (za_ov h0 vw) n) (as.map (za_cv D.2.2)) :=
    ⟨za_blind _ _ _ _, fun U hU hW => ⟨rfl, by rw [hU]; exact hR, va_K.moved hW.alike hK⟩⟩
  have hstk : (F0 m pc ls ((as.reverse ++ rest).map (za_cv D.2.2))).stack = (as.map (za_cv D.2.2)).reverse ++ rest.map (za_cv D.2.2) := by
    show (as.reverse ++ rest).map (za_cv D.2.2) = _
    rw [List.map_append, List.map_reverse]
  have hrm := lv_room (m := m) (pc := pc) (ls := ls) (rest := (as.reverse ++ rest).map (za_cv D.2.2)) (st := rest.map (za_cv D.2.2)) (by rw [za_wt_eq]; exact hw)
  have hlen : (as.map (za_cv D.2.2)).length = np := by rw [List.length_map]; exact hnp
  have kk2 : ∀ (v : Option za_V) (h' : za_H) (n' : Nat) (H1 : Heap) (locs1 : List Loc), Post v h' n' → za_Rp D h' n' H1 → va_S (fun q : Nat => D.2.2 ≤ q) s.heap H1 locs1 → W p l e R s m args below meth c H1 locs1 (cells + mc) (slots + ms) Q (F0 m (pc + 3) ls ((v.map (za_cv D.2.2)).toList ++ rest.map (za_cv D.2.2))) := by
    intro v h' n' H1 locs1 hp h1 h2
    rw [za_toL]
    exact kk v h' n' hp H1 locs1 ls h1 h2 hl
  rcases hL with hL | ⟨host, hL⟩
  · exact za_after (va_runS ⟨hx, hb, hml, hown, hts⟩ hM ⟨⟨rfl, rfl, hfr, hlo, hws, List.mem_cons_self, hts _ hY.1, hts _ hY.2.1, hY.2.2.1, za_npar hY, hts _ hL⟩, hts _ hV⟩ hpre rfl hlen hl.1 hstk hrm hd ⟨hce, hsl⟩) hS kk2
  · exact za_after (va_runSN ⟨hx, hb, hml, hown, hts⟩ hM ⟨⟨⟨rfl, rfl, hfr, hlo, hws, List.mem_cons_self⟩, hts _ hY.1, hts _ hY.2.1, hY.2.2.1, za_npar hY, hts _ hL⟩, hts _ hV, trivial⟩ hpre rfl hlen hl.1 hstk hrm hd ⟨hce, hsl⟩) hS kk2
end ZACALL
end
section
section ZAARR
variable {p : Program} {l : Launch} {e : Env} {R : Room} {s : State} {m : MethodId} {args : Array Value} {below : List Frame} {meth : Method} {c : Code} {D : za_D} {nL : Nat} {Q : State → Prop} {h0 : za_H} {n cells slots pc : Nat} {lv : List (Nat × za_V)} {st : List za_V} {vw : List (Nat × za_C)} {own : String} {cc : ByteArray} {cd : List (Nat × Instr × Nat)} {fl : List (Nat × Nat × Nat)} {ret : Option FieldType} {i t0 N : Nat} {j : Int32}
theorem za_iald (X : za_X p s m args meth c D own cc cd fl nL ret) {f : Nat → Int32} (hf : za_fe cd pc = some (.iaload, 1)) (hi : za_ov h0 vw i = some (.inl (t0, N, .inl f))) (ht : za_ty[t0]? = some .int) (hj : vp_in j N) (kk : za_W p l e R s m args below meth c D nL Q h0 n cells slots (pc + 1) lv (vI (f j.toNatClampNeg) :: st) vw) : za_W p l e R s m args below meth c D nL Q h0 n cells slots pc lv (.inl j :: .inr (.inr (some i)) :: st) vw := by
  intro H locs ls hR hS hl
  exact va_iald X.1 X.2.1 X.2.2.2.2.2.1 (za_P1 (q := (D.2.2 + i, .inl (D.2.1 t0, N, .inl f))) (hR.2.1 i _ hi)) 0 t0 rfl (za_tys_at D ht) hj (za_fe_ok X.2.2.2.2.2.2.1 hf) (kk H locs ls hR hS hl)
theorem za_lald (X : za_X p s m args meth c D own cc cd fl nL ret) {f : Nat → Int64} (hf : za_fe cd pc = some (.laload, 1)) (hi : za_ov h0 vw i = some (.inl (t0, N, .inr (.inl f)))) (ht : za_ty[t0]? = some .long) (hj : vp_in j N) (kk : za_W p l e R s m args below meth c D nL Q h0 n cells slots (pc + 1) lv (vL (f j.toNatClampNeg) :: st) vw) : za_W p l e R s m args below meth c D nL Q h0 n cells slots pc lv (.inl j :: .inr (.inr (some i)) :: st) vw := by
  intro H locs ls hR hS hl
  exact va_lald X.1 X.2.1 X.2.2.2.2.2.1 (za_P1 (q := (D.2.2 + i, .inl (D.2.1 t0, N, .inr (.inl f)))) (hR.2.1 i _ hi)) 0 t0 rfl (za_tys_at D ht) hj (za_fe_ok X.2.2.2.2.2.2.1 hf) (kk H locs ls hR hS hl)
theorem za_aald (X : za_X p s m args meth c D own cc cd fl nL ret) {f : Nat → Option Nat} {C : String} (hf : za_fe cd pc = some (.aaload, 1)) (hi : za_ov h0 vw i = some (.inl (t0, N, .inr (.inr f)))) (ht : za_ty[t0]? = some (.object C)) (hj : vp_in j N) (kk : za_W p l e R s m args below meth c D nL Q h0 n cells slots (pc + 1) lv (.inr (.inr (f j.toNatClampNeg)) :: st) vw) : za_W p l e R s m args below meth c D nL Q h0 n cells slots pc lv (.inl j :: .inr (.inr (some i)) :: st) vw := by
  intro H locs ls hR hS hl
  refine va_aldq X.1 X.2.1 X.2.2.2.2.2.1 (za_P1 (q := (D.2.2 + i, .inl (D.2.1 t0, N, .inr (.inr (.inr (.inr (fun q => (f q).map (fun i => D.2.2 + i)))))))) (hR.2.1 i _ hi)) 0 t0 rfl (za_tys_at D ht) hj (za_fe_ok X.2.2.2.2.2.2.1 hf) ?_
  have h := kk H locs ls hR hS hl
  have e9 : va_rf ((f j.toNatClampNeg).map (fun i => D.2.2 + i)) = za_cv D.2.2 (.inr (.inr (f j.toNatClampNeg))) := by cases f j.toNatClampNeg <;> rfl
  show W p l e R s m args below meth c H locs cells slots Q (F0 m (pc + 1) ls (va_rf ((f j.toNatClampNeg).map (fun i => D.2.2 + i)) :: st.map (za_cv D.2.2)))
  rw [e9]
  exact h
theorem za_iast (X : za_X p s m args meth c D own cc cd fl nL ret) {f : Nat → Int32} {x : Int32} (hf : za_fe cd pc = some (.iastore, 1)) (hi : za_ov h0 vw i = some (.inl (t0, N, .inl f))) (ht : za_ty[t0]? = some .int) (hj : vp_in j N) (kk : za_W p l e R s m args below meth c D nL Q h0 n cells slots (pc + 1) lv st (za_vs vw i (.inl (t0, N, .inl (upd f j.toNatClampNeg x))))) : za_W p l e R s m args below meth c D nL Q h0 n cells slots pc lv (.inl x :: .inl j :: .inr (.inr (some i)) :: st) vw := by
  intro H locs ls hR hS hl
  have hat : H[D.2.2 + i]? = some (vp_cell (D.2.1 t0) (N, .inl f)) := hR.2.1 i _ hi
  refine W.iast X.1 X.2.1 hat ((X.2.2.2.2.2.1.2 t0 _ (za_tys_at D ht)).1 N (fun j => .int (f j))) (fun q => by cases q) (by show ¬ (j < 0 ∨ (arrV _ _ _).slots.size ≤ _); rw [arrV_size]; exact hj) rfl rfl (za_fe_ok X.2.2.2.2.2.2.1 hf) fun H1 e1 z1 o1 => ?_
  refine kk H1 _ ls (by
    rw [za_ov_vs]
    refine hR.set z1 ?_ o1
    show H1[D.2.2 + i]? = some (vp_cell _ _)
    rw [e1, vp_cell_i, vp_cell_i, arrV_store]
    congr 2
    funext q
    by_cases hq : q = j.toNatClampNeg
    · subst hq
      simp [updV, upd]
    · simp [updV, upd, hq]) (hS.put z1 o1 (Nat.le_add_right _ _)) hl
theorem za_last (X : za_X p s m args meth c D own cc cd fl nL ret) {f : Nat → Int64} {x : Int64} (hf : za_fe cd pc = some (.lastore, 1)) (hi : za_ov h0 vw i = some (.inl (t0, N, .inr (.inl f)))) (ht : za_ty[t0]? = some .long) (hj : vp_in j N) (kk : za_W p l e R s m args below meth c D nL Q h0 n cells slots (pc + 1) lv st (za_vs vw i (.inl (t0, N, .inr (.inl (vp_updL f j.toNatClampNeg x)))))) : za_W p l e R s m args below meth c D nL Q h0 n cells slots pc lv (.inr (.inl x) :: .inl j :: .inr (.inr (some i)) :: st) vw := by
  intro H locs ls hR hS hl
  have hat : H[D.2.2 + i]? = some (vp_cell (D.2.1 t0) (N, .inr (.inl f))) := hR.2.1 i _ hi
  refine W.last X.1 X.2.1 hat ((X.2.2.2.2.2.1.2 t0 _ (za_tys_at D ht)).1 N (fun j => .long (f j))) (fun q => by cases q) (by show ¬ (j < 0 ∨ (arrV _ _ _).slots.size ≤ _); rw [arrV_size]; exact hj) rfl rfl (za_fe_ok X.2.2.2.2.2.2.1 hf) fun H1 e1 z1 o1 => ?_
  refine kk H1 _ ls (by
    rw [za_ov_vs]
    refine hR.set z1 ?_ o1
    show H1[D.2.2 + i]? = some (vp_cell _ _)
    rw [e1, vp_cell_l, vp_cell_l, arrV_store]
    congr 2
    funext q
    by_cases hq : q = j.toNatClampNeg
    · subst hq
      simp [updV, vp_updL]
    · simp [updV, vp_updL, hq]) (hS.put z1 o1 (Nat.le_add_right _ _)) hl
/-- a place of an array of objects takes an object of the array's class -/
theorem za_aast (X : za_X p s m args meth c D own cc cd fl nL ret) {f : Nat → Option Nat} {C : String} {T : u_T} {w ci NC : Nat} {fs : List za_V} (hf : za_fe cd pc = some (.aastore, 1)) (hi : za_ov h0 vw i = some (.inl (t0, N, .inr (.inr f)))) (ht : za_ty[t0]? = some (.object C)) (hw : za_ov h0 vw w = some (.inr (ci, fs))) (hc : za_cl[ci]? = some (C, T, NC)) (hj : vp_in j N) (kk : za_W p l e R s m args below meth c D nL Q h0 n cells slots (pc + 1) lv st (za_vs vw i (.inl (t0, N, .inr (.inr (va_up f j.toNatClampNeg (some w))))))) : za_W p l e R s m args below meth c D nL Q h0 n cells slots pc lv (.inr (.inr (some w)) :: .inl j :: .inr (.inr (some i)) :: st) vw := by
  intro H locs ls hR hS hl
  have hat : H[D.2.2 + i]? = some (vp_cell (D.2.1 t0) (N, .inr (.inr (.inr (.inr (fun q => (f q).map (fun i => D.2.2 + i))))))) := hR.2.1 i _ hi
  have hatw : ∃ r : vw_C, za_cl[ci]? = some r ∧ t_OB (D.2.2 + w) (D.1.1 ci) r.2.2 (D.1.2 ci) H (vp_V (fs.map (za_cv D.2.2))) := hR.2.1 w _ hw
  obtain ⟨r', hr', cellV, g1, g2, g3, -⟩ := hatw
  have hK := X.2.2.2.2.2.1
  have hcls := (hK.1 ci _ hc).2
  obtain ⟨kA, comp, k1, k2, k3, -⟩ := (hK.2 t0 _ (za_tys_at D ht)).2
  have hcomp : comp = D.1.1 ci := Option.some.inj (k3.symm.trans hcls.1)
  subst hcomp
  obtain ⟨kC, hkC, -⟩ := hcls.2
  have hlt : j.toNatClampNeg < N := Nat.not_le.mp fun q => hj (Or.inr q)
  have hn0 : ¬ j < 0 := fun q => hj (Or.inl q)
  refine W.aast X.1 X.2.1 hat (fun q h => by cases h) (fun h => by cases h) k1 k2 rfl hkC ⟨hn0, by show _ < (arrV _ _ _).slots.size; rw [arrV_size]; exact hlt⟩ g1 (fun q h => by rw [g3] at h; cases h) (by rw [g2]; exact hkC) (by rw [g2]; exact va_assign hcls) rfl rfl (za_fe_ok X.2.2.2.2.2.2.1 hf) fun H1 e1 z1 o1 => ?_
  refine kk H1 _ ls (by
    rw [za_ov_vs]
    refine hR.set z1 ?_ o1
    show H1[D.2.2 + i]? = some (vp_cell _ (_, .inr (.inr (.inr (.inr (fun q => (va_up f j.toNatClampNeg (some w) q).map (fun i => D.2.2 + i)))))))
    rw [e1, vp_cell_q, vp_cell_q, arrV_store]
    congr 2
    funext q
    by_cases hq : q = j.toNatClampNeg
    · subst hq
      simp [updV, va_up, va_rf]
    · simp [updV, va_up, hq]) (hS.put z1 o1 (Nat.le_add_right _ _)) hl
theorem za_alen (X : za_X p s m args meth c D own cc cd fl nL ret) {x : (Nat → Int32) ⊕ ((Nat → Int64) ⊕ (Nat → Option Nat))} {ty : FieldType} (hf : za_fe cd pc = some (.arraylength, 1)) (hi : za_ov h0 vw i = some (.inl (t0, N, x))) (ht : za_ty[t0]? = some ty) (kk : za_W p l e R s m args below meth c D nL Q h0 n cells slots (pc + 1) lv (vI (Int32.ofNat N) :: st) vw) : za_W p l e R s m args below meth c D nL Q h0 n cells slots pc lv (.inr (.inr (some i)) :: st) vw := by
  intro H locs ls hR hS hl
  rcases x with f | f | f
  · exact va_alen X.1 X.2.1 X.2.2.2.2.2.1 (za_P1 (q := (D.2.2 + i, .inl (D.2.1 t0, N, .inl f))) (hR.2.1 i _ hi)) 0 t0 rfl (za_tys_at D ht) rfl (za_fe_ok X.2.2.2.2.2.2.1 hf) (kk H locs ls hR hS hl)
  · exact va_alen X.1 X.2.1 X.2.2.2.2.2.1 (za_P1 (q := (D.2.2 + i, .inl (D.2.1 t0, N, .inr (.inl f)))) (hR.2.1 i _ hi)) 0 t0 rfl (za_tys_at D ht) rfl (za_fe_ok X.2.2.2.2.2.2.1 hf) (kk H locs ls hR hS hl)
  · exact va_alen X.1 X.2.1 X.2.2.2.2.2.1 (za_P1 (q := (D.2.2 + i, .inl (D.2.1 t0, N, .inr (.inr (.inr (.inr (fun q => (f q).map (fun i => D.2.2 + i)))))))) (hR.2.1 i _ hi)) 0 t0 rfl (za_tys_at D ht) rfl (za_fe_ok X.2.2.2.2.2.2.1 hf) (kk H locs ls hR hS hl)
/-- fields of an object whose number is no numeral -/
theorem za_getH (X : za_X p s m args meth c D own cc cd fl nL ret) {idx ci k : Nat} {fs : List za_V} {v : za_V} (hf : za_fe cd pc = some (.getfield idx, 3)) (hi : za_ov h0 vw i = some (.inr (ci, fs))) (hk : za_fk fl idx = some (ci, k)) (hv : fs[k]? = some v) (kk : za_W p l e R s m args below meth c D nL Q h0 n cells slots (pc + 3) lv (v :: st) vw) : za_W p l e R s m args below meth c D nL Q h0 n cells slots pc lv (.inr (.inr (some i)) :: st) vw := by
  intro H locs ls hR hS hl
  exact za_getW X hR hi (za_fk_mem hk) hv (za_fe_ok X.2.2.2.2.2.2.1 hf) (kk H locs ls hR hS hl)
theorem za_putH (X : za_X p s m args meth c D own cc cd fl nL ret) {idx ci k : Nat} {fs : List za_V} {v : za_V} (hf : za_fe cd pc = some (.putfield idx, 3)) (hi : za_ov h0 vw i = some (.inr (ci, fs))) (hk : za_fk fl idx = some (ci, k)) (hv : za_okf (za_fty ci k) v = true) (hfin : za_fin ci k = false) (hl0 : k < fs.length) (kk : za_W p l e R s m args below meth c D nL Q h0 n cells slots (pc + 3) lv st (za_vs vw i (.inr (ci, fs.set k v)))) : za_W p l e R s m args below meth c D nL Q h0 n cells slots pc lv (v :: .inr (.inr (some i)) :: st) vw := by
  intro H locs ls hR hS hl
  exact za_putW X hR hS hi (za_fk_mem hk) hv hfin hl0 (za_fe_ok X.2.2.2.2.2.2.1 hf) (fun H1 locs1 hR1 hS1 => kk H1 locs1 ls (by rw [za_ov_vs]; exact hR1) hS1 hl)
end ZAARR
section ZANEW
variable {p : Program} {l : Launch} {e : Env} {R : Room} {s : State} {m : MethodId} {args : Array Value} {below : List Frame} {meth : Method} {c : Code} {D : za_D} {nL : Nat} {Q : State → Prop} {h0 : za_H} {n cells slots pc : Nat} {lv : List (Nat × za_V)} {st : List za_V} {vw : List (Nat × za_C)} {own : String} {cc : ByteArray} {cd : List (Nat × Instr × Nat)} {fl : List (Nat × Nat × Nat)} {ret : Option FieldType} {N : Nat}
/-- a new object of a class of the system, at the next number -/
theorem za_new (X : za_X p s m args meth c D own cc cd fl nL ret) {idx ci : Nat} {C : String} {T : u_T} {fs : List za_V} (hf : za_fe cd pc = some (.new idx, 3)) (hc : za_cl[ci]? = some (C, T, N)) (hcl : Cond.classLink own idx C ∈ za_tt) (hin : Cond.instantiable C N ∈ za_tt) (hini : Cond.initialized C ∈ za_tt) (hfs : ∀ z j, j < N → defaultValue (za_fty ci j) = vp_V (fs.map (za_cv z)) j) (hce : cells + 1 ≤ R.cells) (hsl : slots + N ≤ R.slots)
    (kk : za_W p l e R s m args below meth c D nL Q h0 (n + 1) (cells + 1) (slots + N) (pc + 3) lv (vR n :: st) (za_vs vw n (.inr (ci, fs)))) : za_W p l e R s m args below meth c D nL Q h0 n cells slots pc lv st vw := by
  intro H locs ls hR hS hl
  obtain ⟨hx, hb, hml, hown, hts, hK, hcd, hF, hr, hlocks, hz⟩ := X
  obtain ⟨hin2, hty, hnm, hfn⟩ := za_cok _ _ _ _ hc
  have hKn := hK.1 ci _ hc
  refine W.newcK hx hb hown (hts _ hcl) (hts _ hin) (hts _ hini) rfl (za_fe_ok hcd hf) hce hsl hKn.2.1 hR.1 fun H1 kC hkC e1 z1 o1 => ?_
  refine kk H1 locs ls ?_ ⟨Nat.le_trans hS.1 (by rw [z1, hR.1]; omega), fun q h1 h2 => (o1 q (by have := hS.1; rw [hR.1] at this; omega)).trans (hS.2.1 q h1 h2), hS.2.2⟩ hl
  rw [za_ov_vs]
  refine hR.pushc z1 o1 ?_
  have g : t_OB (D.2.2 + n) (D.1.1 ci) N (D.1.2 ci) H1 (vp_V (fs.map (za_cv D.2.2))) := (u_born (za_fty ci) hts hin2 hKn hkC e1 hty).to (fun j hj => hfs D.2.2 j hj)
  exact ⟨_, hc, g⟩
theorem za_newi (X : za_X p s m args meth c D own cc cd fl nL ret) {t0 : Nat} {x : Int32} (hf : za_fe cd pc = some (.newarray .int, 2)) (ht : za_ty[t0]? = some .int) (ha : Cond.arrayClass .int ∈ za_tt) (hn0 : ¬ x < 0) (hN : x.toNatClampNeg = N) (hbig : N ≤ 100000) (hce : cells + 1 ≤ R.cells) (hsl : slots + N ≤ R.slots)
    (kk : za_W p l e R s m args below meth c D nL Q h0 (n + 1) (cells + 1) (slots + N) (pc + 2) lv (vR n :: st) (za_vs vw n (.inl (t0, N, .inl (fun _ => 0))))) : za_W p l e R s m args below meth c D nL Q h0 n cells slots pc lv (.inl x :: st) vw := by
  intro H locs ls hR hS hl
  obtain ⟨hx, hb, hml, hown, hts, hK, hcd, hF, hr, hlocks, hz⟩ := X
  refine va_newaK hx hb (atype := .int) (hts _ ha) rfl (za_fe_ok hcd hf) rfl hn0 hN (by show N * 4 ≤ 536870912; omega) hce hsl hR.1 fun H1 cA e1 z1 o1 hAr hNm => ?_
  have hcA : cA = D.2.1 t0 := Option.some.inj (hNm.symm.trans (hK.2 t0 _ (za_tys_at D ht)).2)
  subst hcA
  refine kk H1 locs ls ?_ ⟨Nat.le_trans hS.1 (by rw [z1, hR.1]; omega), fun q h1 h2 => (o1 q (by have := hS.1; rw [hR.1] at this; omega)).trans (hS.2.1 q h1 h2), hS.2.2⟩ hl
  rw [za_ov_vs]
  exact hR.pushc z1 o1 e1
theorem za_newl (X : za_X p s m args meth c D own cc cd fl nL ret) {t0 : Nat} {x : Int32} (hf : za_fe cd pc = some (.newarray .long, 2)) (ht : za_ty[t0]? = some .long) (ha : Cond.arrayClass .long ∈ za_tt) (hn0 : ¬ x < 0) (hN : x.toNatClampNeg = N) (hbig : N ≤ 100000) (hce : cells + 1 ≤ R.cells) (hsl : slots + N ≤ R.slots)
    (kk : za_W p l e R s m args below meth c D nL Q h0 (n + 1) (cells + 1) (slots + N) (pc + 2) lv (vR n :: st) (za_vs vw n (.inl (t0, N, .inr (.inl (fun _ => 0)))))) : za_W p l e R s m args below meth c D nL Q h0 n cells slots pc lv (.inl x :: st) vw := by
  intro H locs ls hR hS hl
  obtain ⟨hx, hb, hml, hown, hts, hK, hcd, hF, hr, hlocks, hz⟩ := X
  refine va_newaK hx hb (atype := .long) (hts _ ha) rfl (za_fe_ok hcd hf) rfl hn0 hN (by show N * 8 ≤ 536870912; omega) hce hsl hR.1 fun H1 cA e1 z1 o1 hAr hNm => ?_
  have hcA : cA = D.2.1 t0 := Option.some.inj (hNm.symm.trans (hK.2 t0 _ (za_tys_at D ht)).2)
  subst hcA
  refine kk H1 locs ls ?_ ⟨Nat.le_trans hS.1 (by rw [z1, hR.1]; omega), fun q h1 h2 => (o1 q (by have := hS.1; rw [hR.1] at this; omega)).trans (hS.2.1 q h1 h2), hS.2.2⟩ hl
  rw [za_ov_vs]
  exact hR.pushc z1 o1 e1
theorem za_newq (X : za_X p s m args meth c D own cc cd fl nL ret) {t0 idx : Nat} {x : Int32} {C : String} (hf : za_fe cd pc = some (.anewarray idx, 3)) (ht : za_ty[t0]? = some (.object C)) (hcl : Cond.classLink own idx C ∈ za_tt) (ha : Cond.arrayOver (.object C) ∈ za_tt) (hn0 : ¬ x < 0) (hN : x.toNatClampNeg = N) (hbig : N ≤ 100000) (hce : cells + 1 ≤ R.cells) (hsl : slots + N ≤ R.slots)
    (kk : za_W p l e R s m args below meth c D nL Q h0 (n + 1) (cells + 1) (slots + N) (pc + 3) lv (vR n :: st) (za_vs vw n (.inl (t0, N, .inr (.inr (fun _ => none)))))) : za_W p l e R s m args below meth c D nL Q h0 n cells slots pc lv (.inl x :: st) vw := by
  intro H locs ls hR hS hl
  obtain ⟨hx, hb, hml, hown, hts, hK, hcd, hF, hr, hlocks, hz⟩ := X
  subst hN
  refine W.anew hx hb hown (hts _ hcl) (hts _ ha) rfl (za_fe_ok hcd hf) rfl hn0 (by omega) hce hsl fun cA kA comp f1 f2 f3 f4 => ?_
  obtain ⟨kA', comp', -, -, -, g4⟩ := (hK.2 t0 _ (za_tys_at D ht)).2
  have hcA : cA = D.2.1 t0 := Option.some.inj (f1.symm.trans g4)
  subst hcA
  generalize hH1 : H.push ({ cls := D.2.1 t0, slots := Array.replicate x.toNatClampNeg .null, vm := .none } : Cell) = H1
  have z1 : H1.size = D.2.2 + n + 1 := by rw [← hH1, Array.size_push, hR.1]
  have e1 : H1[D.2.2 + n]? = some (arrV (D.2.1 t0) x.toNatClampNeg (fun _ => .null)) := by rw [← hR.1, ← hH1, Array.getElem?_push_size, ← arrV_new]
  have o1 : ∀ q : Nat, q < D.2.2 + n → H1[q]? = H[q]? := fun q hq => by rw [← hH1, Array.getElem?_push, if_neg (by rw [hR.1]; omega)]
  have k2 := kk H1 locs ls (by rw [za_ov_vs]; exact hR.pushc z1 o1 e1) ⟨Nat.le_trans hS.1 (by rw [z1, hR.1]; omega), fun q h1 h2 => (o1 q (by have := hS.1; rw [hR.1] at this; omega)).trans (hS.2.1 q h1 h2), hS.2.2⟩ hl
  show W p l e R s m args below meth c H1 locs (cells + 1) (slots + x.toNatClampNeg) Q (F0 m (pc + 3) ls (.ref H.size :: st.map (za_cv D.2.2)))
  rw [hR.1]
  exact k2
/-- a final field in the constructor of its own class -/
theorem za_putF (X : za_X p s m args meth c D own cc cd fl nL ret) (hin0 : meth.name = "<init>") {i idx ci k : Nat} {C : String} {T : u_T} {fs : List za_V} {v : za_V} (hf : za_fe cd pc = some (.putfield idx, 3)) (hi : za_ov h0 vw i = some (.inr (ci, fs))) (hc : za_cl[ci]? = some (C, T, N)) (hk : k < N) (hdc : (T k).1 = own) (hCo : C = own) (hlk : Cond.fieldLink own idx C (T k).2.1 (T k).2.2.1 ∈ za_tt) (hv : za_okf (za_fty ci k) v = true) (hfin : za_fin ci k = true) (hl0 : k < fs.length) (kk : za_W p l e R s m args below meth c D nL Q h0 n cells slots (pc + 3) lv st (za_vs vw i (.inr (ci, fs.set k v)))) : za_W p l e R s m args below meth c D nL Q h0 n cells slots pc lv (v :: .inr (.inr (some i)) :: st) vw := by
  intro H locs ls hR hS hl
  obtain ⟨hx, hb, hml, hown, hts, hK, hcd, hF, hr, hlocks, hz⟩ := X
  obtain ⟨hin, hty, hnm, hfn⟩ := za_cok _ _ _ _ hc
  have hap := va_apart (own := own) hts hin (za_fty ci) hty hnm hK hc
  have hat : ∃ r : vw_C, za_cl[ci]? = some r ∧ t_OB (D.2.2 + i) (D.1.1 ci) r.2.2 (D.1.2 ci) H (vp_V (fs.map (za_cv D.2.2))) := hR.2.1 i _ hi
  obtain ⟨r, h1, cell, q1, q2, q3, q4⟩ := hat
  have hr' : r = (C, T, N) := Option.some.inj (h1.symm.trans hc)
  subst hr'
  obtain ⟨hSl, hfc, kC, hkC, hkind⟩ := hK.1 ci _ hc
  obtain ⟨cf, kf, fi, f, hif, hsl⟩ := hSl k hk
  have hlay := hts _ (hin _ (u_in_lay hk))
  unfold u_lay at hlay
  rw [if_pos (by rw [hfn k hk, hfin])] at hlay
  have hst := (u_facts hfc hkC (u_lays hts hin hk) hif).1
  have hcf : m.cls = cf := by
    obtain ⟨_, _, c', _, _, _, -, -, hf', -, -, -, hown2, -⟩ := Cond.laysFinal_spec hlay
    have e1 : c' = cf := by have := hif.symm.trans hf'; simp at this; exact this.1.symm
    rw [hdc] at hown2
    rw [← e1]; exact Option.some.inj (hown.symm.trans hown2)
  obtain ⟨hn1, hn2⟩ := za_okf_ok hv D.2.2
  have h6 := u_fits hfc hkC hkind (Or.inr hlay) hif (hty k hk) hn1 hn2
  have hl' : k < (fs.map (za_cv D.2.2)).length := by rw [List.length_map]; exact hl0
  have hif' : s.fieldFound? C (T k).2.1 (T k).2.2.1 = some (cf, kf, fi, f) := by rw [hCo, ← hdc]; exact hif
  refine W.putFinK hx hb hown (hts _ hlk) hif' hst hcf hin0 (by rw [q2]; exact h6) q1 q3 (by rw [hsl]; exact k2_hasslot (q4 k hk)) rfl rfl (za_fe_ok hcd hf) fun H' e1 e2 e3 => ?_
  rw [hsl] at e1
  refine kk H' _ ls ?_ (hS.put e2 e3 (Nat.le_add_right _ _)) hl
  rw [za_ov_vs]
  refine hR.set e2 ?_ e3
  have g : t_OB (D.2.2 + i) (D.1.1 ci) N (D.1.2 ci) H' (vp_V ((fs.set k v).map (za_cv D.2.2))) := by
    rw [List.map_set]
    exact t_OB.to (V := updV (vp_V (fs.map (za_cv D.2.2))) k (za_cv D.2.2 v)) ⟨_, e1, q2, q3, t_set q4 hap hk (za_cv D.2.2 v)⟩ (fun j _ => vp_updV_set hl' (za_cv D.2.2 v) j)
  exact ⟨_, hc, g⟩
/-- Object's own constructor does nothing -/
theorem za_obj (X : za_X p s m args meth c D own cc cd fl nL ret) {idx i : Nat} (hf : za_fe cd pc = some (.invokespecial idx, 3)) (h1 : Cond.methodLink own idx Lib.objectInit ∈ za_tt) (h2 : Cond.instanceMethod Lib.objectInit ∈ za_tt) (h3 : Cond.code Lib.objectInit ⟨#[0xb1]⟩ 1 none ∈ za_tt) (hw : za_wt st ≤ 8) (hfr : 1 ≤ R.frames) (hlo : 20 ≤ R.locals) (kk : za_W p l e R s m args below meth c D nL Q h0 n cells slots (pc + 3) lv st vw) : za_W p l e R s m args below meth c D nL Q h0 n cells slots pc lv (.inr (.inr (some i)) :: st) vw := by
  intro H locs ls hR hS hl
  obtain ⟨hx, hb, hml, hown, hts, hK, hcd, hF, hr, hlocks, hz⟩ := X
  refine W.objInit hx hb hown (hts _ h1) (hts _ h2) (hts _ h3) rfl (by rw [hml]; exact hl.1) rfl (za_fe_ok hcd hf) hfr ?_ (kk H locs ls hR hS hl)
  have h8 := lv_room (m := m) (pc := pc) (ls := ls) (rest := (vR i :: st).map (za_cv D.2.2)) (st := st.map (za_cv D.2.2)) (by rw [za_wt_eq]; exact hw)
  show 2 * (F0 m pc ls ((vR i :: st).map (za_cv D.2.2))).monitorRoom + ((st.map (za_cv D.2.2)).map fun v => v.category).sum + 12 ≤ R.locals
  omega
theorem za_min (X : za_X p s m args meth c D own cc cd fl nL ret) {idx : Nat} {x y : Int32} (hf : za_fe cd pc = some (.invokestatic idx, 3)) (h1 : Cond.methodLink own idx Lib.Math.min.name ∈ za_tt) (h2 : Cond.static Lib.Math.min.name ∈ za_tt) (h3 : Cond.initialized "java/lang/Math" ∈ za_tt) (h4 : Cond.code Lib.Math.min.name Lib.Math.min.code 2 (some .int) ∈ za_tt) (hw : za_wt st ≤ 8) (hfr : 1 ≤ R.frames) (hlo : 21 ≤ R.locals) (hce : cells ≤ R.cells) (hsl : slots ≤ R.slots) (kk : za_W p l e R s m args below meth c D nL Q h0 n cells slots (pc + 3) lv (vI (if y < x then y else x) :: st) vw) : za_W p l e R s m args below meth c D nL Q h0 n cells slots pc lv (.inl y :: .inl x :: st) vw := by
  intro H locs ls hR hS hl
  obtain ⟨hx, hb, hml, hown, hts, hK, hcd, hF, hr, hlocks, hz⟩ := X
  exact va_mmin hx hb (by rw [hml]; exact hl.1.symm) hown (hts _ h1) (hts _ h2) (hts _ h3) (hts _ h4) hfr (by rw [za_wt_eq]; omega) hce hsl (za_fe_ok hcd hf) (kk H locs ls hR hS hl)
end ZANEW
section ZACTOR
variable {p : Program} {l : Launch} {e : Env} {R : Room} {s : State} {m : MethodId} {args : Array Value} {below : List Frame} {meth : Method} {c : Code} {D : za_D} {nL : Nat} {Q : State → Prop} {h0 : za_H} {n cells slots pc : Nat} {lv : List (Nat × za_V)} {st : List za_V} {vw : List (Nat × za_C)} {own : String} {cc : ByteArray} {cd : List (Nat × Instr × Nat)} {fl : List (Nat × Nat × Nat)} {ret : Option FieldType} {mc ms d np idx b maxL : Nat} {y : MethodName} {bytes : ByteArray} {as rest : List za_V} {Post : Option za_V → za_H → Nat → Prop}
set_option maxHeartbeats 1000000 in
/-- a constructor -/
theorem za_callI (X : za_X p s m args meth c D own cc cd fl nL ret) (hf : za_fe cd pc = some (.invokespecial idx, 3)) (hL : za_CL own idx y) (hY : za_CY (y, bytes, maxL, none) np) (hV : za_CI (y, bytes, maxL, none)) (hM : za_M l D (y, bytes, maxL, none) d mc ms (vR b :: as) (za_ov h0 vw) n Post) (hst : st = as.reverse ++ vR b :: rest) (hnp : as.length = np)
    (hw : za_wt rest ≤ 8) (hfr : d + 1 ≤ R.frames) (hlo : 8 + (maxL + 11) + 40 * d ≤ R.locals) (hce : cells + mc ≤ R.cells) (hsl : slots + ms ≤ R.slots)
    (kk : ∀ (v : Option za_V) (h' : za_H) (n' : Nat), Post v h' n' → za_W p l e R s m args below meth c D nL Q h' n' (cells + mc) (slots + ms) (pc + 3) lv (v.toList ++ rest) []) : za_W p l e R s m args below meth c D nL Q h0 n cells slots pc lv st vw := by
  intro H locs ls hR hS hl
  subst hst
  obtain ⟨hx, hb, hml, hown, hts, hK, hcd, hF, hr, hlocks, hz⟩ := X
  have hd := za_fe_ok hcd hf
  have hws := za_wsp (y, bytes, maxL, none) hY hts
  have hpre : PreS s H (za_P D (vR b :: as) (za_ov h0 vw) n) (.ref (D.2.2 + b) :: as.map (za_cv D.2.2)) :=
    ⟨za_blind _ _ _ _, fun U hU hW => ⟨rfl, by rw [hU]; exact hR, va_K.moved hW.alike hK⟩⟩
  have hstk : (F0 m pc ls ((as.reverse ++ vR b :: rest).map (za_cv D.2.2))).stack = (as.map (za_cv D.2.2)).reverse ++ .ref (D.2.2 + b) :: rest.map (za_cv D.2.2) := by
    show (as.reverse ++ vR b :: rest).map (za_cv D.2.2) = _
    rw [List.map_append, List.map_reverse]
    rfl
  have hrm := lv_room (m := m) (pc := pc) (ls := ls) (rest := (as.reverse ++ vR b :: rest).map (za_cv D.2.2)) (st := rest.map (za_cv D.2.2)) (by rw [za_wt_eq]; exact hw)
  have hlen : (as.map (za_cv D.2.2)).length = np := by rw [List.length_map]; exact hnp
  have kk2 : ∀ (v : Option za_V) (h' : za_H) (n' : Nat) (H1 : Heap) (locs1 : List Loc), Post v h' n' → za_Rp D h' n' H1 → va_S (fun q : Nat => D.2.2 ≤ q) s.heap H1 locs1 → W p l e R s m args below meth c H1 locs1 (cells + mc) (slots + ms) Q (F0 m (pc + 3) ls ((v.map (za_cv D.2.2)).toList ++ rest.map (za_cv D.2.2))) := by
    intro v h' n' H1 locs1 hp h1 h2
    rw [za_toL]
    exact kk v h' n' hp H1 locs1 ls h1 h2 hl
  rcases hL with hL | ⟨host, hL⟩
  · exact za_after (va_runI ⟨hx, hb, hml, hown, hts⟩ hM ⟨⟨rfl, rfl, hfr, hlo, hws, List.mem_cons_self, hts _ hY.1, hts _ hY.2.1, hY.2.2.1, za_npar hY, hts _ hL⟩, hV.2.1, hts _ hV.1⟩ hpre rfl hlen hl.1 hstk hrm hd ⟨hce, hsl⟩) hS kk2
  · exact za_after (va_runIN ⟨hx, hb, hml, hown, hts⟩ hM ⟨⟨⟨rfl, rfl, hfr, hlo, hws, List.mem_cons_self⟩, hts _ hY.1, hts _ hY.2.1, hY.2.2.1, za_npar hY, hts _ hL⟩, hV.2.1, hts _ hV.1⟩ hpre rfl hlen hl.1 hstk hrm hd ⟨hce, hsl⟩) hS kk2
end ZACTOR
end
section
/-! THROWS AND CATCHES -/
/-- a static field of Throwable that lies below z and holds null or a reference -/
def zt_S (nm d : String) (z : Nat) (U : State) : Prop := ∃ (c : ClassId) (k : Class) (i : Nat) (f : Field) (a : Nat) (cell : Cell) (v : Value), U.vm.findClass Bundle.tN = some c ∧ U.fieldFound? Bundle.tN nm d = some (c, k, i, f) ∧ f.isStatic = true ∧ k.statics = some a ∧ U.heap[a]? = some cell ∧ cell.vm.isStatics = true ∧ cell.cls = c ∧ f.slot < cell.slots.size ∧ k.staticTypes[f.slot]? = some f.type ∧ a < z ∧ cell.slots[f.slot]? = some v ∧ v.isRef = true
theorem zt_S.to {nm d : String} {z : Nat} {u U : State} (h : zt_S nm d z u) (hvm : u.vm.Alike U.vm) (hh : ∀ a : Nat, a < z → U.heap[a]? = u.heap[a]?) : zt_S nm d z U := by
  obtain ⟨c, k, i, f, a, cell, v, h1, h2, h3, h4, h5, h6, h7, h8, h9, h10, h11, h12⟩ := h
  obtain ⟨k', hi', he⟩ := State.fieldFound?_setVm hvm h2
  exact ⟨c, k', i, f, a, cell, v, by rw [hvm.findClass]; exact h1, hi', h3, by rw [he]; exact h4, by rw [hh a h10]; exact h5, h6, h7, h8, by rw [he]; exact h9, h10, h11, h12⟩
theorem zt_S.lays {nm d : String} {z : Nat} {U : State} {args : Array Value} (h : zt_S nm d z U) : (Cond.laysStatic Bundle.tN nm d).before args U = true := by
  obtain ⟨c, k, i, f, a, cell, v, h1, h2, h3, h4, h5, h6, h7, h8, h9, -⟩ := h
  show (Cond.laysStatic Bundle.tN nm d).holds args U none U [] = true
  exact Cond.laysStatic_of h1 h2 h3 h4 h5 h6 h7 h8 h9
theorem zt_S.ref {nm d : String} {z : Nat} {U : State} {args : Array Value} (h : zt_S nm d z U) : (Cond.isRef (.static Bundle.tN nm d)).before args U = true := by
  obtain ⟨c, k, i, f, a, cell, v, h1, h2, h3, h4, h5, h6, h7, h8, h9, h10, h11, h12⟩ := h
  have he : (Term.static Bundle.tN nm d).eval args U none [] U = some v := by
    simp [Term.eval, State.fieldNamed?, h2, h3, h4, h5, h6, h11]
  simp only [Cond.before, Cond.holds, Cond.value, he]
  cases v <;> simp_all [Value.isRef]
theorem zt_S.of {nm d : String} {U : State} {args : Array Value} (hl : (Cond.laysStatic Bundle.tN nm d).before args U = true) (hr : (Cond.isRef (.static Bundle.tN nm d)).before args U = true) : zt_S nm d U.heap.size U := by
  obtain ⟨c, k, i, f, a, cell, h1, h2, h3, h4, h5, h6, h7, h8, h9⟩ := Cond.laysStatic_spec hl
  have hv : cell.slots[f.slot]? = some cell.slots[f.slot] := Array.getElem?_eq_getElem h8
  have he : (Term.static Bundle.tN nm d).eval args U none [] U = some cell.slots[f.slot] := by
    simp [Term.eval, State.fieldNamed?, h2, h3, h4, h5, h6, h8]
  refine ⟨c, k, i, f, a, cell, cell.slots[f.slot], h1, h2, h3, h4, h5, h6, h7, h8, h9, (Array.getElem?_eq_some_iff.mp h5).1, hv, ?_⟩
  simp only [Cond.before, Cond.holds, Cond.value, he] at hr
  generalize cell.slots[f.slot] = v at hr
  cases v <;> simp_all [Value.isRef]
/-- pairs of exceptions of which the first is no case of the second -/
def zt_nc : List (String × String) := [("java/lang/IllegalStateException", "java/lang/IllegalArgumentException"), ("java/lang/IllegalArgumentException", "java/util/NoSuchElementException"), ("java/util/NoSuchElementException", "java/lang/IllegalArgumentException")]
def zt_H (z : Nat) (U : State) : Prop := zt_S "UNASSIGNED_STACK" Bundle.steD z U ∧ zt_S "SUPPRESSED_SENTINEL" Bundle.listD z U ∧ ∀ q ∈ zt_nc, va_Nc q.1 q.2 U
theorem zt_H.to {z : Nat} {u U : State} (h : zt_H z u) (hvm : u.vm.Alike U.vm) (hh : ∀ a : Nat, a < z → U.heap[a]? = u.heap[a]?) : zt_H z U := ⟨h.1.to hvm hh, h.2.1.to hvm hh, fun q hq => (h.2.2 q hq).moved hvm⟩
/-- what a general contract says of a method's end: it returned, or threw an object of the class E that lies behind z -/
def zg_o (D : za_D) (su : State) (r : Option za_V ⊕ String) (o : Outcome) (t : State) : Prop := match r with
  | .inl v => o = .returned (v.map (za_cv D.2.2))
  | .inr E => ∃ (i : Nat) (ce : Cell), o = .threw (D.2.2 + i) ∧ t.heap[D.2.2 + i]? = some ce ∧ su.vm.findClass E = some ce.cls
def zg_Q (D : za_D) (Post : Option za_V ⊕ String → za_H → Nat → Prop) (mc ms : Nat) : Array Value → State → Outcome → State → Prop := fun _ su o t =>
  ∃ (r : Option za_V ⊕ String) (h' : za_H) (n' : Nat) (L : List Loc), zg_o D su r o t ∧ Post r h' n' ∧ za_Rp D h' n' t.heap ∧ va_F (fun q : Nat => D.2.2 ≤ q) su t ∧ su.WarmedH t.vm ∧ su.sameButNew ({ t with vm := su.vm } : State) L mc ms ∧ ∀ x ∈ L, D.2.2 ≤ x.base
def zg_P (D : za_D) (av : List za_V) (h : za_H) (n : Nat) : Array Value → State → Prop := fun a U => za_P D av h n a U ∧ zt_H D.2.2 U
/-- GENERAL CONTRACT: K says what code Y has ('code', or 'codeWith' a table of handlers) -/
def zg_M (l : Launch) (D : za_D) (K : Cond) (Y : za_Y) (d mc ms : Nat) (av : List za_V) (h : za_H) (n : Nat) (Post : Option za_V ⊕ String → za_H → Nat → Prop) : Prop :=
  MetFree l Y.1 (headSpec (K :: za_tt) (za_rm d mc ms)) (zg_P D av h n) (fun _ _ _ _ _ => True) (zg_Q D Post mc ms)
def zg_MQ (below : List Frame) (D : za_D) (Post : Option za_V ⊕ String → za_H → Nat → Prop) (args : Array Value) (s : State) (mc ms : Nat) : State → Prop := fun t => ∃ o, t.status = .running ∧ Ended t below o ∧ zg_Q D Post mc ms args s o t
/-- what K says of Y's code -/
def zg_K (K : Cond) (Y : za_Y) (hs : List (Nat × Nat × Nat × Nat)) : Prop := ∀ (args : Array Value) (s : State) (m : MethodId), K.before args s = true → s.methodNamed? Y.1 = some m → ∃ (meth : Method) (c : Code), s.vm.method? m = some meth ∧ meth.code = some c ∧ c.code = Y.2.1 ∧ c.maxLocals = Y.2.2.1 ∧ meth.sig.returnType = Y.2.2.2 ∧ meth.locks = false ∧ parseMethodDescriptor Y.1.desc = some meth.sig ∧ c.exceptionTable.toList.map (fun h => (h.startPc, h.endPc, h.handlerPc, h.catchType)) = hs
theorem zg_Kcode (Y : za_Y) : zg_K (.code Y.1 Y.2.1 Y.2.2.1 Y.2.2.2) Y [] := by
  intro args s m h hn
  obtain ⟨meth, c, h1, h2, h3, h4, h5, h6, h7, h8⟩ := Cond.code_spec hn h
  refine ⟨meth, c, h1, h2, h3, h4, h5, h6, h8, ?_⟩
  have h9 : c.exceptionTable = #[] := by simpa using h7
  rw [h9]; rfl
theorem zg_Kwith (Y : za_Y) (hs : List (Nat × Nat × Nat × Nat)) : zg_K (.codeWith Y.1 Y.2.1 Y.2.2.1 Y.2.2.2 hs) Y hs := by
  intro args s m h hn
  obtain ⟨m', meth, c, h0, h1, h2, h3, h4, h5, h6, h7, h8⟩ := Cond.codeWith_spec h
  cases Option.some.inj (h0.symm.trans hn)
  exact ⟨meth, c, h1, h2, h3, h4, h6, h7, h8, h5⟩
set_option maxHeartbeats 1000000 in
theorem zg_enter {l : Launch} {D : za_D} {K : Cond} {Y : za_Y} {d mc ms n : Nat} {av : List za_V} {h : za_H} {Post : Option za_V ⊕ String → za_H → Nat → Prop} {hs : List (Nat × Nat × Nat × Nat)} (cd : List (Nat × Instr × Nat)) (fl : List (Nat × Nat × Nat)) (hK : zg_K K Y hs) (hy : plainName Y.1.cls = true) (hcd : ∀ q ∈ cd, decode Y.2.1 q.1 = .ok q.2) (hfl : ∀ q ∈ fl, za_FL Y.1.cls q) (hlen : (lg_sl (av.map (za_cv D.2.2))).length ≤ Y.2.2.1)
    (body : ∀ (p : Program) (e : Env) (s : State) (m : MethodId) (args : Array Value) (below : List Frame) (meth : Method) (c : Code), za_X p s m args meth c D Y.1.cls Y.2.1 cd fl Y.2.2.1 Y.2.2.2 → zt_H D.2.2 s → c.exceptionTable.toList.map (fun h => (h.startPc, h.endPc, h.handlerPc, h.catchType)) = hs →
      za_W p l e (za_rm d mc ms) s m args below meth c D Y.2.2.1 (zg_MQ below D Post args s mc ms) h n 0 0 0 (za_ar 0 av) [] []) : zg_M l D K Y d mc ms av h n Post := by
  unfold zg_M
  refine MetFree.of_bodyS (code := Y.2.1) (maxLocals := Y.2.2.1) (ret := Y.2.2.2) hy ?_ ?_
  · intro args s m hp hn
    obtain ⟨meth, c, h1, h2, h3, h4, h5, h6, -, -⟩ := hK args s m (atoms_spec (ws := K :: za_tt) hp _ List.mem_cons_self) hn
    exact ⟨meth, c, h1, h2, h3, h4, h5, h6⟩
  · intro p e s m args below meth c s₁ B hml hv _
    obtain ⟨⟨rfl, hR, hKn⟩, hH⟩ := hv
    have hts := atoms_spec (ws := K :: za_tt) B.pre
    have X₀ : Stand p l e (za_rm d mc ms) s m ((av.map (za_cv D.2.2)).toArray) below meth c s₁ [] 0 0 := Stand.of_body B
    obtain ⟨meth', c', h1, h2, -, -, -, -, -, hex⟩ := hK _ s m (hts _ List.mem_cons_self) B.named
    cases B.method.symm.trans h1
    cases X₀.code.symm.trans h2
    have hl := lv_entry (av.map (za_cv D.2.2)) (n := Y.2.2.1) hlen
    have hh0 : s₁.heap = s.heap := by rw [B.state]; rfl
    have k := body p e s m _ below meth c ⟨B.exec, B.bytes, hml, findClass_of_methodNamed B.named, fun w hw => hts w (List.mem_cons_of_mem _ hw), hKn, hcd, hfl, B.returns, B.notSynchronized, by rw [hR.1]; exact Nat.le_add_right _ _⟩ hH hex s.heap [] _ hR va_S.rf (by show lv_has _ _ (za_lx _ _ ++ _); rw [za_lx_0, List.nil_append, za_ar_eq]; exact hl)
    obtain ⟨t, a1, o, b1, b2, b3⟩ := k s₁ hh0 X₀
    rw [lg_entry_eq]
    exact ⟨t, o, a1, b1, b2, b3⟩
section ZGEND
variable {p : Program} {l : Launch} {e : Env} {R : Room} {s : State} {m : MethodId} {args : Array Value} {below : List Frame} {meth : Method} {c : Code} {D : za_D} {nL : Nat} {Q : State → Prop} {h0 : za_H} {n cells slots pc : Nat} {lv : List (Nat × za_V)} {st : List za_V} {vw : List (Nat × za_C)} {own : String} {cc : ByteArray} {cd : List (Nat × Instr × Nat)} {fl : List (Nat × Nat × Nat)} {ret : Option FieldType} {mc ms : Nat} {Post : Option za_V ⊕ String → za_H → Nat → Prop}
/-- a road that returns -/
theorem zg_of (kk : za_W p l e R s m args below meth c D nL (MQ below (za_Q D (fun v h' n' => Post (.inl v) h' n')) args s mc ms (fun q : Nat => D.2.2 ≤ q)) h0 n cells slots pc lv st vw) : za_W p l e R s m args below meth c D nL (zg_MQ below D Post args s mc ms) h0 n cells slots pc lv st vw := by
  intro H locs ls hR hS hl T hT X
  obtain ⟨t, a1, o, b1, b2, ⟨v, h', n', hv, hp, hRp, hF⟩, L, ⟨-, hW, hsm⟩, hL⟩ := kk H locs ls hR hS hl T hT X
  exact ⟨t, a1, o, b1, b2, .inl v, h', n', L, hv, hp, hRp, hF, hW, hsm, hL⟩
/-- the same frame, as if its method were called anew in the heap as it is now -/
theorem zt_base {T : State} {locs : List Loc} (X : Stand p l e R s m args below meth c T locs cells slots) {R' : Room} (hf : R'.frames ≤ R.frames) (hl : R'.locals ≤ R.locals) (hc : cells + R'.cells ≤ R.cells) (hs : slots + R'.slots ≤ R.slots) :
    Stand p l e R' ((T.setVm s.vm).setFrames (.invoking m args :: below)) m args below meth c T [] 0 0 := by
  have htop : (T.setVm s.vm).topJava?.isSome := X.here.top
  have hF : ((T.setVm s.vm).setFrames (.invoking m args :: below)).frames = .invoking m args :: below := State.frames_setFrames _ (State.cur_lt_of_top htop)
  obtain ⟨g1, hg1⟩ := Option.isSome_iff_exists.mp htop
  obtain ⟨fr, hfr⟩ := State.topJava?_eq_some.mp hg1
  obtain ⟨th, hth, -⟩ := State.frames_cons hfr
  have hnil : T.heap.toList.drop T.heap.size = [] := List.drop_eq_nil_of_le (Nat.le_of_eq Array.length_toList)
  have hlim : e.platform.stackLimits (T.setVm s.vm).me = e.platform.stackLimits s.me := X.limits
  have hbyt : (T.setVm s.vm).me.stackBytes = s.me.stackBytes := X.bytes
  have hroom : ((T.setVm s.vm).setFrames (.invoking m args :: below)).hasRoom e.platform R' = true := by
    have h := X.room
    have hu : ((T.setVm s.vm).setFrames (.invoking m args :: below)).localsInUse = s.localsInUse := by
      rw [State.localsInUse_invoking hF (meth := meth) (c := c) X.method X.code, State.localsInUse_invoking X.frames X.method X.code]
    have k1 := X.heapSize
    have k2 := X.used
    simp only [State.hasRoom, Bool.and_eq_true, decide_eq_true_eq] at h ⊢
    obtain ⟨⟨⟨⟨a1, a2, a3, a4, a5, a6⟩, a7⟩, a8⟩, -⟩ := h
    rw [X.frames, List.length_cons] at a2 a3
    simp only [hF, hu, List.length_cons, State.stackLimits_setFrames, State.stackBytes_setFrames, hlim, hbyt]
    have b7 : T.heap.size + R'.cells ≤ e.platform.maxCells := by omega
    have b8 : T.slotsUsed + R'.slots ≤ e.platform.maxSlots := by omega
    exact ⟨⟨⟨⟨by omega, by omega, by omega, by omega, by omega, a6⟩, b7⟩, b8⟩, X.book⟩
  refine ⟨X.admits, X.cas, X.clock, hF, hroom, X.hears, X.method, X.code, X.here, X.tail, X.warmed, by rw [State.stackLimits_setFrames]; rfl, by rw [State.stackBytes_setFrames]; rfl, ?_, Nat.le_refl _, Nat.le_refl _, ?_, ?_, fun a c9 h9 => ⟨c9, h9, rfl, rfl, fun _ _ => rfl⟩⟩
  · show T.setVm s.vm = { ((T.setVm s.vm).setFrames (.invoking m args :: below)).setFrames (T.setVm s.vm).frames with heap := T.heap, slotsUsed := T.slotsUsed }
    rw [State.setFrames_setFrames, State.setFrames_self hth]
    rfl
  · show T.slotsUsed = T.slotsUsed + ((T.heap.toList.drop T.heap.size).map (·.slots.size)).sum
    rw [hnil]; rfl
  · show ((T.heap.toList.drop T.heap.size).map (·.slots.size)).sum ≤ 0
    rw [hnil]; exact Nat.le_refl _
theorem zt_old {U : State} {k1 k2 : Nat} (h : s.sameButNew ({ U with vm := s.vm } : State) [] k1 k2) : s.heap.size ≤ U.heap.size ∧ ∀ q : Nat, q < s.heap.size → U.heap[q]? = s.heap[q]? := by
  obtain ⟨-, h2, -, -, -, h6⟩ := h
  refine ⟨h2, fun q hq => ?_⟩
  obtain ⟨c9, e1, e2, e3, e4⟩ := h6 q _ (Array.getElem?_eq_getElem hq)
  have hsl : c9.slots = (s.heap[q]).slots := Array.ext_getElem? fun i => e4 i fun hm => nomatch hm
  rw [hsl] at e2
  have e5 : U.heap[q]? = some c9 := e1
  rw [e5, Array.getElem?_eq_getElem hq]
  exact congrArg some e2
/-- the words of a throw of E: the class, its constructors up to Throwable's -/
def zt_E (own : String) (ik ic : Nat) (E : String) (names : List String) : Prop := Bundle.fit E = true ∧ (∀ x ∈ names, Bundle.fit x = true) ∧ Cond.classLink own ik E ∈ za_tt ∧ Cond.initialized E ∈ za_tt ∧ ∀ w ∈ Bundle.ownAtoms0 own ic E names, w ∈ za_tt ∨ w = .isRef (.static Bundle.tN "UNASSIGNED_STACK" Bundle.steD) ∨ w = .isRef (.static Bundle.tN "SUPPRESSED_SENTINEL" Bundle.listD) ∨ w = .laysStatic Bundle.tN "UNASSIGNED_STACK" Bundle.steD ∨ w = .laysStatic Bundle.tN "SUPPRESSED_SENTINEL" Bundle.listD
set_option maxHeartbeats 2000000 in
/-- throw new E() -/
theorem zg_throw (X : za_X p s m args meth c D own cc cd fl nL ret) (hH : zt_H D.2.2 s) (hst : l.stackTraces = false) (hnx : c.exceptionTable.toList.map (fun h => (h.startPc, h.endPc, h.handlerPc, h.catchType)) = []) {ik ic : Nat} {E : String} {names : List String} (f0 : za_fe cd pc = some (.new ik, 3)) (f3 : za_fe cd (pc + 3) = some (.dup, 1)) (f4 : za_fe cd (pc + 4) = some (.invokespecial ic, 3)) (f7 : za_fe cd (pc + 7) = some (.athrow, 1)) (hE : zt_E own ik ic E names)
    (hfr : names.length + 3 < R.frames) (hlo : za_wt st + (13 * (names.length + 1) + 42) ≤ R.locals) (hce : cells + 1 ≤ R.cells) (hsl : slots + 6 ≤ R.slots) (hp : Post (.inr E) (za_ov h0 vw) (n + 1)) (hc : cells + 1 ≤ mc) (hs : slots + 6 ≤ ms) : za_W p l e R s m args below meth c D nL (zg_MQ below D Post args s mc ms) h0 n cells slots pc lv st vw := by
  intro H locs ls hR hS hl T hT X9
  obtain ⟨hx, hb, hml, hown, hts, hK, hcd, hF, hr, hlocks, hz⟩ := X
  obtain ⟨hE1, hE2, hE3, hE4, hE5⟩ := hE
  have htr : e.platform.stackTraces = false := (show e.platform.stackTraces = l.stackTraces by rw [X9.admits.platform]).trans hst
  have Y := zt_base X9 (R' := { frames := R.frames, locals := R.locals, cells := 1, slots := 6 }) (Nat.le_refl _) (Nat.le_refl _) hce hsl
  obtain ⟨s', hA⟩ : ∃ q, q = (T.setVm s.vm).setFrames (.invoking m args :: below) := ⟨_, rfl⟩
  rw [← hA] at Y
  have hvm : s'.vm = s.vm := by rw [hA]; rfl
  have hhp : s'.heap = H := by rw [hA]; exact hT
  have hW0 : s.WarmedH s'.vm := by rw [hvm]; exact State.WarmedH.refl s
  have hH' : zt_H D.2.2 s' := hH.to hW0.alike (fun a ha => by rw [hhp]; exact hS.2.1 a (Nat.lt_of_lt_of_le ha hz) (Nat.not_le.mpr ha))
  have hts' : ∀ w ∈ za_tt, w.before args s' = true := fun w hw => za_pay w hw (hts w hw) hW0
  have hown' : s'.vm.findClass own = some m.cls := by rw [hvm]; exact hown
  have hat : ∀ w ∈ Bundle.ownAtoms0 own ic E names, w.before args s' = true := by
    intro w hw
    rcases hE5 w hw with h | rfl | rfl | rfl | rfl
    · exact hts' w h
    · exact hH'.1.ref
    · exact hH'.2.1.ref
    · exact hH'.1.lays
    · exact hH'.2.1.lays
  have hins : (Cond.instantiable E 6).before args s' = true := hat _ (by simp [Bundle.ownAtoms0])
  have hnx2 : c.exceptionTable.toList = [] := List.map_eq_nil_iff.mp hnx
  obtain ⟨vm₁, cX, kX, hfX, hkX, -, -, X₁, st1⟩ := Y.newCold hx (own := own) (C := E) (index := ik) (n := 6) hown' (hts' _ hE3) hins (hts' _ hE4)
    (g := F0 m pc ls (st.map (za_cv D.2.2))) rfl (by rw [hb]; exact za_fe_ok hcd f0) (Nat.le_refl _) (Nat.le_refl _)
  generalize hT1 : (T.setVm vm₁).pushCell { cls := cX, slots := kX.instanceTypes.map defaultValue, vm := .none } = T1 at X₁ st1
  have hcat : (Value.ref T.heap.size).category = 1 := rfl
  have hcellA : T1.heap[T.heap.size]? = some (freshCell cX kX) := by rw [← hT1]; exact State.heap_pushCell_size _ _
  have d3 : decode c.code (pc + 3) = .ok (.dup, 1) := by rw [hb]; exact za_fe_ok hcd f3
  obtain ⟨U, hsteps, hrun, hend, hW, hsame, ce, hce2, hO⟩ := X₁.ctorThrow0 hx htr (own := own) (cls := E) (names := names) (ic := ic) hown' hE1 hE2 hat (fun x hx => nomatch hx) hfX hkX hcellA (by rw [hhp, hT]; exact Nat.le_refl _)
    (g := { method := m, pc := pc + 4, locals := ls, stack := .ref T.heap.size :: .ref T.heap.size :: st.map (za_cv D.2.2), locked := none }) rfl (by rw [hml]; exact hl.1) rfl rfl (rest := st.map (za_cv D.2.2)) rfl
    (by rw [hb]; exact za_fe_ok hcd f4) (by rw [hb]; exact za_fe_ok hcd f7) (fun x hx => by rw [hnx2] at hx; cases hx) hfr (by
      simp only [List.map_cons, List.sum_cons, hcat, za_wt_eq]
      show 2 * 0 + _ + _ ≤ R.locals
      omega) hlocks
  obtain ⟨f1, f2⟩ := zt_old hsame
  rw [hhp] at f1 f2
  have hWs : s.WarmedH U.vm := State.WarmedH.trans hW0 hW
  have hsz : T.heap.size = D.2.2 + n := by rw [hT]; exact hR.1
  have hall : s.sameButNew ({ U with vm := s.vm } : State) locs (cells + 1) (slots + 6) := by
    subst hA
    obtain ⟨e1, e2⟩ := hsame
    rw [State.setFrames_setFrames] at e1
    have h2 : (T.setVm s.vm).sameButNew ({ U with vm := s.vm } : State) [] (0 + 1) (0 + 6) := ⟨e1, e2⟩
    have h3 := X9.same.trans h2
    rw [List.append_nil] at h3
    exact h3
  have hUsz : U.heap.size = D.2.2 + n + 1 := by
    have h4 : U.heap.size ≤ s'.heap.size + (0 + 1) := hsame.2.2.1
    rw [hhp, hR.1] at h4
    have h5 : T.heap.size < U.heap.size := (Array.getElem?_eq_some_iff.mp hce2).1
    omega
  have hRU : za_Rp D (za_ov h0 vw) (n + 1) U.heap := hR.push hUsz (fun q hq => f2 q (by rw [hR.1]; exact hq)) (fun c9 h9 => by
    rw [hsz] at hce2
    rw [hce2] at h9
    cases h9
    exact hO.vm)
  refine ⟨U, ?_, .threw T.heap.size, hrun, hend, .inr E, za_ov h0 vw, n + 1, locs, ⟨n, ce, by rw [hsz], by rw [← hsz]; exact hce2, by have h9 := hO.cls; rw [hvm] at h9; exact h9⟩, hp, hRU, ⟨by rw [hUsz]; have := hS.1; rw [hR.1] at this; omega, fun q h1 h2 => (f2 q (Nat.lt_of_lt_of_le h1 hS.1)).trans (hS.2.1 q h1 h2)⟩, hWs, hall.mono hc hs, hS.2.2⟩
  refine st1 _ ?_
  show Steps p.tables e below (T1.setTop { method := m, pc := pc + 3, locals := ls, stack := .ref T.heap.size :: st.map (za_cv D.2.2), locked := none }) _
  jvm_step X₁.here [X₁.here.top, hx, d3, Value.category]
  exact hsteps
end ZGEND
end
section
/-! CALLS BY A GENERAL CONTRACT -/
/-- where a call has thrown: the object lies at z + i and is of the class E; the frame stands at the call, its arguments taken off -/
def zg_Z (p : Program) (l : Launch) (e : Env) (R : Room) (s : State) (m : MethodId) (args : Array Value) (below : List Frame) (meth : Method) (c : Code) (D : za_D) (nL : Nat) (Q : State → Prop) (h0 : za_H) (n cells slots pc : Nat) (lv : List (Nat × za_V)) (st : List za_V) (E : String) (i : Nat) : Prop :=
  ∀ (H : Heap) (locs : List Loc) (ls : Array Slot), za_Rp D h0 n H → va_S (fun q : Nat => D.2.2 ≤ q) s.heap H locs → za_lh args ls nL D.2.2 lv → (∃ ce : Cell, H[D.2.2 + i]? = some ce ∧ s.vm.findClass E = some ce.cls) →
    ∀ T : State, T.heap = H → Stand p l e R s m args below meth c T locs cells slots → ∃ t, Steps p.tables e below ((T.setTop (F0 m pc ls (st.map (za_cv D.2.2)))).pushFrame (.throwing (D.2.2 + i))) t ∧ Q t
section ZGCALL
variable {p : Program} {l : Launch} {e : Env} {R : Room} {s : State} {m : MethodId} {args : Array Value} {below : List Frame} {meth : Method} {c : Code} {D : za_D} {nL : Nat} {Q : State → Prop} {h0 : za_H} {n cells slots pc : Nat} {lv : List (Nat × za_V)} {st : List za_V} {vw : List (Nat × za_C)} {own : String} {cc : ByteArray} {cd : List (Nat × Instr × Nat)} {fl : List (Nat × Nat × Nat)} {ret : Option FieldType} {mc ms d np idx b : Nat} {K : Cond} {Y : za_Y} {as rest av : List za_V} {Post : Option za_V ⊕ String → za_H → Nat → Prop} {hs : List (Nat × Nat × Nat × Nat)}
def zg_E (p : Program) (e : Env) (below : List Frame) (D : za_D) (U : State) (g : JFrame) (len : Nat) (mk : MethodId) (av : List za_V) (B : State) (r : Option za_V ⊕ String) : Prop := match r with
  | .inl v => Steps p.tables e below (doInvoke e (U.setTop g) [] mk (av.map (za_cv D.2.2)).toArray).1 (B.setTop { g with pc := g.pc + len, stack := (v.map (za_cv D.2.2)).toList ++ g.stack })
  | .inr E => ∃ (i : Nat) (ce : Cell), B.heap[D.2.2 + i]? = some ce ∧ U.vm.findClass E = some ce.cls ∧ Steps p.tables e below (doInvoke e (U.setTop g) [] mk (av.map (za_cv D.2.2)).toArray).1 ((B.setTop g).pushFrame (.throwing (D.2.2 + i)))
set_option maxHeartbeats 2000000 in
theorem zg_back {h : za_H} {U : State} {locs : List Loc} (hM : zg_M l D K Y d mc ms av h n Post) (hK : zg_K K Y hs) (hKt : K ∈ za_tt) (hini : Cond.initialized Y.1.cls ∈ za_tt) (X : Stand p l e R s m args below meth c U locs cells slots) (hts : ∀ w ∈ za_tt, w.before args s = true)
    {g : JFrame} {ig : Instr} {len : Nat} {mk : MethodId} (hg : g.method = m) (hsize : g.locals.size = c.maxLocals) (hdg : decode c.code g.pc = .ok (ig, len)) (hW : 2 * g.monitorRoom + (g.stack.map fun v => v.category).sum ≤ 8) (hn : U.methodNamed? Y.1 = some mk)
    (hfr : d + 1 ≤ R.frames) (hlo : 8 + (Y.2.2.1 + 11) + 40 * d ≤ R.locals) (hce : cells + mc ≤ R.cells) (hsl : slots + ms ≤ R.slots) (hR : za_Rp D h n U.heap) (hKn : va_K D.1 za_cl (za_tys D) U) (hH : zt_H D.2.2 U) :
    ∃ (r : Option za_V ⊕ String) (h' : za_H) (n' : Nat) (B : State) (L : List Loc), Post r h' n' ∧ za_Rp D h' n' B.heap ∧ Stand p l e R s m args below meth c B (locs ++ L) (cells + mc) (slots + ms) ∧ (∀ x ∈ L, D.2.2 ≤ x.base) ∧ va_F (fun q : Nat => D.2.2 ≤ q) U B ∧ zg_E p e below D U g len mk av B r := by
  have hpay : ∀ w ∈ za_tt, ∀ a' : Array Value, w.before a' U = true := fun w hw a' => za_pay w hw (hts w hw) X.warmed
  have h1 : (headSpec (K :: za_tt) (za_rm d mc ms)).pre.before (av.map (za_cv D.2.2)).toArray U = true := atoms_intro fun w hw => by
    rcases List.mem_cons.mp hw with rfl | hw
    · exact hpay _ hKt _
    · exact hpay _ hw _
  obtain ⟨methY, cY, hmY, hcY, -, hlY, -, -, -, -⟩ := hK (av.map (za_cv D.2.2)).toArray U mk (hpay _ hKt _) hn
  obtain ⟨kY, hkY, -⟩ := className_of_methodNamed hn
  have hinitY : kY.init = .initialized := Cond.initialized_spec (findClass_of_methodNamed hn) hkY (hpay _ hini (av.map (za_cv D.2.2)).toArray)
  have hat : At U g.method c below := by rw [hg]; exact X.here
  have happ : (headSpec (K :: za_tt) (za_rm d mc ms)).appliesLoose Y.1 e.platform (U.calling g mk (av.map (za_cv D.2.2)).toArray) = true :=
    Spec.appliesLoose_calling (g := g) hat hdg hn hkY hinitY
      (X.room_calling (g := g) (R' := (headSpec (K :: za_tt) (za_rm d mc ms)).room) hsize hmY hcY hfr (by rw [hlY]; show _ + 40 * d ≤ _; omega) hce hsl) h1
  obtain ⟨mid, hmid⟩ := hat.above
  have hfrm : (U.setTop g).frames = (.java g :: mid) ++ below := by rw [State.frames_setTop' g hat.top, hmid]; rfl
  have hPc : zg_P D av h n (av.map (za_cv D.2.2)).toArray (U.calling g mk (av.map (za_cv D.2.2)).toArray) := ⟨⟨rfl, hR, va_K.moved (u := U) (U := U.calling g mk (av.map (za_cv D.2.2)).toArray) (Vm.Alike.refl U.vm) hKn⟩, hH.to (U := U.calling g mk (av.map (za_cv D.2.2)).toArray) (Vm.Alike.refl U.vm) (fun _ _ => rfl)⟩
  obtain ⟨o, s₂, hsteps, -, hend, hq⟩ := Steps.callFree hM p X.admits X.cas X.clock (acts := []) hfrm happ hPc trivial
  obtain ⟨r, h', n', L, hro, hp, hRp, hF, hW₂, hsm, hL⟩ := (show zg_Q D Post mc ms (av.map (za_cv D.2.2)).toArray (U.calling g mk (av.map (za_cv D.2.2)).toArray) o s₂ from hq)
  rw [State.frames_setTop' g hat.top] at hend
  obtain ⟨g1, hg1⟩ := Option.isSome_iff_exists.mp hat.top
  obtain ⟨fr, hfr1⟩ := State.topJava?_eq_some.mp hg1
  have hfr2 : (({ U with heap := s₂.heap, slotsUsed := s₂.slotsUsed } : State).setVm s₂.vm).frames = .java g1 :: fr := hfr1
  obtain ⟨e2, q2, q3, q4, q5, q6⟩ := id hsm
  have e3 : s₂ = ({ (U.calling g mk (av.map (za_cv D.2.2)).toArray).setFrames s₂.frames with heap := s₂.heap, slotsUsed := s₂.slotsUsed } : State).setVm s₂.vm := by
    have h9 : s₂ = ({ s₂ with vm := (U.calling g mk (av.map (za_cv D.2.2)).toArray).vm } : State).setVm s₂.vm := rfl
    rw [e2] at h9
    exact h9
  have hW' : U.WarmedH s₂.vm := hW₂
  have hsame : U.sameButNew ({ U with heap := s₂.heap, slotsUsed := s₂.slotsUsed } : State) L mc ms := by
    refine ⟨?_, q2, q3, q4, q5, q6⟩
    obtain ⟨th, hth, -⟩ := State.frames_cons hfr1
    show ({ U with heap := s₂.heap, slotsUsed := s₂.slotsUsed } : State) = { U.setFrames U.frames with heap := s₂.heap, slotsUsed := s₂.slotsUsed }
    rw [State.setFrames_self hth]
  have hB : Stand p l e R s m args below meth c (({ U with heap := s₂.heap, slotsUsed := s₂.slotsUsed } : State).setVm s₂.vm) (locs ++ L) (cells + mc) (slots + ms) :=
    ⟨X.admits, X.cas, X.clock, X.frames, X.room, X.hears, X.method, X.code, (X.here.setHeapUsed s₂.heap s₂.slotsUsed).setVm hW'.alike, X.tail, State.WarmedH.trans X.warmed hW', X.limits, X.bytes, X.same.trans (hsame.setVm s.vm)⟩
  refine ⟨r, h', n', ({ U with heap := s₂.heap, slotsUsed := s₂.slotsUsed } : State).setVm s₂.vm, L, hp, hRp, hB, hL, hF, ?_⟩
  rcases r with v | E
  · have ho : o = .returned (v.map (za_cv D.2.2)) := hro
    subst ho
    obtain ⟨c₂, i₂, len₂, hc₂, hd₂, hf₂⟩ := hend
    have hcc : c₂ = c := by
      have h9 : s₂.code? g.method = U.code? g.method := by
        rw [State.code?_eq, State.code?_eq, hW'.alike.method?]
      exact Option.some.inj (hc₂.symm.trans (h9.trans hat.code))
    subst hcc
    have hlen : len₂ = len := by rw [hdg] at hd₂; cases hd₂; rfl
    subst hlen
    have hs₂ : s₂ = (({ U with heap := s₂.heap, slotsUsed := s₂.slotsUsed } : State).setVm s₂.vm).setTop { g with pc := g.pc + len₂, stack := (v.map (za_cv D.2.2)).toList ++ g.stack } := by
      refine e3.trans ?_
      rw [hf₂, State.calling_eq hat.top, State.setFrames_setFrames, State.setTop_of_frames _ hfr2, hfr1]
      rfl
    show Steps p.tables e below _ ((({ U with heap := s₂.heap, slotsUsed := s₂.slotsUsed } : State).setVm s₂.vm).setTop { g with pc := g.pc + len₂, stack := (v.map (za_cv D.2.2)).toList ++ g.stack })
    rw [← hs₂]
    exact hsteps
  · obtain ⟨i, ce, ho, hc1, hc2⟩ := (show ∃ (i : Nat) (ce : Cell), o = .threw (D.2.2 + i) ∧ s₂.heap[D.2.2 + i]? = some ce ∧ (U.calling g mk (av.map (za_cv D.2.2)).toArray).vm.findClass E = some ce.cls from hro)
    subst ho
    have hf₂ : s₂.frames = .throwing (D.2.2 + i) :: .java g :: U.frames.tail := hend
    have hs₂ : s₂ = ((({ U with heap := s₂.heap, slotsUsed := s₂.slotsUsed } : State).setVm s₂.vm).setTop g).pushFrame (.throwing (D.2.2 + i)) := by
      refine e3.trans ?_
      rw [hf₂, State.calling_eq hat.top, State.setFrames_setFrames, State.pushFrame, State.frames_setTop _ hfr2, State.setTop_of_frames _ hfr2, State.setFrames_setFrames, hfr1]
      rfl
    refine ⟨i, ce, hc1, hc2, ?_⟩
    show Steps p.tables e below _ (((({ U with heap := s₂.heap, slotsUsed := s₂.slotsUsed } : State).setVm s₂.vm).setTop g).pushFrame (.throwing (D.2.2 + i)))
    rw [← hs₂]
    exact hsteps
/-- what goes on behind a call -/
def zg_N (p : Program) (l : Launch) (e : Env) (R : Room) (s : State) (m : MethodId) (args : Array Value) (below : List Frame) (meth : Method) (c : Code) (D : za_D) (nL : Nat) (Q : State → Prop) (h0 : za_H) (n cells slots pc : Nat) (lv : List (Nat × za_V)) (st : List za_V) (r : Option za_V ⊕ String) : Prop := match r with
  | .inl v => za_W p l e R s m args below meth c D nL Q h0 n cells slots (pc + 3) lv (v.toList ++ st) []
  | .inr E => ∀ i : Nat, zg_Z p l e R s m args below meth c D nL Q h0 n cells slots pc lv st E i
theorem zg_next {H : Heap} {locs : List Loc} {ls : Array Slot} {T U : State} {mk : MethodId} (hS : va_S (fun q : Nat => D.2.2 ≤ q) s.heap H locs) (hl : za_lh args ls nL D.2.2 lv) (hU : U.heap = H) (hWU : s.WarmedH U.vm)
    (hb : ∃ (r : Option za_V ⊕ String) (h' : za_H) (n' : Nat) (B : State) (L : List Loc), Post r h' n' ∧ za_Rp D h' n' B.heap ∧ Stand p l e R s m args below meth c B (locs ++ L) (cells + mc) (slots + ms) ∧ (∀ x ∈ L, D.2.2 ≤ x.base) ∧ va_F (fun q : Nat => D.2.2 ≤ q) U B ∧ zg_E p e below D U (F0 m pc ls (rest.map (za_cv D.2.2))) 3 mk av B r)
    (hgo : ∀ target, Steps p.tables e below (doInvoke e (U.setTop (F0 m pc ls (rest.map (za_cv D.2.2)))) [] mk (av.map (za_cv D.2.2)).toArray).1 target → Steps p.tables e below T target)
    (kk : ∀ (r : Option za_V ⊕ String) (h' : za_H) (n' : Nat), Post r h' n' → zg_N p l e R s m args below meth c D nL Q h' n' (cells + mc) (slots + ms) pc lv rest r) : ∃ t, Steps p.tables e below T t ∧ Q t := by
  obtain ⟨r, h', n', B, L, hp, hRp, hB, hL, ⟨hF1, hF2⟩, hE⟩ := hb
  rw [hU] at hF1 hF2
  have hS1 : va_S (fun q : Nat => D.2.2 ≤ q) s.heap B.heap (locs ++ L) := ⟨Nat.le_trans hS.1 hF1, fun q h1 h2 => (hF2 q (Nat.lt_of_lt_of_le h1 hS.1) h2).trans (hS.2.1 q h1 h2), fun q hq => by
    rcases List.mem_append.mp hq with h | h
    · exact hS.2.2 q h
    · exact hL q h⟩
  have k := kk r h' n' hp
  rcases r with v | E
  · have hE2 : Steps p.tables e below _ (B.setTop { F0 m pc ls (rest.map (za_cv D.2.2)) with pc := pc + 3, stack := (v.map (za_cv D.2.2)).toList ++ rest.map (za_cv D.2.2) }) := hE
    obtain ⟨t, a1, b1⟩ := k B.heap (locs ++ L) ls hRp hS1 hl B rfl hB
    rw [← za_toL] at a1
    exact ⟨t, hgo t (hE2.trans a1), b1⟩
  · obtain ⟨i, ce, h1, h2, h3⟩ := hE
    obtain ⟨t, a1, b1⟩ := k i B.heap (locs ++ L) ls hRp hS1 hl ⟨ce, h1, by rw [← hWU.alike.findClass]; exact h2⟩ B rfl hB
    exact ⟨t, hgo t (h3.trans a1), b1⟩
set_option maxHeartbeats 2000000 in
theorem zg_callV (X : za_X p s m args meth c D own cc cd fl nL ret) (hH : zt_H D.2.2 s) (hf : za_fe cd pc = some (.invokevirtual idx, 3)) (hL : Cond.methodLink own idx Y.1 ∈ za_tt) (hK : zg_K K Y hs) (hKt : K ∈ za_tt) (hini : Cond.initialized Y.1.cls ∈ za_tt) (hin : Cond.instanceMethod Y.1 ∈ za_tt) (hse : Cond.selects Y.1.cls Y.1 Y.1 ∈ za_tt) (hy : Y.1.cls ≠ "java/lang/invoke/MethodHandle" ∧ Y.1.cls ≠ "java/lang/invoke/VarHandle") (hnp : (parseMethodDescriptor Y.1.desc).map (fun d => d.parameters.length) = some as.length)
    (hM : zg_M l D K Y d mc ms (vR b :: as) (za_ov h0 vw) n Post) (hst : st = as.reverse ++ vR b :: rest) {ci N : Nat} {fs : List za_V} {T0 : u_T} (hrc : za_ov h0 vw b = some (.inr (ci, fs))) (hcl : za_cl[ci]? = some (Y.1.cls, T0, N)) (hw : za_wt rest ≤ 8) (hfr : d + 1 ≤ R.frames) (hlo : 8 + (Y.2.2.1 + 11) + 40 * d ≤ R.locals) (hce : cells + mc ≤ R.cells) (hsl : slots + ms ≤ R.slots)
    (kk : ∀ (r : Option za_V ⊕ String) (h' : za_H) (n' : Nat), Post r h' n' → zg_N p l e R s m args below meth c D nL Q h' n' (cells + mc) (slots + ms) pc lv rest r) : za_W p l e R s m args below meth c D nL Q h0 n cells slots pc lv st vw := by
  intro H locs ls hR hS hl T hT X9
  subst hst
  obtain ⟨hx, hb, hml, hown, hts, hKn, hcd, hF, hr, hlocks, hz⟩ := X
  have hd : decode c.code pc = .ok (.invokevirtual idx, 3) := by rw [hb]; exact za_fe_ok hcd hf
  obtain ⟨mk, methM, hnamed, hmethM, hstM, habM⟩ := Cond.instanceMethod_spec (hts _ hin)
  obtain ⟨methM', cM, hmethM', -, -, -, -, -, hsigM, -⟩ := hK args s mk (hts _ hKt) hnamed
  cases hmethM.symm.trans hmethM'
  obtain ⟨cellB, hcB, hoB, hclB⟩ := va_recv hKn (za_P1 (q := (D.2.2 + b, .inr (ci, fs.map (za_cv D.2.2)))) (hR.2.1 b _ hrc)) hcl (q0 := 0) rfl
  obtain ⟨c2, r2, m2, q1, q2, q3, q4, kP, hkP, hkPi⟩ := Cond.selects_spec (hts _ hse)
  cases hclB.symm.trans q1
  cases (State.methodFound?_of_named hnamed hy).symm.trans q2
  cases hnamed.symm.trans q3
  have hselP : selectMethod e.platform s.vm cellB.cls mk = .method mk := by rw [Launch.admits_selectMethod X9.admits]; exact q4
  have hstk : (F0 m pc ls ((as.reverse ++ vR b :: rest).map (za_cv D.2.2))).stack = (as.map (za_cv D.2.2)).reverse ++ .ref (D.2.2 + b) :: rest.map (za_cv D.2.2) := by
    show (as.reverse ++ vR b :: rest).map (za_cv D.2.2) = _
    rw [List.map_append, List.map_reverse]
    rfl
  have hlen : (as.map (za_cv D.2.2)).length = methM.sig.parameters.length := by
    rw [hsigM] at hnp
    rw [List.length_map]
    exact (Option.some.inj hnp).symm
  obtain ⟨vm₁, X₁, hstep₁⟩ := X9.invokevirtual hx hown (hts _ hL) hnamed hmethM hstM hkP hkPi hy (a := D.2.2 + b) (cell := cellB) (by rw [hT]; exact hcB)
    (fun z h => by rw [h] at hoB; cases hoB) hselP hmethM habM hkP hkPi (g := F0 m pc ls ((as.reverse ++ vR b :: rest).map (za_cv D.2.2))) rfl (argsL := as.map (za_cv D.2.2)) (rest := rest.map (za_cv D.2.2)) hlen hstk hd
  have hrm := lv_room (m := m) (pc := pc) (ls := ls) (rest := rest.map (za_cv D.2.2)) (st := rest.map (za_cv D.2.2)) (by rw [za_wt_eq]; exact hw)
  have hbk := zg_back (U := T.setVm vm₁) hM hK hKt hini X₁ hts (g := F0 m pc ls (rest.map (za_cv D.2.2))) rfl (by rw [hml]; exact hl.1) hd hrm (X₁.named hnamed) hfr hlo hce hsl (by show za_Rp D _ n T.heap; rw [hT]; exact hR) (va_K.moved X₁.warmed.alike hKn) (hH.to X₁.warmed.alike (fun a ha => by show T.heap[a]? = _; rw [hT]; exact hS.2.1 a (Nat.lt_of_lt_of_le ha hz) (Nat.not_le.mpr ha)))
  exact zg_next (U := T.setVm vm₁) hS hl hT X₁.warmed hbk (fun target h => hstep₁ _ fun acts => by rw [doInvoke_state]; exact h) kk
set_option maxHeartbeats 2000000 in
theorem zg_callS (X : za_X p s m args meth c D own cc cd fl nL ret) (hH : zt_H D.2.2 s) (hf : za_fe cd pc = some (.invokestatic idx, 3)) (hL : Cond.methodLink own idx Y.1 ∈ za_tt) (hK : zg_K K Y hs) (hKt : K ∈ za_tt) (hini : Cond.initialized Y.1.cls ∈ za_tt) (hsta : Cond.static Y.1 ∈ za_tt) (hy : Y.1.cls ≠ "java/lang/invoke/MethodHandle" ∧ Y.1.cls ≠ "java/lang/invoke/VarHandle") (hnp : (parseMethodDescriptor Y.1.desc).map (fun d => d.parameters.length) = some as.length) (hnd : ∀ (a : Array Value) (u : State), K.before a u = true → ∃ mk, u.methodNamed? Y.1 = some mk)
    (hM : zg_M l D K Y d mc ms as (za_ov h0 vw) n Post) (hst : st = as.reverse ++ rest) (hw : za_wt rest ≤ 8) (hfr : d + 1 ≤ R.frames) (hlo : 8 + (Y.2.2.1 + 11) + 40 * d ≤ R.locals) (hce : cells + mc ≤ R.cells) (hsl : slots + ms ≤ R.slots)
    (kk : ∀ (r : Option za_V ⊕ String) (h' : za_H) (n' : Nat), Post r h' n' → zg_N p l e R s m args below meth c D nL Q h' n' (cells + mc) (slots + ms) pc lv rest r) : za_W p l e R s m args below meth c D nL Q h0 n cells slots pc lv st vw := by
  intro H locs ls hR hS hl T hT X9
  subst hst
  obtain ⟨hx, hb, hml, hown, hts, hKn, hcd, hF, hr, hlocks, hz⟩ := X
  have hd : decode c.code pc = .ok (.invokestatic idx, 3) := by rw [hb]; exact za_fe_ok hcd hf
  obtain ⟨mk, hnamed⟩ := hnd args s (hts _ hKt)
  obtain ⟨methM, cM, hmethM, -, -, -, -, -, hsigM, -⟩ := hK args s mk (hts _ hKt) hnamed
  have hstatic : methM.isStatic = true := Cond.static_spec hnamed hmethM (hts _ hsta)
  obtain ⟨kP, hkP, -⟩ := className_of_methodNamed hnamed
  have hinitP : kP.init = .initialized := Cond.initialized_spec (findClass_of_methodNamed hnamed) hkP (hts _ hini)
  have hstk : (F0 m pc ls ((as.reverse ++ rest).map (za_cv D.2.2))).stack = (as.map (za_cv D.2.2)).reverse ++ rest.map (za_cv D.2.2) := by
    show (as.reverse ++ rest).map (za_cv D.2.2) = _
    rw [List.map_append, List.map_reverse]
  have hlen : (as.map (za_cv D.2.2)).length = methM.sig.parameters.length := by
    rw [hsigM] at hnp
    rw [List.length_map]
    exact (Option.some.inj hnp).symm
  obtain ⟨vm₁, X₁, hstep₁⟩ := X9.invokestatic hx hown (hts _ hL) hnamed hmethM hstatic hkP hinitP hy (g := F0 m pc ls ((as.reverse ++ rest).map (za_cv D.2.2))) rfl (argsL := as.map (za_cv D.2.2)) (rest := rest.map (za_cv D.2.2)) hlen hstk hd
  have hrm := lv_room (m := m) (pc := pc) (ls := ls) (rest := rest.map (za_cv D.2.2)) (st := rest.map (za_cv D.2.2)) (by rw [za_wt_eq]; exact hw)
  have hbk := zg_back (U := T.setVm vm₁) hM hK hKt hini X₁ hts (g := F0 m pc ls (rest.map (za_cv D.2.2))) rfl (by rw [hml]; exact hl.1) hd hrm (X₁.named hnamed) hfr hlo hce hsl (by show za_Rp D _ n T.heap; rw [hT]; exact hR) (va_K.moved X₁.warmed.alike hKn) (hH.to X₁.warmed.alike (fun a ha => by show T.heap[a]? = _; rw [hT]; exact hS.2.1 a (Nat.lt_of_lt_of_le ha hz) (Nat.not_le.mpr ha)))
  exact zg_next (U := T.setVm vm₁) hS hl hT X₁.warmed hbk (fun target h => hstep₁ _ fun acts => by rw [doInvoke_state]; exact h) kk
end ZGCALL
theorem zh_fvf (u : State) (vm' : Vm) (F G : List Frame) : ((u.setFrames F).setVm vm').setFrames G = (u.setVm vm').setFrames G := (show ((u.setVm vm').setFrames F).setFrames G = (u.setVm vm').setFrames G from State.setFrames_setFrames _ _ _)
/-! CATCHES: the search through a method's table, its classes resolved or not -/
section ZGCATCH
/-- a row that the search passes -/
def zh_no (pl : Platform) (s : State) (d : ClassId) (pc : Nat) (tc : ClassId) (y : ExceptionTableEntry) : Prop := covers y pc = false ∨ (covers y pc = true ∧ y.catchType ≠ 0 ∧ ∃ c, s.vm.ClassLinks pl d y.catchType c ∧ s.vm.assignable tc c = false)
theorem zh_one {Q : Handler → Pre} {E : CtlPost} {e : Env} {d : Bool} {acts : List Action} {s : State} {f : JFrame} {a : Addr} {x : ExceptionTableEntry} {t : List ExceptionTableEntry} {c : ClassId} {cell : Cell} (hx : covers x f.pc = true) (h0 : x.catchType ≠ 0)
    (hl : s.vm.ClassLinks e.platform f.method.cls x.catchType c) (hcell : s.heap[a]? = some cell) (hobj : ∀ k, cell.vm ≠ .statics k) (hk : ∃ k, s.vm.classes[cell.cls]? = some k) (hc : ∃ k, s.vm.classes[c]? = some k) :
    wp (findHandler.go f a (x :: t)) Q E e d acts s ↔ if s.vm.assignable cell.cls c = true then Q (.found x.handlerPc) d acts (s.setVm (s.vm.noted f.method.cls x.catchType (.cls c))) else wp (findHandler.go f a t) Q E e d acts (s.setVm (s.vm.noted f.method.cls x.catchType (.cls c))) := by
  simp only [covers] at hx
  obtain ⟨g1, g2⟩ := (resolveClass_links e.toSetting hl).op (op := VmOp.resolveClass f.method.cls x.catchType) rfl
  have hal : s.vm.Alike (s.vm.noted f.method.cls x.catchType (.cls c)) := (Vm.Alike.refl s.vm).noted _ _ _
  obtain ⟨k1, hk1⟩ := hk
  obtain ⟨k2, hk2⟩ := hc
  obtain ⟨k3, hk3, -⟩ := hal.2.2 _ _ hk1
  obtain ⟨k4, hk4, -⟩ := hal.2.2 _ _ hk2
  have has : (s.vm.noted f.method.cls x.catchType (.cls c)).assignable cell.cls c = s.vm.assignable cell.cls c := by rw [hal.assignable]
  cases hv : s.vm.assignable cell.cls c with
  | true =>
    rw [hv] at has
    simp [findHandler.go, hx, h0, g1, g2, hcell, hobj, hk3, hk4, has, VmOp.dirties, VmOp.acts]
  | false =>
    rw [hv] at has
    simp [findHandler.go, hx, h0, g1, g2, hcell, hobj, hk3, hk4, has, VmOp.dirties, VmOp.acts]
theorem zh_all {e : Env} {s : State} {f : JFrame} {a : Addr} {cell : Cell} (hobj : ∀ k, cell.vm ≠ .statics k) (hk : ∃ k, s.vm.classes[cell.cls]? = some k) (x : ExceptionTableEntry) (suf : List ExceptionTableEntry) (hx : covers x f.pc = true) (h0 : x.catchType ≠ 0) {c : ClassId} (hl : s.vm.ClassLinks e.platform f.method.cls x.catchType c) (hfit : s.vm.assignable cell.cls c = true) :
    ∀ (pre : List ExceptionTableEntry) (S : State), s.WarmedH S.vm → S.heap[a]? = some cell → (∀ y ∈ pre, zh_no e.platform s f.method.cls f.pc cell.cls y) →
      ∃ vm', s.WarmedH vm' ∧ ∀ (Q : Handler → Pre) (E : CtlPost) (d : Bool) (acts : List Action), wp (findHandler.go f a (pre ++ x :: suf)) Q E e d acts S ↔ Q (.found x.handlerPc) d acts (S.setVm vm') := by
  obtain ⟨k, hk⟩ := hk
  intro pre
  induction pre with
  | nil =>
    intro S hW hcell _
    obtain ⟨k', hk', -⟩ := hW.alike.2.2 _ _ hk
    obtain ⟨dk, _, _, kt, hd, _, _, _, _, hkt, _, hopen⟩ := hl.here
    obtain ⟨kt', hkt', -⟩ := hW.alike.2.2 _ _ hkt
    refine ⟨_, hW.noted hd hopen (State.rightAt_cls hl), fun Q E d acts => ?_⟩
    rw [List.nil_append, zh_one hx h0 (hW.classLinks hl) hcell hobj ⟨k', hk'⟩ ⟨kt', hkt'⟩, hW.alike.assignable, if_pos hfit]
  | cons y ys ih =>
    intro S hW hcell hp
    have hrest : ∀ w ∈ ys, zh_no e.platform s f.method.cls f.pc cell.cls w := fun w hw => hp w (List.mem_cons_of_mem _ hw)
    rcases hp y List.mem_cons_self with hn | ⟨hcv, hy0, c1, hl1, hno⟩
    · obtain ⟨vm', hW', hq⟩ := ih S hW hcell hrest
      refine ⟨vm', hW', fun Q E d acts => ?_⟩
      rw [List.cons_append, W.findHandler_go_skip hn]
      exact hq Q E d acts
    · obtain ⟨k', hk', -⟩ := hW.alike.2.2 _ _ hk
      obtain ⟨dk, _, _, kt, hd, _, _, _, _, hkt, _, hopen⟩ := hl1.here
      obtain ⟨kt', hkt', -⟩ := hW.alike.2.2 _ _ hkt
      obtain ⟨vm', hW', hq⟩ := ih (S.setVm (S.vm.noted f.method.cls y.catchType (.cls c1))) (hW.noted hd hopen (State.rightAt_cls hl1)) hcell hrest
      refine ⟨vm', hW', fun Q E d acts => ?_⟩
      rw [List.cons_append, zh_one hcv hy0 (hW.classLinks hl1) hcell hobj ⟨k', hk'⟩ ⟨kt', hkt'⟩, hW.alike.assignable, if_neg (by rw [hno]; decide)]
      exact hq Q E d acts
theorem zh_step {e : Env} {s : State} {a : Addr} {f : JFrame} {r : List Frame} {pc : Nat} {vm' : Vm} (hfind : ∀ (Q : Handler → Pre) (E : CtlPost) (d : Bool) (acts : List Action), wp (findHandler f a) Q E e d acts s ↔ Q (.found pc) d acts (s.setVm vm')) :
    (stepThrowing e s a (.java f :: r)).Is ((s.setVm vm').setFrames (.java { f with pc := pc, stack := [.ref a] } :: r)) [] := by
  simp only [stepThrowing, searchFrame, vmDo]
  generalize hr : Sem.go _ e false [] s = res
  obtain ⟨as, rfl, ha⟩ := Sem.eq_ok_of hr (a := Handler.found pc) (s' := s.setVm vm') (acts' := []) (by simp [hfind _ _ _ _])
  exact ⟨rfl, ha⟩
variable {p : Program} {l : Launch} {e : Env} {R : Room} {s : State} {m : MethodId} {args : Array Value} {below : List Frame} {meth : Method} {c : Code} {D : za_D} {nL : Nat} {Q : State → Prop} {h0 : za_H} {n cells slots pc : Nat} {lv : List (Nat × za_V)} {st : List za_V} {vw : List (Nat × za_C)} {own : String} {cc : ByteArray} {cd : List (Nat × Instr × Nat)} {fl : List (Nat × Nat × Nat)} {ret : Option FieldType}
set_option maxHeartbeats 2000000 in
/-- the exception is caught in the walked method -/
theorem zg_catch (X : za_X p s m args meth c D own cc cd fl nL ret) (hH : zt_H D.2.2 s) {E nm : String} {i : Nat} {hs pr su : List (Nat × Nat × Nat × Nat)} {q : Nat × Nat × Nat × Nat} (hex : c.exceptionTable.toList.map (fun h => (h.startPc, h.endPc, h.handlerPc, h.catchType)) = hs) (hsp : hs = pr ++ q :: su)
    (hpr : ∀ y ∈ pr, covers ⟨y.1, y.2.1, y.2.2.1, y.2.2.2⟩ pc = false ∨ (covers ⟨y.1, y.2.1, y.2.2.1, y.2.2.2⟩ pc = true ∧ y.2.2.2 ≠ 0 ∧ ∃ nn : String, Cond.classLink own y.2.2.2 nn ∈ za_tt ∧ (E, nn) ∈ zt_nc)) (hq1 : covers ⟨q.1, q.2.1, q.2.2.1, q.2.2.2⟩ pc = true) (hq0 : q.2.2.2 ≠ 0) (hlk : Cond.classLink own q.2.2.2 nm ∈ za_tt) (hca : Cond.castable E nm ∈ za_tt)
    (kk : za_W p l e R s m args below meth c D nL Q h0 n cells slots q.2.2.1 lv [vR i] []) : zg_Z p l e R s m args below meth c D nL Q h0 n cells slots pc lv st E i := by
  intro H locs ls hR hS hl ⟨ce, hce, hcl⟩ T hT X9
  obtain ⟨hx, hb, hml, hown, hts, hKn, hcd, hF, hr, hlocks, hz⟩ := X
  subst hsp
  have hpl : e.platform.magicAccessors = ({} : Platform).magicAccessors := by rw [X9.admits.platform]
  have hplain : ce.vm = .none := hR.2.2 _ ce (Nat.le_add_right _ _) hce
  have htab : c.exceptionTable.toList = pr.map (fun y => (⟨y.1, y.2.1, y.2.2.1, y.2.2.2⟩ : ExceptionTableEntry)) ++ (⟨q.1, q.2.1, q.2.2.1, q.2.2.2⟩ : ExceptionTableEntry) :: su.map (fun y => (⟨y.1, y.2.1, y.2.2.1, y.2.2.2⟩ : ExceptionTableEntry)) := by
    have h9 := congrArg (List.map (fun y : Nat × Nat × Nat × Nat => (⟨y.1, y.2.1, y.2.2.1, y.2.2.2⟩ : ExceptionTableEntry))) hex
    rw [List.map_map, List.map_append, List.map_cons] at h9
    rw [← h9]
    exact (List.map_id' _).symm
  obtain ⟨c3, c4, hc3, hc4, hasg⟩ := Cond.castable_spec (hts _ hca)
  cases Option.some.inj (hc3.symm.trans hcl)
  obtain ⟨c5, hc5, hl5⟩ := Cond.classLink_spec hown (hts _ hlk) e.platform hpl
  cases Option.some.inj (hc4.symm.trans hc5)
  have hkE : ∃ k, s.vm.classes[ce.cls]? = some k := by
    obtain ⟨k9, h9, -⟩ := Vm.findClass_spec hcl
    exact ⟨k9, h9⟩
  have hTt : ((T.setTop (F0 m pc ls (st.map (za_cv D.2.2)))).pushFrame (.throwing (D.2.2 + i))).heap[D.2.2 + i]? = some ce := by rw [Stand.throwing_heap, hT]; exact hce
  have hTv : ((T.setTop (F0 m pc ls (st.map (za_cv D.2.2)))).pushFrame (.throwing (D.2.2 + i))).vm = T.vm := Stand.throwing_vm _ _ _
  obtain ⟨vm', hW', hfd⟩ := zh_all (e := e) (s := s) (f := F0 m pc ls (st.map (za_cv D.2.2))) (a := D.2.2 + i) (cell := ce) (fun k h => by rw [hplain] at h; cases h) hkE ⟨q.1, q.2.1, q.2.2.1, q.2.2.2⟩ (su.map (fun y => (⟨y.1, y.2.1, y.2.2.1, y.2.2.2⟩ : ExceptionTableEntry))) hq1 hq0 hl5 hasg
    (pr.map (fun y => (⟨y.1, y.2.1, y.2.2.1, y.2.2.2⟩ : ExceptionTableEntry))) ((T.setTop (F0 m pc ls (st.map (za_cv D.2.2)))).pushFrame (.throwing (D.2.2 + i))) (by rw [hTv]; exact X9.warmed) hTt (fun y hy => by
      obtain ⟨w, hw, rfl⟩ := List.mem_map.mp hy
      rcases hpr w hw with h | ⟨h, h2, nn, h3, h4⟩
      · exact Or.inl h
      · obtain ⟨c6, hc6, hl6⟩ := Cond.classLink_spec hown (hts _ h3) e.platform hpl
        obtain ⟨a8, b8, g1, g2, g3⟩ := hH.2.2 _ h4
        cases Option.some.inj (g1.symm.trans hcl)
        cases Option.some.inj (g2.symm.trans hc6)
        exact Or.inr ⟨h, h2, _, hl6, g3⟩)
  have hm' : ((T.setTop (F0 m pc ls (st.map (za_cv D.2.2)))).pushFrame (.throwing (D.2.2 + i))).vm.method? m = some meth := by rw [hTv]; exact X9.method'
  have hfind : ∀ (Q : Handler → Pre) (E : CtlPost) (d : Bool) (acts : List Action), wp (findHandler (F0 m pc ls (st.map (za_cv D.2.2))) (D.2.2 + i)) Q E e d acts ((T.setTop (F0 m pc ls (st.map (za_cv D.2.2)))).pushFrame (.throwing (D.2.2 + i))) ↔ Q (.found q.2.2.1) d acts (((T.setTop (F0 m pc ls (st.map (za_cv D.2.2)))).pushFrame (.throwing (D.2.2 + i))).setVm vm') := fun Q E d acts => by
    rw [W.findHandler_eq hm' X9.code, htab]
    exact hfd Q E d acts
  have X2 := X9.noted hW'
  obtain ⟨t, a1, b1⟩ := kk H locs ls hR hS hl (T.setVm vm') hT X2
  refine ⟨t, ?_, b1⟩
  have hat : At T (F0 m pc ls (st.map (za_cv D.2.2))).method c below := X9.here
  obtain ⟨hgo, hw⟩ := hat.throwing (D.2.2 + i)
  refine Steps.head hgo hw ?_
  rw [stepThread_throwing (frames_entered hat.top _), (zh_step (s := (T.setTop (F0 m pc ls (st.map (za_cv D.2.2)))).pushFrame (.throwing (D.2.2 + i))) hfind).1]
  obtain ⟨g1, hg1⟩ := Option.isSome_iff_exists.mp hat.top
  obtain ⟨r1, hr1⟩ := State.topJava?_eq_some.mp hg1
  have hr2 : (T.setVm vm').frames = .java g1 :: r1 := hr1
  have a2 : Steps p.tables e below ((T.setVm vm').setTop { F0 m pc ls (st.map (za_cv D.2.2)) with pc := q.2.2.1, stack := [.ref (D.2.2 + i)] }) t := a1
  rw [State.setTop_of_frames _ hr2] at a2
  rw [hr1, List.tail_cons, State.pushFrame, zh_fvf, State.setTop_of_frames _ hr1, zh_fvf]
  exact a2
end ZGCATCH
end
section
section ZAEXT
variable {p : Program} {l : Launch} {e : Env} {R : Room} {s : State} {m : MethodId} {args : Array Value} {below : List Frame} {meth : Method} {c : Code} {D : za_D} {nL : Nat} {Q : State → Prop} {h0 : za_H} {n cells slots pc : Nat} {lv : List (Nat × za_V)} {st : List za_V} {vw : List (Nat × za_C)} {own : String} {cc : ByteArray} {cd : List (Nat × Instr × Nat)} {fl : List (Nat × Nat × Nat)} {ret : Option FieldType}
/-- what an array holds behind its end is nobody's business -/
theorem za_ext {i t0 N : Nat} {f : Nat → Int32} (g : Nat → Int32) (hi : za_ov h0 vw i = some (.inl (t0, N, .inl f))) (hfg : ∀ j, j < N → f j = g j) (kk : za_W p l e R s m args below meth c D nL Q h0 n cells slots pc lv st (za_vs vw i (.inl (t0, N, .inl g)))) : za_W p l e R s m args below meth c D nL Q h0 n cells slots pc lv st vw := by
  intro H locs ls hR hS hl
  refine kk H locs ls ?_ hS hl
  rw [za_ov_vs]
  refine hR.set rfl ?_ (fun _ _ => rfl)
  have hat : H[D.2.2 + i]? = some (vp_cell (D.2.1 t0) (N, .inl f)) := hR.2.1 i _ hi
  show H[D.2.2 + i]? = some (vp_cell (D.2.1 t0) (N, .inl g))
  rw [hat, vp_cell_i, vp_cell_i]
  congr 1
  unfold arrV
  congr 2
  funext j
  exact congrArg Value.int (hfg j.val j.isLt)
/-- a field's writing, the new list said -/
theorem za_putV {i idx ci k : Nat} {fs : List za_V} {v : za_V} (X : za_X p s m args meth c D own cc cd fl nL ret) (v1 : List (Nat × za_C)) (hf : za_fe cd pc = some (.putfield idx, 3)) (hi : za_ov h0 vw i = some (.inr (ci, fs))) (hk : za_fk fl idx = some (ci, k)) (hv : za_okf (za_fty ci k) v = true) (hfin : za_fin ci k = false) (hl0 : k < fs.length) (he : za_ov h0 v1 = za_set (za_ov h0 vw) i (.inr (ci, fs.set k v))) (kk : za_W p l e R s m args below meth c D nL Q h0 n cells slots (pc + 3) lv st v1) : za_W p l e R s m args below meth c D nL Q h0 n cells slots pc lv (v :: .inr (.inr (some i)) :: st) vw :=
  za_putH X hf hi hk hv hfin hl0 (za_look (by rw [he, za_ov_vs]) kk)
end ZAEXT
end
