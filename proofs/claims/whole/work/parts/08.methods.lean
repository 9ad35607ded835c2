def fl_P : List (Nat × Nat × Nat) := [(9, 0, 0), (15, 0, 1), (18, 0, 2), (21, 0, 3), (24, 0, 4)]
theorem flok_P : ∀ q ∈ fl_P, za_FL "WayFinder$Program" q := by
  intro q hq
  simp only [fl_P, List.mem_cons, List.not_mem_nil, or_false] at hq
  rcases hq with rfl | rfl | rfl | rfl | rfl
  · exact ⟨"WayFinder$Program", zf_P, 5, rfl, by decide, rfl, Or.inl (za_in 49 (by decide +kernel) rfl)⟩
  · exact ⟨"WayFinder$Program", zf_P, 5, rfl, by decide, rfl, Or.inl (za_in 51 (by decide +kernel) rfl)⟩
  · exact ⟨"WayFinder$Program", zf_P, 5, rfl, by decide, rfl, Or.inl (za_in 53 (by decide +kernel) rfl)⟩
  · exact ⟨"WayFinder$Program", zf_P, 5, rfl, by decide, rfl, Or.inl (za_in 55 (by decide +kernel) rfl)⟩
  · exact ⟨"WayFinder$Program", zf_P, 5, rfl, by decide, rfl, Or.inl (za_in 57 (by decide +kernel) rfl)⟩
def fl_T : List (Nat × Nat × Nat) := [(9, 1, 0), (15, 1, 1), (19, 1, 2), (22, 1, 3), (25, 1, 4), (28, 1, 5), (32, 1, 6), (35, 1, 7), (39, 1, 8), (42, 1, 9), (62, 0, 1), (65, 0, 2), (68, 0, 3), (71, 0, 0)]
theorem flok_T : ∀ q ∈ fl_T, za_FL "WayFinder$Trace" q := by
  intro q hq
  simp only [fl_T, List.mem_cons, List.not_mem_nil, or_false] at hq
  rcases hq with rfl | rfl | rfl | rfl | rfl | rfl | rfl | rfl | rfl | rfl | rfl | rfl | rfl | rfl
  · exact ⟨"WayFinder$Trace", zf_T, 10, rfl, by decide, rfl, Or.inl (za_in 77 (by decide +kernel) rfl)⟩
  · exact ⟨"WayFinder$Trace", zf_T, 10, rfl, by decide, rfl, Or.inl (za_in 78 (by decide +kernel) rfl)⟩
  · exact ⟨"WayFinder$Trace", zf_T, 10, rfl, by decide, rfl, Or.inl (za_in 79 (by decide +kernel) rfl)⟩
  · exact ⟨"WayFinder$Trace", zf_T, 10, rfl, by decide, rfl, Or.inl (za_in 80 (by decide +kernel) rfl)⟩
  · exact ⟨"WayFinder$Trace", zf_T, 10, rfl, by decide, rfl, Or.inl (za_in 82 (by decide +kernel) rfl)⟩
  · exact ⟨"WayFinder$Trace", zf_T, 10, rfl, by decide, rfl, Or.inl (za_in 84 (by decide +kernel) rfl)⟩
  · exact ⟨"WayFinder$Trace", zf_T, 10, rfl, by decide, rfl, Or.inl (za_in 87 (by decide +kernel) rfl)⟩
  · exact ⟨"WayFinder$Trace", zf_T, 10, rfl, by decide, rfl, Or.inl (za_in 90 (by decide +kernel) rfl)⟩
  · exact ⟨"WayFinder$Trace", zf_T, 10, rfl, by decide, rfl, Or.inl (za_in 91 (by decide +kernel) rfl)⟩
  · exact ⟨"WayFinder$Trace", zf_T, 10, rfl, by decide, rfl, Or.inl (za_in 94 (by decide +kernel) rfl)⟩
  · exact ⟨"WayFinder$Program", zf_P, 5, rfl, by decide, rfl, Or.inr ⟨"WayFinder", za_in 52 (by decide +kernel) rfl⟩⟩
  · exact ⟨"WayFinder$Program", zf_P, 5, rfl, by decide, rfl, Or.inr ⟨"WayFinder", za_in 54 (by decide +kernel) rfl⟩⟩
  · exact ⟨"WayFinder$Program", zf_P, 5, rfl, by decide, rfl, Or.inr ⟨"WayFinder", za_in 56 (by decide +kernel) rfl⟩⟩
  · exact ⟨"WayFinder$Program", zf_P, 5, rfl, by decide, rfl, Or.inr ⟨"WayFinder", za_in 50 (by decide +kernel) rfl⟩⟩
def fl_W : List (Nat × Nat × Nat) := [(9, 2, 0), (15, 2, 1), (18, 2, 2), (21, 2, 3), (24, 2, 4), (28, 2, 5), (31, 1, 8), (34, 1, 9), (35, 1, 5), (36, 1, 6)]
theorem flok_W : ∀ q ∈ fl_W, za_FL "WayFinder$Way" q := by
  intro q hq
  simp only [fl_W, List.mem_cons, List.not_mem_nil, or_false] at hq
  rcases hq with rfl | rfl | rfl | rfl | rfl | rfl | rfl | rfl | rfl | rfl
  · exact ⟨"WayFinder$Way", zf_W, 6, rfl, by decide, rfl, Or.inl (za_in 131 (by decide +kernel) rfl)⟩
  · exact ⟨"WayFinder$Way", zf_W, 6, rfl, by decide, rfl, Or.inl (za_in 134 (by decide +kernel) rfl)⟩
  · exact ⟨"WayFinder$Way", zf_W, 6, rfl, by decide, rfl, Or.inl (za_in 137 (by decide +kernel) rfl)⟩
  · exact ⟨"WayFinder$Way", zf_W, 6, rfl, by decide, rfl, Or.inl (za_in 140 (by decide +kernel) rfl)⟩
  · exact ⟨"WayFinder$Way", zf_W, 6, rfl, by decide, rfl, Or.inl (za_in 142 (by decide +kernel) rfl)⟩
  · exact ⟨"WayFinder$Way", zf_W, 6, rfl, by decide, rfl, Or.inl (za_in 145 (by decide +kernel) rfl)⟩
  · exact ⟨"WayFinder$Trace", zf_T, 10, rfl, by decide, rfl, Or.inr ⟨"WayFinder", za_in 92 (by decide +kernel) rfl⟩⟩
  · exact ⟨"WayFinder$Trace", zf_T, 10, rfl, by decide, rfl, Or.inr ⟨"WayFinder", za_in 95 (by decide +kernel) rfl⟩⟩
  · exact ⟨"WayFinder$Trace", zf_T, 10, rfl, by decide, rfl, Or.inr ⟨"WayFinder", za_in 85 (by decide +kernel) rfl⟩⟩
  · exact ⟨"WayFinder$Trace", zf_T, 10, rfl, by decide, rfl, Or.inr ⟨"WayFinder", za_in 88 (by decide +kernel) rfl⟩⟩
def fl_R : List (Nat × Nat × Nat) := [(11, 3, 0), (17, 3, 1), (21, 3, 2), (25, 1, 5), (39, 2, 4), (48, 1, 4), (53, 2, 2), (56, 2, 0), (59, 2, 1)]
theorem flok_R : ∀ q ∈ fl_R, za_FL "WayFinder$Results" q := by
  intro q hq
  simp only [fl_R, List.mem_cons, List.not_mem_nil, or_false] at hq
  rcases hq with rfl | rfl | rfl | rfl | rfl | rfl | rfl | rfl | rfl
  · exact ⟨"WayFinder$Results", zf_R, 3, rfl, by decide, rfl, Or.inl (za_in 160 (by decide +kernel) rfl)⟩
  · exact ⟨"WayFinder$Results", zf_R, 3, rfl, by decide, rfl, Or.inl (za_in 162 (by decide +kernel) rfl)⟩
  · exact ⟨"WayFinder$Results", zf_R, 3, rfl, by decide, rfl, Or.inl (za_in 164 (by decide +kernel) rfl)⟩
  · exact ⟨"WayFinder$Trace", zf_T, 10, rfl, by decide, rfl, Or.inr ⟨"WayFinder", za_in 86 (by decide +kernel) rfl⟩⟩
  · exact ⟨"WayFinder$Way", zf_W, 6, rfl, by decide, rfl, Or.inr ⟨"WayFinder", za_in 143 (by decide +kernel) rfl⟩⟩
  · exact ⟨"WayFinder$Trace", zf_T, 10, rfl, by decide, rfl, Or.inr ⟨"WayFinder", za_in 83 (by decide +kernel) rfl⟩⟩
  · exact ⟨"WayFinder$Way", zf_W, 6, rfl, by decide, rfl, Or.inr ⟨"WayFinder", za_in 138 (by decide +kernel) rfl⟩⟩
  · exact ⟨"WayFinder$Way", zf_W, 6, rfl, by decide, rfl, Or.inr ⟨"WayFinder", za_in 132 (by decide +kernel) rfl⟩⟩
  · exact ⟨"WayFinder$Way", zf_W, 6, rfl, by decide, rfl, Or.inr ⟨"WayFinder", za_in 135 (by decide +kernel) rfl⟩⟩
def fl_F : List (Nat × Nat × Nat) := [(10, 4, 0), (19, 4, 1), (23, 4, 2), (29, 4, 3), (33, 4, 4), (36, 4, 5), (40, 4, 6), (50, 0, 4), (71, 1, 8), (74, 1, 9), (77, 1, 3), (80, 1, 6), (87, 3, 1), (92, 3, 0), (96, 2, 0), (101, 2, 1), (104, 2, 2), (105, 2, 3), (106, 2, 5), (107, 2, 4), (122, 3, 2)]
theorem flok_F : ∀ q ∈ fl_F, za_FL "WayFinder" q := by
  intro q hq
  simp only [fl_F, List.mem_cons, List.not_mem_nil, or_false] at hq
  rcases hq with rfl | rfl | rfl | rfl | rfl | rfl | rfl | rfl | rfl | rfl | rfl | rfl | rfl | rfl | rfl | rfl | rfl | rfl | rfl | rfl | rfl
  · exact ⟨"WayFinder", zf_F, 7, rfl, by decide, rfl, Or.inl (za_in 173 (by decide +kernel) rfl)⟩
  · exact ⟨"WayFinder", zf_F, 7, rfl, by decide, rfl, Or.inl (za_in 174 (by decide +kernel) rfl)⟩
  · exact ⟨"WayFinder", zf_F, 7, rfl, by decide, rfl, Or.inl (za_in 175 (by decide +kernel) rfl)⟩
  · exact ⟨"WayFinder", zf_F, 7, rfl, by decide, rfl, Or.inl (za_in 176 (by decide +kernel) rfl)⟩
  · exact ⟨"WayFinder", zf_F, 7, rfl, by decide, rfl, Or.inl (za_in 177 (by decide +kernel) rfl)⟩
  · exact ⟨"WayFinder", zf_F, 7, rfl, by decide, rfl, Or.inl (za_in 178 (by decide +kernel) rfl)⟩
  · exact ⟨"WayFinder", zf_F, 7, rfl, by decide, rfl, Or.inl (za_in 179 (by decide +kernel) rfl)⟩
  · exact ⟨"WayFinder$Program", zf_P, 5, rfl, by decide, rfl, Or.inr ⟨"WayFinder", za_in 58 (by decide +kernel) rfl⟩⟩
  · exact ⟨"WayFinder$Trace", zf_T, 10, rfl, by decide, rfl, Or.inr ⟨"WayFinder", za_in 93 (by decide +kernel) rfl⟩⟩
  · exact ⟨"WayFinder$Trace", zf_T, 10, rfl, by decide, rfl, Or.inr ⟨"WayFinder", za_in 96 (by decide +kernel) rfl⟩⟩
  · exact ⟨"WayFinder$Trace", zf_T, 10, rfl, by decide, rfl, Or.inr ⟨"WayFinder", za_in 81 (by decide +kernel) rfl⟩⟩
  · exact ⟨"WayFinder$Trace", zf_T, 10, rfl, by decide, rfl, Or.inr ⟨"WayFinder", za_in 89 (by decide +kernel) rfl⟩⟩
  · exact ⟨"WayFinder$Results", zf_R, 3, rfl, by decide, rfl, Or.inr ⟨"WayFinder", za_in 163 (by decide +kernel) rfl⟩⟩
  · exact ⟨"WayFinder$Results", zf_R, 3, rfl, by decide, rfl, Or.inr ⟨"WayFinder", za_in 161 (by decide +kernel) rfl⟩⟩
  · exact ⟨"WayFinder$Way", zf_W, 6, rfl, by decide, rfl, Or.inr ⟨"WayFinder", za_in 133 (by decide +kernel) rfl⟩⟩
  · exact ⟨"WayFinder$Way", zf_W, 6, rfl, by decide, rfl, Or.inr ⟨"WayFinder", za_in 136 (by decide +kernel) rfl⟩⟩
  · exact ⟨"WayFinder$Way", zf_W, 6, rfl, by decide, rfl, Or.inr ⟨"WayFinder", za_in 139 (by decide +kernel) rfl⟩⟩
  · exact ⟨"WayFinder$Way", zf_W, 6, rfl, by decide, rfl, Or.inr ⟨"WayFinder", za_in 141 (by decide +kernel) rfl⟩⟩
  · exact ⟨"WayFinder$Way", zf_W, 6, rfl, by decide, rfl, Or.inr ⟨"WayFinder", za_in 146 (by decide +kernel) rfl⟩⟩
  · exact ⟨"WayFinder$Way", zf_W, 6, rfl, by decide, rfl, Or.inr ⟨"WayFinder", za_in 144 (by decide +kernel) rfl⟩⟩
  · exact ⟨"WayFinder$Results", zf_R, 3, rfl, by decide, rfl, Or.inr ⟨"WayFinder", za_in 165 (by decide +kernel) rfl⟩⟩
def fl_M : List (Nat × Nat × Nat) := [(7, 5, 1), (13, 5, 2), (16, 5, 3), (19, 5, 4), (22, 5, 6), (26, 5, 7), (29, 5, 18), (33, 5, 19), (36, 5, 20), (39, 5, 21), (42, 5, 22), (45, 5, 23), (48, 5, 25), (51, 5, 26), (54, 5, 27), (57, 5, 28), (60, 5, 29), (63, 5, 0), (78, 5, 5), (81, 5, 12), (85, 5, 13), (88, 5, 8), (91, 5, 9), (106, 5, 10), (109, 5, 11), (122, 5, 14), (125, 5, 15), (128, 5, 16), (131, 5, 17), (134, 5, 24), (141, 5, 30), (144, 5, 31)]
theorem flok_M : ∀ q ∈ fl_M, za_FL "WayFinderModel" q := by
  intro q hq
  simp only [fl_M, List.mem_cons, List.not_mem_nil, or_false] at hq
  rcases hq with rfl | rfl | rfl | rfl | rfl | rfl | rfl | rfl | rfl | rfl | rfl | rfl | rfl | rfl | rfl | rfl | rfl | rfl | rfl | rfl | rfl | rfl | rfl | rfl | rfl | rfl | rfl | rfl | rfl | rfl | rfl | rfl
  · exact ⟨"WayFinderModel", zf_M, 32, rfl, by decide, rfl, Or.inl (za_in 488 (by decide +kernel) rfl)⟩
  · exact ⟨"WayFinderModel", zf_M, 32, rfl, by decide, rfl, Or.inl (za_in 489 (by decide +kernel) rfl)⟩
  · exact ⟨"WayFinderModel", zf_M, 32, rfl, by decide, rfl, Or.inl (za_in 490 (by decide +kernel) rfl)⟩
  · exact ⟨"WayFinderModel", zf_M, 32, rfl, by decide, rfl, Or.inl (za_in 491 (by decide +kernel) rfl)⟩
  · exact ⟨"WayFinderModel", zf_M, 32, rfl, by decide, rfl, Or.inl (za_in 493 (by decide +kernel) rfl)⟩
  · exact ⟨"WayFinderModel", zf_M, 32, rfl, by decide, rfl, Or.inl (za_in 494 (by decide +kernel) rfl)⟩
  · exact ⟨"WayFinderModel", zf_M, 32, rfl, by decide, rfl, Or.inl (za_in 505 (by decide +kernel) rfl)⟩
  · exact ⟨"WayFinderModel", zf_M, 32, rfl, by decide, rfl, Or.inl (za_in 506 (by decide +kernel) rfl)⟩
  · exact ⟨"WayFinderModel", zf_M, 32, rfl, by decide, rfl, Or.inl (za_in 507 (by decide +kernel) rfl)⟩
  · exact ⟨"WayFinderModel", zf_M, 32, rfl, by decide, rfl, Or.inl (za_in 508 (by decide +kernel) rfl)⟩
  · exact ⟨"WayFinderModel", zf_M, 32, rfl, by decide, rfl, Or.inl (za_in 509 (by decide +kernel) rfl)⟩
  · exact ⟨"WayFinderModel", zf_M, 32, rfl, by decide, rfl, Or.inl (za_in 510 (by decide +kernel) rfl)⟩
  · exact ⟨"WayFinderModel", zf_M, 32, rfl, by decide, rfl, Or.inl (za_in 512 (by decide +kernel) rfl)⟩
  · exact ⟨"WayFinderModel", zf_M, 32, rfl, by decide, rfl, Or.inl (za_in 513 (by decide +kernel) rfl)⟩
  · exact ⟨"WayFinderModel", zf_M, 32, rfl, by decide, rfl, Or.inl (za_in 514 (by decide +kernel) rfl)⟩
  · exact ⟨"WayFinderModel", zf_M, 32, rfl, by decide, rfl, Or.inl (za_in 515 (by decide +kernel) rfl)⟩
  · exact ⟨"WayFinderModel", zf_M, 32, rfl, by decide, rfl, Or.inl (za_in 516 (by decide +kernel) rfl)⟩
  · exact ⟨"WayFinderModel", zf_M, 32, rfl, by decide, rfl, Or.inl (za_in 487 (by decide +kernel) rfl)⟩
  · exact ⟨"WayFinderModel", zf_M, 32, rfl, by decide, rfl, Or.inl (za_in 492 (by decide +kernel) rfl)⟩
  · exact ⟨"WayFinderModel", zf_M, 32, rfl, by decide, rfl, Or.inl (za_in 499 (by decide +kernel) rfl)⟩
  · exact ⟨"WayFinderModel", zf_M, 32, rfl, by decide, rfl, Or.inl (za_in 500 (by decide +kernel) rfl)⟩
  · exact ⟨"WayFinderModel", zf_M, 32, rfl, by decide, rfl, Or.inl (za_in 495 (by decide +kernel) rfl)⟩
  · exact ⟨"WayFinderModel", zf_M, 32, rfl, by decide, rfl, Or.inl (za_in 496 (by decide +kernel) rfl)⟩
  · exact ⟨"WayFinderModel", zf_M, 32, rfl, by decide, rfl, Or.inl (za_in 497 (by decide +kernel) rfl)⟩
  · exact ⟨"WayFinderModel", zf_M, 32, rfl, by decide, rfl, Or.inl (za_in 498 (by decide +kernel) rfl)⟩
  · exact ⟨"WayFinderModel", zf_M, 32, rfl, by decide, rfl, Or.inl (za_in 501 (by decide +kernel) rfl)⟩
  · exact ⟨"WayFinderModel", zf_M, 32, rfl, by decide, rfl, Or.inl (za_in 502 (by decide +kernel) rfl)⟩
  · exact ⟨"WayFinderModel", zf_M, 32, rfl, by decide, rfl, Or.inl (za_in 503 (by decide +kernel) rfl)⟩
  · exact ⟨"WayFinderModel", zf_M, 32, rfl, by decide, rfl, Or.inl (za_in 504 (by decide +kernel) rfl)⟩
  · exact ⟨"WayFinderModel", zf_M, 32, rfl, by decide, rfl, Or.inl (za_in 511 (by decide +kernel) rfl)⟩
  · exact ⟨"WayFinderModel", zf_M, 32, rfl, by decide, rfl, Or.inl (za_in 517 (by decide +kernel) rfl)⟩
  · exact ⟨"WayFinderModel", zf_M, 32, rfl, by decide, rfl, Or.inl (za_in 518 (by decide +kernel) rfl)⟩
def fl_L : List (Nat × Nat × Nat) := []
theorem flok_L : ∀ q ∈ fl_L, za_FL "WayFinderLaw" q := by
  intro q hq
  cases hq
def Y_F_init : za_Y := (⟨"WayFinder", "<init>", "()V"⟩, prog_1_method_1_code, 1, none)
def cd_F_init : List (Nat × Instr × Nat) := [(0, .aload_n 0, 1), (1, .invokespecial 1, 3), (4, .aload_n 0, 1), (5, .new 7, 3), (8, .dup, 1), (9, .invokespecial 9, 3), (12, .putfield 10, 3), (15, .aload_n 0, 1), (16, .new 16, 3), (19, .dup, 1), (20, .invokespecial 18, 3), (23, .putfield 19, 3), (26, .aload_n 0, 1), (27, .new 16, 3), (30, .dup, 1), (31, .invokespecial 18, 3), (34, .putfield 23, 3), (37, .aload_n 0, 1), (38, .new 26, 3), (41, .dup, 1), (42, .invokespecial 28, 3), (45, .putfield 29, 3), (48, .aload_n 0, 1), (49, .new 26, 3), (52, .dup, 1), (53, .invokespecial 28, 3), (56, .putfield 33, 3), (59, .aload_n 0, 1), (60, .iconst 3, 1), (61, .putfield 36, 3), (64, .aload_n 0, 1), (65, .iconst 0, 1), (66, .putfield 40, 3), (69, .return_, 1)]
theorem cdok_F_init : ∀ q ∈ cd_F_init, decode Y_F_init.2.1 q.1 = .ok q.2 := by decide +kernel
set_option maxRecDepth 20000 in
theorem cy_F_init : za_CY Y_F_init 0 := ⟨za_in 39 rfl rfl, za_in 22 (by decide +kernel) rfl, ⟨by decide, by decide⟩, by decide +kernel⟩
theorem kc_F_init : Cond.code Y_F_init.1 Y_F_init.2.1 Y_F_init.2.2.1 Y_F_init.2.2.2 ∈ za_tt := cy_F_init.1
theorem ci_F_init : za_CI Y_F_init := ⟨za_in 38 (by decide +kernel) rfl, rfl, rfl⟩
def Y_P_init : za_Y := (⟨"WayFinder$Program", "<init>", "()V"⟩, prog_2_method_1_code, 1, none)
def cd_P_init : List (Nat × Instr × Nat) := [(0, .aload_n 0, 1), (1, .invokespecial 3, 3), (4, .aload_n 0, 1), (5, .bipush 24, 2), (7, .newarray .int, 2), (9, .putfield 9, 3), (12, .aload_n 0, 1), (13, .bipush 24, 2), (15, .newarray .int, 2), (17, .putfield 15, 3), (20, .aload_n 0, 1), (21, .bipush 24, 2), (23, .newarray .int, 2), (25, .putfield 18, 3), (28, .aload_n 0, 1), (29, .bipush 24, 2), (31, .newarray .int, 2), (33, .putfield 21, 3), (36, .aload_n 0, 1), (37, .iconst 0, 1), (38, .putfield 24, 3), (41, .return_, 1)]
theorem cdok_P_init : ∀ q ∈ cd_P_init, decode Y_P_init.2.1 q.1 = .ok q.2 := by decide +kernel
set_option maxRecDepth 20000 in
theorem cy_P_init : za_CY Y_P_init 0 := ⟨za_in 47 rfl rfl, za_in 23 (by decide +kernel) rfl, ⟨by decide, by decide⟩, by decide +kernel⟩
theorem kc_P_init : Cond.code Y_P_init.1 Y_P_init.2.1 Y_P_init.2.2.1 Y_P_init.2.2.2 ∈ za_tt := cy_P_init.1
theorem ci_P_init : za_CI Y_P_init := ⟨za_in 46 (by decide +kernel) rfl, rfl, rfl⟩
def Y_T_init : za_Y := (⟨"WayFinder$Trace", "<init>", "()V"⟩, prog_4_method_1_code, 1, none)
def cd_T_init : List (Nat × Instr × Nat) := [(0, .aload_n 0, 1), (1, .invokespecial 3, 3), (4, .aload_n 0, 1), (5, .iconst 4, 1), (6, .newarray .int, 2), (8, .putfield 9, 3), (11, .aload_n 0, 1), (12, .iconst 0, 1), (13, .putfield 15, 3), (16, .aload_n 0, 1), (17, .iconst 0, 1), (18, .putfield 19, 3), (21, .aload_n 0, 1), (22, .iconst 0, 1), (23, .putfield 22, 3), (26, .aload_n 0, 1), (27, .iconst 0, 1), (28, .putfield 25, 3), (31, .aload_n 0, 1), (32, .lconst 0, 1), (33, .putfield 28, 3), (36, .aload_n 0, 1), (37, .iconst 0, 1), (38, .putfield 32, 3), (41, .aload_n 0, 1), (42, .iconst 0, 1), (43, .putfield 35, 3), (46, .aload_n 0, 1), (47, .iconst 0, 1), (48, .putfield 39, 3), (51, .aload_n 0, 1), (52, .iconst 0, 1), (53, .putfield 42, 3), (56, .return_, 1)]
theorem cdok_T_init : ∀ q ∈ cd_T_init, decode Y_T_init.2.1 q.1 = .ok q.2 := by decide +kernel
set_option maxRecDepth 20000 in
theorem cy_T_init : za_CY Y_T_init 0 := ⟨za_in 75 rfl rfl, za_in 24 (by decide +kernel) rfl, ⟨by decide, by decide⟩, by decide +kernel⟩
theorem kc_T_init : Cond.code Y_T_init.1 Y_T_init.2.1 Y_T_init.2.2.1 Y_T_init.2.2.2 ∈ za_tt := cy_T_init.1
theorem ci_T_init : za_CI Y_T_init := ⟨za_in 74 (by decide +kernel) rfl, rfl, rfl⟩
def Y_R_init : za_Y := (⟨"WayFinder$Results", "<init>", "()V"⟩, prog_3_method_1_code, 2, none)
def cd_R_init : List (Nat × Instr × Nat) := [(0, .aload_n 0, 1), (1, .invokespecial 3, 3), (4, .aload_n 0, 1), (5, .bipush 64, 2), (7, .anewarray 9, 3), (10, .putfield 11, 3), (13, .aload_n 0, 1), (14, .iconst 0, 1), (15, .putfield 17, 3), (18, .aload_n 0, 1), (19, .iconst 0, 1), (20, .putfield 21, 3), (23, .iconst 0, 1), (24, .istore_n 1, 1), (25, .iload_n 1, 1), (26, .bipush 64, 2), (28, .if_icmp .ge 22, 3), (31, .aload_n 0, 1), (32, .getfield 11, 3), (35, .iload_n 1, 1), (36, .new 9, 3), (39, .dup, 1), (40, .invokespecial 24, 3), (43, .aastore, 1), (44, .iinc 1 1, 3), (47, .goto (-22), 3), (50, .return_, 1)]
theorem cdok_R_init : ∀ q ∈ cd_R_init, decode Y_R_init.2.1 q.1 = .ok q.2 := by decide +kernel
set_option maxRecDepth 20000 in
theorem cy_R_init : za_CY Y_R_init 0 := ⟨za_in 122 rfl rfl, za_in 25 (by decide +kernel) rfl, ⟨by decide, by decide⟩, by decide +kernel⟩
theorem kc_R_init : Cond.code Y_R_init.1 Y_R_init.2.1 Y_R_init.2.2.1 Y_R_init.2.2.2 ∈ za_tt := cy_R_init.1
theorem ci_R_init : za_CI Y_R_init := ⟨za_in 121 (by decide +kernel) rfl, rfl, rfl⟩
def Y_W_init : za_Y := (⟨"WayFinder$Way", "<init>", "()V"⟩, prog_5_method_1_code, 1, none)
def cd_W_init : List (Nat × Instr × Nat) := [(0, .aload_n 0, 1), (1, .invokespecial 3, 3), (4, .aload_n 0, 1), (5, .iconst 0, 1), (6, .putfield 9, 3), (9, .aload_n 0, 1), (10, .iconst 0, 1), (11, .putfield 15, 3), (14, .aload_n 0, 1), (15, .iconst 0, 1), (16, .putfield 18, 3), (19, .aload_n 0, 1), (20, .iconst 0, 1), (21, .putfield 21, 3), (24, .aload_n 0, 1), (25, .lconst 0, 1), (26, .putfield 24, 3), (29, .aload_n 0, 1), (30, .iconst 0, 1), (31, .putfield 28, 3), (34, .return_, 1)]
theorem cdok_W_init : ∀ q ∈ cd_W_init, decode Y_W_init.2.1 q.1 = .ok q.2 := by decide +kernel
set_option maxRecDepth 20000 in
theorem cy_W_init : za_CY Y_W_init 0 := ⟨za_in 129 rfl rfl, za_in 26 (by decide +kernel) rfl, ⟨by decide, by decide⟩, by decide +kernel⟩
theorem kc_W_init : Cond.code Y_W_init.1 Y_W_init.2.1 Y_W_init.2.2.1 Y_W_init.2.2.2 ∈ za_tt := cy_W_init.1
theorem ci_W_init : za_CI Y_W_init := ⟨za_in 128 (by decide +kernel) rfl, rfl, rfl⟩
def Y_F_covered : za_Y := (⟨"WayFinder", "covered", "()I"⟩, prog_1_method_12_code, 1, (some .int))
def cd_F_covered : List (Nat × Instr × Nat) := [(0, .aload_n 0, 1), (1, .getfield 29, 3), (4, .getfield 122, 3), (7, .ireturn, 1)]
theorem cdok_F_covered : ∀ q ∈ cd_F_covered, decode Y_F_covered.2.1 q.1 = .ok q.2 := by decide +kernel
set_option maxRecDepth 20000 in
theorem cy_F_covered : za_CY Y_F_covered 0 := ⟨za_in 198 rfl rfl, za_in 22 (by decide +kernel) rfl, ⟨by decide, by decide⟩, by decide +kernel⟩
theorem kc_F_covered : Cond.code Y_F_covered.1 Y_F_covered.2.1 Y_F_covered.2.2.1 Y_F_covered.2.2.2 ∈ za_tt := cy_F_covered.1
theorem cv_F_covered : za_CV Y_F_covered := ⟨za_in 196 (by decide +kernel) rfl, za_in 197 (by decide +kernel) rfl⟩
def Y_L_instr : za_Y := (⟨"WayFinderLaw", "instr", "(LWayFinder;IIII[J)I"⟩, method_3_code, 7, (some .int))
def cd_L_instr : List (Nat × Instr × Nat) := [(0, .aload 5, 2), (2, .iconst 0, 1), (3, .aload_n 0, 1), (4, .iload_n 1, 1), (5, .iload_n 2, 1), (6, .iload_n 3, 1), (7, .iload 4, 2), (9, .invokevirtual 7, 3), (12, .i2l, 1), (13, .lastore, 1), (14, .goto 11, 3), (17, .astore 6, 2), (19, .iconst 1, 1), (20, .ireturn, 1), (21, .astore 6, 2), (23, .iconst 2, 1), (24, .ireturn, 1), (25, .iconst 0, 1), (26, .ireturn, 1)]
theorem cdok_L_instr : ∀ q ∈ cd_L_instr, decode Y_L_instr.2.1 q.1 = .ok q.2 := by decide +kernel
def hs_L_instr : List (Nat × Nat × Nat × Nat) := [(0, 14, 17, 13), (0, 14, 21, 15)]
set_option maxRecDepth 20000 in
theorem kw_L_instr : Cond.codeWith Y_L_instr.1 Y_L_instr.2.1 Y_L_instr.2.2.1 Y_L_instr.2.2.2 hs_L_instr ∈ za_tt := za_in 201 rfl rfl
theorem cs_L_instr : za_CS Y_L_instr := za_in 200 (by decide +kernel) rfl
def Y_F_instr : za_Y := (⟨"WayFinder", "instr", "(IIII)I"⟩, prog_1_method_2_code, 5, (some .int))
def cd_F_instr : List (Nat × Instr × Nat) := [(0, .iload_n 1, 1), (1, .iload_n 2, 1), (2, .iload_n 3, 1), (3, .iload 4, 2), (5, .invokestatic 43, 3), (8, .ifCond .ne 11, 3), (11, .new 47, 3), (14, .dup, 1), (15, .invokespecial 49, 3), (18, .athrow, 1), (19, .aload_n 0, 1), (20, .getfield 10, 3), (23, .getfield 50, 3), (26, .bipush 24, 2), (28, .if_icmp .ne 11, 3), (31, .new 53, 3), (34, .dup, 1), (35, .invokespecial 55, 3), (38, .athrow, 1), (39, .aload_n 0, 1), (40, .getfield 10, 3), (43, .iload_n 1, 1), (44, .iload_n 2, 1), (45, .iload_n 3, 1), (46, .iload 4, 2), (48, .invokevirtual 56, 3), (51, .aload_n 0, 1), (52, .getfield 10, 3), (55, .getfield 50, 3), (58, .ireturn, 1)]
theorem cdok_F_instr : ∀ q ∈ cd_F_instr, decode Y_F_instr.2.1 q.1 = .ok q.2 := by decide +kernel
set_option maxRecDepth 20000 in
theorem cy_F_instr : za_CY Y_F_instr 4 := ⟨za_in 207 rfl rfl, za_in 22 (by decide +kernel) rfl, ⟨by decide, by decide⟩, by decide +kernel⟩
theorem kc_F_instr : Cond.code Y_F_instr.1 Y_F_instr.2.1 Y_F_instr.2.2.1 Y_F_instr.2.2.2 ∈ za_tt := cy_F_instr.1
theorem cv_F_instr : za_CV Y_F_instr := ⟨za_in 205 (by decide +kernel) rfl, za_in 206 (by decide +kernel) rfl⟩
def Y_P_allows : za_Y := (⟨"WayFinder$Program", "allows", "(IIII)Z"⟩, prog_2_method_2_code, 4, (some .boolean))
def cd_P_allows : List (Nat × Instr × Nat) := [(0, .iload_n 0, 1), (1, .tableswitch 191 0 13 #[71, 94, 94, 94, 94, 94, 94, 121, 150, 150, 179, 94, 186, 186], 71), (72, .iload_n 1, 1), (73, .invokestatic 28, 3), (76, .ifCond .eq 17, 3), (79, .sipush 255, 3), (82, .iload_n 2, 1), (83, .invokestatic 32, 3), (86, .ifCond .eq 7, 3), (89, .iconst 1, 1), (90, .goto 4, 3), (93, .iconst 0, 1), (94, .ireturn, 1), (95, .iload_n 1, 1), (96, .invokestatic 28, 3), (99, .ifCond .eq 21, 3), (102, .iload_n 2, 1), (103, .invokestatic 28, 3), (106, .ifCond .eq 14, 3), (109, .iload_n 3, 1), (110, .invokestatic 28, 3), (113, .ifCond .eq 7, 3), (116, .iconst 1, 1), (117, .goto 4, 3), (120, .iconst 0, 1), (121, .ireturn, 1), (122, .iload_n 1, 1), (123, .invokestatic 28, 3), (126, .ifCond .eq 23, 3), (129, .iload_n 2, 1), (130, .invokestatic 28, 3), (133, .ifCond .eq 16, 3), (136, .bipush 7, 2), (138, .iload_n 3, 1), (139, .invokestatic 32, 3), (142, .ifCond .eq 7, 3), (145, .iconst 1, 1), (146, .goto 4, 3), (149, .iconst 0, 1), (150, .ireturn, 1), (151, .iload_n 1, 1), (152, .invokestatic 28, 3), (155, .ifCond .eq 23, 3), (158, .iload_n 2, 1), (159, .invokestatic 28, 3), (162, .ifCond .eq 16, 3), (165, .bipush 24, 2), (167, .iload_n 3, 1), (168, .invokestatic 32, 3), (171, .ifCond .eq 7, 3), (174, .iconst 1, 1), (175, .goto 4, 3), (178, .iconst 0, 1), (179, .ireturn, 1), (180, .bipush 24, 2), (182, .iload_n 3, 1), (183, .invokestatic 32, 3), (186, .ireturn, 1), (187, .iload_n 1, 1), (188, .invokestatic 28, 3), (191, .ireturn, 1), (192, .iconst 0, 1), (193, .ireturn, 1)]
theorem cdok_P_allows : ∀ q ∈ cd_P_allows, decode Y_P_allows.2.1 q.1 = .ok q.2 := by decide +kernel
set_option maxRecDepth 20000 in
theorem cy_P_allows : za_CY Y_P_allows 4 := ⟨za_in 210 rfl rfl, za_in 23 (by decide +kernel) rfl, ⟨by decide, by decide⟩, by decide +kernel⟩
theorem kc_P_allows : Cond.code Y_P_allows.1 Y_P_allows.2.1 Y_P_allows.2.2.1 Y_P_allows.2.2.2 ∈ za_tt := cy_P_allows.1
theorem cs_P_allows : za_CS Y_P_allows := za_in 209 (by decide +kernel) rfl
def Y_P_isRegister : za_Y := (⟨"WayFinder$Program", "isRegister", "(I)Z"⟩, prog_2_method_3_code, 1, (some .boolean))
def cd_P_isRegister : List (Nat × Instr × Nat) := [(0, .iconst 3, 1), (1, .iload_n 0, 1), (2, .invokestatic 32, 3), (5, .ireturn, 1)]
theorem cdok_P_isRegister : ∀ q ∈ cd_P_isRegister, decode Y_P_isRegister.2.1 q.1 = .ok q.2 := by decide +kernel
set_option maxRecDepth 20000 in
theorem cy_P_isRegister : za_CY Y_P_isRegister 1 := ⟨za_in 213 rfl rfl, za_in 23 (by decide +kernel) rfl, ⟨by decide, by decide⟩, by decide +kernel⟩
theorem kc_P_isRegister : Cond.code Y_P_isRegister.1 Y_P_isRegister.2.1 Y_P_isRegister.2.2.1 Y_P_isRegister.2.2.2 ∈ za_tt := cy_P_isRegister.1
theorem cs_P_isRegister : za_CS Y_P_isRegister := za_in 212 (by decide +kernel) rfl
def Y_F_isUpTo : za_Y := (⟨"WayFinder", "isUpTo", "(II)Z"⟩, prog_1_method_16_code, 2, (some .boolean))
def cd_F_isUpTo : List (Nat × Instr × Nat) := [(0, .iload_n 1, 1), (1, .ifCond .lt 12, 3), (4, .iload_n 1, 1), (5, .iload_n 0, 1), (6, .if_icmp .gt 7, 3), (9, .iconst 1, 1), (10, .goto 4, 3), (13, .iconst 0, 1), (14, .ireturn, 1)]
theorem cdok_F_isUpTo : ∀ q ∈ cd_F_isUpTo, decode Y_F_isUpTo.2.1 q.1 = .ok q.2 := by decide +kernel
set_option maxRecDepth 20000 in
theorem cy_F_isUpTo : za_CY Y_F_isUpTo 2 := ⟨za_in 216 rfl rfl, za_in 22 (by decide +kernel) rfl, ⟨by decide, by decide⟩, by decide +kernel⟩
theorem kc_F_isUpTo : Cond.code Y_F_isUpTo.1 Y_F_isUpTo.2.1 Y_F_isUpTo.2.2.1 Y_F_isUpTo.2.2.2 ∈ za_tt := cy_F_isUpTo.1
theorem cs_F_isUpTo : za_CS Y_F_isUpTo := za_in 215 (by decide +kernel) rfl
def Y_P_append : za_Y := (⟨"WayFinder$Program", "append", "(IIII)V"⟩, prog_2_method_4_code, 5, none)
def cd_P_append : List (Nat × Instr × Nat) := [(0, .aload_n 0, 1), (1, .getfield 9, 3), (4, .aload_n 0, 1), (5, .getfield 24, 3), (8, .iload_n 1, 1), (9, .iastore, 1), (10, .aload_n 0, 1), (11, .getfield 15, 3), (14, .aload_n 0, 1), (15, .getfield 24, 3), (18, .iload_n 2, 1), (19, .iastore, 1), (20, .aload_n 0, 1), (21, .getfield 18, 3), (24, .aload_n 0, 1), (25, .getfield 24, 3), (28, .iload_n 3, 1), (29, .iastore, 1), (30, .aload_n 0, 1), (31, .getfield 21, 3), (34, .aload_n 0, 1), (35, .getfield 24, 3), (38, .iload 4, 2), (40, .iastore, 1), (41, .aload_n 0, 1), (42, .dup, 1), (43, .getfield 24, 3), (46, .iconst 1, 1), (47, .iadd, 1), (48, .putfield 24, 3), (51, .return_, 1)]
theorem cdok_P_append : ∀ q ∈ cd_P_append, decode Y_P_append.2.1 q.1 = .ok q.2 := by decide +kernel
set_option maxRecDepth 20000 in
theorem cy_P_append : za_CY Y_P_append 4 := ⟨za_in 298 rfl rfl, za_in 23 (by decide +kernel) rfl, ⟨by decide, by decide⟩, by decide +kernel⟩
theorem kc_P_append : Cond.code Y_P_append.1 Y_P_append.2.1 Y_P_append.2.2.1 Y_P_append.2.2.2 ∈ za_tt := cy_P_append.1
theorem cv_P_append : za_CV Y_P_append := ⟨za_in 296 (by decide +kernel) rfl, za_in 297 (by decide +kernel) rfl⟩
def Y_L_undo : za_Y := (⟨"WayFinderLaw", "undo", "(LWayFinder;[J)I"⟩, method_4_code, 3, (some .int))
def cd_L_undo : List (Nat × Instr × Nat) := [(0, .aload_n 1, 1), (1, .iconst 0, 1), (2, .aload_n 0, 1), (3, .invokevirtual 17, 3), (6, .i2l, 1), (7, .lastore, 1), (8, .goto 6, 3), (11, .astore_n 2, 1), (12, .iconst 1, 1), (13, .ireturn, 1), (14, .iconst 0, 1), (15, .ireturn, 1)]
theorem cdok_L_undo : ∀ q ∈ cd_L_undo, decode Y_L_undo.2.1 q.1 = .ok q.2 := by decide +kernel
def hs_L_undo : List (Nat × Nat × Nat × Nat) := [(0, 8, 11, 21)]
set_option maxRecDepth 20000 in
theorem kw_L_undo : Cond.codeWith Y_L_undo.1 Y_L_undo.2.1 Y_L_undo.2.2.1 Y_L_undo.2.2.2 hs_L_undo ∈ za_tt := za_in 301 rfl rfl
theorem cs_L_undo : za_CS Y_L_undo := za_in 300 (by decide +kernel) rfl
def Y_F_undo : za_Y := (⟨"WayFinder", "undo", "()I"⟩, prog_1_method_3_code, 1, (some .int))
def cd_F_undo : List (Nat × Instr × Nat) := [(0, .aload_n 0, 1), (1, .getfield 10, 3), (4, .getfield 50, 3), (7, .ifCond .ne 11, 3), (10, .new 60, 3), (13, .dup, 1), (14, .invokespecial 62, 3), (17, .athrow, 1), (18, .aload_n 0, 1), (19, .getfield 10, 3), (22, .dup, 1), (23, .getfield 50, 3), (26, .iconst 1, 1), (27, .isub, 1), (28, .putfield 50, 3), (31, .aload_n 0, 1), (32, .getfield 10, 3), (35, .getfield 50, 3), (38, .ireturn, 1)]
theorem cdok_F_undo : ∀ q ∈ cd_F_undo, decode Y_F_undo.2.1 q.1 = .ok q.2 := by decide +kernel
set_option maxRecDepth 20000 in
theorem cy_F_undo : za_CY Y_F_undo 0 := ⟨za_in 306 rfl rfl, za_in 22 (by decide +kernel) rfl, ⟨by decide, by decide⟩, by decide +kernel⟩
theorem kc_F_undo : Cond.code Y_F_undo.1 Y_F_undo.2.1 Y_F_undo.2.2.1 Y_F_undo.2.2.2 ∈ za_tt := cy_F_undo.1
theorem cv_F_undo : za_CV Y_F_undo := ⟨za_in 304 (by decide +kernel) rfl, za_in 305 (by decide +kernel) rfl⟩
def Y_L_width : za_Y := (⟨"WayFinderLaw", "width", "(LWayFinder;I[J)I"⟩, method_5_code, 4, (some .int))
def cd_L_width : List (Nat × Instr × Nat) := [(0, .aload_n 2, 1), (1, .iconst 0, 1), (2, .aload_n 0, 1), (3, .iload_n 1, 1), (4, .invokevirtual 23, 3), (7, .i2l, 1), (8, .lastore, 1), (9, .goto 6, 3), (12, .astore_n 3, 1), (13, .iconst 1, 1), (14, .ireturn, 1), (15, .iconst 0, 1), (16, .ireturn, 1)]
theorem cdok_L_width : ∀ q ∈ cd_L_width, decode Y_L_width.2.1 q.1 = .ok q.2 := by decide +kernel
def hs_L_width : List (Nat × Nat × Nat × Nat) := [(0, 9, 12, 13)]
set_option maxRecDepth 20000 in
theorem kw_L_width : Cond.codeWith Y_L_width.1 Y_L_width.2.1 Y_L_width.2.2.1 Y_L_width.2.2.2 hs_L_width ∈ za_tt := za_in 324 rfl rfl
theorem cs_L_width : za_CS Y_L_width := za_in 323 (by decide +kernel) rfl
def Y_F_width : za_Y := (⟨"WayFinder", "width", "(I)I"⟩, prog_1_method_4_code, 3, (some .int))
def cd_F_width : List (Nat × Instr × Nat) := [(0, .iload_n 1, 1), (1, .iconst 1, 1), (2, .if_icmp .lt 8, 3), (5, .iload_n 1, 1), (6, .iconst 4, 1), (7, .if_icmp .le 11, 3), (10, .new 47, 3), (13, .dup, 1), (14, .invokespecial 49, 3), (17, .athrow, 1), (18, .aload_n 0, 1), (19, .getfield 36, 3), (22, .istore_n 2, 1), (23, .aload_n 0, 1), (24, .iload_n 1, 1), (25, .putfield 36, 3), (28, .iload_n 2, 1), (29, .ireturn, 1)]
theorem cdok_F_width : ∀ q ∈ cd_F_width, decode Y_F_width.2.1 q.1 = .ok q.2 := by decide +kernel
set_option maxRecDepth 20000 in
theorem cy_F_width : za_CY Y_F_width 1 := ⟨za_in 328 rfl rfl, za_in 22 (by decide +kernel) rfl, ⟨by decide, by decide⟩, by decide +kernel⟩
theorem kc_F_width : Cond.code Y_F_width.1 Y_F_width.2.1 Y_F_width.2.2.1 Y_F_width.2.2.2 ∈ za_tt := cy_F_width.1
theorem cv_F_width : za_CV Y_F_width := ⟨za_in 326 (by decide +kernel) rfl, za_in 327 (by decide +kernel) rfl⟩
def Y_L_run : za_Y := (⟨"WayFinderLaw", "run", "(LWayFinder;II[J)I"⟩, method_6_code, 5, (some .int))
def cd_L_run : List (Nat × Instr × Nat) := [(0, .aload_n 3, 1), (1, .iconst 0, 1), (2, .aload_n 0, 1), (3, .iload_n 1, 1), (4, .iload_n 2, 1), (5, .invokevirtual 27, 3), (8, .i2l, 1), (9, .lastore, 1), (10, .goto 7, 3), (13, .astore 4, 2), (15, .iconst 1, 1), (16, .ireturn, 1), (17, .iconst 0, 1), (18, .ireturn, 1)]
theorem cdok_L_run : ∀ q ∈ cd_L_run, decode Y_L_run.2.1 q.1 = .ok q.2 := by decide +kernel
def hs_L_run : List (Nat × Nat × Nat × Nat) := [(0, 10, 13, 13)]
set_option maxRecDepth 20000 in
theorem kw_L_run : Cond.codeWith Y_L_run.1 Y_L_run.2.1 Y_L_run.2.2.1 Y_L_run.2.2.2 hs_L_run ∈ za_tt := za_in 331 rfl rfl
theorem cs_L_run : za_CS Y_L_run := za_in 330 (by decide +kernel) rfl
def Y_F_run : za_Y := (⟨"WayFinder", "run", "(II)I"⟩, prog_1_method_5_code, 3, (some .int))
def cd_F_run : List (Nat × Instr × Nat) := [(0, .aload_n 0, 1), (1, .iload_n 1, 1), (2, .iload_n 2, 1), (3, .invokevirtual 63, 3), (6, .ifCond .ne 11, 3), (9, .new 47, 3), (12, .dup, 1), (13, .invokespecial 49, 3), (16, .athrow, 1), (17, .aload_n 0, 1), (18, .getfield 19, 3), (21, .aload_n 0, 1), (22, .getfield 10, 3), (25, .iload_n 1, 1), (26, .iload_n 2, 1), (27, .invokevirtual 67, 3), (30, .aload_n 0, 1), (31, .dup, 1), (32, .getfield 40, 3), (35, .iconst 1, 1), (36, .iadd, 1), (37, .putfield 40, 3), (40, .aload_n 0, 1), (41, .getfield 19, 3), (44, .getfield 71, 3), (47, .ireturn, 1)]
theorem cdok_F_run : ∀ q ∈ cd_F_run, decode Y_F_run.2.1 q.1 = .ok q.2 := by decide +kernel
set_option maxRecDepth 20000 in
theorem cy_F_run : za_CY Y_F_run 2 := ⟨za_in 335 rfl rfl, za_in 22 (by decide +kernel) rfl, ⟨by decide, by decide⟩, by decide +kernel⟩
theorem kc_F_run : Cond.code Y_F_run.1 Y_F_run.2.1 Y_F_run.2.2.1 Y_F_run.2.2.2 ∈ za_tt := cy_F_run.1
theorem cv_F_run : za_CV Y_F_run := ⟨za_in 333 (by decide +kernel) rfl, za_in 334 (by decide +kernel) rfl⟩
def Y_F_areInputs : za_Y := (⟨"WayFinder", "areInputs", "(II)Z"⟩, prog_1_method_14_code, 4, (some .boolean))
def cd_F_areInputs : List (Nat × Instr × Nat) := [(0, .iconst 1, 1), (1, .aload_n 0, 1), (2, .getfield 36, 3), (5, .ishl, 1), (6, .iconst 1, 1), (7, .isub, 1), (8, .istore_n 3, 1), (9, .iload_n 3, 1), (10, .iload_n 1, 1), (11, .invokestatic 125, 3), (14, .ifCond .eq 15, 3), (17, .iload_n 3, 1), (18, .iload_n 2, 1), (19, .invokestatic 125, 3), (22, .ifCond .eq 7, 3), (25, .iconst 1, 1), (26, .goto 4, 3), (29, .iconst 0, 1), (30, .ireturn, 1)]
theorem cdok_F_areInputs : ∀ q ∈ cd_F_areInputs, decode Y_F_areInputs.2.1 q.1 = .ok q.2 := by decide +kernel
set_option maxRecDepth 20000 in
theorem cy_F_areInputs : za_CY Y_F_areInputs 2 := ⟨za_in 339 rfl rfl, za_in 22 (by decide +kernel) rfl, ⟨by decide, by decide⟩, by decide +kernel⟩
theorem kc_F_areInputs : Cond.code Y_F_areInputs.1 Y_F_areInputs.2.1 Y_F_areInputs.2.2.1 Y_F_areInputs.2.2.2 ∈ za_tt := cy_F_areInputs.1
theorem cv_F_areInputs : za_CV Y_F_areInputs := ⟨za_in 338 (by decide +kernel) rfl, za_in 1 (by decide +kernel) rfl⟩
def Y_T_follow : za_Y := (⟨"WayFinder$Trace", "follow", "(LWayFinder$Program;II)V"⟩, prog_4_method_2_code, 5, none)
def cd_T_follow : List (Nat × Instr × Nat) := [(0, .aload_n 0, 1), (1, .iload_n 2, 1), (2, .iload_n 3, 1), (3, .invokevirtual 45, 3), (6, .iconst 0, 1), (7, .istore 4, 2), (9, .iload 4, 2), (11, .bipush 40, 2), (13, .if_icmp .ge 32, 3), (16, .aload_n 0, 1), (17, .getfield 35, 3), (20, .ifCond .ne 25, 3), (23, .aload_n 1, 1), (24, .aload_n 0, 1), (25, .getfield 15, 3), (28, .invokevirtual 49, 3), (31, .ifCond .eq 14, 3), (34, .aload_n 0, 1), (35, .aload_n 1, 1), (36, .invokevirtual 55, 3), (39, .iinc 4 1, 3), (42, .goto (-33), 3), (45, .aload_n 0, 1), (46, .getfield 35, 3), (49, .ifCond .ne 8, 3), (52, .aload_n 0, 1), (53, .aload_n 1, 1), (54, .invokevirtual 59, 3), (57, .return_, 1)]
theorem cdok_T_follow : ∀ q ∈ cd_T_follow, decode Y_T_follow.2.1 q.1 = .ok q.2 := by decide +kernel
set_option maxRecDepth 20000 in
theorem cy_T_follow : za_CY Y_T_follow 3 := ⟨za_in 344 rfl rfl, za_in 24 (by decide +kernel) rfl, ⟨by decide, by decide⟩, by decide +kernel⟩
theorem kc_T_follow : Cond.code Y_T_follow.1 Y_T_follow.2.1 Y_T_follow.2.2.1 Y_T_follow.2.2.2 ∈ za_tt := cy_T_follow.1
theorem cv_T_follow : za_CV Y_T_follow := ⟨za_in 342 (by decide +kernel) rfl, za_in 343 (by decide +kernel) rfl⟩
def Y_T_begin : za_Y := (⟨"WayFinder$Trace", "begin", "(II)V"⟩, prog_4_method_3_code, 3, none)
def cd_T_begin : List (Nat × Instr × Nat) := [(0, .aload_n 0, 1), (1, .getfield 9, 3), (4, .iconst 0, 1), (5, .iload_n 1, 1), (6, .iastore, 1), (7, .aload_n 0, 1), (8, .getfield 9, 3), (11, .iconst 1, 1), (12, .iload_n 2, 1), (13, .iastore, 1), (14, .aload_n 0, 1), (15, .getfield 9, 3), (18, .iconst 2, 1), (19, .iconst 0, 1), (20, .iastore, 1), (21, .aload_n 0, 1), (22, .getfield 9, 3), (25, .iconst 3, 1), (26, .iconst 0, 1), (27, .iastore, 1), (28, .aload_n 0, 1), (29, .iconst 0, 1), (30, .putfield 15, 3), (33, .aload_n 0, 1), (34, .iconst 0, 1), (35, .putfield 19, 3), (38, .aload_n 0, 1), (39, .iconst 0, 1), (40, .putfield 22, 3), (43, .aload_n 0, 1), (44, .iconst 0, 1), (45, .putfield 25, 3), (48, .aload_n 0, 1), (49, .lconst 0, 1), (50, .putfield 28, 3), (53, .aload_n 0, 1), (54, .iconst 0, 1), (55, .putfield 32, 3), (58, .aload_n 0, 1), (59, .iconst 0, 1), (60, .putfield 35, 3), (63, .return_, 1)]
theorem cdok_T_begin : ∀ q ∈ cd_T_begin, decode Y_T_begin.2.1 q.1 = .ok q.2 := by decide +kernel
set_option maxRecDepth 20000 in
theorem cy_T_begin : za_CY Y_T_begin 2 := ⟨za_in 348 rfl rfl, za_in 24 (by decide +kernel) rfl, ⟨by decide, by decide⟩, by decide +kernel⟩
theorem kc_T_begin : Cond.code Y_T_begin.1 Y_T_begin.2.1 Y_T_begin.2.2.1 Y_T_begin.2.2.2 ∈ za_tt := cy_T_begin.1
theorem cv_T_begin : za_CV Y_T_begin := ⟨za_in 347 (by decide +kernel) rfl, za_in 2 (by decide +kernel) rfl⟩
def Y_P_has : za_Y := (⟨"WayFinder$Program", "has", "(I)Z"⟩, prog_2_method_5_code, 2, (some .boolean))
def cd_P_has : List (Nat × Instr × Nat) := [(0, .iload_n 1, 1), (1, .ifCond .lt 15, 3), (4, .iload_n 1, 1), (5, .aload_n 0, 1), (6, .getfield 24, 3), (9, .if_icmp .ge 7, 3), (12, .iconst 1, 1), (13, .goto 4, 3), (16, .iconst 0, 1), (17, .ireturn, 1)]
theorem cdok_P_has : ∀ q ∈ cd_P_has, decode Y_P_has.2.1 q.1 = .ok q.2 := by decide +kernel
set_option maxRecDepth 20000 in
theorem cy_P_has : za_CY Y_P_has 1 := ⟨za_in 352 rfl rfl, za_in 23 (by decide +kernel) rfl, ⟨by decide, by decide⟩, by decide +kernel⟩
theorem kc_P_has : Cond.code Y_P_has.1 Y_P_has.2.1 Y_P_has.2.2.1 Y_P_has.2.2.2 ∈ za_tt := cy_P_has.1
theorem cv_P_has : za_CV Y_P_has := ⟨za_in 350 (by decide +kernel) rfl, za_in 351 (by decide +kernel) rfl⟩
def Y_T_step : za_Y := (⟨"WayFinder$Trace", "step", "(LWayFinder$Program;)V"⟩, prog_4_method_4_code, 6, none)
def cd_T_step : List (Nat × Instr × Nat) := [(0, .aload_n 0, 1), (1, .aload_n 0, 1), (2, .getfield 15, 3), (5, .putfield 19, 3), (8, .aload_n 0, 1), (9, .dup, 1), (10, .getfield 22, 3), (13, .iconst 1, 1), (14, .iadd, 1), (15, .putfield 22, 3), (18, .aload_n 0, 1), (19, .dup, 1), (20, .getfield 25, 3), (23, .iconst 1, 1), (24, .aload_n 0, 1), (25, .getfield 15, 3), (28, .ishl, 1), (29, .ior, 1), (30, .putfield 25, 3), (33, .aload_n 0, 1), (34, .dup, 1), (35, .getfield 15, 3), (38, .iconst 1, 1), (39, .iadd, 1), (40, .putfield 15, 3), (43, .aload_n 1, 1), (44, .getfield 62, 3), (47, .aload_n 0, 1), (48, .getfield 19, 3), (51, .iaload, 1), (52, .istore_n 2, 1), (53, .aload_n 1, 1), (54, .getfield 65, 3), (57, .aload_n 0, 1), (58, .getfield 19, 3), (61, .iaload, 1), (62, .istore_n 3, 1), (63, .aload_n 1, 1), (64, .getfield 68, 3), (67, .aload_n 0, 1), (68, .getfield 19, 3), (71, .iaload, 1), (72, .istore 4, 2), (74, .aload_n 1, 1), (75, .getfield 71, 3), (78, .aload_n 0, 1), (79, .getfield 19, 3), (82, .iaload, 1), (83, .istore 5, 2), (85, .iload 5, 2), (87, .tableswitch 197 0 13 #[69, 197, 197, 197, 197, 197, 197, 79, 97, 126, 155, 164, 175, 183], 69), (156, .aload_n 0, 1), (157, .getfield 9, 3), (160, .iload_n 2, 1), (161, .iload_n 3, 1), (162, .iastore, 1), (163, .goto 145, 3), (166, .aload_n 0, 1), (167, .getfield 9, 3), (170, .iload_n 2, 1), (171, .aload_n 0, 1), (172, .getfield 9, 3), (175, .iload_n 3, 1), (176, .iaload, 1), (177, .iload 4, 2), (179, .ishr, 1), (180, .iastore, 1), (181, .goto 127, 3), (184, .aload_n 0, 1), (185, .aload_n 0, 1), (186, .getfield 9, 3), (189, .iload_n 2, 1), (190, .iaload, 1), (191, .aload_n 0, 1), (192, .getfield 9, 3), (195, .iload_n 3, 1), (196, .iaload, 1), (197, .if_icmp .ge 7, 3), (200, .iconst 1, 1), (201, .goto 4, 3), (204, .iconst 0, 1), (205, .iload 4, 2), (207, .invokevirtual 74, 3), (210, .goto 98, 3), (213, .aload_n 0, 1), (214, .aload_n 0, 1), (215, .getfield 9, 3), (218, .iload_n 2, 1), (219, .iaload, 1), (220, .aload_n 0, 1), (221, .getfield 9, 3), (224, .iload_n 3, 1), (225, .iaload, 1), (226, .if_icmp .ne 7, 3), (229, .iconst 1, 1), (230, .goto 4, 3), (233, .iconst 0, 1), (234, .iload 4, 2), (236, .invokevirtual 74, 3), (239, .goto 69, 3), (242, .aload_n 0, 1), (243, .iload 4, 2), (245, .putfield 15, 3), (248, .goto 60, 3), (251, .aload_n 0, 1), (252, .iload_n 2, 1), (253, .iload_n 3, 1), (254, .iload 4, 2), (256, .invokevirtual 78, 3), (259, .goto 49, 3), (262, .aload_n 0, 1), (263, .iload_n 2, 1), (264, .invokevirtual 82, 3), (267, .goto 41, 3), (270, .aload_n 0, 1), (271, .iconst 0, 1), (272, .aload_n 0, 1), (273, .getfield 9, 3), (276, .iload_n 2, 1), (277, .iaload, 1), (278, .invokevirtual 86, 3), (281, .goto 27, 3), (284, .aload_n 0, 1), (285, .getfield 9, 3), (288, .iload_n 2, 1), (289, .iload 5, 2), (291, .aload_n 0, 1), (292, .getfield 9, 3), (295, .iload_n 3, 1), (296, .iaload, 1), (297, .aload_n 0, 1), (298, .getfield 9, 3), (301, .iload 4, 2), (303, .iaload, 1), (304, .invokestatic 89, 3), (307, .iastore, 1), (308, .return_, 1)]
theorem cdok_T_step : ∀ q ∈ cd_T_step, decode Y_T_step.2.1 q.1 = .ok q.2 := by decide +kernel
set_option maxRecDepth 20000 in
theorem cy_T_step : za_CY Y_T_step 1 := ⟨za_in 356 rfl rfl, za_in 24 (by decide +kernel) rfl, ⟨by decide, by decide⟩, by decide +kernel⟩
theorem kc_T_step : Cond.code Y_T_step.1 Y_T_step.2.1 Y_T_step.2.2.1 Y_T_step.2.2.2 ∈ za_tt := cy_T_step.1
theorem cv_T_step : za_CV Y_T_step := ⟨za_in 355 (by decide +kernel) rfl, za_in 3 (by decide +kernel) rfl⟩
def Y_T_goIf : za_Y := (⟨"WayFinder$Trace", "goIf", "(ZI)V"⟩, prog_4_method_6_code, 3, none)
def cd_T_goIf : List (Nat × Instr × Nat) := [(0, .aload_n 0, 1), (1, .iload_n 1, 1), (2, .invokevirtual 93, 3), (5, .iload_n 1, 1), (6, .ifCond .eq 8, 3), (9, .aload_n 0, 1), (10, .iload_n 2, 1), (11, .putfield 15, 3), (14, .return_, 1)]
theorem cdok_T_goIf : ∀ q ∈ cd_T_goIf, decode Y_T_goIf.2.1 q.1 = .ok q.2 := by decide +kernel
set_option maxRecDepth 20000 in
theorem cy_T_goIf : za_CY Y_T_goIf 2 := ⟨za_in 360 rfl rfl, za_in 24 (by decide +kernel) rfl, ⟨by decide, by decide⟩, by decide +kernel⟩
theorem kc_T_goIf : Cond.code Y_T_goIf.1 Y_T_goIf.2.1 Y_T_goIf.2.2.1 Y_T_goIf.2.2.2 ∈ za_tt := cy_T_goIf.1
theorem cv_T_goIf : za_CV Y_T_goIf := ⟨za_in 359 (by decide +kernel) rfl, za_in 4 (by decide +kernel) rfl⟩
def Y_T_decide : za_Y := (⟨"WayFinder$Trace", "decide", "(Z)V"⟩, prog_4_method_9_code, 2, none)
def cd_T_decide : List (Nat × Instr × Nat) := [(0, .iload_n 1, 1), (1, .ifCond .eq 21, 3), (4, .aload_n 0, 1), (5, .dup, 1), (6, .getfield 28, 3), (9, .lconst 1, 1), (10, .aload_n 0, 1), (11, .getfield 32, 3), (14, .invokestatic 97, 3), (17, .lshl, 1), (18, .lor, 1), (19, .putfield 28, 3), (22, .aload_n 0, 1), (23, .dup, 1), (24, .getfield 32, 3), (27, .iconst 1, 1), (28, .iadd, 1), (29, .putfield 32, 3), (32, .return_, 1)]
theorem cdok_T_decide : ∀ q ∈ cd_T_decide, decode Y_T_decide.2.1 q.1 = .ok q.2 := by decide +kernel
set_option maxRecDepth 20000 in
theorem cy_T_decide : za_CY Y_T_decide 1 := ⟨za_in 364 rfl rfl, za_in 24 (by decide +kernel) rfl, ⟨by decide, by decide⟩, by decide +kernel⟩
theorem kc_T_decide : Cond.code Y_T_decide.1 Y_T_decide.2.1 Y_T_decide.2.2.1 Y_T_decide.2.2.2 ∈ za_tt := cy_T_decide.1
theorem cv_T_decide : za_CV Y_T_decide := ⟨za_in 363 (by decide +kernel) rfl, za_in 5 (by decide +kernel) rfl⟩
def Y_F_decisionBit : za_Y := (⟨"WayFinder", "decisionBit", "(I)I"⟩, prog_1_method_17_code, 1, (some .int))
def cd_F_decisionBit : List (Nat × Instr × Nat) := [(0, .bipush 39, 2), (2, .iload_n 0, 1), (3, .isub, 1), (4, .ireturn, 1)]
theorem cdok_F_decisionBit : ∀ q ∈ cd_F_decisionBit, decode Y_F_decisionBit.2.1 q.1 = .ok q.2 := by decide +kernel
set_option maxRecDepth 20000 in
theorem cy_F_decisionBit : za_CY Y_F_decisionBit 1 := ⟨za_in 367 rfl rfl, za_in 22 (by decide +kernel) rfl, ⟨by decide, by decide⟩, by decide +kernel⟩
theorem kc_F_decisionBit : Cond.code Y_F_decisionBit.1 Y_F_decisionBit.2.1 Y_F_decisionBit.2.2.1 Y_F_decisionBit.2.2.2 ∈ za_tt := cy_F_decisionBit.1
theorem cs_F_decisionBit : za_CS Y_F_decisionBit := za_in 366 (by decide +kernel) rfl
def Y_T_divide : za_Y := (⟨"WayFinder$Trace", "divide", "(III)V"⟩, prog_4_method_7_code, 5, none)
def cd_T_divide : List (Nat × Instr × Nat) := [(0, .aload_n 0, 1), (1, .getfield 9, 3), (4, .iload_n 3, 1), (5, .iaload, 1), (6, .istore 4, 2), (8, .aload_n 0, 1), (9, .iload 4, 2), (11, .ifCond .ne 7, 3), (14, .iconst 1, 1), (15, .goto 4, 3), (18, .iconst 0, 1), (19, .invokevirtual 93, 3), (22, .iload 4, 2), (24, .ifCond .ne 15, 3), (27, .aload_n 0, 1), (28, .iconst 1, 1), (29, .aload_n 0, 1), (30, .getfield 19, 3), (33, .invokevirtual 86, 3), (36, .goto 18, 3), (39, .aload_n 0, 1), (40, .getfield 9, 3), (43, .iload_n 1, 1), (44, .aload_n 0, 1), (45, .getfield 9, 3), (48, .iload_n 2, 1), (49, .iaload, 1), (50, .iload 4, 2), (52, .idiv, 1), (53, .iastore, 1), (54, .return_, 1)]
theorem cdok_T_divide : ∀ q ∈ cd_T_divide, decode Y_T_divide.2.1 q.1 = .ok q.2 := by decide +kernel
set_option maxRecDepth 20000 in
theorem cy_T_divide : za_CY Y_T_divide 3 := ⟨za_in 371 rfl rfl, za_in 24 (by decide +kernel) rfl, ⟨by decide, by decide⟩, by decide +kernel⟩
theorem kc_T_divide : Cond.code Y_T_divide.1 Y_T_divide.2.1 Y_T_divide.2.2.1 Y_T_divide.2.2.2 ∈ za_tt := cy_T_divide.1
theorem cv_T_divide : za_CV Y_T_divide := ⟨za_in 370 (by decide +kernel) rfl, za_in 6 (by decide +kernel) rfl⟩
def Y_T_finish : za_Y := (⟨"WayFinder$Trace", "finish", "(II)V"⟩, prog_4_method_11_code, 3, none)
def cd_T_finish : List (Nat × Instr × Nat) := [(0, .aload_n 0, 1), (1, .iconst 1, 1), (2, .putfield 35, 3), (5, .aload_n 0, 1), (6, .iload_n 1, 1), (7, .putfield 39, 3), (10, .aload_n 0, 1), (11, .iload_n 2, 1), (12, .putfield 42, 3), (15, .return_, 1)]
theorem cdok_T_finish : ∀ q ∈ cd_T_finish, decode Y_T_finish.2.1 q.1 = .ok q.2 := by decide +kernel
set_option maxRecDepth 20000 in
theorem cy_T_finish : za_CY Y_T_finish 2 := ⟨za_in 375 rfl rfl, za_in 24 (by decide +kernel) rfl, ⟨by decide, by decide⟩, by decide +kernel⟩
theorem kc_T_finish : Cond.code Y_T_finish.1 Y_T_finish.2.1 Y_T_finish.2.2.1 Y_T_finish.2.2.2 ∈ za_tt := cy_T_finish.1
theorem cv_T_finish : za_CV Y_T_finish := ⟨za_in 374 (by decide +kernel) rfl, za_in 7 (by decide +kernel) rfl⟩
def Y_T_claim : za_Y := (⟨"WayFinder$Trace", "claim", "(I)V"⟩, prog_4_method_8_code, 3, none)
def cd_T_claim : List (Nat × Instr × Nat) := [(0, .aload_n 0, 1), (1, .getfield 9, 3), (4, .iload_n 1, 1), (5, .iaload, 1), (6, .ifCond .ne 7, 3), (9, .iconst 1, 1), (10, .goto 4, 3), (13, .iconst 0, 1), (14, .istore_n 2, 1), (15, .aload_n 0, 1), (16, .iload_n 2, 1), (17, .invokevirtual 93, 3), (20, .iload_n 2, 1), (21, .ifCond .eq 12, 3), (24, .aload_n 0, 1), (25, .iconst 2, 1), (26, .aload_n 0, 1), (27, .getfield 19, 3), (30, .invokevirtual 86, 3), (33, .return_, 1)]
theorem cdok_T_claim : ∀ q ∈ cd_T_claim, decode Y_T_claim.2.1 q.1 = .ok q.2 := by decide +kernel
set_option maxRecDepth 20000 in
theorem cy_T_claim : za_CY Y_T_claim 1 := ⟨za_in 379 rfl rfl, za_in 24 (by decide +kernel) rfl, ⟨by decide, by decide⟩, by decide +kernel⟩
theorem kc_T_claim : Cond.code Y_T_claim.1 Y_T_claim.2.1 Y_T_claim.2.2.1 Y_T_claim.2.2.2 ∈ za_tt := cy_T_claim.1
theorem cv_T_claim : za_CV Y_T_claim := ⟨za_in 378 (by decide +kernel) rfl, za_in 8 (by decide +kernel) rfl⟩
def Y_T_combine : za_Y := (⟨"WayFinder$Trace", "combine", "(III)I"⟩, prog_4_method_5_code, 3, (some .int))
def cd_T_combine : List (Nat × Instr × Nat) := [(0, .iload_n 0, 1), (1, .tableswitch 63 1 5 #[35, 43, 51, 55, 59], 35), (36, .iload_n 1, 1), (37, .iload_n 2, 1), (38, .iadd, 1), (39, .sipush 255, 3), (42, .iand, 1), (43, .ireturn, 1), (44, .iload_n 1, 1), (45, .iload_n 2, 1), (46, .isub, 1), (47, .sipush 255, 3), (50, .iand, 1), (51, .ireturn, 1), (52, .iload_n 1, 1), (53, .iload_n 2, 1), (54, .iand, 1), (55, .ireturn, 1), (56, .iload_n 1, 1), (57, .iload_n 2, 1), (58, .ior, 1), (59, .ireturn, 1), (60, .iload_n 1, 1), (61, .iload_n 2, 1), (62, .ixor, 1), (63, .ireturn, 1), (64, .iload_n 1, 1), (65, .iload_n 2, 1), (66, .imul, 1), (67, .sipush 255, 3), (70, .iand, 1), (71, .ireturn, 1)]
theorem cdok_T_combine : ∀ q ∈ cd_T_combine, decode Y_T_combine.2.1 q.1 = .ok q.2 := by decide +kernel
set_option maxRecDepth 20000 in
theorem cy_T_combine : za_CY Y_T_combine 3 := ⟨za_in 382 rfl rfl, za_in 24 (by decide +kernel) rfl, ⟨by decide, by decide⟩, by decide +kernel⟩
theorem kc_T_combine : Cond.code Y_T_combine.1 Y_T_combine.2.1 Y_T_combine.2.2.1 Y_T_combine.2.2.2 ∈ za_tt := cy_T_combine.1
theorem cs_T_combine : za_CS Y_T_combine := za_in 381 (by decide +kernel) rfl
def Y_T_finishUnasked : za_Y := (⟨"WayFinder$Trace", "finishUnasked", "(LWayFinder$Program;)V"⟩, prog_4_method_10_code, 2, none)
def cd_T_finishUnasked : List (Nat × Instr × Nat) := [(0, .aload_n 1, 1), (1, .aload_n 0, 1), (2, .getfield 15, 3), (5, .invokevirtual 49, 3), (8, .ifCond .eq 15, 3), (11, .aload_n 0, 1), (12, .iconst 3, 1), (13, .aload_n 0, 1), (14, .getfield 19, 3), (17, .invokevirtual 86, 3), (20, .goto 14, 3), (23, .aload_n 0, 1), (24, .iconst 0, 1), (25, .aload_n 0, 1), (26, .getfield 9, 3), (29, .iconst 0, 1), (30, .iaload, 1), (31, .invokevirtual 86, 3), (34, .return_, 1)]
theorem cdok_T_finishUnasked : ∀ q ∈ cd_T_finishUnasked, decode Y_T_finishUnasked.2.1 q.1 = .ok q.2 := by decide +kernel
set_option maxRecDepth 20000 in
theorem cy_T_finishUnasked : za_CY Y_T_finishUnasked 1 := ⟨za_in 386 rfl rfl, za_in 24 (by decide +kernel) rfl, ⟨by decide, by decide⟩, by decide +kernel⟩
theorem kc_T_finishUnasked : Cond.code Y_T_finishUnasked.1 Y_T_finishUnasked.2.1 Y_T_finishUnasked.2.2.1 Y_T_finishUnasked.2.2.2 ∈ za_tt := cy_T_finishUnasked.1
theorem cv_T_finishUnasked : za_CV Y_T_finishUnasked := ⟨za_in 385 (by decide +kernel) rfl, za_in 9 (by decide +kernel) rfl⟩
def Y_L_last : za_Y := (⟨"WayFinderLaw", "last", "(LWayFinder;I[J)I"⟩, method_7_code, 4, (some .int))
def cd_L_last : List (Nat × Instr × Nat) := [(0, .aload_n 2, 1), (1, .iconst 0, 1), (2, .aload_n 0, 1), (3, .iload_n 1, 1), (4, .invokevirtual 31, 3), (7, .i2l, 1), (8, .lastore, 1), (9, .goto 9, 3), (12, .astore_n 3, 1), (13, .iconst 1, 1), (14, .ireturn, 1), (15, .astore_n 3, 1), (16, .iconst 2, 1), (17, .ireturn, 1), (18, .iconst 0, 1), (19, .ireturn, 1)]
theorem cdok_L_last : ∀ q ∈ cd_L_last, decode Y_L_last.2.1 q.1 = .ok q.2 := by decide +kernel
def hs_L_last : List (Nat × Nat × Nat × Nat) := [(0, 9, 12, 21), (0, 9, 15, 13)]
set_option maxRecDepth 20000 in
theorem kw_L_last : Cond.codeWith Y_L_last.1 Y_L_last.2.1 Y_L_last.2.2.1 Y_L_last.2.2.2 hs_L_last ∈ za_tt := za_in 389 rfl rfl
theorem cs_L_last : za_CS Y_L_last := za_in 388 (by decide +kernel) rfl
def Y_F_last : za_Y := (⟨"WayFinder", "last", "(I)I"⟩, prog_1_method_6_code, 2, (some .int))
def cd_F_last : List (Nat × Instr × Nat) := [(0, .aload_n 0, 1), (1, .getfield 40, 3), (4, .ifCond .ne 11, 3), (7, .new 60, 3), (10, .dup, 1), (11, .invokespecial 62, 3), (14, .athrow, 1), (15, .iload_n 1, 1), (16, .tableswitch 52 0 2 #[28, 36, 44], 28), (44, .aload_n 0, 1), (45, .getfield 19, 3), (48, .getfield 74, 3), (51, .ireturn, 1), (52, .aload_n 0, 1), (53, .getfield 19, 3), (56, .getfield 77, 3), (59, .ireturn, 1), (60, .aload_n 0, 1), (61, .getfield 19, 3), (64, .getfield 80, 3), (67, .ireturn, 1), (68, .new 47, 3), (71, .dup, 1), (72, .invokespecial 49, 3), (75, .athrow, 1)]
theorem cdok_F_last : ∀ q ∈ cd_F_last, decode Y_F_last.2.1 q.1 = .ok q.2 := by decide +kernel
set_option maxRecDepth 20000 in
theorem cy_F_last : za_CY Y_F_last 1 := ⟨za_in 393 rfl rfl, za_in 22 (by decide +kernel) rfl, ⟨by decide, by decide⟩, by decide +kernel⟩
theorem kc_F_last : Cond.code Y_F_last.1 Y_F_last.2.1 Y_F_last.2.2.1 Y_F_last.2.2.2 ∈ za_tt := cy_F_last.1
theorem cv_F_last : za_CV Y_F_last := ⟨za_in 391 (by decide +kernel) rfl, za_in 392 (by decide +kernel) rfl⟩
def Y_L_explore : za_Y := (⟨"WayFinderLaw", "explore", "(LWayFinder;[J)I"⟩, method_8_code, 3, (some .int))
def cd_L_explore : List (Nat × Instr × Nat) := [(0, .aload_n 1, 1), (1, .iconst 0, 1), (2, .aload_n 0, 1), (3, .invokevirtual 34, 3), (6, .i2l, 1), (7, .lastore, 1), (8, .goto 6, 3), (11, .astore_n 2, 1), (12, .iconst 1, 1), (13, .ireturn, 1), (14, .iconst 0, 1), (15, .ireturn, 1)]
theorem cdok_L_explore : ∀ q ∈ cd_L_explore, decode Y_L_explore.2.1 q.1 = .ok q.2 := by decide +kernel
def hs_L_explore : List (Nat × Nat × Nat × Nat) := [(0, 8, 11, 15)]
set_option maxRecDepth 20000 in
theorem kw_L_explore : Cond.codeWith Y_L_explore.1 Y_L_explore.2.1 Y_L_explore.2.2.1 Y_L_explore.2.2.2 hs_L_explore ∈ za_tt := za_in 396 rfl rfl
theorem cs_L_explore : za_CS Y_L_explore := za_in 395 (by decide +kernel) rfl
def Y_F_explore : za_Y := (⟨"WayFinder", "explore", "()I"⟩, prog_1_method_7_code, 2, (some .int))
def cd_F_explore : List (Nat × Instr × Nat) := [(0, .aload_n 0, 1), (1, .invokevirtual 83, 3), (4, .ifCond .ne 11, 3), (7, .new 53, 3), (10, .dup, 1), (11, .invokespecial 55, 3), (14, .athrow, 1), (15, .aload_n 0, 1), (16, .getfield 29, 3), (19, .astore_n 1, 1), (20, .aload_n 0, 1), (21, .aload_n 0, 1), (22, .getfield 33, 3), (25, .putfield 29, 3), (28, .aload_n 0, 1), (29, .aload_n 1, 1), (30, .putfield 33, 3), (33, .aload_n 0, 1), (34, .getfield 29, 3), (37, .getfield 87, 3), (40, .ireturn, 1)]
theorem cdok_F_explore : ∀ q ∈ cd_F_explore, decode Y_F_explore.2.1 q.1 = .ok q.2 := by decide +kernel
set_option maxRecDepth 20000 in
theorem cy_F_explore : za_CY Y_F_explore 0 := ⟨za_in 400 rfl rfl, za_in 22 (by decide +kernel) rfl, ⟨by decide, by decide⟩, by decide +kernel⟩
theorem kc_F_explore : Cond.code Y_F_explore.1 Y_F_explore.2.1 Y_F_explore.2.2.1 Y_F_explore.2.2.2 ∈ za_tt := cy_F_explore.1
theorem cv_F_explore : za_CV Y_F_explore := ⟨za_in 398 (by decide +kernel) rfl, za_in 399 (by decide +kernel) rfl⟩
def Y_F_fillDraft : za_Y := (⟨"WayFinder", "fillDraft", "()Z"⟩, prog_1_method_15_code, 4, (some .boolean))
def cd_F_fillDraft : List (Nat × Instr × Nat) := [(0, .aload_n 0, 1), (1, .getfield 33, 3), (4, .invokevirtual 128, 3), (7, .iconst 1, 1), (8, .aload_n 0, 1), (9, .getfield 36, 3), (12, .ishl, 1), (13, .istore_n 1, 1), (14, .iconst 0, 1), (15, .istore_n 2, 1), (16, .iload_n 2, 1), (17, .iload_n 1, 1), (18, .if_icmp .ge 53, 3), (21, .iconst 0, 1), (22, .istore_n 3, 1), (23, .iload_n 3, 1), (24, .iload_n 1, 1), (25, .if_icmp .ge 40, 3), (28, .aload_n 0, 1), (29, .getfield 23, 3), (32, .aload_n 0, 1), (33, .getfield 10, 3), (36, .iload_n 2, 1), (37, .iload_n 3, 1), (38, .invokevirtual 67, 3), (41, .aload_n 0, 1), (42, .getfield 33, 3), (45, .aload_n 0, 1), (46, .getfield 23, 3), (49, .iload_n 2, 1), (50, .iload_n 3, 1), (51, .invokevirtual 131, 3), (54, .ifCond .ne 5, 3), (57, .iconst 0, 1), (58, .ireturn, 1), (59, .iinc 3 1, 3), (62, .goto (-39), 3), (65, .iinc 2 1, 3), (68, .goto (-52), 3), (71, .iconst 1, 1), (72, .ireturn, 1)]
theorem cdok_F_fillDraft : ∀ q ∈ cd_F_fillDraft, decode Y_F_fillDraft.2.1 q.1 = .ok q.2 := by decide +kernel
set_option maxRecDepth 20000 in
theorem cy_F_fillDraft : za_CY Y_F_fillDraft 0 := ⟨za_in 404 rfl rfl, za_in 22 (by decide +kernel) rfl, ⟨by decide, by decide⟩, by decide +kernel⟩
theorem kc_F_fillDraft : Cond.code Y_F_fillDraft.1 Y_F_fillDraft.2.1 Y_F_fillDraft.2.2.1 Y_F_fillDraft.2.2.2 ∈ za_tt := cy_F_fillDraft.1
theorem cv_F_fillDraft : za_CV Y_F_fillDraft := ⟨za_in 403 (by decide +kernel) rfl, za_in 10 (by decide +kernel) rfl⟩
def Y_R_empty : za_Y := (⟨"WayFinder$Results", "empty", "()V"⟩, prog_3_method_2_code, 1, none)
def cd_R_empty : List (Nat × Instr × Nat) := [(0, .aload_n 0, 1), (1, .iconst 0, 1), (2, .putfield 17, 3), (5, .aload_n 0, 1), (6, .iconst 0, 1), (7, .putfield 21, 3), (10, .return_, 1)]
theorem cdok_R_empty : ∀ q ∈ cd_R_empty, decode Y_R_empty.2.1 q.1 = .ok q.2 := by decide +kernel
set_option maxRecDepth 20000 in
theorem cy_R_empty : za_CY Y_R_empty 0 := ⟨za_in 408 rfl rfl, za_in 25 (by decide +kernel) rfl, ⟨by decide, by decide⟩, by decide +kernel⟩
theorem kc_R_empty : Cond.code Y_R_empty.1 Y_R_empty.2.1 Y_R_empty.2.2.1 Y_R_empty.2.2.2 ∈ za_tt := cy_R_empty.1
theorem cv_R_empty : za_CV Y_R_empty := ⟨za_in 406 (by decide +kernel) rfl, za_in 407 (by decide +kernel) rfl⟩
def Y_R_take : za_Y := (⟨"WayFinder$Results", "take", "(LWayFinder$Trace;II)Z"⟩, prog_3_method_4_code, 5, (some .boolean))
def cd_R_take : List (Nat × Instr × Nat) := [(0, .aload_n 0, 1), (1, .aload_n 1, 1), (2, .getfield 25, 3), (5, .invokevirtual 31, 3), (8, .istore 4, 2), (10, .aload_n 0, 1), (11, .iload 4, 2), (13, .invokevirtual 35, 3), (16, .ifCond .eq 23, 3), (19, .aload_n 0, 1), (20, .getfield 11, 3), (23, .iload 4, 2), (25, .aaload, 1), (26, .getfield 39, 3), (29, .aload_n 1, 1), (30, .getfield 25, 3), (33, .lcmp, 1), (34, .ifCond .ne 5, 3), (37, .iconst 1, 1), (38, .ireturn, 1), (39, .aload_n 0, 1), (40, .getfield 17, 3), (43, .bipush 64, 2), (45, .if_icmp .ne 5, 3), (48, .iconst 0, 1), (49, .ireturn, 1), (50, .aload_n 0, 1), (51, .iload 4, 2), (53, .invokevirtual 40, 3), (56, .aload_n 0, 1), (57, .getfield 11, 3), (60, .iload 4, 2), (62, .aaload, 1), (63, .aload_n 1, 1), (64, .iload_n 2, 1), (65, .iload_n 3, 1), (66, .invokevirtual 44, 3), (69, .aload_n 0, 1), (70, .dup, 1), (71, .getfield 21, 3), (74, .aload_n 1, 1), (75, .getfield 48, 3), (78, .ior, 1), (79, .putfield 21, 3), (82, .iconst 1, 1), (83, .ireturn, 1)]
theorem cdok_R_take : ∀ q ∈ cd_R_take, decode Y_R_take.2.1 q.1 = .ok q.2 := by decide +kernel
set_option maxRecDepth 20000 in
theorem cy_R_take : za_CY Y_R_take 3 := ⟨za_in 412 rfl rfl, za_in 25 (by decide +kernel) rfl, ⟨by decide, by decide⟩, by decide +kernel⟩
theorem kc_R_take : Cond.code Y_R_take.1 Y_R_take.2.1 Y_R_take.2.2.1 Y_R_take.2.2.2 ∈ za_tt := cy_R_take.1
theorem cv_R_take : za_CV Y_R_take := ⟨za_in 410 (by decide +kernel) rfl, za_in 411 (by decide +kernel) rfl⟩
def Y_R_firstNotBefore : za_Y := (⟨"WayFinder$Results", "firstNotBefore", "(J)I"⟩, prog_3_method_5_code, 4, (some .int))
def cd_R_firstNotBefore : List (Nat × Instr × Nat) := [(0, .iconst 0, 1), (1, .istore_n 3, 1), (2, .iload_n 3, 1), (3, .aload_n 0, 1), (4, .getfield 17, 3), (7, .if_icmp .ge 23, 3), (10, .aload_n 0, 1), (11, .getfield 11, 3), (14, .iload_n 3, 1), (15, .aaload, 1), (16, .getfield 39, 3), (19, .lload_n 1, 1), (20, .lcmp, 1), (21, .ifCond .ge 9, 3), (24, .iinc 3 1, 3), (27, .goto (-25), 3), (30, .iload_n 3, 1), (31, .ireturn, 1)]
theorem cdok_R_firstNotBefore : ∀ q ∈ cd_R_firstNotBefore, decode Y_R_firstNotBefore.2.1 q.1 = .ok q.2 := by decide +kernel
set_option maxRecDepth 20000 in
theorem cy_R_firstNotBefore : za_CY Y_R_firstNotBefore 1 := ⟨za_in 416 rfl rfl, za_in 25 (by decide +kernel) rfl, ⟨by decide, by decide⟩, by decide +kernel⟩
theorem kc_R_firstNotBefore : Cond.code Y_R_firstNotBefore.1 Y_R_firstNotBefore.2.1 Y_R_firstNotBefore.2.2.1 Y_R_firstNotBefore.2.2.2 ∈ za_tt := cy_R_firstNotBefore.1
theorem cv_R_firstNotBefore : za_CV Y_R_firstNotBefore := ⟨za_in 415 (by decide +kernel) rfl, za_in 11 (by decide +kernel) rfl⟩
def Y_R_has : za_Y := (⟨"WayFinder$Results", "has", "(I)Z"⟩, prog_3_method_3_code, 2, (some .boolean))
def cd_R_has : List (Nat × Instr × Nat) := [(0, .iload_n 1, 1), (1, .ifCond .lt 15, 3), (4, .iload_n 1, 1), (5, .aload_n 0, 1), (6, .getfield 17, 3), (9, .if_icmp .ge 7, 3), (12, .iconst 1, 1), (13, .goto 4, 3), (16, .iconst 0, 1), (17, .ireturn, 1)]
theorem cdok_R_has : ∀ q ∈ cd_R_has, decode Y_R_has.2.1 q.1 = .ok q.2 := by decide +kernel
set_option maxRecDepth 20000 in
theorem cy_R_has : za_CY Y_R_has 1 := ⟨za_in 420 rfl rfl, za_in 25 (by decide +kernel) rfl, ⟨by decide, by decide⟩, by decide +kernel⟩
theorem kc_R_has : Cond.code Y_R_has.1 Y_R_has.2.1 Y_R_has.2.2.1 Y_R_has.2.2.2 ∈ za_tt := cy_R_has.1
theorem cv_R_has : za_CV Y_R_has := ⟨za_in 418 (by decide +kernel) rfl, za_in 419 (by decide +kernel) rfl⟩
def Y_R_makeRoom : za_Y := (⟨"WayFinder$Results", "makeRoom", "(I)V"⟩, prog_3_method_6_code, 4, none)
def cd_R_makeRoom : List (Nat × Instr × Nat) := [(0, .aload_n 0, 1), (1, .getfield 11, 3), (4, .aload_n 0, 1), (5, .getfield 17, 3), (8, .aaload, 1), (9, .astore_n 2, 1), (10, .aload_n 0, 1), (11, .getfield 17, 3), (14, .istore_n 3, 1), (15, .iload_n 3, 1), (16, .iload_n 1, 1), (17, .if_icmp .le 23, 3), (20, .aload_n 0, 1), (21, .getfield 11, 3), (24, .iload_n 3, 1), (25, .aload_n 0, 1), (26, .getfield 11, 3), (29, .iload_n 3, 1), (30, .iconst 1, 1), (31, .isub, 1), (32, .aaload, 1), (33, .aastore, 1), (34, .iinc 3 (-1), 3), (37, .goto (-22), 3), (40, .aload_n 0, 1), (41, .getfield 11, 3), (44, .iload_n 1, 1), (45, .aload_n 2, 1), (46, .aastore, 1), (47, .aload_n 0, 1), (48, .dup, 1), (49, .getfield 17, 3), (52, .iconst 1, 1), (53, .iadd, 1), (54, .putfield 17, 3), (57, .return_, 1)]
theorem cdok_R_makeRoom : ∀ q ∈ cd_R_makeRoom, decode Y_R_makeRoom.2.1 q.1 = .ok q.2 := by decide +kernel
set_option maxRecDepth 20000 in
theorem cy_R_makeRoom : za_CY Y_R_makeRoom 1 := ⟨za_in 424 rfl rfl, za_in 25 (by decide +kernel) rfl, ⟨by decide, by decide⟩, by decide +kernel⟩
theorem kc_R_makeRoom : Cond.code Y_R_makeRoom.1 Y_R_makeRoom.2.1 Y_R_makeRoom.2.2.1 Y_R_makeRoom.2.2.2 ∈ za_tt := cy_R_makeRoom.1
theorem cv_R_makeRoom : za_CV Y_R_makeRoom := ⟨za_in 423 (by decide +kernel) rfl, za_in 12 (by decide +kernel) rfl⟩
def Y_W_set : za_Y := (⟨"WayFinder$Way", "set", "(LWayFinder$Trace;II)V"⟩, prog_5_method_2_code, 4, none)
def cd_W_set : List (Nat × Instr × Nat) := [(0, .aload_n 0, 1), (1, .iload_n 2, 1), (2, .putfield 9, 3), (5, .aload_n 0, 1), (6, .iload_n 3, 1), (7, .putfield 15, 3), (10, .aload_n 0, 1), (11, .aload_n 1, 1), (12, .getfield 31, 3), (15, .putfield 18, 3), (18, .aload_n 0, 1), (19, .aload_n 1, 1), (20, .getfield 34, 3), (23, .putfield 21, 3), (26, .aload_n 0, 1), (27, .aload_n 1, 1), (28, .getfield 35, 3), (31, .putfield 24, 3), (34, .aload_n 0, 1), (35, .aload_n 1, 1), (36, .getfield 36, 3), (39, .putfield 28, 3), (42, .return_, 1)]
theorem cdok_W_set : ∀ q ∈ cd_W_set, decode Y_W_set.2.1 q.1 = .ok q.2 := by decide +kernel
set_option maxRecDepth 20000 in
theorem cy_W_set : za_CY Y_W_set 3 := ⟨za_in 428 rfl rfl, za_in 26 (by decide +kernel) rfl, ⟨by decide, by decide⟩, by decide +kernel⟩
theorem kc_W_set : Cond.code Y_W_set.1 Y_W_set.2.1 Y_W_set.2.2.1 Y_W_set.2.2.2 ∈ za_tt := cy_W_set.1
theorem cv_W_set : za_CV Y_W_set := ⟨za_in 426 (by decide +kernel) rfl, za_in 427 (by decide +kernel) rfl⟩
def Y_L_way : za_Y := (⟨"WayFinderLaw", "way", "(LWayFinder;II[J)I"⟩, method_9_code, 5, (some .int))
def cd_L_way : List (Nat × Instr × Nat) := [(0, .aload_n 3, 1), (1, .iconst 0, 1), (2, .aload_n 0, 1), (3, .iload_n 1, 1), (4, .iload_n 2, 1), (5, .invokevirtual 37, 3), (8, .i2l, 1), (9, .lastore, 1), (10, .goto 11, 3), (13, .astore 4, 2), (15, .iconst 1, 1), (16, .ireturn, 1), (17, .astore 4, 2), (19, .iconst 2, 1), (20, .ireturn, 1), (21, .iconst 0, 1), (22, .ireturn, 1)]
theorem cdok_L_way : ∀ q ∈ cd_L_way, decode Y_L_way.2.1 q.1 = .ok q.2 := by decide +kernel
def hs_L_way : List (Nat × Nat × Nat × Nat) := [(0, 10, 13, 21), (0, 10, 17, 13)]
set_option maxRecDepth 20000 in
theorem kw_L_way : Cond.codeWith Y_L_way.1 Y_L_way.2.1 Y_L_way.2.2.1 Y_L_way.2.2.2 hs_L_way ∈ za_tt := za_in 431 rfl rfl
theorem cs_L_way : za_CS Y_L_way := za_in 430 (by decide +kernel) rfl
def Y_F_way : za_Y := (⟨"WayFinder", "way", "(II)I"⟩, prog_1_method_8_code, 4, (some .int))
def cd_F_way : List (Nat × Instr × Nat) := [(0, .aload_n 0, 1), (1, .getfield 29, 3), (4, .iload_n 1, 1), (5, .invokevirtual 88, 3), (8, .ifCond .ne 11, 3), (11, .new 60, 3), (14, .dup, 1), (15, .invokespecial 62, 3), (18, .athrow, 1), (19, .aload_n 0, 1), (20, .getfield 29, 3), (23, .getfield 92, 3), (26, .iload_n 1, 1), (27, .aaload, 1), (28, .astore_n 3, 1), (29, .iload_n 2, 1), (30, .tableswitch 59 0 4 #[34, 39, 44, 49, 54], 34), (64, .aload_n 3, 1), (65, .getfield 96, 3), (68, .ireturn, 1), (69, .aload_n 3, 1), (70, .getfield 101, 3), (73, .ireturn, 1), (74, .aload_n 3, 1), (75, .getfield 104, 3), (78, .ireturn, 1), (79, .aload_n 3, 1), (80, .getfield 105, 3), (83, .ireturn, 1), (84, .aload_n 3, 1), (85, .getfield 106, 3), (88, .ireturn, 1), (89, .new 47, 3), (92, .dup, 1), (93, .invokespecial 49, 3), (96, .athrow, 1)]
theorem cdok_F_way : ∀ q ∈ cd_F_way, decode Y_F_way.2.1 q.1 = .ok q.2 := by decide +kernel
set_option maxRecDepth 20000 in
theorem cy_F_way : za_CY Y_F_way 2 := ⟨za_in 435 rfl rfl, za_in 22 (by decide +kernel) rfl, ⟨by decide, by decide⟩, by decide +kernel⟩
theorem kc_F_way : Cond.code Y_F_way.1 Y_F_way.2.1 Y_F_way.2.2.1 Y_F_way.2.2.2 ∈ za_tt := cy_F_way.1
theorem cv_F_way : za_CV Y_F_way := ⟨za_in 433 (by decide +kernel) rfl, za_in 434 (by decide +kernel) rfl⟩
def Y_L_decision : za_Y := (⟨"WayFinderLaw", "decision", "(LWayFinder;II[J)I"⟩, method_10_code, 5, (some .int))
def cd_L_decision : List (Nat × Instr × Nat) := [(0, .aload_n 3, 1), (1, .iconst 0, 1), (2, .aload_n 0, 1), (3, .iload_n 1, 1), (4, .iload_n 2, 1), (5, .invokevirtual 40, 3), (8, .i2l, 1), (9, .lastore, 1), (10, .goto 7, 3), (13, .astore 4, 2), (15, .iconst 1, 1), (16, .ireturn, 1), (17, .iconst 0, 1), (18, .ireturn, 1)]
theorem cdok_L_decision : ∀ q ∈ cd_L_decision, decode Y_L_decision.2.1 q.1 = .ok q.2 := by decide +kernel
def hs_L_decision : List (Nat × Nat × Nat × Nat) := [(0, 10, 13, 21)]
set_option maxRecDepth 20000 in
theorem kw_L_decision : Cond.codeWith Y_L_decision.1 Y_L_decision.2.1 Y_L_decision.2.2.1 Y_L_decision.2.2.2 hs_L_decision ∈ za_tt := za_in 439 rfl rfl
theorem cs_L_decision : za_CS Y_L_decision := za_in 438 (by decide +kernel) rfl
def Y_F_decision : za_Y := (⟨"WayFinder", "decision", "(II)I"⟩, prog_1_method_9_code, 3, (some .int))
def cd_F_decision : List (Nat × Instr × Nat) := [(0, .aload_n 0, 1), (1, .getfield 29, 3), (4, .iload_n 1, 1), (5, .invokevirtual 88, 3), (8, .ifCond .eq 23, 3), (11, .iload_n 2, 1), (12, .ifCond .lt 19, 3), (15, .iload_n 2, 1), (16, .aload_n 0, 1), (17, .getfield 29, 3), (20, .getfield 92, 3), (23, .iload_n 1, 1), (24, .aaload, 1), (25, .getfield 106, 3), (28, .if_icmp .lt 11, 3), (31, .new 60, 3), (34, .dup, 1), (35, .invokespecial 62, 3), (38, .athrow, 1), (39, .aload_n 0, 1), (40, .getfield 29, 3), (43, .getfield 92, 3), (46, .iload_n 1, 1), (47, .aaload, 1), (48, .getfield 107, 3), (51, .iload_n 2, 1), (52, .invokestatic 111, 3), (55, .lshr, 1), (56, .l2i, 1), (57, .iconst 1, 1), (58, .iand, 1), (59, .ireturn, 1)]
theorem cdok_F_decision : ∀ q ∈ cd_F_decision, decode Y_F_decision.2.1 q.1 = .ok q.2 := by decide +kernel
set_option maxRecDepth 20000 in
theorem cy_F_decision : za_CY Y_F_decision 2 := ⟨za_in 443 rfl rfl, za_in 22 (by decide +kernel) rfl, ⟨by decide, by decide⟩, by decide +kernel⟩
theorem kc_F_decision : Cond.code Y_F_decision.1 Y_F_decision.2.1 Y_F_decision.2.2.1 Y_F_decision.2.2.2 ∈ za_tt := cy_F_decision.1
theorem cv_F_decision : za_CV Y_F_decision := ⟨za_in 441 (by decide +kernel) rfl, za_in 442 (by decide +kernel) rfl⟩
def Y_L_match : za_Y := (⟨"WayFinderLaw", "match", "(LWayFinder;II[J)I"⟩, method_11_code, 5, (some .int))
def cd_L_match : List (Nat × Instr × Nat) := [(0, .aload_n 3, 1), (1, .iconst 0, 1), (2, .aload_n 0, 1), (3, .iload_n 1, 1), (4, .iload_n 2, 1), (5, .invokevirtual 43, 3), (8, .i2l, 1), (9, .lastore, 1), (10, .goto 11, 3), (13, .astore 4, 2), (15, .iconst 1, 1), (16, .ireturn, 1), (17, .astore 4, 2), (19, .iconst 2, 1), (20, .ireturn, 1), (21, .iconst 0, 1), (22, .ireturn, 1)]
theorem cdok_L_match : ∀ q ∈ cd_L_match, decode Y_L_match.2.1 q.1 = .ok q.2 := by decide +kernel
def hs_L_match : List (Nat × Nat × Nat × Nat) := [(0, 10, 13, 13), (0, 10, 17, 21)]
set_option maxRecDepth 20000 in
theorem kw_L_match : Cond.codeWith Y_L_match.1 Y_L_match.2.1 Y_L_match.2.2.1 Y_L_match.2.2.2 hs_L_match ∈ za_tt := za_in 447 rfl rfl
theorem cs_L_match : za_CS Y_L_match := za_in 446 (by decide +kernel) rfl
def Y_F_match : za_Y := (⟨"WayFinder", "match", "(II)I"⟩, prog_1_method_10_code, 4, (some .int))
def cd_F_match : List (Nat × Instr × Nat) := [(0, .aload_n 0, 1), (1, .iload_n 1, 1), (2, .iload_n 2, 1), (3, .invokevirtual 63, 3), (6, .ifCond .ne 11, 3), (9, .new 47, 3), (12, .dup, 1), (13, .invokespecial 49, 3), (16, .athrow, 1), (17, .aload_n 0, 1), (18, .getfield 23, 3), (21, .aload_n 0, 1), (22, .getfield 10, 3), (25, .iload_n 1, 1), (26, .iload_n 2, 1), (27, .invokevirtual 67, 3), (30, .aload_n 0, 1), (31, .getfield 29, 3), (34, .aload_n 0, 1), (35, .getfield 23, 3), (38, .invokevirtual 115, 3), (41, .istore_n 3, 1), (42, .aload_n 0, 1), (43, .getfield 29, 3), (46, .iload_n 3, 1), (47, .invokevirtual 88, 3), (50, .ifCond .ne 11, 3), (53, .new 60, 3), (56, .dup, 1), (57, .invokespecial 62, 3), (60, .athrow, 1), (61, .iload_n 3, 1), (62, .ireturn, 1)]
theorem cdok_F_match : ∀ q ∈ cd_F_match, decode Y_F_match.2.1 q.1 = .ok q.2 := by decide +kernel
set_option maxRecDepth 20000 in
theorem cy_F_match : za_CY Y_F_match 2 := ⟨za_in 451 rfl rfl, za_in 22 (by decide +kernel) rfl, ⟨by decide, by decide⟩, by decide +kernel⟩
theorem kc_F_match : Cond.code Y_F_match.1 Y_F_match.2.1 Y_F_match.2.2.1 Y_F_match.2.2.2 ∈ za_tt := cy_F_match.1
theorem cv_F_match : za_CV Y_F_match := ⟨za_in 449 (by decide +kernel) rfl, za_in 450 (by decide +kernel) rfl⟩
def Y_R_firstAgreeing : za_Y := (⟨"WayFinder$Results", "firstAgreeing", "(LWayFinder$Trace;)I"⟩, prog_3_method_7_code, 3, (some .int))
def cd_R_firstAgreeing : List (Nat × Instr × Nat) := [(0, .iconst 0, 1), (1, .istore_n 2, 1), (2, .iload_n 2, 1), (3, .aload_n 0, 1), (4, .getfield 17, 3), (7, .if_icmp .ge 22, 3), (10, .aload_n 0, 1), (11, .getfield 11, 3), (14, .iload_n 2, 1), (15, .aaload, 1), (16, .aload_n 1, 1), (17, .invokevirtual 49, 3), (20, .ifCond .ne 9, 3), (23, .iinc 2 1, 3), (26, .goto (-24), 3), (29, .iload_n 2, 1), (30, .ireturn, 1)]
theorem cdok_R_firstAgreeing : ∀ q ∈ cd_R_firstAgreeing, decode Y_R_firstAgreeing.2.1 q.1 = .ok q.2 := by decide +kernel
set_option maxRecDepth 20000 in
theorem cy_R_firstAgreeing : za_CY Y_R_firstAgreeing 1 := ⟨za_in 455 rfl rfl, za_in 25 (by decide +kernel) rfl, ⟨by decide, by decide⟩, by decide +kernel⟩
theorem kc_R_firstAgreeing : Cond.code Y_R_firstAgreeing.1 Y_R_firstAgreeing.2.1 Y_R_firstAgreeing.2.2.1 Y_R_firstAgreeing.2.2.2 ∈ za_tt := cy_R_firstAgreeing.1
theorem cv_R_firstAgreeing : za_CV Y_R_firstAgreeing := ⟨za_in 453 (by decide +kernel) rfl, za_in 454 (by decide +kernel) rfl⟩
def Y_W_agreesWith : za_Y := (⟨"WayFinder$Way", "agreesWith", "(LWayFinder$Trace;)Z"⟩, prog_5_method_3_code, 3, (some .boolean))
def cd_W_agreesWith : List (Nat × Instr × Nat) := [(0, .bipush 40, 2), (2, .aload_n 1, 1), (3, .getfield 36, 3), (6, .isub, 1), (7, .istore_n 2, 1), (8, .aload_n 0, 1), (9, .getfield 28, 3), (12, .aload_n 1, 1), (13, .getfield 36, 3), (16, .if_icmp .lt 23, 3), (19, .aload_n 0, 1), (20, .getfield 24, 3), (23, .iload_n 2, 1), (24, .lshr, 1), (25, .aload_n 1, 1), (26, .getfield 35, 3), (29, .iload_n 2, 1), (30, .lshr, 1), (31, .lcmp, 1), (32, .ifCond .ne 7, 3), (35, .iconst 1, 1), (36, .goto 4, 3), (39, .iconst 0, 1), (40, .ireturn, 1)]
theorem cdok_W_agreesWith : ∀ q ∈ cd_W_agreesWith, decode Y_W_agreesWith.2.1 q.1 = .ok q.2 := by decide +kernel
set_option maxRecDepth 20000 in
theorem cy_W_agreesWith : za_CY Y_W_agreesWith 1 := ⟨za_in 459 rfl rfl, za_in 26 (by decide +kernel) rfl, ⟨by decide, by decide⟩, by decide +kernel⟩
theorem kc_W_agreesWith : Cond.code Y_W_agreesWith.1 Y_W_agreesWith.2.1 Y_W_agreesWith.2.2.1 Y_W_agreesWith.2.2.2 ∈ za_tt := cy_W_agreesWith.1
theorem cv_W_agreesWith : za_CV Y_W_agreesWith := ⟨za_in 457 (by decide +kernel) rfl, za_in 458 (by decide +kernel) rfl⟩
def Y_L_example : za_Y := (⟨"WayFinderLaw", "example", "(LWayFinder;I[J)I"⟩, method_12_code, 4, (some .int))
def cd_L_example : List (Nat × Instr × Nat) := [(0, .aload_n 2, 1), (1, .iconst 0, 1), (2, .aload_n 0, 1), (3, .iload_n 1, 1), (4, .invokevirtual 46, 3), (7, .i2l, 1), (8, .lastore, 1), (9, .goto 9, 3), (12, .astore_n 3, 1), (13, .iconst 1, 1), (14, .ireturn, 1), (15, .astore_n 3, 1), (16, .iconst 2, 1), (17, .ireturn, 1), (18, .iconst 0, 1), (19, .ireturn, 1)]
theorem cdok_L_example : ∀ q ∈ cd_L_example, decode Y_L_example.2.1 q.1 = .ok q.2 := by decide +kernel
def hs_L_example : List (Nat × Nat × Nat × Nat) := [(0, 9, 12, 13), (0, 9, 15, 21)]
set_option maxRecDepth 20000 in
theorem kw_L_example : Cond.codeWith Y_L_example.1 Y_L_example.2.1 Y_L_example.2.2.1 Y_L_example.2.2.2 hs_L_example ∈ za_tt := za_in 462 rfl rfl
theorem cs_L_example : za_CS Y_L_example := za_in 461 (by decide +kernel) rfl
def Y_F_example : za_Y := (⟨"WayFinder", "example", "(I)I"⟩, prog_1_method_11_code, 3, (some .int))
def cd_F_example : List (Nat × Instr × Nat) := [(0, .iload_n 1, 1), (1, .ifCond .lt 8, 3), (4, .iload_n 1, 1), (5, .iconst 3, 1), (6, .if_icmp .le 11, 3), (9, .new 47, 3), (12, .dup, 1), (13, .invokespecial 49, 3), (16, .athrow, 1), (17, .aload_n 0, 1), (18, .getfield 29, 3), (21, .iload_n 1, 1), (22, .invokevirtual 119, 3), (25, .istore_n 2, 1), (26, .iload_n 2, 1), (27, .sipush 256, 3), (30, .if_icmp .ne 11, 3), (33, .new 60, 3), (36, .dup, 1), (37, .invokespecial 62, 3), (40, .athrow, 1), (41, .iload_n 2, 1), (42, .ireturn, 1)]
theorem cdok_F_example : ∀ q ∈ cd_F_example, decode Y_F_example.2.1 q.1 = .ok q.2 := by decide +kernel
set_option maxRecDepth 20000 in
theorem cy_F_example : za_CY Y_F_example 1 := ⟨za_in 466 rfl rfl, za_in 22 (by decide +kernel) rfl, ⟨by decide, by decide⟩, by decide +kernel⟩
theorem kc_F_example : Cond.code Y_F_example.1 Y_F_example.2.1 Y_F_example.2.2.1 Y_F_example.2.2.2 ∈ za_tt := cy_F_example.1
theorem cv_F_example : za_CV Y_F_example := ⟨za_in 464 (by decide +kernel) rfl, za_in 465 (by decide +kernel) rfl⟩
def Y_R_leastInputs : za_Y := (⟨"WayFinder$Results", "leastInputs", "(I)I"⟩, prog_3_method_8_code, 4, (some .int))
def cd_R_leastInputs : List (Nat × Instr × Nat) := [(0, .sipush 256, 3), (3, .istore_n 2, 1), (4, .iconst 0, 1), (5, .istore_n 3, 1), (6, .iload_n 3, 1), (7, .aload_n 0, 1), (8, .getfield 17, 3), (11, .if_icmp .ge 48, 3), (14, .aload_n 0, 1), (15, .getfield 11, 3), (18, .iload_n 3, 1), (19, .aaload, 1), (20, .getfield 53, 3), (23, .iload_n 1, 1), (24, .if_icmp .ne 29, 3), (27, .iload_n 2, 1), (28, .aload_n 0, 1), (29, .getfield 11, 3), (32, .iload_n 3, 1), (33, .aaload, 1), (34, .getfield 56, 3), (37, .iconst 4, 1), (38, .ishl, 1), (39, .aload_n 0, 1), (40, .getfield 11, 3), (43, .iload_n 3, 1), (44, .aaload, 1), (45, .getfield 59, 3), (48, .iadd, 1), (49, .invokestatic 62, 3), (52, .istore_n 2, 1), (53, .iinc 3 1, 3), (56, .goto (-50), 3), (59, .iload_n 2, 1), (60, .ireturn, 1)]
theorem cdok_R_leastInputs : ∀ q ∈ cd_R_leastInputs, decode Y_R_leastInputs.2.1 q.1 = .ok q.2 := by decide +kernel
set_option maxRecDepth 20000 in
theorem cy_R_leastInputs : za_CY Y_R_leastInputs 1 := ⟨za_in 470 rfl rfl, za_in 25 (by decide +kernel) rfl, ⟨by decide, by decide⟩, by decide +kernel⟩
theorem kc_R_leastInputs : Cond.code Y_R_leastInputs.1 Y_R_leastInputs.2.1 Y_R_leastInputs.2.2.1 Y_R_leastInputs.2.2.2 ∈ za_tt := cy_R_leastInputs.1
theorem cv_R_leastInputs : za_CV Y_R_leastInputs := ⟨za_in 468 (by decide +kernel) rfl, za_in 469 (by decide +kernel) rfl⟩
def Y_L_count : za_Y := (⟨"WayFinderLaw", "count", "(LWayFinder;I[J)I"⟩, method_13_code, 4, (some .int))
def cd_L_count : List (Nat × Instr × Nat) := [(0, .aload_n 2, 1), (1, .iconst 0, 1), (2, .aload_n 0, 1), (3, .iload_n 1, 1), (4, .invokevirtual 49, 3), (7, .i2l, 1), (8, .lastore, 1), (9, .goto 6, 3), (12, .astore_n 3, 1), (13, .iconst 1, 1), (14, .ireturn, 1), (15, .iconst 0, 1), (16, .ireturn, 1)]
theorem cdok_L_count : ∀ q ∈ cd_L_count, decode Y_L_count.2.1 q.1 = .ok q.2 := by decide +kernel
def hs_L_count : List (Nat × Nat × Nat × Nat) := [(0, 9, 12, 13)]
set_option maxRecDepth 20000 in
theorem kw_L_count : Cond.codeWith Y_L_count.1 Y_L_count.2.1 Y_L_count.2.2.1 Y_L_count.2.2.2 hs_L_count ∈ za_tt := za_in 476 rfl rfl
theorem cs_L_count : za_CS Y_L_count := za_in 475 (by decide +kernel) rfl
def Y_F_count : za_Y := (⟨"WayFinder", "count", "(I)I"⟩, prog_1_method_13_code, 2, (some .int))
def cd_F_count : List (Nat × Instr × Nat) := [(0, .iload_n 1, 1), (1, .tableswitch 57 0 3 #[31, 39, 44, 52], 31), (32, .aload_n 0, 1), (33, .getfield 10, 3), (36, .getfield 50, 3), (39, .ireturn, 1), (40, .aload_n 0, 1), (41, .getfield 36, 3), (44, .ireturn, 1), (45, .aload_n 0, 1), (46, .getfield 29, 3), (49, .getfield 87, 3), (52, .ireturn, 1), (53, .aload_n 0, 1), (54, .getfield 40, 3), (57, .ireturn, 1), (58, .new 47, 3), (61, .dup, 1), (62, .invokespecial 49, 3), (65, .athrow, 1)]
theorem cdok_F_count : ∀ q ∈ cd_F_count, decode Y_F_count.2.1 q.1 = .ok q.2 := by decide +kernel
set_option maxRecDepth 20000 in
theorem cy_F_count : za_CY Y_F_count 1 := ⟨za_in 480 rfl rfl, za_in 22 (by decide +kernel) rfl, ⟨by decide, by decide⟩, by decide +kernel⟩
theorem kc_F_count : Cond.code Y_F_count.1 Y_F_count.2.1 Y_F_count.2.2.1 Y_F_count.2.2.2 ∈ za_tt := cy_F_count.1
theorem cv_F_count : za_CV Y_F_count := ⟨za_in 478 (by decide +kernel) rfl, za_in 479 (by decide +kernel) rfl⟩
def Y_M_init : za_Y := (⟨"WayFinderModel", "<init>", "()V"⟩, prog_7_method_1_code, 1, none)
def cd_M_init : List (Nat × Instr × Nat) := [(0, .aload_n 0, 1), (1, .invokespecial 1, 3), (4, .aload_n 0, 1), (5, .bipush 24, 2), (7, .newarray .int, 2), (9, .putfield 7, 3), (12, .aload_n 0, 1), (13, .bipush 24, 2), (15, .newarray .int, 2), (17, .putfield 13, 3), (20, .aload_n 0, 1), (21, .bipush 24, 2), (23, .newarray .int, 2), (25, .putfield 16, 3), (28, .aload_n 0, 1), (29, .bipush 24, 2), (31, .newarray .int, 2), (33, .putfield 19, 3), (36, .aload_n 0, 1), (37, .iconst 3, 1), (38, .putfield 22, 3), (41, .aload_n 0, 1), (42, .iconst 4, 1), (43, .newarray .int, 2), (45, .putfield 26, 3), (48, .aload_n 0, 1), (49, .bipush 65, 2), (51, .newarray .long, 2), (53, .putfield 29, 3), (56, .aload_n 0, 1), (57, .bipush 65, 2), (59, .newarray .int, 2), (61, .putfield 33, 3), (64, .aload_n 0, 1), (65, .bipush 65, 2), (67, .newarray .int, 2), (69, .putfield 36, 3), (72, .aload_n 0, 1), (73, .bipush 65, 2), (75, .newarray .int, 2), (77, .putfield 39, 3), (80, .aload_n 0, 1), (81, .bipush 65, 2), (83, .newarray .int, 2), (85, .putfield 42, 3), (88, .aload_n 0, 1), (89, .bipush 65, 2), (91, .newarray .int, 2), (93, .putfield 45, 3), (96, .aload_n 0, 1), (97, .bipush 64, 2), (99, .newarray .long, 2), (101, .putfield 48, 3), (104, .aload_n 0, 1), (105, .bipush 64, 2), (107, .newarray .int, 2), (109, .putfield 51, 3), (112, .aload_n 0, 1), (113, .bipush 64, 2), (115, .newarray .int, 2), (117, .putfield 54, 3), (120, .aload_n 0, 1), (121, .bipush 64, 2), (123, .newarray .int, 2), (125, .putfield 57, 3), (128, .aload_n 0, 1), (129, .bipush 64, 2), (131, .newarray .int, 2), (133, .putfield 60, 3), (136, .return_, 1)]
theorem cdok_M_init : ∀ q ∈ cd_M_init, decode Y_M_init.2.1 q.1 = .ok q.2 := by decide +kernel
set_option maxRecDepth 20000 in
theorem cy_M_init : za_CY Y_M_init 0 := ⟨za_in 485 rfl rfl, za_in 27 (by decide +kernel) rfl, ⟨by decide, by decide⟩, by decide +kernel⟩
theorem kc_M_init : Cond.code Y_M_init.1 Y_M_init.2.1 Y_M_init.2.2.1 Y_M_init.2.2.2 ∈ za_tt := cy_M_init.1
theorem ci_M_init : za_CI Y_M_init := ⟨za_in 484 (by decide +kernel) rfl, rfl, rfl⟩
def Y_M_thrown : za_Y := (⟨"WayFinderModel", "thrown", "()I"⟩, prog_7_method_2_code, 1, (some .int))
def cd_M_thrown : List (Nat × Instr × Nat) := [(0, .aload_n 0, 1), (1, .getfield 63, 3), (4, .ireturn, 1)]
theorem cdok_M_thrown : ∀ q ∈ cd_M_thrown, decode Y_M_thrown.2.1 q.1 = .ok q.2 := by decide +kernel
set_option maxRecDepth 20000 in
theorem cy_M_thrown : za_CY Y_M_thrown 0 := ⟨za_in 588 rfl rfl, za_in 27 (by decide +kernel) rfl, ⟨by decide, by decide⟩, by decide +kernel⟩
theorem kc_M_thrown : Cond.code Y_M_thrown.1 Y_M_thrown.2.1 Y_M_thrown.2.2.1 Y_M_thrown.2.2.2 ∈ za_tt := cy_M_thrown.1
theorem cv_M_thrown : za_CV Y_M_thrown := ⟨za_in 586 (by decide +kernel) rfl, za_in 587 (by decide +kernel) rfl⟩
def Y_M_instr : za_Y := (⟨"WayFinderModel", "instr", "(IIII)I"⟩, prog_7_method_6_code, 5, (some .int))
def cd_M_instr : List (Nat × Instr × Nat) := [(0, .aload_n 0, 1), (1, .iconst 0, 1), (2, .putfield 63, 3), (5, .iload_n 1, 1), (6, .iload_n 2, 1), (7, .iload_n 3, 1), (8, .iload 4, 2), (10, .invokestatic 70, 3), (13, .ifCond .ne 9, 3), (16, .aload_n 0, 1), (17, .iconst 1, 1), (18, .invokevirtual 74, 3), (21, .ireturn, 1), (22, .aload_n 0, 1), (23, .getfield 78, 3), (26, .bipush 24, 2), (28, .if_icmp .ne 9, 3), (31, .aload_n 0, 1), (32, .iconst 2, 1), (33, .invokevirtual 74, 3), (36, .ireturn, 1), (37, .aload_n 0, 1), (38, .getfield 7, 3), (41, .aload_n 0, 1), (42, .getfield 78, 3), (45, .iload_n 1, 1), (46, .iastore, 1), (47, .aload_n 0, 1), (48, .getfield 13, 3), (51, .aload_n 0, 1), (52, .getfield 78, 3), (55, .iload_n 2, 1), (56, .iastore, 1), (57, .aload_n 0, 1), (58, .getfield 16, 3), (61, .aload_n 0, 1), (62, .getfield 78, 3), (65, .iload_n 3, 1), (66, .iastore, 1), (67, .aload_n 0, 1), (68, .getfield 19, 3), (71, .aload_n 0, 1), (72, .getfield 78, 3), (75, .iload 4, 2), (77, .iastore, 1), (78, .aload_n 0, 1), (79, .dup, 1), (80, .getfield 78, 3), (83, .iconst 1, 1), (84, .iadd, 1), (85, .putfield 78, 3), (88, .aload_n 0, 1), (89, .getfield 78, 3), (92, .ireturn, 1)]
theorem cdok_M_instr : ∀ q ∈ cd_M_instr, decode Y_M_instr.2.1 q.1 = .ok q.2 := by decide +kernel
set_option maxRecDepth 20000 in
theorem cy_M_instr : za_CY Y_M_instr 4 := ⟨za_in 592 rfl rfl, za_in 27 (by decide +kernel) rfl, ⟨by decide, by decide⟩, by decide +kernel⟩
theorem kc_M_instr : Cond.code Y_M_instr.1 Y_M_instr.2.1 Y_M_instr.2.2.1 Y_M_instr.2.2.2 ∈ za_tt := cy_M_instr.1
theorem cv_M_instr : za_CV Y_M_instr := ⟨za_in 590 (by decide +kernel) rfl, za_in 591 (by decide +kernel) rfl⟩
def Y_M_fits : za_Y := (⟨"WayFinderModel", "fits", "(IIII)Z"⟩, prog_7_method_5_code, 4, (some .boolean))
def cd_M_fits : List (Nat × Instr × Nat) := [(0, .iload_n 0, 1), (1, .iconst 0, 1), (2, .bipush 13, 2), (4, .invokestatic 66, 3), (7, .ifCond .eq 18, 3), (10, .iload_n 0, 1), (11, .bipush 10, 2), (13, .if_icmp .eq 14, 3), (16, .iload_n 1, 1), (17, .iconst 0, 1), (18, .iconst 3, 1), (19, .invokestatic 66, 3), (22, .ifCond .ne 5, 3), (25, .iconst 0, 1), (26, .ireturn, 1), (27, .iload_n 0, 1), (28, .iconst 1, 1), (29, .bipush 9, 2), (31, .invokestatic 66, 3), (34, .ifCond .ne 9, 3), (37, .iload_n 0, 1), (38, .bipush 11, 2), (40, .if_icmp .ne 12, 3), (43, .iload_n 2, 1), (44, .iconst 0, 1), (45, .iconst 3, 1), (46, .invokestatic 66, 3), (49, .ifCond .eq 18, 3), (52, .iload_n 0, 1), (53, .ifCond .ne 16, 3), (56, .iload_n 2, 1), (57, .iconst 0, 1), (58, .sipush 255, 3), (61, .invokestatic 66, 3), (64, .ifCond .ne 5, 3), (67, .iconst 0, 1), (68, .ireturn, 1), (69, .iload_n 0, 1), (70, .iconst 1, 1), (71, .bipush 6, 2), (73, .invokestatic 66, 3), (76, .ifCond .ne 9, 3), (79, .iload_n 0, 1), (80, .bipush 11, 2), (82, .if_icmp .ne 12, 3), (85, .iload_n 3, 1), (86, .iconst 0, 1), (87, .iconst 3, 1), (88, .invokestatic 66, 3), (91, .ifCond .eq 19, 3), (94, .iload_n 0, 1), (95, .bipush 7, 2), (97, .if_icmp .ne 15, 3), (100, .iload_n 3, 1), (101, .iconst 0, 1), (102, .bipush 7, 2), (104, .invokestatic 66, 3), (107, .ifCond .ne 5, 3), (110, .iconst 0, 1), (111, .ireturn, 1), (112, .iload_n 0, 1), (113, .bipush 8, 2), (115, .bipush 10, 2), (117, .invokestatic 66, 3), (120, .ifCond .eq 13, 3), (123, .iload_n 3, 1), (124, .iconst 0, 1), (125, .bipush 24, 2), (127, .invokestatic 66, 3), (130, .ifCond .eq 7, 3), (133, .iconst 1, 1), (134, .goto 4, 3), (137, .iconst 0, 1), (138, .ireturn, 1)]
theorem cdok_M_fits : ∀ q ∈ cd_M_fits, decode Y_M_fits.2.1 q.1 = .ok q.2 := by decide +kernel
set_option maxRecDepth 20000 in
theorem cy_M_fits : za_CY Y_M_fits 4 := ⟨za_in 595 rfl rfl, za_in 27 (by decide +kernel) rfl, ⟨by decide, by decide⟩, by decide +kernel⟩
theorem kc_M_fits : Cond.code Y_M_fits.1 Y_M_fits.2.1 Y_M_fits.2.2.1 Y_M_fits.2.2.2 ∈ za_tt := cy_M_fits.1
theorem cs_M_fits : za_CS Y_M_fits := za_in 594 (by decide +kernel) rfl
def Y_M_in : za_Y := (⟨"WayFinderModel", "in", "(III)Z"⟩, prog_7_method_4_code, 3, (some .boolean))
def cd_M_in : List (Nat × Instr × Nat) := [(0, .iload_n 0, 1), (1, .iload_n 1, 1), (2, .if_icmp .lt 12, 3), (5, .iload_n 0, 1), (6, .iload_n 2, 1), (7, .if_icmp .gt 7, 3), (10, .iconst 1, 1), (11, .goto 4, 3), (14, .iconst 0, 1), (15, .ireturn, 1)]
theorem cdok_M_in : ∀ q ∈ cd_M_in, decode Y_M_in.2.1 q.1 = .ok q.2 := by decide +kernel
set_option maxRecDepth 20000 in
theorem cy_M_in : za_CY Y_M_in 3 := ⟨za_in 598 rfl rfl, za_in 27 (by decide +kernel) rfl, ⟨by decide, by decide⟩, by decide +kernel⟩
theorem kc_M_in : Cond.code Y_M_in.1 Y_M_in.2.1 Y_M_in.2.2.1 Y_M_in.2.2.2 ∈ za_tt := cy_M_in.1
theorem cs_M_in : za_CS Y_M_in := za_in 597 (by decide +kernel) rfl
def Y_M_raise : za_Y := (⟨"WayFinderModel", "raise", "(I)I"⟩, prog_7_method_3_code, 2, (some .int))
def cd_M_raise : List (Nat × Instr × Nat) := [(0, .aload_n 0, 1), (1, .iload_n 1, 1), (2, .putfield 63, 3), (5, .iconst 0, 1), (6, .ireturn, 1)]
theorem cdok_M_raise : ∀ q ∈ cd_M_raise, decode Y_M_raise.2.1 q.1 = .ok q.2 := by decide +kernel
set_option maxRecDepth 20000 in
theorem cy_M_raise : za_CY Y_M_raise 1 := ⟨za_in 602 rfl rfl, za_in 27 (by decide +kernel) rfl, ⟨by decide, by decide⟩, by decide +kernel⟩
theorem kc_M_raise : Cond.code Y_M_raise.1 Y_M_raise.2.1 Y_M_raise.2.2.1 Y_M_raise.2.2.2 ∈ za_tt := cy_M_raise.1
theorem cv_M_raise : za_CV Y_M_raise := ⟨za_in 601 (by decide +kernel) rfl, za_in 13 (by decide +kernel) rfl⟩
def Y_M_undo : za_Y := (⟨"WayFinderModel", "undo", "()I"⟩, prog_7_method_7_code, 1, (some .int))
def cd_M_undo : List (Nat × Instr × Nat) := [(0, .aload_n 0, 1), (1, .iconst 0, 1), (2, .putfield 63, 3), (5, .aload_n 0, 1), (6, .getfield 78, 3), (9, .ifCond .ne 9, 3), (12, .aload_n 0, 1), (13, .iconst 1, 1), (14, .invokevirtual 74, 3), (17, .ireturn, 1), (18, .aload_n 0, 1), (19, .dup, 1), (20, .getfield 78, 3), (23, .iconst 1, 1), (24, .isub, 1), (25, .putfield 78, 3), (28, .aload_n 0, 1), (29, .getfield 78, 3), (32, .ireturn, 1)]
theorem cdok_M_undo : ∀ q ∈ cd_M_undo, decode Y_M_undo.2.1 q.1 = .ok q.2 := by decide +kernel
set_option maxRecDepth 20000 in
theorem cy_M_undo : za_CY Y_M_undo 0 := ⟨za_in 606 rfl rfl, za_in 27 (by decide +kernel) rfl, ⟨by decide, by decide⟩, by decide +kernel⟩
theorem kc_M_undo : Cond.code Y_M_undo.1 Y_M_undo.2.1 Y_M_undo.2.2.1 Y_M_undo.2.2.2 ∈ za_tt := cy_M_undo.1
theorem cv_M_undo : za_CV Y_M_undo := ⟨za_in 604 (by decide +kernel) rfl, za_in 605 (by decide +kernel) rfl⟩
def Y_M_width : za_Y := (⟨"WayFinderModel", "width", "(I)I"⟩, prog_7_method_8_code, 3, (some .int))
def cd_M_width : List (Nat × Instr × Nat) := [(0, .aload_n 0, 1), (1, .iconst 0, 1), (2, .putfield 63, 3), (5, .iload_n 1, 1), (6, .iconst 1, 1), (7, .iconst 4, 1), (8, .invokestatic 66, 3), (11, .ifCond .ne 9, 3), (14, .aload_n 0, 1), (15, .iconst 1, 1), (16, .invokevirtual 74, 3), (19, .ireturn, 1), (20, .aload_n 0, 1), (21, .getfield 22, 3), (24, .istore_n 2, 1), (25, .aload_n 0, 1), (26, .iload_n 1, 1), (27, .putfield 22, 3), (30, .iload_n 2, 1), (31, .ireturn, 1)]
theorem cdok_M_width : ∀ q ∈ cd_M_width, decode Y_M_width.2.1 q.1 = .ok q.2 := by decide +kernel
set_option maxRecDepth 20000 in
theorem cy_M_width : za_CY Y_M_width 1 := ⟨za_in 610 rfl rfl, za_in 27 (by decide +kernel) rfl, ⟨by decide, by decide⟩, by decide +kernel⟩
theorem kc_M_width : Cond.code Y_M_width.1 Y_M_width.2.1 Y_M_width.2.2.1 Y_M_width.2.2.2 ∈ za_tt := cy_M_width.1
theorem cv_M_width : za_CV Y_M_width := ⟨za_in 608 (by decide +kernel) rfl, za_in 609 (by decide +kernel) rfl⟩
def Y_M_run : za_Y := (⟨"WayFinderModel", "run", "(II)I"⟩, prog_7_method_15_code, 3, (some .int))
def cd_M_run : List (Nat × Instr × Nat) := [(0, .aload_n 0, 1), (1, .iconst 0, 1), (2, .putfield 63, 3), (5, .aload_n 0, 1), (6, .iload_n 1, 1), (7, .invokevirtual 115, 3), (10, .ifCond .eq 11, 3), (13, .aload_n 0, 1), (14, .iload_n 2, 1), (15, .invokevirtual 115, 3), (18, .ifCond .ne 9, 3), (21, .aload_n 0, 1), (22, .iconst 1, 1), (23, .invokevirtual 74, 3), (26, .ireturn, 1), (27, .aload_n 0, 1), (28, .iload_n 1, 1), (29, .iload_n 2, 1), (30, .invokevirtual 119, 3), (33, .aload_n 0, 1), (34, .dup, 1), (35, .getfield 122, 3), (38, .iconst 1, 1), (39, .iadd, 1), (40, .putfield 122, 3), (43, .aload_n 0, 1), (44, .aload_n 0, 1), (45, .getfield 91, 3), (48, .putfield 125, 3), (51, .aload_n 0, 1), (52, .aload_n 0, 1), (53, .getfield 106, 3), (56, .putfield 128, 3), (59, .aload_n 0, 1), (60, .aload_n 0, 1), (61, .getfield 85, 3), (64, .putfield 131, 3), (67, .aload_n 0, 1), (68, .getfield 88, 3), (71, .ireturn, 1)]
theorem cdok_M_run : ∀ q ∈ cd_M_run, decode Y_M_run.2.1 q.1 = .ok q.2 := by decide +kernel
set_option maxRecDepth 20000 in
theorem cy_M_run : za_CY Y_M_run 2 := ⟨za_in 614 rfl rfl, za_in 27 (by decide +kernel) rfl, ⟨by decide, by decide⟩, by decide +kernel⟩
theorem kc_M_run : Cond.code Y_M_run.1 Y_M_run.2.1 Y_M_run.2.2.1 Y_M_run.2.2.2 ∈ za_tt := cy_M_run.1
theorem cv_M_run : za_CV Y_M_run := ⟨za_in 612 (by decide +kernel) rfl, za_in 613 (by decide +kernel) rfl⟩
def Y_M_isInput : za_Y := (⟨"WayFinderModel", "isInput", "(I)Z"⟩, prog_7_method_14_code, 2, (some .boolean))
def cd_M_isInput : List (Nat × Instr × Nat) := [(0, .iload_n 1, 1), (1, .iconst 0, 1), (2, .iconst 1, 1), (3, .aload_n 0, 1), (4, .getfield 22, 3), (7, .ishl, 1), (8, .iconst 1, 1), (9, .isub, 1), (10, .invokestatic 66, 3), (13, .ireturn, 1)]
theorem cdok_M_isInput : ∀ q ∈ cd_M_isInput, decode Y_M_isInput.2.1 q.1 = .ok q.2 := by decide +kernel
set_option maxRecDepth 20000 in
theorem cy_M_isInput : za_CY Y_M_isInput 1 := ⟨za_in 618 rfl rfl, za_in 27 (by decide +kernel) rfl, ⟨by decide, by decide⟩, by decide +kernel⟩
theorem kc_M_isInput : Cond.code Y_M_isInput.1 Y_M_isInput.2.1 Y_M_isInput.2.2.1 Y_M_isInput.2.2.2 ∈ za_tt := cy_M_isInput.1
theorem cv_M_isInput : za_CV Y_M_isInput := ⟨za_in 617 (by decide +kernel) rfl, za_in 14 (by decide +kernel) rfl⟩
def Y_M_go : za_Y := (⟨"WayFinderModel", "go", "(II)V"⟩, prog_7_method_13_code, 5, none)
def cd_M_go : List (Nat × Instr × Nat) := [(0, .aload_n 0, 1), (1, .getfield 26, 3), (4, .iconst 0, 1), (5, .iload_n 1, 1), (6, .iastore, 1), (7, .aload_n 0, 1), (8, .getfield 26, 3), (11, .iconst 1, 1), (12, .iload_n 2, 1), (13, .iastore, 1), (14, .aload_n 0, 1), (15, .getfield 26, 3), (18, .iconst 2, 1), (19, .iconst 0, 1), (20, .iastore, 1), (21, .aload_n 0, 1), (22, .getfield 26, 3), (25, .iconst 3, 1), (26, .iconst 0, 1), (27, .iastore, 1), (28, .aload_n 0, 1), (29, .iconst 0, 1), (30, .putfield 106, 3), (33, .aload_n 0, 1), (34, .iconst 0, 1), (35, .putfield 109, 3), (38, .aload_n 0, 1), (39, .lconst 0, 1), (40, .putfield 81, 3), (43, .aload_n 0, 1), (44, .iconst 0, 1), (45, .putfield 85, 3), (48, .iconst 0, 1), (49, .istore_n 3, 1), (50, .iconst 0, 1), (51, .istore 4, 2), (53, .iload_n 3, 1), (54, .ifCond .lt 54, 3), (57, .iload_n 3, 1), (58, .aload_n 0, 1), (59, .getfield 78, 3), (62, .if_icmp .ge 46, 3), (65, .aload_n 0, 1), (66, .getfield 106, 3), (69, .bipush 40, 2), (71, .if_icmp .ge 37, 3), (74, .iload_n 3, 1), (75, .istore 4, 2), (77, .aload_n 0, 1), (78, .dup, 1), (79, .getfield 109, 3), (82, .iconst 1, 1), (83, .iload_n 3, 1), (84, .ishl, 1), (85, .ior, 1), (86, .putfield 109, 3), (89, .aload_n 0, 1), (90, .dup, 1), (91, .getfield 106, 3), (94, .iconst 1, 1), (95, .iadd, 1), (96, .putfield 106, 3), (99, .aload_n 0, 1), (100, .iload_n 3, 1), (101, .invokevirtual 112, 3), (104, .istore_n 3, 1), (105, .goto (-52), 3), (108, .iload_n 3, 1), (109, .ifCond .lt 39, 3), (112, .aload_n 0, 1), (113, .iload_n 3, 1), (114, .aload_n 0, 1), (115, .getfield 78, 3), (118, .if_icmp .ge 7, 3), (121, .iconst 3, 1), (122, .goto 4, 3), (125, .iconst 0, 1), (126, .iload_n 3, 1), (127, .aload_n 0, 1), (128, .getfield 78, 3), (131, .if_icmp .ge 8, 3), (134, .iload 4, 2), (136, .goto 9, 3), (139, .aload_n 0, 1), (140, .getfield 26, 3), (143, .iconst 0, 1), (144, .iaload, 1), (145, .invokevirtual 98, 3), (148, .return_, 1)]
theorem cdok_M_go : ∀ q ∈ cd_M_go, decode Y_M_go.2.1 q.1 = .ok q.2 := by decide +kernel
set_option maxRecDepth 20000 in
theorem cy_M_go : za_CY Y_M_go 2 := ⟨za_in 622 rfl rfl, za_in 27 (by decide +kernel) rfl, ⟨by decide, by decide⟩, by decide +kernel⟩
theorem kc_M_go : Cond.code Y_M_go.1 Y_M_go.2.1 Y_M_go.2.2.1 Y_M_go.2.2.2 ∈ za_tt := cy_M_go.1
theorem cv_M_go : za_CV Y_M_go := ⟨za_in 621 (by decide +kernel) rfl, za_in 15 (by decide +kernel) rfl⟩
def Y_M_perform : za_Y := (⟨"WayFinderModel", "perform", "(I)I"⟩, prog_7_method_12_code, 4, (some .int))
def cd_M_perform : List (Nat × Instr × Nat) := [(0, .aload_n 0, 1), (1, .getfield 13, 3), (4, .iload_n 1, 1), (5, .iaload, 1), (6, .istore_n 2, 1), (7, .aload_n 0, 1), (8, .getfield 7, 3), (11, .iload_n 1, 1), (12, .iaload, 1), (13, .istore_n 3, 1), (14, .iload_n 3, 1), (15, .tableswitch 295 0 13 #[69, 295, 295, 295, 295, 295, 295, 295, 85, 130, 175, 182, 249, 282], 69), (84, .aload_n 0, 1), (85, .getfield 26, 3), (88, .iload_n 2, 1), (89, .aload_n 0, 1), (90, .getfield 16, 3), (93, .iload_n 1, 1), (94, .iaload, 1), (95, .iastore, 1), (96, .iload_n 1, 1), (97, .iconst 1, 1), (98, .iadd, 1), (99, .ireturn, 1), (100, .aload_n 0, 1), (101, .aload_n 0, 1), (102, .getfield 26, 3), (105, .iload_n 2, 1), (106, .iaload, 1), (107, .aload_n 0, 1), (108, .getfield 26, 3), (111, .aload_n 0, 1), (112, .getfield 16, 3), (115, .iload_n 1, 1), (116, .iaload, 1), (117, .iaload, 1), (118, .if_icmp .ge 7, 3), (121, .iconst 1, 1), (122, .goto 4, 3), (125, .iconst 0, 1), (126, .invokevirtual 94, 3), (129, .ifCond .eq 12, 3), (132, .aload_n 0, 1), (133, .getfield 19, 3), (136, .iload_n 1, 1), (137, .iaload, 1), (138, .goto 6, 3), (141, .iload_n 1, 1), (142, .iconst 1, 1), (143, .iadd, 1), (144, .ireturn, 1), (145, .aload_n 0, 1), (146, .aload_n 0, 1), (147, .getfield 26, 3), (150, .iload_n 2, 1), (151, .iaload, 1), (152, .aload_n 0, 1), (153, .getfield 26, 3), (156, .aload_n 0, 1), (157, .getfield 16, 3), (160, .iload_n 1, 1), (161, .iaload, 1), (162, .iaload, 1), (163, .if_icmp .ne 7, 3), (166, .iconst 1, 1), (167, .goto 4, 3), (170, .iconst 0, 1), (171, .invokevirtual 94, 3), (174, .ifCond .eq 12, 3), (177, .aload_n 0, 1), (178, .getfield 19, 3), (181, .iload_n 1, 1), (182, .iaload, 1), (183, .goto 6, 3), (186, .iload_n 1, 1), (187, .iconst 1, 1), (188, .iadd, 1), (189, .ireturn, 1), (190, .aload_n 0, 1), (191, .getfield 19, 3), (194, .iload_n 1, 1), (195, .iaload, 1), (196, .ireturn, 1), (197, .aload_n 0, 1), (198, .aload_n 0, 1), (199, .getfield 26, 3), (202, .aload_n 0, 1), (203, .getfield 19, 3), (206, .iload_n 1, 1), (207, .iaload, 1), (208, .iaload, 1), (209, .ifCond .ne 7, 3), (212, .iconst 1, 1), (213, .goto 4, 3), (216, .iconst 0, 1), (217, .invokevirtual 94, 3), (220, .ifCond .eq 11, 3), (223, .aload_n 0, 1), (224, .iconst 1, 1), (225, .iload_n 1, 1), (226, .invokevirtual 98, 3), (229, .iconst (-1), 1), (230, .ireturn, 1), (231, .aload_n 0, 1), (232, .getfield 26, 3), (235, .iload_n 2, 1), (236, .aload_n 0, 1), (237, .getfield 26, 3), (240, .aload_n 0, 1), (241, .getfield 16, 3), (244, .iload_n 1, 1), (245, .iaload, 1), (246, .iaload, 1), (247, .aload_n 0, 1), (248, .getfield 26, 3), (251, .aload_n 0, 1), (252, .getfield 19, 3), (255, .iload_n 1, 1), (256, .iaload, 1), (257, .iaload, 1), (258, .idiv, 1), (259, .iastore, 1), (260, .iload_n 1, 1), (261, .iconst 1, 1), (262, .iadd, 1), (263, .ireturn, 1), (264, .aload_n 0, 1), (265, .aload_n 0, 1), (266, .getfield 26, 3), (269, .iload_n 2, 1), (270, .iaload, 1), (271, .ifCond .ne 7, 3), (274, .iconst 1, 1), (275, .goto 4, 3), (278, .iconst 0, 1), (279, .invokevirtual 94, 3), (282, .ifCond .ne 7, 3), (285, .iload_n 1, 1), (286, .iconst 1, 1), (287, .iadd, 1), (288, .ireturn, 1), (289, .aload_n 0, 1), (290, .iconst 2, 1), (291, .iload_n 1, 1), (292, .invokevirtual 98, 3), (295, .iconst (-1), 1), (296, .ireturn, 1), (297, .aload_n 0, 1), (298, .iconst 0, 1), (299, .aload_n 0, 1), (300, .getfield 26, 3), (303, .iload_n 2, 1), (304, .iaload, 1), (305, .invokevirtual 98, 3), (308, .iconst (-1), 1), (309, .ireturn, 1), (310, .aload_n 0, 1), (311, .getfield 26, 3), (314, .iload_n 2, 1), (315, .aload_n 0, 1), (316, .iload_n 3, 1), (317, .aload_n 0, 1), (318, .getfield 26, 3), (321, .aload_n 0, 1), (322, .getfield 16, 3), (325, .iload_n 1, 1), (326, .iaload, 1), (327, .iaload, 1), (328, .iload_n 3, 1), (329, .bipush 7, 2), (331, .if_icmp .ge 17, 3), (334, .aload_n 0, 1), (335, .getfield 26, 3), (338, .aload_n 0, 1), (339, .getfield 19, 3), (342, .iload_n 1, 1), (343, .iaload, 1), (344, .iaload, 1), (345, .goto 4, 3), (348, .iconst 0, 1), (349, .iload_n 1, 1), (350, .invokevirtual 102, 3), (353, .iastore, 1), (354, .iload_n 1, 1), (355, .iconst 1, 1), (356, .iadd, 1), (357, .ireturn, 1)]
theorem cdok_M_perform : ∀ q ∈ cd_M_perform, decode Y_M_perform.2.1 q.1 = .ok q.2 := by decide +kernel
set_option maxRecDepth 20000 in
theorem cy_M_perform : za_CY Y_M_perform 1 := ⟨za_in 626 rfl rfl, za_in 27 (by decide +kernel) rfl, ⟨by decide, by decide⟩, by decide +kernel⟩
theorem kc_M_perform : Cond.code Y_M_perform.1 Y_M_perform.2.1 Y_M_perform.2.2.1 Y_M_perform.2.2.2 ∈ za_tt := cy_M_perform.1
theorem cv_M_perform : za_CV Y_M_perform := ⟨za_in 625 (by decide +kernel) rfl, za_in 16 (by decide +kernel) rfl⟩
def Y_M_decide : za_Y := (⟨"WayFinderModel", "decide", "(Z)Z"⟩, prog_7_method_9_code, 2, (some .boolean))
def cd_M_decide : List (Nat × Instr × Nat) := [(0, .iload_n 1, 1), (1, .ifCond .eq 21, 3), (4, .aload_n 0, 1), (5, .dup, 1), (6, .getfield 81, 3), (9, .lconst 1, 1), (10, .bipush 39, 2), (12, .aload_n 0, 1), (13, .getfield 85, 3), (16, .isub, 1), (17, .lshl, 1), (18, .lor, 1), (19, .putfield 81, 3), (22, .aload_n 0, 1), (23, .dup, 1), (24, .getfield 85, 3), (27, .iconst 1, 1), (28, .iadd, 1), (29, .putfield 85, 3), (32, .iload_n 1, 1), (33, .ireturn, 1)]
theorem cdok_M_decide : ∀ q ∈ cd_M_decide, decode Y_M_decide.2.1 q.1 = .ok q.2 := by decide +kernel
set_option maxRecDepth 20000 in
theorem cy_M_decide : za_CY Y_M_decide 1 := ⟨za_in 630 rfl rfl, za_in 27 (by decide +kernel) rfl, ⟨by decide, by decide⟩, by decide +kernel⟩
theorem kc_M_decide : Cond.code Y_M_decide.1 Y_M_decide.2.1 Y_M_decide.2.2.1 Y_M_decide.2.2.2 ∈ za_tt := cy_M_decide.1
theorem cv_M_decide : za_CV Y_M_decide := ⟨za_in 629 (by decide +kernel) rfl, za_in 17 (by decide +kernel) rfl⟩
def Y_M_finish : za_Y := (⟨"WayFinderModel", "finish", "(II)V"⟩, prog_7_method_11_code, 3, none)
def cd_M_finish : List (Nat × Instr × Nat) := [(0, .aload_n 0, 1), (1, .iload_n 1, 1), (2, .putfield 88, 3), (5, .aload_n 0, 1), (6, .iload_n 2, 1), (7, .putfield 91, 3), (10, .return_, 1)]
theorem cdok_M_finish : ∀ q ∈ cd_M_finish, decode Y_M_finish.2.1 q.1 = .ok q.2 := by decide +kernel
set_option maxRecDepth 20000 in
theorem cy_M_finish : za_CY Y_M_finish 2 := ⟨za_in 634 rfl rfl, za_in 27 (by decide +kernel) rfl, ⟨by decide, by decide⟩, by decide +kernel⟩
theorem kc_M_finish : Cond.code Y_M_finish.1 Y_M_finish.2.1 Y_M_finish.2.2.1 Y_M_finish.2.2.2 ∈ za_tt := cy_M_finish.1
theorem cv_M_finish : za_CV Y_M_finish := ⟨za_in 633 (by decide +kernel) rfl, za_in 18 (by decide +kernel) rfl⟩
def Y_M_worked : za_Y := (⟨"WayFinderModel", "worked", "(IIII)I"⟩, prog_7_method_10_code, 5, (some .int))
def cd_M_worked : List (Nat × Instr × Nat) := [(0, .iload_n 1, 1), (1, .tableswitch 75 1 6 #[39, 47, 55, 59, 63, 67], 39), (40, .iload_n 2, 1), (41, .iload_n 3, 1), (42, .iadd, 1), (43, .sipush 255, 3), (46, .iand, 1), (47, .ireturn, 1), (48, .iload_n 2, 1), (49, .iload_n 3, 1), (50, .isub, 1), (51, .sipush 255, 3), (54, .iand, 1), (55, .ireturn, 1), (56, .iload_n 2, 1), (57, .iload_n 3, 1), (58, .iand, 1), (59, .ireturn, 1), (60, .iload_n 2, 1), (61, .iload_n 3, 1), (62, .ior, 1), (63, .ireturn, 1), (64, .iload_n 2, 1), (65, .iload_n 3, 1), (66, .ixor, 1), (67, .ireturn, 1), (68, .iload_n 2, 1), (69, .iload_n 3, 1), (70, .imul, 1), (71, .sipush 255, 3), (74, .iand, 1), (75, .ireturn, 1), (76, .iload_n 2, 1), (77, .aload_n 0, 1), (78, .getfield 19, 3), (81, .iload 4, 2), (83, .iaload, 1), (84, .ishr, 1), (85, .ireturn, 1)]
theorem cdok_M_worked : ∀ q ∈ cd_M_worked, decode Y_M_worked.2.1 q.1 = .ok q.2 := by decide +kernel
set_option maxRecDepth 20000 in
theorem cy_M_worked : za_CY Y_M_worked 4 := ⟨za_in 638 rfl rfl, za_in 27 (by decide +kernel) rfl, ⟨by decide, by decide⟩, by decide +kernel⟩
theorem kc_M_worked : Cond.code Y_M_worked.1 Y_M_worked.2.1 Y_M_worked.2.2.1 Y_M_worked.2.2.2 ∈ za_tt := cy_M_worked.1
theorem cv_M_worked : za_CV Y_M_worked := ⟨za_in 637 (by decide +kernel) rfl, za_in 19 (by decide +kernel) rfl⟩
def Y_M_last : za_Y := (⟨"WayFinderModel", "last", "(I)I"⟩, prog_7_method_16_code, 2, (some .int))
def cd_M_last : List (Nat × Instr × Nat) := [(0, .aload_n 0, 1), (1, .iconst 0, 1), (2, .putfield 63, 3), (5, .aload_n 0, 1), (6, .getfield 122, 3), (9, .ifCond .ne 9, 3), (12, .aload_n 0, 1), (13, .iconst 1, 1), (14, .invokevirtual 74, 3), (17, .ireturn, 1), (18, .iload_n 1, 1), (19, .tableswitch 40 0 2 #[25, 30, 35], 25), (44, .aload_n 0, 1), (45, .getfield 125, 3), (48, .ireturn, 1), (49, .aload_n 0, 1), (50, .getfield 128, 3), (53, .ireturn, 1), (54, .aload_n 0, 1), (55, .getfield 131, 3), (58, .ireturn, 1), (59, .aload_n 0, 1), (60, .iconst 2, 1), (61, .invokevirtual 74, 3), (64, .ireturn, 1)]
theorem cdok_M_last : ∀ q ∈ cd_M_last, decode Y_M_last.2.1 q.1 = .ok q.2 := by decide +kernel
set_option maxRecDepth 20000 in
theorem cy_M_last : za_CY Y_M_last 1 := ⟨za_in 642 rfl rfl, za_in 27 (by decide +kernel) rfl, ⟨by decide, by decide⟩, by decide +kernel⟩
theorem kc_M_last : Cond.code Y_M_last.1 Y_M_last.2.1 Y_M_last.2.2.1 Y_M_last.2.2.2 ∈ za_tt := cy_M_last.1
theorem cv_M_last : za_CV Y_M_last := ⟨za_in 640 (by decide +kernel) rfl, za_in 641 (by decide +kernel) rfl⟩
def Y_M_explore : za_Y := (⟨"WayFinderModel", "explore", "()I"⟩, prog_7_method_18_code, 2, (some .int))
def cd_M_explore : List (Nat × Instr × Nat) := [(0, .aload_n 0, 1), (1, .iconst 0, 1), (2, .putfield 63, 3), (5, .aload_n 0, 1), (6, .iconst 0, 1), (7, .putfield 134, 3), (10, .iconst 0, 1), (11, .istore_n 1, 1), (12, .iload_n 1, 1), (13, .iconst 1, 1), (14, .iconst 2, 1), (15, .aload_n 0, 1), (16, .getfield 22, 3), (19, .imul, 1), (20, .ishl, 1), (21, .if_icmp .ge 62, 3), (24, .aload_n 0, 1), (25, .getfield 134, 3), (28, .bipush 65, 2), (30, .if_icmp .ge 53, 3), (33, .aload_n 0, 1), (34, .iload_n 1, 1), (35, .aload_n 0, 1), (36, .getfield 22, 3), (39, .ishr, 1), (40, .iload_n 1, 1), (41, .iconst 1, 1), (42, .aload_n 0, 1), (43, .getfield 22, 3), (46, .ishl, 1), (47, .iconst 1, 1), (48, .isub, 1), (49, .iand, 1), (50, .invokevirtual 119, 3), (53, .aload_n 0, 1), (54, .bipush 16, 2), (56, .iload_n 1, 1), (57, .aload_n 0, 1), (58, .getfield 22, 3), (61, .ishr, 1), (62, .imul, 1), (63, .iload_n 1, 1), (64, .iconst 1, 1), (65, .aload_n 0, 1), (66, .getfield 22, 3), (69, .ishl, 1), (70, .iconst 1, 1), (71, .isub, 1), (72, .iand, 1), (73, .iadd, 1), (74, .invokevirtual 137, 3), (77, .iinc 1 1, 3), (80, .goto (-68), 3), (83, .aload_n 0, 1), (84, .getfield 134, 3), (87, .bipush 64, 2), (89, .if_icmp .le 9, 3), (92, .aload_n 0, 1), (93, .iconst 1, 1), (94, .invokevirtual 74, 3), (97, .ireturn, 1), (98, .aload_n 0, 1), (99, .aload_n 0, 1), (100, .getfield 134, 3), (103, .putfield 141, 3), (106, .aload_n 0, 1), (107, .iconst 0, 1), (108, .putfield 144, 3), (111, .iconst 0, 1), (112, .istore_n 1, 1), (113, .iload_n 1, 1), (114, .aload_n 0, 1), (115, .getfield 134, 3), (118, .if_icmp .ge 84, 3), (121, .aload_n 0, 1), (122, .getfield 48, 3), (125, .iload_n 1, 1), (126, .aload_n 0, 1), (127, .getfield 29, 3), (130, .iload_n 1, 1), (131, .laload, 1), (132, .lastore, 1), (133, .aload_n 0, 1), (134, .getfield 51, 3), (137, .iload_n 1, 1), (138, .aload_n 0, 1), (139, .getfield 33, 3), (142, .iload_n 1, 1), (143, .iaload, 1), (144, .iastore, 1), (145, .aload_n 0, 1), (146, .getfield 54, 3), (149, .iload_n 1, 1), (150, .aload_n 0, 1), (151, .getfield 36, 3), (154, .iload_n 1, 1), (155, .iaload, 1), (156, .iastore, 1), (157, .aload_n 0, 1), (158, .getfield 57, 3), (161, .iload_n 1, 1), (162, .aload_n 0, 1), (163, .getfield 39, 3), (166, .iload_n 1, 1), (167, .iaload, 1), (168, .iastore, 1), (169, .aload_n 0, 1), (170, .getfield 60, 3), (173, .iload_n 1, 1), (174, .aload_n 0, 1), (175, .getfield 42, 3), (178, .iload_n 1, 1), (179, .iaload, 1), (180, .iastore, 1), (181, .aload_n 0, 1), (182, .dup, 1), (183, .getfield 144, 3), (186, .aload_n 0, 1), (187, .getfield 45, 3), (190, .iload_n 1, 1), (191, .iaload, 1), (192, .ior, 1), (193, .putfield 144, 3), (196, .iinc 1 1, 3), (199, .goto (-86), 3), (202, .aload_n 0, 1), (203, .getfield 134, 3), (206, .ireturn, 1)]
theorem cdok_M_explore : ∀ q ∈ cd_M_explore, decode Y_M_explore.2.1 q.1 = .ok q.2 := by decide +kernel
set_option maxRecDepth 20000 in
theorem cy_M_explore : za_CY Y_M_explore 0 := ⟨za_in 646 rfl rfl, za_in 27 (by decide +kernel) rfl, ⟨by decide, by decide⟩, by decide +kernel⟩
theorem kc_M_explore : Cond.code Y_M_explore.1 Y_M_explore.2.1 Y_M_explore.2.2.1 Y_M_explore.2.2.2 ∈ za_tt := cy_M_explore.1
theorem cv_M_explore : za_CV Y_M_explore := ⟨za_in 644 (by decide +kernel) rfl, za_in 645 (by decide +kernel) rfl⟩
def Y_M_enter : za_Y := (⟨"WayFinderModel", "enter", "(I)V"⟩, prog_7_method_17_code, 4, none)
def cd_M_enter : List (Nat × Instr × Nat) := [(0, .aload_n 0, 1), (1, .getfield 134, 3), (4, .istore_n 2, 1), (5, .iload_n 2, 1), (6, .ifCond .le 25, 3), (9, .aload_n 0, 1), (10, .getfield 29, 3), (13, .iload_n 2, 1), (14, .iconst 1, 1), (15, .isub, 1), (16, .laload, 1), (17, .aload_n 0, 1), (18, .getfield 81, 3), (21, .lcmp, 1), (22, .ifCond .le 9, 3), (25, .iinc 2 (-1), 3), (28, .goto (-23), 3), (31, .iload_n 2, 1), (32, .ifCond .le 20, 3), (35, .aload_n 0, 1), (36, .getfield 29, 3), (39, .iload_n 2, 1), (40, .iconst 1, 1), (41, .isub, 1), (42, .laload, 1), (43, .aload_n 0, 1), (44, .getfield 81, 3), (47, .lcmp, 1), (48, .ifCond .ne 4, 3), (51, .return_, 1), (52, .aload_n 0, 1), (53, .getfield 134, 3), (56, .istore_n 3, 1), (57, .iload_n 3, 1), (58, .iload_n 2, 1), (59, .if_icmp .le 93, 3), (62, .aload_n 0, 1), (63, .getfield 29, 3), (66, .iload_n 3, 1), (67, .aload_n 0, 1), (68, .getfield 29, 3), (71, .iload_n 3, 1), (72, .iconst 1, 1), (73, .isub, 1), (74, .laload, 1), (75, .lastore, 1), (76, .aload_n 0, 1), (77, .getfield 33, 3), (80, .iload_n 3, 1), (81, .aload_n 0, 1), (82, .getfield 33, 3), (85, .iload_n 3, 1), (86, .iconst 1, 1), (87, .isub, 1), (88, .iaload, 1), (89, .iastore, 1), (90, .aload_n 0, 1), (91, .getfield 36, 3), (94, .iload_n 3, 1), (95, .aload_n 0, 1), (96, .getfield 36, 3), (99, .iload_n 3, 1), (100, .iconst 1, 1), (101, .isub, 1), (102, .iaload, 1), (103, .iastore, 1), (104, .aload_n 0, 1), (105, .getfield 39, 3), (108, .iload_n 3, 1), (109, .aload_n 0, 1), (110, .getfield 39, 3), (113, .iload_n 3, 1), (114, .iconst 1, 1), (115, .isub, 1), (116, .iaload, 1), (117, .iastore, 1), (118, .aload_n 0, 1), (119, .getfield 42, 3), (122, .iload_n 3, 1), (123, .aload_n 0, 1), (124, .getfield 42, 3), (127, .iload_n 3, 1), (128, .iconst 1, 1), (129, .isub, 1), (130, .iaload, 1), (131, .iastore, 1), (132, .aload_n 0, 1), (133, .getfield 45, 3), (136, .iload_n 3, 1), (137, .aload_n 0, 1), (138, .getfield 45, 3), (141, .iload_n 3, 1), (142, .iconst 1, 1), (143, .isub, 1), (144, .iaload, 1), (145, .iastore, 1), (146, .iinc 3 (-1), 3), (149, .goto (-92), 3), (152, .aload_n 0, 1), (153, .getfield 29, 3), (156, .iload_n 2, 1), (157, .aload_n 0, 1), (158, .getfield 81, 3), (161, .lastore, 1), (162, .aload_n 0, 1), (163, .getfield 33, 3), (166, .iload_n 2, 1), (167, .aload_n 0, 1), (168, .getfield 85, 3), (171, .iastore, 1), (172, .aload_n 0, 1), (173, .getfield 36, 3), (176, .iload_n 2, 1), (177, .iload_n 1, 1), (178, .iastore, 1), (179, .aload_n 0, 1), (180, .getfield 39, 3), (183, .iload_n 2, 1), (184, .aload_n 0, 1), (185, .getfield 88, 3), (188, .iastore, 1), (189, .aload_n 0, 1), (190, .getfield 42, 3), (193, .iload_n 2, 1), (194, .aload_n 0, 1), (195, .getfield 91, 3), (198, .iastore, 1), (199, .aload_n 0, 1), (200, .getfield 45, 3), (203, .iload_n 2, 1), (204, .aload_n 0, 1), (205, .getfield 109, 3), (208, .iastore, 1), (209, .aload_n 0, 1), (210, .dup, 1), (211, .getfield 134, 3), (214, .iconst 1, 1), (215, .iadd, 1), (216, .putfield 134, 3), (219, .return_, 1)]
theorem cdok_M_enter : ∀ q ∈ cd_M_enter, decode Y_M_enter.2.1 q.1 = .ok q.2 := by decide +kernel
set_option maxRecDepth 20000 in
theorem cy_M_enter : za_CY Y_M_enter 1 := ⟨za_in 650 rfl rfl, za_in 27 (by decide +kernel) rfl, ⟨by decide, by decide⟩, by decide +kernel⟩
theorem kc_M_enter : Cond.code Y_M_enter.1 Y_M_enter.2.1 Y_M_enter.2.2.1 Y_M_enter.2.2.2 ∈ za_tt := cy_M_enter.1
theorem cv_M_enter : za_CV Y_M_enter := ⟨za_in 649 (by decide +kernel) rfl, za_in 20 (by decide +kernel) rfl⟩
def Y_M_way : za_Y := (⟨"WayFinderModel", "way", "(II)I"⟩, prog_7_method_19_code, 3, (some .int))
def cd_M_way : List (Nat × Instr × Nat) := [(0, .aload_n 0, 1), (1, .iconst 0, 1), (2, .putfield 63, 3), (5, .iload_n 1, 1), (6, .iconst 0, 1), (7, .aload_n 0, 1), (8, .getfield 141, 3), (11, .iconst 1, 1), (12, .isub, 1), (13, .invokestatic 66, 3), (16, .ifCond .ne 9, 3), (19, .aload_n 0, 1), (20, .iconst 1, 1), (21, .invokevirtual 74, 3), (24, .ireturn, 1), (25, .iload_n 2, 1), (26, .tableswitch 75 0 4 #[34, 44, 54, 61, 68], 34), (60, .aload_n 0, 1), (61, .getfield 54, 3), (64, .iload_n 1, 1), (65, .iaload, 1), (66, .bipush 16, 2), (68, .idiv, 1), (69, .ireturn, 1), (70, .aload_n 0, 1), (71, .getfield 54, 3), (74, .iload_n 1, 1), (75, .iaload, 1), (76, .bipush 16, 2), (78, .irem, 1), (79, .ireturn, 1), (80, .aload_n 0, 1), (81, .getfield 57, 3), (84, .iload_n 1, 1), (85, .iaload, 1), (86, .ireturn, 1), (87, .aload_n 0, 1), (88, .getfield 60, 3), (91, .iload_n 1, 1), (92, .iaload, 1), (93, .ireturn, 1), (94, .aload_n 0, 1), (95, .getfield 51, 3), (98, .iload_n 1, 1), (99, .iaload, 1), (100, .ireturn, 1), (101, .aload_n 0, 1), (102, .iconst 2, 1), (103, .invokevirtual 74, 3), (106, .ireturn, 1)]
theorem cdok_M_way : ∀ q ∈ cd_M_way, decode Y_M_way.2.1 q.1 = .ok q.2 := by decide +kernel
set_option maxRecDepth 20000 in
theorem cy_M_way : za_CY Y_M_way 2 := ⟨za_in 654 rfl rfl, za_in 27 (by decide +kernel) rfl, ⟨by decide, by decide⟩, by decide +kernel⟩
theorem kc_M_way : Cond.code Y_M_way.1 Y_M_way.2.1 Y_M_way.2.2.1 Y_M_way.2.2.2 ∈ za_tt := cy_M_way.1
theorem cv_M_way : za_CV Y_M_way := ⟨za_in 652 (by decide +kernel) rfl, za_in 653 (by decide +kernel) rfl⟩
def Y_M_decision : za_Y := (⟨"WayFinderModel", "decision", "(II)I"⟩, prog_7_method_20_code, 3, (some .int))
def cd_M_decision : List (Nat × Instr × Nat) := [(0, .aload_n 0, 1), (1, .iconst 0, 1), (2, .putfield 63, 3), (5, .iload_n 1, 1), (6, .iconst 0, 1), (7, .aload_n 0, 1), (8, .getfield 141, 3), (11, .iconst 1, 1), (12, .isub, 1), (13, .invokestatic 66, 3), (16, .ifCond .eq 19, 3), (19, .iload_n 2, 1), (20, .iconst 0, 1), (21, .aload_n 0, 1), (22, .getfield 51, 3), (25, .iload_n 1, 1), (26, .iaload, 1), (27, .iconst 1, 1), (28, .isub, 1), (29, .invokestatic 66, 3), (32, .ifCond .ne 9, 3), (35, .aload_n 0, 1), (36, .iconst 1, 1), (37, .invokevirtual 74, 3), (40, .ireturn, 1), (41, .aload_n 0, 1), (42, .getfield 48, 3), (45, .iload_n 1, 1), (46, .laload, 1), (47, .bipush 39, 2), (49, .iload_n 2, 1), (50, .isub, 1), (51, .lshr, 1), (52, .lconst 1, 1), (53, .land, 1), (54, .l2i, 1), (55, .ireturn, 1)]
theorem cdok_M_decision : ∀ q ∈ cd_M_decision, decode Y_M_decision.2.1 q.1 = .ok q.2 := by decide +kernel
set_option maxRecDepth 20000 in
theorem cy_M_decision : za_CY Y_M_decision 2 := ⟨za_in 658 rfl rfl, za_in 27 (by decide +kernel) rfl, ⟨by decide, by decide⟩, by decide +kernel⟩
theorem kc_M_decision : Cond.code Y_M_decision.1 Y_M_decision.2.1 Y_M_decision.2.2.1 Y_M_decision.2.2.2 ∈ za_tt := cy_M_decision.1
theorem cv_M_decision : za_CV Y_M_decision := ⟨za_in 656 (by decide +kernel) rfl, za_in 657 (by decide +kernel) rfl⟩
def Y_M_match : za_Y := (⟨"WayFinderModel", "match", "(II)I"⟩, prog_7_method_21_code, 4, (some .int))
def cd_M_match : List (Nat × Instr × Nat) := [(0, .aload_n 0, 1), (1, .iconst 0, 1), (2, .putfield 63, 3), (5, .aload_n 0, 1), (6, .iload_n 1, 1), (7, .invokevirtual 115, 3), (10, .ifCond .eq 11, 3), (13, .aload_n 0, 1), (14, .iload_n 2, 1), (15, .invokevirtual 115, 3), (18, .ifCond .ne 9, 3), (21, .aload_n 0, 1), (22, .iconst 1, 1), (23, .invokevirtual 74, 3), (26, .ireturn, 1), (27, .aload_n 0, 1), (28, .iload_n 1, 1), (29, .iload_n 2, 1), (30, .invokevirtual 119, 3), (33, .iconst 0, 1), (34, .istore_n 3, 1), (35, .iload_n 3, 1), (36, .aload_n 0, 1), (37, .getfield 141, 3), (40, .if_icmp .ge 54, 3), (43, .aload_n 0, 1), (44, .getfield 51, 3), (47, .iload_n 3, 1), (48, .iaload, 1), (49, .aload_n 0, 1), (50, .getfield 85, 3), (53, .if_icmp .lt 35, 3), (56, .aload_n 0, 1), (57, .getfield 81, 3), (60, .bipush 40, 2), (62, .aload_n 0, 1), (63, .getfield 85, 3), (66, .isub, 1), (67, .lshr, 1), (68, .aload_n 0, 1), (69, .getfield 48, 3), (72, .iload_n 3, 1), (73, .laload, 1), (74, .bipush 40, 2), (76, .aload_n 0, 1), (77, .getfield 85, 3), (80, .isub, 1), (81, .lshr, 1), (82, .lcmp, 1), (83, .ifCond .ne 5, 3), (86, .iload_n 3, 1), (87, .ireturn, 1), (88, .iinc 3 1, 3), (91, .goto (-56), 3), (94, .aload_n 0, 1), (95, .iconst 2, 1), (96, .invokevirtual 74, 3), (99, .ireturn, 1)]
theorem cdok_M_match : ∀ q ∈ cd_M_match, decode Y_M_match.2.1 q.1 = .ok q.2 := by decide +kernel
set_option maxRecDepth 20000 in
theorem cy_M_match : za_CY Y_M_match 2 := ⟨za_in 662 rfl rfl, za_in 27 (by decide +kernel) rfl, ⟨by decide, by decide⟩, by decide +kernel⟩
theorem kc_M_match : Cond.code Y_M_match.1 Y_M_match.2.1 Y_M_match.2.2.1 Y_M_match.2.2.2 ∈ za_tt := cy_M_match.1
theorem cv_M_match : za_CV Y_M_match := ⟨za_in 660 (by decide +kernel) rfl, za_in 661 (by decide +kernel) rfl⟩
def Y_M_example : za_Y := (⟨"WayFinderModel", "example", "(I)I"⟩, prog_7_method_22_code, 4, (some .int))
def cd_M_example : List (Nat × Instr × Nat) := [(0, .aload_n 0, 1), (1, .iconst 0, 1), (2, .putfield 63, 3), (5, .iload_n 1, 1), (6, .iconst 0, 1), (7, .iconst 3, 1), (8, .invokestatic 66, 3), (11, .ifCond .ne 9, 3), (14, .aload_n 0, 1), (15, .iconst 1, 1), (16, .invokevirtual 74, 3), (19, .ireturn, 1), (20, .sipush 256, 3), (23, .istore_n 2, 1), (24, .iconst 0, 1), (25, .istore_n 3, 1), (26, .iload_n 3, 1), (27, .aload_n 0, 1), (28, .getfield 141, 3), (31, .if_icmp .ge 36, 3), (34, .aload_n 0, 1), (35, .getfield 57, 3), (38, .iload_n 3, 1), (39, .iaload, 1), (40, .iload_n 1, 1), (41, .if_icmp .ne 20, 3), (44, .aload_n 0, 1), (45, .getfield 54, 3), (48, .iload_n 3, 1), (49, .iaload, 1), (50, .iload_n 2, 1), (51, .if_icmp .ge 10, 3), (54, .aload_n 0, 1), (55, .getfield 54, 3), (58, .iload_n 3, 1), (59, .iaload, 1), (60, .istore_n 2, 1), (61, .iinc 3 1, 3), (64, .goto (-38), 3), (67, .iload_n 2, 1), (68, .sipush 256, 3), (71, .if_icmp .ne 11, 3), (74, .aload_n 0, 1), (75, .iconst 2, 1), (76, .invokevirtual 74, 3), (79, .goto 4, 3), (82, .iload_n 2, 1), (83, .ireturn, 1)]
theorem cdok_M_example : ∀ q ∈ cd_M_example, decode Y_M_example.2.1 q.1 = .ok q.2 := by decide +kernel
set_option maxRecDepth 20000 in
theorem cy_M_example : za_CY Y_M_example 1 := ⟨za_in 666 rfl rfl, za_in 27 (by decide +kernel) rfl, ⟨by decide, by decide⟩, by decide +kernel⟩
theorem kc_M_example : Cond.code Y_M_example.1 Y_M_example.2.1 Y_M_example.2.2.1 Y_M_example.2.2.2 ∈ za_tt := cy_M_example.1
theorem cv_M_example : za_CV Y_M_example := ⟨za_in 664 (by decide +kernel) rfl, za_in 665 (by decide +kernel) rfl⟩
def Y_M_covered : za_Y := (⟨"WayFinderModel", "covered", "()I"⟩, prog_7_method_23_code, 1, (some .int))
def cd_M_covered : List (Nat × Instr × Nat) := [(0, .aload_n 0, 1), (1, .iconst 0, 1), (2, .putfield 63, 3), (5, .aload_n 0, 1), (6, .getfield 144, 3), (9, .ireturn, 1)]
theorem cdok_M_covered : ∀ q ∈ cd_M_covered, decode Y_M_covered.2.1 q.1 = .ok q.2 := by decide +kernel
set_option maxRecDepth 20000 in
theorem cy_M_covered : za_CY Y_M_covered 0 := ⟨za_in 670 rfl rfl, za_in 27 (by decide +kernel) rfl, ⟨by decide, by decide⟩, by decide +kernel⟩
theorem kc_M_covered : Cond.code Y_M_covered.1 Y_M_covered.2.1 Y_M_covered.2.2.1 Y_M_covered.2.2.2 ∈ za_tt := cy_M_covered.1
theorem cv_M_covered : za_CV Y_M_covered := ⟨za_in 668 (by decide +kernel) rfl, za_in 669 (by decide +kernel) rfl⟩
def Y_M_count : za_Y := (⟨"WayFinderModel", "count", "(I)I"⟩, prog_7_method_24_code, 2, (some .int))
def cd_M_count : List (Nat × Instr × Nat) := [(0, .aload_n 0, 1), (1, .iconst 0, 1), (2, .putfield 63, 3), (5, .iload_n 1, 1), (6, .tableswitch 50 0 3 #[30, 35, 40, 45], 30), (36, .aload_n 0, 1), (37, .getfield 78, 3), (40, .ireturn, 1), (41, .aload_n 0, 1), (42, .getfield 22, 3), (45, .ireturn, 1), (46, .aload_n 0, 1), (47, .getfield 141, 3), (50, .ireturn, 1), (51, .aload_n 0, 1), (52, .getfield 122, 3), (55, .ireturn, 1), (56, .aload_n 0, 1), (57, .iconst 1, 1), (58, .invokevirtual 74, 3), (61, .ireturn, 1)]
theorem cdok_M_count : ∀ q ∈ cd_M_count, decode Y_M_count.2.1 q.1 = .ok q.2 := by decide +kernel
set_option maxRecDepth 20000 in
theorem cy_M_count : za_CY Y_M_count 1 := ⟨za_in 674 rfl rfl, za_in 27 (by decide +kernel) rfl, ⟨by decide, by decide⟩, by decide +kernel⟩
theorem kc_M_count : Cond.code Y_M_count.1 Y_M_count.2.1 Y_M_count.2.2.1 Y_M_count.2.2.2 ∈ za_tt := cy_M_count.1
theorem cv_M_count : za_CV Y_M_count := ⟨za_in 672 (by decide +kernel) rfl, za_in 673 (by decide +kernel) rfl⟩
theorem cl_L_F_init : za_CL "WayFinderLaw" 52 Y_F_init.1 := Or.inl (za_in 37 (by decide +kernel) rfl)
theorem cl_F_P_init : za_CL "WayFinder" 9 Y_P_init.1 := Or.inr ⟨"WayFinder", za_in 45 (by decide +kernel) rfl⟩
theorem cl_F_T_init : za_CL "WayFinder" 18 Y_T_init.1 := Or.inr ⟨"WayFinder", za_in 73 (by decide +kernel) rfl⟩
theorem cl_F_R_init : za_CL "WayFinder" 28 Y_R_init.1 := Or.inl (za_in 120 (by decide +kernel) rfl)
theorem cl_R_W_init : za_CL "WayFinder$Results" 24 Y_W_init.1 := Or.inr ⟨"WayFinder", za_in 127 (by decide +kernel) rfl⟩
theorem cl_L_F_covered : za_CL "WayFinderLaw" 95 Y_F_covered.1 := Or.inl (za_in 195 (by decide +kernel) rfl)
theorem cl_L_L_instr : za_CL "WayFinderLaw" 56 Y_L_instr.1 := Or.inl (za_in 199 (by decide +kernel) rfl)
theorem cl_L_F_instr : za_CL "WayFinderLaw" 7 Y_F_instr.1 := Or.inl (za_in 204 (by decide +kernel) rfl)
theorem cl_F_P_allows : za_CL "WayFinder" 43 Y_P_allows.1 := Or.inl (za_in 208 (by decide +kernel) rfl)
theorem cl_P_P_isRegister : za_CL "WayFinder$Program" 28 Y_P_isRegister.1 := Or.inl (za_in 211 (by decide +kernel) rfl)
theorem cl_P_F_isUpTo : za_CL "WayFinder$Program" 32 Y_F_isUpTo.1 := Or.inr ⟨"WayFinder", za_in 214 (by decide +kernel) rfl⟩
theorem cl_F_P_append : za_CL "WayFinder" 56 Y_P_append.1 := Or.inl (za_in 295 (by decide +kernel) rfl)
theorem cl_L_L_undo : za_CL "WayFinderLaw" 65 Y_L_undo.1 := Or.inl (za_in 299 (by decide +kernel) rfl)
theorem cl_L_F_undo : za_CL "WayFinderLaw" 17 Y_F_undo.1 := Or.inl (za_in 303 (by decide +kernel) rfl)
theorem cl_L_L_width : za_CL "WayFinderLaw" 69 Y_L_width.1 := Or.inl (za_in 322 (by decide +kernel) rfl)
theorem cl_L_F_width : za_CL "WayFinderLaw" 23 Y_F_width.1 := Or.inl (za_in 325 (by decide +kernel) rfl)
theorem cl_L_L_run : za_CL "WayFinderLaw" 73 Y_L_run.1 := Or.inl (za_in 329 (by decide +kernel) rfl)
theorem cl_L_F_run : za_CL "WayFinderLaw" 27 Y_F_run.1 := Or.inl (za_in 332 (by decide +kernel) rfl)
theorem cl_F_F_areInputs : za_CL "WayFinder" 63 Y_F_areInputs.1 := Or.inl (za_in 336 (by decide +kernel) rfl)
theorem cl_F_F_isUpTo : za_CL "WayFinder" 125 Y_F_isUpTo.1 := Or.inl (za_in 340 (by decide +kernel) rfl)
theorem cl_F_T_follow : za_CL "WayFinder" 67 Y_T_follow.1 := Or.inl (za_in 341 (by decide +kernel) rfl)
theorem cl_T_T_begin : za_CL "WayFinder$Trace" 45 Y_T_begin.1 := Or.inl (za_in 345 (by decide +kernel) rfl)
theorem cl_T_P_has : za_CL "WayFinder$Trace" 49 Y_P_has.1 := Or.inl (za_in 349 (by decide +kernel) rfl)
theorem cl_T_T_step : za_CL "WayFinder$Trace" 55 Y_T_step.1 := Or.inl (za_in 353 (by decide +kernel) rfl)
theorem cl_T_T_goIf : za_CL "WayFinder$Trace" 74 Y_T_goIf.1 := Or.inl (za_in 357 (by decide +kernel) rfl)
theorem cl_T_T_decide : za_CL "WayFinder$Trace" 93 Y_T_decide.1 := Or.inl (za_in 361 (by decide +kernel) rfl)
theorem cl_T_F_decisionBit : za_CL "WayFinder$Trace" 97 Y_F_decisionBit.1 := Or.inr ⟨"WayFinder", za_in 365 (by decide +kernel) rfl⟩
theorem cl_T_T_divide : za_CL "WayFinder$Trace" 78 Y_T_divide.1 := Or.inl (za_in 368 (by decide +kernel) rfl)
theorem cl_T_T_finish : za_CL "WayFinder$Trace" 86 Y_T_finish.1 := Or.inl (za_in 372 (by decide +kernel) rfl)
theorem cl_T_T_claim : za_CL "WayFinder$Trace" 82 Y_T_claim.1 := Or.inl (za_in 376 (by decide +kernel) rfl)
theorem cl_T_T_combine : za_CL "WayFinder$Trace" 89 Y_T_combine.1 := Or.inl (za_in 380 (by decide +kernel) rfl)
theorem cl_T_T_finishUnasked : za_CL "WayFinder$Trace" 59 Y_T_finishUnasked.1 := Or.inl (za_in 383 (by decide +kernel) rfl)
theorem cl_L_L_last : za_CL "WayFinderLaw" 77 Y_L_last.1 := Or.inl (za_in 387 (by decide +kernel) rfl)
theorem cl_L_F_last : za_CL "WayFinderLaw" 31 Y_F_last.1 := Or.inl (za_in 390 (by decide +kernel) rfl)
theorem cl_L_L_explore : za_CL "WayFinderLaw" 80 Y_L_explore.1 := Or.inl (za_in 394 (by decide +kernel) rfl)
theorem cl_L_F_explore : za_CL "WayFinderLaw" 34 Y_F_explore.1 := Or.inl (za_in 397 (by decide +kernel) rfl)
theorem cl_F_F_fillDraft : za_CL "WayFinder" 83 Y_F_fillDraft.1 := Or.inl (za_in 401 (by decide +kernel) rfl)
theorem cl_F_R_empty : za_CL "WayFinder" 128 Y_R_empty.1 := Or.inl (za_in 405 (by decide +kernel) rfl)
theorem cl_F_R_take : za_CL "WayFinder" 131 Y_R_take.1 := Or.inl (za_in 409 (by decide +kernel) rfl)
theorem cl_R_R_firstNotBefore : za_CL "WayFinder$Results" 31 Y_R_firstNotBefore.1 := Or.inl (za_in 413 (by decide +kernel) rfl)
theorem cl_R_R_has : za_CL "WayFinder$Results" 35 Y_R_has.1 := Or.inl (za_in 417 (by decide +kernel) rfl)
theorem cl_R_R_makeRoom : za_CL "WayFinder$Results" 40 Y_R_makeRoom.1 := Or.inl (za_in 421 (by decide +kernel) rfl)
theorem cl_R_W_set : za_CL "WayFinder$Results" 44 Y_W_set.1 := Or.inl (za_in 425 (by decide +kernel) rfl)
theorem cl_L_L_way : za_CL "WayFinderLaw" 83 Y_L_way.1 := Or.inl (za_in 429 (by decide +kernel) rfl)
theorem cl_L_F_way : za_CL "WayFinderLaw" 37 Y_F_way.1 := Or.inl (za_in 432 (by decide +kernel) rfl)
theorem cl_F_R_has : za_CL "WayFinder" 88 Y_R_has.1 := Or.inl (za_in 436 (by decide +kernel) rfl)
theorem cl_L_L_decision : za_CL "WayFinderLaw" 86 Y_L_decision.1 := Or.inl (za_in 437 (by decide +kernel) rfl)
theorem cl_L_F_decision : za_CL "WayFinderLaw" 40 Y_F_decision.1 := Or.inl (za_in 440 (by decide +kernel) rfl)
theorem cl_F_F_decisionBit : za_CL "WayFinder" 111 Y_F_decisionBit.1 := Or.inl (za_in 444 (by decide +kernel) rfl)
theorem cl_L_L_match : za_CL "WayFinderLaw" 89 Y_L_match.1 := Or.inl (za_in 445 (by decide +kernel) rfl)
theorem cl_L_F_match : za_CL "WayFinderLaw" 43 Y_F_match.1 := Or.inl (za_in 448 (by decide +kernel) rfl)
theorem cl_F_R_firstAgreeing : za_CL "WayFinder" 115 Y_R_firstAgreeing.1 := Or.inl (za_in 452 (by decide +kernel) rfl)
theorem cl_R_W_agreesWith : za_CL "WayFinder$Results" 49 Y_W_agreesWith.1 := Or.inl (za_in 456 (by decide +kernel) rfl)
theorem cl_L_L_example : za_CL "WayFinderLaw" 92 Y_L_example.1 := Or.inl (za_in 460 (by decide +kernel) rfl)
theorem cl_L_F_example : za_CL "WayFinderLaw" 46 Y_F_example.1 := Or.inl (za_in 463 (by decide +kernel) rfl)
theorem cl_F_R_leastInputs : za_CL "WayFinder" 119 Y_R_leastInputs.1 := Or.inl (za_in 467 (by decide +kernel) rfl)
theorem cl_L_L_count : za_CL "WayFinderLaw" 99 Y_L_count.1 := Or.inl (za_in 474 (by decide +kernel) rfl)
theorem cl_L_F_count : za_CL "WayFinderLaw" 49 Y_F_count.1 := Or.inl (za_in 477 (by decide +kernel) rfl)
theorem cl_L_M_init : za_CL "WayFinderLaw" 55 Y_M_init.1 := Or.inl (za_in 483 (by decide +kernel) rfl)
theorem cl_L_M_thrown : za_CL "WayFinderLaw" 62 Y_M_thrown.1 := Or.inl (za_in 585 (by decide +kernel) rfl)
theorem cl_L_M_instr : za_CL "WayFinderLaw" 61 Y_M_instr.1 := Or.inl (za_in 589 (by decide +kernel) rfl)
theorem cl_M_M_fits : za_CL "WayFinderModel" 70 Y_M_fits.1 := Or.inl (za_in 593 (by decide +kernel) rfl)
theorem cl_M_M_in : za_CL "WayFinderModel" 66 Y_M_in.1 := Or.inl (za_in 596 (by decide +kernel) rfl)
theorem cl_M_M_raise : za_CL "WayFinderModel" 74 Y_M_raise.1 := Or.inl (za_in 599 (by decide +kernel) rfl)
theorem cl_L_M_undo : za_CL "WayFinderLaw" 68 Y_M_undo.1 := Or.inl (za_in 603 (by decide +kernel) rfl)
theorem cl_L_M_width : za_CL "WayFinderLaw" 72 Y_M_width.1 := Or.inl (za_in 607 (by decide +kernel) rfl)
theorem cl_L_M_run : za_CL "WayFinderLaw" 76 Y_M_run.1 := Or.inl (za_in 611 (by decide +kernel) rfl)
theorem cl_M_M_isInput : za_CL "WayFinderModel" 115 Y_M_isInput.1 := Or.inl (za_in 615 (by decide +kernel) rfl)
theorem cl_M_M_go : za_CL "WayFinderModel" 119 Y_M_go.1 := Or.inl (za_in 619 (by decide +kernel) rfl)
theorem cl_M_M_perform : za_CL "WayFinderModel" 112 Y_M_perform.1 := Or.inl (za_in 623 (by decide +kernel) rfl)
theorem cl_M_M_decide : za_CL "WayFinderModel" 94 Y_M_decide.1 := Or.inl (za_in 627 (by decide +kernel) rfl)
theorem cl_M_M_finish : za_CL "WayFinderModel" 98 Y_M_finish.1 := Or.inl (za_in 631 (by decide +kernel) rfl)
theorem cl_M_M_worked : za_CL "WayFinderModel" 102 Y_M_worked.1 := Or.inl (za_in 635 (by decide +kernel) rfl)
theorem cl_L_M_last : za_CL "WayFinderLaw" 79 Y_M_last.1 := Or.inl (za_in 639 (by decide +kernel) rfl)
theorem cl_L_M_explore : za_CL "WayFinderLaw" 82 Y_M_explore.1 := Or.inl (za_in 643 (by decide +kernel) rfl)
theorem cl_M_M_enter : za_CL "WayFinderModel" 137 Y_M_enter.1 := Or.inl (za_in 647 (by decide +kernel) rfl)
theorem cl_L_M_way : za_CL "WayFinderLaw" 85 Y_M_way.1 := Or.inl (za_in 651 (by decide +kernel) rfl)
theorem cl_L_M_decision : za_CL "WayFinderLaw" 88 Y_M_decision.1 := Or.inl (za_in 655 (by decide +kernel) rfl)
theorem cl_L_M_match : za_CL "WayFinderLaw" 91 Y_M_match.1 := Or.inl (za_in 659 (by decide +kernel) rfl)
theorem cl_L_M_example : za_CL "WayFinderLaw" 94 Y_M_example.1 := Or.inl (za_in 663 (by decide +kernel) rfl)
theorem cl_L_M_covered : za_CL "WayFinderLaw" 98 Y_M_covered.1 := Or.inl (za_in 667 (by decide +kernel) rfl)
theorem cl_L_M_count : za_CL "WayFinderLaw" 101 Y_M_count.1 := Or.inl (za_in 671 (by decide +kernel) rfl)
theorem zi_P : Cond.instantiable "WayFinder$Program" 5 ∈ za_tt := za_in 44 (by decide +kernel) rfl
theorem zj_P : Cond.initialized "WayFinder$Program" ∈ za_tt := za_in 23 (by decide +kernel) rfl
theorem zi_T : Cond.instantiable "WayFinder$Trace" 10 ∈ za_tt := za_in 72 (by decide +kernel) rfl
theorem zj_T : Cond.initialized "WayFinder$Trace" ∈ za_tt := za_in 24 (by decide +kernel) rfl
theorem zi_W : Cond.instantiable "WayFinder$Way" 6 ∈ za_tt := za_in 126 (by decide +kernel) rfl
theorem zj_W : Cond.initialized "WayFinder$Way" ∈ za_tt := za_in 26 (by decide +kernel) rfl
theorem zi_R : Cond.instantiable "WayFinder$Results" 3 ∈ za_tt := za_in 119 (by decide +kernel) rfl
theorem zj_R : Cond.initialized "WayFinder$Results" ∈ za_tt := za_in 25 (by decide +kernel) rfl
theorem zi_F : Cond.instantiable "WayFinder" 7 ∈ za_tt := za_in 36 (by decide +kernel) rfl
theorem zj_F : Cond.initialized "WayFinder" ∈ za_tt := za_in 22 (by decide +kernel) rfl
theorem zi_M : Cond.instantiable "WayFinderModel" 32 ∈ za_tt := za_in 482 (by decide +kernel) rfl
theorem zj_M : Cond.initialized "WayFinderModel" ∈ za_tt := za_in 27 (by decide +kernel) rfl
theorem zj_Throwable : Cond.initialized "java/lang/Throwable" ∈ za_tt := za_in 28 (by decide +kernel) rfl
theorem zj_Exception : Cond.initialized "java/lang/Exception" ∈ za_tt := za_in 29 (by decide +kernel) rfl
theorem zj_RuntimeException : Cond.initialized "java/lang/RuntimeException" ∈ za_tt := za_in 30 (by decide +kernel) rfl
theorem zj_IllegalArgumentException : Cond.initialized "java/lang/IllegalArgumentException" ∈ za_tt := za_in 31 (by decide +kernel) rfl
theorem zj_IllegalStateException : Cond.initialized "java/lang/IllegalStateException" ∈ za_tt := za_in 32 (by decide +kernel) rfl
theorem zj_NoSuchElementException : Cond.initialized "java/util/NoSuchElementException" ∈ za_tt := za_in 33 (by decide +kernel) rfl
theorem zj_Math : Cond.initialized "java/lang/Math" ∈ za_tt := za_in 34 (by decide +kernel) rfl
theorem zc_L_8 : Cond.classLink "WayFinderLaw" 8 "WayFinder" ∈ za_tt := za_in 35 (by decide +kernel) rfl
theorem zo_F : Cond.methodLink "WayFinder" 1 Lib.objectInit ∈ za_tt := za_in 40 (by decide +kernel) rfl
theorem zc_F_7 : Cond.classLink "WayFinder" 7 "WayFinder$Program" ∈ za_tt := za_in 43 (by decide +kernel) rfl
theorem zo_P : Cond.methodLink "WayFinder$Program" 3 Lib.objectInit ∈ za_tt := za_in 48 (by decide +kernel) rfl
theorem zc_F_16 : Cond.classLink "WayFinder" 16 "WayFinder$Trace" ∈ za_tt := za_in 71 (by decide +kernel) rfl
theorem zo_T : Cond.methodLink "WayFinder$Trace" 3 Lib.objectInit ∈ za_tt := za_in 76 (by decide +kernel) rfl
theorem zc_F_26 : Cond.classLink "WayFinder" 26 "WayFinder$Results" ∈ za_tt := za_in 118 (by decide +kernel) rfl
theorem zo_R : Cond.methodLink "WayFinder$Results" 3 Lib.objectInit ∈ za_tt := za_in 123 (by decide +kernel) rfl
theorem zc_R_9 : Cond.classLink "WayFinder$Results" 9 "WayFinder$Way" ∈ za_tt := za_in 124 (by decide +kernel) rfl
theorem zo_W : Cond.methodLink "WayFinder$Way" 3 Lib.objectInit ∈ za_tt := za_in 130 (by decide +kernel) rfl
theorem zc_L_13 : Cond.classLink "WayFinderLaw" 13 "java/lang/IllegalArgumentException" ∈ za_tt := za_in 202 (by decide +kernel) rfl
theorem zc_L_15 : Cond.classLink "WayFinderLaw" 15 "java/lang/IllegalStateException" ∈ za_tt := za_in 203 (by decide +kernel) rfl
theorem zc_F_47 : Cond.classLink "WayFinder" 47 "java/lang/IllegalArgumentException" ∈ za_tt := za_in 217 (by decide +kernel) rfl
theorem zk_IllegalArgumentException : Cond.castable "java/lang/IllegalArgumentException" "java/lang/IllegalArgumentException" ∈ za_tt := za_in 219 (by decide +kernel) rfl
theorem zc_F_53 : Cond.classLink "WayFinder" 53 "java/lang/IllegalStateException" ∈ za_tt := za_in 280 (by decide +kernel) rfl
theorem zk_IllegalStateException : Cond.castable "java/lang/IllegalStateException" "java/lang/IllegalStateException" ∈ za_tt := za_in 282 (by decide +kernel) rfl
theorem zc_L_21 : Cond.classLink "WayFinderLaw" 21 "java/util/NoSuchElementException" ∈ za_tt := za_in 302 (by decide +kernel) rfl
theorem zc_F_60 : Cond.classLink "WayFinder" 60 "java/util/NoSuchElementException" ∈ za_tt := za_in 307 (by decide +kernel) rfl
theorem zk_NoSuchElementException : Cond.castable "java/util/NoSuchElementException" "java/util/NoSuchElementException" ∈ za_tt := za_in 309 (by decide +kernel) rfl
theorem zmin_R : Cond.methodLink "WayFinder$Results" 62 Lib.Math.min.name ∈ za_tt := za_in 471 (by decide +kernel) rfl
theorem zc_L_53 : Cond.classLink "WayFinderLaw" 53 "WayFinderModel" ∈ za_tt := za_in 481 (by decide +kernel) rfl
theorem zo_M : Cond.methodLink "WayFinderModel" 1 Lib.objectInit ∈ za_tt := za_in 486 (by decide +kernel) rfl
theorem zo_1 : Cond.instanceMethod Lib.objectInit ∈ za_tt := za_in 41 (by decide +kernel) rfl
theorem zo_2 : Cond.code Lib.objectInit ⟨#[0xb1]⟩ 1 none ∈ za_tt := za_in 42 (by decide +kernel) rfl
theorem zm_1 : Cond.static Lib.Math.min.name ∈ za_tt := za_in 472 (by decide +kernel) rfl
theorem zm_2 : Cond.code Lib.Math.min.name Lib.Math.min.code 2 (some .int) ∈ za_tt := za_in 473 (by decide +kernel) rfl
theorem za_intA : Cond.arrayClass .int ∈ za_tt := za_in 70 (by decide +kernel) rfl
theorem za_wayA : Cond.arrayOver (.object "WayFinder$Way") ∈ za_tt := za_in 125 (by decide +kernel) rfl
theorem za_longA : Cond.arrayClass .long ∈ za_tt := za_in 584 (by decide +kernel) rfl
