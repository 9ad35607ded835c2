/-! THE LAW'S OWN ROWS -/
def cd_L_0 : List (Nat × Instr × Nat) := [(0, .new 8, 3), (3, .dup, 1), (4, .invokespecial 52, 3), (7, .astore_n 1, 1), (8, .new 53, 3), (11, .dup, 1), (12, .invokespecial 55, 3), (15, .astore_n 2, 1), (16, .iconst 1, 1), (17, .newarray .long, 2), (19, .astore_n 3, 1), (20, .iconst 0, 1)]
theorem cdok_L_0 : ∀ q ∈ cd_L_0, decode code q.1 = .ok q.2 := by decide +kernel
def cd_L_1 : List (Nat × Instr × Nat) := [(21, .istore 4, 2), (23, .iload 4, 2), (25, .aload_n 0, 1), (26, .arraylength, 1), (27, .iconst 5, 1), (28, .isub, 1), (29, .if_icmp .gt 766, 3), (32, .aload_n 0, 1), (33, .iload 4, 2), (35, .iaload, 1), (36, .bipush 15, 2), (38, .iand, 1)]
theorem cdok_L_1 : ∀ q ∈ cd_L_1, decode code q.1 = .ok q.2 := by decide +kernel
def cd_L_2 : List (Nat × Instr × Nat) := [(39, .tableswitch 750 0 11 #[61, 153, 197, 253, 321, 377, 421, 489, 557, 625, 681, 694], 61), (100, .aload_n 1, 1), (101, .aload_n 0, 1), (102, .iload 4, 2), (104, .iconst 1, 1), (105, .iadd, 1), (106, .iaload, 1), (107, .aload_n 0, 1), (108, .iload 4, 2), (110, .iconst 2, 1), (111, .iadd, 1), (112, .iaload, 1)]
theorem cdok_L_2 : ∀ q ∈ cd_L_2, decode code q.1 = .ok q.2 := by decide +kernel
def cd_L_3 : List (Nat × Instr × Nat) := [(113, .aload_n 0, 1), (114, .iload 4, 2), (116, .iconst 3, 1), (117, .iadd, 1), (118, .iaload, 1), (119, .aload_n 0, 1), (120, .iload 4, 2), (122, .iconst 4, 1), (123, .iadd, 1), (124, .iaload, 1), (125, .aload_n 3, 1), (126, .invokestatic 56, 3)]
theorem cdok_L_3 : ∀ q ∈ cd_L_3, decode code q.1 = .ok q.2 := by decide +kernel
def cd_L_4 : List (Nat × Instr × Nat) := [(129, .istore 5, 2), (131, .aload_n 2, 1), (132, .aload_n 0, 1), (133, .iload 4, 2), (135, .iconst 1, 1), (136, .iadd, 1), (137, .iaload, 1), (138, .aload_n 0, 1), (139, .iload 4, 2), (141, .iconst 2, 1), (142, .iadd, 1), (143, .iaload, 1)]
theorem cdok_L_4 : ∀ q ∈ cd_L_4, decode code q.1 = .ok q.2 := by decide +kernel
def cd_L_5 : List (Nat × Instr × Nat) := [(144, .aload_n 0, 1), (145, .iload 4, 2), (147, .iconst 3, 1), (148, .iadd, 1), (149, .iaload, 1), (150, .aload_n 0, 1), (151, .iload 4, 2), (153, .iconst 4, 1), (154, .iadd, 1), (155, .iaload, 1), (156, .invokevirtual 61, 3), (159, .istore 6, 2)]
theorem cdok_L_5 : ∀ q ∈ cd_L_5, decode code q.1 = .ok q.2 := by decide +kernel
def cd_L_6 : List (Nat × Instr × Nat) := [(161, .aload_n 2, 1), (162, .invokevirtual 62, 3), (165, .iload 5, 2), (167, .if_icmp .eq 5, 3), (170, .iconst 0, 1), (171, .ireturn, 1), (172, .iload 5, 2), (174, .ifCond .ne 15, 3), (177, .aload_n 3, 1), (178, .iconst 0, 1), (179, .laload, 1), (180, .iload 6, 2)]
theorem cdok_L_6 : ∀ q ∈ cd_L_6, decode code q.1 = .ok q.2 := by decide +kernel
def cd_L_7 : List (Nat × Instr × Nat) := [(182, .i2l, 1), (183, .lcmp, 1), (184, .ifCond .eq 5, 3), (187, .iconst 0, 1), (188, .ireturn, 1), (189, .goto 600, 3), (192, .aload_n 1, 1), (193, .aload_n 3, 1), (194, .invokestatic 65, 3), (197, .istore 5, 2), (199, .aload_n 2, 1), (200, .invokevirtual 68, 3)]
theorem cdok_L_7 : ∀ q ∈ cd_L_7, decode code q.1 = .ok q.2 := by decide +kernel
def cd_L_8 : List (Nat × Instr × Nat) := [(203, .istore 6, 2), (205, .aload_n 2, 1), (206, .invokevirtual 62, 3), (209, .iload 5, 2), (211, .if_icmp .eq 5, 3), (214, .iconst 0, 1), (215, .ireturn, 1), (216, .iload 5, 2), (218, .ifCond .ne 15, 3), (221, .aload_n 3, 1), (222, .iconst 0, 1), (223, .laload, 1)]
theorem cdok_L_8 : ∀ q ∈ cd_L_8, decode code q.1 = .ok q.2 := by decide +kernel
def cd_L_9 : List (Nat × Instr × Nat) := [(224, .iload 6, 2), (226, .i2l, 1), (227, .lcmp, 1), (228, .ifCond .eq 5, 3), (231, .iconst 0, 1), (232, .ireturn, 1), (233, .goto 556, 3), (236, .aload_n 1, 1), (237, .aload_n 0, 1), (238, .iload 4, 2), (240, .iconst 1, 1), (241, .iadd, 1)]
theorem cdok_L_9 : ∀ q ∈ cd_L_9, decode code q.1 = .ok q.2 := by decide +kernel
def cd_L_10 : List (Nat × Instr × Nat) := [(242, .iaload, 1), (243, .aload_n 3, 1), (244, .invokestatic 69, 3), (247, .istore 5, 2), (249, .aload_n 2, 1), (250, .aload_n 0, 1), (251, .iload 4, 2), (253, .iconst 1, 1), (254, .iadd, 1), (255, .iaload, 1), (256, .invokevirtual 72, 3), (259, .istore 6, 2)]
theorem cdok_L_10 : ∀ q ∈ cd_L_10, decode code q.1 = .ok q.2 := by decide +kernel
def cd_L_11 : List (Nat × Instr × Nat) := [(261, .aload_n 2, 1), (262, .invokevirtual 62, 3), (265, .iload 5, 2), (267, .if_icmp .eq 5, 3), (270, .iconst 0, 1), (271, .ireturn, 1), (272, .iload 5, 2), (274, .ifCond .ne 15, 3), (277, .aload_n 3, 1), (278, .iconst 0, 1), (279, .laload, 1), (280, .iload 6, 2)]
theorem cdok_L_11 : ∀ q ∈ cd_L_11, decode code q.1 = .ok q.2 := by decide +kernel
def cd_L_12 : List (Nat × Instr × Nat) := [(282, .i2l, 1), (283, .lcmp, 1), (284, .ifCond .eq 5, 3), (287, .iconst 0, 1), (288, .ireturn, 1), (289, .goto 500, 3), (292, .aload_n 1, 1), (293, .aload_n 0, 1), (294, .iload 4, 2), (296, .iconst 1, 1), (297, .iadd, 1), (298, .iaload, 1)]
theorem cdok_L_12 : ∀ q ∈ cd_L_12, decode code q.1 = .ok q.2 := by decide +kernel
def cd_L_13 : List (Nat × Instr × Nat) := [(299, .aload_n 0, 1), (300, .iload 4, 2), (302, .iconst 2, 1), (303, .iadd, 1), (304, .iaload, 1), (305, .aload_n 3, 1), (306, .invokestatic 73, 3), (309, .istore 5, 2), (311, .aload_n 2, 1), (312, .aload_n 0, 1), (313, .iload 4, 2), (315, .iconst 1, 1)]
theorem cdok_L_13 : ∀ q ∈ cd_L_13, decode code q.1 = .ok q.2 := by decide +kernel
def cd_L_14 : List (Nat × Instr × Nat) := [(316, .iadd, 1), (317, .iaload, 1), (318, .aload_n 0, 1), (319, .iload 4, 2), (321, .iconst 2, 1), (322, .iadd, 1), (323, .iaload, 1), (324, .invokevirtual 76, 3), (327, .istore 6, 2), (329, .aload_n 2, 1), (330, .invokevirtual 62, 3), (333, .iload 5, 2)]
theorem cdok_L_14 : ∀ q ∈ cd_L_14, decode code q.1 = .ok q.2 := by decide +kernel
def cd_L_15 : List (Nat × Instr × Nat) := [(335, .if_icmp .eq 5, 3), (338, .iconst 0, 1), (339, .ireturn, 1), (340, .iload 5, 2), (342, .ifCond .ne 15, 3), (345, .aload_n 3, 1), (346, .iconst 0, 1), (347, .laload, 1), (348, .iload 6, 2), (350, .i2l, 1), (351, .lcmp, 1), (352, .ifCond .eq 5, 3)]
theorem cdok_L_15 : ∀ q ∈ cd_L_15, decode code q.1 = .ok q.2 := by decide +kernel
def cd_L_16 : List (Nat × Instr × Nat) := [(355, .iconst 0, 1), (356, .ireturn, 1), (357, .goto 432, 3), (360, .aload_n 1, 1), (361, .aload_n 0, 1), (362, .iload 4, 2), (364, .iconst 1, 1), (365, .iadd, 1), (366, .iaload, 1), (367, .aload_n 3, 1), (368, .invokestatic 77, 3), (371, .istore 5, 2)]
theorem cdok_L_16 : ∀ q ∈ cd_L_16, decode code q.1 = .ok q.2 := by decide +kernel
def cd_L_17 : List (Nat × Instr × Nat) := [(373, .aload_n 2, 1), (374, .aload_n 0, 1), (375, .iload 4, 2), (377, .iconst 1, 1), (378, .iadd, 1), (379, .iaload, 1), (380, .invokevirtual 79, 3), (383, .istore 6, 2), (385, .aload_n 2, 1), (386, .invokevirtual 62, 3), (389, .iload 5, 2), (391, .if_icmp .eq 5, 3)]
theorem cdok_L_17 : ∀ q ∈ cd_L_17, decode code q.1 = .ok q.2 := by decide +kernel
def cd_L_18 : List (Nat × Instr × Nat) := [(394, .iconst 0, 1), (395, .ireturn, 1), (396, .iload 5, 2), (398, .ifCond .ne 15, 3), (401, .aload_n 3, 1), (402, .iconst 0, 1), (403, .laload, 1), (404, .iload 6, 2), (406, .i2l, 1), (407, .lcmp, 1), (408, .ifCond .eq 5, 3), (411, .iconst 0, 1)]
theorem cdok_L_18 : ∀ q ∈ cd_L_18, decode code q.1 = .ok q.2 := by decide +kernel
def cd_L_19 : List (Nat × Instr × Nat) := [(412, .ireturn, 1), (413, .goto 376, 3), (416, .aload_n 1, 1), (417, .aload_n 3, 1), (418, .invokestatic 80, 3), (421, .istore 5, 2), (423, .aload_n 2, 1), (424, .invokevirtual 82, 3), (427, .istore 6, 2), (429, .aload_n 2, 1), (430, .invokevirtual 62, 3), (433, .iload 5, 2)]
theorem cdok_L_19 : ∀ q ∈ cd_L_19, decode code q.1 = .ok q.2 := by decide +kernel
def cd_L_20 : List (Nat × Instr × Nat) := [(435, .if_icmp .eq 5, 3), (438, .iconst 0, 1), (439, .ireturn, 1), (440, .iload 5, 2), (442, .ifCond .ne 15, 3), (445, .aload_n 3, 1), (446, .iconst 0, 1), (447, .laload, 1), (448, .iload 6, 2), (450, .i2l, 1), (451, .lcmp, 1), (452, .ifCond .eq 5, 3)]
theorem cdok_L_20 : ∀ q ∈ cd_L_20, decode code q.1 = .ok q.2 := by decide +kernel
def cd_L_21 : List (Nat × Instr × Nat) := [(455, .iconst 0, 1), (456, .ireturn, 1), (457, .goto 332, 3), (460, .aload_n 1, 1), (461, .aload_n 0, 1), (462, .iload 4, 2), (464, .iconst 1, 1), (465, .iadd, 1), (466, .iaload, 1), (467, .aload_n 0, 1), (468, .iload 4, 2), (470, .iconst 2, 1)]
theorem cdok_L_21 : ∀ q ∈ cd_L_21, decode code q.1 = .ok q.2 := by decide +kernel
def cd_L_22 : List (Nat × Instr × Nat) := [(471, .iadd, 1), (472, .iaload, 1), (473, .aload_n 3, 1), (474, .invokestatic 83, 3), (477, .istore 5, 2), (479, .aload_n 2, 1), (480, .aload_n 0, 1), (481, .iload 4, 2), (483, .iconst 1, 1), (484, .iadd, 1), (485, .iaload, 1), (486, .aload_n 0, 1)]
theorem cdok_L_22 : ∀ q ∈ cd_L_22, decode code q.1 = .ok q.2 := by decide +kernel
def cd_L_23 : List (Nat × Instr × Nat) := [(487, .iload 4, 2), (489, .iconst 2, 1), (490, .iadd, 1), (491, .iaload, 1), (492, .invokevirtual 85, 3), (495, .istore 6, 2), (497, .aload_n 2, 1), (498, .invokevirtual 62, 3), (501, .iload 5, 2), (503, .if_icmp .eq 5, 3), (506, .iconst 0, 1), (507, .ireturn, 1)]
theorem cdok_L_23 : ∀ q ∈ cd_L_23, decode code q.1 = .ok q.2 := by decide +kernel
def cd_L_24 : List (Nat × Instr × Nat) := [(508, .iload 5, 2), (510, .ifCond .ne 15, 3), (513, .aload_n 3, 1), (514, .iconst 0, 1), (515, .laload, 1), (516, .iload 6, 2), (518, .i2l, 1), (519, .lcmp, 1), (520, .ifCond .eq 5, 3), (523, .iconst 0, 1), (524, .ireturn, 1), (525, .goto 264, 3)]
theorem cdok_L_24 : ∀ q ∈ cd_L_24, decode code q.1 = .ok q.2 := by decide +kernel
def cd_L_25 : List (Nat × Instr × Nat) := [(528, .aload_n 1, 1), (529, .aload_n 0, 1), (530, .iload 4, 2), (532, .iconst 1, 1), (533, .iadd, 1), (534, .iaload, 1), (535, .aload_n 0, 1), (536, .iload 4, 2), (538, .iconst 2, 1), (539, .iadd, 1), (540, .iaload, 1), (541, .aload_n 3, 1)]
theorem cdok_L_25 : ∀ q ∈ cd_L_25, decode code q.1 = .ok q.2 := by decide +kernel
def cd_L_26 : List (Nat × Instr × Nat) := [(542, .invokestatic 86, 3), (545, .istore 5, 2), (547, .aload_n 2, 1), (548, .aload_n 0, 1), (549, .iload 4, 2), (551, .iconst 1, 1), (552, .iadd, 1), (553, .iaload, 1), (554, .aload_n 0, 1), (555, .iload 4, 2), (557, .iconst 2, 1), (558, .iadd, 1)]
theorem cdok_L_26 : ∀ q ∈ cd_L_26, decode code q.1 = .ok q.2 := by decide +kernel
def cd_L_27 : List (Nat × Instr × Nat) := [(559, .iaload, 1), (560, .invokevirtual 88, 3), (563, .istore 6, 2), (565, .aload_n 2, 1), (566, .invokevirtual 62, 3), (569, .iload 5, 2), (571, .if_icmp .eq 5, 3), (574, .iconst 0, 1), (575, .ireturn, 1), (576, .iload 5, 2), (578, .ifCond .ne 15, 3), (581, .aload_n 3, 1)]
theorem cdok_L_27 : ∀ q ∈ cd_L_27, decode code q.1 = .ok q.2 := by decide +kernel
def cd_L_28 : List (Nat × Instr × Nat) := [(582, .iconst 0, 1), (583, .laload, 1), (584, .iload 6, 2), (586, .i2l, 1), (587, .lcmp, 1), (588, .ifCond .eq 5, 3), (591, .iconst 0, 1), (592, .ireturn, 1), (593, .goto 196, 3), (596, .aload_n 1, 1), (597, .aload_n 0, 1), (598, .iload 4, 2)]
theorem cdok_L_28 : ∀ q ∈ cd_L_28, decode code q.1 = .ok q.2 := by decide +kernel
def cd_L_29 : List (Nat × Instr × Nat) := [(600, .iconst 1, 1), (601, .iadd, 1), (602, .iaload, 1), (603, .aload_n 0, 1), (604, .iload 4, 2), (606, .iconst 2, 1), (607, .iadd, 1), (608, .iaload, 1), (609, .aload_n 3, 1), (610, .invokestatic 89, 3), (613, .istore 5, 2), (615, .aload_n 2, 1)]
theorem cdok_L_29 : ∀ q ∈ cd_L_29, decode code q.1 = .ok q.2 := by decide +kernel
def cd_L_30 : List (Nat × Instr × Nat) := [(616, .aload_n 0, 1), (617, .iload 4, 2), (619, .iconst 1, 1), (620, .iadd, 1), (621, .iaload, 1), (622, .aload_n 0, 1), (623, .iload 4, 2), (625, .iconst 2, 1), (626, .iadd, 1), (627, .iaload, 1), (628, .invokevirtual 91, 3), (631, .istore 6, 2)]
theorem cdok_L_30 : ∀ q ∈ cd_L_30, decode code q.1 = .ok q.2 := by decide +kernel
def cd_L_31 : List (Nat × Instr × Nat) := [(633, .aload_n 2, 1), (634, .invokevirtual 62, 3), (637, .iload 5, 2), (639, .if_icmp .eq 5, 3), (642, .iconst 0, 1), (643, .ireturn, 1), (644, .iload 5, 2), (646, .ifCond .ne 15, 3), (649, .aload_n 3, 1), (650, .iconst 0, 1), (651, .laload, 1), (652, .iload 6, 2)]
theorem cdok_L_31 : ∀ q ∈ cd_L_31, decode code q.1 = .ok q.2 := by decide +kernel
def cd_L_32 : List (Nat × Instr × Nat) := [(654, .i2l, 1), (655, .lcmp, 1), (656, .ifCond .eq 5, 3), (659, .iconst 0, 1), (660, .ireturn, 1), (661, .goto 128, 3), (664, .aload_n 1, 1), (665, .aload_n 0, 1), (666, .iload 4, 2), (668, .iconst 1, 1), (669, .iadd, 1), (670, .iaload, 1)]
theorem cdok_L_32 : ∀ q ∈ cd_L_32, decode code q.1 = .ok q.2 := by decide +kernel
def cd_L_33 : List (Nat × Instr × Nat) := [(671, .aload_n 3, 1), (672, .invokestatic 92, 3), (675, .istore 5, 2), (677, .aload_n 2, 1), (678, .aload_n 0, 1), (679, .iload 4, 2), (681, .iconst 1, 1), (682, .iadd, 1), (683, .iaload, 1), (684, .invokevirtual 94, 3), (687, .istore 6, 2), (689, .aload_n 2, 1)]
theorem cdok_L_33 : ∀ q ∈ cd_L_33, decode code q.1 = .ok q.2 := by decide +kernel
def cd_L_34 : List (Nat × Instr × Nat) := [(690, .invokevirtual 62, 3), (693, .iload 5, 2), (695, .if_icmp .eq 5, 3), (698, .iconst 0, 1), (699, .ireturn, 1), (700, .iload 5, 2), (702, .ifCond .ne 15, 3), (705, .aload_n 3, 1), (706, .iconst 0, 1), (707, .laload, 1), (708, .iload 6, 2), (710, .i2l, 1)]
theorem cdok_L_34 : ∀ q ∈ cd_L_34, decode code q.1 = .ok q.2 := by decide +kernel
def cd_L_35 : List (Nat × Instr × Nat) := [(711, .lcmp, 1), (712, .ifCond .eq 5, 3), (715, .iconst 0, 1), (716, .ireturn, 1), (717, .goto 72, 3), (720, .aload_n 1, 1), (721, .invokevirtual 95, 3), (724, .aload_n 2, 1), (725, .invokevirtual 98, 3), (728, .if_icmp .eq 61, 3), (731, .iconst 0, 1), (732, .ireturn, 1)]
theorem cdok_L_35 : ∀ q ∈ cd_L_35, decode code q.1 = .ok q.2 := by decide +kernel
def cd_L_36 : List (Nat × Instr × Nat) := [(733, .aload_n 1, 1), (734, .aload_n 0, 1), (735, .iload 4, 2), (737, .iconst 1, 1), (738, .iadd, 1), (739, .iaload, 1), (740, .aload_n 3, 1), (741, .invokestatic 99, 3), (744, .istore 5, 2), (746, .aload_n 2, 1), (747, .aload_n 0, 1), (748, .iload 4, 2)]
theorem cdok_L_36 : ∀ q ∈ cd_L_36, decode code q.1 = .ok q.2 := by decide +kernel
def cd_L_37 : List (Nat × Instr × Nat) := [(750, .iconst 1, 1), (751, .iadd, 1), (752, .iaload, 1), (753, .invokevirtual 101, 3), (756, .istore 6, 2), (758, .aload_n 2, 1), (759, .invokevirtual 62, 3), (762, .iload 5, 2), (764, .if_icmp .eq 5, 3), (767, .iconst 0, 1), (768, .ireturn, 1), (769, .iload 5, 2)]
theorem cdok_L_37 : ∀ q ∈ cd_L_37, decode code q.1 = .ok q.2 := by decide +kernel
def cd_L_38 : List (Nat × Instr × Nat) := [(771, .ifCond .ne 15, 3), (774, .aload_n 3, 1), (775, .iconst 0, 1), (776, .laload, 1), (777, .iload 6, 2), (779, .i2l, 1), (780, .lcmp, 1), (781, .ifCond .eq 5, 3), (784, .iconst 0, 1), (785, .ireturn, 1), (786, .goto 3, 3), (789, .iinc 4 5, 3)]
theorem cdok_L_38 : ∀ q ∈ cd_L_38, decode code q.1 = .ok q.2 := by decide +kernel
def cd_L_39 : List (Nat × Instr × Nat) := [(792, .goto (-769), 3), (795, .iconst 1, 1), (796, .ireturn, 1)]
theorem cdok_L_39 : ∀ q ∈ cd_L_39, decode code q.1 = .ok q.2 := by decide +kernel
def cd_L_law : List (Nat × Instr × Nat) := [(0, .new 8, 3), (3, .dup, 1), (4, .invokespecial 52, 3), (7, .astore_n 1, 1), (8, .new 53, 3), (11, .dup, 1), (12, .invokespecial 55, 3), (15, .astore_n 2, 1), (16, .iconst 1, 1), (17, .newarray .long, 2), (19, .astore_n 3, 1), (20, .iconst 0, 1), (21, .istore 4, 2), (23, .iload 4, 2), (25, .aload_n 0, 1), (26, .arraylength, 1), (27, .iconst 5, 1), (28, .isub, 1), (29, .if_icmp .gt 766, 3), (32, .aload_n 0, 1), (33, .iload 4, 2), (35, .iaload, 1), (36, .bipush 15, 2), (38, .iand, 1), (39, .tableswitch 750 0 11 #[61, 153, 197, 253, 321, 377, 421, 489, 557, 625, 681, 694], 61), (100, .aload_n 1, 1), (101, .aload_n 0, 1), (102, .iload 4, 2), (104, .iconst 1, 1), (105, .iadd, 1), (106, .iaload, 1), (107, .aload_n 0, 1), (108, .iload 4, 2), (110, .iconst 2, 1), (111, .iadd, 1), (112, .iaload, 1), (113, .aload_n 0, 1), (114, .iload 4, 2), (116, .iconst 3, 1), (117, .iadd, 1), (118, .iaload, 1), (119, .aload_n 0, 1), (120, .iload 4, 2), (122, .iconst 4, 1), (123, .iadd, 1), (124, .iaload, 1), (125, .aload_n 3, 1), (126, .invokestatic 56, 3), (129, .istore 5, 2), (131, .aload_n 2, 1), (132, .aload_n 0, 1), (133, .iload 4, 2), (135, .iconst 1, 1), (136, .iadd, 1), (137, .iaload, 1), (138, .aload_n 0, 1), (139, .iload 4, 2), (141, .iconst 2, 1), (142, .iadd, 1), (143, .iaload, 1), (144, .aload_n 0, 1), (145, .iload 4, 2), (147, .iconst 3, 1), (148, .iadd, 1), (149, .iaload, 1), (150, .aload_n 0, 1), (151, .iload 4, 2), (153, .iconst 4, 1), (154, .iadd, 1), (155, .iaload, 1), (156, .invokevirtual 61, 3), (159, .istore 6, 2), (161, .aload_n 2, 1), (162, .invokevirtual 62, 3), (165, .iload 5, 2), (167, .if_icmp .eq 5, 3), (170, .iconst 0, 1), (171, .ireturn, 1), (172, .iload 5, 2), (174, .ifCond .ne 15, 3), (177, .aload_n 3, 1), (178, .iconst 0, 1), (179, .laload, 1), (180, .iload 6, 2), (182, .i2l, 1), (183, .lcmp, 1), (184, .ifCond .eq 5, 3), (187, .iconst 0, 1), (188, .ireturn, 1), (189, .goto 600, 3), (192, .aload_n 1, 1), (193, .aload_n 3, 1), (194, .invokestatic 65, 3), (197, .istore 5, 2), (199, .aload_n 2, 1), (200, .invokevirtual 68, 3), (203, .istore 6, 2), (205, .aload_n 2, 1), (206, .invokevirtual 62, 3), (209, .iload 5, 2), (211, .if_icmp .eq 5, 3), (214, .iconst 0, 1), (215, .ireturn, 1), (216, .iload 5, 2), (218, .ifCond .ne 15, 3), (221, .aload_n 3, 1), (222, .iconst 0, 1), (223, .laload, 1), (224, .iload 6, 2), (226, .i2l, 1), (227, .lcmp, 1), (228, .ifCond .eq 5, 3), (231, .iconst 0, 1), (232, .ireturn, 1), (233, .goto 556, 3), (236, .aload_n 1, 1), (237, .aload_n 0, 1), (238, .iload 4, 2), (240, .iconst 1, 1), (241, .iadd, 1), (242, .iaload, 1), (243, .aload_n 3, 1), (244, .invokestatic 69, 3), (247, .istore 5, 2), (249, .aload_n 2, 1), (250, .aload_n 0, 1), (251, .iload 4, 2), (253, .iconst 1, 1), (254, .iadd, 1), (255, .iaload, 1), (256, .invokevirtual 72, 3), (259, .istore 6, 2), (261, .aload_n 2, 1), (262, .invokevirtual 62, 3), (265, .iload 5, 2), (267, .if_icmp .eq 5, 3), (270, .iconst 0, 1), (271, .ireturn, 1), (272, .iload 5, 2), (274, .ifCond .ne 15, 3), (277, .aload_n 3, 1), (278, .iconst 0, 1), (279, .laload, 1), (280, .iload 6, 2), (282, .i2l, 1), (283, .lcmp, 1), (284, .ifCond .eq 5, 3), (287, .iconst 0, 1), (288, .ireturn, 1), (289, .goto 500, 3), (292, .aload_n 1, 1), (293, .aload_n 0, 1), (294, .iload 4, 2), (296, .iconst 1, 1), (297, .iadd, 1), (298, .iaload, 1), (299, .aload_n 0, 1), (300, .iload 4, 2), (302, .iconst 2, 1), (303, .iadd, 1), (304, .iaload, 1), (305, .aload_n 3, 1), (306, .invokestatic 73, 3), (309, .istore 5, 2), (311, .aload_n 2, 1), (312, .aload_n 0, 1), (313, .iload 4, 2), (315, .iconst 1, 1), (316, .iadd, 1), (317, .iaload, 1), (318, .aload_n 0, 1), (319, .iload 4, 2), (321, .iconst 2, 1), (322, .iadd, 1), (323, .iaload, 1), (324, .invokevirtual 76, 3), (327, .istore 6, 2), (329, .aload_n 2, 1), (330, .invokevirtual 62, 3), (333, .iload 5, 2), (335, .if_icmp .eq 5, 3), (338, .iconst 0, 1), (339, .ireturn, 1), (340, .iload 5, 2), (342, .ifCond .ne 15, 3), (345, .aload_n 3, 1), (346, .iconst 0, 1), (347, .laload, 1), (348, .iload 6, 2), (350, .i2l, 1), (351, .lcmp, 1), (352, .ifCond .eq 5, 3), (355, .iconst 0, 1), (356, .ireturn, 1), (357, .goto 432, 3), (360, .aload_n 1, 1), (361, .aload_n 0, 1), (362, .iload 4, 2), (364, .iconst 1, 1), (365, .iadd, 1), (366, .iaload, 1), (367, .aload_n 3, 1), (368, .invokestatic 77, 3), (371, .istore 5, 2), (373, .aload_n 2, 1), (374, .aload_n 0, 1), (375, .iload 4, 2), (377, .iconst 1, 1), (378, .iadd, 1), (379, .iaload, 1), (380, .invokevirtual 79, 3), (383, .istore 6, 2), (385, .aload_n 2, 1), (386, .invokevirtual 62, 3), (389, .iload 5, 2), (391, .if_icmp .eq 5, 3), (394, .iconst 0, 1), (395, .ireturn, 1), (396, .iload 5, 2), (398, .ifCond .ne 15, 3), (401, .aload_n 3, 1), (402, .iconst 0, 1), (403, .laload, 1), (404, .iload 6, 2), (406, .i2l, 1), (407, .lcmp, 1), (408, .ifCond .eq 5, 3), (411, .iconst 0, 1), (412, .ireturn, 1), (413, .goto 376, 3), (416, .aload_n 1, 1), (417, .aload_n 3, 1), (418, .invokestatic 80, 3), (421, .istore 5, 2), (423, .aload_n 2, 1), (424, .invokevirtual 82, 3), (427, .istore 6, 2), (429, .aload_n 2, 1), (430, .invokevirtual 62, 3), (433, .iload 5, 2), (435, .if_icmp .eq 5, 3), (438, .iconst 0, 1), (439, .ireturn, 1), (440, .iload 5, 2), (442, .ifCond .ne 15, 3), (445, .aload_n 3, 1), (446, .iconst 0, 1), (447, .laload, 1), (448, .iload 6, 2), (450, .i2l, 1), (451, .lcmp, 1), (452, .ifCond .eq 5, 3), (455, .iconst 0, 1), (456, .ireturn, 1), (457, .goto 332, 3), (460, .aload_n 1, 1), (461, .aload_n 0, 1), (462, .iload 4, 2), (464, .iconst 1, 1), (465, .iadd, 1), (466, .iaload, 1), (467, .aload_n 0, 1), (468, .iload 4, 2), (470, .iconst 2, 1), (471, .iadd, 1), (472, .iaload, 1), (473, .aload_n 3, 1), (474, .invokestatic 83, 3), (477, .istore 5, 2), (479, .aload_n 2, 1), (480, .aload_n 0, 1), (481, .iload 4, 2), (483, .iconst 1, 1), (484, .iadd, 1), (485, .iaload, 1), (486, .aload_n 0, 1), (487, .iload 4, 2), (489, .iconst 2, 1), (490, .iadd, 1), (491, .iaload, 1), (492, .invokevirtual 85, 3), (495, .istore 6, 2), (497, .aload_n 2, 1), (498, .invokevirtual 62, 3), (501, .iload 5, 2), (503, .if_icmp .eq 5, 3), (506, .iconst 0, 1), (507, .ireturn, 1), (508, .iload 5, 2), (510, .ifCond .ne 15, 3), (513, .aload_n 3, 1), (514, .iconst 0, 1), (515, .laload, 1), (516, .iload 6, 2), (518, .i2l, 1), (519, .lcmp, 1), (520, .ifCond .eq 5, 3), (523, .iconst 0, 1), (524, .ireturn, 1), (525, .goto 264, 3), (528, .aload_n 1, 1), (529, .aload_n 0, 1), (530, .iload 4, 2), (532, .iconst 1, 1), (533, .iadd, 1), (534, .iaload, 1), (535, .aload_n 0, 1), (536, .iload 4, 2), (538, .iconst 2, 1), (539, .iadd, 1), (540, .iaload, 1), (541, .aload_n 3, 1), (542, .invokestatic 86, 3), (545, .istore 5, 2), (547, .aload_n 2, 1), (548, .aload_n 0, 1), (549, .iload 4, 2), (551, .iconst 1, 1), (552, .iadd, 1), (553, .iaload, 1), (554, .aload_n 0, 1), (555, .iload 4, 2), (557, .iconst 2, 1), (558, .iadd, 1), (559, .iaload, 1), (560, .invokevirtual 88, 3), (563, .istore 6, 2), (565, .aload_n 2, 1), (566, .invokevirtual 62, 3), (569, .iload 5, 2), (571, .if_icmp .eq 5, 3), (574, .iconst 0, 1), (575, .ireturn, 1), (576, .iload 5, 2), (578, .ifCond .ne 15, 3), (581, .aload_n 3, 1), (582, .iconst 0, 1), (583, .laload, 1), (584, .iload 6, 2), (586, .i2l, 1), (587, .lcmp, 1), (588, .ifCond .eq 5, 3), (591, .iconst 0, 1), (592, .ireturn, 1), (593, .goto 196, 3), (596, .aload_n 1, 1), (597, .aload_n 0, 1), (598, .iload 4, 2), (600, .iconst 1, 1), (601, .iadd, 1), (602, .iaload, 1), (603, .aload_n 0, 1), (604, .iload 4, 2), (606, .iconst 2, 1), (607, .iadd, 1), (608, .iaload, 1), (609, .aload_n 3, 1), (610, .invokestatic 89, 3), (613, .istore 5, 2), (615, .aload_n 2, 1), (616, .aload_n 0, 1), (617, .iload 4, 2), (619, .iconst 1, 1), (620, .iadd, 1), (621, .iaload, 1), (622, .aload_n 0, 1), (623, .iload 4, 2), (625, .iconst 2, 1), (626, .iadd, 1), (627, .iaload, 1), (628, .invokevirtual 91, 3), (631, .istore 6, 2), (633, .aload_n 2, 1), (634, .invokevirtual 62, 3), (637, .iload 5, 2), (639, .if_icmp .eq 5, 3), (642, .iconst 0, 1), (643, .ireturn, 1), (644, .iload 5, 2), (646, .ifCond .ne 15, 3), (649, .aload_n 3, 1), (650, .iconst 0, 1), (651, .laload, 1), (652, .iload 6, 2), (654, .i2l, 1), (655, .lcmp, 1), (656, .ifCond .eq 5, 3), (659, .iconst 0, 1), (660, .ireturn, 1), (661, .goto 128, 3), (664, .aload_n 1, 1), (665, .aload_n 0, 1), (666, .iload 4, 2), (668, .iconst 1, 1), (669, .iadd, 1), (670, .iaload, 1), (671, .aload_n 3, 1), (672, .invokestatic 92, 3), (675, .istore 5, 2), (677, .aload_n 2, 1), (678, .aload_n 0, 1), (679, .iload 4, 2), (681, .iconst 1, 1), (682, .iadd, 1), (683, .iaload, 1), (684, .invokevirtual 94, 3), (687, .istore 6, 2), (689, .aload_n 2, 1), (690, .invokevirtual 62, 3), (693, .iload 5, 2), (695, .if_icmp .eq 5, 3), (698, .iconst 0, 1), (699, .ireturn, 1), (700, .iload 5, 2), (702, .ifCond .ne 15, 3), (705, .aload_n 3, 1), (706, .iconst 0, 1), (707, .laload, 1), (708, .iload 6, 2), (710, .i2l, 1), (711, .lcmp, 1), (712, .ifCond .eq 5, 3), (715, .iconst 0, 1), (716, .ireturn, 1), (717, .goto 72, 3), (720, .aload_n 1, 1), (721, .invokevirtual 95, 3), (724, .aload_n 2, 1), (725, .invokevirtual 98, 3), (728, .if_icmp .eq 61, 3), (731, .iconst 0, 1), (732, .ireturn, 1), (733, .aload_n 1, 1), (734, .aload_n 0, 1), (735, .iload 4, 2), (737, .iconst 1, 1), (738, .iadd, 1), (739, .iaload, 1), (740, .aload_n 3, 1), (741, .invokestatic 99, 3), (744, .istore 5, 2), (746, .aload_n 2, 1), (747, .aload_n 0, 1), (748, .iload 4, 2), (750, .iconst 1, 1), (751, .iadd, 1), (752, .iaload, 1), (753, .invokevirtual 101, 3), (756, .istore 6, 2), (758, .aload_n 2, 1), (759, .invokevirtual 62, 3), (762, .iload 5, 2), (764, .if_icmp .eq 5, 3), (767, .iconst 0, 1), (768, .ireturn, 1), (769, .iload 5, 2), (771, .ifCond .ne 15, 3), (774, .aload_n 3, 1), (775, .iconst 0, 1), (776, .laload, 1), (777, .iload 6, 2), (779, .i2l, 1), (780, .lcmp, 1), (781, .ifCond .eq 5, 3), (784, .iconst 0, 1), (785, .ireturn, 1), (786, .goto 3, 3), (789, .iinc 4 5, 3), (792, .goto (-769), 3), (795, .iconst 1, 1), (796, .ireturn, 1)]
set_option maxRecDepth 100000 in
theorem cd_L_app : cd_L_law = (cd_L_0 ++ (cd_L_1 ++ (cd_L_2 ++ (cd_L_3 ++ (cd_L_4 ++ (cd_L_5 ++ (cd_L_6 ++ (cd_L_7 ++ (cd_L_8 ++ (cd_L_9 ++ (cd_L_10 ++ (cd_L_11 ++ (cd_L_12 ++ (cd_L_13 ++ (cd_L_14 ++ (cd_L_15 ++ (cd_L_16 ++ (cd_L_17 ++ (cd_L_18 ++ (cd_L_19 ++ (cd_L_20 ++ (cd_L_21 ++ (cd_L_22 ++ (cd_L_23 ++ (cd_L_24 ++ (cd_L_25 ++ (cd_L_26 ++ (cd_L_27 ++ (cd_L_28 ++ (cd_L_29 ++ (cd_L_30 ++ (cd_L_31 ++ (cd_L_32 ++ (cd_L_33 ++ (cd_L_34 ++ (cd_L_35 ++ (cd_L_36 ++ (cd_L_37 ++ (cd_L_38 ++ (cd_L_39 ++ [])))))))))))))))))))))))))))))))))))))))) := rfl
theorem cdok_L_law : ∀ q ∈ cd_L_law, decode code q.1 = .ok q.2 := by
  rw [cd_L_app]
  intro q hq
  rcases List.mem_append.mp hq with hq | hq
  · exact cdok_L_0 q hq
  rcases List.mem_append.mp hq with hq | hq
  · exact cdok_L_1 q hq
  rcases List.mem_append.mp hq with hq | hq
  · exact cdok_L_2 q hq
  rcases List.mem_append.mp hq with hq | hq
  · exact cdok_L_3 q hq
  rcases List.mem_append.mp hq with hq | hq
  · exact cdok_L_4 q hq
  rcases List.mem_append.mp hq with hq | hq
  · exact cdok_L_5 q hq
  rcases List.mem_append.mp hq with hq | hq
  · exact cdok_L_6 q hq
  rcases List.mem_append.mp hq with hq | hq
  · exact cdok_L_7 q hq
  rcases List.mem_append.mp hq with hq | hq
  · exact cdok_L_8 q hq
  rcases List.mem_append.mp hq with hq | hq
  · exact cdok_L_9 q hq
  rcases List.mem_append.mp hq with hq | hq
  · exact cdok_L_10 q hq
  rcases List.mem_append.mp hq with hq | hq
  · exact cdok_L_11 q hq
  rcases List.mem_append.mp hq with hq | hq
  · exact cdok_L_12 q hq
  rcases List.mem_append.mp hq with hq | hq
  · exact cdok_L_13 q hq
  rcases List.mem_append.mp hq with hq | hq
  · exact cdok_L_14 q hq
  rcases List.mem_append.mp hq with hq | hq
  · exact cdok_L_15 q hq
  rcases List.mem_append.mp hq with hq | hq
  · exact cdok_L_16 q hq
  rcases List.mem_append.mp hq with hq | hq
  · exact cdok_L_17 q hq
  rcases List.mem_append.mp hq with hq | hq
  · exact cdok_L_18 q hq
  rcases List.mem_append.mp hq with hq | hq
  · exact cdok_L_19 q hq
  rcases List.mem_append.mp hq with hq | hq
  · exact cdok_L_20 q hq
  rcases List.mem_append.mp hq with hq | hq
  · exact cdok_L_21 q hq
  rcases List.mem_append.mp hq with hq | hq
  · exact cdok_L_22 q hq
  rcases List.mem_append.mp hq with hq | hq
  · exact cdok_L_23 q hq
  rcases List.mem_append.mp hq with hq | hq
  · exact cdok_L_24 q hq
  rcases List.mem_append.mp hq with hq | hq
  · exact cdok_L_25 q hq
  rcases List.mem_append.mp hq with hq | hq
  · exact cdok_L_26 q hq
  rcases List.mem_append.mp hq with hq | hq
  · exact cdok_L_27 q hq
  rcases List.mem_append.mp hq with hq | hq
  · exact cdok_L_28 q hq
  rcases List.mem_append.mp hq with hq | hq
  · exact cdok_L_29 q hq
  rcases List.mem_append.mp hq with hq | hq
  · exact cdok_L_30 q hq
  rcases List.mem_append.mp hq with hq | hq
  · exact cdok_L_31 q hq
  rcases List.mem_append.mp hq with hq | hq
  · exact cdok_L_32 q hq
  rcases List.mem_append.mp hq with hq | hq
  · exact cdok_L_33 q hq
  rcases List.mem_append.mp hq with hq | hq
  · exact cdok_L_34 q hq
  rcases List.mem_append.mp hq with hq | hq
  · exact cdok_L_35 q hq
  rcases List.mem_append.mp hq with hq | hq
  · exact cdok_L_36 q hq
  rcases List.mem_append.mp hq with hq | hq
  · exact cdok_L_37 q hq
  rcases List.mem_append.mp hq with hq | hq
  · exact cdok_L_38 q hq
  rcases List.mem_append.mp hq with hq | hq
  · exact cdok_L_39 q hq
  cases hq
section ZLROWS
variable {p : Program} {l : Launch} {e : Env} {R : Room} {s : State} {m : MethodId} {b : Nat} {below : List Frame} {meth : Method} {c : Code} {D : za_D} {nL : Nat} {Q : State → Prop} {h0 : za_H} {n cells slots pc : Nat} {lv : List (Nat × za_V)} {st : List za_V} {vw : List (Nat × za_C)} {own : String} {cc : ByteArray} {cd : List (Nat × Instr × Nat)} {fl : List (Nat × Nat × Nat)} {ret : Option FieldType}
theorem zl_at0 {ls : Array Slot} (hbz : b < D.2.2) (hl : za_lh #[Value.ref b] ls nL D.2.2 lv) : ls[0]? = some (.val (.ref b)) := by
  refine hl.2.2 (0, .ref b) (List.mem_append_left _ ?_)
  show (0, Value.ref b) ∈ (bif Nat.blt b D.2.2 then [(0, Value.ref b)] else [])
  rw [show Nat.blt b D.2.2 = true from by simpa using hbz]
  exact List.mem_cons_self
theorem zl_ln (X : za_X p s m #[Value.ref b] meth c D own cc cd fl nL ret) (hbz : b < D.2.2) (hbs : b < s.heap.size) {L : Nat} {xs : Nat → Int32} (hx : va_X b L xs s s.heap) (f0 : za_fe cd pc = some (.aload_n 0, 1)) (f1 : za_fe cd (pc + 1) = some (.arraylength, 1)) (kk : za_W p l e R s m #[Value.ref b] below meth c D nL Q h0 n cells slots (pc + 2) lv (vI (Int32.ofNat L) :: st) vw) : za_W p l e R s m #[Value.ref b] below meth c D nL Q h0 n cells slots pc lv st vw := by
  intro H locs ls hR hS hl
  refine lv_aload_n X.1 X.2.1 (za_fe_ok X.2.2.2.2.2.2.1 f0) rfl (zl_at0 hbz hl) ?_
  exact va_slen X.1 X.2.1 hx hbs (Nat.not_le.mpr hbz) hS (za_fe_ok X.2.2.2.2.2.2.1 f1) (kk H locs ls hR hS hl)
theorem zl_e0 (X : za_X p s m #[Value.ref b] meth c D own cc cd fl nL ret) (hbz : b < D.2.2) (hbs : b < s.heap.size) {L : Nat} {xs : Nat → Int32} (hx : va_X b L xs s s.heap) {i : Nat} (hi : za_lg lv 4 = some (vI (nI i))) (hiL : i < L) (hL : L ≤ 2560) (f0 : za_fe cd pc = some (.aload_n 0, 1)) (f1 : za_fe cd (pc + 1) = some (.iload 4, 2)) (f2 : za_fe cd (pc + 3) = some (.iaload, 1)) (kk : za_W p l e R s m #[Value.ref b] below meth c D nL Q h0 n cells slots (pc + 4) lv (vI (xs i) :: st) vw) : za_W p l e R s m #[Value.ref b] below meth c D nL Q h0 n cells slots pc lv st vw := by
  intro H locs ls hR hS hl
  refine lv_aload_n X.1 X.2.1 (za_fe_ok X.2.2.2.2.2.2.1 f0) rfl (zl_at0 hbz hl) ?_
  refine lv_iload X.1 X.2.1 (za_fe_ok X.2.2.2.2.2.2.1 f1) (za_lm_at hl hi) ?_
  refine va_sld X.1 X.2.1 hx hbs (Nat.not_le.mpr hbz) hS (vp_in_nI hiL (by omega)) (za_fe_ok X.2.2.2.2.2.2.1 f2) ?_
  have k2 := kk H locs ls hR hS hl
  rw [nI_clamp (by omega)]
  exact k2
theorem nI_k (i k : Nat) : nI i + nI k = nI (i + k) := (Int32.ofNat_add i k).symm
theorem zl_el (X : za_X p s m #[Value.ref b] meth c D own cc cd fl nL ret) (hbz : b < D.2.2) (hbs : b < s.heap.size) {L : Nat} {xs : Nat → Int32} (hx : va_X b L xs s s.heap) {i : Nat} (k : Nat) {kz : Int} (hkz : Int32.ofInt kz = nI k) (hi : za_lg lv 4 = some (vI (nI i))) (hiL : i + k < L) (hL : L ≤ 2560) (f0 : za_fe cd pc = some (.aload_n 0, 1)) (f1 : za_fe cd (pc + 1) = some (.iload 4, 2)) (f2 : za_fe cd (pc + 3) = some (.iconst kz, 1)) (f3 : za_fe cd (pc + 4) = some (.iadd, 1)) (f4 : za_fe cd (pc + 5) = some (.iaload, 1)) (kk : za_W p l e R s m #[Value.ref b] below meth c D nL Q h0 n cells slots (pc + 6) lv (vI (xs (i + k)) :: st) vw) : za_W p l e R s m #[Value.ref b] below meth c D nL Q h0 n cells slots pc lv st vw := by
  intro H locs ls hR hS hl
  refine lv_aload_n X.1 X.2.1 (za_fe_ok X.2.2.2.2.2.2.1 f0) rfl (zl_at0 hbz hl) ?_
  refine lv_iload X.1 X.2.1 (za_fe_ok X.2.2.2.2.2.2.1 f1) (za_lm_at hl hi) ?_
  refine lv_iconst X.1 X.2.1 (za_fe_ok X.2.2.2.2.2.2.1 f2) rfl ?_
  refine lv_iadd X.1 X.2.1 (za_fe_ok X.2.2.2.2.2.2.1 f3) ?_
  rw [hkz, nI_k]
  refine va_sld X.1 X.2.1 hx hbs (Nat.not_le.mpr hbz) hS (vp_in_nI hiL (by omega)) (za_fe_ok X.2.2.2.2.2.2.1 f4) ?_
  have k2 := kk H locs ls hR hS hl
  rw [nI_clamp (by omega)]
  exact k2
end ZLROWS
theorem kw_nd (Y : za_Y) (hs : List (Nat × Nat × Nat × Nat)) : ∀ (a : Array Value) (u : State), (Cond.codeWith Y.1 Y.2.1 Y.2.2.1 Y.2.2.2 hs).before a u = true → ∃ mk, u.methodNamed? Y.1 = some mk := by
  intro a u h
  obtain ⟨m', meth, c, h0, _⟩ := Cond.codeWith_spec h
  exact ⟨m', h0⟩
theorem ms_mv {h h' : za_H} {th : Int32} {σ : fs_T} (hm : ms_at h th σ) (e : ∀ j, 142 ≤ j → j ≤ 158 → h' j = h j) : ms_at h' th σ := by
  obtain ⟨P, T, S, b, q⟩ := σ
  obtain ⟨hok, hb1, hb4, G, fd, hM, hin⟩ := hm
  exact ⟨hok, hb1, hb4, G, fd, by rw [e 142 (by omega) (by omega)]; exact hM, ms_off hin (fun j a1 a2 => e j (by omega) a2)⟩
theorem ms_cell {h : za_H} {th : Int32} {σ : fs_T} (hm : ms_at h th σ) : ∃ cl, h 142 = some (.inr (zn_M, cl)) := by
  obtain ⟨P, T, S, b, q⟩ := σ
  obtain ⟨hok, hb1, hb4, G, fd, hM, hin⟩ := hm
  obtain ⟨r, pl, la, dn, vi, de, ct, en, ou, ed⟩ := G
  exact ⟨_, hM⟩
theorem fs_cell {h : za_H} {σ : fs_T} (hσ : fs_at h σ) : ∃ cl, h 0 = some (.inr (zn_F, cl)) := by
  obtain ⟨P, T, S, b, q⟩ := σ
  obtain ⟨_, _, _, _, _, ra, rb, _, hF, _⟩ := hσ
  exact ⟨_, hF⟩
theorem c_M_thr (l : Launch) (D : za_D) (h : za_H) (n : Nat) (th : Int32) (σ : fs_T) (hm : ms_at h th σ) : za_M l D Y_M_thrown 0 0 0 [vR 142] h n (fun v h' n' => v = some (vI th) ∧ h' = h ∧ n = n') := by
  obtain ⟨P, T, S, b, q⟩ := σ
  obtain ⟨hok, hb1, hb4, G, fd, hM, hin⟩ := hm
  exact c_M_thrown l D h n (th, P.2.2.2.2, b) G (ms_z T S q fd) hM
/-- what holds between two rows of the script -/
def zl_I (h : za_H) (σ : fs_T) : Prop := fs_at h σ ∧ (∃ th, ms_at h th σ) ∧ ∃ w, ou_at h w
theorem spl_instr (σ : fs_T) (a1 a2 a3 a4 : Int32) : (sp_instr σ a1 a2 a3 a4).1 ≤ 2 := by
  obtain ⟨P, T, S, b, q⟩ := σ
  unfold sp_instr
  repeat' split
  all_goals (first | (show (0 : Nat) ≤ 2; decide) | (show (1 : Nat) ≤ 2; decide) | (show (2 : Nat) ≤ 2; decide))
theorem spl_undo (σ : fs_T)  : (sp_undo σ).1 ≤ 2 := by
  obtain ⟨P, T, S, b, q⟩ := σ
  unfold sp_undo
  repeat' split
  all_goals (first | (show (0 : Nat) ≤ 2; decide) | (show (1 : Nat) ≤ 2; decide) | (show (2 : Nat) ≤ 2; decide))
theorem spl_width (σ : fs_T) (a1 : Int32) : (sp_width σ a1).1 ≤ 2 := by
  obtain ⟨P, T, S, b, q⟩ := σ
  unfold sp_width
  repeat' split
  all_goals (first | (show (0 : Nat) ≤ 2; decide) | (show (1 : Nat) ≤ 2; decide) | (show (2 : Nat) ≤ 2; decide))
theorem spl_run (σ : fs_T) (a1 a2 : Int32) : (sp_run σ a1 a2).1 ≤ 2 := by
  obtain ⟨P, T, S, b, q⟩ := σ
  unfold sp_run
  repeat' split
  all_goals (first | (show (0 : Nat) ≤ 2; decide) | (show (1 : Nat) ≤ 2; decide) | (show (2 : Nat) ≤ 2; decide))
theorem spl_last (σ : fs_T) (a1 : Int32) : (sp_last σ a1).1 ≤ 2 := by
  obtain ⟨P, T, S, b, q⟩ := σ
  unfold sp_last
  repeat' split
  all_goals (first | (show (0 : Nat) ≤ 2; decide) | (show (1 : Nat) ≤ 2; decide) | (show (2 : Nat) ≤ 2; decide))
theorem spl_explore (σ : fs_T)  : (sp_explore σ).1 ≤ 2 := by
  obtain ⟨P, T, S, b, q⟩ := σ
  unfold sp_explore
  repeat' split
  all_goals (first | (show (0 : Nat) ≤ 2; decide) | (show (1 : Nat) ≤ 2; decide) | (show (2 : Nat) ≤ 2; decide))
theorem spl_way (σ : fs_T) (a1 a2 : Int32) : (sp_way σ a1 a2).1 ≤ 2 := by
  obtain ⟨P, T, S, b, q⟩ := σ
  unfold sp_way
  repeat' split
  all_goals (first | (show (0 : Nat) ≤ 2; decide) | (show (1 : Nat) ≤ 2; decide) | (show (2 : Nat) ≤ 2; decide))
theorem spl_decision (σ : fs_T) (a1 a2 : Int32) : (sp_decision σ a1 a2).1 ≤ 2 := by
  obtain ⟨P, T, S, b, q⟩ := σ
  unfold sp_decision
  repeat' split
  all_goals (first | (show (0 : Nat) ≤ 2; decide) | (show (1 : Nat) ≤ 2; decide) | (show (2 : Nat) ≤ 2; decide))
theorem spl_match (σ : fs_T) (a1 a2 : Int32) : (sp_match σ a1 a2).1 ≤ 2 := by
  obtain ⟨P, T, S, b, q⟩ := σ
  unfold sp_match
  repeat' split
  all_goals (first | (show (0 : Nat) ≤ 2; decide) | (show (1 : Nat) ≤ 2; decide) | (show (2 : Nat) ≤ 2; decide))
theorem spl_example (σ : fs_T) (a1 : Int32) : (sp_example σ a1).1 ≤ 2 := by
  obtain ⟨P, T, S, b, q⟩ := σ
  unfold sp_example
  repeat' split
  all_goals (first | (show (0 : Nat) ≤ 2; decide) | (show (1 : Nat) ≤ 2; decide) | (show (2 : Nat) ≤ 2; decide))
theorem spl_count (σ : fs_T) (a1 : Int32) : (sp_count σ a1).1 ≤ 2 := by
  obtain ⟨P, T, S, b, q⟩ := σ
  unfold sp_count
  repeat' split
  all_goals (first | (show (0 : Nat) ≤ 2; decide) | (show (1 : Nat) ≤ 2; decide) | (show (2 : Nat) ≤ 2; decide))
