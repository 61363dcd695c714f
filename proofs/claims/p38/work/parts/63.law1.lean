/-! ===== the law's body: its tables, its state ===== -/
def i_La : List zI := [(0, .new 41, 3, 0, 0), (3, .dup, 1, 0, 0), (4, .invokespecial 129, 3, 0, 0), (7, .astore_n 1, 1, 0, 0), (8, .bipush 36, 2, 36, 0), (10, .newarray .int, 2, 0, 0), (12, .astore_n 2, 1, 0, 0), (13, .bipush 36, 2, 36, 0), (15, .newarray .int, 2, 0, 0), (17, .astore_n 3, 1, 0, 0), (18, .bipush 11, 2, 11, 0), (20, .newarray .int, 2, 0, 0), (22, .astore 4, 2, 0, 0), (24, .bipush 64, 2, 64, 0), (26, .newarray .long, 2, 0, 0), (28, .astore 5, 2, 0, 0), (30, .bipush 64, 2, 64, 0), (32, .newarray .long, 2, 0, 0), (34, .astore 6, 2, 0, 0), (36, .bipush 64, 2, 64, 0), (38, .newarray .long, 2, 0, 0), (40, .astore 7, 2, 0, 0), (42, .bipush 64, 2, 64, 0), (44, .newarray .long, 2, 0, 0), (46, .astore 8, 2, 0, 0), (48, .aload 4, 2, 0, 0), (50, .iconst 2, 1, 2, 0), (51, .bipush (-101), 2, -101, 0), (53, .iastore, 1, 0, 0), (54, .aload_n 1, 1, 0, 0), (55, .aload_n 2, 1, 0, 0), (56, .aload_n 3, 1, 0, 0), (57, .aload 4, 2, 0, 0), (59, .aload_n 0, 1, 0, 0), (60, .invokestatic 130, 3, 0, 0), (63, .ifCond .eq 41, 3, 0, 104), (66, .aload_n 1, 1, 0, 0), (67, .aload_n 2, 1, 0, 0), (68, .aload_n 3, 1, 0, 0), (69, .invokestatic 134, 3, 0, 0), (72, .ifCond .eq 32, 3, 0, 104), (75, .aload_n 1, 1, 0, 0), (76, .invokevirtual 138, 3, 0, 0), (79, .ifCond .ne 25, 3, 0, 104), (82, .aload_n 1, 1, 0, 0), (83, .invokestatic 141, 3, 0, 0), (86, .aload_n 2, 1, 0, 0), (87, .aload_n 3, 1, 0, 0), (88, .iconst 0, 1, 0, 0), (89, .invokestatic 87, 3, 0, 0), (92, .if_icmp .ne 12, 3, 0, 104), (95, .aload_n 1, 1, 0, 0), (96, .invokestatic 141, 3, 0, 0), (99, .bipush (-101), 2, -101, 0), (101, .if_icmp .eq 5, 3, 0, 106), (104, .iconst 0, 1, 0, 0), (105, .ireturn, 1, 0, 0)]
set_option maxRecDepth 20000 in
theorem it_La : zT code i_La := zT_of (by decide +kernel)
def i_Lb : List zI := [(106, .aload 4, 2, 0, 0), (108, .iconst 1, 1, 1, 0), (109, .aload_n 2, 1, 0, 0), (110, .aload_n 3, 1, 0, 0), (111, .iconst 0, 1, 0, 0), (112, .invokestatic 87, 3, 0, 0), (115, .ifCond .ne 7, 3, 0, 122), (118, .iconst 1, 1, 1, 0), (119, .goto 4, 3, 0, 123), (122, .iconst 0, 1, 0, 0), (123, .iastore, 1, 0, 0), (124, .aload 5, 2, 0, 0), (126, .iconst 0, 1, 0, 0), (127, .aload_n 2, 1, 0, 0), (128, .aload_n 3, 1, 0, 0), (129, .iconst 0, 1, 0, 0), (130, .invokestatic 145, 3, 0, 0), (133, .lastore, 1, 0, 0), (134, .aload 6, 2, 0, 0), (136, .iconst 0, 1, 0, 0), (137, .aload_n 2, 1, 0, 0), (138, .aload_n 3, 1, 0, 0), (139, .bipush 9, 2, 9, 0), (141, .invokestatic 145, 3, 0, 0), (144, .lastore, 1, 0, 0), (145, .aload 7, 2, 0, 0), (147, .iconst 0, 1, 0, 0), (148, .aload_n 2, 1, 0, 0), (149, .aload_n 3, 1, 0, 0), (150, .bipush 18, 2, 18, 0), (152, .invokestatic 145, 3, 0, 0), (155, .lastore, 1, 0, 0), (156, .aload 8, 2, 0, 0), (158, .iconst 0, 1, 0, 0), (159, .aload_n 2, 1, 0, 0), (160, .aload_n 3, 1, 0, 0), (161, .bipush 27, 2, 27, 0), (163, .invokestatic 145, 3, 0, 0), (166, .lastore, 1, 0, 0), (167, .iconst 1, 1, 1, 0), (168, .istore 9, 2, 0, 0), (170, .iconst 0, 1, 0, 0), (171, .istore 10, 2, 0, 0)]
set_option maxRecDepth 20000 in
theorem it_Lb : zT code i_Lb := zT_of (by decide +kernel)
def i_Lc : List zI := [(173, .iload 10, 2, 0, 0), (175, .bipush 60, 2, 60, 0), (177, .if_icmp .ge 833, 3, 0, 1010), (180, .aload_n 0, 1, 0, 0), (181, .iload 10, 2, 0, 0), (183, .invokestatic 116, 3, 0, 0), (186, .istore 11, 2, 0, 0), (188, .iload 11, 2, 0, 0), (190, .bipush 36, 2, 36, 0), (192, .invokestatic 120, 3, 0, 0), (195, .istore 12, 2, 0, 0), (197, .iload 11, 2, 0, 0), (199, .bipush 6, 2, 6, 0), (201, .ishr, 1, 0, 0), (202, .bipush 36, 2, 36, 0), (204, .invokestatic 120, 3, 0, 0), (207, .istore 13, 2, 0, 0), (209, .iconst 0, 1, 0, 0), (210, .istore 14, 2, 0, 0), (212, .iload 14, 2, 0, 0), (214, .bipush 36, 2, 36, 0), (216, .if_icmp .ge 64, 3, 0, 280), (219, .iload 11, 2, 0, 0), (221, .bipush 12, 2, 12, 0), (223, .ishr, 1, 0, 0), (224, .bipush 9, 2, 9, 0), (226, .invokestatic 120, 3, 0, 0), (229, .ifCond .le 51, 3, 0, 280), (232, .aload 4, 2, 0, 0), (234, .iconst 1, 1, 1, 0), (235, .iaload, 1, 0, 0), (236, .ifCond .ne 44, 3, 0, 280), (239, .aload_n 2, 1, 0, 0), (240, .aload_n 3, 1, 0, 0), (241, .iload 12, 2, 0, 0), (243, .invokestatic 20, 3, 0, 0), (246, .aload 4, 2, 0, 0), (248, .iconst 3, 1, 3, 0), (249, .iaload, 1, 0, 0), (250, .if_icmp .ne 15, 3, 0, 265), (253, .aload_n 2, 1, 0, 0), (254, .aload_n 3, 1, 0, 0), (255, .iload 12, 2, 0, 0), (257, .invokestatic 26, 3, 0, 0), (260, .lconst 0, 1, 0, 0), (261, .lcmp, 1, 0, 0), (262, .ifCond .ne 18, 3, 0, 280), (265, .iload 12, 2, 0, 0), (267, .iconst 1, 1, 1, 0), (268, .iadd, 1, 0, 0), (269, .bipush 36, 2, 36, 0), (271, .irem, 1, 0, 0), (272, .istore 12, 2, 0, 0), (274, .iinc 14 1, 3, 1, 0), (277, .goto (-65), 3, 0, 212), (280, .iconst 0, 1, 0, 0), (281, .istore 14, 2, 0, 0), (283, .iload 14, 2, 0, 0), (285, .bipush 36, 2, 36, 0), (287, .if_icmp .ge 62, 3, 0, 349), (290, .iload 11, 2, 0, 0), (292, .bipush 12, 2, 12, 0), (294, .ishr, 1, 0, 0), (295, .bipush 9, 2, 9, 0), (297, .invokestatic 120, 3, 0, 0), (300, .ifCond .le 49, 3, 0, 349), (303, .aload_n 2, 1, 0, 0), (304, .aload_n 3, 1, 0, 0), (305, .iload 12, 2, 0, 0), (307, .invokestatic 20, 3, 0, 0), (310, .aload 4, 2, 0, 0), (312, .iconst 3, 1, 3, 0), (313, .iaload, 1, 0, 0), (314, .if_icmp .ne 20, 3, 0, 334), (317, .aload_n 2, 1, 0, 0), (318, .aload_n 3, 1, 0, 0), (319, .iload 12, 2, 0, 0), (321, .invokestatic 26, 3, 0, 0), (324, .iload 13, 2, 0, 0), (326, .lshr, 1, 0, 0), (327, .lconst 1, 1, 0, 0), (328, .land, 1, 0, 0), (329, .lconst 0, 1, 0, 0), (330, .lcmp, 1, 0, 0), (331, .ifCond .ne 18, 3, 0, 349), (334, .iload 13, 2, 0, 0), (336, .iconst 1, 1, 1, 0), (337, .iadd, 1, 0, 0), (338, .bipush 36, 2, 36, 0), (340, .irem, 1, 0, 0), (341, .istore 13, 2, 0, 0), (343, .iinc 14 1, 3, 1, 0), (346, .goto (-63), 3, 0, 283)]
set_option maxRecDepth 20000 in
theorem it_Lc : zT code i_Lc := zT_of (by decide +kernel)
def i_Ld : List zI := [(349, .aload 4, 2, 0, 0), (351, .iconst 1, 1, 1, 0), (352, .iaload, 1, 0, 0), (353, .iconst 1, 1, 1, 0), (354, .if_icmp .ne 7, 3, 0, 361), (357, .iconst 1, 1, 1, 0), (358, .goto 61, 3, 0, 419), (361, .aload_n 2, 1, 0, 0), (362, .aload_n 3, 1, 0, 0), (363, .iload 12, 2, 0, 0), (365, .invokestatic 20, 3, 0, 0), (368, .aload 4, 2, 0, 0), (370, .iconst 3, 1, 3, 0), (371, .iaload, 1, 0, 0), (372, .if_icmp .eq 7, 3, 0, 379), (375, .iconst 2, 1, 2, 0), (376, .goto 43, 3, 0, 419), (379, .aload_n 2, 1, 0, 0), (380, .aload_n 3, 1, 0, 0), (381, .iload 13, 2, 0, 0), (383, .invokestatic 20, 3, 0, 0), (386, .aload 4, 2, 0, 0), (388, .iconst 3, 1, 3, 0), (389, .iaload, 1, 0, 0), (390, .if_icmp .ne 7, 3, 0, 397), (393, .iconst 3, 1, 3, 0), (394, .goto 25, 3, 0, 419), (397, .aload_n 2, 1, 0, 0), (398, .aload_n 3, 1, 0, 0), (399, .iload 12, 2, 0, 0), (401, .invokestatic 26, 3, 0, 0), (404, .iload 13, 2, 0, 0), (406, .lshr, 1, 0, 0), (407, .lconst 1, 1, 0, 0), (408, .land, 1, 0, 0), (409, .lconst 1, 1, 0, 0), (410, .lcmp, 1, 0, 0), (411, .ifCond .ne 7, 3, 0, 418), (414, .iconst 0, 1, 0, 0), (415, .goto 4, 3, 0, 419), (418, .iconst 4, 1, 4, 0), (419, .istore 14, 2, 0, 0), (421, .aload_n 1, 1, 0, 0), (422, .iload 12, 2, 0, 0), (424, .iload 13, 2, 0, 0), (426, .invokevirtual 148, 3, 0, 0), (429, .iload 14, 2, 0, 0), (431, .if_icmp .eq 5, 3, 0, 436), (434, .iconst 0, 1, 0, 0), (435, .ireturn, 1, 0, 0), (436, .aload_n 2, 1, 0, 0), (437, .iload 13, 2, 0, 0), (439, .iaload, 1, 0, 0), (440, .ifCond .ne 7, 3, 0, 447), (443, .iconst 0, 1, 0, 0), (444, .goto 14, 3, 0, 458), (447, .aload_n 2, 1, 0, 0), (448, .iload 13, 2, 0, 0), (450, .iaload, 1, 0, 0), (451, .aload_n 3, 1, 0, 0), (452, .iload 13, 2, 0, 0), (454, .iaload, 1, 0, 0), (455, .invokestatic 34, 3, 0, 0), (458, .istore 15, 2, 0, 0), (460, .aload_n 1, 1, 0, 0), (461, .iload 12, 2, 0, 0), (463, .iload 13, 2, 0, 0), (465, .invokestatic 151, 3, 0, 0), (468, .iload 14, 2, 0, 0), (470, .ifCond .le 8, 3, 0, 478), (473, .bipush (-102), 2, -102, 0), (475, .goto 5, 3, 0, 480), (478, .iload 15, 2, 0, 0), (480, .if_icmp .eq 5, 3, 0, 485), (483, .iconst 0, 1, 0, 0), (484, .ireturn, 1, 0, 0), (485, .iload 14, 2, 0, 0), (487, .ifCond .ne 343, 3, 0, 830)]
set_option maxRecDepth 20000 in
theorem it_Ld : zT code i_Ld := zT_of (by decide +kernel)
def i_Le : List zI := [(490, .aload_n 2, 1, 0, 0), (491, .iload 13, 2, 0, 0), (493, .iaload, 1, 0, 0), (494, .ifCond .le 17, 3, 0, 511), (497, .aload_n 3, 1, 0, 0), (498, .iload 13, 2, 0, 0), (500, .iaload, 1, 0, 0), (501, .iconst 2, 1, 2, 0), (502, .irem, 1, 0, 0), (503, .iconst 1, 1, 1, 0), (504, .if_icmp .ne 7, 3, 0, 511), (507, .iconst 1, 1, 1, 0), (508, .goto 4, 3, 0, 512), (511, .iconst 0, 1, 0, 0), (512, .istore 16, 2, 0, 0), (514, .aload 4, 2, 0, 0), (516, .bipush 7, 2, 7, 0), (518, .aload 4, 2, 0, 0), (520, .iconst 3, 1, 3, 0), (521, .iaload, 1, 0, 0), (522, .iadd, 1, 0, 0), (523, .dup2, 1, 0, 0), (524, .iaload, 1, 0, 0), (525, .iload 15, 2, 0, 0), (527, .iadd, 1, 0, 0), (528, .iastore, 1, 0, 0), (529, .aload 4, 2, 0, 0), (531, .bipush 9, 2, 9, 0), (533, .aload 4, 2, 0, 0), (535, .iconst 3, 1, 3, 0), (536, .iaload, 1, 0, 0), (537, .iadd, 1, 0, 0), (538, .dup2, 1, 0, 0), (539, .iaload, 1, 0, 0), (540, .aload_n 2, 1, 0, 0), (541, .iload 12, 2, 0, 0), (543, .iaload, 1, 0, 0), (544, .aload_n 2, 1, 0, 0), (545, .iload 13, 2, 0, 0), (547, .iaload, 1, 0, 0), (548, .ior, 1, 0, 0), (549, .iconst 0, 1, 0, 0), (550, .invokestatic 34, 3, 0, 0), (553, .aload_n 2, 1, 0, 0), (554, .iload 12, 2, 0, 0), (556, .iaload, 1, 0, 0), (557, .iconst 0, 1, 0, 0), (558, .invokestatic 34, 3, 0, 0), (561, .isub, 1, 0, 0), (562, .iadd, 1, 0, 0), (563, .iastore, 1, 0, 0), (564, .aload_n 2, 1, 0, 0), (565, .iload 13, 2, 0, 0), (567, .dup2, 1, 0, 0), (568, .iaload, 1, 0, 0), (569, .aload_n 2, 1, 0, 0), (570, .iload 12, 2, 0, 0), (572, .iaload, 1, 0, 0), (573, .ior, 1, 0, 0), (574, .iastore, 1, 0, 0), (575, .aload_n 3, 1, 0, 0), (576, .iload 13, 2, 0, 0), (578, .aload_n 3, 1, 0, 0), (579, .iload 12, 2, 0, 0), (581, .iaload, 1, 0, 0), (582, .iastore, 1, 0, 0), (583, .aload_n 2, 1, 0, 0), (584, .iload 12, 2, 0, 0), (586, .iconst 0, 1, 0, 0), (587, .iastore, 1, 0, 0)]
set_option maxRecDepth 20000 in
theorem it_Le : zT code i_Le := zT_of (by decide +kernel)
def i_Lf : List zI := [(588, .aload 4, 2, 0, 0), (590, .iconst 3, 1, 3, 0), (591, .iconst 1, 1, 1, 0), (592, .aload 4, 2, 0, 0), (594, .iconst 3, 1, 3, 0), (595, .iaload, 1, 0, 0), (596, .isub, 1, 0, 0), (597, .iastore, 1, 0, 0), (598, .aload 4, 2, 0, 0), (600, .iconst 4, 1, 4, 0), (601, .dup2, 1, 0, 0), (602, .iaload, 1, 0, 0), (603, .iconst 1, 1, 1, 0), (604, .iadd, 1, 0, 0), (605, .iastore, 1, 0, 0), (606, .aload 5, 2, 0, 0), (608, .iload 9, 2, 0, 0), (610, .aload_n 2, 1, 0, 0), (611, .aload_n 3, 1, 0, 0), (612, .iconst 0, 1, 0, 0), (613, .invokestatic 145, 3, 0, 0), (616, .lastore, 1, 0, 0), (617, .aload 6, 2, 0, 0), (619, .iload 9, 2, 0, 0), (621, .aload_n 2, 1, 0, 0), (622, .aload_n 3, 1, 0, 0), (623, .bipush 9, 2, 9, 0), (625, .invokestatic 145, 3, 0, 0), (628, .lastore, 1, 0, 0), (629, .aload 7, 2, 0, 0), (631, .iload 9, 2, 0, 0), (633, .aload_n 2, 1, 0, 0), (634, .aload_n 3, 1, 0, 0), (635, .bipush 18, 2, 18, 0), (637, .invokestatic 145, 3, 0, 0), (640, .lastore, 1, 0, 0), (641, .aload 8, 2, 0, 0), (643, .iload 9, 2, 0, 0), (645, .aload_n 2, 1, 0, 0), (646, .aload_n 3, 1, 0, 0), (647, .bipush 27, 2, 27, 0), (649, .invokestatic 145, 3, 0, 0), (652, .lastore, 1, 0, 0)]
set_option maxRecDepth 20000 in
theorem it_Lf : zT code i_Lf := zT_of (by decide +kernel)
def i_Lg : List zI := [(653, .iconst 0, 1, 0, 0), (654, .istore 17, 2, 0, 0), (656, .iload 9, 2, 0, 0), (658, .istore 18, 2, 0, 0), (660, .iload 18, 2, 0, 0), (662, .ifCond .lt 75, 3, 0, 737), (665, .iload 17, 2, 0, 0), (667, .aload 5, 2, 0, 0), (669, .iload 18, 2, 0, 0), (671, .laload, 1, 0, 0), (672, .aload 5, 2, 0, 0), (674, .iload 9, 2, 0, 0), (676, .laload, 1, 0, 0), (677, .lcmp, 1, 0, 0), (678, .ifCond .ne 49, 3, 0, 727), (681, .aload 6, 2, 0, 0), (683, .iload 18, 2, 0, 0), (685, .laload, 1, 0, 0), (686, .aload 6, 2, 0, 0), (688, .iload 9, 2, 0, 0), (690, .laload, 1, 0, 0), (691, .lcmp, 1, 0, 0), (692, .ifCond .ne 35, 3, 0, 727), (695, .aload 7, 2, 0, 0), (697, .iload 18, 2, 0, 0), (699, .laload, 1, 0, 0), (700, .aload 7, 2, 0, 0), (702, .iload 9, 2, 0, 0), (704, .laload, 1, 0, 0), (705, .lcmp, 1, 0, 0), (706, .ifCond .ne 21, 3, 0, 727), (709, .aload 8, 2, 0, 0), (711, .iload 18, 2, 0, 0), (713, .laload, 1, 0, 0), (714, .aload 8, 2, 0, 0), (716, .iload 9, 2, 0, 0), (718, .laload, 1, 0, 0), (719, .lcmp, 1, 0, 0), (720, .ifCond .ne 7, 3, 0, 727), (723, .iconst 1, 1, 1, 0), (724, .goto 4, 3, 0, 728), (727, .iconst 0, 1, 0, 0), (728, .iadd, 1, 0, 0), (729, .istore 17, 2, 0, 0), (731, .iinc 18 (-2), 3, -2, 0), (734, .goto (-74), 3, 0, 660)]
set_option maxRecDepth 20000 in
theorem it_Lg : zT code i_Lg := zT_of (by decide +kernel)
def i_Lh : List zI := [(737, .iinc 9 1, 3, 1, 0), (740, .aload 4, 2, 0, 0), (742, .iconst 1, 1, 1, 0), (743, .iload 16, 2, 0, 0), (745, .ifCond .ne 21, 3, 0, 766), (748, .iload 17, 2, 0, 0), (750, .iconst 2, 1, 2, 0), (751, .if_icmp .gt 15, 3, 0, 766), (754, .aload_n 2, 1, 0, 0), (755, .aload_n 3, 1, 0, 0), (756, .aload 4, 2, 0, 0), (758, .iconst 3, 1, 3, 0), (759, .iaload, 1, 0, 0), (760, .invokestatic 87, 3, 0, 0), (763, .ifCond .ne 7, 3, 0, 770), (766, .iconst 1, 1, 1, 0), (767, .goto 4, 3, 0, 771), (770, .iconst 0, 1, 0, 0), (771, .iastore, 1, 0, 0), (772, .aload 4, 2, 0, 0), (774, .iconst 2, 1, 2, 0), (775, .iload 16, 2, 0, 0), (777, .ifCond .eq 12, 3, 0, 789), (780, .iconst 1, 1, 1, 0), (781, .aload 4, 2, 0, 0), (783, .iconst 3, 1, 3, 0), (784, .iaload, 1, 0, 0), (785, .isub, 1, 0, 0), (786, .goto 7, 3, 0, 793), (789, .aload 4, 2, 0, 0), (791, .iconst 2, 1, 2, 0), (792, .iaload, 1, 0, 0), (793, .iastore, 1, 0, 0), (794, .aload_n 1, 1, 0, 0), (795, .invokevirtual 138, 3, 0, 0), (798, .iload 17, 2, 0, 0), (800, .if_icmp .ne 28, 3, 0, 828), (803, .iload 10, 2, 0, 0), (805, .iconst 4, 1, 4, 0), (806, .irem, 1, 0, 0), (807, .ifCond .ne 23, 3, 0, 830), (810, .aload_n 1, 1, 0, 0), (811, .aload_n 2, 1, 0, 0), (812, .aload_n 3, 1, 0, 0), (813, .invokestatic 134, 3, 0, 0), (816, .ifCond .eq 12, 3, 0, 828), (819, .aload_n 1, 1, 0, 0), (820, .aload_n 2, 1, 0, 0), (821, .aload_n 3, 1, 0, 0), (822, .invokestatic 154, 3, 0, 0), (825, .ifCond .ne 5, 3, 0, 830), (828, .iconst 0, 1, 0, 0), (829, .ireturn, 1, 0, 0)]
set_option maxRecDepth 20000 in
theorem it_Lh : zT code i_Lh := zT_of (by decide +kernel)
def i_Li : List zI := [(830, .aload_n 1, 1, 0, 0), (831, .invokevirtual 157, 3, 0, 0), (834, .aload 4, 2, 0, 0), (836, .iconst 1, 1, 1, 0), (837, .iaload, 1, 0, 0), (838, .iconst 1, 1, 1, 0), (839, .if_icmp .ne 7, 3, 0, 846), (842, .iconst 1, 1, 1, 0), (843, .goto 4, 3, 0, 847), (846, .iconst 0, 1, 0, 0), (847, .if_icmp .ne 115, 3, 0, 962), (850, .aload_n 1, 1, 0, 0), (851, .invokestatic 161, 3, 0, 0), (854, .aload 4, 2, 0, 0), (856, .iconst 2, 1, 2, 0), (857, .iaload, 1, 0, 0), (858, .if_icmp .ne 104, 3, 0, 962), (861, .aload_n 1, 1, 0, 0), (862, .invokevirtual 163, 3, 0, 0), (865, .aload 4, 2, 0, 0), (867, .iconst 3, 1, 3, 0), (868, .iaload, 1, 0, 0), (869, .if_icmp .ne 93, 3, 0, 962), (872, .aload_n 1, 1, 0, 0), (873, .invokevirtual 166, 3, 0, 0), (876, .aload 4, 2, 0, 0), (878, .iconst 4, 1, 4, 0), (879, .iaload, 1, 0, 0), (880, .if_icmp .ne 82, 3, 0, 962), (883, .aload_n 1, 1, 0, 0), (884, .iconst 0, 1, 0, 0), (885, .invokevirtual 169, 3, 0, 0), (888, .aload 4, 2, 0, 0), (890, .bipush 7, 2, 7, 0), (892, .iaload, 1, 0, 0), (893, .if_icmp .ne 69, 3, 0, 962), (896, .aload_n 1, 1, 0, 0), (897, .iconst 1, 1, 1, 0), (898, .invokevirtual 169, 3, 0, 0), (901, .aload 4, 2, 0, 0), (903, .bipush 8, 2, 8, 0), (905, .iaload, 1, 0, 0), (906, .if_icmp .ne 56, 3, 0, 962), (909, .aload_n 1, 1, 0, 0), (910, .iconst 0, 1, 0, 0), (911, .invokevirtual 74, 3, 0, 0), (914, .aload 4, 2, 0, 0), (916, .iconst 5, 1, 5, 0), (917, .iaload, 1, 0, 0), (918, .aload 4, 2, 0, 0), (920, .bipush 8, 2, 8, 0), (922, .iaload, 1, 0, 0), (923, .isub, 1, 0, 0), (924, .aload 4, 2, 0, 0), (926, .bipush 9, 2, 9, 0), (928, .iaload, 1, 0, 0), (929, .iadd, 1, 0, 0), (930, .if_icmp .ne 32, 3, 0, 962), (933, .aload_n 1, 1, 0, 0), (934, .iconst 1, 1, 1, 0), (935, .invokevirtual 74, 3, 0, 0), (938, .aload 4, 2, 0, 0), (940, .bipush 6, 2, 6, 0), (942, .iaload, 1, 0, 0), (943, .aload 4, 2, 0, 0), (945, .bipush 7, 2, 7, 0), (947, .iaload, 1, 0, 0), (948, .isub, 1, 0, 0), (949, .aload 4, 2, 0, 0), (951, .bipush 10, 2, 10, 0), (953, .iaload, 1, 0, 0), (954, .iadd, 1, 0, 0), (955, .if_icmp .ne 7, 3, 0, 962), (958, .iconst 1, 1, 1, 0), (959, .goto 4, 3, 0, 963), (962, .iconst 0, 1, 0, 0), (963, .istore 16, 2, 0, 0)]
set_option maxRecDepth 20000 in
theorem it_Li : zT code i_Li := zT_of (by decide +kernel)
def i_Lj : List zI := [(965, .aload_n 1, 1, 0, 0), (966, .iconst 0, 1, 0, 0), (967, .invokevirtual 72, 3, 0, 0), (970, .aload_n 1, 1, 0, 0), (971, .iconst 1, 1, 1, 0), (972, .invokevirtual 72, 3, 0, 0), (975, .iadd, 1, 0, 0), (976, .istore 17, 2, 0, 0), (978, .iload 16, 2, 0, 0), (980, .ifCond .eq 22, 3, 0, 1002), (983, .aload_n 1, 1, 0, 0), (984, .iconst 0, 1, 0, 0), (985, .invokevirtual 172, 3, 0, 0), (988, .aload_n 1, 1, 0, 0), (989, .iconst 0, 1, 0, 0), (990, .invokevirtual 72, 3, 0, 0), (993, .i2d, 1, 0, 0), (994, .iload 17, 2, 0, 0), (996, .i2d, 1, 0, 0), (997, .ddiv, 1, 0, 0), (998, .dcmp .l, 1, 0, 0), (999, .ifCond .eq 5, 3, 0, 1004), (1002, .iconst 0, 1, 0, 0), (1003, .ireturn, 1, 0, 0), (1004, .iinc 10 1, 3, 1, 0), (1007, .goto (-834), 3, 0, 173), (1010, .iconst 1, 1, 1, 0), (1011, .ireturn, 1, 0, 0)]
set_option maxRecDepth 20000 in
theorem it_Lj : zT code i_Lj := zT_of (by decide +kernel)
/-- the law's state: the game, the law's rows, its numbers, its accounts, the boards that came up -/
def LX (D : zD) (V : Nat → Nat → Int32) (P : Nat → Nat → Value) (PH : aH) (sz : Nat) (F : Nat → Nat) (L : List zPos) (tn md : Nat) (ov : Bool) (ch : Option Nat) (Bd : Nat → Nat → Nat) (nb : Nat) (v1 v2 v3 v4 : Int32) : Prop :=
  GS D V P PH sz F L tn md ov ch ∧ okpq F (V 37) (V 38) ∧ (V 39 1 = v1 ∧ V 39 2 = v2 ∧ V 39 3 = v3 ∧ V 39 4 = v4) ∧ (∀ s, s < 2 → V 5 s = V 39 (7 + s) ∧ V 4 s = V 39 (5 + s) - V 39 (8 - s) + V 39 (9 + s)) ∧ ∀ j, j < nb → ∀ i, i < 4 → P (40 + i) j = .long (lN (pq4 (Bd j) i))
def LW (D : zD) (V : Nat → Nat → Int32) (P : Nat → Nat → Value) (PH : aH) (sz : Nat) (F : Nat → Nat) (Bd : Nat → Nat → Nat) (md : Nat) (ov : Bool) (ch : Option Nat) : Prop :=
  LX D V P PH sz F (trL Bd md) (md % 2) md ov ch Bd (md + 1) (bI ov) (chI ch) (nI (md % 2)) (nI md) ∧ (Bd md = F ∧ ∀ i, okF (Bd i)) ∧ (ov = false → ch = none) ∧ ∃ x, x < 36 ∧ F x ≠ 0
theorem LX_fr {D : zD} {V V2 : Nat → Nat → Int32} {P : Nat → Nat → Value} {PH : aH} {sz : Nat} {F : Nat → Nat} {L : List zPos} {tn md : Nat} {ov : Bool} {ch : Option Nat} {Bd : Nat → Nat → Nat} {nb : Nat} {v1 v2 v3 v4 : Int32} (h : LX D V P PH sz F L tn md ov ch Bd nb v1 v2 v3 v4) (hV : ∀ c, c ≠ 36 → V2 c = V c) : LX D V2 P PH sz F L tn md ov ch Bd nb v1 v2 v3 v4 := by
  obtain ⟨a, b, c, d, e⟩ := h
  refine ⟨GS_fr a (fun c h => hV c (by omega)) (fun _ _ => rfl), ?_, ?_, ?_, e⟩
  · rw [hV 37 (by decide), hV 38 (by decide)]; exact b
  · rw [hV 39 (by decide)]; exact c
  · rw [hV 39 (by decide), hV 4 (by decide), hV 5 (by decide)]; exact d
theorem LW_fr {D : zD} {V V2 : Nat → Nat → Int32} {P : Nat → Nat → Value} {PH : aH} {sz : Nat} {F : Nat → Nat} {Bd : Nat → Nat → Nat} {md : Nat} {ov : Bool} {ch : Option Nat} (h : LW D V P PH sz F Bd md ov ch) (hV : ∀ c, c ≠ 36 → V2 c = V c) : LW D V2 P PH sz F Bd md ov ch := ⟨LX_fr h.1 hV, h.2⟩
theorem trL_n1 {Bd : Nat → Nat → Nat} {md : Nat} (h : md ≤ 100) (t : Nat) (F : Nat → Nat) : n1t t F (trL Bd md) ≤ 1000 := by
  unfold n1t
  have := tbf_le (Bd := Bd) (t := t) (n := md) (a := pq4 F)
  omega
section LWC
variable {E : zE} {l : Launch} {D : zD} {V : Nat → Nat → Int32} {P : Nat → Nat → Value} {PH : aH} {sz : Nat} {F : Nat → Nat} {L : List zPos} {tn md : Nat} {ov : Bool} {ch : Option Nat}
theorem gs_whyNot (hE : zEv E) (hl : l.stackTraces = false) (hD : zDok E D) (h : GS D V P PH sz F L tn md ov ch) (a : Nat) (ha : a < 36) (b : Nat) (hb : b < 36) : zM E l y_Xx_whyNot [.code y_Xx_whyNot c_Xx_whyNot 3 (some .int)] rm_Xx_whyNot [.ref (D.1 0), .int (nI a), .int (nI b)] (HM D V P PH) sz (zRet (some (.int (nI (rsn L ov F tn a b)))) (HM D V P PH) sz) := by
  obtain ⟨⟨hP, hS, hch⟩, ⟨hFV, hF, -⟩, ⟨htn, htc⟩, -, hoc, -⟩ := h
  subst hFV
  exact ct_Xx_whyNot hE hl hD V P PH hF L hch tn htn htc ov hoc a ha b hb sz
theorem gs_rep (hE : zEv E) (hl : l.stackTraces = false) (hD : zDok E D) (h : GS D V P PH sz F L tn md ov ch) : zM E l y_Xx_repetitions [.code y_Xx_repetitions c_Xx_repetitions 1 (some .int)] rm_Xx_repetitions [.ref (D.1 0)] (HM D V P PH) sz (zRet (some (.int (nI (tmz L)))) (HM D V P PH) sz) := by
  obtain ⟨⟨hP, hS, hch⟩, -⟩ := h
  exact ct_Xx_repetitions hE hl hD V P PH hP L hch sz
theorem gs_isOver (hE : zEv E) (hl : l.stackTraces = false) (hD : zDok E D) (h : GS D V P PH sz F L tn md ov ch) : zM E l y_Xx_isOver [.code y_Xx_isOver c_Xx_isOver 1 (some .boolean)] rm_Xx_isOver [.ref (D.1 0)] (HM D V P PH) sz (zRet (some (.int (bI ov))) (HM D V P PH) sz) := ct_Xx_isOver hE hl hD V P PH ov h.2.2.2.2.1 sz
theorem gs_winner (hE : zEv E) (hl : l.stackTraces = false) (hD : zDok E D) (h : GS D V P PH sz F L tn md ov ch) : zM E l y_Lw_winner [.codeWith y_Lw_winner c_Lw_winner 2 (some .int) hh_Lw_winner] rm_Lw_winner [.ref (D.1 0)] (HM D V P PH) sz (zRet (some (.int (chI ch))) (HM D V P PH) sz) := ct_Lw_winner hE hl hD V P PH ch h.2.2.2.2.2.1.2 h.2.2.2.2.2.1.1 sz
theorem gs_toMove (hE : zEv E) (hl : l.stackTraces = false) (hD : zDok E D) (h : GS D V P PH sz F L tn md ov ch) : zM E l y_Xx_toMove [.code y_Xx_toMove c_Xx_toMove 1 (some .int)] rm_Xx_toMove [.ref (D.1 0)] (HM D V P PH) sz (zRet (some (.int (nI tn))) (HM D V P PH) sz) := by
  rw [← h.2.2.1.2]
  exact ct_Xx_toMove hE hl hD V P PH sz
theorem gs_movesMade (hE : zEv E) (hl : l.stackTraces = false) (hD : zDok E D) (h : GS D V P PH sz F L tn md ov ch) : zM E l y_Xx_movesMade [.code y_Xx_movesMade c_Xx_movesMade 1 (some .int)] rm_Xx_movesMade [.ref (D.1 0)] (HM D V P PH) sz (zRet (some (.int (nI md))) (HM D V P PH) sz) := by
  rw [← h.2.2.2.1]
  exact ct_Xx_movesMade hE hl hD V P PH sz
theorem gs_worth (hE : zEv E) (hl : l.stackTraces = false) (hD : zDok E D) (h : GS D V P PH sz F L tn md ov ch) (a : Nat) (ha : a < 2) : zM E l y_Xx_worth [.code y_Xx_worth c_Xx_worth 2 (some .int)] rm_Xx_worth [.ref (D.1 0), .int (nI a)] (HM D V P PH) sz (zRet (some (.int (nI (wos F a 36)))) (HM D V P PH) sz) := cx_Xx_worth hE hl hD V P PH F h.2.1.1 h.2.1.2.1 a ha sz
theorem gs_share (hE : zEv E) (hl : l.stackTraces = false) (hD : zDok E D) (h : GS D V P PH sz F L tn md ov ch) (a : Nat) (ha : a < 2) : zM E l y_Xx_worthShare [.code y_Xx_worthShare c_Xx_worthShare 3 (some .double)] rm_Xx_worthShare [.ref (D.1 0), .int (nI a)] (HM D V P PH) sz (zRet (some (.double (shq (wos F a 36) (wos F 0 36 + wos F 1 36)))) (HM D V P PH) sz) := by
  obtain ⟨-, ⟨hFV, hF, -⟩, -⟩ := h
  subst hFV
  exact ct_Xx_worthShare hE hl hD V P PH hF a ha sz
theorem Zr_eoV {G : zG} {cc : ByteArray} {nL : Nat} {own nm : String} {ret : Option FieldType} {R : Room} {k n : Nat} {t : List zI} {pc : Nat} {ls : zL} {st rest : List Value} (C : zCx E G cc nL own nm ret R) (ht : zT cc t) {idx : Nat} {r : Nat × Int32 × Nat} (hl : t.lookup pc = some (.invokestatic idx, r)) {y : MethodName} {c9 : ByteArray} {n9 a : Nat} {r9 : Option FieldType} {rm : Room} (hp : zPs y c9 n9 r9 a) (hlk : Cond.methodLink own idx y ∈ zWs) (As : List Value) {x : Int32} (hM : zM E (zGl G) y [.code y c9 n9 r9] rm As (HM D V P PH) sz (zEo D V P PH sz x)) (hst : st = As.reverse ++ rest) (ha : As.length = a) (hR : zRm rm R n9 k n) (hcat : (rest.map fun v => v.category).sum ≤ 8) (hls : ls.length = nL)
    (kk : ∀ V2 : Nat → Nat → Int32, (∀ c, c ≠ 36 → V2 c = V c) → Z E G (HM D V2 P PH) sz (k + rm.cells) (n + rm.slots) (pc + 3, ls, .int x :: rest)) : Z E G (HM D V P PH) sz k n (pc, ls, st) :=
  Z_callS C ht hl hp hlk As hM hst ha hR hcat hls (fun v h3 sz3 hO => by
    obtain ⟨e1, e2, V2, rfl, hV⟩ := hO
    cases e1
    rw [e2]
    exact kk V2 hV) (fun X h3 sz3 hO => by cases hO.1)
end LWC
theorem sdI_b {F : Nat → Nat} {k s : Nat} (hs : s < 2) : (sdI F k = nI s ∧ hld F k s = true) ∨ (¬ sdI F k = nI s ∧ hld F k s = false) := by
  cases h : hld F k s with
  | true => exact Or.inl ⟨(sdI_s hs).mpr h, rfl⟩
  | false => exact Or.inr ⟨(sdI_n hs).mpr h, rfl⟩
theorem lw_t : ∀ a, a < 128 → ∀ v, v < 128 → nI (wst (stp a ||| stp v) + 0 % 2 * 10) - nI (wst (stp a) + 0 % 2 * 10) = nI (wst (lrn a v)) := by decide +kernel
theorem ldr_q {v : Nat} (h : v ≠ 0) : (v / 32 % 2 = 1) ↔ ldr v = true := by
  unfold ldr
  rw [beq_iff_eq]
theorem or32 {a v : Nat} : stp a ||| stp v < 32 := Nat.or_lt_two_pow (n := 5) (stp_lt _) (stp_lt _)
/-! how often a board came up -/
def tdn (b : Nat → Bool) : Nat → Nat
  | 0 => if b 0 then 1 else 0
  | 1 => if b 1 then 1 else 0
  | n + 2 => (if b (n + 2) then 1 else 0) + tdn b n
theorem tdn_cnt (b : Nat → Bool) : ∀ (y n : Nat), n < y → tdn b n = cnt (fun i => i % 2 == n % 2 && b i) (n + 1) := by
  intro y
  induction y with
  | zero => intro n h; omega
  | succ y ih =>
    intro n h
    match n with
    | 0 =>
      unfold tdn
      rw [cnt_s]
      show _ = 0 + _
      cases b 0 <;> rfl
    | 1 =>
      unfold tdn
      rw [cnt_s, cnt_s]
      show _ = 0 + (if ((0 % 2 == 1 % 2) && b 0) = true then 1 else 0) + _
      cases b 1 <;> rfl
    | n + 2 =>
      unfold tdn
      rw [ih n (by omega)]
      have c1 : cnt (fun i => i % 2 == (n + 2) % 2 && b i) (n + 2 + 1) = cnt (fun i => i % 2 == (n + 2) % 2 && b i) (n + 1) + (if ((n + 1) % 2 == (n + 2) % 2 && b (n + 1)) = true then 1 else 0) + (if ((n + 2) % 2 == (n + 2) % 2 && b (n + 2)) = true then 1 else 0) := rfl
      rw [c1]
      have e1 : ((n + 1) % 2 == (n + 2) % 2) = false := by simp; omega
      have e2 : ((n + 2) % 2 == (n + 2) % 2) = true := by simp
      have e3 : n % 2 = (n + 2) % 2 := by omega
      rw [e1, e2, e3]
      simp
      omega
theorem tdn_le (b : Nat → Bool) : ∀ (y n : Nat), n < y → tdn b n ≤ n + 1 := by
  intro y n h
  rw [tdn_cnt b y n h]
  exact cnt_le
def e4 (B F : Nat → Nat) : Bool := pq4 B 0 == pq4 F 0 && (pq4 B 1 == pq4 F 1 && (pq4 B 2 == pq4 F 2 && pq4 B 3 == pq4 F 3))
theorem e4_eqp {B F : Nat → Nat} (hB : okF B) (hF : okF F) : e4 B F = eqp B F 36 := by
  rw [Bool.eq_iff_iff, eqp_eqv]
  unfold e4
  simp only [Bool.and_eq_true, beq_iff_eq]
  constructor
  · rintro ⟨h0, h1, h2, h3⟩
    refine pq4_inj hB hF (fun i hi => ?_)
    rcases (show i = 0 ∨ i = 1 ∨ i = 2 ∨ i = 3 by omega) with rfl | rfl | rfl | rfl
    · exact h0
    · exact h1
    · exact h2
    · exact h3
  · intro h
    have hq : ∀ i, i < 4 → pq4 B i = pq4 F i := fun i hi => qtr_ext h (by omega)
    exact ⟨hq 0 (by decide), hq 1 (by decide), hq 2 (by decide), hq 3 (by decide)⟩
theorem tdn_n1t {Bd : Nat → Nat → Nat} (hB : ∀ i, okF (Bd i)) {F : Nat → Nat} (hF : okF F) {md : Nat} : tdn (fun i => e4 ((fun i => if i = md + 1 then F else Bd i) i) F) (md + 1) = n1t ((md + 1) % 2) F (trL Bd md) := by
  rw [tdn_cnt _ (md + 2) (md + 1) (by omega), cnt_s]
  unfold n1t
  rw [tbf_c9 hB hF]
  unfold c9
  have e1 : cnt (fun i => i % 2 == (md + 1) % 2 && e4 ((fun i => if i = md + 1 then F else Bd i) i) F) (md + 1) = cnt (fun i => i % 2 == (md + 1) % 2 && eqp (Bd i) F 36) (md + 1) := cnt_ext (fun k hk => by
    dsimp only
    rw [if_neg (by omega), e4_eqp (hB k) hF])
  have e3 : (fun i => if i = md + 1 then F else Bd i) (md + 1) = F := if_pos rfl
  rw [e1, e3, e4_eqp hF hF]
  have e2 : eqp F F 36 = true := by rw [eqp_eqv]; exact fun _ _ => rfl
  rw [e2]
  simp
  omega
theorem lgc_0 {x y : Nat} (hx : x < 2 ^ 63) (hy : y < 2 ^ 63) : lg_cmp (lN x) (lN y) = 0 ↔ x = y := by
  unfold lg_cmp
  have h1 := pf_lI hx
  have h2 := pf_lI hy
  constructor
  · intro h
    split at h
    · cases h
    · split at h
      · next e =>
        have := congrArg Int64.toInt e
        rw [h1, h2] at this
        omega
      · cases h
  · intro e
    subst e
    rw [if_neg (by exact Int64.lt_irrefl), if_pos rfl]
theorem dcm_s {a b : Nat} (hb : nI b ≠ 0) : Op.cmpValue (FP.dcmp (FP.ddiv (FP.i2d (nI a)) (FP.i2d (nI b))) (FP.ddiv (FP.i2d (nI a)) (FP.i2d (nI b)))) .l = 0 := by
  have hv : FP.Core.dIsNaN (FP.i2d (nI a)) = false := by
    rw [← Bool.not_eq_true, FP.Core.isNaN_bits]
    have := (FP.Core.fin_bits _).mp (FP.Core.i2d_fin (nI a))
    intro h2
    exact absurd this (by have h3 : 9218868437227405312 < (FP.Core.i2d (nI a)).toNat % 2 ^ 63 := h2; omega)
  have h1 : FP.Core.dIsNaN (FP.ddiv (FP.i2d (nI a)) (FP.i2d (nI b))) = false := FP.Core.ddiv_out hv (FP.Core.i2d_fin (nI b)) (fun hz => FP.Core.i2d_ne_zero hb ((FP.Core.zero_bits2 _).mp hz))
  have h2 : FP.dcmp (FP.ddiv (FP.i2d (nI a)) (FP.i2d (nI b))) (FP.ddiv (FP.i2d (nI a)) (FP.i2d (nI b))) = some .eq := FP.Core.dcmp_self (fun z => by
    rw [(FP.Core.dIsNaN_iff _).mpr z] at h1
    cases h1)
  rw [h2]
  rfl
theorem wr_pos {v : Nat} (hv : v < 128) (h0 : v ≠ 0) (h : stp v ≠ 0) : 0 < wr v := by
  have : ∀ v, v < 128 → stp v ≠ 0 → 0 < wr v := by decide +kernel
  exact this v hv h
theorem wos_pos {F : Nat → Nat} {k s : Nat} (h : hld F k s = true) (hw : 0 < wr (F k)) : ∀ {n : Nat}, k < n → 0 < wos F s n := by
  intro n
  induction n with
  | zero => intro h; omega
  | succ n ih =>
    intro hk
    rw [wos_s]
    by_cases e : k = n
    · subst e
      rw [h, if_pos rfl]
      omega
    · have := ih (by omega)
      omega
