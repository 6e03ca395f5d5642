/-- GatedPileLaw.law([I)Z -/
def cl_334 : xCl := [(29, [(0, .new 7, 3), (3, .dup, 1), (4, .invokespecial 9, 3), (7, .astore_n 1, 1), (8, .new 10, 3), (11, .dup, 1), (12, .invokespecial 12, 3), (15, .astore_n 2, 1), (16, .iconst 0, 1), (17, .istore_n 3, 1), (18, .iload_n 3, 1), (19, .aload_n 0, 1), (20, .arraylength, 1), (21, .bipush 6, 2), (23, .isub, 1), (24, .if_icmp .gt 544, 3), (27, .aload_n 0, 1), (28, .iload_n 3, 1)]), (134, [(29, .iaload, 1), (30, .bipush 31, 2), (32, .iand, 1), (33, .tableswitch 529 0 17 #[87, 150, 173, 186, 209, 232, 265, 298, 321, 354, 377, 388, 401, 424, 437, 460, 483, 506], 87), (120, .aload_n 1, 1), (121, .aload_n 0, 1), (122, .iload_n 3, 1), (123, .iconst 1, 1), (124, .iadd, 1), (125, .iaload, 1), (126, .aload_n 0, 1), (127, .iload_n 3, 1), (128, .iconst 2, 1), (129, .iadd, 1), (130, .iaload, 1), (131, .aload_n 0, 1), (132, .iload_n 3, 1), (133, .iconst 3, 1)]), (154, [(134, .iadd, 1), (135, .iaload, 1), (136, .aload_n 0, 1), (137, .iload_n 3, 1), (138, .iconst 4, 1), (139, .iadd, 1), (140, .iaload, 1), (141, .aload_n 0, 1), (142, .iload_n 3, 1), (143, .iconst 5, 1), (144, .iadd, 1), (145, .iaload, 1), (146, .invokevirtual 13, 3), (149, .aload_n 2, 1), (150, .aload_n 0, 1), (151, .iload_n 3, 1), (152, .iconst 1, 1), (153, .iadd, 1)]), (172, [(154, .iaload, 1), (155, .aload_n 0, 1), (156, .iload_n 3, 1), (157, .iconst 2, 1), (158, .iadd, 1), (159, .iaload, 1), (160, .aload_n 0, 1), (161, .iload_n 3, 1), (162, .iconst 3, 1), (163, .iadd, 1), (164, .iaload, 1), (165, .aload_n 0, 1), (166, .iload_n 3, 1), (167, .iconst 4, 1), (168, .iadd, 1), (169, .iaload, 1), (170, .aload_n 0, 1), (171, .iload_n 3, 1)]), (196, [(172, .iconst 5, 1), (173, .iadd, 1), (174, .iaload, 1), (175, .invokevirtual 17, 3), (178, .if_icmp .eq 384, 3), (181, .iconst 0, 1), (182, .ireturn, 1), (183, .aload_n 1, 1), (184, .aload_n 0, 1), (185, .iload_n 3, 1), (186, .iconst 1, 1), (187, .iadd, 1), (188, .iaload, 1), (189, .invokevirtual 18, 3), (192, .aload_n 2, 1), (193, .aload_n 0, 1), (194, .iload_n 3, 1), (195, .iconst 1, 1)]), (224, [(196, .iadd, 1), (197, .iaload, 1), (198, .invokevirtual 22, 3), (201, .if_icmp .eq 361, 3), (204, .iconst 0, 1), (205, .ireturn, 1), (206, .aload_n 1, 1), (207, .invokevirtual 23, 3), (210, .aload_n 2, 1), (211, .invokevirtual 27, 3), (214, .if_icmp .eq 348, 3), (217, .iconst 0, 1), (218, .ireturn, 1), (219, .aload_n 1, 1), (220, .aload_n 0, 1), (221, .iload_n 3, 1), (222, .iconst 1, 1), (223, .iadd, 1)]), (248, [(224, .iaload, 1), (225, .invokevirtual 28, 3), (228, .aload_n 2, 1), (229, .aload_n 0, 1), (230, .iload_n 3, 1), (231, .iconst 1, 1), (232, .iadd, 1), (233, .iaload, 1), (234, .invokevirtual 31, 3), (237, .if_icmp .eq 325, 3), (240, .iconst 0, 1), (241, .ireturn, 1), (242, .aload_n 1, 1), (243, .aload_n 0, 1), (244, .iload_n 3, 1), (245, .iconst 1, 1), (246, .iadd, 1), (247, .iaload, 1)]), (272, [(248, .invokevirtual 32, 3), (251, .aload_n 2, 1), (252, .aload_n 0, 1), (253, .iload_n 3, 1), (254, .iconst 1, 1), (255, .iadd, 1), (256, .iaload, 1), (257, .invokevirtual 35, 3), (260, .if_icmp .eq 302, 3), (263, .iconst 0, 1), (264, .ireturn, 1), (265, .aload_n 1, 1), (266, .aload_n 0, 1), (267, .iload_n 3, 1), (268, .iconst 1, 1), (269, .iadd, 1), (270, .iaload, 1), (271, .aload_n 0, 1)]), (296, [(272, .iload_n 3, 1), (273, .iconst 2, 1), (274, .iadd, 1), (275, .iaload, 1), (276, .invokevirtual 36, 3), (279, .aload_n 2, 1), (280, .aload_n 0, 1), (281, .iload_n 3, 1), (282, .iconst 1, 1), (283, .iadd, 1), (284, .iaload, 1), (285, .aload_n 0, 1), (286, .iload_n 3, 1), (287, .iconst 2, 1), (288, .iadd, 1), (289, .iaload, 1), (290, .invokevirtual 40, 3), (293, .if_icmp .eq 269, 3)]), (316, [(296, .iconst 0, 1), (297, .ireturn, 1), (298, .aload_n 1, 1), (299, .aload_n 0, 1), (300, .iload_n 3, 1), (301, .iconst 1, 1), (302, .iadd, 1), (303, .iaload, 1), (304, .aload_n 0, 1), (305, .iload_n 3, 1), (306, .iconst 2, 1), (307, .iadd, 1), (308, .iaload, 1), (309, .invokevirtual 41, 3), (312, .aload_n 2, 1), (313, .aload_n 0, 1), (314, .iload_n 3, 1), (315, .iconst 1, 1)]), (340, [(316, .iadd, 1), (317, .iaload, 1), (318, .aload_n 0, 1), (319, .iload_n 3, 1), (320, .iconst 2, 1), (321, .iadd, 1), (322, .iaload, 1), (323, .invokevirtual 44, 3), (326, .if_icmp .eq 236, 3), (329, .iconst 0, 1), (330, .ireturn, 1), (331, .aload_n 1, 1), (332, .aload_n 0, 1), (333, .iload_n 3, 1), (334, .iconst 1, 1), (335, .iadd, 1), (336, .iaload, 1), (337, .invokevirtual 45, 3)]), (362, [(340, .aload_n 2, 1), (341, .aload_n 0, 1), (342, .iload_n 3, 1), (343, .iconst 1, 1), (344, .iadd, 1), (345, .iaload, 1), (346, .invokevirtual 48, 3), (349, .if_icmp .eq 213, 3), (352, .iconst 0, 1), (353, .ireturn, 1), (354, .aload_n 1, 1), (355, .aload_n 0, 1), (356, .iload_n 3, 1), (357, .iconst 1, 1), (358, .iadd, 1), (359, .iaload, 1), (360, .aload_n 0, 1), (361, .iload_n 3, 1)]), (386, [(362, .iconst 2, 1), (363, .iadd, 1), (364, .iaload, 1), (365, .invokevirtual 49, 3), (368, .aload_n 2, 1), (369, .aload_n 0, 1), (370, .iload_n 3, 1), (371, .iconst 1, 1), (372, .iadd, 1), (373, .iaload, 1), (374, .aload_n 0, 1), (375, .iload_n 3, 1), (376, .iconst 2, 1), (377, .iadd, 1), (378, .iaload, 1), (379, .invokevirtual 52, 3), (382, .if_icmp .eq 180, 3), (385, .iconst 0, 1)]), (410, [(386, .ireturn, 1), (387, .aload_n 1, 1), (388, .aload_n 0, 1), (389, .iload_n 3, 1), (390, .iconst 1, 1), (391, .iadd, 1), (392, .iaload, 1), (393, .invokevirtual 53, 3), (396, .aload_n 2, 1), (397, .aload_n 0, 1), (398, .iload_n 3, 1), (399, .iconst 1, 1), (400, .iadd, 1), (401, .iaload, 1), (402, .invokevirtual 57, 3), (405, .if_icmp .eq 157, 3), (408, .iconst 0, 1), (409, .ireturn, 1)]), (440, [(410, .aload_n 1, 1), (411, .invokevirtual 58, 3), (414, .aload_n 2, 1), (415, .invokevirtual 61, 3), (418, .goto 144, 3), (421, .aload_n 1, 1), (422, .invokevirtual 62, 3), (425, .aload_n 2, 1), (426, .invokevirtual 66, 3), (429, .if_icmp .eq 133, 3), (432, .iconst 0, 1), (433, .ireturn, 1), (434, .aload_n 1, 1), (435, .aload_n 0, 1), (436, .iload_n 3, 1), (437, .iconst 1, 1), (438, .iadd, 1), (439, .iaload, 1)]), (470, [(440, .invokevirtual 67, 3), (443, .aload_n 2, 1), (444, .aload_n 0, 1), (445, .iload_n 3, 1), (446, .iconst 1, 1), (447, .iadd, 1), (448, .iaload, 1), (449, .invokevirtual 70, 3), (452, .if_icmp .eq 110, 3), (455, .iconst 0, 1), (456, .ireturn, 1), (457, .aload_n 1, 1), (458, .invokevirtual 71, 3), (461, .aload_n 2, 1), (462, .invokevirtual 74, 3), (465, .if_icmp .eq 97, 3), (468, .iconst 0, 1), (469, .ireturn, 1)]), (494, [(470, .aload_n 1, 1), (471, .aload_n 0, 1), (472, .iload_n 3, 1), (473, .iconst 1, 1), (474, .iadd, 1), (475, .iaload, 1), (476, .invokevirtual 75, 3), (479, .aload_n 2, 1), (480, .aload_n 0, 1), (481, .iload_n 3, 1), (482, .iconst 1, 1), (483, .iadd, 1), (484, .iaload, 1), (485, .invokevirtual 78, 3), (488, .if_icmp .eq 74, 3), (491, .iconst 0, 1), (492, .ireturn, 1), (493, .aload_n 1, 1)]), (518, [(494, .aload_n 0, 1), (495, .iload_n 3, 1), (496, .iconst 1, 1), (497, .iadd, 1), (498, .iaload, 1), (499, .invokevirtual 79, 3), (502, .aload_n 2, 1), (503, .aload_n 0, 1), (504, .iload_n 3, 1), (505, .iconst 1, 1), (506, .iadd, 1), (507, .iaload, 1), (508, .invokevirtual 82, 3), (511, .if_icmp .eq 51, 3), (514, .iconst 0, 1), (515, .ireturn, 1), (516, .aload_n 1, 1), (517, .aload_n 0, 1)]), (542, [(518, .iload_n 3, 1), (519, .iconst 1, 1), (520, .iadd, 1), (521, .iaload, 1), (522, .invokevirtual 83, 3), (525, .aload_n 2, 1), (526, .aload_n 0, 1), (527, .iload_n 3, 1), (528, .iconst 1, 1), (529, .iadd, 1), (530, .iaload, 1), (531, .invokevirtual 86, 3), (534, .if_icmp .eq 28, 3), (537, .iconst 0, 1), (538, .ireturn, 1), (539, .aload_n 1, 1), (540, .aload_n 0, 1), (541, .iload_n 3, 1)]), (100000, [(542, .iconst 1, 1), (543, .iadd, 1), (544, .iaload, 1), (545, .invokevirtual 87, 3), (548, .aload_n 2, 1), (549, .aload_n 0, 1), (550, .iload_n 3, 1), (551, .iconst 1, 1), (552, .iadd, 1), (553, .iaload, 1), (554, .invokevirtual 90, 3), (557, .if_icmp .eq 5, 3), (560, .iconst 0, 1), (561, .ireturn, 1), (562, .iinc 3 6, 3), (565, .goto (-547), 3), (568, .iconst 1, 1), (569, .ireturn, 1)])]
set_option maxRecDepth 100000 in
theorem dk_334 : dkA cl_334 code = true := by decide +kernel
set_option maxRecDepth 100000 in
theorem ok_334 : (ck pft pfn (look2 cl_334) ppl pmk 12 false 3 tr_334 0 0 0 0).isSome = true := by decide +kernel
set_option maxRecDepth 100000 in
theorem mk_334 : MOK1 334 mr_334 := mok_mk ⟨"GatedPileLaw", "law", "([I)Z"⟩ code _ 0 12 "GatedPileLaw" cl_334 false rfl rfl rfl rfl dk_334 (by decide +kernel) (by decide +kernel) (by decide +kernel) ok_334 (plainFor_of_name (by decide +kernel)) (fun z => absurd z (by decide))
/-- java/lang/StringLatin1.charAt([BI)C -/
def cl_335 : xCl := [(6, [(0, .iload_n 1, 1), (1, .aload_n 0, 1), (2, .arraylength, 1), (3, .invokestatic 9, 3)]), (12, [(6, .aload_n 0, 1), (7, .iload_n 1, 1), (8, .baload, 1), (9, .sipush 255, 3)]), (100000, [(12, .iand, 1), (13, .i2c, 1), (14, .ireturn, 1)])]
set_option maxRecDepth 100000 in
theorem dk_335 : dkA cl_335 prog_17_method_2_code = true := by decide +kernel
set_option maxRecDepth 100000 in
theorem ok_335 : (ck pft pfn (look2 cl_335) ppl pmk 13 false 5 tr_335 0 0 0 0).isSome = true := by decide +kernel
set_option maxRecDepth 100000 in
theorem mk_335 : MOK1 335 mr_335 := mok_mk ⟨"java/lang/StringLatin1", "charAt", "([BI)C"⟩ prog_17_method_2_code _ 0 13 "java/lang/StringLatin1" cl_335 false rfl rfl rfl rfl dk_335 (by decide +kernel) (by decide +kernel) (by decide +kernel) ok_335 (by decide +kernel) (fun z => absurd z (by decide))
/-- java/lang/StringLatin1.canEncode(I)Z -/
def cl_336 : xCl := [(8, [(0, .iload_n 0, 1), (1, .ifCond .lt 14, 3), (4, .iload_n 0, 1), (5, .sipush 255, 3)]), (16, [(8, .if_icmp .gt 7, 3), (11, .iconst 1, 1), (12, .goto 4, 3), (15, .iconst 0, 1)]), (100000, [(16, .ireturn, 1)])]
set_option maxRecDepth 100000 in
theorem dk_336 : dkA cl_336 prog_17_method_4_code = true := by decide +kernel
set_option maxRecDepth 100000 in
theorem ok_336 : (ck pft pfn (look2 cl_336) ppl pmk 13 false 3 tr_336 0 0 0 0).isSome = true := by decide +kernel
set_option maxRecDepth 100000 in
theorem mk_336 : MOK1 336 mr_336 := mok_mk ⟨"java/lang/StringLatin1", "canEncode", "(I)Z"⟩ prog_17_method_4_code _ 0 13 "java/lang/StringLatin1" cl_336 false rfl rfl rfl rfl dk_336 (by decide +kernel) (by decide +kernel) (by decide +kernel) ok_336 (by decide +kernel) (fun z => absurd z (by decide))
/-- java/lang/StringLatin1.indexOf([BIII)I -/
def cl_337 : xCl := [(9, [(0, .iload_n 1, 1), (1, .invokestatic 88, 3), (4, .ifCond .ne 5, 3), (7, .iconst (-1), 1), (8, .ireturn, 1)]), (16, [(9, .iload_n 2, 1), (10, .iconst 0, 1), (11, .invokestatic 92, 3), (14, .istore_n 2, 1), (15, .iload_n 3, 1)]), (23, [(16, .aload_n 0, 1), (17, .arraylength, 1), (18, .invokestatic 38, 3), (21, .istore_n 3, 1), (22, .iload_n 2, 1)]), (30, [(23, .iload_n 3, 1), (24, .if_icmp .lt 5, 3), (27, .iconst (-1), 1), (28, .ireturn, 1), (29, .aload_n 0, 1)]), (100000, [(30, .iload_n 1, 1), (31, .iload_n 2, 1), (32, .iload_n 3, 1), (33, .invokestatic 95, 3), (36, .ireturn, 1)])]
set_option maxRecDepth 100000 in
theorem dk_337 : dkA cl_337 prog_17_method_22_code = true := by decide +kernel
set_option maxRecDepth 100000 in
theorem ok_337 : (ck pft pfn (look2 cl_337) ppl pmk 13 false 0 tr_337 0 0 0 0).isSome = true := by decide +kernel
set_option maxRecDepth 100000 in
theorem mk_337 : MOK1 337 mr_337 := mok_mk ⟨"java/lang/StringLatin1", "indexOf", "([BIII)I"⟩ prog_17_method_22_code _ 0 13 "java/lang/StringLatin1" cl_337 false rfl rfl rfl rfl dk_337 (by decide +kernel) (by decide +kernel) (by decide +kernel) ok_337 (by decide +kernel) (fun z => absurd z (by decide))
/-- java/lang/StringLatin1.indexOfChar([BIII)I -/
def cl_338 : xCl := [(5, [(0, .iload_n 1, 1), (1, .i2b, 1), (2, .istore 4, 2), (4, .iload_n 2, 1)]), (13, [(5, .istore 5, 2), (7, .iload 5, 2), (9, .iload_n 3, 1), (10, .if_icmp .ge 21, 3)]), (19, [(13, .aload_n 0, 1), (14, .iload 5, 2), (16, .baload, 1), (17, .iload 4, 2)]), (28, [(19, .if_icmp .ne 6, 3), (22, .iload 5, 2), (24, .ireturn, 1), (25, .iinc 5 1, 3)]), (100000, [(28, .goto (-21), 3), (31, .iconst (-1), 1), (32, .ireturn, 1)])]
set_option maxRecDepth 100000 in
theorem dk_338 : dkA cl_338 prog_17_method_23_code = true := by decide +kernel
set_option maxRecDepth 100000 in
theorem ok_338 : (ck pft pfn (look2 cl_338) ppl pmk 13 false 0 tr_338 0 0 0 0).isSome = true := by decide +kernel
set_option maxRecDepth 100000 in
theorem mk_338 : MOK1 338 mr_338 := mok_mk ⟨"java/lang/StringLatin1", "indexOfChar", "([BIII)I"⟩ prog_17_method_23_code _ 0 13 "java/lang/StringLatin1" cl_338 false rfl rfl rfl rfl dk_338 (by decide +kernel) (by decide +kernel) (by decide +kernel) ok_338 (by decide +kernel) (fun z => absurd z (by decide))
/-- java/lang/StringLatin1.newString([BII)Ljava/lang/String; -/
def cl_339 : xCl := [(7, [(0, .iload_n 2, 1), (1, .ifCond .ne 6, 3), (4, .ldc 151, 2), (6, .areturn, 1)]), (13, [(7, .new 1, 3), (10, .dup, 1), (11, .aload_n 0, 1), (12, .iload_n 1, 1)]), (19, [(13, .iload_n 1, 1), (14, .iload_n 2, 1), (15, .iadd, 1), (16, .invokestatic 232, 3)]), (100000, [(19, .iconst 0, 1), (20, .invokespecial 112, 3), (23, .areturn, 1)])]
set_option maxRecDepth 100000 in
theorem dk_339 : dkA cl_339 prog_17_method_47_code = true := by decide +kernel
set_option maxRecDepth 100000 in
theorem ok_339 : (ck pft pfn (look2 cl_339) ppl pmk 13 false 2 tr_339 0 0 0 0).isSome = true := by decide +kernel
set_option maxRecDepth 100000 in
theorem mk_339 : MOK1 339 mr_339 := mok_mk ⟨"java/lang/StringLatin1", "newString", "([BII)Ljava/lang/String;"⟩ prog_17_method_47_code _ 0 13 "java/lang/StringLatin1" cl_339 false rfl rfl rfl rfl dk_339 (by decide +kernel) (by decide +kernel) (by decide +kernel) ok_339 (by decide +kernel) (fun z => absurd z (by decide))
/-- java/lang/StringUTF16.charAt([BI)C -/
def cl_340 : xCl := [(6, [(0, .iload_n 1, 1), (1, .aload_n 0, 1), (2, .invokestatic 67, 3), (5, .aload_n 0, 1)]), (100000, [(6, .iload_n 1, 1), (7, .invokestatic 71, 3), (10, .ireturn, 1)])]
set_option maxRecDepth 100000 in
theorem dk_340 : dkA cl_340 prog_18_method_83_code = true := by decide +kernel
set_option maxRecDepth 100000 in
theorem ok_340 : (ck pft pfn (look2 cl_340) ppl pmk 14 false 5 tr_340 0 0 0 0).isSome = true := by decide +kernel
set_option maxRecDepth 100000 in
theorem mk_340 : MOK1 340 mr_340 := mok_mk ⟨"java/lang/StringUTF16", "charAt", "([BI)C"⟩ prog_18_method_83_code _ 0 14 "java/lang/StringUTF16" cl_340 false rfl rfl rfl rfl dk_340 (by decide +kernel) (by decide +kernel) (by decide +kernel) ok_340 (by decide +kernel) (fun z => absurd z (by decide))
/-- java/lang/StringUTF16.indexOf([BIII)I -/
def cl_341 : xCl := [(7, [(0, .iload_n 2, 1), (1, .iconst 0, 1), (2, .invokestatic 224, 3), (5, .istore_n 2, 1), (6, .iload_n 3, 1)]), (14, [(7, .aload_n 0, 1), (8, .arraylength, 1), (9, .iconst 1, 1), (10, .ishr, 1), (11, .invokestatic 183, 3)]), (21, [(14, .istore_n 3, 1), (15, .iload_n 2, 1), (16, .iload_n 3, 1), (17, .if_icmp .lt 5, 3), (20, .iconst (-1), 1)]), (29, [(21, .ireturn, 1), (22, .iload_n 1, 1), (23, .ldc 227, 2), (25, .if_icmp .ge 11, 3), (28, .aload_n 0, 1)]), (36, [(29, .iload_n 1, 1), (30, .iload_n 2, 1), (31, .iload_n 3, 1), (32, .invokestatic 228, 3), (35, .ireturn, 1)]), (43, [(36, .aload_n 0, 1), (37, .iload_n 1, 1), (38, .iload_n 2, 1), (39, .iload_n 3, 1), (40, .invokestatic 232, 3)]), (100000, [(43, .ireturn, 1)])]
set_option maxRecDepth 100000 in
theorem dk_341 : dkA cl_341 prog_18_method_40_code = true := by decide +kernel
set_option maxRecDepth 100000 in
theorem ok_341 : (ck pft pfn (look2 cl_341) ppl pmk 14 false 0 tr_341 0 0 0 0).isSome = true := by decide +kernel
set_option maxRecDepth 100000 in
theorem mk_341 : MOK1 341 mr_341 := mok_mk ⟨"java/lang/StringUTF16", "indexOf", "([BIII)I"⟩ prog_18_method_40_code _ 0 14 "java/lang/StringUTF16" cl_341 false rfl rfl rfl rfl dk_341 (by decide +kernel) (by decide +kernel) (by decide +kernel) ok_341 (by decide +kernel) (fun z => absurd z (by decide))
/-- java/lang/StringUTF16.newString([BII)Ljava/lang/String; -/
def cl_342 : xCl := [(14, [(0, .iload_n 2, 1), (1, .ifCond .ne 7, 3), (4, .ldc_w 295, 3), (7, .areturn, 1), (8, .getstatic 251, 3), (11, .ifCond .eq 28, 3)]), (22, [(14, .aload_n 0, 1), (15, .iload_n 1, 1), (16, .iload_n 2, 1), (17, .invokestatic 257, 3), (20, .astore_n 3, 1), (21, .aload_n 3, 1)]), (33, [(22, .iload_n 2, 1), (23, .invokestatic 259, 3), (26, .istore 4, 2), (28, .new 3, 3), (31, .dup, 1), (32, .aload_n 3, 1)]), (42, [(33, .iload 4, 2), (35, .invokespecial 263, 3), (38, .areturn, 1), (39, .iload_n 1, 1), (40, .iload_n 2, 1), (41, .iadd, 1)]), (50, [(42, .istore_n 3, 1), (43, .new 3, 3), (46, .dup, 1), (47, .aload_n 0, 1), (48, .iload_n 1, 1), (49, .iconst 1, 1)]), (58, [(50, .ishl, 1), (51, .iload_n 3, 1), (52, .iconst 1, 1), (53, .ishl, 1), (54, .invokestatic 126, 3), (57, .iconst 1, 1)]), (100000, [(58, .invokespecial 263, 3), (61, .areturn, 1)])]
set_option maxRecDepth 100000 in
theorem dk_342 : dkA cl_342 prog_18_method_69_code = true := by decide +kernel
set_option maxRecDepth 100000 in
theorem ok_342 : (ck pft pfn (look2 cl_342) ppl pmk 14 false 2 tr_342 0 0 0 0).isSome = true := by decide +kernel
set_option maxRecDepth 100000 in
theorem mk_342 : MOK1 342 mr_342 := mok_mk ⟨"java/lang/StringUTF16", "newString", "([BII)Ljava/lang/String;"⟩ prog_18_method_69_code _ 0 14 "java/lang/StringUTF16" cl_342 false rfl rfl rfl rfl dk_342 (by decide +kernel) (by decide +kernel) (by decide +kernel) ok_342 (by decide +kernel) (fun z => absurd z (by decide))
/-- java/lang/Math.max(II)I -/
def cl_343 : xCl := [(6, [(0, .iload_n 0, 1), (1, .iload_n 1, 1), (2, .if_icmp .lt 7, 3), (5, .iload_n 0, 1)]), (100000, [(6, .goto 4, 3), (9, .iload_n 1, 1), (10, .ireturn, 1)])]
set_option maxRecDepth 100000 in
theorem dk_343 : dkA cl_343 prog_15_method_65_code = true := by decide +kernel
set_option maxRecDepth 100000 in
theorem ok_343 : (ck pft pfn (look2 cl_343) ppl pmk 15 false 0 tr_343 0 0 0 0).isSome = true := by decide +kernel
set_option maxRecDepth 100000 in
theorem mk_343 : MOK1 343 mr_343 := mok_mk ⟨"java/lang/Math", "max", "(II)I"⟩ prog_15_method_65_code _ 0 15 "java/lang/Math" cl_343 false rfl rfl rfl rfl dk_343 (by decide +kernel) (by decide +kernel) (by decide +kernel) ok_343 (by decide +kernel) (fun z => absurd z (by decide))
/-- java/lang/Math.min(II)I -/
def cl_344 : xCl := [(6, [(0, .iload_n 0, 1), (1, .iload_n 1, 1), (2, .if_icmp .gt 7, 3), (5, .iload_n 0, 1)]), (100000, [(6, .goto 4, 3), (9, .iload_n 1, 1), (10, .ireturn, 1)])]
set_option maxRecDepth 100000 in
theorem dk_344 : dkA cl_344 prog_15_method_69_code = true := by decide +kernel
set_option maxRecDepth 100000 in
theorem ok_344 : (ck pft pfn (look2 cl_344) ppl pmk 15 false 0 tr_344 0 0 0 0).isSome = true := by decide +kernel
set_option maxRecDepth 100000 in
theorem mk_344 : MOK1 344 mr_344 := mok_mk ⟨"java/lang/Math", "min", "(II)I"⟩ prog_15_method_69_code _ 0 15 "java/lang/Math" cl_344 false rfl rfl rfl rfl dk_344 (by decide +kernel) (by decide +kernel) (by decide +kernel) ok_344 (by decide +kernel) (fun z => absurd z (by decide))
/-- jdk/internal/util/Preconditions.checkIndex(IILjava/util/function/BiFunction;)I -/
def cl_345 : xCl := [(6, [(0, .iload_n 0, 1), (1, .ifCond .lt 8, 3), (4, .iload_n 0, 1), (5, .iload_n 1, 1)]), (12, [(6, .if_icmp .lt 10, 3), (9, .aload_n 2, 1), (10, .iload_n 0, 1), (11, .iload_n 1, 1)]), (100000, [(12, .invokestatic 95, 3), (15, .athrow, 1), (16, .iload_n 0, 1), (17, .ireturn, 1)])]
set_option maxRecDepth 100000 in
theorem dk_345 : dkA cl_345 prog_21_method_11_code = true := by decide +kernel
set_option maxRecDepth 100000 in
theorem ok_345 : (ck pft pfn (look2 cl_345) ppl pmk 16 false 0 tr_345 0 0 0 0).isSome = true := by decide +kernel
set_option maxRecDepth 100000 in
theorem mk_345 : MOK1 345 mr_345 := mok_mk ⟨"jdk/internal/util/Preconditions", "checkIndex", "(IILjava/util/function/BiFunction;)I"⟩ prog_21_method_11_code _ 0 16 "jdk/internal/util/Preconditions" cl_345 false rfl rfl rfl rfl dk_345 (by decide +kernel) (by decide +kernel) (by decide +kernel) ok_345 (by decide +kernel) (fun z => absurd z (by decide))
/-- jdk/internal/util/Preconditions.checkFromToIndex(IIILjava/util/function/BiFunction;)I -/
def cl_346 : xCl := [(6, [(0, .iload_n 0, 1), (1, .ifCond .lt 13, 3), (4, .iload_n 0, 1), (5, .iload_n 1, 1)]), (14, [(6, .if_icmp .gt 8, 3), (9, .iload_n 1, 1), (10, .iload_n 2, 1), (11, .if_icmp .le 11, 3)]), (18, [(14, .aload_n 3, 1), (15, .iload_n 0, 1), (16, .iload_n 1, 1), (17, .iload_n 2, 1)]), (100000, [(18, .invokestatic 99, 3), (21, .athrow, 1), (22, .iload_n 0, 1), (23, .ireturn, 1)])]
set_option maxRecDepth 100000 in
theorem dk_346 : dkA cl_346 prog_21_method_12_code = true := by decide +kernel
set_option maxRecDepth 100000 in
theorem ok_346 : (ck pft pfn (look2 cl_346) ppl pmk 16 false 0 tr_346 0 0 0 0).isSome = true := by decide +kernel
set_option maxRecDepth 100000 in
theorem mk_346 : MOK1 346 mr_346 := mok_mk ⟨"jdk/internal/util/Preconditions", "checkFromToIndex", "(IIILjava/util/function/BiFunction;)I"⟩ prog_21_method_12_code _ 0 16 "jdk/internal/util/Preconditions" cl_346 false rfl rfl rfl rfl dk_346 (by decide +kernel) (by decide +kernel) (by decide +kernel) ok_346 (by decide +kernel) (fun z => absurd z (by decide))
/-- java/util/Arrays.copyOfRange([BII)[B -/
def cl_347 : xCl := [(6, [(0, .iload_n 1, 1), (1, .ifCond .ne 9, 3), (4, .iload_n 2, 1), (5, .aload_n 0, 1)]), (12, [(6, .arraylength, 1), (7, .if_icmp .eq 10, 3), (10, .aload_n 0, 1), (11, .iload_n 1, 1)]), (18, [(12, .iload_n 2, 1), (13, .invokestatic 339, 3), (16, .areturn, 1), (17, .aload_n 0, 1)]), (100000, [(18, .invokevirtual 310, 3), (21, .checkcast 311, 3), (24, .areturn, 1)])]
set_option maxRecDepth 100000 in
theorem dk_347 : dkA cl_347 prog_20_method_132_code = true := by decide +kernel
set_option maxRecDepth 100000 in
theorem ok_347 : (ck pft pfn (look2 cl_347) ppl pmk 17 false 2 tr_347 0 0 0 0).isSome = true := by decide +kernel
set_option maxRecDepth 100000 in
theorem mk_347 : MOK1 347 mr_347 := mok_mk ⟨"java/util/Arrays", "copyOfRange", "([BII)[B"⟩ prog_20_method_132_code _ 0 17 "java/util/Arrays" cl_347 false rfl rfl rfl rfl dk_347 (by decide +kernel) (by decide +kernel) (by decide +kernel) ok_347 (by decide +kernel) (fun z => absurd z (by decide))
/-- java/util/Arrays.copyOfRangeByte([BII)[B -/
def cl_348 : xCl := [(6, [(0, .iload_n 1, 1), (1, .iload_n 2, 1), (2, .invokestatic 343, 3), (5, .iload_n 2, 1)]), (10, [(6, .iload_n 1, 1), (7, .isub, 1), (8, .istore_n 3, 1), (9, .iload_n 3, 1)]), (16, [(10, .newarray .byte, 2), (12, .astore 4, 2), (14, .aload_n 0, 1), (15, .iload_n 1, 1)]), (21, [(16, .aload 4, 2), (18, .iconst 0, 1), (19, .aload_n 0, 1), (20, .arraylength, 1)]), (27, [(21, .iload_n 1, 1), (22, .isub, 1), (23, .iload_n 3, 1), (24, .invokestatic 304, 3)]), (100000, [(27, .invokestatic 150, 3), (30, .aload 4, 2), (32, .areturn, 1)])]
set_option maxRecDepth 100000 in
theorem dk_348 : dkA cl_348 prog_20_method_133_code = true := by decide +kernel
set_option maxRecDepth 100000 in
theorem ok_348 : (ck pft pfn (look2 cl_348) ppl pmk 17 false 2 tr_348 0 0 0 0).isSome = true := by decide +kernel
set_option maxRecDepth 100000 in
theorem mk_348 : MOK1 348 mr_348 := mok_mk ⟨"java/util/Arrays", "copyOfRangeByte", "([BII)[B"⟩ prog_20_method_133_code _ 0 17 "java/util/Arrays" cl_348 false rfl rfl rfl rfl dk_348 (by decide +kernel) (by decide +kernel) (by decide +kernel) ok_348 (by decide +kernel) (fun z => absurd z (by decide))
/-- java/util/Arrays.checkLength(II)V -/
def cl_349 : xCl := [(8, [(0, .iload_n 1, 1), (1, .iload_n 0, 1), (2, .if_icmp .ge 35, 3), (5, .new 43, 3)]), (16, [(8, .dup, 1), (9, .new 45, 3), (12, .dup, 1), (13, .invokespecial 47, 3)]), (26, [(16, .iload_n 0, 1), (17, .invokevirtual 54, 3), (20, .ldc_w 337, 3), (23, .invokevirtual 50, 3)]), (36, [(26, .iload_n 1, 1), (27, .invokevirtual 54, 3), (30, .invokevirtual 61, 3), (33, .invokespecial 65, 3)]), (100000, [(36, .athrow, 1), (37, .return_, 1)])]
set_option maxRecDepth 100000 in
theorem dk_349 : dkA cl_349 prog_20_method_131_code = true := by decide +kernel
set_option maxRecDepth 100000 in
theorem ok_349 : (ck pft pfn (look2 cl_349) ppl pmk 17 false 9 tr_349 0 0 0 0).isSome = true := by decide +kernel
set_option maxRecDepth 100000 in
theorem mk_349 : MOK1 349 mr_349 := mok_mk ⟨"java/util/Arrays", "checkLength", "(II)V"⟩ prog_20_method_131_code _ 0 17 "java/util/Arrays" cl_349 false rfl rfl rfl rfl dk_349 (by decide +kernel) (by decide +kernel) (by decide +kernel) ok_349 (by decide +kernel) (fun z => absurd z (by decide))
/-- java/util/Arrays.fill([II)V -/
def cl_350 : xCl := [(4, [(0, .iconst 0, 1), (1, .istore_n 2, 1), (2, .aload_n 0, 1), (3, .arraylength, 1)]), (10, [(4, .istore_n 3, 1), (5, .iload_n 2, 1), (6, .iload_n 3, 1), (7, .if_icmp .ge 13, 3)]), (14, [(10, .aload_n 0, 1), (11, .iload_n 2, 1), (12, .iload_n 1, 1), (13, .iastore, 1)]), (100000, [(14, .iinc 2 1, 3), (17, .goto (-12), 3), (20, .return_, 1)])]
set_option maxRecDepth 100000 in
theorem dk_350 : dkA cl_350 prog_20_method_103_code = true := by decide +kernel
set_option maxRecDepth 100000 in
theorem ok_350 : (ck pft pfn (look2 cl_350) ppl pmk 17 false 9 tr_350 0 0 0 0).isSome = true := by decide +kernel
set_option maxRecDepth 100000 in
theorem mk_350 : MOK1 350 mr_350 := mok_mk ⟨"java/util/Arrays", "fill", "([II)V"⟩ prog_20_method_103_code _ 0 17 "java/util/Arrays" cl_350 false rfl rfl rfl rfl dk_350 (by decide +kernel) (by decide +kernel) (by decide +kernel) ok_350 (by decide +kernel) (fun z => absurd z (by decide))
set_option maxRecDepth 100000 in
theorem ma_17 : AllM 334 ml_17 := AllM_cons mk_334 (AllM_cons mk_335 (AllM_cons mk_336 (AllM_cons mk_337 (AllM_cons mk_338 (AllM_cons mk_339 (AllM_cons mk_340 (AllM_cons mk_341 (AllM_cons mk_342 (AllM_cons mk_343 (AllM_cons mk_344 (AllM_cons mk_345 (AllM_cons mk_346 (AllM_cons mk_347 (AllM_cons mk_348 (AllM_cons mk_349 (AllM_cons mk_350 (AllM_nil _)))))))))))))))))
