/-- GatedPile$Layer.layOrder(I)V -/
def cl_50 : xCl := [(21, [(0, .iload_n 1, 1), (1, .ifCond .lt 14, 3), (4, .iload_n 1, 1), (5, .aload_n 0, 1), (6, .getfield 19, 3), (9, .getfield 53, 3), (12, .if_icmp .lt 4, 3), (15, .return_, 1), (16, .aload_n 0, 1), (17, .iload_n 1, 1), (18, .putfield 100, 3)]), (40, [(21, .aload_n 0, 1), (22, .iconst 0, 1), (23, .putfield 103, 3), (26, .aload_n 0, 1), (27, .getfield 19, 3), (30, .getfield 119, 3), (33, .iload_n 1, 1), (34, .iaload, 1), (35, .istore_n 2, 1), (36, .aload_n 0, 1), (37, .getfield 19, 3)]), (181, [(40, .getfield 122, 3), (43, .iload_n 1, 1), (44, .iaload, 1), (45, .tableswitch 317 0 26 #[123, 317, 317, 317, 317, 317, 131, 158, 185, 192, 230, 237, 244, 209, 251, 317, 317, 259, 317, 290, 317, 317, 297, 317, 317, 317, 309], 123), (168, .aload_n 0, 1), (169, .iload_n 2, 1), (170, .invokevirtual 125, 3), (173, .goto 203, 3), (176, .aload_n 0, 1), (177, .iconst 0, 1), (178, .invokevirtual 128, 3)]), (197, [(181, .aload_n 0, 1), (182, .iload_n 2, 1), (183, .invokevirtual 131, 3), (186, .aload_n 0, 1), (187, .bipush 8, 2), (189, .iconst 0, 1), (190, .iconst 1, 1), (191, .iconst 0, 1), (192, .invokevirtual 73, 3), (195, .aload_n 0, 1), (196, .iconst 0, 1)]), (218, [(197, .invokevirtual 134, 3), (200, .goto 176, 3), (203, .aload_n 0, 1), (204, .iconst 3, 1), (205, .invokevirtual 128, 3), (208, .aload_n 0, 1), (209, .iconst 0, 1), (210, .invokevirtual 128, 3), (213, .aload_n 0, 1), (214, .iload_n 2, 1), (215, .invokevirtual 131, 3)]), (238, [(218, .aload_n 0, 1), (219, .bipush 9, 2), (221, .iconst 3, 1), (222, .iconst 1, 1), (223, .iconst 0, 1), (224, .invokevirtual 73, 3), (227, .goto 149, 3), (230, .aload_n 0, 1), (231, .invokevirtual 137, 3), (234, .goto 142, 3), (237, .aload_n 0, 1)]), (259, [(238, .iconst 1, 1), (239, .invokevirtual 128, 3), (242, .aload_n 0, 1), (243, .iconst 0, 1), (244, .invokevirtual 128, 3), (247, .aload_n 0, 1), (248, .invokevirtual 140, 3), (251, .goto 125, 3), (254, .aload_n 0, 1), (255, .iconst 1, 1), (256, .invokevirtual 128, 3)]), (279, [(259, .aload_n 0, 1), (260, .bipush 6, 2), (262, .iconst 0, 1), (263, .iconst 0, 1), (264, .iconst 0, 1), (265, .invokevirtual 73, 3), (268, .aload_n 0, 1), (269, .invokevirtual 140, 3), (272, .goto 104, 3), (275, .aload_n 0, 1), (276, .invokevirtual 143, 3)]), (304, [(279, .goto 97, 3), (282, .aload_n 0, 1), (283, .invokevirtual 146, 3), (286, .goto 90, 3), (289, .aload_n 0, 1), (290, .invokevirtual 149, 3), (293, .goto 83, 3), (296, .aload_n 0, 1), (297, .iload_n 2, 1), (298, .invokevirtual 152, 3), (301, .goto 75, 3)]), (327, [(304, .aload_n 0, 1), (305, .aload_n 0, 1), (306, .getfield 19, 3), (309, .aload_n 0, 1), (310, .getfield 19, 3), (313, .iload_n 2, 1), (314, .invokevirtual 84, 3), (317, .invokevirtual 88, 3), (320, .invokevirtual 91, 3), (323, .aload_n 0, 1), (324, .invokevirtual 155, 3)]), (348, [(327, .aload_n 0, 1), (328, .iconst 0, 1), (329, .invokevirtual 134, 3), (332, .goto 44, 3), (335, .aload_n 0, 1), (336, .invokevirtual 158, 3), (339, .goto 37, 3), (342, .aload_n 0, 1), (343, .iconst 0, 1), (344, .invokevirtual 128, 3), (347, .aload_n 0, 1)]), (371, [(348, .invokevirtual 161, 3), (351, .goto 25, 3), (354, .aload_n 0, 1), (355, .iload_n 2, 1), (356, .invokevirtual 164, 3), (359, .goto 17, 3), (362, .aload_n 0, 1), (363, .aload_n 0, 1), (364, .getfield 19, 3), (367, .getfield 122, 3), (370, .iload_n 1, 1)]), (100000, [(371, .iaload, 1), (372, .iload_n 2, 1), (373, .invokevirtual 167, 3), (376, .return_, 1)])]
set_option maxRecDepth 100000 in
theorem dk_50 : dkA cl_50 prog_4_method_16_code = true := by decide +kernel
set_option maxRecDepth 100000 in
theorem ok_50 : (ck pft pfn (look2 cl_50) ppl pmk 3 false 9 tr_50 0 0 0 0).isSome = true := by decide +kernel
set_option maxRecDepth 100000 in
theorem mk_50 : MOK1 50 mr_50 := mok_mk ⟨"GatedPile$Layer", "layOrder", "(I)V"⟩ prog_4_method_16_code _ 1 3 "GatedPile$Layer" cl_50 false rfl rfl rfl rfl dk_50 (by decide +kernel) (by decide +kernel) (by decide +kernel) ok_50 (plainFor_of_name (by decide +kernel)) (fun _ => ⟨3, _, rfl, rfl, rfl⟩)
/-- GatedPile$Layer.layPlain(II)V -/
def cl_51 : xCl := [(129, [(0, .iload_n 1, 1), (1, .tableswitch 365 1 24 #[111, 125, 147, 169, 191, 365, 365, 365, 365, 365, 365, 365, 365, 365, 365, 213, 365, 246, 365, 260, 284, 365, 300, 321], 111), (112, .aload_n 0, 1), (113, .iconst 0, 1), (114, .iload_n 2, 1), (115, .invokevirtual 170, 3), (118, .aload_n 0, 1), (119, .iconst 0, 1), (120, .invokevirtual 134, 3), (123, .goto 247, 3), (126, .aload_n 0, 1), (127, .bipush 8, 2)]), (150, [(129, .iconst 0, 1), (130, .bipush 6, 2), (132, .aload_n 0, 1), (133, .iload_n 2, 1), (134, .invokevirtual 173, 3), (137, .invokevirtual 73, 3), (140, .aload_n 0, 1), (141, .iconst 0, 1), (142, .invokevirtual 134, 3), (145, .goto 225, 3), (148, .aload_n 0, 1), (149, .iconst 0, 1)]), (172, [(150, .invokevirtual 128, 3), (153, .aload_n 0, 1), (154, .bipush 9, 2), (156, .iconst 0, 1), (157, .bipush 6, 2), (159, .aload_n 0, 1), (160, .iload_n 2, 1), (161, .invokevirtual 173, 3), (164, .invokevirtual 73, 3), (167, .goto 203, 3), (170, .aload_n 0, 1), (171, .iload_n 2, 1)]), (193, [(172, .invokevirtual 176, 3), (175, .aload_n 0, 1), (176, .bipush 8, 2), (178, .iconst 0, 1), (179, .iconst 1, 1), (180, .iconst 0, 1), (181, .invokevirtual 73, 3), (184, .aload_n 0, 1), (185, .iconst 0, 1), (186, .invokevirtual 134, 3), (189, .goto 181, 3), (192, .aload_n 0, 1)]), (214, [(193, .iconst 0, 1), (194, .invokevirtual 128, 3), (197, .aload_n 0, 1), (198, .iload_n 2, 1), (199, .invokevirtual 176, 3), (202, .aload_n 0, 1), (203, .bipush 9, 2), (205, .iconst 0, 1), (206, .iconst 1, 1), (207, .iconst 0, 1), (208, .invokevirtual 73, 3), (211, .goto 159, 3)]), (232, [(214, .aload_n 0, 1), (215, .iconst 0, 1), (216, .invokevirtual 128, 3), (219, .aload_n 0, 1), (220, .bipush 11, 2), (222, .iconst 0, 1), (223, .iconst 0, 1), (224, .iconst 1, 1), (225, .invokevirtual 73, 3), (228, .aload_n 0, 1), (229, .bipush 14, 2), (231, .iconst 0, 1)]), (255, [(232, .iconst 0, 1), (233, .aload_n 0, 1), (234, .invokevirtual 113, 3), (237, .invokevirtual 73, 3), (240, .aload_n 0, 1), (241, .invokevirtual 116, 3), (244, .goto 126, 3), (247, .aload_n 0, 1), (248, .bipush 10, 2), (250, .bipush 7, 2), (252, .bipush 7, 2), (254, .iconst (-1), 1)]), (277, [(255, .invokevirtual 73, 3), (258, .goto 112, 3), (261, .aload_n 0, 1), (262, .iconst 0, 1), (263, .invokevirtual 128, 3), (266, .aload_n 0, 1), (267, .iconst 1, 1), (268, .ldc 179, 2), (270, .invokevirtual 77, 3), (273, .aload_n 0, 1), (274, .bipush 9, 2), (276, .iconst 0, 1)]), (298, [(277, .iconst 1, 1), (278, .iconst 0, 1), (279, .invokevirtual 73, 3), (282, .goto 88, 3), (285, .aload_n 0, 1), (286, .bipush 6, 2), (288, .iconst 4, 1), (289, .iconst 0, 1), (290, .iload_n 2, 1), (291, .invokevirtual 73, 3), (294, .aload_n 0, 1), (295, .invokevirtual 116, 3)]), (323, [(298, .goto 72, 3), (301, .aload_n 0, 1), (302, .bipush 10, 2), (304, .bipush 7, 2), (306, .bipush 6, 2), (308, .aload_n 0, 1), (309, .getfield 19, 3), (312, .iload_n 2, 1), (313, .invokevirtual 180, 3), (316, .invokevirtual 73, 3), (319, .goto 51, 3), (322, .aload_n 0, 1)]), (341, [(323, .iload_n 2, 1), (324, .invokevirtual 183, 3), (327, .aload_n 0, 1), (328, .bipush 11, 2), (330, .iconst 0, 1), (331, .iconst 0, 1), (332, .iconst 1, 1), (333, .invokevirtual 73, 3), (336, .aload_n 0, 1), (337, .bipush 14, 2), (339, .iconst 0, 1), (340, .iconst 0, 1)]), (360, [(341, .iconst 1, 1), (342, .aload_n 0, 1), (343, .invokevirtual 113, 3), (346, .iadd, 1), (347, .invokevirtual 73, 3), (350, .aload_n 0, 1), (351, .bipush 6, 2), (353, .iconst 4, 1), (354, .iconst 0, 1), (355, .iconst 0, 1), (356, .invokevirtual 73, 3), (359, .aload_n 0, 1)]), (100000, [(360, .invokevirtual 116, 3), (363, .goto 7, 3), (366, .aload_n 0, 1), (367, .invokevirtual 116, 3), (370, .return_, 1)])]
set_option maxRecDepth 100000 in
theorem dk_51 : dkA cl_51 prog_4_method_17_code = true := by decide +kernel
set_option maxRecDepth 100000 in
theorem ok_51 : (ck pft pfn (look2 cl_51) ppl pmk 3 false 9 tr_51 0 0 0 0).isSome = true := by decide +kernel
set_option maxRecDepth 100000 in
theorem mk_51 : MOK1 51 mr_51 := mok_mk ⟨"GatedPile$Layer", "layPlain", "(II)V"⟩ prog_4_method_17_code _ 1 3 "GatedPile$Layer" cl_51 false rfl rfl rfl rfl dk_51 (by decide +kernel) (by decide +kernel) (by decide +kernel) ok_51 (plainFor_of_name (by decide +kernel)) (fun _ => ⟨3, _, rfl, rfl, rfl⟩)
/-- GatedPile$Layer.inFrame(I)I -/
def cl_52 : xCl := [(8, [(0, .iload_n 1, 1), (1, .aload_n 0, 1), (2, .getfield 186, 3), (5, .if_icmp .ge 7, 3)]), (14, [(8, .iload_n 1, 1), (9, .goto 6, 3), (12, .iload_n 1, 1), (13, .iconst 2, 1)]), (100000, [(14, .iadd, 1), (15, .ireturn, 1)])]
set_option maxRecDepth 100000 in
theorem dk_52 : dkA cl_52 prog_4_method_18_code = true := by decide +kernel
set_option maxRecDepth 100000 in
theorem ok_52 : (ck pft pfn (look2 cl_52) ppl pmk 3 false 0 tr_52 0 0 0 0).isSome = true := by decide +kernel
set_option maxRecDepth 100000 in
theorem mk_52 : MOK1 52 mr_52 := mok_mk ⟨"GatedPile$Layer", "inFrame", "(I)I"⟩ prog_4_method_18_code _ 1 3 "GatedPile$Layer" cl_52 false rfl rfl rfl rfl dk_52 (by decide +kernel) (by decide +kernel) (by decide +kernel) ok_52 (plainFor_of_name (by decide +kernel)) (fun _ => ⟨3, _, rfl, rfl, rfl⟩)
/-- GatedPile$Layer.placeOfVar(I)V -/
def cl_53 : xCl := [(6, [(0, .aload_n 0, 1), (1, .iconst 1, 1), (2, .aload_n 0, 1), (3, .getfield 19, 3)]), (14, [(6, .getfield 68, 3), (9, .aload_n 0, 1), (10, .getfield 15, 3), (13, .iload_n 1, 1)]), (100000, [(14, .invokevirtual 189, 3), (17, .iadd, 1), (18, .invokevirtual 77, 3), (21, .return_, 1)])]
set_option maxRecDepth 100000 in
theorem dk_53 : dkA cl_53 prog_4_method_19_code = true := by decide +kernel
set_option maxRecDepth 100000 in
theorem ok_53 : (ck pft pfn (look2 cl_53) ppl pmk 3 false 9 tr_53 0 0 0 0).isSome = true := by decide +kernel
set_option maxRecDepth 100000 in
theorem mk_53 : MOK1 53 mr_53 := mok_mk ⟨"GatedPile$Layer", "placeOfVar", "(I)V"⟩ prog_4_method_19_code _ 1 3 "GatedPile$Layer" cl_53 false rfl rfl rfl rfl dk_53 (by decide +kernel) (by decide +kernel) (by decide +kernel) ok_53 (plainFor_of_name (by decide +kernel)) (fun _ => ⟨3, _, rfl, rfl, rfl⟩)
/-- GatedPile$Layer.layEnter(I)V -/
def cl_54 : xCl := [(14, [(0, .aload_n 0, 1), (1, .aload_n 0, 1), (2, .getfield 19, 3), (5, .iload_n 1, 1), (6, .invokevirtual 192, 3), (9, .putfield 186, 3), (12, .aload_n 0, 1), (13, .iconst 3, 1)]), (30, [(14, .sipush 8192, 3), (17, .aload_n 0, 1), (18, .getfield 19, 3), (21, .iload_n 1, 1), (22, .invokevirtual 195, 3), (25, .isub, 1), (26, .invokevirtual 170, 3), (29, .aload_n 0, 1)]), (42, [(30, .iconst 4, 1), (31, .iconst 2, 1), (32, .iconst 3, 1), (33, .bipush 7, 2), (35, .invokevirtual 73, 3), (38, .aload_n 0, 1), (39, .bipush 11, 2), (41, .iconst 2, 1)]), (53, [(42, .iconst 0, 1), (43, .iconst 2, 1), (44, .invokevirtual 73, 3), (47, .aload_n 0, 1), (48, .bipush 6, 2), (50, .iconst 4, 1), (51, .iconst 0, 1), (52, .iconst (-1), 1)]), (66, [(53, .invokevirtual 73, 3), (56, .aload_n 0, 1), (57, .bipush 15, 2), (59, .iconst 0, 1), (60, .iconst 0, 1), (61, .iconst 0, 1), (62, .invokevirtual 73, 3), (65, .aload_n 0, 1)]), (80, [(66, .bipush 9, 2), (68, .iconst 5, 1), (69, .bipush 7, 2), (71, .iconst 0, 1), (72, .invokevirtual 73, 3), (75, .aload_n 0, 1), (76, .bipush 9, 2), (78, .bipush 6, 2)]), (94, [(80, .bipush 7, 2), (82, .iconst 1, 1), (83, .invokevirtual 73, 3), (86, .aload_n 0, 1), (87, .bipush 10, 2), (89, .bipush 6, 2), (91, .bipush 7, 2), (93, .aload_n 0, 1)]), (109, [(94, .getfield 186, 3), (97, .ineg, 1), (98, .invokevirtual 73, 3), (101, .aload_n 0, 1), (102, .bipush 10, 2), (104, .bipush 7, 2), (106, .bipush 7, 2), (108, .aload_n 0, 1)]), (100000, [(109, .getfield 19, 3), (112, .iload_n 1, 1), (113, .invokevirtual 180, 3), (116, .aload_n 0, 1), (117, .getfield 186, 3), (120, .isub, 1), (121, .invokevirtual 73, 3), (124, .return_, 1)])]
set_option maxRecDepth 100000 in
theorem dk_54 : dkA cl_54 prog_4_method_20_code = true := by decide +kernel
set_option maxRecDepth 100000 in
theorem ok_54 : (ck pft pfn (look2 cl_54) ppl pmk 3 false 9 tr_54 0 0 0 0).isSome = true := by decide +kernel
set_option maxRecDepth 100000 in
theorem mk_54 : MOK1 54 mr_54 := mok_mk ⟨"GatedPile$Layer", "layEnter", "(I)V"⟩ prog_4_method_20_code _ 1 3 "GatedPile$Layer" cl_54 false rfl rfl rfl rfl dk_54 (by decide +kernel) (by decide +kernel) (by decide +kernel) ok_54 (plainFor_of_name (by decide +kernel)) (fun _ => ⟨3, _, rfl, rfl, rfl⟩)
/-- GatedPile$Layer.layIndex(I)V -/
def cl_55 : xCl := [(10, [(0, .aload_n 0, 1), (1, .iconst 1, 1), (2, .aload_n 0, 1), (3, .getfield 15, 3), (6, .iload_n 1, 1), (7, .invokevirtual 198, 3)]), (19, [(10, .invokevirtual 170, 3), (13, .aload_n 0, 1), (14, .bipush 12, 2), (16, .iconst 0, 1), (17, .iconst 0, 1), (18, .iconst 3, 1)]), (27, [(19, .invokevirtual 73, 3), (22, .aload_n 0, 1), (23, .iconst 4, 1), (24, .iconst 2, 1), (25, .iconst 0, 1), (26, .iconst 1, 1)]), (36, [(27, .invokevirtual 73, 3), (30, .aload_n 0, 1), (31, .bipush 11, 2), (33, .iconst 2, 1), (34, .iconst 0, 1), (35, .iconst 1, 1)]), (46, [(36, .invokevirtual 73, 3), (39, .aload_n 0, 1), (40, .iconst 2, 1), (41, .invokevirtual 201, 3), (44, .aload_n 0, 1), (45, .iload_n 1, 1)]), (54, [(46, .invokevirtual 176, 3), (49, .aload_n 0, 1), (50, .iconst 0, 1), (51, .iconst 1, 1), (52, .iconst 1, 1), (53, .iconst 0, 1)]), (100000, [(54, .invokevirtual 73, 3), (57, .return_, 1)])]
set_option maxRecDepth 100000 in
theorem dk_55 : dkA cl_55 prog_4_method_21_code = true := by decide +kernel
set_option maxRecDepth 100000 in
theorem ok_55 : (ck pft pfn (look2 cl_55) ppl pmk 3 false 9 tr_55 0 0 0 0).isSome = true := by decide +kernel
set_option maxRecDepth 100000 in
theorem mk_55 : MOK1 55 mr_55 := mok_mk ⟨"GatedPile$Layer", "layIndex", "(I)V"⟩ prog_4_method_21_code _ 1 3 "GatedPile$Layer" cl_55 false rfl rfl rfl rfl dk_55 (by decide +kernel) (by decide +kernel) (by decide +kernel) ok_55 (plainFor_of_name (by decide +kernel)) (fun _ => ⟨3, _, rfl, rfl, rfl⟩)
/-- GatedPile$Layer.layAdd()V -/
def cl_56 : xCl := [(7, [(0, .aload_n 0, 1), (1, .iconst 1, 1), (2, .invokevirtual 128, 3), (5, .aload_n 0, 1), (6, .iconst 0, 1)]), (14, [(7, .invokevirtual 128, 3), (10, .aload_n 0, 1), (11, .iconst 0, 1), (12, .iconst 2, 1), (13, .iconst 0, 1)]), (21, [(14, .iconst 1, 1), (15, .invokevirtual 73, 3), (18, .aload_n 0, 1), (19, .iconst 3, 1), (20, .iconst 3, 1)]), (28, [(21, .iconst 0, 1), (22, .iconst 2, 1), (23, .invokevirtual 73, 3), (26, .aload_n 0, 1), (27, .iconst 3, 1)]), (35, [(28, .iconst 1, 1), (29, .iconst 1, 1), (30, .iconst 2, 1), (31, .invokevirtual 73, 3), (34, .aload_n 0, 1)]), (100000, [(35, .invokevirtual 204, 3), (38, .return_, 1)])]
set_option maxRecDepth 100000 in
theorem dk_56 : dkA cl_56 prog_4_method_22_code = true := by decide +kernel
set_option maxRecDepth 100000 in
theorem ok_56 : (ck pft pfn (look2 cl_56) ppl pmk 3 false 9 tr_56 0 0 0 0).isSome = true := by decide +kernel
set_option maxRecDepth 100000 in
theorem mk_56 : MOK1 56 mr_56 := mok_mk ⟨"GatedPile$Layer", "layAdd", "()V"⟩ prog_4_method_22_code _ 1 3 "GatedPile$Layer" cl_56 false rfl rfl rfl rfl dk_56 (by decide +kernel) (by decide +kernel) (by decide +kernel) ok_56 (plainFor_of_name (by decide +kernel)) (fun _ => ⟨3, _, rfl, rfl, rfl⟩)
/-- GatedPile$Layer.layLessen()V -/
def cl_57 : xCl := [(4, [(0, .aload_n 0, 1), (1, .iconst 1, 1), (2, .iconst 2, 1), (3, .iconst 0, 1)]), (10, [(4, .iconst 1, 1), (5, .invokevirtual 73, 3), (8, .aload_n 0, 1), (9, .iconst 3, 1)]), (16, [(10, .iconst 3, 1), (11, .iconst 0, 1), (12, .iconst 1, 1), (13, .invokevirtual 73, 3)]), (20, [(16, .aload_n 0, 1), (17, .iconst 3, 1), (18, .iconst 1, 1), (19, .iconst 0, 1)]), (28, [(20, .iconst 2, 1), (21, .invokevirtual 73, 3), (24, .aload_n 0, 1), (25, .invokevirtual 204, 3)]), (100000, [(28, .return_, 1)])]
set_option maxRecDepth 100000 in
theorem dk_57 : dkA cl_57 prog_4_method_23_code = true := by decide +kernel
set_option maxRecDepth 100000 in
theorem ok_57 : (ck pft pfn (look2 cl_57) ppl pmk 3 false 9 tr_57 0 0 0 0).isSome = true := by decide +kernel
set_option maxRecDepth 100000 in
theorem mk_57 : MOK1 57 mr_57 := mok_mk ⟨"GatedPile$Layer", "layLessen", "()V"⟩ prog_4_method_23_code _ 1 3 "GatedPile$Layer" cl_57 false rfl rfl rfl rfl dk_57 (by decide +kernel) (by decide +kernel) (by decide +kernel) ok_57 (plainFor_of_name (by decide +kernel)) (fun _ => ⟨3, _, rfl, rfl, rfl⟩)
/-- GatedPile$Layer.layRange()V -/
def cl_58 : xCl := [(4, [(0, .aload_n 0, 1), (1, .iconst 2, 1), (2, .iconst 3, 1), (3, .iconst 3, 1)]), (11, [(4, .iconst 1, 1), (5, .invokevirtual 73, 3), (8, .aload_n 0, 1), (9, .bipush 12, 2)]), (17, [(11, .iconst 3, 1), (12, .iconst 0, 1), (13, .iconst 1, 1), (14, .invokevirtual 73, 3)]), (23, [(17, .aload_n 0, 1), (18, .iconst 1, 1), (19, .invokevirtual 201, 3), (22, .aload_n 0, 1)]), (100000, [(23, .iconst 2, 1), (24, .invokevirtual 134, 3), (27, .return_, 1)])]
set_option maxRecDepth 100000 in
theorem dk_58 : dkA cl_58 prog_4_method_24_code = true := by decide +kernel
set_option maxRecDepth 100000 in
theorem ok_58 : (ck pft pfn (look2 cl_58) ppl pmk 3 false 9 tr_58 0 0 0 0).isSome = true := by decide +kernel
set_option maxRecDepth 100000 in
theorem mk_58 : MOK1 58 mr_58 := mok_mk ⟨"GatedPile$Layer", "layRange", "()V"⟩ prog_4_method_24_code _ 1 3 "GatedPile$Layer" cl_58 false rfl rfl rfl rfl dk_58 (by decide +kernel) (by decide +kernel) (by decide +kernel) ok_58 (plainFor_of_name (by decide +kernel)) (fun _ => ⟨3, _, rfl, rfl, rfl⟩)
/-- GatedPile$Layer.layMultiply()V -/
def cl_59 : xCl := [(6, [(0, .aload_n 0, 1), (1, .iconst 1, 1), (2, .invokevirtual 128, 3), (5, .aload_n 0, 1)]), (13, [(6, .iconst 0, 1), (7, .invokevirtual 128, 3), (10, .aload_n 0, 1), (11, .bipush 8, 2)]), (21, [(13, .invokevirtual 91, 3), (16, .aload_n 0, 1), (17, .invokevirtual 155, 3), (20, .aload_n 0, 1)]), (100000, [(21, .iconst 2, 1), (22, .invokevirtual 134, 3), (25, .return_, 1)])]
set_option maxRecDepth 100000 in
theorem dk_59 : dkA cl_59 prog_4_method_25_code = true := by decide +kernel
set_option maxRecDepth 100000 in
theorem ok_59 : (ck pft pfn (look2 cl_59) ppl pmk 3 false 9 tr_59 0 0 0 0).isSome = true := by decide +kernel
set_option maxRecDepth 100000 in
theorem mk_59 : MOK1 59 mr_59 := mok_mk ⟨"GatedPile$Layer", "layMultiply", "()V"⟩ prog_4_method_25_code _ 1 3 "GatedPile$Layer" cl_59 false rfl rfl rfl rfl dk_59 (by decide +kernel) (by decide +kernel) (by decide +kernel) ok_59 (plainFor_of_name (by decide +kernel)) (fun _ => ⟨3, _, rfl, rfl, rfl⟩)
/-- GatedPile$Layer.layDivide()V -/
def cl_60 : xCl := [(10, [(0, .aload_n 0, 1), (1, .iconst 1, 1), (2, .invokevirtual 128, 3), (5, .aload_n 0, 1), (6, .iconst 0, 1), (7, .invokevirtual 128, 3)]), (21, [(10, .aload_n 0, 1), (11, .bipush 38, 2), (13, .invokevirtual 91, 3), (16, .aload_n 0, 1), (17, .invokevirtual 155, 3), (20, .aload_n 0, 1)]), (31, [(21, .bipush 8, 2), (23, .iconst 5, 1), (24, .bipush 7, 2), (26, .iconst 2, 1), (27, .invokevirtual 73, 3), (30, .aload_n 0, 1)]), (40, [(31, .bipush 12, 2), (33, .iconst 5, 1), (34, .iconst 0, 1), (35, .iconst 1, 1), (36, .invokevirtual 73, 3), (39, .aload_n 0, 1)]), (49, [(40, .bipush 12, 2), (42, .iconst 2, 1), (43, .iconst 0, 1), (44, .iconst 1, 1), (45, .invokevirtual 73, 3), (48, .aload_n 0, 1)]), (100000, [(49, .iconst 1, 1), (50, .invokevirtual 201, 3), (53, .aload_n 0, 1), (54, .iconst 2, 1), (55, .invokevirtual 134, 3), (58, .return_, 1)])]
set_option maxRecDepth 100000 in
theorem dk_60 : dkA cl_60 prog_4_method_26_code = true := by decide +kernel
set_option maxRecDepth 100000 in
theorem ok_60 : (ck pft pfn (look2 cl_60) ppl pmk 3 false 9 tr_60 0 0 0 0).isSome = true := by decide +kernel
set_option maxRecDepth 100000 in
theorem mk_60 : MOK1 60 mr_60 := mok_mk ⟨"GatedPile$Layer", "layDivide", "()V"⟩ prog_4_method_26_code _ 1 3 "GatedPile$Layer" cl_60 false rfl rfl rfl rfl dk_60 (by decide +kernel) (by decide +kernel) (by decide +kernel) ok_60 (plainFor_of_name (by decide +kernel)) (fun _ => ⟨3, _, rfl, rfl, rfl⟩)
/-- GatedPile$Layer.layRest()V -/
def cl_61 : xCl := [(6, [(0, .aload_n 0, 1), (1, .iconst 1, 1), (2, .invokevirtual 128, 3), (5, .aload_n 0, 1)]), (13, [(6, .iconst 0, 1), (7, .invokevirtual 128, 3), (10, .aload_n 0, 1), (11, .bipush 38, 2)]), (21, [(13, .invokevirtual 91, 3), (16, .aload_n 0, 1), (17, .invokevirtual 155, 3), (20, .aload_n 0, 1)]), (100000, [(21, .iconst 3, 1), (22, .invokevirtual 134, 3), (25, .return_, 1)])]
set_option maxRecDepth 100000 in
theorem dk_61 : dkA cl_61 prog_4_method_27_code = true := by decide +kernel
set_option maxRecDepth 100000 in
theorem ok_61 : (ck pft pfn (look2 cl_61) ppl pmk 3 false 9 tr_61 0 0 0 0).isSome = true := by decide +kernel
set_option maxRecDepth 100000 in
theorem mk_61 : MOK1 61 mr_61 := mok_mk ⟨"GatedPile$Layer", "layRest", "()V"⟩ prog_4_method_27_code _ 1 3 "GatedPile$Layer" cl_61 false rfl rfl rfl rfl dk_61 (by decide +kernel) (by decide +kernel) (by decide +kernel) ok_61 (plainFor_of_name (by decide +kernel)) (fun _ => ⟨3, _, rfl, rfl, rfl⟩)
/-- GatedPile$Layer.layCompare(I)V -/
def cl_62 : xCl := [(15, [(0, .aload_n 0, 1), (1, .iconst 1, 1), (2, .invokevirtual 128, 3), (5, .aload_n 0, 1), (6, .iconst 0, 1), (7, .invokevirtual 128, 3), (10, .iload_n 1, 1), (11, .ifCond .eq 8, 3), (14, .iload_n 1, 1)]), (28, [(15, .iconst 3, 1), (16, .if_icmp .ne 11, 3), (19, .aload_n 0, 1), (20, .iconst 4, 1), (21, .iconst 2, 1), (22, .iconst 0, 1), (23, .iconst 1, 1), (24, .invokevirtual 73, 3), (27, .iload_n 1, 1)]), (41, [(28, .iconst 1, 1), (29, .if_icmp .eq 8, 3), (32, .iload_n 1, 1), (33, .iconst 2, 1), (34, .if_icmp .ne 11, 3), (37, .aload_n 0, 1), (38, .iconst 4, 1), (39, .iconst 2, 1), (40, .iconst 1, 1)]), (56, [(41, .iconst 0, 1), (42, .invokevirtual 73, 3), (45, .iload_n 1, 1), (46, .iconst 2, 1), (47, .if_icmp .eq 8, 3), (50, .iload_n 1, 1), (51, .iconst 3, 1), (52, .if_icmp .ne 20, 3), (55, .aload_n 0, 1)]), (68, [(56, .bipush 6, 2), (58, .iconst 3, 1), (59, .iconst 0, 1), (60, .iconst 1, 1), (61, .invokevirtual 73, 3), (64, .aload_n 0, 1), (65, .iconst 3, 1), (66, .iconst 2, 1), (67, .iconst 2, 1)]), (83, [(68, .iconst 3, 1), (69, .invokevirtual 73, 3), (72, .iload_n 1, 1), (73, .iconst 4, 1), (74, .if_icmp .eq 8, 3), (77, .iload_n 1, 1), (78, .iconst 5, 1), (79, .if_icmp .ne 56, 3), (82, .aload_n 0, 1)]), (95, [(83, .iconst 3, 1), (84, .iconst 0, 1), (85, .iconst 0, 1), (86, .iconst 1, 1), (87, .invokevirtual 73, 3), (90, .aload_n 0, 1), (91, .bipush 6, 2), (93, .iconst 2, 1), (94, .iconst 0, 1)]), (111, [(95, .iload_n 1, 1), (96, .iconst 4, 1), (97, .if_icmp .ne 7, 3), (100, .iconst 1, 1), (101, .goto 4, 3), (104, .iconst 0, 1), (105, .invokevirtual 73, 3), (108, .aload_n 0, 1), (109, .bipush 11, 2)]), (123, [(111, .iconst 0, 1), (112, .iconst 0, 1), (113, .iconst 1, 1), (114, .invokevirtual 73, 3), (117, .aload_n 0, 1), (118, .bipush 6, 2), (120, .iconst 2, 1), (121, .iconst 0, 1), (122, .iload_n 1, 1)]), (140, [(123, .iconst 4, 1), (124, .if_icmp .ne 7, 3), (127, .iconst 0, 1), (128, .goto 4, 3), (131, .iconst 1, 1), (132, .invokevirtual 73, 3), (135, .aload_n 0, 1), (136, .iconst 2, 1), (137, .invokevirtual 134, 3)]), (100000, [(140, .return_, 1)])]
set_option maxRecDepth 100000 in
theorem dk_62 : dkA cl_62 prog_4_method_28_code = true := by decide +kernel
set_option maxRecDepth 100000 in
theorem ok_62 : (ck pft pfn (look2 cl_62) ppl pmk 3 false 9 tr_62 0 0 0 0).isSome = true := by decide +kernel
set_option maxRecDepth 100000 in
theorem mk_62 : MOK1 62 mr_62 := mok_mk ⟨"GatedPile$Layer", "layCompare", "(I)V"⟩ prog_4_method_28_code _ 1 3 "GatedPile$Layer" cl_62 false rfl rfl rfl rfl dk_62 (by decide +kernel) (by decide +kernel) (by decide +kernel) ok_62 (plainFor_of_name (by decide +kernel)) (fun _ => ⟨3, _, rfl, rfl, rfl⟩)
/-- GatedPile$Layer.layIn()V -/
def cl_63 : xCl := [(8, [(0, .aload_n 0, 1), (1, .iconst 1, 1), (2, .ldc 179, 2), (4, .invokevirtual 77, 3), (7, .aload_n 0, 1)]), (16, [(8, .bipush 8, 2), (10, .iconst 0, 1), (11, .iconst 1, 1), (12, .iconst 1, 1), (13, .invokevirtual 73, 3)]), (22, [(16, .aload_n 0, 1), (17, .bipush 11, 2), (19, .iconst 0, 1), (20, .iconst 0, 1), (21, .iconst 1, 1)]), (31, [(22, .invokevirtual 73, 3), (25, .aload_n 0, 1), (26, .iconst 4, 1), (27, .invokevirtual 201, 3), (30, .aload_n 0, 1)]), (39, [(31, .bipush 8, 2), (33, .iconst 0, 1), (34, .iconst 1, 1), (35, .iconst 0, 1), (36, .invokevirtual 73, 3)]), (100000, [(39, .aload_n 0, 1), (40, .iconst 0, 1), (41, .invokevirtual 134, 3), (44, .return_, 1)])]
set_option maxRecDepth 100000 in
theorem dk_63 : dkA cl_63 prog_4_method_29_code = true := by decide +kernel
set_option maxRecDepth 100000 in
theorem ok_63 : (ck pft pfn (look2 cl_63) ppl pmk 3 false 9 tr_63 0 0 0 0).isSome = true := by decide +kernel
set_option maxRecDepth 100000 in
theorem mk_63 : MOK1 63 mr_63 := mok_mk ⟨"GatedPile$Layer", "layIn", "()V"⟩ prog_4_method_29_code _ 1 3 "GatedPile$Layer" cl_63 false rfl rfl rfl rfl dk_63 (by decide +kernel) (by decide +kernel) (by decide +kernel) ok_63 (plainFor_of_name (by decide +kernel)) (fun _ => ⟨3, _, rfl, rfl, rfl⟩)
/-- GatedPile$Layer.layBack()V -/
def cl_64 : xCl := [(7, [(0, .aload_n 0, 1), (1, .bipush 8, 2), (3, .iconst 5, 1), (4, .bipush 6, 2), (6, .aload_n 0, 1)]), (17, [(7, .getfield 186, 3), (10, .invokevirtual 73, 3), (13, .aload_n 0, 1), (14, .bipush 8, 2), (16, .iconst 3, 1)]), (25, [(17, .bipush 6, 2), (19, .aload_n 0, 1), (20, .getfield 186, 3), (23, .iconst 1, 1), (24, .iadd, 1)]), (35, [(25, .invokevirtual 73, 3), (28, .aload_n 0, 1), (29, .bipush 10, 2), (31, .bipush 7, 2), (33, .bipush 6, 2)]), (44, [(35, .iconst 0, 1), (36, .invokevirtual 73, 3), (39, .aload_n 0, 1), (40, .bipush 10, 2), (42, .bipush 6, 2)]), (52, [(44, .iconst 3, 1), (45, .iconst 0, 1), (46, .invokevirtual 73, 3), (49, .aload_n 0, 1), (50, .bipush 13, 2)]), (100000, [(52, .iconst 5, 1), (53, .iconst 5, 1), (54, .iconst 0, 1), (55, .invokevirtual 73, 3), (58, .return_, 1)])]
set_option maxRecDepth 100000 in
theorem dk_64 : dkA cl_64 prog_4_method_30_code = true := by decide +kernel
set_option maxRecDepth 100000 in
theorem ok_64 : (ck pft pfn (look2 cl_64) ppl pmk 3 false 9 tr_64 0 0 0 0).isSome = true := by decide +kernel
set_option maxRecDepth 100000 in
theorem mk_64 : MOK1 64 mr_64 := mok_mk ⟨"GatedPile$Layer", "layBack", "()V"⟩ prog_4_method_30_code _ 1 3 "GatedPile$Layer" cl_64 false rfl rfl rfl rfl dk_64 (by decide +kernel) (by decide +kernel) (by decide +kernel) ok_64 (plainFor_of_name (by decide +kernel)) (fun _ => ⟨3, _, rfl, rfl, rfl⟩)
/-- GatedPile$Layer.layMatch(I)V -/
def cl_65 : xCl := [(5, [(0, .aload_n 0, 1), (1, .bipush 6, 2), (3, .iconst 0, 1), (4, .iconst 0, 1)]), (11, [(5, .iload_n 1, 1), (6, .invokevirtual 73, 3), (9, .aload_n 0, 1), (10, .iconst 3, 1)]), (17, [(11, .iconst 0, 1), (12, .iconst 0, 1), (13, .iconst 4, 1), (14, .invokevirtual 73, 3)]), (100000, [(17, .return_, 1)])]
set_option maxRecDepth 100000 in
theorem dk_65 : dkA cl_65 prog_4_method_31_code = true := by decide +kernel
set_option maxRecDepth 100000 in
theorem ok_65 : (ck pft pfn (look2 cl_65) ppl pmk 3 false 9 tr_65 0 0 0 0).isSome = true := by decide +kernel
set_option maxRecDepth 100000 in
theorem mk_65 : MOK1 65 mr_65 := mok_mk ⟨"GatedPile$Layer", "layMatch", "(I)V"⟩ prog_4_method_31_code _ 1 3 "GatedPile$Layer" cl_65 false rfl rfl rfl rfl dk_65 (by decide +kernel) (by decide +kernel) (by decide +kernel) ok_65 (plainFor_of_name (by decide +kernel)) (fun _ => ⟨3, _, rfl, rfl, rfl⟩)
/-- GatedPile$Layer.layLeave(I)V -/
def cl_66 : xCl := [(15, [(0, .iload_n 1, 1), (1, .ifCond .lt 96, 3), (4, .iload_n 1, 1), (5, .aload_n 0, 1), (6, .getfield 15, 3), (9, .getfield 207, 3), (12, .if_icmp .ge 85, 3)]), (26, [(15, .aload_n 0, 1), (16, .getfield 15, 3), (19, .getfield 210, 3), (22, .iload_n 1, 1), (23, .iconst 1, 1), (24, .iadd, 1), (25, .iaload, 1)]), (41, [(26, .aload_n 0, 1), (27, .getfield 15, 3), (30, .getfield 213, 3), (33, .invokestatic 216, 3), (36, .istore_n 2, 1), (37, .aload_n 0, 1), (38, .getfield 15, 3)]), (52, [(41, .getfield 210, 3), (44, .iload_n 1, 1), (45, .iaload, 1), (46, .iconst 0, 1), (47, .invokestatic 222, 3), (50, .istore_n 3, 1), (51, .iload_n 3, 1)]), (65, [(52, .iload_n 2, 1), (53, .if_icmp .ge 44, 3), (56, .aload_n 0, 1), (57, .aload_n 0, 1), (58, .getfield 15, 3), (61, .aload_n 0, 1), (62, .getfield 15, 3)]), (79, [(65, .getfield 225, 3), (68, .iload_n 3, 1), (69, .iaload, 1), (70, .invokevirtual 228, 3), (73, .invokevirtual 183, 3), (76, .aload_n 0, 1), (77, .bipush 11, 2)]), (86, [(79, .iconst 0, 1), (80, .iconst 0, 1), (81, .iconst 3, 1), (82, .iload_n 2, 1), (83, .iload_n 3, 1), (84, .isub, 1), (85, .imul, 1)]), (100, [(86, .iconst 2, 1), (87, .isub, 1), (88, .invokevirtual 73, 3), (91, .iinc 3 1, 3), (94, .goto (-43), 3), (97, .aload_n 0, 1), (98, .bipush 6, 2)]), (100000, [(100, .iconst 4, 1), (101, .iconst 0, 1), (102, .iconst 5, 1), (103, .invokevirtual 73, 3), (106, .aload_n 0, 1), (107, .invokevirtual 161, 3), (110, .return_, 1)])]
set_option maxRecDepth 100000 in
theorem dk_66 : dkA cl_66 prog_4_method_32_code = true := by decide +kernel
set_option maxRecDepth 100000 in
theorem ok_66 : (ck pft pfn (look2 cl_66) ppl pmk 3 false 9 tr_66 0 0 0 0).isSome = true := by decide +kernel
set_option maxRecDepth 100000 in
theorem mk_66 : MOK1 66 mr_66 := mok_mk ⟨"GatedPile$Layer", "layLeave", "(I)V"⟩ prog_4_method_32_code _ 1 3 "GatedPile$Layer" cl_66 false rfl rfl rfl rfl dk_66 (by decide +kernel) (by decide +kernel) (by decide +kernel) ok_66 (plainFor_of_name (by decide +kernel)) (fun _ => ⟨3, _, rfl, rfl, rfl⟩)
/-- GatedPile$Machine.signed(I)I -/
def cl_67 : xCl := [(100000, [(0, .iload_n 0, 1), (1, .i2s, 1), (2, .ireturn, 1)])]
set_option maxRecDepth 100000 in
theorem dk_67 : dkA cl_67 prog_5_method_2_code = true := by decide +kernel
set_option maxRecDepth 100000 in
theorem ok_67 : (ck pft pfn (look2 cl_67) ppl pmk 4 false 0 tr_67 0 0 0 0).isSome = true := by decide +kernel
set_option maxRecDepth 100000 in
theorem mk_67 : MOK1 67 mr_67 := mok_mk ⟨"GatedPile$Machine", "signed", "(I)I"⟩ prog_5_method_2_code _ 0 4 "GatedPile$Machine" cl_67 false rfl rfl rfl rfl dk_67 (by decide +kernel) (by decide +kernel) (by decide +kernel) ok_67 (plainFor_of_name (by decide +kernel)) (fun z => absurd z (by decide))
/-- GatedPile$Machine.signedBits(II)I -/
def cl_68 : xCl := [(5, [(0, .iload_n 0, 1), (1, .bipush 32, 2), (3, .iload_n 1, 1), (4, .isub, 1)]), (10, [(5, .ishl, 1), (6, .bipush 32, 2), (8, .iload_n 1, 1), (9, .isub, 1)]), (100000, [(10, .ishr, 1), (11, .ireturn, 1)])]
set_option maxRecDepth 100000 in
theorem dk_68 : dkA cl_68 prog_5_method_3_code = true := by decide +kernel
set_option maxRecDepth 100000 in
theorem ok_68 : (ck pft pfn (look2 cl_68) ppl pmk 4 false 0 tr_68 0 0 0 0).isSome = true := by decide +kernel
set_option maxRecDepth 100000 in
theorem mk_68 : MOK1 68 mr_68 := mok_mk ⟨"GatedPile$Machine", "signedBits", "(II)I"⟩ prog_5_method_3_code _ 0 4 "GatedPile$Machine" cl_68 false rfl rfl rfl rfl dk_68 (by decide +kernel) (by decide +kernel) (by decide +kernel) ok_68 (plainFor_of_name (by decide +kernel)) (fun z => absurd z (by decide))
/-- GatedPile$Machine.receive(I)Z -/
def cl_69 : xCl := [(10, [(0, .aload_n 0, 1), (1, .getfield 22, 3), (4, .sipush 200, 3), (7, .if_icmp .lt 5, 3)]), (16, [(10, .iconst 0, 1), (11, .ireturn, 1), (12, .aload_n 0, 1), (13, .getfield 16, 3)]), (23, [(16, .aload_n 0, 1), (17, .getfield 22, 3), (20, .iload_n 1, 1), (21, .ldc 26, 2)]), (27, [(23, .iand, 1), (24, .iastore, 1), (25, .aload_n 0, 1), (26, .dup, 1)]), (35, [(27, .getfield 22, 3), (30, .iconst 1, 1), (31, .iadd, 1), (32, .putfield 22, 3)]), (100000, [(35, .iconst 1, 1), (36, .ireturn, 1)])]
set_option maxRecDepth 100000 in
theorem dk_69 : dkA cl_69 prog_5_method_4_code = true := by decide +kernel
set_option maxRecDepth 100000 in
theorem ok_69 : (ck pft pfn (look2 cl_69) ppl pmk 4 false 3 tr_69 0 0 0 0).isSome = true := by decide +kernel
set_option maxRecDepth 100000 in
theorem mk_69 : MOK1 69 mr_69 := mok_mk ⟨"GatedPile$Machine", "receive", "(I)Z"⟩ prog_5_method_4_code _ 1 4 "GatedPile$Machine" cl_69 false rfl rfl rfl rfl dk_69 (by decide +kernel) (by decide +kernel) (by decide +kernel) ok_69 (plainFor_of_name (by decide +kernel)) (fun _ => ⟨4, _, rfl, rfl, rfl⟩)
/-- GatedPile$Machine.forgetInput()V -/
def cl_70 : xCl := [(6, [(0, .aload_n 0, 1), (1, .iconst 0, 1), (2, .putfield 22, 3), (5, .aload_n 0, 1)]), (100000, [(6, .iconst 0, 1), (7, .putfield 27, 3), (10, .return_, 1)])]
set_option maxRecDepth 100000 in
theorem dk_70 : dkA cl_70 prog_5_method_5_code = true := by decide +kernel
set_option maxRecDepth 100000 in
theorem ok_70 : (ck pft pfn (look2 cl_70) ppl pmk 4 false 9 tr_70 0 0 0 0).isSome = true := by decide +kernel
set_option maxRecDepth 100000 in
theorem mk_70 : MOK1 70 mr_70 := mok_mk ⟨"GatedPile$Machine", "forgetInput", "()V"⟩ prog_5_method_5_code _ 1 4 "GatedPile$Machine" cl_70 false rfl rfl rfl rfl dk_70 (by decide +kernel) (by decide +kernel) (by decide +kernel) ok_70 (plainFor_of_name (by decide +kernel)) (fun _ => ⟨4, _, rfl, rfl, rfl⟩)
/-- GatedPile$Machine.inputsLeft()I -/
def cl_71 : xCl := [(8, [(0, .aload_n 0, 1), (1, .getfield 22, 3), (4, .aload_n 0, 1), (5, .getfield 27, 3)]), (100000, [(8, .isub, 1), (9, .ireturn, 1)])]
set_option maxRecDepth 100000 in
theorem dk_71 : dkA cl_71 prog_5_method_6_code = true := by decide +kernel
set_option maxRecDepth 100000 in
theorem ok_71 : (ck pft pfn (look2 cl_71) ppl pmk 4 false 0 tr_71 0 0 0 0).isSome = true := by decide +kernel
set_option maxRecDepth 100000 in
theorem mk_71 : MOK1 71 mr_71 := mok_mk ⟨"GatedPile$Machine", "inputsLeft", "()I"⟩ prog_5_method_6_code _ 1 4 "GatedPile$Machine" cl_71 false rfl rfl rfl rfl dk_71 (by decide +kernel) (by decide +kernel) (by decide +kernel) ok_71 (plainFor_of_name (by decide +kernel)) (fun _ => ⟨4, _, rfl, rfl, rfl⟩)
/-- GatedPile$Machine.restart(LGatedPile$Code;)V -/
def cl_72 : xCl := [(12, [(0, .aload_n 0, 1), (1, .getfield 9, 3), (4, .iconst 0, 1), (5, .invokestatic 30, 3), (8, .aload_n 1, 1), (9, .getfield 36, 3)]), (20, [(12, .iconst 0, 1), (13, .aload_n 0, 1), (14, .getfield 9, 3), (17, .iconst 0, 1), (18, .iconst 0, 1), (19, .aload_n 1, 1)]), (36, [(20, .getfield 41, 3), (23, .sipush 6000, 3), (26, .invokestatic 44, 3), (29, .invokestatic 50, 3), (32, .invokestatic 53, 3), (35, .aload_n 0, 1)]), (48, [(36, .getfield 13, 3), (39, .iconst 0, 1), (40, .invokestatic 30, 3), (43, .aload_n 0, 1), (44, .iconst 0, 1), (45, .putfield 59, 3)]), (58, [(48, .aload_n 0, 1), (49, .iconst 0, 1), (50, .putfield 62, 3), (53, .aload_n 0, 1), (54, .iconst 0, 1), (55, .putfield 65, 3)]), (68, [(58, .aload_n 0, 1), (59, .iconst 0, 1), (60, .putfield 68, 3), (63, .aload_n 0, 1), (64, .iconst 0, 1), (65, .putfield 71, 3)]), (78, [(68, .aload_n 0, 1), (69, .iconst 0, 1), (70, .putfield 27, 3), (73, .aload_n 0, 1), (74, .iconst 0, 1), (75, .putfield 74, 3)]), (100000, [(78, .aload_n 0, 1), (79, .iconst 0, 1), (80, .putfield 77, 3), (83, .return_, 1)])]
set_option maxRecDepth 100000 in
theorem dk_72 : dkA cl_72 prog_5_method_7_code = true := by decide +kernel
set_option maxRecDepth 100000 in
theorem ok_72 : (ck pft pfn (look2 cl_72) ppl pmk 4 false 9 tr_72 0 0 0 0).isSome = true := by decide +kernel
set_option maxRecDepth 100000 in
theorem mk_72 : MOK1 72 mr_72 := mok_mk ⟨"GatedPile$Machine", "restart", "(LGatedPile$Code;)V"⟩ prog_5_method_7_code _ 1 4 "GatedPile$Machine" cl_72 false rfl rfl rfl rfl dk_72 (by decide +kernel) (by decide +kernel) (by decide +kernel) ok_72 (plainFor_of_name (by decide +kernel)) (fun _ => ⟨4, _, rfl, rfl, rfl⟩)
/-- GatedPile$Machine.halted()Z -/
def cl_73 : xCl := [(8, [(0, .aload_n 0, 1), (1, .getfield 71, 3), (4, .iconst 1, 1), (5, .if_icmp .ne 19, 3)]), (15, [(8, .aload_n 0, 1), (9, .getfield 62, 3), (12, .bipush 12, 2), (14, .ishr, 1)]), (24, [(15, .bipush 15, 2), (17, .if_icmp .ne 7, 3), (20, .iconst 1, 1), (21, .goto 4, 3)]), (100000, [(24, .iconst 0, 1), (25, .ireturn, 1)])]
set_option maxRecDepth 100000 in
theorem dk_73 : dkA cl_73 prog_5_method_8_code = true := by decide +kernel
set_option maxRecDepth 100000 in
theorem ok_73 : (ck pft pfn (look2 cl_73) ppl pmk 4 false 3 tr_73 0 0 0 0).isSome = true := by decide +kernel
set_option maxRecDepth 100000 in
theorem mk_73 : MOK1 73 mr_73 := mok_mk ⟨"GatedPile$Machine", "halted", "()Z"⟩ prog_5_method_8_code _ 1 4 "GatedPile$Machine" cl_73 false rfl rfl rfl rfl dk_73 (by decide +kernel) (by decide +kernel) (by decide +kernel) ok_73 (plainFor_of_name (by decide +kernel)) (fun _ => ⟨4, _, rfl, rfl, rfl⟩)
/-- GatedPile$Machine.advance(I)I -/
def cl_74 : xCl := [(7, [(0, .iconst 0, 1), (1, .istore_n 2, 1), (2, .iload_n 2, 1), (3, .iload_n 1, 1), (4, .if_icmp .ge 51, 3)]), (17, [(7, .aload_n 0, 1), (8, .getfield 80, 3), (11, .ldc 83, 2), (13, .if_icmp .ge 10, 3), (16, .aload_n 0, 1)]), (26, [(17, .invokevirtual 84, 3), (20, .ifCond .eq 5, 3), (23, .iload_n 2, 1), (24, .ireturn, 1), (25, .aload_n 0, 1)]), (35, [(26, .invokevirtual 88, 3), (29, .aload_n 0, 1), (30, .dup, 1), (31, .getfield 80, 3), (34, .iconst 1, 1)]), (44, [(35, .iadd, 1), (36, .putfield 80, 3), (39, .aload_n 0, 1), (40, .dup, 1), (41, .getfield 77, 3)]), (55, [(44, .iconst 1, 1), (45, .iadd, 1), (46, .putfield 77, 3), (49, .iinc 2 1, 3), (52, .goto (-50), 3)]), (100000, [(55, .iload_n 1, 1), (56, .ireturn, 1)])]
set_option maxRecDepth 100000 in
theorem dk_74 : dkA cl_74 prog_5_method_9_code = true := by decide +kernel
set_option maxRecDepth 100000 in
theorem ok_74 : (ck pft pfn (look2 cl_74) ppl pmk 4 false 0 tr_74 0 0 0 0).isSome = true := by decide +kernel
set_option maxRecDepth 100000 in
theorem mk_74 : MOK1 74 mr_74 := mok_mk ⟨"GatedPile$Machine", "advance", "(I)I"⟩ prog_5_method_9_code _ 1 4 "GatedPile$Machine" cl_74 false rfl rfl rfl rfl dk_74 (by decide +kernel) (by decide +kernel) (by decide +kernel) ok_74 (plainFor_of_name (by decide +kernel)) (fun _ => ⟨4, _, rfl, rfl, rfl⟩)
/-- GatedPile$Machine.data()I -/
def cl_75 : xCl := [(14, [(0, .aload_n 0, 1), (1, .getfield 65, 3), (4, .sipush 8192, 3), (7, .if_icmp .ge 17, 3), (10, .aload_n 0, 1), (11, .getfield 9, 3)]), (24, [(14, .aload_n 0, 1), (15, .getfield 65, 3), (18, .sipush 8191, 3), (21, .iand, 1), (22, .iaload, 1), (23, .ireturn, 1)]), (37, [(24, .aload_n 0, 1), (25, .getfield 65, 3), (28, .ldc 91, 2), (30, .if_icmp .ne 45, 3), (33, .aload_n 0, 1), (34, .getfield 27, 3)]), (51, [(37, .ifCond .lt 36, 3), (40, .aload_n 0, 1), (41, .getfield 27, 3), (44, .aload_n 0, 1), (45, .getfield 22, 3), (48, .if_icmp .ge 25, 3)]), (65, [(51, .aload_n 0, 1), (52, .getfield 27, 3), (55, .sipush 200, 3), (58, .if_icmp .ge 15, 3), (61, .aload_n 0, 1), (62, .getfield 16, 3)]), (75, [(65, .aload_n 0, 1), (66, .getfield 27, 3), (69, .iaload, 1), (70, .goto 4, 3), (73, .iconst 0, 1), (74, .ireturn, 1)]), (88, [(75, .aload_n 0, 1), (76, .getfield 65, 3), (79, .ldc 92, 2), (81, .if_icmp .ne 10, 3), (84, .aload_n 0, 1), (85, .invokevirtual 93, 3)]), (100000, [(88, .goto 4, 3), (91, .iconst 0, 1), (92, .ireturn, 1)])]
set_option maxRecDepth 100000 in
theorem dk_75 : dkA cl_75 prog_5_method_10_code = true := by decide +kernel
set_option maxRecDepth 100000 in
theorem ok_75 : (ck pft pfn (look2 cl_75) ppl pmk 4 false 0 tr_75 0 0 0 0).isSome = true := by decide +kernel
set_option maxRecDepth 100000 in
theorem mk_75 : MOK1 75 mr_75 := mok_mk ⟨"GatedPile$Machine", "data", "()I"⟩ prog_5_method_10_code _ 1 4 "GatedPile$Machine" cl_75 false rfl rfl rfl rfl dk_75 (by decide +kernel) (by decide +kernel) (by decide +kernel) ok_75 (plainFor_of_name (by decide +kernel)) (fun _ => ⟨4, _, rfl, rfl, rfl⟩)
/-- GatedPile$Machine.tick()V -/
def cl_76 : xCl := [(41, [(0, .aload_n 0, 1), (1, .getfield 71, 3), (4, .tableswitch 129 0 2 #[28, 57, 64], 28), (32, .aload_n 0, 1), (33, .aload_n 0, 1), (34, .invokevirtual 97, 3), (37, .putfield 62, 3), (40, .aload_n 0, 1)]), (54, [(41, .aload_n 0, 1), (42, .getfield 59, 3), (45, .iconst 1, 1), (46, .iadd, 1), (47, .ldc 26, 2), (49, .iand, 1), (50, .putfield 59, 3), (53, .aload_n 0, 1)]), (72, [(54, .iconst 1, 1), (55, .putfield 71, 3), (58, .goto 92, 3), (61, .aload_n 0, 1), (62, .invokevirtual 100, 3), (65, .goto 85, 3), (68, .aload_n 0, 1), (69, .getfield 13, 3)]), (86, [(72, .aload_n 0, 1), (73, .getfield 62, 3), (76, .bipush 9, 2), (78, .ishr, 1), (79, .bipush 7, 2), (81, .iand, 1), (82, .aload_n 0, 1), (83, .invokevirtual 97, 3)]), (101, [(86, .iastore, 1), (87, .aload_n 0, 1), (88, .getfield 65, 3), (91, .ldc 91, 2), (93, .if_icmp .ne 24, 3), (96, .aload_n 0, 1), (97, .getfield 27, 3), (100, .aload_n 0, 1)]), (117, [(101, .getfield 22, 3), (104, .if_icmp .ge 13, 3), (107, .aload_n 0, 1), (108, .dup, 1), (109, .getfield 27, 3), (112, .iconst 1, 1), (113, .iadd, 1), (114, .putfield 27, 3)]), (133, [(117, .aload_n 0, 1), (118, .aload_n 0, 1), (119, .getfield 59, 3), (122, .putfield 65, 3), (125, .aload_n 0, 1), (126, .iconst 0, 1), (127, .putfield 71, 3), (130, .goto 20, 3)]), (147, [(133, .aload_n 0, 1), (134, .invokevirtual 103, 3), (137, .aload_n 0, 1), (138, .aload_n 0, 1), (139, .getfield 59, 3), (142, .putfield 65, 3), (145, .aload_n 0, 1), (146, .iconst 0, 1)]), (100000, [(147, .putfield 71, 3), (150, .return_, 1)])]
set_option maxRecDepth 100000 in
theorem dk_76 : dkA cl_76 prog_5_method_11_code = true := by decide +kernel
set_option maxRecDepth 100000 in
theorem ok_76 : (ck pft pfn (look2 cl_76) ppl pmk 4 false 9 tr_76 0 0 0 0).isSome = true := by decide +kernel
set_option maxRecDepth 100000 in
theorem mk_76 : MOK1 76 mr_76 := mok_mk ⟨"GatedPile$Machine", "tick", "()V"⟩ prog_5_method_11_code _ 1 4 "GatedPile$Machine" cl_76 false rfl rfl rfl rfl dk_76 (by decide +kernel) (by decide +kernel) (by decide +kernel) ok_76 (plainFor_of_name (by decide +kernel)) (fun _ => ⟨4, _, rfl, rfl, rfl⟩)
/-- GatedPile$Machine.give()V -/
def cl_77 : xCl := [(14, [(0, .aload_n 0, 1), (1, .getfield 65, 3), (4, .sipush 8192, 3), (7, .if_icmp .ge 20, 3), (10, .aload_n 0, 1), (11, .getfield 9, 3)]), (26, [(14, .aload_n 0, 1), (15, .getfield 65, 3), (18, .sipush 8191, 3), (21, .iand, 1), (22, .aload_n 0, 1), (23, .getfield 68, 3)]), (37, [(26, .iastore, 1), (27, .aload_n 0, 1), (28, .getfield 65, 3), (31, .ldc 91, 2), (33, .if_icmp .eq 4, 3), (36, .return_, 1)]), (51, [(37, .aload_n 0, 1), (38, .getfield 74, 3), (41, .ifCond .lt 26, 3), (44, .aload_n 0, 1), (45, .getfield 74, 3), (48, .sipush 500, 3)]), (63, [(51, .if_icmp .ge 16, 3), (54, .aload_n 0, 1), (55, .getfield 19, 3), (58, .aload_n 0, 1), (59, .getfield 74, 3), (62, .aload_n 0, 1)]), (73, [(63, .getfield 68, 3), (66, .iastore, 1), (67, .aload_n 0, 1), (68, .dup, 1), (69, .getfield 74, 3), (72, .iconst 1, 1)]), (100000, [(73, .iadd, 1), (74, .putfield 74, 3), (77, .return_, 1)])]
set_option maxRecDepth 100000 in
theorem dk_77 : dkA cl_77 prog_5_method_12_code = true := by decide +kernel
set_option maxRecDepth 100000 in
theorem ok_77 : (ck pft pfn (look2 cl_77) ppl pmk 4 false 9 tr_77 0 0 0 0).isSome = true := by decide +kernel
set_option maxRecDepth 100000 in
theorem mk_77 : MOK1 77 mr_77 := mok_mk ⟨"GatedPile$Machine", "give", "()V"⟩ prog_5_method_12_code _ 1 4 "GatedPile$Machine" cl_77 false rfl rfl rfl rfl dk_77 (by decide +kernel) (by decide +kernel) (by decide +kernel) ok_77 (plainFor_of_name (by decide +kernel)) (fun _ => ⟨4, _, rfl, rfl, rfl⟩)
set_option maxRecDepth 100000 in
theorem ma_1 : AllM 50 ml_1 := AllM_cons mk_50 (AllM_cons mk_51 (AllM_cons mk_52 (AllM_cons mk_53 (AllM_cons mk_54 (AllM_cons mk_55 (AllM_cons mk_56 (AllM_cons mk_57 (AllM_cons mk_58 (AllM_cons mk_59 (AllM_cons mk_60 (AllM_cons mk_61 (AllM_cons mk_62 (AllM_cons mk_63 (AllM_cons mk_64 (AllM_cons mk_65 (AllM_cons mk_66 (AllM_cons mk_67 (AllM_cons mk_68 (AllM_cons mk_69 (AllM_cons mk_70 (AllM_cons mk_71 (AllM_cons mk_72 (AllM_cons mk_73 (AllM_cons mk_74 (AllM_cons mk_75 (AllM_cons mk_76 (AllM_cons mk_77 (AllM_nil _))))))))))))))))))))))))))))
