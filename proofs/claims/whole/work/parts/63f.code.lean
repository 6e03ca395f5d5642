/-- GatedPile$Wiring.makeNext()V -/
def cl_175 : xCl := [(21, [(0, .aload_n 0, 1), (1, .aload_n 0, 1), (2, .getfield 16, 3), (5, .iconst 2, 1), (6, .invokestatic 121, 3), (9, .bipush 16, 2), (11, .newarray .int, 2), (13, .iconst 1, 1), (14, .invokevirtual 102, 3), (17, .putfield 124, 3), (20, .aload_n 0, 1)]), (39, [(21, .getfield 32, 3), (24, .iconst 0, 1), (25, .iaload, 1), (26, .istore_n 1, 1), (27, .iconst 1, 1), (28, .istore_n 2, 1), (29, .iload_n 2, 1), (30, .bipush 16, 2), (32, .if_icmp .ge 24, 3), (35, .aload_n 0, 1), (36, .getfield 16, 3)]), (60, [(39, .iload_n 1, 1), (40, .aload_n 0, 1), (41, .getfield 32, 3), (44, .iload_n 2, 1), (45, .iaload, 1), (46, .invokevirtual 89, 3), (49, .istore_n 1, 1), (50, .iinc 2 1, 3), (53, .goto (-24), 3), (56, .aload_n 0, 1), (57, .getfield 16, 3)]), (80, [(60, .iload_n 1, 1), (61, .invokevirtual 69, 3), (64, .istore_n 2, 1), (65, .aload_n 0, 1), (66, .getfield 16, 3), (69, .aload_n 0, 1), (70, .getfield 16, 3), (73, .aload_n 0, 1), (74, .getfield 13, 3), (77, .bipush 11, 2), (79, .iaload, 1)]), (101, [(80, .iload_n 2, 1), (81, .invokevirtual 76, 3), (84, .aload_n 0, 1), (85, .getfield 16, 3), (88, .aload_n 0, 1), (89, .getfield 13, 3), (92, .bipush 12, 2), (94, .iaload, 1), (95, .aload_n 0, 1), (96, .getfield 32, 3), (99, .bipush 15, 2)]), (121, [(101, .iaload, 1), (102, .invokevirtual 76, 3), (105, .invokevirtual 89, 3), (108, .istore_n 3, 1), (109, .aload_n 0, 1), (110, .getfield 16, 3), (113, .iload_n 3, 1), (114, .aload_n 0, 1), (115, .getfield 13, 3), (118, .bipush 14, 2), (120, .iaload, 1)]), (144, [(121, .invokevirtual 89, 3), (124, .istore 4, 2), (126, .bipush 16, 2), (128, .newarray .int, 2), (130, .astore 5, 2), (132, .iconst 0, 1), (133, .istore 6, 2), (135, .iload 6, 2), (137, .bipush 16, 2), (139, .if_icmp .ge 57, 3), (142, .aload 5, 2)]), (165, [(144, .iload 6, 2), (146, .aload_n 0, 1), (147, .getfield 16, 3), (150, .iload 4, 2), (152, .aload_n 0, 1), (153, .getfield 16, 3), (156, .aload_n 0, 1), (157, .getfield 13, 3), (160, .bipush 14, 2), (162, .iaload, 1), (163, .bipush 18, 2)]), (189, [(165, .iload 6, 2), (167, .bipush 8, 2), (169, .invokestatic 64, 3), (172, .iadd, 1), (173, .bipush 18, 2), (175, .iload 6, 2), (177, .bipush 11, 2), (179, .invokestatic 64, 3), (182, .iadd, 1), (183, .invokevirtual 60, 3), (186, .invokevirtual 76, 3)]), (211, [(189, .iastore, 1), (190, .iinc 6 1, 3), (193, .goto (-58), 3), (196, .aload_n 0, 1), (197, .aload_n 0, 1), (198, .getfield 16, 3), (201, .iconst 2, 1), (202, .invokestatic 121, 3), (205, .aload 5, 2), (207, .iconst 0, 1), (208, .invokevirtual 102, 3)]), (231, [(211, .putfield 127, 3), (214, .aload_n 0, 1), (215, .aload_n 0, 1), (216, .getfield 16, 3), (219, .aload_n 0, 1), (220, .getfield 13, 3), (223, .bipush 13, 2), (225, .iaload, 1), (226, .aload_n 0, 1), (227, .getfield 127, 3), (230, .aload_n 0, 1)]), (100000, [(231, .getfield 26, 3), (234, .invokevirtual 95, 3), (237, .putfield 127, 3), (240, .return_, 1)])]
set_option maxRecDepth 100000 in
theorem dk_175 : dkA cl_175 prog_10_method_12_code = true := by decide +kernel
set_option maxRecDepth 100000 in
theorem ok_175 : (ck pft pfn (look2 cl_175) ppl pmk 9 false 9 tr_175 0 0 0 0).isSome = true := by decide +kernel
set_option maxRecDepth 100000 in
theorem mk_175 : MOK1 175 mr_175 := mok_mk ⟨"GatedPile$Wiring", "makeNext", "()V"⟩ prog_10_method_12_code _ 1 9 "GatedPile$Wiring" cl_175 false rfl rfl rfl rfl dk_175 (by decide +kernel) (by decide +kernel) (by decide +kernel) ok_175 (plainFor_of_name (by decide +kernel)) (fun _ => ⟨9, _, rfl, rfl, rfl⟩)
/-- GatedPile$Wiring.makeFlipFlops()V -/
def cl_176 : xCl := [(19, [(0, .iconst 0, 1), (1, .istore_n 1, 1), (2, .iload_n 1, 1), (3, .bipush 16, 2), (5, .if_icmp .ge 56, 3), (8, .aload_n 0, 1), (9, .getfield 16, 3), (12, .iconst 2, 1), (13, .iload_n 1, 1), (14, .iadd, 1), (15, .aload_n 0, 1), (16, .getfield 16, 3)]), (39, [(19, .aload_n 0, 1), (20, .getfield 83, 3), (23, .aload_n 0, 1), (24, .getfield 16, 3), (27, .aload_n 0, 1), (28, .getfield 79, 3), (31, .iconst 2, 1), (32, .iload_n 1, 1), (33, .iadd, 1), (34, .aload_n 0, 1), (35, .getfield 124, 3), (38, .iload_n 1, 1)]), (65, [(39, .iaload, 1), (40, .invokevirtual 60, 3), (43, .aload_n 0, 1), (44, .getfield 127, 3), (47, .iload_n 1, 1), (48, .iaload, 1), (49, .invokevirtual 60, 3), (52, .invokevirtual 130, 3), (55, .iinc 1 1, 3), (58, .goto (-56), 3), (61, .aload_n 0, 1), (62, .getfield 16, 3)]), (93, [(65, .bipush 18, 2), (67, .aload_n 0, 1), (68, .getfield 16, 3), (71, .aload_n 0, 1), (72, .getfield 79, 3), (75, .bipush 18, 2), (77, .invokestatic 121, 3), (80, .sipush 196, 3), (83, .invokestatic 121, 3), (86, .invokevirtual 95, 3), (89, .invokevirtual 134, 3), (92, .aload_n 0, 1)]), (115, [(93, .getfield 16, 3), (96, .aload_n 0, 1), (97, .getfield 13, 3), (100, .bipush 8, 2), (102, .iaload, 1), (103, .aload_n 0, 1), (104, .getfield 13, 3), (107, .bipush 9, 2), (109, .iaload, 1), (110, .invokevirtual 89, 3), (113, .istore_n 1, 1), (114, .iconst 0, 1)]), (134, [(115, .istore_n 2, 1), (116, .iload_n 2, 1), (117, .bipush 16, 2), (119, .if_icmp .ge 71, 3), (122, .aload_n 0, 1), (123, .getfield 16, 3), (126, .aload_n 0, 1), (127, .getfield 83, 3), (130, .iconst 2, 1), (131, .iload_n 2, 1), (132, .iadd, 1), (133, .aload_n 0, 1)]), (156, [(134, .getfield 16, 3), (137, .iload_n 1, 1), (138, .aload_n 0, 1), (139, .getfield 127, 3), (142, .iload_n 2, 1), (143, .iaload, 1), (144, .aload_n 0, 1), (145, .getfield 106, 3), (148, .iload_n 2, 1), (149, .iaload, 1), (150, .invokevirtual 60, 3), (153, .invokevirtual 60, 3)]), (176, [(156, .istore_n 3, 1), (157, .aload_n 0, 1), (158, .getfield 16, 3), (161, .bipush 34, 2), (163, .iload_n 2, 1), (164, .iadd, 1), (165, .aload_n 0, 1), (166, .getfield 16, 3), (169, .aload_n 0, 1), (170, .getfield 79, 3), (173, .iload_n 3, 1), (174, .bipush 34, 2)]), (202, [(176, .iload_n 2, 1), (177, .iadd, 1), (178, .invokevirtual 60, 3), (181, .invokevirtual 130, 3), (184, .iinc 2 1, 3), (187, .goto (-71), 3), (190, .aload_n 0, 1), (191, .getfield 16, 3), (194, .aload_n 0, 1), (195, .getfield 83, 3), (198, .aload_n 0, 1), (199, .getfield 13, 3)]), (225, [(202, .bipush 9, 2), (204, .iaload, 1), (205, .invokevirtual 76, 3), (208, .istore_n 2, 1), (209, .aload_n 0, 1), (210, .getfield 16, 3), (213, .bipush 50, 2), (215, .aload_n 0, 1), (216, .getfield 16, 3), (219, .iload_n 2, 1), (220, .bipush 50, 2), (222, .invokestatic 121, 3)]), (250, [(225, .aload_n 0, 1), (226, .getfield 32, 3), (229, .invokevirtual 95, 3), (232, .invokevirtual 134, 3), (235, .aload_n 0, 1), (236, .getfield 16, 3), (239, .bipush 66, 2), (241, .aload_n 0, 1), (242, .getfield 16, 3), (245, .aload_n 0, 1), (246, .getfield 79, 3), (249, .aload_n 0, 1)]), (274, [(250, .getfield 16, 3), (253, .aload_n 0, 1), (254, .getfield 83, 3), (257, .aload_n 0, 1), (258, .getfield 16, 3), (261, .aload_n 0, 1), (262, .getfield 13, 3), (265, .bipush 9, 2), (267, .iaload, 1), (268, .aload_n 0, 1), (269, .getfield 13, 3), (272, .bipush 15, 2)]), (301, [(274, .iaload, 1), (275, .invokevirtual 89, 3), (278, .invokevirtual 76, 3), (281, .invokevirtual 89, 3), (284, .invokevirtual 130, 3), (287, .aload_n 0, 1), (288, .getfield 16, 3), (291, .bipush 67, 2), (293, .aload_n 0, 1), (294, .getfield 16, 3), (297, .aload_n 0, 1), (298, .getfield 83, 3)]), (100000, [(301, .iload_n 1, 1), (302, .invokevirtual 76, 3), (305, .invokevirtual 130, 3), (308, .return_, 1)])]
set_option maxRecDepth 100000 in
theorem dk_176 : dkA cl_176 prog_10_method_13_code = true := by decide +kernel
set_option maxRecDepth 100000 in
theorem ok_176 : (ck pft pfn (look2 cl_176) ppl pmk 9 false 9 tr_176 0 0 0 0).isSome = true := by decide +kernel
set_option maxRecDepth 100000 in
theorem mk_176 : MOK1 176 mr_176 := mok_mk ⟨"GatedPile$Wiring", "makeFlipFlops", "()V"⟩ prog_10_method_13_code _ 1 9 "GatedPile$Wiring" cl_176 false rfl rfl rfl rfl dk_176 (by decide +kernel) (by decide +kernel) (by decide +kernel) ok_176 (plainFor_of_name (by decide +kernel)) (fun _ => ⟨9, _, rfl, rfl, rfl⟩)
/-- GatedPile$Wiring.makeRegisters()V -/
def cl_177 : xCl := [(20, [(0, .aload_n 0, 1), (1, .getfield 16, 3), (4, .aload_n 0, 1), (5, .getfield 86, 3), (8, .aload_n 0, 1), (9, .getfield 16, 3), (12, .aload_n 0, 1), (13, .getfield 83, 3), (16, .aload_n 0, 1), (17, .getfield 16, 3)]), (37, [(20, .aload_n 0, 1), (21, .getfield 16, 3), (24, .aload_n 0, 1), (25, .getfield 7, 3), (28, .iconst 3, 1), (29, .iaload, 1), (30, .aload_n 0, 1), (31, .getfield 13, 3), (34, .bipush 10, 2), (36, .iaload, 1)]), (58, [(37, .invokevirtual 89, 3), (40, .aload_n 0, 1), (41, .getfield 13, 3), (44, .bipush 13, 2), (46, .iaload, 1), (47, .invokevirtual 89, 3), (50, .invokevirtual 76, 3), (53, .invokevirtual 89, 3), (56, .istore_n 1, 1), (57, .iconst 3, 1)]), (71, [(58, .newarray .int, 2), (60, .astore_n 2, 1), (61, .iconst 0, 1), (62, .istore_n 3, 1), (63, .iload_n 3, 1), (64, .iconst 3, 1), (65, .if_icmp .ge 23, 3), (68, .aload_n 2, 1), (69, .iload_n 3, 1), (70, .aload_n 0, 1)]), (90, [(71, .getfield 16, 3), (74, .bipush 27, 2), (76, .iload_n 3, 1), (77, .iadd, 1), (78, .invokevirtual 69, 3), (81, .iastore, 1), (82, .iinc 3 1, 3), (85, .goto (-22), 3), (88, .iconst 0, 1), (89, .istore_n 3, 1)]), (108, [(90, .iload_n 3, 1), (91, .bipush 8, 2), (93, .if_icmp .ge 123, 3), (96, .iload_n 3, 1), (97, .iconst 1, 1), (98, .iand, 1), (99, .ifCond .eq 8, 3), (102, .bipush 27, 2), (104, .goto 6, 3), (107, .aload_n 2, 1)]), (124, [(108, .iconst 0, 1), (109, .iaload, 1), (110, .istore 4, 2), (112, .iload_n 3, 1), (113, .iconst 2, 1), (114, .iand, 1), (115, .ifCond .eq 8, 3), (118, .bipush 28, 2), (120, .goto 6, 3), (123, .aload_n 2, 1)]), (140, [(124, .iconst 1, 1), (125, .iaload, 1), (126, .istore 5, 2), (128, .iload_n 3, 1), (129, .iconst 4, 1), (130, .iand, 1), (131, .ifCond .eq 8, 3), (134, .bipush 29, 2), (136, .goto 6, 3), (139, .aload_n 2, 1)]), (157, [(140, .iconst 2, 1), (141, .iaload, 1), (142, .istore 6, 2), (144, .aload_n 0, 1), (145, .getfield 16, 3), (148, .iload_n 1, 1), (149, .aload_n 0, 1), (150, .getfield 16, 3), (153, .aload_n 0, 1), (154, .getfield 16, 3)]), (179, [(157, .iload 4, 2), (159, .iload 5, 2), (161, .invokevirtual 76, 3), (164, .iload 6, 2), (166, .invokevirtual 76, 3), (169, .invokevirtual 76, 3), (172, .istore 7, 2), (174, .bipush 68, 2), (176, .bipush 16, 2), (178, .iload_n 3, 1)]), (197, [(179, .imul, 1), (180, .iadd, 1), (181, .istore 8, 2), (183, .aload_n 0, 1), (184, .getfield 16, 3), (187, .iload 8, 2), (189, .aload_n 0, 1), (190, .getfield 16, 3), (193, .iload 7, 2), (195, .iload 8, 2)]), (100000, [(197, .invokestatic 121, 3), (200, .aload_n 0, 1), (201, .getfield 118, 3), (204, .invokevirtual 95, 3), (207, .invokevirtual 134, 3), (210, .iinc 3 1, 3), (213, .goto (-123), 3), (216, .return_, 1)])]
set_option maxRecDepth 100000 in
theorem dk_177 : dkA cl_177 prog_10_method_14_code = true := by decide +kernel
set_option maxRecDepth 100000 in
theorem ok_177 : (ck pft pfn (look2 cl_177) ppl pmk 9 false 9 tr_177 0 0 0 0).isSome = true := by decide +kernel
set_option maxRecDepth 100000 in
theorem mk_177 : MOK1 177 mr_177 := mok_mk ⟨"GatedPile$Wiring", "makeRegisters", "()V"⟩ prog_10_method_14_code _ 1 9 "GatedPile$Wiring" cl_177 false rfl rfl rfl rfl dk_177 (by decide +kernel) (by decide +kernel) (by decide +kernel) ok_177 (plainFor_of_name (by decide +kernel)) (fun _ => ⟨9, _, rfl, rfl, rfl⟩)
/-- GatedPile.<init>()V -/
def cl_178 : xCl := [(15, [(0, .aload_n 0, 1), (1, .invokespecial 1, 3), (4, .aload_n 0, 1), (5, .new 7, 3), (8, .dup, 1), (9, .invokespecial 9, 3), (12, .putfield 10, 3)]), (30, [(15, .aload_n 0, 1), (16, .new 16, 3), (19, .dup, 1), (20, .invokespecial 18, 3), (23, .putfield 19, 3), (26, .aload_n 0, 1), (27, .new 23, 3)]), (45, [(30, .dup, 1), (31, .aload_n 0, 1), (32, .getfield 10, 3), (35, .invokespecial 25, 3), (38, .putfield 28, 3), (41, .aload_n 0, 1), (42, .new 32, 3)]), (60, [(45, .dup, 1), (46, .aload_n 0, 1), (47, .getfield 10, 3), (50, .aload_n 0, 1), (51, .getfield 19, 3), (54, .invokespecial 34, 3), (57, .putfield 37, 3)]), (75, [(60, .aload_n 0, 1), (61, .new 41, 3), (64, .dup, 1), (65, .aload_n 0, 1), (66, .getfield 19, 3), (69, .invokespecial 43, 3), (72, .putfield 46, 3)]), (90, [(75, .aload_n 0, 1), (76, .new 50, 3), (79, .dup, 1), (80, .invokespecial 52, 3), (83, .putfield 53, 3), (86, .aload_n 0, 1), (87, .new 57, 3)]), (105, [(90, .dup, 1), (91, .invokespecial 59, 3), (94, .putfield 60, 3), (97, .aload_n 0, 1), (98, .new 64, 3), (101, .dup, 1), (102, .invokespecial 66, 3)]), (122, [(105, .putfield 67, 3), (108, .aload_n 0, 1), (109, .new 64, 3), (112, .dup, 1), (113, .invokespecial 66, 3), (116, .putfield 71, 3), (119, .new 74, 3)]), (100000, [(122, .dup, 1), (123, .aload_n 0, 1), (124, .getfield 53, 3), (127, .invokespecial 76, 3), (130, .invokevirtual 79, 3), (133, .return_, 1)])]
set_option maxRecDepth 100000 in
theorem dk_178 : dkA cl_178 prog_1_method_1_code = true := by decide +kernel
set_option maxRecDepth 100000 in
theorem ok_178 : (ck pft pfn (look2 cl_178) ppl pmk 10 true 9 tr_178 0 0 0 0).isSome = true := by decide +kernel
set_option maxRecDepth 100000 in
theorem mk_178 : MOK1 178 mr_178 := mok_mk ⟨"GatedPile", "<init>", "()V"⟩ prog_1_method_1_code _ 2 10 "GatedPile" cl_178 true rfl rfl rfl rfl dk_178 (by decide +kernel) (by decide +kernel) (by decide +kernel) ok_178 (plainFor_of_name (by decide +kernel)) (fun z => absurd z (by decide))
/-- GatedPile.feed(IIIII)I -/
def cl_179 : xCl := [(12, [(0, .aload_n 0, 1), (1, .getfield 10, 3), (4, .bipush 20, 2), (6, .invokevirtual 82, 3), (9, .ifCond .ne 5, 3)]), (19, [(12, .iconst (-1), 1), (13, .ireturn, 1), (14, .aload_n 0, 1), (15, .getfield 10, 3), (18, .iload_n 1, 1)]), (30, [(19, .invokevirtual 86, 3), (22, .aload_n 0, 1), (23, .getfield 10, 3), (26, .iload_n 2, 1), (27, .invokevirtual 86, 3)]), (39, [(30, .aload_n 0, 1), (31, .getfield 10, 3), (34, .iload_n 3, 1), (35, .invokevirtual 86, 3), (38, .aload_n 0, 1)]), (51, [(39, .getfield 10, 3), (42, .iload 4, 2), (44, .invokevirtual 86, 3), (47, .aload_n 0, 1), (48, .getfield 10, 3)]), (63, [(51, .iload 5, 2), (53, .invokevirtual 86, 3), (56, .aload_n 0, 1), (57, .getfield 10, 3), (60, .getfield 90, 3)]), (100000, [(63, .ireturn, 1)])]
set_option maxRecDepth 100000 in
theorem dk_179 : dkA cl_179 prog_1_method_2_code = true := by decide +kernel
set_option maxRecDepth 100000 in
theorem ok_179 : (ck pft pfn (look2 cl_179) ppl pmk 10 false 0 tr_179 0 0 0 0).isSome = true := by decide +kernel
set_option maxRecDepth 100000 in
theorem mk_179 : MOK1 179 mr_179 := mok_mk ⟨"GatedPile", "feed", "(IIIII)I"⟩ prog_1_method_2_code _ 1 10 "GatedPile" cl_179 false rfl rfl rfl rfl dk_179 (by decide +kernel) (by decide +kernel) (by decide +kernel) ok_179 (plainFor_of_name (by decide +kernel)) (fun _ => ⟨10, _, rfl, rfl, rfl⟩)
/-- GatedPile.end(I)I -/
def cl_180 : xCl := [(6, [(0, .iload_n 1, 1), (1, .ifCond .lt 14, 3), (4, .iload_n 1, 1), (5, .aload_n 0, 1)]), (16, [(6, .getfield 10, 3), (9, .getfield 90, 3), (12, .if_icmp .le 5, 3), (15, .iconst (-1), 1)]), (22, [(16, .ireturn, 1), (17, .aload_n 0, 1), (18, .getfield 10, 3), (21, .iload_n 1, 1)]), (100000, [(22, .putfield 90, 3), (25, .iload_n 1, 1), (26, .ireturn, 1)])]
set_option maxRecDepth 100000 in
theorem dk_180 : dkA cl_180 prog_1_method_3_code = true := by decide +kernel
set_option maxRecDepth 100000 in
theorem ok_180 : (ck pft pfn (look2 cl_180) ppl pmk 10 false 0 tr_180 0 0 0 0).isSome = true := by decide +kernel
set_option maxRecDepth 100000 in
theorem mk_180 : MOK1 180 mr_180 := mok_mk ⟨"GatedPile", "end", "(I)I"⟩ prog_1_method_3_code _ 1 10 "GatedPile" cl_180 false rfl rfl rfl rfl dk_180 (by decide +kernel) (by decide +kernel) (by decide +kernel) ok_180 (plainFor_of_name (by decide +kernel)) (fun _ => ⟨10, _, rfl, rfl, rfl⟩)
/-- GatedPile.compile()I -/
def cl_181 : xCl := [(16, [(0, .aload_n 0, 1), (1, .iconst 1, 1), (2, .putfield 94, 3), (5, .aload_n 0, 1), (6, .iconst 0, 1), (7, .putfield 98, 3), (10, .aload_n 0, 1), (11, .iconst (-1), 1), (12, .putfield 101, 3), (15, .aload_n 0, 1)]), (40, [(16, .getfield 19, 3), (19, .invokevirtual 104, 3), (22, .aload_n 0, 1), (23, .getfield 10, 3), (26, .aload_n 0, 1), (27, .getfield 19, 3), (30, .invokevirtual 107, 3), (33, .aload_n 0, 1), (34, .getfield 28, 3), (37, .invokevirtual 110, 3)]), (62, [(40, .ifCond .eq 156, 3), (43, .aload_n 0, 1), (44, .getfield 19, 3), (47, .aload_n 0, 1), (48, .getfield 10, 3), (51, .invokevirtual 114, 3), (54, .aload_n 0, 1), (55, .getfield 37, 3), (58, .aload_n 0, 1), (59, .getfield 71, 3)]), (84, [(62, .invokevirtual 117, 3), (65, .aload_n 0, 1), (66, .getfield 37, 3), (69, .getfield 121, 3), (72, .sipush 3001, 3), (75, .if_icmp .eq 18, 3), (78, .aload_n 0, 1), (79, .iconst 2, 1), (80, .aload_n 0, 1), (81, .getfield 37, 3)]), (108, [(84, .getfield 121, 3), (87, .invokevirtual 124, 3), (90, .goto 125, 3), (93, .aload_n 0, 1), (94, .getfield 37, 3), (97, .getfield 128, 3), (100, .sipush 3001, 3), (103, .if_icmp .eq 18, 3), (106, .aload_n 0, 1), (107, .iconst 3, 1)]), (132, [(108, .aload_n 0, 1), (109, .getfield 37, 3), (112, .getfield 128, 3), (115, .invokevirtual 124, 3), (118, .goto 97, 3), (121, .aload_n 0, 1), (122, .getfield 19, 3), (125, .invokevirtual 131, 3), (128, .iconst (-1), 1), (129, .if_icmp .ne 18, 3)]), (154, [(132, .aload_n 0, 1), (133, .iconst 4, 1), (134, .aload_n 0, 1), (135, .getfield 10, 3), (138, .getfield 90, 3), (141, .invokevirtual 124, 3), (144, .goto 71, 3), (147, .aload_n 0, 1), (148, .getfield 19, 3), (151, .invokevirtual 135, 3)]), (178, [(154, .ifCond .ne 27, 3), (157, .aload_n 0, 1), (158, .getfield 37, 3), (161, .getfield 138, 3), (164, .ifCond .ne 17, 3), (167, .aload_n 0, 1), (168, .getfield 46, 3), (171, .aload_n 0, 1), (172, .getfield 71, 3), (175, .invokevirtual 141, 3)]), (198, [(178, .ifCond .ne 37, 3), (181, .aload_n 0, 1), (182, .iconst 5, 1), (183, .aload_n 0, 1), (184, .getfield 10, 3), (187, .getfield 90, 3), (190, .invokevirtual 124, 3), (193, .goto 22, 3), (196, .aload_n 0, 1), (197, .iconst 1, 1)]), (220, [(198, .aload_n 0, 1), (199, .getfield 10, 3), (202, .aload_n 0, 1), (203, .getfield 28, 3), (206, .getfield 145, 3), (209, .invokevirtual 148, 3), (212, .invokevirtual 124, 3), (215, .aload_n 0, 1), (216, .getfield 10, 3), (219, .iconst 0, 1)]), (238, [(220, .putfield 90, 3), (223, .aload_n 0, 1), (224, .getfield 98, 3), (227, .ifCond .eq 5, 3), (230, .iconst (-1), 1), (231, .ireturn, 1), (232, .aload_n 0, 1), (233, .getfield 71, 3), (236, .astore_n 1, 1), (237, .aload_n 0, 1)]), (100000, [(238, .aload_n 0, 1), (239, .getfield 67, 3), (242, .putfield 71, 3), (245, .aload_n 0, 1), (246, .aload_n 1, 1), (247, .putfield 67, 3), (250, .aload_n 0, 1), (251, .getfield 67, 3), (254, .getfield 152, 3), (257, .ireturn, 1)])]
set_option maxRecDepth 100000 in
theorem dk_181 : dkA cl_181 prog_1_method_4_code = true := by decide +kernel
set_option maxRecDepth 100000 in
theorem ok_181 : (ck pft pfn (look2 cl_181) ppl pmk 10 false 0 tr_181 0 0 0 0).isSome = true := by decide +kernel
set_option maxRecDepth 100000 in
theorem mk_181 : MOK1 181 mr_181 := mok_mk ⟨"GatedPile", "compile", "()I"⟩ prog_1_method_4_code _ 1 10 "GatedPile" cl_181 false rfl rfl rfl rfl dk_181 (by decide +kernel) (by decide +kernel) (by decide +kernel) ok_181 (plainFor_of_name (by decide +kernel)) (fun _ => ⟨10, _, rfl, rfl, rfl⟩)
/-- GatedPile.blame(II)V -/
def cl_182 : xCl := [(6, [(0, .aload_n 0, 1), (1, .iload_n 1, 1), (2, .putfield 98, 3), (5, .aload_n 0, 1)]), (100000, [(6, .iload_n 2, 1), (7, .putfield 101, 3), (10, .return_, 1)])]
set_option maxRecDepth 100000 in
theorem dk_182 : dkA cl_182 prog_1_method_5_code = true := by decide +kernel
set_option maxRecDepth 100000 in
theorem ok_182 : (ck pft pfn (look2 cl_182) ppl pmk 10 false 9 tr_182 0 0 0 0).isSome = true := by decide +kernel
set_option maxRecDepth 100000 in
theorem mk_182 : MOK1 182 mr_182 := mok_mk ⟨"GatedPile", "blame", "(II)V"⟩ prog_1_method_5_code _ 1 10 "GatedPile" cl_182 false rfl rfl rfl rfl dk_182 (by decide +kernel) (by decide +kernel) (by decide +kernel) ok_182 (plainFor_of_name (by decide +kernel)) (fun _ => ⟨10, _, rfl, rfl, rfl⟩)
/-- GatedPile.fault(I)I -/
def cl_183 : xCl := [(8, [(0, .aload_n 0, 1), (1, .getfield 94, 3), (4, .ifCond .ne 5, 3), (7, .iconst (-1), 1)]), (14, [(8, .ireturn, 1), (9, .iload_n 1, 1), (10, .ifCond .ne 8, 3), (13, .aload_n 0, 1)]), (20, [(14, .getfield 98, 3), (17, .ireturn, 1), (18, .iload_n 1, 1), (19, .iconst 1, 1)]), (30, [(20, .if_icmp .ne 10, 3), (23, .aload_n 0, 1), (24, .getfield 101, 3), (27, .goto 4, 3)]), (100000, [(30, .iconst (-1), 1), (31, .ireturn, 1)])]
set_option maxRecDepth 100000 in
theorem dk_183 : dkA cl_183 prog_1_method_6_code = true := by decide +kernel
set_option maxRecDepth 100000 in
theorem ok_183 : (ck pft pfn (look2 cl_183) ppl pmk 10 false 0 tr_183 0 0 0 0).isSome = true := by decide +kernel
set_option maxRecDepth 100000 in
theorem mk_183 : MOK1 183 mr_183 := mok_mk ⟨"GatedPile", "fault", "(I)I"⟩ prog_1_method_6_code _ 1 10 "GatedPile" cl_183 false rfl rfl rfl rfl dk_183 (by decide +kernel) (by decide +kernel) (by decide +kernel) ok_183 (plainFor_of_name (by decide +kernel)) (fun _ => ⟨10, _, rfl, rfl, rfl⟩)
/-- GatedPile.count(I)I -/
def cl_184 : xCl := [(69, [(0, .iload_n 1, 1), (1, .tableswitch 151 0 10 #[59, 67, 75, 83, 91, 99, 111, 119, 127, 135, 143], 59), (60, .aload_n 0, 1), (61, .getfield 67, 3), (64, .getfield 155, 3), (67, .ireturn, 1), (68, .aload_n 0, 1)]), (84, [(69, .getfield 67, 3), (72, .getfield 158, 3), (75, .ireturn, 1), (76, .aload_n 0, 1), (77, .getfield 67, 3), (80, .getfield 161, 3), (83, .ireturn, 1)]), (99, [(84, .aload_n 0, 1), (85, .getfield 67, 3), (88, .getfield 152, 3), (91, .ireturn, 1), (92, .aload_n 0, 1), (93, .getfield 67, 3), (96, .getfield 164, 3)]), (112, [(99, .ireturn, 1), (100, .aload_n 0, 1), (101, .getfield 53, 3), (104, .getfield 167, 3), (107, .sipush 212, 3), (110, .isub, 1), (111, .ireturn, 1)]), (127, [(112, .aload_n 0, 1), (113, .getfield 53, 3), (116, .getfield 170, 3), (119, .ireturn, 1), (120, .aload_n 0, 1), (121, .getfield 10, 3), (124, .getfield 90, 3)]), (140, [(127, .ireturn, 1), (128, .aload_n 0, 1), (129, .getfield 60, 3), (132, .invokevirtual 173, 3), (135, .ireturn, 1), (136, .aload_n 0, 1), (137, .getfield 60, 3)]), (153, [(140, .getfield 176, 3), (143, .ireturn, 1), (144, .aload_n 0, 1), (145, .getfield 60, 3), (148, .getfield 179, 3), (151, .ireturn, 1), (152, .iconst (-1), 1)]), (100000, [(153, .ireturn, 1)])]
set_option maxRecDepth 100000 in
theorem dk_184 : dkA cl_184 prog_1_method_7_code = true := by decide +kernel
set_option maxRecDepth 100000 in
theorem ok_184 : (ck pft pfn (look2 cl_184) ppl pmk 10 false 0 tr_184 0 0 0 0).isSome = true := by decide +kernel
set_option maxRecDepth 100000 in
theorem mk_184 : MOK1 184 mr_184 := mok_mk ⟨"GatedPile", "count", "(I)I"⟩ prog_1_method_7_code _ 1 10 "GatedPile" cl_184 false rfl rfl rfl rfl dk_184 (by decide +kernel) (by decide +kernel) (by decide +kernel) ok_184 (plainFor_of_name (by decide +kernel)) (fun _ => ⟨10, _, rfl, rfl, rfl⟩)
/-- GatedPile.order(II)I -/
def cl_185 : xCl := [(12, [(0, .iload_n 1, 1), (1, .ifCond .lt 14, 3), (4, .iload_n 1, 1), (5, .aload_n 0, 1), (6, .getfield 67, 3), (9, .getfield 161, 3)]), (49, [(12, .if_icmp .lt 5, 3), (15, .iconst (-1), 1), (16, .ireturn, 1), (17, .iload_n 2, 1), (18, .tableswitch 70 0 3 #[30, 40, 50, 60], 30), (48, .aload_n 0, 1)]), (59, [(49, .getfield 67, 3), (52, .getfield 182, 3), (55, .iload_n 1, 1), (56, .iaload, 1), (57, .ireturn, 1), (58, .aload_n 0, 1)]), (69, [(59, .getfield 67, 3), (62, .getfield 186, 3), (65, .iload_n 1, 1), (66, .iaload, 1), (67, .ireturn, 1), (68, .aload_n 0, 1)]), (79, [(69, .getfield 67, 3), (72, .getfield 189, 3), (75, .iload_n 1, 1), (76, .iaload, 1), (77, .ireturn, 1), (78, .aload_n 0, 1)]), (89, [(79, .getfield 67, 3), (82, .getfield 192, 3), (85, .iload_n 1, 1), (86, .iaload, 1), (87, .ireturn, 1), (88, .iconst (-1), 1)]), (100000, [(89, .ireturn, 1)])]
set_option maxRecDepth 100000 in
theorem dk_185 : dkA cl_185 prog_1_method_8_code = true := by decide +kernel
set_option maxRecDepth 100000 in
theorem ok_185 : (ck pft pfn (look2 cl_185) ppl pmk 10 false 0 tr_185 0 0 0 0).isSome = true := by decide +kernel
set_option maxRecDepth 100000 in
theorem mk_185 : MOK1 185 mr_185 := mok_mk ⟨"GatedPile", "order", "(II)I"⟩ prog_1_method_8_code _ 1 10 "GatedPile" cl_185 false rfl rfl rfl rfl dk_185 (by decide +kernel) (by decide +kernel) (by decide +kernel) ok_185 (plainFor_of_name (by decide +kernel)) (fun _ => ⟨10, _, rfl, rfl, rfl⟩)
/-- GatedPile.proc(II)I -/
def cl_186 : xCl := [(12, [(0, .iload_n 1, 1), (1, .ifCond .lt 14, 3), (4, .iload_n 1, 1), (5, .aload_n 0, 1), (6, .getfield 67, 3), (9, .getfield 155, 3)]), (49, [(12, .if_icmp .lt 5, 3), (15, .iconst (-1), 1), (16, .ireturn, 1), (17, .iload_n 2, 1), (18, .tableswitch 70 0 3 #[30, 40, 50, 60], 30), (48, .aload_n 0, 1)]), (59, [(49, .getfield 67, 3), (52, .getfield 195, 3), (55, .iload_n 1, 1), (56, .iaload, 1), (57, .ireturn, 1), (58, .aload_n 0, 1)]), (69, [(59, .getfield 67, 3), (62, .getfield 198, 3), (65, .iload_n 1, 1), (66, .iaload, 1), (67, .ireturn, 1), (68, .aload_n 0, 1)]), (79, [(69, .getfield 67, 3), (72, .getfield 201, 3), (75, .iload_n 1, 1), (76, .iaload, 1), (77, .ireturn, 1), (78, .aload_n 0, 1)]), (89, [(79, .getfield 67, 3), (82, .getfield 204, 3), (85, .iload_n 1, 1), (86, .iaload, 1), (87, .ireturn, 1), (88, .iconst (-1), 1)]), (100000, [(89, .ireturn, 1)])]
set_option maxRecDepth 100000 in
theorem dk_186 : dkA cl_186 prog_1_method_9_code = true := by decide +kernel
set_option maxRecDepth 100000 in
theorem ok_186 : (ck pft pfn (look2 cl_186) ppl pmk 10 false 0 tr_186 0 0 0 0).isSome = true := by decide +kernel
set_option maxRecDepth 100000 in
theorem mk_186 : MOK1 186 mr_186 := mok_mk ⟨"GatedPile", "proc", "(II)I"⟩ prog_1_method_9_code _ 1 10 "GatedPile" cl_186 false rfl rfl rfl rfl dk_186 (by decide +kernel) (by decide +kernel) (by decide +kernel) ok_186 (plainFor_of_name (by decide +kernel)) (fun _ => ⟨10, _, rfl, rfl, rfl⟩)
/-- GatedPile.word(I)I -/
def cl_187 : xCl := [(6, [(0, .iload_n 1, 1), (1, .ifCond .lt 14, 3), (4, .iload_n 1, 1), (5, .aload_n 0, 1)]), (16, [(6, .getfield 67, 3), (9, .getfield 152, 3), (12, .if_icmp .lt 7, 3), (15, .iconst (-1), 1)]), (26, [(16, .goto 12, 3), (19, .aload_n 0, 1), (20, .getfield 67, 3), (23, .getfield 207, 3)]), (100000, [(26, .iload_n 1, 1), (27, .iaload, 1), (28, .ireturn, 1)])]
set_option maxRecDepth 100000 in
theorem dk_187 : dkA cl_187 prog_1_method_10_code = true := by decide +kernel
set_option maxRecDepth 100000 in
theorem ok_187 : (ck pft pfn (look2 cl_187) ppl pmk 10 false 0 tr_187 0 0 0 0).isSome = true := by decide +kernel
set_option maxRecDepth 100000 in
theorem mk_187 : MOK1 187 mr_187 := mok_mk ⟨"GatedPile", "word", "(I)I"⟩ prog_1_method_10_code _ 1 10 "GatedPile" cl_187 false rfl rfl rfl rfl dk_187 (by decide +kernel) (by decide +kernel) (by decide +kernel) ok_187 (plainFor_of_name (by decide +kernel)) (fun _ => ⟨10, _, rfl, rfl, rfl⟩)
/-- GatedPile.net(II)I -/
def cl_188 : xCl := [(10, [(0, .iload_n 2, 1), (1, .ifCond .ne 25, 3), (4, .iload_n 1, 1), (5, .iconst 2, 1), (6, .if_icmp .lt 20, 3), (9, .iload_n 1, 1)]), (24, [(10, .sipush 196, 3), (13, .if_icmp .ge 13, 3), (16, .aload_n 0, 1), (17, .getfield 53, 3), (20, .getfield 210, 3), (23, .iload_n 1, 1)]), (34, [(24, .iaload, 1), (25, .ireturn, 1), (26, .iload_n 1, 1), (27, .sipush 212, 3), (30, .if_icmp .lt 14, 3), (33, .iload_n 1, 1)]), (46, [(34, .aload_n 0, 1), (35, .getfield 53, 3), (38, .getfield 167, 3), (41, .if_icmp .lt 5, 3), (44, .iconst (-1), 1), (45, .ireturn, 1)]), (58, [(46, .iload_n 2, 1), (47, .ifCond .ne 13, 3), (50, .aload_n 0, 1), (51, .getfield 53, 3), (54, .getfield 210, 3), (57, .iload_n 1, 1)]), (66, [(58, .iaload, 1), (59, .ireturn, 1), (60, .iload_n 2, 1), (61, .iconst 1, 1), (62, .if_icmp .ne 15, 3), (65, .aload_n 0, 1)]), (78, [(66, .getfield 53, 3), (69, .getfield 213, 3), (72, .iload_n 1, 1), (73, .iaload, 1), (74, .goto 4, 3), (77, .iconst (-1), 1)]), (100000, [(78, .ireturn, 1)])]
set_option maxRecDepth 100000 in
theorem dk_188 : dkA cl_188 prog_1_method_11_code = true := by decide +kernel
set_option maxRecDepth 100000 in
theorem ok_188 : (ck pft pfn (look2 cl_188) ppl pmk 10 false 0 tr_188 0 0 0 0).isSome = true := by decide +kernel
set_option maxRecDepth 100000 in
theorem mk_188 : MOK1 188 mr_188 := mok_mk ⟨"GatedPile", "net", "(II)I"⟩ prog_1_method_11_code _ 1 10 "GatedPile" cl_188 false rfl rfl rfl rfl dk_188 (by decide +kernel) (by decide +kernel) (by decide +kernel) ok_188 (plainFor_of_name (by decide +kernel)) (fun _ => ⟨10, _, rfl, rfl, rfl⟩)
/-- GatedPile.input(I)Z -/
def cl_189 : xCl := [(8, [(0, .aload_n 0, 1), (1, .getfield 53, 3), (4, .iconst 0, 1), (5, .putfield 216, 3)]), (16, [(8, .aload_n 0, 1), (9, .getfield 60, 3), (12, .iload_n 1, 1), (13, .invokevirtual 219, 3)]), (100000, [(16, .ireturn, 1)])]
set_option maxRecDepth 100000 in
theorem dk_189 : dkA cl_189 prog_1_method_12_code = true := by decide +kernel
set_option maxRecDepth 100000 in
theorem ok_189 : (ck pft pfn (look2 cl_189) ppl pmk 10 false 3 tr_189 0 0 0 0).isSome = true := by decide +kernel
set_option maxRecDepth 100000 in
theorem mk_189 : MOK1 189 mr_189 := mok_mk ⟨"GatedPile", "input", "(I)Z"⟩ prog_1_method_12_code _ 1 10 "GatedPile" cl_189 false rfl rfl rfl rfl dk_189 (by decide +kernel) (by decide +kernel) (by decide +kernel) ok_189 (plainFor_of_name (by decide +kernel)) (fun _ => ⟨10, _, rfl, rfl, rfl⟩)
/-- GatedPile.clear()V -/
def cl_190 : xCl := [(8, [(0, .aload_n 0, 1), (1, .getfield 53, 3), (4, .iconst 0, 1), (5, .putfield 216, 3)]), (100000, [(8, .aload_n 0, 1), (9, .getfield 60, 3), (12, .invokevirtual 222, 3), (15, .return_, 1)])]
set_option maxRecDepth 100000 in
theorem dk_190 : dkA cl_190 prog_1_method_13_code = true := by decide +kernel
set_option maxRecDepth 100000 in
theorem ok_190 : (ck pft pfn (look2 cl_190) ppl pmk 10 false 9 tr_190 0 0 0 0).isSome = true := by decide +kernel
set_option maxRecDepth 100000 in
theorem mk_190 : MOK1 190 mr_190 := mok_mk ⟨"GatedPile", "clear", "()V"⟩ prog_1_method_13_code _ 1 10 "GatedPile" cl_190 false rfl rfl rfl rfl dk_190 (by decide +kernel) (by decide +kernel) (by decide +kernel) ok_190 (plainFor_of_name (by decide +kernel)) (fun _ => ⟨10, _, rfl, rfl, rfl⟩)
/-- GatedPile.reset()Z -/
def cl_191 : xCl := [(10, [(0, .aload_n 0, 1), (1, .getfield 67, 3), (4, .getfield 152, 3), (7, .ifCond .ne 5, 3)]), (16, [(10, .iconst 0, 1), (11, .ireturn, 1), (12, .aload_n 0, 1), (13, .getfield 53, 3)]), (24, [(16, .iconst 0, 1), (17, .putfield 216, 3), (20, .aload_n 0, 1), (21, .getfield 60, 3)]), (32, [(24, .aload_n 0, 1), (25, .getfield 67, 3), (28, .invokevirtual 225, 3), (31, .iconst 1, 1)]), (100000, [(32, .ireturn, 1)])]
set_option maxRecDepth 100000 in
theorem dk_191 : dkA cl_191 prog_1_method_14_code = true := by decide +kernel
set_option maxRecDepth 100000 in
theorem ok_191 : (ck pft pfn (look2 cl_191) ppl pmk 10 false 3 tr_191 0 0 0 0).isSome = true := by decide +kernel
set_option maxRecDepth 100000 in
theorem mk_191 : MOK1 191 mr_191 := mok_mk ⟨"GatedPile", "reset", "()Z"⟩ prog_1_method_14_code _ 1 10 "GatedPile" cl_191 false rfl rfl rfl rfl dk_191 (by decide +kernel) (by decide +kernel) (by decide +kernel) ok_191 (plainFor_of_name (by decide +kernel)) (fun _ => ⟨10, _, rfl, rfl, rfl⟩)
/-- GatedPile.clock(I)I -/
def cl_192 : xCl := [(8, [(0, .iload_n 1, 1), (1, .ifCond .lt 10, 3), (4, .iload_n 1, 1), (5, .sipush 5000, 3)]), (14, [(8, .if_icmp .le 5, 3), (11, .iconst (-1), 1), (12, .ireturn, 1), (13, .aload_n 0, 1)]), (22, [(14, .getfield 53, 3), (17, .iconst 0, 1), (18, .putfield 216, 3), (21, .aload_n 0, 1)]), (100000, [(22, .getfield 60, 3), (25, .iload_n 1, 1), (26, .invokevirtual 228, 3), (29, .ireturn, 1)])]
set_option maxRecDepth 100000 in
theorem dk_192 : dkA cl_192 prog_1_method_15_code = true := by decide +kernel
set_option maxRecDepth 100000 in
theorem ok_192 : (ck pft pfn (look2 cl_192) ppl pmk 10 false 0 tr_192 0 0 0 0).isSome = true := by decide +kernel
set_option maxRecDepth 100000 in
theorem mk_192 : MOK1 192 mr_192 := mok_mk ⟨"GatedPile", "clock", "(I)I"⟩ prog_1_method_15_code _ 1 10 "GatedPile" cl_192 false rfl rfl rfl rfl dk_192 (by decide +kernel) (by decide +kernel) (by decide +kernel) ok_192 (plainFor_of_name (by decide +kernel)) (fun _ => ⟨10, _, rfl, rfl, rfl⟩)
/-- GatedPile.run()I -/
def cl_193 : xCl := [(12, [(0, .aload_n 0, 1), (1, .getfield 67, 3), (4, .getfield 152, 3), (7, .ifCond .ne 5, 3), (10, .iconst (-1), 1), (11, .ireturn, 1)]), (24, [(12, .aload_n 0, 1), (13, .getfield 53, 3), (16, .iconst 0, 1), (17, .putfield 216, 3), (20, .aload_n 0, 1), (21, .getfield 60, 3)]), (38, [(24, .aload_n 0, 1), (25, .getfield 67, 3), (28, .invokevirtual 225, 3), (31, .aload_n 0, 1), (32, .getfield 60, 3), (35, .sipush 20000, 3)]), (52, [(38, .invokevirtual 228, 3), (41, .pop, 1), (42, .aload_n 0, 1), (43, .getfield 60, 3), (46, .invokevirtual 231, 3), (49, .ifCond .ne 6, 3)]), (63, [(52, .bipush (-3), 2), (54, .ireturn, 1), (55, .aload_n 0, 1), (56, .getfield 60, 3), (59, .getfield 234, 3), (62, .iconst 4, 1)]), (73, [(63, .iaload, 1), (64, .invokestatic 237, 3), (67, .istore_n 1, 1), (68, .iload_n 1, 1), (69, .iconst (-1), 1), (70, .if_icmp .ne 8, 3)]), (100000, [(73, .bipush (-2), 2), (75, .goto 4, 3), (78, .iload_n 1, 1), (79, .ireturn, 1)])]
set_option maxRecDepth 100000 in
theorem dk_193 : dkA cl_193 prog_1_method_16_code = true := by decide +kernel
set_option maxRecDepth 100000 in
theorem ok_193 : (ck pft pfn (look2 cl_193) ppl pmk 10 false 0 tr_193 0 0 0 0).isSome = true := by decide +kernel
set_option maxRecDepth 100000 in
theorem mk_193 : MOK1 193 mr_193 := mok_mk ⟨"GatedPile", "run", "()I"⟩ prog_1_method_16_code _ 1 10 "GatedPile" cl_193 false rfl rfl rfl rfl dk_193 (by decide +kernel) (by decide +kernel) (by decide +kernel) ok_193 (plainFor_of_name (by decide +kernel)) (fun _ => ⟨10, _, rfl, rfl, rfl⟩)
/-- GatedPile.wire(I)I -/
def cl_194 : xCl := [(9, [(0, .iload_n 1, 1), (1, .ifCond .lt 14, 3), (4, .iload_n 1, 1), (5, .aload_n 0, 1), (6, .getfield 53, 3)]), (18, [(9, .getfield 167, 3), (12, .if_icmp .lt 5, 3), (15, .iconst (-1), 1), (16, .ireturn, 1), (17, .aload_n 0, 1)]), (31, [(18, .getfield 53, 3), (21, .getfield 216, 3), (24, .ifCond .ne 27, 3), (27, .aload_n 0, 1), (28, .getfield 60, 3)]), (42, [(31, .aload_n 0, 1), (32, .getfield 53, 3), (35, .getfield 240, 3), (38, .invokevirtual 243, 3), (41, .aload_n 0, 1)]), (55, [(42, .getfield 53, 3), (45, .sipush 212, 3), (48, .putfield 216, 3), (51, .aload_n 0, 1), (52, .getfield 53, 3)]), (100000, [(55, .iload_n 1, 1), (56, .invokevirtual 247, 3), (59, .ireturn, 1)])]
set_option maxRecDepth 100000 in
theorem dk_194 : dkA cl_194 prog_1_method_17_code = true := by decide +kernel
set_option maxRecDepth 100000 in
theorem ok_194 : (ck pft pfn (look2 cl_194) ppl pmk 10 false 0 tr_194 0 0 0 0).isSome = true := by decide +kernel
set_option maxRecDepth 100000 in
theorem mk_194 : MOK1 194 mr_194 := mok_mk ⟨"GatedPile", "wire", "(I)I"⟩ prog_1_method_17_code _ 1 10 "GatedPile" cl_194 false rfl rfl rfl rfl dk_194 (by decide +kernel) (by decide +kernel) (by decide +kernel) ok_194 (plainFor_of_name (by decide +kernel)) (fun _ => ⟨10, _, rfl, rfl, rfl⟩)
/-- GatedPile.look(I)I -/
def cl_195 : xCl := [(11, [(0, .iload_n 1, 1), (1, .ifCond .lt 22, 3), (4, .iload_n 1, 1), (5, .bipush 7, 2), (7, .if_icmp .gt 16, 3), (10, .aload_n 0, 1)]), (23, [(11, .getfield 60, 3), (14, .getfield 234, 3), (17, .iload_n 1, 1), (18, .iaload, 1), (19, .invokestatic 237, 3), (22, .ireturn, 1)]), (72, [(23, .iload_n 1, 1), (24, .tableswitch 96 8 13 #[40, 48, 56, 64, 72, 80], 40), (64, .aload_n 0, 1), (65, .getfield 60, 3), (68, .getfield 250, 3), (71, .ireturn, 1)]), (84, [(72, .aload_n 0, 1), (73, .getfield 60, 3), (76, .getfield 253, 3), (79, .ireturn, 1), (80, .aload_n 0, 1), (81, .getfield 60, 3)]), (96, [(84, .getfield 256, 3), (87, .ireturn, 1), (88, .aload_n 0, 1), (89, .getfield 60, 3), (92, .getfield 259, 3), (95, .ireturn, 1)]), (108, [(96, .aload_n 0, 1), (97, .getfield 60, 3), (100, .getfield 262, 3), (103, .ireturn, 1), (104, .aload_n 0, 1), (105, .getfield 60, 3)]), (120, [(108, .invokevirtual 231, 3), (111, .ifCond .eq 7, 3), (114, .iconst 1, 1), (115, .goto 4, 3), (118, .iconst 0, 1), (119, .ireturn, 1)]), (100000, [(120, .iconst (-1), 1), (121, .ireturn, 1)])]
set_option maxRecDepth 100000 in
theorem dk_195 : dkA cl_195 prog_1_method_18_code = true := by decide +kernel
set_option maxRecDepth 100000 in
theorem ok_195 : (ck pft pfn (look2 cl_195) ppl pmk 10 false 0 tr_195 0 0 0 0).isSome = true := by decide +kernel
set_option maxRecDepth 100000 in
theorem mk_195 : MOK1 195 mr_195 := mok_mk ⟨"GatedPile", "look", "(I)I"⟩ prog_1_method_18_code _ 1 10 "GatedPile" cl_195 false rfl rfl rfl rfl dk_195 (by decide +kernel) (by decide +kernel) (by decide +kernel) ok_195 (plainFor_of_name (by decide +kernel)) (fun _ => ⟨10, _, rfl, rfl, rfl⟩)
/-- GatedPile.memory(I)I -/
def cl_196 : xCl := [(8, [(0, .iload_n 1, 1), (1, .ifCond .lt 10, 3), (4, .iload_n 1, 1), (5, .sipush 8192, 3)]), (16, [(8, .if_icmp .lt 7, 3), (11, .iconst 0, 1), (12, .goto 15, 3), (15, .aload_n 0, 1)]), (24, [(16, .getfield 60, 3), (19, .getfield 265, 3), (22, .iload_n 1, 1), (23, .iaload, 1)]), (100000, [(24, .invokestatic 237, 3), (27, .ireturn, 1)])]
set_option maxRecDepth 100000 in
theorem dk_196 : dkA cl_196 prog_1_method_19_code = true := by decide +kernel
set_option maxRecDepth 100000 in
theorem ok_196 : (ck pft pfn (look2 cl_196) ppl pmk 10 false 0 tr_196 0 0 0 0).isSome = true := by decide +kernel
set_option maxRecDepth 100000 in
theorem mk_196 : MOK1 196 mr_196 := mok_mk ⟨"GatedPile", "memory", "(I)I"⟩ prog_1_method_19_code _ 1 10 "GatedPile" cl_196 false rfl rfl rfl rfl dk_196 (by decide +kernel) (by decide +kernel) (by decide +kernel) ok_196 (plainFor_of_name (by decide +kernel)) (fun _ => ⟨10, _, rfl, rfl, rfl⟩)
/-- GatedPile.output(I)I -/
def cl_197 : xCl := [(6, [(0, .iload_n 1, 1), (1, .ifCond .lt 20, 3), (4, .iload_n 1, 1), (5, .aload_n 0, 1)]), (18, [(6, .getfield 60, 3), (9, .getfield 176, 3), (12, .sipush 500, 3), (15, .invokestatic 268, 3)]), (26, [(18, .if_icmp .lt 7, 3), (21, .iconst 0, 1), (22, .goto 15, 3), (25, .aload_n 0, 1)]), (34, [(26, .getfield 60, 3), (29, .getfield 274, 3), (32, .iload_n 1, 1), (33, .iaload, 1)]), (100000, [(34, .invokestatic 237, 3), (37, .ireturn, 1)])]
set_option maxRecDepth 100000 in
theorem dk_197 : dkA cl_197 prog_1_method_20_code = true := by decide +kernel
set_option maxRecDepth 100000 in
theorem ok_197 : (ck pft pfn (look2 cl_197) ppl pmk 10 false 0 tr_197 0 0 0 0).isSome = true := by decide +kernel
set_option maxRecDepth 100000 in
theorem mk_197 : MOK1 197 mr_197 := mok_mk ⟨"GatedPile", "output", "(I)I"⟩ prog_1_method_20_code _ 1 10 "GatedPile" cl_197 false rfl rfl rfl rfl dk_197 (by decide +kernel) (by decide +kernel) (by decide +kernel) ok_197 (plainFor_of_name (by decide +kernel)) (fun _ => ⟨10, _, rfl, rfl, rfl⟩)
/-- GatedPileModel.packed(Ljava/lang/String;)J -/
def cl_198 : xCl := [(4, [(0, .lconst 0, 1), (1, .lstore_n 1, 1), (2, .iconst 0, 1), (3, .istore_n 3, 1)]), (12, [(4, .iload_n 3, 1), (5, .aload_n 0, 1), (6, .invokevirtual 1, 3), (9, .if_icmp .ge 25, 3)]), (18, [(12, .ldc2_w 7, 3), (15, .lload_n 1, 1), (16, .lmul, 1), (17, .aload_n 0, 1)]), (26, [(18, .iload_n 3, 1), (19, .invokevirtual 9, 3), (22, .invokestatic 13, 3), (25, .i2l, 1)]), (34, [(26, .ladd, 1), (27, .lstore_n 1, 1), (28, .iinc 3 1, 3), (31, .goto (-27), 3)]), (100000, [(34, .lload_n 1, 1), (35, .lreturn, 1)])]
set_option maxRecDepth 100000 in
theorem dk_198 : dkA cl_198 prog_12_method_1_code = true := by decide +kernel
set_option maxRecDepth 100000 in
theorem ok_198 : (ck pft pfn (look2 cl_198) ppl pmk 11 false 1 tr_198 0 0 0 0).isSome = true := by decide +kernel
set_option maxRecDepth 100000 in
theorem mk_198 : MOK1 198 mr_198 := mok_mk ⟨"GatedPileModel", "packed", "(Ljava/lang/String;)J"⟩ prog_12_method_1_code _ 0 11 "GatedPileModel" cl_198 false rfl rfl rfl rfl dk_198 (by decide +kernel) (by decide +kernel) (by decide +kernel) ok_198 (plainFor_of_name (by decide +kernel)) (fun z => absurd z (by decide))
/-- GatedPileModel.symbol(I)I -/
def cl_199 : xCl := [(8, [(0, .iload_n 0, 1), (1, .invokestatic 19, 3), (4, .ifCond .eq 12, 3), (7, .iload_n 0, 1)]), (13, [(8, .bipush 97, 2), (10, .isub, 1), (11, .iconst 1, 1), (12, .iadd, 1)]), (20, [(13, .goto 10, 3), (16, .iload_n 0, 1), (17, .bipush 48, 2), (19, .isub, 1)]), (100000, [(20, .bipush 27, 2), (22, .iadd, 1), (23, .ireturn, 1)])]
set_option maxRecDepth 100000 in
theorem dk_199 : dkA cl_199 prog_12_method_2_code = true := by decide +kernel
set_option maxRecDepth 100000 in
theorem ok_199 : (ck pft pfn (look2 cl_199) ppl pmk 11 false 0 tr_199 0 0 0 0).isSome = true := by decide +kernel
set_option maxRecDepth 100000 in
theorem mk_199 : MOK1 199 mr_199 := mok_mk ⟨"GatedPileModel", "symbol", "(I)I"⟩ prog_12_method_2_code _ 0 11 "GatedPileModel" cl_199 false rfl rfl rfl rfl dk_199 (by decide +kernel) (by decide +kernel) (by decide +kernel) ok_199 (plainFor_of_name (by decide +kernel)) (fun z => absurd z (by decide))
/-- GatedPileModel.isLetter(I)Z -/
def cl_200 : xCl := [(7, [(0, .iload_n 0, 1), (1, .bipush 97, 2), (3, .if_icmp .lt 13, 3), (6, .iload_n 0, 1)]), (16, [(7, .bipush 122, 2), (9, .if_icmp .gt 7, 3), (12, .iconst 1, 1), (13, .goto 4, 3)]), (100000, [(16, .iconst 0, 1), (17, .ireturn, 1)])]
set_option maxRecDepth 100000 in
theorem dk_200 : dkA cl_200 prog_12_method_3_code = true := by decide +kernel
set_option maxRecDepth 100000 in
theorem ok_200 : (ck pft pfn (look2 cl_200) ppl pmk 11 false 3 tr_200 0 0 0 0).isSome = true := by decide +kernel
set_option maxRecDepth 100000 in
theorem mk_200 : MOK1 200 mr_200 := mok_mk ⟨"GatedPileModel", "isLetter", "(I)Z"⟩ prog_12_method_3_code _ 0 11 "GatedPileModel" cl_200 false rfl rfl rfl rfl dk_200 (by decide +kernel) (by decide +kernel) (by decide +kernel) ok_200 (plainFor_of_name (by decide +kernel)) (fun z => absurd z (by decide))
/-- GatedPileModel.isDigit(I)Z -/
def cl_201 : xCl := [(7, [(0, .iload_n 0, 1), (1, .bipush 48, 2), (3, .if_icmp .lt 13, 3), (6, .iload_n 0, 1)]), (16, [(7, .bipush 57, 2), (9, .if_icmp .gt 7, 3), (12, .iconst 1, 1), (13, .goto 4, 3)]), (100000, [(16, .iconst 0, 1), (17, .ireturn, 1)])]
set_option maxRecDepth 100000 in
theorem dk_201 : dkA cl_201 prog_12_method_4_code = true := by decide +kernel
set_option maxRecDepth 100000 in
theorem ok_201 : (ck pft pfn (look2 cl_201) ppl pmk 11 false 3 tr_201 0 0 0 0).isSome = true := by decide +kernel
set_option maxRecDepth 100000 in
theorem mk_201 : MOK1 201 mr_201 := mok_mk ⟨"GatedPileModel", "isDigit", "(I)Z"⟩ prog_12_method_4_code _ 0 11 "GatedPileModel" cl_201 false rfl rfl rfl rfl dk_201 (by decide +kernel) (by decide +kernel) (by decide +kernel) ok_201 (plainFor_of_name (by decide +kernel)) (fun z => absurd z (by decide))
/-- GatedPileModel.at(I)I -/
def cl_202 : xCl := [(8, [(0, .iload_n 1, 1), (1, .aload_n 0, 1), (2, .getfield 23, 3), (5, .if_icmp .ge 12, 3)]), (14, [(8, .aload_n 0, 1), (9, .getfield 26, 3), (12, .iload_n 1, 1), (13, .iaload, 1)]), (100000, [(14, .goto 4, 3), (17, .iconst (-1), 1), (18, .ireturn, 1)])]
set_option maxRecDepth 100000 in
theorem dk_202 : dkA cl_202 prog_12_method_5_code = true := by decide +kernel
set_option maxRecDepth 100000 in
theorem ok_202 : (ck pft pfn (look2 cl_202) ppl pmk 11 false 0 tr_202 0 0 0 0).isSome = true := by decide +kernel
set_option maxRecDepth 100000 in
theorem mk_202 : MOK1 202 mr_202 := mok_mk ⟨"GatedPileModel", "at", "(I)I"⟩ prog_12_method_5_code _ 1 11 "GatedPileModel" cl_202 false rfl rfl rfl rfl dk_202 (by decide +kernel) (by decide +kernel) (by decide +kernel) ok_202 (plainFor_of_name (by decide +kernel)) (fun _ => ⟨11, _, rfl, rfl, rfl⟩)
/-- GatedPileModel.token(IIJ)V -/
def cl_203 : xCl := [(9, [(0, .aload_n 0, 1), (1, .getfield 30, 3), (4, .aload_n 0, 1), (5, .getfield 33, 3), (8, .iload_n 1, 1)]), (18, [(9, .iastore, 1), (10, .aload_n 0, 1), (11, .getfield 36, 3), (14, .aload_n 0, 1), (15, .getfield 33, 3)]), (25, [(18, .iload_n 2, 1), (19, .iastore, 1), (20, .aload_n 0, 1), (21, .getfield 39, 3), (24, .aload_n 0, 1)]), (32, [(25, .getfield 33, 3), (28, .lload_n 3, 1), (29, .lastore, 1), (30, .aload_n 0, 1), (31, .dup, 1)]), (100000, [(32, .getfield 33, 3), (35, .iconst 1, 1), (36, .iadd, 1), (37, .putfield 33, 3), (40, .return_, 1)])]
set_option maxRecDepth 100000 in
theorem dk_203 : dkA cl_203 prog_12_method_6_code = true := by decide +kernel
set_option maxRecDepth 100000 in
theorem ok_203 : (ck pft pfn (look2 cl_203) ppl pmk 11 false 9 tr_203 0 0 0 0).isSome = true := by decide +kernel
set_option maxRecDepth 100000 in
theorem mk_203 : MOK1 203 mr_203 := mok_mk ⟨"GatedPileModel", "token", "(IIJ)V"⟩ prog_12_method_6_code _ 1 11 "GatedPileModel" cl_203 false rfl rfl rfl rfl dk_203 (by decide +kernel) (by decide +kernel) (by decide +kernel) ok_203 (plainFor_of_name (by decide +kernel)) (fun _ => ⟨11, _, rfl, rfl, rfl⟩)
set_option maxRecDepth 100000 in
theorem ma_5 : AllM 175 ml_5 := AllM_cons mk_175 (AllM_cons mk_176 (AllM_cons mk_177 (AllM_cons mk_178 (AllM_cons mk_179 (AllM_cons mk_180 (AllM_cons mk_181 (AllM_cons mk_182 (AllM_cons mk_183 (AllM_cons mk_184 (AllM_cons mk_185 (AllM_cons mk_186 (AllM_cons mk_187 (AllM_cons mk_188 (AllM_cons mk_189 (AllM_cons mk_190 (AllM_cons mk_191 (AllM_cons mk_192 (AllM_cons mk_193 (AllM_cons mk_194 (AllM_cons mk_195 (AllM_cons mk_196 (AllM_cons mk_197 (AllM_cons mk_198 (AllM_cons mk_199 (AllM_cons mk_200 (AllM_cons mk_201 (AllM_cons mk_202 (AllM_cons mk_203 (AllM_nil _)))))))))))))))))))))))))))))
