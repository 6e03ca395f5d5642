/-- GatedPileModel.keep(I)V -/
def cl_256 : xCl := [(24, [(0, .aload_n 0, 1), (1, .iconst 1, 1), (2, .putfield 510, 3), (5, .aload_n 0, 1), (6, .aload_n 0, 1), (7, .getfield 307, 3), (10, .putfield 513, 3), (13, .iconst 0, 1), (14, .istore_n 2, 1), (15, .iload_n 2, 1), (16, .aload_n 0, 1), (17, .getfield 307, 3), (20, .if_icmp .ge 75, 3), (23, .aload_n 0, 1)]), (46, [(24, .getfield 351, 3), (27, .iload_n 2, 1), (28, .aload_n 0, 1), (29, .getfield 310, 3), (32, .iload_n 2, 1), (33, .iaload, 1), (34, .iastore, 1), (35, .aload_n 0, 1), (36, .getfield 354, 3), (39, .iload_n 2, 1), (40, .aload_n 0, 1), (41, .getfield 313, 3), (44, .iload_n 2, 1), (45, .iaload, 1)]), (70, [(46, .iastore, 1), (47, .aload_n 0, 1), (48, .getfield 357, 3), (51, .iload_n 2, 1), (52, .aload_n 0, 1), (53, .getfield 316, 3), (56, .iload_n 2, 1), (57, .iaload, 1), (58, .ifCond .ge 7, 3), (61, .iconst (-1), 1), (62, .goto 14, 3), (65, .aload_n 0, 1), (66, .getfield 304, 3), (69, .aload_n 0, 1)]), (92, [(70, .getfield 316, 3), (73, .iload_n 2, 1), (74, .iaload, 1), (75, .iaload, 1), (76, .iastore, 1), (77, .aload_n 0, 1), (78, .getfield 360, 3), (81, .iload_n 2, 1), (82, .aload_n 0, 1), (83, .getfield 348, 3), (86, .iload_n 2, 1), (87, .iaload, 1), (88, .iastore, 1), (89, .iinc 2 1, 3)]), (116, [(92, .goto (-77), 3), (95, .aload_n 0, 1), (96, .aload_n 0, 1), (97, .getfield 140, 3), (100, .putfield 516, 3), (103, .aload_n 0, 1), (104, .aload_n 0, 1), (105, .getfield 137, 3), (108, .iconst 1, 1), (109, .isub, 1), (110, .putfield 519, 3), (113, .iconst 0, 1), (114, .istore_n 2, 1), (115, .iload_n 2, 1)]), (140, [(116, .aload_n 0, 1), (117, .getfield 140, 3), (120, .if_icmp .ge 128, 3), (123, .aload_n 0, 1), (124, .getfield 363, 3), (127, .iload_n 2, 1), (128, .aload_n 0, 1), (129, .getfield 187, 3), (132, .iload_n 2, 1), (133, .iaload, 1), (134, .iastore, 1), (135, .aload_n 0, 1), (136, .getfield 366, 3), (139, .iload_n 2, 1)]), (162, [(140, .aload_n 0, 1), (141, .iload_n 2, 1), (142, .invokevirtual 522, 3), (145, .iastore, 1), (146, .aload_n 0, 1), (147, .getfield 369, 3), (150, .iload_n 2, 1), (151, .aload_n 0, 1), (152, .iload_n 2, 1), (153, .invokevirtual 525, 3), (156, .iastore, 1), (157, .aload_n 0, 1), (158, .getfield 372, 3), (161, .iload_n 2, 1)]), (184, [(162, .aload_n 0, 1), (163, .getfield 331, 3), (166, .iload_n 2, 1), (167, .iaload, 1), (168, .iastore, 1), (169, .iconst 0, 1), (170, .istore_n 3, 1), (171, .iload_n 3, 1), (172, .bipush 40, 2), (174, .if_icmp .ge 21, 3), (177, .aload_n 0, 1), (178, .getfield 375, 3), (181, .bipush 40, 2), (183, .iload_n 2, 1)]), (204, [(184, .imul, 1), (185, .iload_n 3, 1), (186, .iadd, 1), (187, .iconst 0, 1), (188, .bastore, 1), (189, .iinc 3 1, 3), (192, .goto (-21), 3), (195, .aload_n 0, 1), (196, .getfield 190, 3), (199, .iload_n 2, 1), (200, .iaload, 1), (201, .istore_n 3, 1), (202, .iload_n 3, 1), (203, .aload_n 0, 1)]), (227, [(204, .getfield 190, 3), (207, .iload_n 2, 1), (208, .iaload, 1), (209, .aload_n 0, 1), (210, .getfield 199, 3), (213, .iload_n 2, 1), (214, .iaload, 1), (215, .iadd, 1), (216, .if_icmp .ge 26, 3), (219, .aload_n 0, 1), (220, .getfield 375, 3), (223, .bipush 40, 2), (225, .iload_n 2, 1), (226, .imul, 1)]), (253, [(227, .aload_n 0, 1), (228, .getfield 223, 3), (231, .iload_n 3, 1), (232, .iaload, 1), (233, .iadd, 1), (234, .iconst 1, 1), (235, .bastore, 1), (236, .iinc 3 1, 3), (239, .goto (-37), 3), (242, .iinc 2 1, 3), (245, .goto (-130), 3), (248, .aload_n 0, 1), (249, .iload_n 1, 1), (250, .putfield 528, 3)]), (277, [(253, .aload_n 0, 1), (254, .aload_n 0, 1), (255, .getfield 504, 3), (258, .putfield 498, 3), (261, .iconst 0, 1), (262, .istore_n 2, 1), (263, .iload_n 2, 1), (264, .aload_n 0, 1), (265, .getfield 504, 3), (268, .if_icmp .ge 21, 3), (271, .aload_n 0, 1), (272, .getfield 379, 3), (275, .iload_n 2, 1), (276, .aload_n 0, 1)]), (305, [(277, .getfield 386, 3), (280, .iload_n 2, 1), (281, .iaload, 1), (282, .iastore, 1), (283, .iinc 2 1, 3), (286, .goto (-23), 3), (289, .aload_n 0, 1), (290, .aload_n 0, 1), (291, .getfield 507, 3), (294, .putfield 531, 3), (297, .aload_n 0, 1), (298, .aload_n 0, 1), (299, .getfield 134, 3), (302, .putfield 534, 3)]), (327, [(305, .iconst 0, 1), (306, .istore_n 2, 1), (307, .iload_n 2, 1), (308, .aload_n 0, 1), (309, .getfield 134, 3), (312, .if_icmp .ge 21, 3), (315, .aload_n 0, 1), (316, .getfield 382, 3), (319, .iload_n 2, 1), (320, .aload_n 0, 1), (321, .getfield 162, 3), (324, .iload_n 2, 1), (325, .iaload, 1), (326, .iastore, 1)]), (100000, [(327, .iinc 2 1, 3), (330, .goto (-23), 3), (333, .return_, 1)])]
set_option maxRecDepth 100000 in
theorem dk_256 : dkA cl_256 prog_12_method_59_code = true := by decide +kernel
set_option maxRecDepth 100000 in
theorem ok_256 : (ck pft pfn (look2 cl_256) ppl pmk 11 false 9 tr_256 0 0 0 0).isSome = true := by decide +kernel
set_option maxRecDepth 100000 in
theorem mk_256 : MOK1 256 mr_256 := mok_mk ⟨"GatedPileModel", "keep", "(I)V"⟩ prog_12_method_59_code _ 1 11 "GatedPileModel" cl_256 false rfl rfl rfl rfl dk_256 (by decide +kernel) (by decide +kernel) (by decide +kernel) ok_256 (plainFor_of_name (by decide +kernel)) (fun _ => ⟨11, _, rfl, rfl, rfl⟩)
/-- GatedPileModel.w(IIIII)V -/
def cl_257 : xCl := [(9, [(0, .aload_n 0, 1), (1, .getfield 386, 3), (4, .aload_n 0, 1), (5, .getfield 504, 3), (8, .iload_n 1, 1)]), (16, [(9, .bipush 12, 2), (11, .ishl, 1), (12, .iload_n 2, 1), (13, .bipush 9, 2), (15, .ishl, 1)]), (22, [(16, .ior, 1), (17, .iload_n 3, 1), (18, .bipush 6, 2), (20, .ishl, 1), (21, .ior, 1)]), (29, [(22, .iload 4, 2), (24, .iconst 3, 1), (25, .ishl, 1), (26, .ior, 1), (27, .iload 5, 2)]), (36, [(29, .ior, 1), (30, .iastore, 1), (31, .aload_n 0, 1), (32, .dup, 1), (33, .getfield 504, 3)]), (100000, [(36, .iconst 1, 1), (37, .iadd, 1), (38, .putfield 504, 3), (41, .return_, 1)])]
set_option maxRecDepth 100000 in
theorem dk_257 : dkA cl_257 prog_12_method_60_code = true := by decide +kernel
set_option maxRecDepth 100000 in
theorem ok_257 : (ck pft pfn (look2 cl_257) ppl pmk 11 false 9 tr_257 0 0 0 0).isSome = true := by decide +kernel
set_option maxRecDepth 100000 in
theorem mk_257 : MOK1 257 mr_257 := mok_mk ⟨"GatedPileModel", "w", "(IIIII)V"⟩ prog_12_method_60_code _ 1 11 "GatedPileModel" cl_257 false rfl rfl rfl rfl dk_257 (by decide +kernel) (by decide +kernel) (by decide +kernel) ok_257 (plainFor_of_name (by decide +kernel)) (fun _ => ⟨11, _, rfl, rfl, rfl⟩)
/-- GatedPileModel.w3(IIII)V -/
def cl_258 : xCl := [(4, [(0, .aload_n 0, 1), (1, .iload_n 1, 1), (2, .iload_n 2, 1), (3, .iload_n 3, 1)]), (100000, [(4, .iload 4, 2), (6, .iconst 0, 1), (7, .invokevirtual 537, 3), (10, .return_, 1)])]
set_option maxRecDepth 100000 in
theorem dk_258 : dkA cl_258 prog_12_method_61_code = true := by decide +kernel
set_option maxRecDepth 100000 in
theorem ok_258 : (ck pft pfn (look2 cl_258) ppl pmk 11 false 9 tr_258 0 0 0 0).isSome = true := by decide +kernel
set_option maxRecDepth 100000 in
theorem mk_258 : MOK1 258 mr_258 := mok_mk ⟨"GatedPileModel", "w3", "(IIII)V"⟩ prog_12_method_61_code _ 1 11 "GatedPileModel" cl_258 false rfl rfl rfl rfl dk_258 (by decide +kernel) (by decide +kernel) (by decide +kernel) ok_258 (plainFor_of_name (by decide +kernel)) (fun _ => ⟨11, _, rfl, rfl, rfl⟩)
/-- GatedPileModel.w6(IIII)V -/
def cl_259 : xCl := [(4, [(0, .aload_n 0, 1), (1, .iload_n 1, 1), (2, .iload_n 2, 1), (3, .iload_n 3, 1)]), (10, [(4, .iconst 0, 1), (5, .iload 4, 2), (7, .bipush 63, 2), (9, .iand, 1)]), (100000, [(10, .invokevirtual 537, 3), (13, .return_, 1)])]
set_option maxRecDepth 100000 in
theorem dk_259 : dkA cl_259 prog_12_method_62_code = true := by decide +kernel
set_option maxRecDepth 100000 in
theorem ok_259 : (ck pft pfn (look2 cl_259) ppl pmk 11 false 9 tr_259 0 0 0 0).isSome = true := by decide +kernel
set_option maxRecDepth 100000 in
theorem mk_259 : MOK1 259 mr_259 := mok_mk ⟨"GatedPileModel", "w6", "(IIII)V"⟩ prog_12_method_62_code _ 1 11 "GatedPileModel" cl_259 false rfl rfl rfl rfl dk_259 (by decide +kernel) (by decide +kernel) (by decide +kernel) ok_259 (plainFor_of_name (by decide +kernel)) (fun _ => ⟨11, _, rfl, rfl, rfl⟩)
/-- GatedPileModel.w9(III)V -/
def cl_260 : xCl := [(4, [(0, .aload_n 0, 1), (1, .iload_n 1, 1), (2, .iload_n 2, 1), (3, .iconst 0, 1)]), (10, [(4, .iconst 0, 1), (5, .iload_n 3, 1), (6, .sipush 511, 3), (9, .iand, 1)]), (100000, [(10, .invokevirtual 537, 3), (13, .return_, 1)])]
set_option maxRecDepth 100000 in
theorem dk_260 : dkA cl_260 prog_12_method_63_code = true := by decide +kernel
set_option maxRecDepth 100000 in
theorem ok_260 : (ck pft pfn (look2 cl_260) ppl pmk 11 false 9 tr_260 0 0 0 0).isSome = true := by decide +kernel
set_option maxRecDepth 100000 in
theorem mk_260 : MOK1 260 mr_260 := mok_mk ⟨"GatedPileModel", "w9", "(III)V"⟩ prog_12_method_63_code _ 1 11 "GatedPileModel" cl_260 false rfl rfl rfl rfl dk_260 (by decide +kernel) (by decide +kernel) (by decide +kernel) ok_260 (plainFor_of_name (by decide +kernel)) (fun _ => ⟨11, _, rfl, rfl, rfl⟩)
/-- GatedPileModel.li(II)V -/
def cl_261 : xCl := [(5, [(0, .aload_n 0, 1), (1, .bipush 6, 2), (3, .iload_n 1, 1), (4, .iload_n 2, 1)]), (100000, [(5, .invokevirtual 541, 3), (8, .return_, 1)])]
set_option maxRecDepth 100000 in
theorem dk_261 : dkA cl_261 prog_12_method_64_code = true := by decide +kernel
set_option maxRecDepth 100000 in
theorem ok_261 : (ck pft pfn (look2 cl_261) ppl pmk 11 false 9 tr_261 0 0 0 0).isSome = true := by decide +kernel
set_option maxRecDepth 100000 in
theorem mk_261 : MOK1 261 mr_261 := mok_mk ⟨"GatedPileModel", "li", "(II)V"⟩ prog_12_method_64_code _ 1 11 "GatedPileModel" cl_261 false rfl rfl rfl rfl dk_261 (by decide +kernel) (by decide +kernel) (by decide +kernel) ok_261 (plainFor_of_name (by decide +kernel)) (fun _ => ⟨11, _, rfl, rfl, rfl⟩)
/-- GatedPileModel.jz(II)V -/
def cl_262 : xCl := [(5, [(0, .aload_n 0, 1), (1, .bipush 11, 2), (3, .iload_n 1, 1), (4, .iload_n 2, 1)]), (100000, [(5, .invokevirtual 541, 3), (8, .return_, 1)])]
set_option maxRecDepth 100000 in
theorem dk_262 : dkA cl_262 prog_12_method_65_code = true := by decide +kernel
set_option maxRecDepth 100000 in
theorem ok_262 : (ck pft pfn (look2 cl_262) ppl pmk 11 false 9 tr_262 0 0 0 0).isSome = true := by decide +kernel
set_option maxRecDepth 100000 in
theorem mk_262 : MOK1 262 mr_262 := mok_mk ⟨"GatedPileModel", "jz", "(II)V"⟩ prog_12_method_65_code _ 1 11 "GatedPileModel" cl_262 false rfl rfl rfl rfl dk_262 (by decide +kernel) (by decide +kernel) (by decide +kernel) ok_262 (plainFor_of_name (by decide +kernel)) (fun _ => ⟨11, _, rfl, rfl, rfl⟩)
/-- GatedPileModel.jn(II)V -/
def cl_263 : xCl := [(5, [(0, .aload_n 0, 1), (1, .bipush 12, 2), (3, .iload_n 1, 1), (4, .iload_n 2, 1)]), (100000, [(5, .invokevirtual 541, 3), (8, .return_, 1)])]
set_option maxRecDepth 100000 in
theorem dk_263 : dkA cl_263 prog_12_method_66_code = true := by decide +kernel
set_option maxRecDepth 100000 in
theorem ok_263 : (ck pft pfn (look2 cl_263) ppl pmk 11 false 9 tr_263 0 0 0 0).isSome = true := by decide +kernel
set_option maxRecDepth 100000 in
theorem mk_263 : MOK1 263 mr_263 := mok_mk ⟨"GatedPileModel", "jn", "(II)V"⟩ prog_12_method_66_code _ 1 11 "GatedPileModel" cl_263 false rfl rfl rfl rfl dk_263 (by decide +kernel) (by decide +kernel) (by decide +kernel) ok_263 (plainFor_of_name (by decide +kernel)) (fun _ => ⟨11, _, rfl, rfl, rfl⟩)
/-- GatedPileModel.jump(I)V -/
def cl_264 : xCl := [(5, [(0, .aload_n 0, 1), (1, .bipush 14, 2), (3, .iconst 0, 1), (4, .iconst 0, 1)]), (11, [(5, .iconst 0, 1), (6, .iload_n 1, 1), (7, .sipush 4095, 3), (10, .iand, 1)]), (100000, [(11, .invokevirtual 537, 3), (14, .return_, 1)])]
set_option maxRecDepth 100000 in
theorem dk_264 : dkA cl_264 prog_12_method_67_code = true := by decide +kernel
set_option maxRecDepth 100000 in
theorem ok_264 : (ck pft pfn (look2 cl_264) ppl pmk 11 false 9 tr_264 0 0 0 0).isSome = true := by decide +kernel
set_option maxRecDepth 100000 in
theorem mk_264 : MOK1 264 mr_264 := mok_mk ⟨"GatedPileModel", "jump", "(I)V"⟩ prog_12_method_67_code _ 1 11 "GatedPileModel" cl_264 false rfl rfl rfl rfl dk_264 (by decide +kernel) (by decide +kernel) (by decide +kernel) ok_264 (plainFor_of_name (by decide +kernel)) (fun _ => ⟨11, _, rfl, rfl, rfl⟩)
/-- GatedPileModel.place(II)V -/
def cl_265 : xCl := [(5, [(0, .aload_n 0, 1), (1, .bipush 6, 2), (3, .iload_n 1, 1), (4, .iload_n 2, 1)]), (13, [(5, .sipush 255, 3), (8, .iand, 1), (9, .invokevirtual 541, 3), (12, .aload_n 0, 1)]), (19, [(13, .bipush 7, 2), (15, .iload_n 1, 1), (16, .iload_n 2, 1), (17, .bipush 8, 2)]), (27, [(19, .ishr, 1), (20, .sipush 255, 3), (23, .iand, 1), (24, .invokevirtual 541, 3)]), (100000, [(27, .return_, 1)])]
set_option maxRecDepth 100000 in
theorem dk_265 : dkA cl_265 prog_12_method_68_code = true := by decide +kernel
set_option maxRecDepth 100000 in
theorem ok_265 : (ck pft pfn (look2 cl_265) ppl pmk 11 false 9 tr_265 0 0 0 0).isSome = true := by decide +kernel
set_option maxRecDepth 100000 in
theorem mk_265 : MOK1 265 mr_265 := mok_mk ⟨"GatedPileModel", "place", "(II)V"⟩ prog_12_method_68_code _ 1 11 "GatedPileModel" cl_265 false rfl rfl rfl rfl dk_265 (by decide +kernel) (by decide +kernel) (by decide +kernel) ok_265 (plainFor_of_name (by decide +kernel)) (fun _ => ⟨11, _, rfl, rfl, rfl⟩)
/-- GatedPileModel.placeOf(II)V -/
def cl_266 : xCl := [(8, [(0, .aload_n 0, 1), (1, .getfield 399, 3), (4, .aload_n 0, 1), (5, .getfield 544, 3)]), (14, [(8, .aload_n 0, 1), (9, .getfield 504, 3), (12, .iastore, 1), (13, .aload_n 0, 1)]), (22, [(14, .getfield 402, 3), (17, .aload_n 0, 1), (18, .getfield 544, 3), (21, .iload_n 2, 1)]), (28, [(22, .iastore, 1), (23, .aload_n 0, 1), (24, .dup, 1), (25, .getfield 544, 3)]), (34, [(28, .iconst 1, 1), (29, .iadd, 1), (30, .putfield 544, 3), (33, .aload_n 0, 1)]), (100000, [(34, .iload_n 1, 1), (35, .iconst 0, 1), (36, .invokevirtual 547, 3), (39, .return_, 1)])]
set_option maxRecDepth 100000 in
theorem dk_266 : dkA cl_266 prog_12_method_69_code = true := by decide +kernel
set_option maxRecDepth 100000 in
theorem ok_266 : (ck pft pfn (look2 cl_266) ppl pmk 11 false 9 tr_266 0 0 0 0).isSome = true := by decide +kernel
set_option maxRecDepth 100000 in
theorem mk_266 : MOK1 266 mr_266 := mok_mk ⟨"GatedPileModel", "placeOf", "(II)V"⟩ prog_12_method_69_code _ 1 11 "GatedPileModel" cl_266 false rfl rfl rfl rfl dk_266 (by decide +kernel) (by decide +kernel) (by decide +kernel) ok_266 (plainFor_of_name (by decide +kernel)) (fun _ => ⟨11, _, rfl, rfl, rfl⟩)
/-- GatedPileModel.constant(II)V -/
def cl_267 : xCl := [(8, [(0, .iload_n 2, 1), (1, .sipush (-256), 3), (4, .if_icmp .lt 19, 3), (7, .iload_n 2, 1)]), (16, [(8, .sipush 255, 3), (11, .if_icmp .gt 12, 3), (14, .aload_n 0, 1), (15, .iload_n 1, 1)]), (24, [(16, .iload_n 2, 1), (17, .invokevirtual 549, 3), (20, .goto 9, 3), (23, .aload_n 0, 1)]), (100000, [(24, .iload_n 1, 1), (25, .iload_n 2, 1), (26, .invokevirtual 547, 3), (29, .return_, 1)])]
set_option maxRecDepth 100000 in
theorem dk_267 : dkA cl_267 prog_12_method_70_code = true := by decide +kernel
set_option maxRecDepth 100000 in
theorem ok_267 : (ck pft pfn (look2 cl_267) ppl pmk 11 false 9 tr_267 0 0 0 0).isSome = true := by decide +kernel
set_option maxRecDepth 100000 in
theorem mk_267 : MOK1 267 mr_267 := mok_mk ⟨"GatedPileModel", "constant", "(II)V"⟩ prog_12_method_70_code _ 1 11 "GatedPileModel" cl_267 false rfl rfl rfl rfl dk_267 (by decide +kernel) (by decide +kernel) (by decide +kernel) ok_267 (plainFor_of_name (by decide +kernel)) (fun _ => ⟨11, _, rfl, rfl, rfl⟩)
/-- GatedPileModel.on(I)V -/
def cl_268 : xCl := [(6, [(0, .aload_n 0, 1), (1, .bipush 9, 2), (3, .iload_n 1, 1), (4, .bipush 7, 2)]), (13, [(6, .iconst 0, 1), (7, .invokevirtual 552, 3), (10, .aload_n 0, 1), (11, .bipush 10, 2)]), (21, [(13, .bipush 7, 2), (15, .bipush 7, 2), (17, .iconst 1, 1), (18, .invokevirtual 552, 3)]), (100000, [(21, .return_, 1)])]
set_option maxRecDepth 100000 in
theorem dk_268 : dkA cl_268 prog_12_method_71_code = true := by decide +kernel
set_option maxRecDepth 100000 in
theorem ok_268 : (ck pft pfn (look2 cl_268) ppl pmk 11 false 9 tr_268 0 0 0 0).isSome = true := by decide +kernel
set_option maxRecDepth 100000 in
theorem mk_268 : MOK1 268 mr_268 := mok_mk ⟨"GatedPileModel", "on", "(I)V"⟩ prog_12_method_71_code _ 1 11 "GatedPileModel" cl_268 false rfl rfl rfl rfl dk_268 (by decide +kernel) (by decide +kernel) (by decide +kernel) ok_268 (plainFor_of_name (by decide +kernel)) (fun _ => ⟨11, _, rfl, rfl, rfl⟩)
/-- GatedPileModel.off(I)V -/
def cl_269 : xCl := [(7, [(0, .aload_n 0, 1), (1, .bipush 10, 2), (3, .bipush 7, 2), (5, .bipush 7, 2)]), (14, [(7, .iconst (-1), 1), (8, .invokevirtual 552, 3), (11, .aload_n 0, 1), (12, .bipush 8, 2)]), (21, [(14, .iload_n 1, 1), (15, .bipush 7, 2), (17, .iconst 0, 1), (18, .invokevirtual 552, 3)]), (100000, [(21, .return_, 1)])]
set_option maxRecDepth 100000 in
theorem dk_269 : dkA cl_269 prog_12_method_72_code = true := by decide +kernel
set_option maxRecDepth 100000 in
theorem ok_269 : (ck pft pfn (look2 cl_269) ppl pmk 11 false 9 tr_269 0 0 0 0).isSome = true := by decide +kernel
set_option maxRecDepth 100000 in
theorem mk_269 : MOK1 269 mr_269 := mok_mk ⟨"GatedPileModel", "off", "(I)V"⟩ prog_12_method_72_code _ 1 11 "GatedPileModel" cl_269 false rfl rfl rfl rfl dk_269 (by decide +kernel) (by decide +kernel) (by decide +kernel) ok_269 (plainFor_of_name (by decide +kernel)) (fun _ => ⟨11, _, rfl, rfl, rfl⟩)
/-- GatedPileModel.link()V -/
def cl_270 : xCl := [(5, [(0, .aload_n 0, 1), (1, .bipush 13, 2), (3, .iconst 5, 1), (4, .iconst 5, 1)]), (100000, [(5, .iconst 0, 1), (6, .invokevirtual 556, 3), (9, .return_, 1)])]
set_option maxRecDepth 100000 in
theorem dk_270 : dkA cl_270 prog_12_method_73_code = true := by decide +kernel
set_option maxRecDepth 100000 in
theorem ok_270 : (ck pft pfn (look2 cl_270) ppl pmk 11 false 9 tr_270 0 0 0 0).isSome = true := by decide +kernel
set_option maxRecDepth 100000 in
theorem mk_270 : MOK1 270 mr_270 := mok_mk ⟨"GatedPileModel", "link", "()V"⟩ prog_12_method_73_code _ 1 11 "GatedPileModel" cl_270 false rfl rfl rfl rfl dk_270 (by decide +kernel) (by decide +kernel) (by decide +kernel) ok_270 (plainFor_of_name (by decide +kernel)) (fun _ => ⟨11, _, rfl, rfl, rfl⟩)
/-- GatedPileModel.goSize()I -/
def cl_271 : xCl := [(8, [(0, .aload_n 0, 1), (1, .getfield 396, 3), (4, .aload_n 0, 1), (5, .getfield 559, 3)]), (16, [(8, .baload, 1), (9, .ifCond .eq 7, 3), (12, .iconst 3, 1), (13, .goto 4, 3)]), (100000, [(16, .iconst 1, 1), (17, .ireturn, 1)])]
set_option maxRecDepth 100000 in
theorem dk_271 : dkA cl_271 prog_12_method_74_code = true := by decide +kernel
set_option maxRecDepth 100000 in
theorem ok_271 : (ck pft pfn (look2 cl_271) ppl pmk 11 false 0 tr_271 0 0 0 0).isSome = true := by decide +kernel
set_option maxRecDepth 100000 in
theorem mk_271 : MOK1 271 mr_271 := mok_mk ⟨"GatedPileModel", "goSize", "()I"⟩ prog_12_method_74_code _ 1 11 "GatedPileModel" cl_271 false rfl rfl rfl rfl dk_271 (by decide +kernel) (by decide +kernel) (by decide +kernel) ok_271 (plainFor_of_name (by decide +kernel)) (fun _ => ⟨11, _, rfl, rfl, rfl⟩)
/-- GatedPileModel.go(I)V -/
def cl_272 : xCl := [(12, [(0, .aload_n 0, 1), (1, .getfield 390, 3), (4, .aload_n 0, 1), (5, .getfield 559, 3), (8, .aload_n 0, 1), (9, .getfield 504, 3)]), (22, [(12, .iastore, 1), (13, .aload_n 0, 1), (14, .getfield 393, 3), (17, .aload_n 0, 1), (18, .getfield 559, 3), (21, .aload_n 0, 1)]), (32, [(22, .getfield 304, 3), (25, .iload_n 1, 1), (26, .iaload, 1), (27, .iastore, 1), (28, .aload_n 0, 1), (29, .getfield 396, 3)]), (42, [(32, .aload_n 0, 1), (33, .getfield 559, 3), (36, .baload, 1), (37, .ifCond .eq 16, 3), (40, .aload_n 0, 1), (41, .iconst 5, 1)]), (54, [(42, .iconst 0, 1), (43, .invokevirtual 547, 3), (46, .aload_n 0, 1), (47, .invokevirtual 562, 3), (50, .goto 8, 3), (53, .aload_n 0, 1)]), (64, [(54, .iconst 0, 1), (55, .invokevirtual 565, 3), (58, .aload_n 0, 1), (59, .dup, 1), (60, .getfield 559, 3), (63, .iconst 1, 1)]), (100000, [(64, .iadd, 1), (65, .putfield 559, 3), (68, .return_, 1)])]
set_option maxRecDepth 100000 in
theorem dk_272 : dkA cl_272 prog_12_method_75_code = true := by decide +kernel
set_option maxRecDepth 100000 in
theorem ok_272 : (ck pft pfn (look2 cl_272) ppl pmk 11 false 9 tr_272 0 0 0 0).isSome = true := by decide +kernel
set_option maxRecDepth 100000 in
theorem mk_272 : MOK1 272 mr_272 := mok_mk ⟨"GatedPileModel", "go", "(I)V"⟩ prog_12_method_75_code _ 1 11 "GatedPileModel" cl_272 false rfl rfl rfl rfl dk_272 (by decide +kernel) (by decide +kernel) (by decide +kernel) ok_272 (plainFor_of_name (by decide +kernel)) (fun _ => ⟨11, _, rfl, rfl, rfl⟩)
/-- GatedPileModel.fail(II)V -/
def cl_273 : xCl := [(6, [(0, .aload_n 0, 1), (1, .iconst 4, 1), (2, .iload_n 1, 1), (3, .invokevirtual 549, 3)]), (100000, [(6, .aload_n 0, 1), (7, .iload_n 2, 1), (8, .invokevirtual 568, 3), (11, .return_, 1)])]
set_option maxRecDepth 100000 in
theorem dk_273 : dkA cl_273 prog_12_method_76_code = true := by decide +kernel
set_option maxRecDepth 100000 in
theorem ok_273 : (ck pft pfn (look2 cl_273) ppl pmk 11 false 9 tr_273 0 0 0 0).isSome = true := by decide +kernel
set_option maxRecDepth 100000 in
theorem mk_273 : MOK1 273 mr_273 := mok_mk ⟨"GatedPileModel", "fail", "(II)V"⟩ prog_12_method_76_code _ 1 11 "GatedPileModel" cl_273 false rfl rfl rfl rfl dk_273 (by decide +kernel) (by decide +kernel) (by decide +kernel) ok_273 (plainFor_of_name (by decide +kernel)) (fun _ => ⟨11, _, rfl, rfl, rfl⟩)
/-- GatedPileModel.skipFail(II)V -/
def cl_274 : xCl := [(6, [(0, .aload_n 0, 1), (1, .iconst 1, 1), (2, .aload_n 0, 1), (3, .invokevirtual 571, 3)]), (12, [(6, .iadd, 1), (7, .invokevirtual 565, 3), (10, .aload_n 0, 1), (11, .iload_n 1, 1)]), (100000, [(12, .iload_n 2, 1), (13, .invokevirtual 574, 3), (16, .return_, 1)])]
set_option maxRecDepth 100000 in
theorem dk_274 : dkA cl_274 prog_12_method_77_code = true := by decide +kernel
set_option maxRecDepth 100000 in
theorem ok_274 : (ck pft pfn (look2 cl_274) ppl pmk 11 false 9 tr_274 0 0 0 0).isSome = true := by decide +kernel
set_option maxRecDepth 100000 in
theorem mk_274 : MOK1 274 mr_274 := mok_mk ⟨"GatedPileModel", "skipFail", "(II)V"⟩ prog_12_method_77_code _ 1 11 "GatedPileModel" cl_274 false rfl rfl rfl rfl dk_274 (by decide +kernel) (by decide +kernel) (by decide +kernel) ok_274 (plainFor_of_name (by decide +kernel)) (fun _ => ⟨11, _, rfl, rfl, rfl⟩)
/-- GatedPileModel.passes(I)V -/
def cl_275 : xCl := [(6, [(0, .aload_n 0, 1), (1, .iconst 4, 1), (2, .aload_n 0, 1), (3, .invokevirtual 571, 3)]), (14, [(6, .invokevirtual 577, 3), (9, .aload_n 0, 1), (10, .iload_n 1, 1), (11, .invokevirtual 568, 3)]), (100000, [(14, .return_, 1)])]
set_option maxRecDepth 100000 in
theorem dk_275 : dkA cl_275 prog_12_method_78_code = true := by decide +kernel
set_option maxRecDepth 100000 in
theorem ok_275 : (ck pft pfn (look2 cl_275) ppl pmk 11 false 9 tr_275 0 0 0 0).isSome = true := by decide +kernel
set_option maxRecDepth 100000 in
theorem mk_275 : MOK1 275 mr_275 := mok_mk ⟨"GatedPileModel", "passes", "(I)V"⟩ prog_12_method_78_code _ 1 11 "GatedPileModel" cl_275 false rfl rfl rfl rfl dk_275 (by decide +kernel) (by decide +kernel) (by decide +kernel) ok_275 (plainFor_of_name (by decide +kernel)) (fun _ => ⟨11, _, rfl, rfl, rfl⟩)
/-- GatedPileModel.lib(I)V -/
def cl_276 : xCl := [(6, [(0, .aload_n 0, 1), (1, .iconst 5, 1), (2, .iload_n 1, 1), (3, .invokevirtual 547, 3)]), (100000, [(6, .aload_n 0, 1), (7, .invokevirtual 562, 3), (10, .return_, 1)])]
set_option maxRecDepth 100000 in
theorem dk_276 : dkA cl_276 prog_12_method_79_code = true := by decide +kernel
set_option maxRecDepth 100000 in
theorem ok_276 : (ck pft pfn (look2 cl_276) ppl pmk 11 false 9 tr_276 0 0 0 0).isSome = true := by decide +kernel
set_option maxRecDepth 100000 in
theorem mk_276 : MOK1 276 mr_276 := mok_mk ⟨"GatedPileModel", "lib", "(I)V"⟩ prog_12_method_79_code _ 1 11 "GatedPileModel" cl_276 false rfl rfl rfl rfl dk_276 (by decide +kernel) (by decide +kernel) (by decide +kernel) ok_276 (plainFor_of_name (by decide +kernel)) (fun _ => ⟨11, _, rfl, rfl, rfl⟩)
/-- GatedPileModel.back(I)V -/
def cl_277 : xCl := [(7, [(0, .aload_n 0, 1), (1, .bipush 8, 2), (3, .iconst 5, 1), (4, .bipush 6, 2), (6, .aload_n 0, 1)]), (16, [(7, .getfield 187, 3), (10, .iload_n 1, 1), (11, .iaload, 1), (12, .invokevirtual 552, 3), (15, .aload_n 0, 1)]), (25, [(16, .bipush 8, 2), (18, .iconst 3, 1), (19, .bipush 6, 2), (21, .aload_n 0, 1), (22, .getfield 187, 3)]), (32, [(25, .iload_n 1, 1), (26, .iaload, 1), (27, .iconst 1, 1), (28, .iadd, 1), (29, .invokevirtual 552, 3)]), (40, [(32, .aload_n 0, 1), (33, .bipush 10, 2), (35, .bipush 7, 2), (37, .bipush 6, 2), (39, .iconst 0, 1)]), (49, [(40, .invokevirtual 552, 3), (43, .aload_n 0, 1), (44, .bipush 10, 2), (46, .bipush 6, 2), (48, .iconst 3, 1)]), (100000, [(49, .iconst 0, 1), (50, .invokevirtual 552, 3), (53, .aload_n 0, 1), (54, .invokevirtual 562, 3), (57, .return_, 1)])]
set_option maxRecDepth 100000 in
theorem dk_277 : dkA cl_277 prog_12_method_80_code = true := by decide +kernel
set_option maxRecDepth 100000 in
theorem ok_277 : (ck pft pfn (look2 cl_277) ppl pmk 11 false 9 tr_277 0 0 0 0).isSome = true := by decide +kernel
set_option maxRecDepth 100000 in
theorem mk_277 : MOK1 277 mr_277 := mok_mk ⟨"GatedPileModel", "back", "(I)V"⟩ prog_12_method_80_code _ 1 11 "GatedPileModel" cl_277 false rfl rfl rfl rfl dk_277 (by decide +kernel) (by decide +kernel) (by decide +kernel) ok_277 (plainFor_of_name (by decide +kernel)) (fun _ => ⟨11, _, rfl, rfl, rfl⟩)
/-- GatedPileModel.indexed(II)V -/
def cl_278 : xCl := [(8, [(0, .aload_n 0, 1), (1, .iconst 1, 1), (2, .aload_n 0, 1), (3, .getfield 162, 3), (6, .iload_n 1, 1), (7, .iaload, 1)]), (18, [(8, .invokevirtual 580, 3), (11, .aload_n 0, 1), (12, .iconst 0, 1), (13, .iconst 3, 1), (14, .invokevirtual 583, 3), (17, .aload_n 0, 1)]), (26, [(18, .iconst 4, 1), (19, .iconst 2, 1), (20, .iconst 0, 1), (21, .iconst 1, 1), (22, .invokevirtual 556, 3), (25, .aload_n 0, 1)]), (34, [(26, .iconst 2, 1), (27, .iconst 1, 1), (28, .invokevirtual 577, 3), (31, .aload_n 0, 1), (32, .iconst 2, 1), (33, .iload_n 2, 1)]), (43, [(34, .invokevirtual 586, 3), (37, .aload_n 0, 1), (38, .iconst 1, 1), (39, .bipush (-10), 2), (41, .iload_n 1, 1), (42, .isub, 1)]), (51, [(43, .invokevirtual 589, 3), (46, .aload_n 0, 1), (47, .iconst 0, 1), (48, .iconst 1, 1), (49, .iconst 1, 1), (50, .iconst 0, 1)]), (100000, [(51, .invokevirtual 556, 3), (54, .return_, 1)])]
set_option maxRecDepth 100000 in
theorem dk_278 : dkA cl_278 prog_12_method_81_code = true := by decide +kernel
set_option maxRecDepth 100000 in
theorem ok_278 : (ck pft pfn (look2 cl_278) ppl pmk 11 false 9 tr_278 0 0 0 0).isSome = true := by decide +kernel
set_option maxRecDepth 100000 in
theorem mk_278 : MOK1 278 mr_278 := mok_mk ⟨"GatedPileModel", "indexed", "(II)V"⟩ prog_12_method_81_code _ 1 11 "GatedPileModel" cl_278 false rfl rfl rfl rfl dk_278 (by decide +kernel) (by decide +kernel) (by decide +kernel) ok_278 (plainFor_of_name (by decide +kernel)) (fun _ => ⟨11, _, rfl, rfl, rfl⟩)
/-- GatedPileModel.lessen(I)V -/
def cl_279 : xCl := [(8, [(0, .aload_n 0, 1), (1, .iconst 1, 1), (2, .iconst 2, 1), (3, .iconst 0, 1), (4, .iconst 1, 1), (5, .invokevirtual 556, 3)]), (16, [(8, .aload_n 0, 1), (9, .iconst 3, 1), (10, .iconst 3, 1), (11, .iconst 0, 1), (12, .iconst 1, 1), (13, .invokevirtual 556, 3)]), (24, [(16, .aload_n 0, 1), (17, .iconst 3, 1), (18, .iconst 1, 1), (19, .iconst 0, 1), (20, .iconst 2, 1), (21, .invokevirtual 556, 3)]), (32, [(24, .aload_n 0, 1), (25, .iconst 2, 1), (26, .iconst 3, 1), (27, .iconst 3, 1), (28, .iconst 1, 1), (29, .invokevirtual 556, 3)]), (40, [(32, .aload_n 0, 1), (33, .iconst 3, 1), (34, .iconst 1, 1), (35, .invokevirtual 583, 3), (38, .aload_n 0, 1), (39, .iconst 1, 1)]), (100000, [(40, .iload_n 1, 1), (41, .invokevirtual 586, 3), (44, .aload_n 0, 1), (45, .iconst 2, 1), (46, .invokevirtual 592, 3), (49, .return_, 1)])]
set_option maxRecDepth 100000 in
theorem dk_279 : dkA cl_279 prog_12_method_82_code = true := by decide +kernel
set_option maxRecDepth 100000 in
theorem ok_279 : (ck pft pfn (look2 cl_279) ppl pmk 11 false 9 tr_279 0 0 0 0).isSome = true := by decide +kernel
set_option maxRecDepth 100000 in
theorem mk_279 : MOK1 279 mr_279 := mok_mk ⟨"GatedPileModel", "lessen", "(I)V"⟩ prog_12_method_82_code _ 1 11 "GatedPileModel" cl_279 false rfl rfl rfl rfl dk_279 (by decide +kernel) (by decide +kernel) (by decide +kernel) ok_279 (plainFor_of_name (by decide +kernel)) (fun _ => ⟨11, _, rfl, rfl, rfl⟩)
/-- GatedPileModel.inFrame(I)I -/
def cl_280 : xCl := [(6, [(0, .iload_n 1, 1), (1, .aload_n 0, 1), (2, .getfield 187, 3), (5, .aload_n 0, 1)]), (14, [(6, .getfield 595, 3), (9, .iaload, 1), (10, .if_icmp .ge 7, 3), (13, .iload_n 1, 1)]), (20, [(14, .goto 6, 3), (17, .iload_n 1, 1), (18, .iconst 2, 1), (19, .iadd, 1)]), (100000, [(20, .ireturn, 1)])]
set_option maxRecDepth 100000 in
theorem dk_280 : dkA cl_280 prog_12_method_83_code = true := by decide +kernel
set_option maxRecDepth 100000 in
theorem ok_280 : (ck pft pfn (look2 cl_280) ppl pmk 11 false 0 tr_280 0 0 0 0).isSome = true := by decide +kernel
set_option maxRecDepth 100000 in
theorem mk_280 : MOK1 280 mr_280 := mok_mk ⟨"GatedPileModel", "inFrame", "(I)I"⟩ prog_12_method_83_code _ 1 11 "GatedPileModel" cl_280 false rfl rfl rfl rfl dk_280 (by decide +kernel) (by decide +kernel) (by decide +kernel) ok_280 (plainFor_of_name (by decide +kernel)) (fun _ => ⟨11, _, rfl, rfl, rfl⟩)
set_option maxRecDepth 100000 in
theorem ma_9 : AllM 256 ml_9 := AllM_cons mk_256 (AllM_cons mk_257 (AllM_cons mk_258 (AllM_cons mk_259 (AllM_cons mk_260 (AllM_cons mk_261 (AllM_cons mk_262 (AllM_cons mk_263 (AllM_cons mk_264 (AllM_cons mk_265 (AllM_cons mk_266 (AllM_cons mk_267 (AllM_cons mk_268 (AllM_cons mk_269 (AllM_cons mk_270 (AllM_cons mk_271 (AllM_cons mk_272 (AllM_cons mk_273 (AllM_cons mk_274 (AllM_cons mk_275 (AllM_cons mk_276 (AllM_cons mk_277 (AllM_cons mk_278 (AllM_cons mk_279 (AllM_cons mk_280 (AllM_nil _)))))))))))))))))))))))))
