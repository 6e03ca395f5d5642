/-- GatedPileModel.fault(I)I -/
def cl_318 : xCl := [(8, [(0, .aload_n 0, 1), (1, .getfield 472, 3), (4, .ifCond .ne 7, 3), (7, .iconst (-1), 1)]), (16, [(8, .goto 27, 3), (11, .iload_n 1, 1), (12, .ifCond .ne 10, 3), (15, .aload_n 0, 1)]), (24, [(16, .getfield 75, 3), (19, .goto 16, 3), (22, .iload_n 1, 1), (23, .iconst 1, 1)]), (34, [(24, .if_icmp .ne 10, 3), (27, .aload_n 0, 1), (28, .getfield 78, 3), (31, .goto 4, 3)]), (100000, [(34, .iconst (-1), 1), (35, .ireturn, 1)])]
set_option maxRecDepth 100000 in
theorem dk_318 : dkA cl_318 prog_12_method_121_code = true := by decide +kernel
set_option maxRecDepth 100000 in
theorem ok_318 : (ck pft pfn (look2 cl_318) ppl pmk 11 false 0 tr_318 0 0 0 0).isSome = true := by decide +kernel
set_option maxRecDepth 100000 in
theorem mk_318 : MOK1 318 mr_318 := mok_mk ⟨"GatedPileModel", "fault", "(I)I"⟩ prog_12_method_121_code _ 1 11 "GatedPileModel" cl_318 false rfl rfl rfl rfl dk_318 (by decide +kernel) (by decide +kernel) (by decide +kernel) ok_318 (plainFor_of_name (by decide +kernel)) (fun _ => ⟨11, _, rfl, rfl, rfl⟩)
/-- GatedPileModel.count(I)I -/
def cl_319 : xCl := [(74, [(0, .iload_n 1, 1), (1, .tableswitch 178 0 10 #[59, 75, 91, 107, 123, 139, 148, 153, 158, 168, 173], 59), (60, .aload_n 0, 1), (61, .getfield 510, 3), (64, .ifCond .eq 10, 3), (67, .aload_n 0, 1), (68, .getfield 516, 3), (71, .goto 4, 3)]), (90, [(74, .iconst 0, 1), (75, .ireturn, 1), (76, .aload_n 0, 1), (77, .getfield 510, 3), (80, .ifCond .eq 10, 3), (83, .aload_n 0, 1), (84, .getfield 519, 3), (87, .goto 4, 3)]), (106, [(90, .iconst 0, 1), (91, .ireturn, 1), (92, .aload_n 0, 1), (93, .getfield 510, 3), (96, .ifCond .eq 10, 3), (99, .aload_n 0, 1), (100, .getfield 513, 3), (103, .goto 4, 3)]), (122, [(106, .iconst 0, 1), (107, .ireturn, 1), (108, .aload_n 0, 1), (109, .getfield 510, 3), (112, .ifCond .eq 10, 3), (115, .aload_n 0, 1), (116, .getfield 498, 3), (119, .goto 4, 3)]), (138, [(122, .iconst 0, 1), (123, .ireturn, 1), (124, .aload_n 0, 1), (125, .getfield 510, 3), (128, .ifCond .eq 10, 3), (131, .aload_n 0, 1), (132, .getfield 531, 3), (135, .goto 4, 3)]), (150, [(138, .iconst 0, 1), (139, .ireturn, 1), (140, .aload_n 0, 1), (141, .getfield 405, 3), (144, .sipush 212, 3), (147, .isub, 1), (148, .ireturn, 1), (149, .aload_n 0, 1)]), (164, [(150, .getfield 653, 3), (153, .ireturn, 1), (154, .aload_n 0, 1), (155, .getfield 469, 3), (158, .ireturn, 1), (159, .aload_n 0, 1), (160, .getfield 716, 3), (163, .aload_n 0, 1)]), (178, [(164, .getfield 713, 3), (167, .isub, 1), (168, .ireturn, 1), (169, .aload_n 0, 1), (170, .getfield 726, 3), (173, .ireturn, 1), (174, .aload_n 0, 1), (175, .getfield 739, 3)]), (100000, [(178, .ireturn, 1), (179, .iconst (-1), 1), (180, .ireturn, 1)])]
set_option maxRecDepth 100000 in
theorem dk_319 : dkA cl_319 prog_12_method_122_code = true := by decide +kernel
set_option maxRecDepth 100000 in
theorem ok_319 : (ck pft pfn (look2 cl_319) ppl pmk 11 false 0 tr_319 0 0 0 0).isSome = true := by decide +kernel
set_option maxRecDepth 100000 in
theorem mk_319 : MOK1 319 mr_319 := mok_mk ⟨"GatedPileModel", "count", "(I)I"⟩ prog_12_method_122_code _ 1 11 "GatedPileModel" cl_319 false rfl rfl rfl rfl dk_319 (by decide +kernel) (by decide +kernel) (by decide +kernel) ok_319 (plainFor_of_name (by decide +kernel)) (fun _ => ⟨11, _, rfl, rfl, rfl⟩)
/-- GatedPileModel.order(II)I -/
def cl_320 : xCl := [(11, [(0, .aload_n 0, 1), (1, .getfield 510, 3), (4, .ifCond .eq 15, 3), (7, .iload_n 1, 1), (8, .ifCond .lt 11, 3)]), (20, [(11, .iload_n 1, 1), (12, .aload_n 0, 1), (13, .getfield 513, 3), (16, .if_icmp .lt 5, 3), (19, .iconst (-1), 1)]), (56, [(20, .ireturn, 1), (21, .iload_n 2, 1), (22, .tableswitch 58 0 3 #[30, 37, 44, 51], 30), (52, .aload_n 0, 1), (53, .getfield 351, 3)]), (63, [(56, .iload_n 1, 1), (57, .iaload, 1), (58, .ireturn, 1), (59, .aload_n 0, 1), (60, .getfield 354, 3)]), (70, [(63, .iload_n 1, 1), (64, .iaload, 1), (65, .ireturn, 1), (66, .aload_n 0, 1), (67, .getfield 357, 3)]), (77, [(70, .iload_n 1, 1), (71, .iaload, 1), (72, .ireturn, 1), (73, .aload_n 0, 1), (74, .getfield 360, 3)]), (100000, [(77, .iload_n 1, 1), (78, .iaload, 1), (79, .ireturn, 1), (80, .iconst (-1), 1), (81, .ireturn, 1)])]
set_option maxRecDepth 100000 in
theorem dk_320 : dkA cl_320 prog_12_method_123_code = true := by decide +kernel
set_option maxRecDepth 100000 in
theorem ok_320 : (ck pft pfn (look2 cl_320) ppl pmk 11 false 0 tr_320 0 0 0 0).isSome = true := by decide +kernel
set_option maxRecDepth 100000 in
theorem mk_320 : MOK1 320 mr_320 := mok_mk ⟨"GatedPileModel", "order", "(II)I"⟩ prog_12_method_123_code _ 1 11 "GatedPileModel" cl_320 false rfl rfl rfl rfl dk_320 (by decide +kernel) (by decide +kernel) (by decide +kernel) ok_320 (plainFor_of_name (by decide +kernel)) (fun _ => ⟨11, _, rfl, rfl, rfl⟩)
/-- GatedPileModel.proc(II)I -/
def cl_321 : xCl := [(11, [(0, .aload_n 0, 1), (1, .getfield 510, 3), (4, .ifCond .eq 15, 3), (7, .iload_n 1, 1), (8, .ifCond .lt 11, 3)]), (20, [(11, .iload_n 1, 1), (12, .aload_n 0, 1), (13, .getfield 516, 3), (16, .if_icmp .lt 5, 3), (19, .iconst (-1), 1)]), (56, [(20, .ireturn, 1), (21, .iload_n 2, 1), (22, .tableswitch 58 0 3 #[30, 37, 44, 51], 30), (52, .aload_n 0, 1), (53, .getfield 363, 3)]), (63, [(56, .iload_n 1, 1), (57, .iaload, 1), (58, .ireturn, 1), (59, .aload_n 0, 1), (60, .getfield 366, 3)]), (70, [(63, .iload_n 1, 1), (64, .iaload, 1), (65, .ireturn, 1), (66, .aload_n 0, 1), (67, .getfield 369, 3)]), (77, [(70, .iload_n 1, 1), (71, .iaload, 1), (72, .ireturn, 1), (73, .aload_n 0, 1), (74, .getfield 372, 3)]), (100000, [(77, .iload_n 1, 1), (78, .iaload, 1), (79, .ireturn, 1), (80, .iconst (-1), 1), (81, .ireturn, 1)])]
set_option maxRecDepth 100000 in
theorem dk_321 : dkA cl_321 prog_12_method_124_code = true := by decide +kernel
set_option maxRecDepth 100000 in
theorem ok_321 : (ck pft pfn (look2 cl_321) ppl pmk 11 false 0 tr_321 0 0 0 0).isSome = true := by decide +kernel
set_option maxRecDepth 100000 in
theorem mk_321 : MOK1 321 mr_321 := mok_mk ⟨"GatedPileModel", "proc", "(II)I"⟩ prog_12_method_124_code _ 1 11 "GatedPileModel" cl_321 false rfl rfl rfl rfl dk_321 (by decide +kernel) (by decide +kernel) (by decide +kernel) ok_321 (plainFor_of_name (by decide +kernel)) (fun _ => ⟨11, _, rfl, rfl, rfl⟩)
/-- GatedPileModel.word(I)I -/
def cl_322 : xCl := [(8, [(0, .aload_n 0, 1), (1, .getfield 510, 3), (4, .ifCond .eq 24, 3), (7, .iload_n 1, 1)]), (16, [(8, .ifCond .lt 20, 3), (11, .iload_n 1, 1), (12, .aload_n 0, 1), (13, .getfield 498, 3)]), (24, [(16, .if_icmp .ge 12, 3), (19, .aload_n 0, 1), (20, .getfield 379, 3), (23, .iload_n 1, 1)]), (100000, [(24, .iaload, 1), (25, .goto 4, 3), (28, .iconst (-1), 1), (29, .ireturn, 1)])]
set_option maxRecDepth 100000 in
theorem dk_322 : dkA cl_322 prog_12_method_125_code = true := by decide +kernel
set_option maxRecDepth 100000 in
theorem ok_322 : (ck pft pfn (look2 cl_322) ppl pmk 11 false 0 tr_322 0 0 0 0).isSome = true := by decide +kernel
set_option maxRecDepth 100000 in
theorem mk_322 : MOK1 322 mr_322 := mok_mk ⟨"GatedPileModel", "word", "(I)I"⟩ prog_12_method_125_code _ 1 11 "GatedPileModel" cl_322 false rfl rfl rfl rfl dk_322 (by decide +kernel) (by decide +kernel) (by decide +kernel) ok_322 (plainFor_of_name (by decide +kernel)) (fun _ => ⟨11, _, rfl, rfl, rfl⟩)
/-- GatedPileModel.net(II)I -/
def cl_323 : xCl := [(12, [(0, .iload_n 1, 1), (1, .sipush 212, 3), (4, .if_icmp .lt 40, 3), (7, .iload_n 1, 1), (8, .aload_n 0, 1), (9, .getfield 405, 3)]), (24, [(12, .if_icmp .ge 32, 3), (15, .iload_n 2, 1), (16, .ifCond .eq 8, 3), (19, .iload_n 2, 1), (20, .iconst 1, 1), (21, .if_icmp .ne 23, 3)]), (34, [(24, .iload_n 2, 1), (25, .ifCond .ne 12, 3), (28, .aload_n 0, 1), (29, .getfield 408, 3), (32, .iload_n 1, 1), (33, .iaload, 1)]), (44, [(34, .goto 9, 3), (37, .aload_n 0, 1), (38, .getfield 411, 3), (41, .iload_n 1, 1), (42, .iaload, 1), (43, .ireturn, 1)]), (56, [(44, .iload_n 1, 1), (45, .iconst 2, 1), (46, .if_icmp .lt 23, 3), (49, .iload_n 1, 1), (50, .sipush 196, 3), (53, .if_icmp .ge 16, 3)]), (66, [(56, .iload_n 2, 1), (57, .ifCond .ne 12, 3), (60, .aload_n 0, 1), (61, .getfield 417, 3), (64, .iload_n 1, 1), (65, .iaload, 1)]), (100000, [(66, .goto 4, 3), (69, .iconst (-1), 1), (70, .ireturn, 1)])]
set_option maxRecDepth 100000 in
theorem dk_323 : dkA cl_323 prog_12_method_126_code = true := by decide +kernel
set_option maxRecDepth 100000 in
theorem ok_323 : (ck pft pfn (look2 cl_323) ppl pmk 11 false 0 tr_323 0 0 0 0).isSome = true := by decide +kernel
set_option maxRecDepth 100000 in
theorem mk_323 : MOK1 323 mr_323 := mok_mk ⟨"GatedPileModel", "net", "(II)I"⟩ prog_12_method_126_code _ 1 11 "GatedPileModel" cl_323 false rfl rfl rfl rfl dk_323 (by decide +kernel) (by decide +kernel) (by decide +kernel) ok_323 (plainFor_of_name (by decide +kernel)) (fun _ => ⟨11, _, rfl, rfl, rfl⟩)
/-- GatedPileModel.input(I)Z -/
def cl_324 : xCl := [(10, [(0, .aload_n 0, 1), (1, .getfield 716, 3), (4, .sipush 200, 3), (7, .if_icmp .ne 5, 3)]), (16, [(10, .iconst 0, 1), (11, .ireturn, 1), (12, .aload_n 0, 1), (13, .getfield 429, 3)]), (24, [(16, .aload_n 0, 1), (17, .getfield 716, 3), (20, .iload_n 1, 1), (21, .ldc_w 748, 3)]), (28, [(24, .iand, 1), (25, .iastore, 1), (26, .aload_n 0, 1), (27, .dup, 1)]), (36, [(28, .getfield 716, 3), (31, .iconst 1, 1), (32, .iadd, 1), (33, .putfield 716, 3)]), (100000, [(36, .iconst 1, 1), (37, .ireturn, 1)])]
set_option maxRecDepth 100000 in
theorem dk_324 : dkA cl_324 prog_12_method_127_code = true := by decide +kernel
set_option maxRecDepth 100000 in
theorem ok_324 : (ck pft pfn (look2 cl_324) ppl pmk 11 false 3 tr_324 0 0 0 0).isSome = true := by decide +kernel
set_option maxRecDepth 100000 in
theorem mk_324 : MOK1 324 mr_324 := mok_mk ⟨"GatedPileModel", "input", "(I)Z"⟩ prog_12_method_127_code _ 1 11 "GatedPileModel" cl_324 false rfl rfl rfl rfl dk_324 (by decide +kernel) (by decide +kernel) (by decide +kernel) ok_324 (plainFor_of_name (by decide +kernel)) (fun _ => ⟨11, _, rfl, rfl, rfl⟩)
/-- GatedPileModel.clear()V -/
def cl_325 : xCl := [(6, [(0, .aload_n 0, 1), (1, .iconst 0, 1), (2, .putfield 716, 3), (5, .aload_n 0, 1)]), (100000, [(6, .iconst 0, 1), (7, .putfield 713, 3), (10, .return_, 1)])]
set_option maxRecDepth 100000 in
theorem dk_325 : dkA cl_325 prog_12_method_128_code = true := by decide +kernel
set_option maxRecDepth 100000 in
theorem ok_325 : (ck pft pfn (look2 cl_325) ppl pmk 11 false 9 tr_325 0 0 0 0).isSome = true := by decide +kernel
set_option maxRecDepth 100000 in
theorem mk_325 : MOK1 325 mr_325 := mok_mk ⟨"GatedPileModel", "clear", "()V"⟩ prog_12_method_128_code _ 1 11 "GatedPileModel" cl_325 false rfl rfl rfl rfl dk_325 (by decide +kernel) (by decide +kernel) (by decide +kernel) ok_325 (plainFor_of_name (by decide +kernel)) (fun _ => ⟨11, _, rfl, rfl, rfl⟩)
/-- GatedPileModel.reset()Z -/
def cl_326 : xCl := [(12, [(0, .aload_n 0, 1), (1, .getfield 510, 3), (4, .ifCond .ne 5, 3), (7, .iconst 0, 1), (8, .ireturn, 1), (9, .iconst 0, 1), (10, .istore_n 1, 1), (11, .iload_n 1, 1)]), (28, [(12, .sipush 8192, 3), (15, .if_icmp .ge 33, 3), (18, .aload_n 0, 1), (19, .getfield 423, 3), (22, .iload_n 1, 1), (23, .iload_n 1, 1), (24, .aload_n 0, 1), (25, .getfield 498, 3)]), (42, [(28, .if_icmp .ge 12, 3), (31, .aload_n 0, 1), (32, .getfield 379, 3), (35, .iload_n 1, 1), (36, .iaload, 1), (37, .goto 4, 3), (40, .iconst 0, 1), (41, .iastore, 1)]), (57, [(42, .iinc 1 1, 3), (45, .goto (-34), 3), (48, .iconst 0, 1), (49, .istore_n 1, 1), (50, .iload_n 1, 1), (51, .bipush 8, 2), (53, .if_icmp .ge 16, 3), (56, .aload_n 0, 1)]), (71, [(57, .getfield 426, 3), (60, .iload_n 1, 1), (61, .iconst 0, 1), (62, .iastore, 1), (63, .iinc 1 1, 3), (66, .goto (-16), 3), (69, .aload_n 0, 1), (70, .iconst 0, 1)]), (85, [(71, .putfield 745, 3), (74, .aload_n 0, 1), (75, .iconst 0, 1), (76, .putfield 723, 3), (79, .aload_n 0, 1), (80, .iconst 0, 1), (81, .putfield 710, 3), (84, .aload_n 0, 1)]), (99, [(85, .iconst 0, 1), (86, .putfield 752, 3), (89, .aload_n 0, 1), (90, .iconst 0, 1), (91, .putfield 720, 3), (94, .aload_n 0, 1), (95, .iconst 0, 1), (96, .putfield 739, 3)]), (100000, [(99, .aload_n 0, 1), (100, .iconst 0, 1), (101, .putfield 713, 3), (104, .aload_n 0, 1), (105, .iconst 0, 1), (106, .putfield 726, 3), (109, .iconst 1, 1), (110, .ireturn, 1)])]
set_option maxRecDepth 100000 in
theorem dk_326 : dkA cl_326 prog_12_method_129_code = true := by decide +kernel
set_option maxRecDepth 100000 in
theorem ok_326 : (ck pft pfn (look2 cl_326) ppl pmk 11 false 3 tr_326 0 0 0 0).isSome = true := by decide +kernel
set_option maxRecDepth 100000 in
theorem mk_326 : MOK1 326 mr_326 := mok_mk ⟨"GatedPileModel", "reset", "()Z"⟩ prog_12_method_129_code _ 1 11 "GatedPileModel" cl_326 false rfl rfl rfl rfl dk_326 (by decide +kernel) (by decide +kernel) (by decide +kernel) ok_326 (plainFor_of_name (by decide +kernel)) (fun _ => ⟨11, _, rfl, rfl, rfl⟩)
/-- GatedPileModel.clock(I)I -/
def cl_327 : xCl := [(8, [(0, .iload_n 1, 1), (1, .ifCond .lt 10, 3), (4, .iload_n 1, 1), (5, .sipush 5000, 3)]), (14, [(8, .if_icmp .le 5, 3), (11, .iconst (-1), 1), (12, .ireturn, 1), (13, .iconst 0, 1)]), (20, [(14, .istore_n 2, 1), (15, .iload_n 2, 1), (16, .iload_n 1, 1), (17, .if_icmp .ge 20, 3)]), (28, [(20, .aload_n 0, 1), (21, .invokevirtual 779, 3), (24, .ifCond .eq 13, 3), (27, .aload_n 0, 1)]), (38, [(28, .invokevirtual 782, 3), (31, .iinc 2 1, 3), (34, .goto (-19), 3), (37, .iload_n 2, 1)]), (100000, [(38, .ireturn, 1)])]
set_option maxRecDepth 100000 in
theorem dk_327 : dkA cl_327 prog_12_method_130_code = true := by decide +kernel
set_option maxRecDepth 100000 in
theorem ok_327 : (ck pft pfn (look2 cl_327) ppl pmk 11 false 0 tr_327 0 0 0 0).isSome = true := by decide +kernel
set_option maxRecDepth 100000 in
theorem mk_327 : MOK1 327 mr_327 := mok_mk ⟨"GatedPileModel", "clock", "(I)I"⟩ prog_12_method_130_code _ 1 11 "GatedPileModel" cl_327 false rfl rfl rfl rfl dk_327 (by decide +kernel) (by decide +kernel) (by decide +kernel) ok_327 (plainFor_of_name (by decide +kernel)) (fun _ => ⟨11, _, rfl, rfl, rfl⟩)
/-- GatedPileModel.run()I -/
def cl_328 : xCl := [(11, [(0, .aload_n 0, 1), (1, .invokevirtual 785, 3), (4, .ifCond .ne 5, 3), (7, .iconst (-1), 1), (8, .ireturn, 1), (9, .iconst 0, 1), (10, .istore_n 1, 1)]), (26, [(11, .iload_n 1, 1), (12, .sipush 20000, 3), (15, .if_icmp .ge 20, 3), (18, .aload_n 0, 1), (19, .invokevirtual 779, 3), (22, .ifCond .eq 13, 3), (25, .aload_n 0, 1)]), (44, [(26, .invokevirtual 782, 3), (29, .iinc 1 1, 3), (32, .goto (-21), 3), (35, .aload_n 0, 1), (36, .invokevirtual 732, 3), (39, .ifCond .ne 6, 3), (42, .bipush (-3), 2)]), (57, [(44, .ireturn, 1), (45, .aload_n 0, 1), (46, .getfield 426, 3), (49, .iconst 4, 1), (50, .iaload, 1), (51, .ldc_w 748, 3), (54, .if_icmp .ne 6, 3)]), (67, [(57, .bipush (-2), 2), (59, .ireturn, 1), (60, .aload_n 0, 1), (61, .invokevirtual 788, 3), (64, .istore_n 1, 1), (65, .aload_n 0, 1), (66, .aload_n 0, 1)]), (80, [(67, .getfield 766, 3), (70, .putfield 726, 3), (73, .iconst 0, 1), (74, .istore_n 2, 1), (75, .iload_n 2, 1), (76, .aload_n 0, 1), (77, .getfield 726, 3)]), (95, [(80, .if_icmp .ge 28, 3), (83, .iload_n 2, 1), (84, .sipush 500, 3), (87, .if_icmp .ge 21, 3), (90, .aload_n 0, 1), (91, .getfield 432, 3), (94, .iload_n 2, 1)]), (108, [(95, .aload_n 0, 1), (96, .getfield 450, 3), (99, .iload_n 2, 1), (100, .iaload, 1), (101, .iastore, 1), (102, .iinc 2 1, 3), (105, .goto (-30), 3)]), (100000, [(108, .iload_n 1, 1), (109, .ireturn, 1)])]
set_option maxRecDepth 100000 in
theorem dk_328 : dkA cl_328 prog_12_method_131_code = true := by decide +kernel
set_option maxRecDepth 100000 in
theorem ok_328 : (ck pft pfn (look2 cl_328) ppl pmk 11 false 0 tr_328 0 0 0 0).isSome = true := by decide +kernel
set_option maxRecDepth 100000 in
theorem mk_328 : MOK1 328 mr_328 := mok_mk ⟨"GatedPileModel", "run", "()I"⟩ prog_12_method_131_code _ 1 11 "GatedPileModel" cl_328 false rfl rfl rfl rfl dk_328 (by decide +kernel) (by decide +kernel) (by decide +kernel) ok_328 (plainFor_of_name (by decide +kernel)) (fun _ => ⟨11, _, rfl, rfl, rfl⟩)
/-- GatedPileModel.shows(II)V -/
def cl_329 : xCl := [(5, [(0, .iconst 0, 1), (1, .istore_n 3, 1), (2, .iload_n 3, 1), (3, .bipush 16, 2)]), (13, [(5, .if_icmp .ge 31, 3), (8, .aload_n 0, 1), (9, .getfield 453, 3), (12, .iload_n 1, 1)]), (17, [(13, .iload_n 3, 1), (14, .iadd, 1), (15, .iload_n 2, 1), (16, .iload_n 3, 1)]), (21, [(17, .ishr, 1), (18, .iconst 1, 1), (19, .iand, 1), (20, .iconst 1, 1)]), (29, [(21, .if_icmp .ne 7, 3), (24, .iconst 1, 1), (25, .goto 4, 3), (28, .iconst 0, 1)]), (100000, [(29, .bastore, 1), (30, .iinc 3 1, 3), (33, .goto (-31), 3), (36, .return_, 1)])]
set_option maxRecDepth 100000 in
theorem dk_329 : dkA cl_329 prog_12_method_132_code = true := by decide +kernel
set_option maxRecDepth 100000 in
theorem ok_329 : (ck pft pfn (look2 cl_329) ppl pmk 11 false 9 tr_329 0 0 0 0).isSome = true := by decide +kernel
set_option maxRecDepth 100000 in
theorem mk_329 : MOK1 329 mr_329 := mok_mk ⟨"GatedPileModel", "shows", "(II)V"⟩ prog_12_method_132_code _ 1 11 "GatedPileModel" cl_329 false rfl rfl rfl rfl dk_329 (by decide +kernel) (by decide +kernel) (by decide +kernel) ok_329 (plainFor_of_name (by decide +kernel)) (fun _ => ⟨11, _, rfl, rfl, rfl⟩)
/-- GatedPileModel.wire(I)I -/
def cl_330 : xCl := [(18, [(0, .iload_n 1, 1), (1, .ifCond .lt 11, 3), (4, .iload_n 1, 1), (5, .aload_n 0, 1), (6, .getfield 405, 3), (9, .if_icmp .lt 5, 3), (12, .iconst (-1), 1), (13, .ireturn, 1), (14, .aload_n 0, 1), (15, .getfield 453, 3)]), (33, [(18, .iconst 1, 1), (19, .iconst 1, 1), (20, .bastore, 1), (21, .aload_n 0, 1), (22, .iconst 2, 1), (23, .aload_n 0, 1), (24, .getfield 745, 3), (27, .invokevirtual 791, 3), (30, .aload_n 0, 1), (31, .bipush 18, 2)]), (53, [(33, .aload_n 0, 1), (34, .getfield 723, 3), (37, .invokevirtual 791, 3), (40, .aload_n 0, 1), (41, .bipush 34, 2), (43, .aload_n 0, 1), (44, .getfield 710, 3), (47, .invokevirtual 791, 3), (50, .aload_n 0, 1), (51, .bipush 50, 2)]), (72, [(53, .aload_n 0, 1), (54, .getfield 752, 3), (57, .invokevirtual 791, 3), (60, .aload_n 0, 1), (61, .getfield 453, 3), (64, .bipush 66, 2), (66, .aload_n 0, 1), (67, .getfield 720, 3), (70, .iconst 1, 1), (71, .iand, 1)]), (89, [(72, .iconst 1, 1), (73, .if_icmp .ne 7, 3), (76, .iconst 1, 1), (77, .goto 4, 3), (80, .iconst 0, 1), (81, .bastore, 1), (82, .aload_n 0, 1), (83, .getfield 453, 3), (86, .bipush 67, 2), (88, .aload_n 0, 1)]), (105, [(89, .getfield 720, 3), (92, .iconst 1, 1), (93, .if_icmp .le 7, 3), (96, .iconst 1, 1), (97, .goto 4, 3), (100, .iconst 0, 1), (101, .bastore, 1), (102, .iconst 0, 1), (103, .istore_n 2, 1), (104, .iload_n 2, 1)]), (122, [(105, .bipush 8, 2), (107, .if_icmp .ge 26, 3), (110, .aload_n 0, 1), (111, .bipush 68, 2), (113, .bipush 16, 2), (115, .iload_n 2, 1), (116, .imul, 1), (117, .iadd, 1), (118, .aload_n 0, 1), (119, .getfield 426, 3)]), (144, [(122, .iload_n 2, 1), (123, .iaload, 1), (124, .invokevirtual 791, 3), (127, .iinc 2 1, 3), (130, .goto (-26), 3), (133, .aload_n 0, 1), (134, .sipush 196, 3), (137, .aload_n 0, 1), (138, .invokevirtual 742, 3), (141, .invokevirtual 791, 3)]), (162, [(144, .sipush 212, 3), (147, .istore_n 2, 1), (148, .iload_n 2, 1), (149, .iload_n 1, 1), (150, .if_icmp .gt 48, 3), (153, .aload_n 0, 1), (154, .getfield 453, 3), (157, .iload_n 2, 1), (158, .aload_n 0, 1), (159, .getfield 453, 3)]), (180, [(162, .aload_n 0, 1), (163, .getfield 408, 3), (166, .iload_n 2, 1), (167, .iaload, 1), (168, .baload, 1), (169, .ifCond .eq 17, 3), (172, .aload_n 0, 1), (173, .getfield 453, 3), (176, .aload_n 0, 1), (177, .getfield 411, 3)]), (198, [(180, .iload_n 2, 1), (181, .iaload, 1), (182, .baload, 1), (183, .ifCond .ne 7, 3), (186, .iconst 1, 1), (187, .goto 4, 3), (190, .iconst 0, 1), (191, .bastore, 1), (192, .iinc 2 1, 3), (195, .goto (-47), 3)]), (100000, [(198, .aload_n 0, 1), (199, .getfield 453, 3), (202, .iload_n 1, 1), (203, .baload, 1), (204, .ifCond .eq 7, 3), (207, .iconst 1, 1), (208, .goto 4, 3), (211, .iconst 0, 1), (212, .ireturn, 1)])]
set_option maxRecDepth 100000 in
theorem dk_330 : dkA cl_330 prog_12_method_133_code = true := by decide +kernel
set_option maxRecDepth 100000 in
theorem ok_330 : (ck pft pfn (look2 cl_330) ppl pmk 11 false 0 tr_330 0 0 0 0).isSome = true := by decide +kernel
set_option maxRecDepth 100000 in
theorem mk_330 : MOK1 330 mr_330 := mok_mk ⟨"GatedPileModel", "wire", "(I)I"⟩ prog_12_method_133_code _ 1 11 "GatedPileModel" cl_330 false rfl rfl rfl rfl dk_330 (by decide +kernel) (by decide +kernel) (by decide +kernel) ok_330 (plainFor_of_name (by decide +kernel)) (fun _ => ⟨11, _, rfl, rfl, rfl⟩)
/-- GatedPileModel.look(I)I -/
def cl_331 : xCl := [(11, [(0, .iload_n 1, 1), (1, .ifCond .lt 19, 3), (4, .iload_n 1, 1), (5, .bipush 8, 2), (7, .if_icmp .ge 13, 3), (10, .aload_n 0, 1)]), (21, [(11, .getfield 426, 3), (14, .iload_n 1, 1), (15, .iaload, 1), (16, .invokestatic 729, 3), (19, .ireturn, 1), (20, .iload_n 1, 1)]), (69, [(21, .tableswitch 77 8 13 #[39, 44, 49, 54, 59, 64], 39), (60, .aload_n 0, 1), (61, .getfield 745, 3), (64, .ireturn, 1), (65, .aload_n 0, 1), (66, .getfield 723, 3)]), (79, [(69, .ireturn, 1), (70, .aload_n 0, 1), (71, .getfield 710, 3), (74, .ireturn, 1), (75, .aload_n 0, 1), (76, .getfield 752, 3)]), (89, [(79, .ireturn, 1), (80, .aload_n 0, 1), (81, .getfield 720, 3), (84, .ireturn, 1), (85, .aload_n 0, 1), (86, .invokevirtual 732, 3)]), (99, [(89, .ifCond .eq 7, 3), (92, .iconst 1, 1), (93, .goto 4, 3), (96, .iconst 0, 1), (97, .ireturn, 1), (98, .iconst (-1), 1)]), (100000, [(99, .ireturn, 1)])]
set_option maxRecDepth 100000 in
theorem dk_331 : dkA cl_331 prog_12_method_134_code = true := by decide +kernel
set_option maxRecDepth 100000 in
theorem ok_331 : (ck pft pfn (look2 cl_331) ppl pmk 11 false 0 tr_331 0 0 0 0).isSome = true := by decide +kernel
set_option maxRecDepth 100000 in
theorem mk_331 : MOK1 331 mr_331 := mok_mk ⟨"GatedPileModel", "look", "(I)I"⟩ prog_12_method_134_code _ 1 11 "GatedPileModel" cl_331 false rfl rfl rfl rfl dk_331 (by decide +kernel) (by decide +kernel) (by decide +kernel) ok_331 (plainFor_of_name (by decide +kernel)) (fun _ => ⟨11, _, rfl, rfl, rfl⟩)
/-- GatedPileModel.memory(I)I -/
def cl_332 : xCl := [(8, [(0, .iload_n 1, 1), (1, .ifCond .lt 22, 3), (4, .iload_n 1, 1), (5, .sipush 8192, 3)]), (16, [(8, .if_icmp .ge 15, 3), (11, .aload_n 0, 1), (12, .getfield 423, 3), (15, .iload_n 1, 1)]), (24, [(16, .iaload, 1), (17, .invokestatic 729, 3), (20, .goto 4, 3), (23, .iconst 0, 1)]), (100000, [(24, .ireturn, 1)])]
set_option maxRecDepth 100000 in
theorem dk_332 : dkA cl_332 prog_12_method_135_code = true := by decide +kernel
set_option maxRecDepth 100000 in
theorem ok_332 : (ck pft pfn (look2 cl_332) ppl pmk 11 false 0 tr_332 0 0 0 0).isSome = true := by decide +kernel
set_option maxRecDepth 100000 in
theorem mk_332 : MOK1 332 mr_332 := mok_mk ⟨"GatedPileModel", "memory", "(I)I"⟩ prog_12_method_135_code _ 1 11 "GatedPileModel" cl_332 false rfl rfl rfl rfl dk_332 (by decide +kernel) (by decide +kernel) (by decide +kernel) ok_332 (plainFor_of_name (by decide +kernel)) (fun _ => ⟨11, _, rfl, rfl, rfl⟩)
/-- GatedPileModel.output(I)I -/
def cl_333 : xCl := [(8, [(0, .iload_n 1, 1), (1, .ifCond .lt 27, 3), (4, .iload_n 1, 1), (5, .sipush 500, 3)]), (16, [(8, .if_icmp .ge 20, 3), (11, .iload_n 1, 1), (12, .aload_n 0, 1), (13, .getfield 726, 3)]), (24, [(16, .if_icmp .ge 12, 3), (19, .aload_n 0, 1), (20, .getfield 432, 3), (23, .iload_n 1, 1)]), (100000, [(24, .iaload, 1), (25, .goto 4, 3), (28, .iconst 0, 1), (29, .ireturn, 1)])]
set_option maxRecDepth 100000 in
theorem dk_333 : dkA cl_333 prog_12_method_136_code = true := by decide +kernel
set_option maxRecDepth 100000 in
theorem ok_333 : (ck pft pfn (look2 cl_333) ppl pmk 11 false 0 tr_333 0 0 0 0).isSome = true := by decide +kernel
set_option maxRecDepth 100000 in
theorem mk_333 : MOK1 333 mr_333 := mok_mk ⟨"GatedPileModel", "output", "(I)I"⟩ prog_12_method_136_code _ 1 11 "GatedPileModel" cl_333 false rfl rfl rfl rfl dk_333 (by decide +kernel) (by decide +kernel) (by decide +kernel) ok_333 (plainFor_of_name (by decide +kernel)) (fun _ => ⟨11, _, rfl, rfl, rfl⟩)
set_option maxRecDepth 100000 in
theorem ma_16 : AllM 318 ml_16 := AllM_cons mk_318 (AllM_cons mk_319 (AllM_cons mk_320 (AllM_cons mk_321 (AllM_cons mk_322 (AllM_cons mk_323 (AllM_cons mk_324 (AllM_cons mk_325 (AllM_cons mk_326 (AllM_cons mk_327 (AllM_cons mk_328 (AllM_cons mk_329 (AllM_cons mk_330 (AllM_cons mk_331 (AllM_cons mk_332 (AllM_cons mk_333 (AllM_nil _))))))))))))))))
