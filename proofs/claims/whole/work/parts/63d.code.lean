/-- GatedPile$Maker.makeTry(I)V -/
def cl_103 : xCl := [(14, [(0, .aload_n 0, 1), (1, .getfield 151, 3), (4, .istore_n 2, 1), (5, .aload_n 0, 1), (6, .invokevirtual 148, 3), (9, .istore_n 3, 1), (10, .aload_n 0, 1), (11, .invokevirtual 148, 3)]), (28, [(14, .istore 4, 2), (16, .aload_n 0, 1), (17, .iload 4, 2), (19, .putfield 151, 3), (22, .aload_n 0, 1), (23, .iload_n 1, 1), (24, .invokevirtual 157, 3), (27, .aload_n 0, 1)]), (41, [(28, .iload_n 2, 1), (29, .putfield 151, 3), (32, .aload_n 0, 1), (33, .bipush 15, 2), (35, .iconst 0, 1), (36, .iload_n 3, 1), (37, .invokevirtual 154, 3), (40, .aload_n 0, 1)]), (57, [(41, .iload 4, 2), (43, .invokevirtual 160, 3), (46, .aload_n 0, 1), (47, .bipush 23, 2), (49, .aload_n 0, 1), (50, .getfield 46, 3), (53, .iconst (-1), 1), (54, .invokevirtual 154, 3)]), (71, [(57, .aload_n 0, 1), (58, .getfield 40, 3), (61, .istore 5, 2), (63, .aload_n 0, 1), (64, .invokevirtual 210, 3), (67, .aload_n 0, 1), (68, .bipush 25, 2), (70, .iconst 0, 1)]), (89, [(71, .aload_n 0, 1), (72, .getfield 151, 3), (75, .invokevirtual 154, 3), (78, .aload_n 0, 1), (79, .getfield 22, 3), (82, .getfield 62, 3), (85, .istore 6, 2), (87, .iload 6, 2)]), (106, [(89, .ifCond .le 50, 3), (92, .aload_n 0, 1), (93, .invokevirtual 65, 3), (96, .bipush 12, 2), (98, .if_icmp .ne 41, 3), (101, .aload_n 0, 1), (102, .dup, 1), (103, .getfield 43, 3)]), (121, [(106, .iconst 2, 1), (107, .iadd, 1), (108, .putfield 43, 3), (111, .aload_n 0, 1), (112, .iload 5, 2), (114, .invokevirtual 160, 3), (117, .iinc 5 1, 3), (120, .aload_n 0, 1)]), (136, [(121, .iload_n 1, 1), (122, .invokevirtual 157, 3), (125, .aload_n 0, 1), (126, .bipush 15, 2), (128, .iconst 0, 1), (129, .iload_n 3, 1), (130, .invokevirtual 154, 3), (133, .iinc 6 (-1), 3)]), (100000, [(136, .goto (-49), 3), (139, .aload_n 0, 1), (140, .iload_n 3, 1), (141, .invokevirtual 160, 3), (144, .return_, 1)])]
set_option maxRecDepth 100000 in
theorem dk_103 : dkA cl_103 prog_6_method_20_code = true := by decide +kernel
set_option maxRecDepth 100000 in
theorem ok_103 : (ck pft pfn (look2 cl_103) ppl pmk 5 false 9 tr_103 0 0 0 0).isSome = true := by decide +kernel
set_option maxRecDepth 100000 in
theorem mk_103 : MOK1 103 mr_103 := mok_mk ⟨"GatedPile$Maker", "makeTry", "(I)V"⟩ prog_6_method_20_code _ 1 5 "GatedPile$Maker" cl_103 false rfl rfl rfl rfl dk_103 (by decide +kernel) (by decide +kernel) (by decide +kernel) ok_103 (plainFor_of_name (by decide +kernel)) (fun _ => ⟨5, _, rfl, rfl, rfl⟩)
/-- GatedPile$Maker.makeWhens()V -/
def cl_104 : xCl := [(14, [(0, .aload_n 0, 1), (1, .getfield 43, 3), (4, .istore_n 1, 1), (5, .aload_n 0, 1), (6, .getfield 22, 3), (9, .getfield 62, 3), (12, .istore_n 2, 1), (13, .iload_n 2, 1)]), (31, [(14, .ifCond .le 122, 3), (17, .aload_n 0, 1), (18, .getfield 22, 3), (21, .iload_n 1, 1), (22, .invokevirtual 96, 3), (25, .bipush 12, 2), (27, .if_icmp .ne 109, 3), (30, .aload_n 0, 1)]), (42, [(31, .bipush 24, 2), (33, .aload_n 0, 1), (34, .iload_n 1, 1), (35, .iconst 1, 1), (36, .iadd, 1), (37, .iconst 3, 1), (38, .invokevirtual 181, 3), (41, .aload_n 0, 1)]), (60, [(42, .invokevirtual 148, 3), (45, .invokevirtual 154, 3), (48, .aload_n 0, 1), (49, .getfield 43, 3), (52, .istore_n 3, 1), (53, .aload_n 0, 1), (54, .getfield 22, 3), (57, .getfield 62, 3)]), (76, [(60, .istore 4, 2), (62, .iload 4, 2), (64, .ifCond .le 55, 3), (67, .iload_n 3, 1), (68, .iload_n 1, 1), (69, .if_icmp .ge 50, 3), (72, .aload_n 0, 1), (73, .getfield 22, 3)]), (88, [(76, .iload_n 3, 1), (77, .iconst 1, 1), (78, .iadd, 1), (79, .invokevirtual 118, 3), (82, .aload_n 0, 1), (83, .getfield 22, 3), (86, .iload_n 1, 1), (87, .iconst 1, 1)]), (102, [(88, .iadd, 1), (89, .invokevirtual 118, 3), (92, .if_icmp .ne 10, 3), (95, .aload_n 0, 1), (96, .iload_n 1, 1), (97, .iconst 1, 1), (98, .iadd, 1), (99, .invokevirtual 125, 3)]), (116, [(102, .aload_n 0, 1), (103, .getfield 22, 3), (106, .iload_n 3, 1), (107, .iconst 2, 1), (108, .iadd, 1), (109, .invokevirtual 213, 3), (112, .istore_n 3, 1), (113, .iinc 4 (-1), 3)]), (130, [(116, .goto (-54), 3), (119, .aload_n 0, 1), (120, .getfield 22, 3), (123, .iload_n 1, 1), (124, .iconst 2, 1), (125, .iadd, 1), (126, .invokevirtual 213, 3), (129, .istore_n 1, 1)]), (100000, [(130, .iinc 2 (-1), 3), (133, .goto (-120), 3), (136, .return_, 1)])]
set_option maxRecDepth 100000 in
theorem dk_104 : dkA cl_104 prog_6_method_21_code = true := by decide +kernel
set_option maxRecDepth 100000 in
theorem ok_104 : (ck pft pfn (look2 cl_104) ppl pmk 5 false 9 tr_104 0 0 0 0).isSome = true := by decide +kernel
set_option maxRecDepth 100000 in
theorem mk_104 : MOK1 104 mr_104 := mok_mk ⟨"GatedPile$Maker", "makeWhens", "()V"⟩ prog_6_method_21_code _ 1 5 "GatedPile$Maker" cl_104 false rfl rfl rfl rfl dk_104 (by decide +kernel) (by decide +kernel) (by decide +kernel) ok_104 (plainFor_of_name (by decide +kernel)) (fun _ => ⟨5, _, rfl, rfl, rfl⟩)
/-- GatedPile$Maker.makeExpression(I)V -/
def cl_105 : xCl := [(9, [(0, .aload_n 0, 1), (1, .iload_n 1, 1), (2, .invokevirtual 216, 3), (5, .aload_n 0, 1), (6, .invokevirtual 65, 3)]), (18, [(9, .invokestatic 219, 3), (12, .istore_n 2, 1), (13, .iload_n 2, 1), (14, .iconst (-1), 1), (15, .if_icmp .ne 4, 3)]), (25, [(18, .return_, 1), (19, .aload_n 0, 1), (20, .dup, 1), (21, .getfield 43, 3), (24, .iconst 1, 1)]), (34, [(25, .iadd, 1), (26, .putfield 43, 3), (29, .aload_n 0, 1), (30, .iload_n 1, 1), (31, .invokevirtual 216, 3)]), (42, [(34, .aload_n 0, 1), (35, .bipush 14, 2), (37, .iload_n 2, 1), (38, .iconst (-1), 1), (39, .invokevirtual 154, 3)]), (100000, [(42, .return_, 1)])]
set_option maxRecDepth 100000 in
theorem dk_105 : dkA cl_105 prog_6_method_22_code = true := by decide +kernel
set_option maxRecDepth 100000 in
theorem ok_105 : (ck pft pfn (look2 cl_105) ppl pmk 5 false 9 tr_105 0 0 0 0).isSome = true := by decide +kernel
set_option maxRecDepth 100000 in
theorem mk_105 : MOK1 105 mr_105 := mok_mk ⟨"GatedPile$Maker", "makeExpression", "(I)V"⟩ prog_6_method_22_code _ 1 5 "GatedPile$Maker" cl_105 false rfl rfl rfl rfl dk_105 (by decide +kernel) (by decide +kernel) (by decide +kernel) ok_105 (plainFor_of_name (by decide +kernel)) (fun _ => ⟨5, _, rfl, rfl, rfl⟩)
/-- GatedPile$Maker.makeSum(I)V -/
def cl_106 : xCl := [(12, [(0, .aload_n 0, 1), (1, .iload_n 1, 1), (2, .invokevirtual 222, 3), (5, .aload_n 0, 1), (6, .getfield 22, 3), (9, .getfield 62, 3)]), (23, [(12, .istore_n 2, 1), (13, .iload_n 2, 1), (14, .ifCond .le 69, 3), (17, .aload_n 0, 1), (18, .invokevirtual 65, 3), (21, .bipush 43, 2)]), (36, [(23, .if_icmp .eq 12, 3), (26, .aload_n 0, 1), (27, .invokevirtual 65, 3), (30, .bipush 45, 2), (32, .if_icmp .ne 51, 3), (35, .aload_n 0, 1)]), (51, [(36, .invokevirtual 65, 3), (39, .bipush 43, 2), (41, .if_icmp .ne 8, 3), (44, .bipush 8, 2), (46, .goto 5, 3), (49, .bipush 9, 2)]), (59, [(51, .istore_n 3, 1), (52, .aload_n 0, 1), (53, .dup, 1), (54, .getfield 43, 3), (57, .iconst 1, 1), (58, .iadd, 1)]), (69, [(59, .putfield 43, 3), (62, .aload_n 0, 1), (63, .iload_n 1, 1), (64, .invokevirtual 222, 3), (67, .aload_n 0, 1), (68, .iload_n 3, 1)]), (83, [(69, .iconst 0, 1), (70, .aload_n 0, 1), (71, .getfield 151, 3), (74, .invokevirtual 154, 3), (77, .iinc 2 (-1), 3), (80, .goto (-67), 3)]), (100000, [(83, .return_, 1)])]
set_option maxRecDepth 100000 in
theorem dk_106 : dkA cl_106 prog_6_method_23_code = true := by decide +kernel
set_option maxRecDepth 100000 in
theorem ok_106 : (ck pft pfn (look2 cl_106) ppl pmk 5 false 9 tr_106 0 0 0 0).isSome = true := by decide +kernel
set_option maxRecDepth 100000 in
theorem mk_106 : MOK1 106 mr_106 := mok_mk ⟨"GatedPile$Maker", "makeSum", "(I)V"⟩ prog_6_method_23_code _ 1 5 "GatedPile$Maker" cl_106 false rfl rfl rfl rfl dk_106 (by decide +kernel) (by decide +kernel) (by decide +kernel) ok_106 (plainFor_of_name (by decide +kernel)) (fun _ => ⟨5, _, rfl, rfl, rfl⟩)
/-- GatedPile$Maker.makeTerm(I)V -/
def cl_107 : xCl := [(13, [(0, .aload_n 0, 1), (1, .iload_n 1, 1), (2, .invokevirtual 225, 3), (5, .aload_n 0, 1), (6, .getfield 22, 3), (9, .getfield 62, 3), (12, .istore_n 2, 1)]), (27, [(13, .iload_n 2, 1), (14, .ifCond .le 92, 3), (17, .aload_n 0, 1), (18, .invokevirtual 65, 3), (21, .bipush 42, 2), (23, .if_icmp .eq 21, 3), (26, .aload_n 0, 1)]), (44, [(27, .invokevirtual 65, 3), (30, .bipush 47, 2), (32, .if_icmp .eq 12, 3), (35, .aload_n 0, 1), (36, .invokevirtual 65, 3), (39, .bipush 37, 2), (41, .if_icmp .ne 65, 3)]), (59, [(44, .aload_n 0, 1), (45, .invokevirtual 65, 3), (48, .bipush 42, 2), (50, .if_icmp .ne 8, 3), (53, .bipush 10, 2), (55, .goto 19, 3), (58, .aload_n 0, 1)]), (75, [(59, .invokevirtual 65, 3), (62, .bipush 47, 2), (64, .if_icmp .ne 8, 3), (67, .bipush 11, 2), (69, .goto 5, 3), (72, .bipush 12, 2), (74, .istore_n 3, 1)]), (86, [(75, .aload_n 0, 1), (76, .dup, 1), (77, .getfield 43, 3), (80, .iconst 1, 1), (81, .iadd, 1), (82, .putfield 43, 3), (85, .aload_n 0, 1)]), (97, [(86, .iload_n 1, 1), (87, .invokevirtual 225, 3), (90, .aload_n 0, 1), (91, .iload_n 3, 1), (92, .iconst 0, 1), (93, .aload_n 0, 1), (94, .getfield 151, 3)]), (100000, [(97, .invokevirtual 154, 3), (100, .iinc 2 (-1), 3), (103, .goto (-90), 3), (106, .return_, 1)])]
set_option maxRecDepth 100000 in
theorem dk_107 : dkA cl_107 prog_6_method_24_code = true := by decide +kernel
set_option maxRecDepth 100000 in
theorem ok_107 : (ck pft pfn (look2 cl_107) ppl pmk 5 false 9 tr_107 0 0 0 0).isSome = true := by decide +kernel
set_option maxRecDepth 100000 in
theorem mk_107 : MOK1 107 mr_107 := mok_mk ⟨"GatedPile$Maker", "makeTerm", "(I)V"⟩ prog_6_method_24_code _ 1 5 "GatedPile$Maker" cl_107 false rfl rfl rfl rfl dk_107 (by decide +kernel) (by decide +kernel) (by decide +kernel) ok_107 (plainFor_of_name (by decide +kernel)) (fun _ => ⟨5, _, rfl, rfl, rfl⟩)
/-- GatedPile$Maker.makeFactor(I)V -/
def cl_108 : xCl := [(13, [(0, .iload_n 1, 1), (1, .bipush 30, 2), (3, .if_icmp .le 4, 3), (6, .return_, 1), (7, .aload_n 0, 1), (8, .getfield 43, 3), (11, .istore_n 2, 1), (12, .aload_n 0, 1)]), (70, [(13, .invokevirtual 65, 3), (16, .lookupswitch 134 #[(3, 83), (16, 110), (40, 75), (45, 44)], 44), (60, .aload_n 0, 1), (61, .dup, 1), (62, .getfield 43, 3), (65, .iconst 1, 1), (66, .iadd, 1), (67, .putfield 43, 3)]), (81, [(70, .aload_n 0, 1), (71, .iload_n 1, 1), (72, .iconst 1, 1), (73, .iadd, 1), (74, .invokevirtual 225, 3), (77, .aload_n 0, 1), (78, .bipush 13, 2), (80, .iconst 0, 1)]), (99, [(81, .aload_n 0, 1), (82, .getfield 151, 3), (85, .invokevirtual 154, 3), (88, .goto 78, 3), (91, .aload_n 0, 1), (92, .iload_n 1, 1), (93, .invokevirtual 207, 3), (96, .goto 70, 3)]), (111, [(99, .aload_n 0, 1), (100, .dup, 1), (101, .getfield 43, 3), (104, .iconst 1, 1), (105, .iadd, 1), (106, .putfield 43, 3), (109, .aload_n 0, 1), (110, .iconst 1, 1)]), (127, [(111, .aload_n 0, 1), (112, .getfield 22, 3), (115, .iload_n 2, 1), (116, .invokevirtual 118, 3), (119, .iconst (-1), 1), (120, .invokevirtual 154, 3), (123, .goto 43, 3), (126, .aload_n 0, 1)]), (140, [(127, .dup, 1), (128, .getfield 43, 3), (131, .iconst 1, 1), (132, .iadd, 1), (133, .putfield 43, 3), (136, .aload_n 0, 1), (137, .bipush 19, 2), (139, .iconst 0, 1)]), (156, [(140, .aload_n 0, 1), (141, .getfield 151, 3), (144, .invokevirtual 154, 3), (147, .goto 19, 3), (150, .aload_n 0, 1), (151, .dup, 1), (152, .getfield 43, 3), (155, .iconst 1, 1)]), (100000, [(156, .iadd, 1), (157, .putfield 43, 3), (160, .aload_n 0, 1), (161, .iload_n 2, 1), (162, .iload_n 1, 1), (163, .invokevirtual 228, 3), (166, .return_, 1)])]
set_option maxRecDepth 100000 in
theorem dk_108 : dkA cl_108 prog_6_method_25_code = true := by decide +kernel
set_option maxRecDepth 100000 in
theorem ok_108 : (ck pft pfn (look2 cl_108) ppl pmk 5 false 9 tr_108 0 0 0 0).isSome = true := by decide +kernel
set_option maxRecDepth 100000 in
theorem mk_108 : MOK1 108 mr_108 := mok_mk ⟨"GatedPile$Maker", "makeFactor", "(I)V"⟩ prog_6_method_25_code _ 1 5 "GatedPile$Maker" cl_108 false rfl rfl rfl rfl dk_108 (by decide +kernel) (by decide +kernel) (by decide +kernel) ok_108 (plainFor_of_name (by decide +kernel)) (fun _ => ⟨5, _, rfl, rfl, rfl⟩)
/-- GatedPile$Maker.makeInner(I)V -/
def cl_109 : xCl := [(6, [(0, .aload_n 0, 1), (1, .dup, 1), (2, .getfield 43, 3), (5, .iconst 1, 1)]), (12, [(6, .iadd, 1), (7, .putfield 43, 3), (10, .aload_n 0, 1), (11, .iload_n 1, 1)]), (18, [(12, .iconst 1, 1), (13, .iadd, 1), (14, .invokevirtual 189, 3), (17, .aload_n 0, 1)]), (24, [(18, .dup, 1), (19, .getfield 43, 3), (22, .iconst 1, 1), (23, .iadd, 1)]), (100000, [(24, .putfield 43, 3), (27, .return_, 1)])]
set_option maxRecDepth 100000 in
theorem dk_109 : dkA cl_109 prog_6_method_26_code = true := by decide +kernel
set_option maxRecDepth 100000 in
theorem ok_109 : (ck pft pfn (look2 cl_109) ppl pmk 5 false 9 tr_109 0 0 0 0).isSome = true := by decide +kernel
set_option maxRecDepth 100000 in
theorem mk_109 : MOK1 109 mr_109 := mok_mk ⟨"GatedPile$Maker", "makeInner", "(I)V"⟩ prog_6_method_26_code _ 1 5 "GatedPile$Maker" cl_109 false rfl rfl rfl rfl dk_109 (by decide +kernel) (by decide +kernel) (by decide +kernel) ok_109 (plainFor_of_name (by decide +kernel)) (fun _ => ⟨5, _, rfl, rfl, rfl⟩)
/-- GatedPile$Maker.makeValue(II)V -/
def cl_110 : xCl := [(12, [(0, .aload_n 0, 1), (1, .invokevirtual 65, 3), (4, .bipush 40, 2), (6, .if_icmp .ne 10, 3), (9, .aload_n 0, 1), (10, .iload_n 1, 1), (11, .iload_n 2, 1)]), (26, [(12, .invokevirtual 204, 3), (15, .return_, 1), (16, .aload_n 0, 1), (17, .invokevirtual 65, 3), (20, .bipush 91, 2), (22, .if_icmp .ne 27, 3), (25, .aload_n 0, 1)]), (37, [(26, .iload_n 1, 1), (27, .iconst 2, 1), (28, .invokevirtual 181, 3), (31, .istore_n 3, 1), (32, .aload_n 0, 1), (33, .iload_n 2, 1), (34, .invokevirtual 207, 3)]), (49, [(37, .aload_n 0, 1), (38, .bipush 6, 2), (40, .iload_n 3, 1), (41, .aload_n 0, 1), (42, .getfield 151, 3), (45, .invokevirtual 154, 3), (48, .return_, 1)]), (64, [(49, .aload_n 0, 1), (50, .getfield 26, 3), (53, .aload_n 0, 1), (54, .getfield 22, 3), (57, .iload_n 1, 1), (58, .invokevirtual 118, 3), (61, .invokevirtual 122, 3)]), (73, [(64, .istore_n 3, 1), (65, .iload_n 3, 1), (66, .iconst (-1), 1), (67, .if_icmp .eq 13, 3), (70, .aload_n 0, 1), (71, .iconst 2, 1), (72, .iload_n 3, 1)]), (84, [(73, .iconst (-1), 1), (74, .invokevirtual 154, 3), (77, .goto 15, 3), (80, .aload_n 0, 1), (81, .iconst 4, 1), (82, .aload_n 0, 1), (83, .iload_n 1, 1)]), (100000, [(84, .iconst 1, 1), (85, .invokevirtual 181, 3), (88, .iconst (-1), 1), (89, .invokevirtual 154, 3), (92, .return_, 1)])]
set_option maxRecDepth 100000 in
theorem dk_110 : dkA cl_110 prog_6_method_27_code = true := by decide +kernel
set_option maxRecDepth 100000 in
theorem ok_110 : (ck pft pfn (look2 cl_110) ppl pmk 5 false 9 tr_110 0 0 0 0).isSome = true := by decide +kernel
set_option maxRecDepth 100000 in
theorem mk_110 : MOK1 110 mr_110 := mok_mk ⟨"GatedPile$Maker", "makeValue", "(II)V"⟩ prog_6_method_27_code _ 1 5 "GatedPile$Maker" cl_110 false rfl rfl rfl rfl dk_110 (by decide +kernel) (by decide +kernel) (by decide +kernel) ok_110 (plainFor_of_name (by decide +kernel)) (fun _ => ⟨5, _, rfl, rfl, rfl⟩)
/-- GatedPile$Maker.makeCall(II)V -/
def cl_111 : xCl := [(11, [(0, .aload_n 0, 1), (1, .iload_n 1, 1), (2, .iconst 4, 1), (3, .invokevirtual 181, 3), (6, .istore_n 3, 1), (7, .iconst 0, 1), (8, .istore 4, 2), (10, .aload_n 0, 1)]), (27, [(11, .dup, 1), (12, .getfield 43, 3), (15, .iconst 1, 1), (16, .iadd, 1), (17, .putfield 43, 3), (20, .aload_n 0, 1), (21, .getfield 22, 3), (24, .getfield 62, 3)]), (44, [(27, .istore 5, 2), (29, .iload 5, 2), (31, .ifCond .le 54, 3), (34, .aload_n 0, 1), (35, .invokevirtual 65, 3), (38, .bipush 41, 2), (40, .if_icmp .eq 45, 3), (43, .aload_n 0, 1)]), (60, [(44, .invokevirtual 65, 3), (47, .ifCond .eq 38, 3), (50, .aload_n 0, 1), (51, .iload_n 2, 1), (52, .iconst 1, 1), (53, .iadd, 1), (54, .invokevirtual 189, 3), (57, .iinc 4 1, 3)]), (75, [(60, .aload_n 0, 1), (61, .invokevirtual 65, 3), (64, .bipush 44, 2), (66, .if_icmp .ne 13, 3), (69, .aload_n 0, 1), (70, .dup, 1), (71, .getfield 43, 3), (74, .iconst 1, 1)]), (91, [(75, .iadd, 1), (76, .putfield 43, 3), (79, .iinc 5 (-1), 3), (82, .goto (-53), 3), (85, .aload_n 0, 1), (86, .dup, 1), (87, .getfield 43, 3), (90, .iconst 1, 1)]), (108, [(91, .iadd, 1), (92, .putfield 43, 3), (95, .iload 4, 2), (97, .aload_n 0, 1), (98, .getfield 26, 3), (101, .iload_n 3, 1), (102, .invokevirtual 231, 3), (105, .if_icmp .eq 22, 3)]), (124, [(108, .aload_n 0, 1), (109, .aload_n 0, 1), (110, .getfield 55, 3), (113, .aload_n 0, 1), (114, .getfield 22, 3), (117, .iload_n 1, 1), (118, .invokevirtual 234, 3), (121, .invokestatic 79, 3)]), (139, [(124, .putfield 55, 3), (127, .aload_n 0, 1), (128, .dup, 1), (129, .getfield 106, 3), (132, .iload 4, 2), (134, .isub, 1), (135, .putfield 106, 3), (138, .aload_n 0, 1)]), (100000, [(139, .bipush 17, 2), (141, .iload_n 3, 1), (142, .aload_n 0, 1), (143, .getfield 151, 3), (146, .invokevirtual 154, 3), (149, .return_, 1)])]
set_option maxRecDepth 100000 in
theorem dk_111 : dkA cl_111 prog_6_method_28_code = true := by decide +kernel
set_option maxRecDepth 100000 in
theorem ok_111 : (ck pft pfn (look2 cl_111) ppl pmk 5 false 9 tr_111 0 0 0 0).isSome = true := by decide +kernel
set_option maxRecDepth 100000 in
theorem mk_111 : MOK1 111 mr_111 := mok_mk ⟨"GatedPile$Maker", "makeCall", "(II)V"⟩ prog_6_method_28_code _ 1 5 "GatedPile$Maker" cl_111 false rfl rfl rfl rfl dk_111 (by decide +kernel) (by decide +kernel) (by decide +kernel) ok_111 (plainFor_of_name (by decide +kernel)) (fun _ => ⟨5, _, rfl, rfl, rfl⟩)
/-- GatedPile$Net.settle(I)I -/
def cl_112 : xCl := [(12, [(0, .iload_n 1, 1), (1, .ifCond .lt 11, 3), (4, .iload_n 1, 1), (5, .aload_n 0, 1), (6, .getfield 11, 3), (9, .if_icmp .lt 5, 3)]), (22, [(12, .iconst (-1), 1), (13, .ireturn, 1), (14, .aload_n 0, 1), (15, .getfield 28, 3), (18, .iload_n 1, 1), (19, .if_icmp .gt 56, 3)]), (32, [(22, .aload_n 0, 1), (23, .getfield 25, 3), (26, .aload_n 0, 1), (27, .getfield 28, 3), (30, .iconst 1, 1), (31, .aload_n 0, 1)]), (44, [(32, .getfield 25, 3), (35, .aload_n 0, 1), (36, .getfield 15, 3), (39, .aload_n 0, 1), (40, .getfield 28, 3), (43, .iaload, 1)]), (54, [(44, .iaload, 1), (45, .aload_n 0, 1), (46, .getfield 25, 3), (49, .aload_n 0, 1), (50, .getfield 19, 3), (53, .aload_n 0, 1)]), (62, [(54, .getfield 28, 3), (57, .iaload, 1), (58, .iaload, 1), (59, .iand, 1), (60, .isub, 1), (61, .iastore, 1)]), (72, [(62, .aload_n 0, 1), (63, .dup, 1), (64, .getfield 28, 3), (67, .iconst 1, 1), (68, .iadd, 1), (69, .putfield 28, 3)]), (100000, [(72, .goto (-58), 3), (75, .aload_n 0, 1), (76, .getfield 25, 3), (79, .iload_n 1, 1), (80, .iaload, 1), (81, .ireturn, 1)])]
set_option maxRecDepth 100000 in
theorem dk_112 : dkA cl_112 prog_7_method_2_code = true := by decide +kernel
set_option maxRecDepth 100000 in
theorem ok_112 : (ck pft pfn (look2 cl_112) ppl pmk 6 false 0 tr_112 0 0 0 0).isSome = true := by decide +kernel
set_option maxRecDepth 100000 in
theorem mk_112 : MOK1 112 mr_112 := mok_mk ⟨"GatedPile$Net", "settle", "(I)I"⟩ prog_7_method_2_code _ 1 6 "GatedPile$Net" cl_112 false rfl rfl rfl rfl dk_112 (by decide +kernel) (by decide +kernel) (by decide +kernel) ok_112 (plainFor_of_name (by decide +kernel)) (fun _ => ⟨6, _, rfl, rfl, rfl⟩)
/-- GatedPile$Net.gate(II)I -/
def cl_113 : xCl := [(18, [(0, .aload_n 0, 1), (1, .getfield 11, 3), (4, .sipush 4104, 3), (7, .if_icmp .ge 27, 3), (10, .iload_n 1, 1), (11, .ifCond .lt 23, 3), (14, .iload_n 2, 1), (15, .ifCond .lt 19, 3)]), (34, [(18, .iload_n 1, 1), (19, .aload_n 0, 1), (20, .getfield 11, 3), (23, .if_icmp .ge 11, 3), (26, .iload_n 2, 1), (27, .aload_n 0, 1), (28, .getfield 11, 3), (31, .if_icmp .lt 5, 3)]), (46, [(34, .iconst 0, 1), (35, .ireturn, 1), (36, .aload_n 0, 1), (37, .getfield 15, 3), (40, .aload_n 0, 1), (41, .getfield 11, 3), (44, .iload_n 1, 1), (45, .iastore, 1)]), (60, [(46, .aload_n 0, 1), (47, .getfield 19, 3), (50, .aload_n 0, 1), (51, .getfield 11, 3), (54, .iload_n 2, 1), (55, .iastore, 1), (56, .aload_n 0, 1), (57, .getfield 22, 3)]), (72, [(60, .aload_n 0, 1), (61, .getfield 11, 3), (64, .iconst 1, 1), (65, .aload_n 0, 1), (66, .getfield 22, 3), (69, .iload_n 1, 1), (70, .iaload, 1), (71, .aload_n 0, 1)]), (84, [(72, .getfield 22, 3), (75, .iload_n 2, 1), (76, .iaload, 1), (77, .invokestatic 31, 3), (80, .iadd, 1), (81, .iastore, 1), (82, .aload_n 0, 1), (83, .aload_n 0, 1)]), (102, [(84, .getfield 37, 3), (87, .aload_n 0, 1), (88, .getfield 22, 3), (91, .aload_n 0, 1), (92, .getfield 11, 3), (95, .iaload, 1), (96, .invokestatic 31, 3), (99, .putfield 37, 3)]), (116, [(102, .aload_n 0, 1), (103, .dup, 1), (104, .getfield 11, 3), (107, .iconst 1, 1), (108, .iadd, 1), (109, .putfield 11, 3), (112, .aload_n 0, 1), (113, .getfield 11, 3)]), (100000, [(116, .iconst 1, 1), (117, .isub, 1), (118, .ireturn, 1)])]
set_option maxRecDepth 100000 in
theorem dk_113 : dkA cl_113 prog_7_method_3_code = true := by decide +kernel
set_option maxRecDepth 100000 in
theorem ok_113 : (ck pft pfn (look2 cl_113) ppl pmk 6 false 0 tr_113 0 0 0 0).isSome = true := by decide +kernel
set_option maxRecDepth 100000 in
theorem mk_113 : MOK1 113 mr_113 := mok_mk ⟨"GatedPile$Net", "gate", "(II)I"⟩ prog_7_method_3_code _ 1 6 "GatedPile$Net" cl_113 false rfl rfl rfl rfl dk_113 (by decide +kernel) (by decide +kernel) (by decide +kernel) ok_113 (plainFor_of_name (by decide +kernel)) (fun _ => ⟨6, _, rfl, rfl, rfl⟩)
/-- GatedPile$Net.not(I)I -/
def cl_114 : xCl := [(6, [(0, .aload_n 0, 1), (1, .iload_n 1, 1), (2, .iload_n 1, 1), (3, .invokevirtual 40, 3)]), (100000, [(6, .ireturn, 1)])]
set_option maxRecDepth 100000 in
theorem dk_114 : dkA cl_114 prog_7_method_4_code = true := by decide +kernel
set_option maxRecDepth 100000 in
theorem ok_114 : (ck pft pfn (look2 cl_114) ppl pmk 6 false 0 tr_114 0 0 0 0).isSome = true := by decide +kernel
set_option maxRecDepth 100000 in
theorem mk_114 : MOK1 114 mr_114 := mok_mk ⟨"GatedPile$Net", "not", "(I)I"⟩ prog_7_method_4_code _ 1 6 "GatedPile$Net" cl_114 false rfl rfl rfl rfl dk_114 (by decide +kernel) (by decide +kernel) (by decide +kernel) ok_114 (plainFor_of_name (by decide +kernel)) (fun _ => ⟨6, _, rfl, rfl, rfl⟩)
/-- GatedPile$Net.and(II)I -/
def cl_115 : xCl := [(4, [(0, .aload_n 0, 1), (1, .aload_n 0, 1), (2, .iload_n 1, 1), (3, .iload_n 2, 1)]), (100000, [(4, .invokevirtual 40, 3), (7, .invokevirtual 43, 3), (10, .ireturn, 1)])]
set_option maxRecDepth 100000 in
theorem dk_115 : dkA cl_115 prog_7_method_5_code = true := by decide +kernel
set_option maxRecDepth 100000 in
theorem ok_115 : (ck pft pfn (look2 cl_115) ppl pmk 6 false 0 tr_115 0 0 0 0).isSome = true := by decide +kernel
set_option maxRecDepth 100000 in
theorem mk_115 : MOK1 115 mr_115 := mok_mk ⟨"GatedPile$Net", "and", "(II)I"⟩ prog_7_method_5_code _ 1 6 "GatedPile$Net" cl_115 false rfl rfl rfl rfl dk_115 (by decide +kernel) (by decide +kernel) (by decide +kernel) ok_115 (plainFor_of_name (by decide +kernel)) (fun _ => ⟨6, _, rfl, rfl, rfl⟩)
/-- GatedPile$Net.or(II)I -/
def cl_116 : xCl := [(6, [(0, .aload_n 0, 1), (1, .aload_n 0, 1), (2, .iload_n 1, 1), (3, .invokevirtual 43, 3)]), (14, [(6, .aload_n 0, 1), (7, .iload_n 2, 1), (8, .invokevirtual 43, 3), (11, .invokevirtual 40, 3)]), (100000, [(14, .ireturn, 1)])]
set_option maxRecDepth 100000 in
theorem dk_116 : dkA cl_116 prog_7_method_6_code = true := by decide +kernel
set_option maxRecDepth 100000 in
theorem ok_116 : (ck pft pfn (look2 cl_116) ppl pmk 6 false 0 tr_116 0 0 0 0).isSome = true := by decide +kernel
set_option maxRecDepth 100000 in
theorem mk_116 : MOK1 116 mr_116 := mok_mk ⟨"GatedPile$Net", "or", "(II)I"⟩ prog_7_method_6_code _ 1 6 "GatedPile$Net" cl_116 false rfl rfl rfl rfl dk_116 (by decide +kernel) (by decide +kernel) (by decide +kernel) ok_116 (plainFor_of_name (by decide +kernel)) (fun _ => ⟨6, _, rfl, rfl, rfl⟩)
/-- GatedPile$Net.xor(II)I -/
def cl_117 : xCl := [(6, [(0, .aload_n 0, 1), (1, .iload_n 1, 1), (2, .iload_n 2, 1), (3, .invokevirtual 40, 3)]), (10, [(6, .istore_n 3, 1), (7, .aload_n 0, 1), (8, .aload_n 0, 1), (9, .iload_n 1, 1)]), (16, [(10, .iload_n 3, 1), (11, .invokevirtual 40, 3), (14, .aload_n 0, 1), (15, .iload_n 2, 1)]), (100000, [(16, .iload_n 3, 1), (17, .invokevirtual 40, 3), (20, .invokevirtual 40, 3), (23, .ireturn, 1)])]
set_option maxRecDepth 100000 in
theorem dk_117 : dkA cl_117 prog_7_method_7_code = true := by decide +kernel
set_option maxRecDepth 100000 in
theorem ok_117 : (ck pft pfn (look2 cl_117) ppl pmk 6 false 0 tr_117 0 0 0 0).isSome = true := by decide +kernel
set_option maxRecDepth 100000 in
theorem mk_117 : MOK1 117 mr_117 := mok_mk ⟨"GatedPile$Net", "xor", "(II)I"⟩ prog_7_method_7_code _ 1 6 "GatedPile$Net" cl_117 false rfl rfl rfl rfl dk_117 (by decide +kernel) (by decide +kernel) (by decide +kernel) ok_117 (plainFor_of_name (by decide +kernel)) (fun _ => ⟨6, _, rfl, rfl, rfl⟩)
/-- GatedPile$Net.mux(III)I -/
def cl_118 : xCl := [(7, [(0, .aload_n 0, 1), (1, .iload_n 1, 1), (2, .invokevirtual 43, 3), (5, .istore 4, 2)]), (12, [(7, .aload_n 0, 1), (8, .aload_n 0, 1), (9, .iload_n 2, 1), (10, .iload 4, 2)]), (18, [(12, .invokevirtual 40, 3), (15, .aload_n 0, 1), (16, .iload_n 3, 1), (17, .iload_n 1, 1)]), (100000, [(18, .invokevirtual 40, 3), (21, .invokevirtual 40, 3), (24, .ireturn, 1)])]
set_option maxRecDepth 100000 in
theorem dk_118 : dkA cl_118 prog_7_method_8_code = true := by decide +kernel
set_option maxRecDepth 100000 in
theorem ok_118 : (ck pft pfn (look2 cl_118) ppl pmk 6 false 0 tr_118 0 0 0 0).isSome = true := by decide +kernel
set_option maxRecDepth 100000 in
theorem mk_118 : MOK1 118 mr_118 := mok_mk ⟨"GatedPile$Net", "mux", "(III)I"⟩ prog_7_method_8_code _ 1 6 "GatedPile$Net" cl_118 false rfl rfl rfl rfl dk_118 (by decide +kernel) (by decide +kernel) (by decide +kernel) ok_118 (plainFor_of_name (by decide +kernel)) (fun _ => ⟨6, _, rfl, rfl, rfl⟩)
/-- GatedPile$Net.full(III)I -/
def cl_119 : xCl := [(9, [(0, .aload_n 0, 1), (1, .iload_n 1, 1), (2, .iload_n 2, 1), (3, .invokevirtual 40, 3), (6, .istore 4, 2), (8, .aload_n 0, 1)]), (18, [(9, .aload_n 0, 1), (10, .iload_n 1, 1), (11, .iload 4, 2), (13, .invokevirtual 40, 3), (16, .aload_n 0, 1), (17, .iload_n 2, 1)]), (31, [(18, .iload 4, 2), (20, .invokevirtual 40, 3), (23, .invokevirtual 40, 3), (26, .istore 5, 2), (28, .aload_n 0, 1), (29, .iload 5, 2)]), (41, [(31, .iload_n 3, 1), (32, .invokevirtual 40, 3), (35, .istore 6, 2), (37, .aload_n 0, 1), (38, .aload_n 0, 1), (39, .iload 5, 2)]), (53, [(41, .iload 6, 2), (43, .invokevirtual 40, 3), (46, .aload_n 0, 1), (47, .iload_n 3, 1), (48, .iload 6, 2), (50, .invokevirtual 40, 3)]), (64, [(53, .invokevirtual 40, 3), (56, .istore 7, 2), (58, .aload_n 0, 1), (59, .aload_n 0, 1), (60, .iload 4, 2), (62, .iload 6, 2)]), (100000, [(64, .invokevirtual 40, 3), (67, .putfield 47, 3), (70, .iload 7, 2), (72, .ireturn, 1)])]
set_option maxRecDepth 100000 in
theorem dk_119 : dkA cl_119 prog_7_method_9_code = true := by decide +kernel
set_option maxRecDepth 100000 in
theorem ok_119 : (ck pft pfn (look2 cl_119) ppl pmk 6 false 0 tr_119 0 0 0 0).isSome = true := by decide +kernel
set_option maxRecDepth 100000 in
theorem mk_119 : MOK1 119 mr_119 := mok_mk ⟨"GatedPile$Net", "full", "(III)I"⟩ prog_7_method_9_code _ 1 6 "GatedPile$Net" cl_119 false rfl rfl rfl rfl dk_119 (by decide +kernel) (by decide +kernel) (by decide +kernel) ok_119 (plainFor_of_name (by decide +kernel)) (fun _ => ⟨6, _, rfl, rfl, rfl⟩)
/-- GatedPile$Net.sums([I[II)[I -/
def cl_120 : xCl := [(11, [(0, .bipush 16, 2), (2, .newarray .int, 2), (4, .astore 4, 2), (6, .aload_n 0, 1), (7, .iload_n 3, 1), (8, .putfield 47, 3)]), (23, [(11, .iconst 0, 1), (12, .istore 5, 2), (14, .iload 5, 2), (16, .bipush 16, 2), (18, .if_icmp .ge 44, 3), (21, .iload 5, 2)]), (32, [(23, .aload_n 1, 1), (24, .arraylength, 1), (25, .if_icmp .ge 37, 3), (28, .iload 5, 2), (30, .aload_n 2, 1), (31, .arraylength, 1)]), (43, [(32, .if_icmp .ge 30, 3), (35, .aload 4, 2), (37, .iload 5, 2), (39, .aload_n 0, 1), (40, .aload_n 1, 1), (41, .iload 5, 2)]), (52, [(43, .iaload, 1), (44, .aload_n 2, 1), (45, .iload 5, 2), (47, .iaload, 1), (48, .aload_n 0, 1), (49, .getfield 47, 3)]), (100000, [(52, .invokevirtual 50, 3), (55, .iastore, 1), (56, .iinc 5 1, 3), (59, .goto (-45), 3), (62, .aload 4, 2), (64, .areturn, 1)])]
set_option maxRecDepth 100000 in
theorem dk_120 : dkA cl_120 prog_7_method_10_code = true := by decide +kernel
set_option maxRecDepth 100000 in
theorem ok_120 : (ck pft pfn (look2 cl_120) ppl pmk 6 false 2 tr_120 0 0 0 0).isSome = true := by decide +kernel
set_option maxRecDepth 100000 in
theorem mk_120 : MOK1 120 mr_120 := mok_mk ⟨"GatedPile$Net", "sums", "([I[II)[I"⟩ prog_7_method_10_code _ 1 6 "GatedPile$Net" cl_120 false rfl rfl rfl rfl dk_120 (by decide +kernel) (by decide +kernel) (by decide +kernel) ok_120 (plainFor_of_name (by decide +kernel)) (fun _ => ⟨6, _, rfl, rfl, rfl⟩)
/-- GatedPile$Net.muxRow(I[I[I)[I -/
def cl_121 : xCl := [(9, [(0, .bipush 16, 2), (2, .newarray .int, 2), (4, .astore 4, 2), (6, .iconst 0, 1), (7, .istore 5, 2)]), (19, [(9, .iload 5, 2), (11, .bipush 16, 2), (13, .if_icmp .ge 41, 3), (16, .iload 5, 2), (18, .aload_n 2, 1)]), (27, [(19, .arraylength, 1), (20, .if_icmp .ge 34, 3), (23, .iload 5, 2), (25, .aload_n 3, 1), (26, .arraylength, 1)]), (36, [(27, .if_icmp .ge 27, 3), (30, .aload 4, 2), (32, .iload 5, 2), (34, .aload_n 0, 1), (35, .iload_n 1, 1)]), (43, [(36, .aload_n 2, 1), (37, .iload 5, 2), (39, .iaload, 1), (40, .aload_n 3, 1), (41, .iload 5, 2)]), (54, [(43, .iaload, 1), (44, .invokevirtual 54, 3), (47, .iastore, 1), (48, .iinc 5 1, 3), (51, .goto (-42), 3)]), (100000, [(54, .aload 4, 2), (56, .areturn, 1)])]
set_option maxRecDepth 100000 in
theorem dk_121 : dkA cl_121 prog_7_method_11_code = true := by decide +kernel
set_option maxRecDepth 100000 in
theorem ok_121 : (ck pft pfn (look2 cl_121) ppl pmk 6 false 2 tr_121 0 0 0 0).isSome = true := by decide +kernel
set_option maxRecDepth 100000 in
theorem mk_121 : MOK1 121 mr_121 := mok_mk ⟨"GatedPile$Net", "muxRow", "(I[I[I)[I"⟩ prog_7_method_11_code _ 1 6 "GatedPile$Net" cl_121 false rfl rfl rfl rfl dk_121 (by decide +kernel) (by decide +kernel) (by decide +kernel) ok_121 (plainFor_of_name (by decide +kernel)) (fun _ => ⟨6, _, rfl, rfl, rfl⟩)
/-- GatedPile$Net.become(II)V -/
def cl_122 : xCl := [(6, [(0, .iload_n 1, 1), (1, .iconst 2, 1), (2, .if_icmp .lt 17, 3), (5, .iload_n 1, 1)]), (16, [(6, .sipush 196, 3), (9, .if_icmp .ge 10, 3), (12, .aload_n 0, 1), (13, .getfield 15, 3)]), (100000, [(16, .iload_n 1, 1), (17, .iload_n 2, 1), (18, .iastore, 1), (19, .return_, 1)])]
set_option maxRecDepth 100000 in
theorem dk_122 : dkA cl_122 prog_7_method_12_code = true := by decide +kernel
set_option maxRecDepth 100000 in
theorem ok_122 : (ck pft pfn (look2 cl_122) ppl pmk 6 false 9 tr_122 0 0 0 0).isSome = true := by decide +kernel
set_option maxRecDepth 100000 in
theorem mk_122 : MOK1 122 mr_122 := mok_mk ⟨"GatedPile$Net", "become", "(II)V"⟩ prog_7_method_12_code _ 1 6 "GatedPile$Net" cl_122 false rfl rfl rfl rfl dk_122 (by decide +kernel) (by decide +kernel) (by decide +kernel) ok_122 (plainFor_of_name (by decide +kernel)) (fun _ => ⟨6, _, rfl, rfl, rfl⟩)
/-- GatedPile$Net.becomeRow(I[I)V -/
def cl_123 : xCl := [(4, [(0, .iconst 0, 1), (1, .istore_n 3, 1), (2, .iload_n 3, 1), (3, .aload_n 2, 1)]), (10, [(4, .arraylength, 1), (5, .if_icmp .ge 19, 3), (8, .aload_n 0, 1), (9, .iload_n 1, 1)]), (14, [(10, .iload_n 3, 1), (11, .iadd, 1), (12, .aload_n 2, 1), (13, .iload_n 3, 1)]), (24, [(14, .iaload, 1), (15, .invokevirtual 57, 3), (18, .iinc 3 1, 3), (21, .goto (-19), 3)]), (100000, [(24, .return_, 1)])]
set_option maxRecDepth 100000 in
theorem dk_123 : dkA cl_123 prog_7_method_13_code = true := by decide +kernel
set_option maxRecDepth 100000 in
theorem ok_123 : (ck pft pfn (look2 cl_123) ppl pmk 6 false 9 tr_123 0 0 0 0).isSome = true := by decide +kernel
set_option maxRecDepth 100000 in
theorem mk_123 : MOK1 123 mr_123 := mok_mk ⟨"GatedPile$Net", "becomeRow", "(I[I)V"⟩ prog_7_method_13_code _ 1 6 "GatedPile$Net" cl_123 false rfl rfl rfl rfl dk_123 (by decide +kernel) (by decide +kernel) (by decide +kernel) ok_123 (plainFor_of_name (by decide +kernel)) (fun _ => ⟨6, _, rfl, rfl, rfl⟩)
/-- GatedPile$Net.<init>()V -/
def cl_124 : xCl := [(8, [(0, .aload_n 0, 1), (1, .invokespecial 3, 3), (4, .aload_n 0, 1), (5, .sipush 212, 3)]), (17, [(8, .putfield 11, 3), (11, .aload_n 0, 1), (12, .sipush 4104, 3), (15, .newarray .int, 2)]), (26, [(17, .putfield 15, 3), (20, .aload_n 0, 1), (21, .sipush 4104, 3), (24, .newarray .int, 2)]), (35, [(26, .putfield 19, 3), (29, .aload_n 0, 1), (30, .sipush 4104, 3), (33, .newarray .int, 2)]), (44, [(35, .putfield 22, 3), (38, .aload_n 0, 1), (39, .sipush 4104, 3), (42, .newarray .int, 2)]), (100000, [(44, .putfield 25, 3), (47, .return_, 1)])]
set_option maxRecDepth 100000 in
theorem dk_124 : dkA cl_124 prog_7_method_1_code = true := by decide +kernel
set_option maxRecDepth 100000 in
theorem ok_124 : (ck pft pfn (look2 cl_124) ppl pmk 6 true 9 tr_124 0 0 0 0).isSome = true := by decide +kernel
set_option maxRecDepth 100000 in
theorem mk_124 : MOK1 124 mr_124 := mok_mk ⟨"GatedPile$Net", "<init>", "()V"⟩ prog_7_method_1_code _ 2 6 "GatedPile$Net" cl_124 true rfl rfl rfl rfl dk_124 (by decide +kernel) (by decide +kernel) (by decide +kernel) ok_124 (plainFor_of_name (by decide +kernel)) (fun z => absurd z (by decide))
/-- GatedPile$Text.<init>()V -/
def cl_125 : xCl := [(19, [(0, .aload_n 0, 1), (1, .invokespecial 5, 3), (4, .aload_n 0, 1), (5, .sipush 3000, 3), (8, .newarray .byte, 2), (10, .putfield 11, 3), (13, .aload_n 0, 1), (14, .sipush 3001, 3), (17, .newarray .int, 2)]), (40, [(19, .putfield 15, 3), (22, .aload_n 0, 1), (23, .sipush 3001, 3), (26, .newarray .int, 2), (28, .putfield 19, 3), (31, .aload_n 0, 1), (32, .sipush 3001, 3), (35, .newarray .int, 2), (37, .putfield 22, 3)]), (54, [(40, .aload_n 0, 1), (41, .bipush 13, 2), (43, .newarray .long, 2), (45, .dup, 1), (46, .iconst 0, 1), (47, .ldc 25, 2), (49, .invokestatic 27, 3), (52, .lastore, 1), (53, .dup, 1)]), (69, [(54, .iconst 1, 1), (55, .ldc 33, 2), (57, .invokestatic 27, 3), (60, .lastore, 1), (61, .dup, 1), (62, .iconst 2, 1), (63, .ldc 35, 2), (65, .invokestatic 27, 3), (68, .lastore, 1)]), (84, [(69, .dup, 1), (70, .iconst 3, 1), (71, .ldc 37, 2), (73, .invokestatic 27, 3), (76, .lastore, 1), (77, .dup, 1), (78, .iconst 4, 1), (79, .ldc 39, 2), (81, .invokestatic 27, 3)]), (98, [(84, .lastore, 1), (85, .dup, 1), (86, .iconst 5, 1), (87, .ldc 41, 2), (89, .invokestatic 27, 3), (92, .lastore, 1), (93, .dup, 1), (94, .bipush 6, 2), (96, .ldc 43, 2)]), (114, [(98, .invokestatic 27, 3), (101, .lastore, 1), (102, .dup, 1), (103, .bipush 7, 2), (105, .ldc 45, 2), (107, .invokestatic 27, 3), (110, .lastore, 1), (111, .dup, 1), (112, .bipush 8, 2)]), (130, [(114, .ldc 47, 2), (116, .invokestatic 27, 3), (119, .lastore, 1), (120, .dup, 1), (121, .bipush 9, 2), (123, .ldc 49, 2), (125, .invokestatic 27, 3), (128, .lastore, 1), (129, .dup, 1)]), (147, [(130, .bipush 10, 2), (132, .ldc 51, 2), (134, .invokestatic 27, 3), (137, .lastore, 1), (138, .dup, 1), (139, .bipush 11, 2), (141, .ldc 53, 2), (143, .invokestatic 27, 3), (146, .lastore, 1)]), (100000, [(147, .dup, 1), (148, .bipush 12, 2), (150, .ldc 55, 2), (152, .invokestatic 27, 3), (155, .lastore, 1), (156, .putfield 57, 3), (159, .return_, 1)])]
set_option maxRecDepth 100000 in
theorem dk_125 : dkA cl_125 prog_8_method_1_code = true := by decide +kernel
set_option maxRecDepth 100000 in
theorem ok_125 : (ck pft pfn (look2 cl_125) ppl pmk 7 true 9 tr_125 0 0 0 0).isSome = true := by decide +kernel
set_option maxRecDepth 100000 in
theorem mk_125 : MOK1 125 mr_125 := mok_mk ⟨"GatedPile$Text", "<init>", "()V"⟩ prog_8_method_1_code _ 2 7 "GatedPile$Text" cl_125 true rfl rfl rfl rfl dk_125 (by decide +kernel) (by decide +kernel) (by decide +kernel) ok_125 (plainFor_of_name (by decide +kernel)) (fun z => absurd z (by decide))
/-- GatedPile$Text.hasRoomFor(I)Z -/
def cl_126 : xCl := [(6, [(0, .aload_n 0, 1), (1, .getfield 61, 3), (4, .iload_n 1, 1), (5, .iadd, 1)]), (16, [(6, .sipush 3000, 3), (9, .if_icmp .gt 7, 3), (12, .iconst 1, 1), (13, .goto 4, 3)]), (100000, [(16, .iconst 0, 1), (17, .ireturn, 1)])]
set_option maxRecDepth 100000 in
theorem dk_126 : dkA cl_126 prog_8_method_2_code = true := by decide +kernel
set_option maxRecDepth 100000 in
theorem ok_126 : (ck pft pfn (look2 cl_126) ppl pmk 7 false 3 tr_126 0 0 0 0).isSome = true := by decide +kernel
set_option maxRecDepth 100000 in
theorem mk_126 : MOK1 126 mr_126 := mok_mk ⟨"GatedPile$Text", "hasRoomFor", "(I)Z"⟩ prog_8_method_2_code _ 1 7 "GatedPile$Text" cl_126 false rfl rfl rfl rfl dk_126 (by decide +kernel) (by decide +kernel) (by decide +kernel) ok_126 (plainFor_of_name (by decide +kernel)) (fun _ => ⟨7, _, rfl, rfl, rfl⟩)
/-- GatedPile$Text.take(I)V -/
def cl_127 : xCl := [(8, [(0, .bipush 24, 2), (2, .istore_n 2, 1), (3, .iload_n 2, 1), (4, .ifCond .lt 42, 3), (7, .aload_n 0, 1)]), (21, [(8, .getfield 61, 3), (11, .sipush 3000, 3), (14, .if_icmp .ge 32, 3), (17, .aload_n 0, 1), (18, .getfield 11, 3)]), (28, [(21, .aload_n 0, 1), (22, .getfield 61, 3), (25, .iload_n 1, 1), (26, .iload_n 2, 1), (27, .ishr, 1)]), (35, [(28, .i2b, 1), (29, .bastore, 1), (30, .aload_n 0, 1), (31, .dup, 1), (32, .getfield 61, 3)]), (46, [(35, .iconst 1, 1), (36, .iadd, 1), (37, .putfield 61, 3), (40, .iinc 2 (-8), 3), (43, .goto (-40), 3)]), (100000, [(46, .return_, 1)])]
set_option maxRecDepth 100000 in
theorem dk_127 : dkA cl_127 prog_8_method_3_code = true := by decide +kernel
set_option maxRecDepth 100000 in
theorem ok_127 : (ck pft pfn (look2 cl_127) ppl pmk 7 false 9 tr_127 0 0 0 0).isSome = true := by decide +kernel
set_option maxRecDepth 100000 in
theorem mk_127 : MOK1 127 mr_127 := mok_mk ⟨"GatedPile$Text", "take", "(I)V"⟩ prog_8_method_3_code _ 1 7 "GatedPile$Text" cl_127 false rfl rfl rfl rfl dk_127 (by decide +kernel) (by decide +kernel) (by decide +kernel) ok_127 (plainFor_of_name (by decide +kernel)) (fun _ => ⟨7, _, rfl, rfl, rfl⟩)
/-- GatedPile$Text.kindOf(I)I -/
def cl_128 : xCl := [(6, [(0, .iload_n 1, 1), (1, .ifCond .lt 11, 3), (4, .iload_n 1, 1), (5, .aload_n 0, 1)]), (16, [(6, .getfield 65, 3), (9, .if_icmp .lt 7, 3), (12, .iconst 0, 1), (13, .goto 9, 3)]), (22, [(16, .aload_n 0, 1), (17, .getfield 15, 3), (20, .iload_n 1, 1), (21, .iaload, 1)]), (100000, [(22, .ireturn, 1)])]
set_option maxRecDepth 100000 in
theorem dk_128 : dkA cl_128 prog_8_method_4_code = true := by decide +kernel
set_option maxRecDepth 100000 in
theorem ok_128 : (ck pft pfn (look2 cl_128) ppl pmk 7 false 0 tr_128 0 0 0 0).isSome = true := by decide +kernel
set_option maxRecDepth 100000 in
theorem mk_128 : MOK1 128 mr_128 := mok_mk ⟨"GatedPile$Text", "kindOf", "(I)I"⟩ prog_8_method_4_code _ 1 7 "GatedPile$Text" cl_128 false rfl rfl rfl rfl dk_128 (by decide +kernel) (by decide +kernel) (by decide +kernel) ok_128 (plainFor_of_name (by decide +kernel)) (fun _ => ⟨7, _, rfl, rfl, rfl⟩)
/-- GatedPile$Text.placeOf(I)I -/
def cl_129 : xCl := [(6, [(0, .iload_n 1, 1), (1, .ifCond .lt 11, 3), (4, .iload_n 1, 1), (5, .aload_n 0, 1)]), (16, [(6, .getfield 65, 3), (9, .if_icmp .lt 10, 3), (12, .aload_n 0, 1), (13, .getfield 61, 3)]), (24, [(16, .goto 9, 3), (19, .aload_n 0, 1), (20, .getfield 19, 3), (23, .iload_n 1, 1)]), (100000, [(24, .iaload, 1), (25, .ireturn, 1)])]
set_option maxRecDepth 100000 in
theorem dk_129 : dkA cl_129 prog_8_method_5_code = true := by decide +kernel
set_option maxRecDepth 100000 in
theorem ok_129 : (ck pft pfn (look2 cl_129) ppl pmk 7 false 0 tr_129 0 0 0 0).isSome = true := by decide +kernel
set_option maxRecDepth 100000 in
theorem mk_129 : MOK1 129 mr_129 := mok_mk ⟨"GatedPile$Text", "placeOf", "(I)I"⟩ prog_8_method_5_code _ 1 7 "GatedPile$Text" cl_129 false rfl rfl rfl rfl dk_129 (by decide +kernel) (by decide +kernel) (by decide +kernel) ok_129 (plainFor_of_name (by decide +kernel)) (fun _ => ⟨7, _, rfl, rfl, rfl⟩)
/-- GatedPile$Text.valueOf(I)I -/
def cl_130 : xCl := [(6, [(0, .iload_n 1, 1), (1, .ifCond .lt 11, 3), (4, .iload_n 1, 1), (5, .aload_n 0, 1)]), (16, [(6, .getfield 65, 3), (9, .if_icmp .lt 7, 3), (12, .iconst 0, 1), (13, .goto 9, 3)]), (22, [(16, .aload_n 0, 1), (17, .getfield 22, 3), (20, .iload_n 1, 1), (21, .iaload, 1)]), (100000, [(22, .ireturn, 1)])]
set_option maxRecDepth 100000 in
theorem dk_130 : dkA cl_130 prog_8_method_6_code = true := by decide +kernel
set_option maxRecDepth 100000 in
theorem ok_130 : (ck pft pfn (look2 cl_130) ppl pmk 7 false 0 tr_130 0 0 0 0).isSome = true := by decide +kernel
set_option maxRecDepth 100000 in
theorem mk_130 : MOK1 130 mr_130 := mok_mk ⟨"GatedPile$Text", "valueOf", "(I)I"⟩ prog_8_method_6_code _ 1 7 "GatedPile$Text" cl_130 false rfl rfl rfl rfl dk_130 (by decide +kernel) (by decide +kernel) (by decide +kernel) ok_130 (plainFor_of_name (by decide +kernel)) (fun _ => ⟨7, _, rfl, rfl, rfl⟩)
/-- GatedPile$Text.setValue(II)V -/
def cl_131 : xCl := [(6, [(0, .iload_n 1, 1), (1, .ifCond .lt 18, 3), (4, .iload_n 1, 1), (5, .aload_n 0, 1)]), (16, [(6, .getfield 65, 3), (9, .if_icmp .ge 10, 3), (12, .aload_n 0, 1), (13, .getfield 22, 3)]), (100000, [(16, .iload_n 1, 1), (17, .iload_n 2, 1), (18, .iastore, 1), (19, .return_, 1)])]
set_option maxRecDepth 100000 in
theorem dk_131 : dkA cl_131 prog_8_method_7_code = true := by decide +kernel
set_option maxRecDepth 100000 in
theorem ok_131 : (ck pft pfn (look2 cl_131) ppl pmk 7 false 9 tr_131 0 0 0 0).isSome = true := by decide +kernel
set_option maxRecDepth 100000 in
theorem mk_131 : MOK1 131 mr_131 := mok_mk ⟨"GatedPile$Text", "setValue", "(II)V"⟩ prog_8_method_7_code _ 1 7 "GatedPile$Text" cl_131 false rfl rfl rfl rfl dk_131 (by decide +kernel) (by decide +kernel) (by decide +kernel) ok_131 (plainFor_of_name (by decide +kernel)) (fun _ => ⟨7, _, rfl, rfl, rfl⟩)
/-- GatedPile$Text.behindBlock(I)I -/
def cl_132 : xCl := [(7, [(0, .aload_n 0, 1), (1, .iload_n 1, 1), (2, .invokevirtual 68, 3), (5, .bipush 123, 2)]), (15, [(7, .if_icmp .ne 13, 3), (10, .aload_n 0, 1), (11, .iload_n 1, 1), (12, .invokevirtual 72, 3)]), (21, [(15, .iconst 1, 1), (16, .iadd, 1), (17, .goto 7, 3), (20, .aload_n 0, 1)]), (100000, [(21, .getfield 65, 3), (24, .ireturn, 1)])]
set_option maxRecDepth 100000 in
theorem dk_132 : dkA cl_132 prog_8_method_8_code = true := by decide +kernel
set_option maxRecDepth 100000 in
theorem ok_132 : (ck pft pfn (look2 cl_132) ppl pmk 7 false 0 tr_132 0 0 0 0).isSome = true := by decide +kernel
set_option maxRecDepth 100000 in
theorem mk_132 : MOK1 132 mr_132 := mok_mk ⟨"GatedPile$Text", "behindBlock", "(I)I"⟩ prog_8_method_8_code _ 1 7 "GatedPile$Text" cl_132 false rfl rfl rfl rfl dk_132 (by decide +kernel) (by decide +kernel) (by decide +kernel) ok_132 (plainFor_of_name (by decide +kernel)) (fun _ => ⟨7, _, rfl, rfl, rfl⟩)
/-- GatedPile$Text.comparisonOf(I)I -/
def cl_133 : xCl := [(62, [(0, .iload_n 0, 1), (1, .lookupswitch 71 #[(60, 59), (62, 61), (289, 69), (316, 63), (317, 67), (318, 65)], 59), (60, .iconst 0, 1), (61, .ireturn, 1)]), (66, [(62, .iconst 1, 1), (63, .ireturn, 1), (64, .iconst 2, 1), (65, .ireturn, 1)]), (70, [(66, .iconst 3, 1), (67, .ireturn, 1), (68, .iconst 4, 1), (69, .ireturn, 1)]), (100000, [(70, .iconst 5, 1), (71, .ireturn, 1), (72, .iconst (-1), 1), (73, .ireturn, 1)])]
set_option maxRecDepth 100000 in
theorem dk_133 : dkA cl_133 prog_8_method_9_code = true := by decide +kernel
set_option maxRecDepth 100000 in
theorem ok_133 : (ck pft pfn (look2 cl_133) ppl pmk 7 false 0 tr_133 0 0 0 0).isSome = true := by decide +kernel
set_option maxRecDepth 100000 in
theorem mk_133 : MOK1 133 mr_133 := mok_mk ⟨"GatedPile$Text", "comparisonOf", "(I)I"⟩ prog_8_method_9_code _ 0 7 "GatedPile$Text" cl_133 false rfl rfl rfl rfl dk_133 (by decide +kernel) (by decide +kernel) (by decide +kernel) ok_133 (plainFor_of_name (by decide +kernel)) (fun z => absurd z (by decide))
/-- GatedPile$Text.cut(LGatedPile$Tops;)V -/
def cl_134 : xCl := [(7, [(0, .aload_n 0, 1), (1, .iconst 0, 1), (2, .putfield 65, 3), (5, .iconst 0, 1), (6, .istore_n 2, 1)]), (16, [(7, .sipush 3000, 3), (10, .istore_n 3, 1), (11, .iload_n 3, 1), (12, .ifCond .le 38, 3), (15, .iload_n 2, 1)]), (25, [(16, .aload_n 0, 1), (17, .getfield 61, 3), (20, .if_icmp .ge 30, 3), (23, .aload_n 0, 1), (24, .iload_n 2, 1)]), (34, [(25, .invokevirtual 75, 3), (28, .istore_n 2, 1), (29, .iload_n 2, 1), (30, .aload_n 0, 1), (31, .getfield 61, 3)]), (43, [(34, .if_icmp .ge 10, 3), (37, .aload_n 0, 1), (38, .iload_n 2, 1), (39, .aload_n 1, 1), (40, .invokevirtual 78, 3)]), (52, [(43, .istore_n 2, 1), (44, .iinc 3 (-1), 3), (47, .goto (-36), 3), (50, .aload_n 0, 1), (51, .iconst 0, 1)]), (100000, [(52, .aload_n 0, 1), (53, .getfield 61, 3), (56, .iconst 0, 1), (57, .invokevirtual 82, 3), (60, .return_, 1)])]
set_option maxRecDepth 100000 in
theorem dk_134 : dkA cl_134 prog_8_method_10_code = true := by decide +kernel
set_option maxRecDepth 100000 in
theorem ok_134 : (ck pft pfn (look2 cl_134) ppl pmk 7 false 9 tr_134 0 0 0 0).isSome = true := by decide +kernel
set_option maxRecDepth 100000 in
theorem mk_134 : MOK1 134 mr_134 := mok_mk ⟨"GatedPile$Text", "cut", "(LGatedPile$Tops;)V"⟩ prog_8_method_10_code _ 1 7 "GatedPile$Text" cl_134 false rfl rfl rfl rfl dk_134 (by decide +kernel) (by decide +kernel) (by decide +kernel) ok_134 (plainFor_of_name (by decide +kernel)) (fun _ => ⟨7, _, rfl, rfl, rfl⟩)
/-- GatedPile$Text.byteAt(I)I -/
def cl_135 : xCl := [(6, [(0, .iload_n 1, 1), (1, .ifCond .lt 18, 3), (4, .iload_n 1, 1), (5, .aload_n 0, 1)]), (16, [(6, .getfield 61, 3), (9, .if_icmp .ge 10, 3), (12, .iload_n 1, 1), (13, .sipush 3000, 3)]), (24, [(16, .if_icmp .lt 7, 3), (19, .iconst (-1), 1), (20, .goto 13, 3), (23, .aload_n 0, 1)]), (32, [(24, .getfield 11, 3), (27, .iload_n 1, 1), (28, .baload, 1), (29, .sipush 255, 3)]), (100000, [(32, .iand, 1), (33, .ireturn, 1)])]
set_option maxRecDepth 100000 in
theorem dk_135 : dkA cl_135 prog_8_method_11_code = true := by decide +kernel
set_option maxRecDepth 100000 in
theorem ok_135 : (ck pft pfn (look2 cl_135) ppl pmk 7 false 0 tr_135 0 0 0 0).isSome = true := by decide +kernel
set_option maxRecDepth 100000 in
theorem mk_135 : MOK1 135 mr_135 := mok_mk ⟨"GatedPile$Text", "byteAt", "(I)I"⟩ prog_8_method_11_code _ 1 7 "GatedPile$Text" cl_135 false rfl rfl rfl rfl dk_135 (by decide +kernel) (by decide +kernel) (by decide +kernel) ok_135 (plainFor_of_name (by decide +kernel)) (fun _ => ⟨7, _, rfl, rfl, rfl⟩)
/-- GatedPile$Text.add(III)V -/
def cl_136 : xCl := [(11, [(0, .aload_n 0, 1), (1, .getfield 65, 3), (4, .sipush 3000, 3), (7, .if_icmp .le 4, 3), (10, .return_, 1)]), (20, [(11, .aload_n 0, 1), (12, .getfield 15, 3), (15, .aload_n 0, 1), (16, .getfield 65, 3), (19, .iload_n 1, 1)]), (29, [(20, .iastore, 1), (21, .aload_n 0, 1), (22, .getfield 19, 3), (25, .aload_n 0, 1), (26, .getfield 65, 3)]), (36, [(29, .iload_n 2, 1), (30, .iastore, 1), (31, .aload_n 0, 1), (32, .getfield 22, 3), (35, .aload_n 0, 1)]), (43, [(36, .getfield 65, 3), (39, .iload_n 3, 1), (40, .iastore, 1), (41, .aload_n 0, 1), (42, .dup, 1)]), (100000, [(43, .getfield 65, 3), (46, .iconst 1, 1), (47, .iadd, 1), (48, .putfield 65, 3), (51, .return_, 1)])]
set_option maxRecDepth 100000 in
theorem dk_136 : dkA cl_136 prog_8_method_12_code = true := by decide +kernel
set_option maxRecDepth 100000 in
theorem ok_136 : (ck pft pfn (look2 cl_136) ppl pmk 7 false 9 tr_136 0 0 0 0).isSome = true := by decide +kernel
set_option maxRecDepth 100000 in
theorem mk_136 : MOK1 136 mr_136 := mok_mk ⟨"GatedPile$Text", "add", "(III)V"⟩ prog_8_method_12_code _ 1 7 "GatedPile$Text" cl_136 false rfl rfl rfl rfl dk_136 (by decide +kernel) (by decide +kernel) (by decide +kernel) ok_136 (plainFor_of_name (by decide +kernel)) (fun _ => ⟨7, _, rfl, rfl, rfl⟩)
/-- GatedPile$Text.pastBlanks(I)I -/
def cl_137 : xCl := [(6, [(0, .iconst 0, 1), (1, .istore_n 2, 1), (2, .iload_n 1, 1), (3, .istore_n 3, 1), (4, .iload_n 3, 1), (5, .aload_n 0, 1)]), (19, [(6, .getfield 61, 3), (9, .if_icmp .ge 67, 3), (12, .aload_n 0, 1), (13, .iload_n 3, 1), (14, .invokevirtual 86, 3), (17, .istore 4, 2)]), (31, [(19, .iload 4, 2), (21, .bipush 35, 2), (23, .if_icmp .ne 8, 3), (26, .iconst 1, 1), (27, .istore_n 2, 1), (28, .goto 42, 3)]), (43, [(31, .iload 4, 2), (33, .bipush 10, 2), (35, .if_icmp .ne 8, 3), (38, .iconst 0, 1), (39, .istore_n 2, 1), (40, .goto 30, 3)]), (56, [(43, .iload_n 2, 1), (44, .ifCond .ne 26, 3), (47, .iload 4, 2), (49, .bipush 9, 2), (51, .if_icmp .eq 19, 3), (54, .iload 4, 2)]), (69, [(56, .bipush 13, 2), (58, .if_icmp .eq 12, 3), (61, .iload 4, 2), (63, .bipush 32, 2), (65, .if_icmp .eq 5, 3), (68, .iload_n 3, 1)]), (100000, [(69, .ireturn, 1), (70, .iinc 3 1, 3), (73, .goto (-69), 3), (76, .aload_n 0, 1), (77, .getfield 61, 3), (80, .ireturn, 1)])]
set_option maxRecDepth 100000 in
theorem dk_137 : dkA cl_137 prog_8_method_13_code = true := by decide +kernel
set_option maxRecDepth 100000 in
theorem ok_137 : (ck pft pfn (look2 cl_137) ppl pmk 7 false 0 tr_137 0 0 0 0).isSome = true := by decide +kernel
set_option maxRecDepth 100000 in
theorem mk_137 : MOK1 137 mr_137 := mok_mk ⟨"GatedPile$Text", "pastBlanks", "(I)I"⟩ prog_8_method_13_code _ 1 7 "GatedPile$Text" cl_137 false rfl rfl rfl rfl dk_137 (by decide +kernel) (by decide +kernel) (by decide +kernel) ok_137 (plainFor_of_name (by decide +kernel)) (fun _ => ⟨7, _, rfl, rfl, rfl⟩)
/-- GatedPile$Text.cutToken(ILGatedPile$Tops;)I -/
def cl_138 : xCl := [(6, [(0, .aload_n 0, 1), (1, .iload_n 1, 1), (2, .invokevirtual 86, 3), (5, .istore_n 3, 1)]), (14, [(6, .iload_n 3, 1), (7, .invokestatic 89, 3), (10, .ifCond .eq 10, 3), (13, .aload_n 0, 1)]), (20, [(14, .iload_n 1, 1), (15, .aload_n 2, 1), (16, .invokevirtual 93, 3), (19, .ireturn, 1)]), (28, [(20, .iload_n 3, 1), (21, .invokestatic 96, 3), (24, .ifCond .eq 11, 3), (27, .aload_n 0, 1)]), (36, [(28, .iload_n 1, 1), (29, .invokevirtual 99, 3), (32, .goto 8, 3), (35, .aload_n 0, 1)]), (100000, [(36, .iload_n 1, 1), (37, .invokevirtual 102, 3), (40, .ireturn, 1)])]
set_option maxRecDepth 100000 in
theorem dk_138 : dkA cl_138 prog_8_method_14_code = true := by decide +kernel
set_option maxRecDepth 100000 in
theorem ok_138 : (ck pft pfn (look2 cl_138) ppl pmk 7 false 0 tr_138 0 0 0 0).isSome = true := by decide +kernel
set_option maxRecDepth 100000 in
theorem mk_138 : MOK1 138 mr_138 := mok_mk ⟨"GatedPile$Text", "cutToken", "(ILGatedPile$Tops;)I"⟩ prog_8_method_14_code _ 1 7 "GatedPile$Text" cl_138 false rfl rfl rfl rfl dk_138 (by decide +kernel) (by decide +kernel) (by decide +kernel) ok_138 (plainFor_of_name (by decide +kernel)) (fun _ => ⟨7, _, rfl, rfl, rfl⟩)
/-- GatedPile$Text.cutWord(ILGatedPile$Tops;)I -/
def cl_139 : xCl := [(14, [(0, .lconst 0, 1), (1, .lstore_n 3, 1), (2, .iload_n 1, 1), (3, .istore 5, 2), (5, .iload 5, 2), (7, .aload_n 0, 1), (8, .getfield 61, 3), (11, .if_icmp .ge 66, 3)]), (32, [(14, .aload_n 0, 1), (15, .iload 5, 2), (17, .invokevirtual 86, 3), (20, .invokestatic 89, 3), (23, .ifCond .ne 15, 3), (26, .aload_n 0, 1), (27, .iload 5, 2), (29, .invokevirtual 86, 3)]), (48, [(32, .invokestatic 96, 3), (35, .ifCond .eq 42, 3), (38, .iload 5, 2), (40, .iload_n 1, 1), (41, .isub, 1), (42, .bipush 12, 2), (44, .if_icmp .lt 16, 3), (47, .aload_n 0, 1)]), (61, [(48, .iconst 1, 1), (49, .iload 5, 2), (51, .iconst 0, 1), (52, .invokevirtual 82, 3), (55, .aload_n 0, 1), (56, .getfield 61, 3), (59, .ireturn, 1), (60, .lload_n 3, 1)]), (78, [(61, .aload_n 0, 1), (62, .iload 5, 2), (64, .invokevirtual 86, 3), (67, .invokestatic 105, 3), (70, .lstore_n 3, 1), (71, .iinc 5 1, 3), (74, .goto (-69), 3), (77, .iconst 0, 1)]), (94, [(78, .istore 6, 2), (80, .iload 6, 2), (82, .aload_n 0, 1), (83, .getfield 57, 3), (86, .arraylength, 1), (87, .if_icmp .ge 34, 3), (90, .aload_n 0, 1), (91, .getfield 57, 3)]), (106, [(94, .iload 6, 2), (96, .laload, 1), (97, .lload_n 3, 1), (98, .lcmp, 1), (99, .ifCond .ne 16, 3), (102, .aload_n 0, 1), (103, .iconst 4, 1), (104, .iload 6, 2)]), (121, [(106, .iadd, 1), (107, .iload_n 1, 1), (108, .iconst 0, 1), (109, .invokevirtual 82, 3), (112, .iload 5, 2), (114, .ireturn, 1), (115, .iinc 6 1, 3), (118, .goto (-38), 3)]), (134, [(121, .aload_n 0, 1), (122, .iconst 2, 1), (123, .iload_n 1, 1), (124, .aload_n 2, 1), (125, .lload_n 3, 1), (126, .invokevirtual 109, 3), (129, .invokevirtual 82, 3), (132, .iload 5, 2)]), (100000, [(134, .ireturn, 1)])]
set_option maxRecDepth 100000 in
theorem dk_139 : dkA cl_139 prog_8_method_15_code = true := by decide +kernel
set_option maxRecDepth 100000 in
theorem ok_139 : (ck pft pfn (look2 cl_139) ppl pmk 7 false 0 tr_139 0 0 0 0).isSome = true := by decide +kernel
set_option maxRecDepth 100000 in
theorem mk_139 : MOK1 139 mr_139 := mok_mk ⟨"GatedPile$Text", "cutWord", "(ILGatedPile$Tops;)I"⟩ prog_8_method_15_code _ 1 7 "GatedPile$Text" cl_139 false rfl rfl rfl rfl dk_139 (by decide +kernel) (by decide +kernel) (by decide +kernel) ok_139 (plainFor_of_name (by decide +kernel)) (fun _ => ⟨7, _, rfl, rfl, rfl⟩)
/-- GatedPile$Text.cutNumber(I)I -/
def cl_140 : xCl := [(6, [(0, .iconst 0, 1), (1, .istore_n 2, 1), (2, .iload_n 1, 1), (3, .istore_n 3, 1), (4, .iload_n 3, 1), (5, .aload_n 0, 1)]), (20, [(6, .getfield 61, 3), (9, .if_icmp .ge 39, 3), (12, .aload_n 0, 1), (13, .iload_n 3, 1), (14, .invokevirtual 86, 3), (17, .invokestatic 96, 3)]), (29, [(20, .ifCond .eq 28, 3), (23, .iload_n 2, 1), (24, .bipush 10, 2), (26, .imul, 1), (27, .aload_n 0, 1), (28, .iload_n 3, 1)]), (41, [(29, .invokevirtual 86, 3), (32, .iadd, 1), (33, .bipush 48, 2), (35, .isub, 1), (36, .ldc 113, 2), (38, .invokestatic 114, 3)]), (55, [(41, .istore_n 2, 1), (42, .iinc 3 1, 3), (45, .goto (-41), 3), (48, .iload_n 2, 1), (49, .sipush 32767, 3), (52, .if_icmp .le 15, 3)]), (63, [(55, .aload_n 0, 1), (56, .iconst 1, 1), (57, .iload_n 1, 1), (58, .iconst 0, 1), (59, .invokevirtual 82, 3), (62, .aload_n 0, 1)]), (71, [(63, .getfield 61, 3), (66, .ireturn, 1), (67, .aload_n 0, 1), (68, .iconst 3, 1), (69, .iload_n 1, 1), (70, .iload_n 2, 1)]), (100000, [(71, .invokevirtual 82, 3), (74, .iload_n 3, 1), (75, .ireturn, 1)])]
set_option maxRecDepth 100000 in
theorem dk_140 : dkA cl_140 prog_8_method_16_code = true := by decide +kernel
set_option maxRecDepth 100000 in
theorem ok_140 : (ck pft pfn (look2 cl_140) ppl pmk 7 false 0 tr_140 0 0 0 0).isSome = true := by decide +kernel
set_option maxRecDepth 100000 in
theorem mk_140 : MOK1 140 mr_140 := mok_mk ⟨"GatedPile$Text", "cutNumber", "(I)I"⟩ prog_8_method_16_code _ 1 7 "GatedPile$Text" cl_140 false rfl rfl rfl rfl dk_140 (by decide +kernel) (by decide +kernel) (by decide +kernel) ok_140 (plainFor_of_name (by decide +kernel)) (fun _ => ⟨7, _, rfl, rfl, rfl⟩)
/-- GatedPile$Text.cutSign(I)I -/
def cl_141 : xCl := [(12, [(0, .aload_n 0, 1), (1, .iload_n 1, 1), (2, .invokevirtual 86, 3), (5, .istore_n 2, 1), (6, .iload_n 2, 1), (7, .bipush 61, 2), (9, .if_icmp .eq 21, 3)]), (25, [(12, .iload_n 2, 1), (13, .bipush 33, 2), (15, .if_icmp .eq 15, 3), (18, .iload_n 2, 1), (19, .bipush 60, 2), (21, .if_icmp .eq 9, 3), (24, .iload_n 2, 1)]), (37, [(25, .bipush 62, 2), (27, .if_icmp .ne 7, 3), (30, .iconst 1, 1), (31, .goto 4, 3), (34, .iconst 0, 1), (35, .istore_n 3, 1), (36, .iload_n 3, 1)]), (49, [(37, .ifCond .eq 30, 3), (40, .aload_n 0, 1), (41, .iload_n 1, 1), (42, .iconst 1, 1), (43, .iadd, 1), (44, .invokevirtual 86, 3), (47, .bipush 61, 2)]), (60, [(49, .if_icmp .ne 18, 3), (52, .aload_n 0, 1), (53, .sipush 256, 3), (56, .iload_n 2, 1), (57, .iadd, 1), (58, .iload_n 1, 1), (59, .iconst 0, 1)]), (70, [(60, .invokevirtual 82, 3), (63, .iload_n 1, 1), (64, .iconst 2, 1), (65, .iadd, 1), (66, .ireturn, 1), (67, .ldc 120, 2), (69, .iload_n 2, 1)]), (81, [(70, .i2c, 1), (71, .invokevirtual 122, 3), (74, .ifCond .ge 15, 3), (77, .aload_n 0, 1), (78, .iconst 1, 1), (79, .iload_n 1, 1), (80, .iconst 0, 1)]), (92, [(81, .invokevirtual 82, 3), (84, .aload_n 0, 1), (85, .getfield 61, 3), (88, .ireturn, 1), (89, .aload_n 0, 1), (90, .iload_n 2, 1), (91, .iload_n 1, 1)]), (100000, [(92, .iconst 0, 1), (93, .invokevirtual 82, 3), (96, .iload_n 1, 1), (97, .iconst 1, 1), (98, .iadd, 1), (99, .ireturn, 1)])]
set_option maxRecDepth 100000 in
theorem dk_141 : dkA cl_141 prog_8_method_17_code = true := by decide +kernel
set_option maxRecDepth 100000 in
theorem ok_141 : (ck pft pfn (look2 cl_141) ppl pmk 7 false 0 tr_141 0 0 0 0).isSome = true := by decide +kernel
set_option maxRecDepth 100000 in
theorem mk_141 : MOK1 141 mr_141 := mok_mk ⟨"GatedPile$Text", "cutSign", "(I)I"⟩ prog_8_method_17_code _ 1 7 "GatedPile$Text" cl_141 false rfl rfl rfl rfl dk_141 (by decide +kernel) (by decide +kernel) (by decide +kernel) ok_141 (plainFor_of_name (by decide +kernel)) (fun _ => ⟨7, _, rfl, rfl, rfl⟩)
/-- GatedPile$Text.isLetter(I)Z -/
def cl_142 : xCl := [(7, [(0, .iload_n 0, 1), (1, .bipush 97, 2), (3, .if_icmp .lt 13, 3), (6, .iload_n 0, 1)]), (16, [(7, .bipush 122, 2), (9, .if_icmp .gt 7, 3), (12, .iconst 1, 1), (13, .goto 4, 3)]), (100000, [(16, .iconst 0, 1), (17, .ireturn, 1)])]
set_option maxRecDepth 100000 in
theorem dk_142 : dkA cl_142 prog_8_method_18_code = true := by decide +kernel
set_option maxRecDepth 100000 in
theorem ok_142 : (ck pft pfn (look2 cl_142) ppl pmk 7 false 3 tr_142 0 0 0 0).isSome = true := by decide +kernel
set_option maxRecDepth 100000 in
theorem mk_142 : MOK1 142 mr_142 := mok_mk ⟨"GatedPile$Text", "isLetter", "(I)Z"⟩ prog_8_method_18_code _ 0 7 "GatedPile$Text" cl_142 false rfl rfl rfl rfl dk_142 (by decide +kernel) (by decide +kernel) (by decide +kernel) ok_142 (plainFor_of_name (by decide +kernel)) (fun z => absurd z (by decide))
set_option maxRecDepth 100000 in
theorem ma_3 : AllM 103 ml_3 := AllM_cons mk_103 (AllM_cons mk_104 (AllM_cons mk_105 (AllM_cons mk_106 (AllM_cons mk_107 (AllM_cons mk_108 (AllM_cons mk_109 (AllM_cons mk_110 (AllM_cons mk_111 (AllM_cons mk_112 (AllM_cons mk_113 (AllM_cons mk_114 (AllM_cons mk_115 (AllM_cons mk_116 (AllM_cons mk_117 (AllM_cons mk_118 (AllM_cons mk_119 (AllM_cons mk_120 (AllM_cons mk_121 (AllM_cons mk_122 (AllM_cons mk_123 (AllM_cons mk_124 (AllM_cons mk_125 (AllM_cons mk_126 (AllM_cons mk_127 (AllM_cons mk_128 (AllM_cons mk_129 (AllM_cons mk_130 (AllM_cons mk_131 (AllM_cons mk_132 (AllM_cons mk_133 (AllM_cons mk_134 (AllM_cons mk_135 (AllM_cons mk_136 (AllM_cons mk_137 (AllM_cons mk_138 (AllM_cons mk_139 (AllM_cons mk_140 (AllM_cons mk_141 (AllM_cons mk_142 (AllM_nil _))))))))))))))))))))))))))))))))))))))))
