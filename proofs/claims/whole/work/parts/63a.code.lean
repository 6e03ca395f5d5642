/-- java/lang/String.<init>([BB)V -/
def cl_0 : xCl := [(6, [(0, .aload_n 0, 1), (1, .invokespecial 1, 3), (4, .aload_n 0, 1), (5, .aload_n 1, 1)]), (14, [(6, .putfield 9, 3), (9, .aload_n 0, 1), (10, .iload_n 2, 1), (11, .putfield 15, 3)]), (100000, [(14, .return_, 1)])]
set_option maxRecDepth 100000 in
theorem dk_0 : dkA cl_0 prog_16_method_151_code = true := by decide +kernel
set_option maxRecDepth 100000 in
theorem ok_0 : (ck pft pfn (look2 cl_0) ppl pmk 0 true 9 tr_0 0 0 0 0).isSome = true := by decide +kernel
set_option maxRecDepth 100000 in
theorem mk_0 : MOK1 0 mr_0 := mok_mk ⟨"java/lang/String", "<init>", "([BB)V"⟩ prog_16_method_151_code _ 2 0 "java/lang/String" cl_0 true rfl rfl rfl rfl dk_0 (by decide +kernel) (by decide +kernel) (by decide +kernel) ok_0 (by decide +kernel) (fun z => absurd z (by decide))
/-- java/lang/String.length()I -/
def cl_1 : xCl := [(6, [(0, .aload_n 0, 1), (1, .getfield 9, 3), (4, .arraylength, 1), (5, .aload_n 0, 1)]), (100000, [(6, .invokevirtual 335, 3), (9, .ishr, 1), (10, .ireturn, 1)])]
set_option maxRecDepth 100000 in
theorem dk_1 : dkA cl_1 prog_16_method_54_code = true := by decide +kernel
set_option maxRecDepth 100000 in
theorem ok_1 : (ck pft pfn (look2 cl_1) ppl pmk 0 false 0 tr_1 0 0 0 0).isSome = true := by decide +kernel
set_option maxRecDepth 100000 in
theorem mk_1 : MOK1 1 mr_1 := mok_mk ⟨"java/lang/String", "length", "()I"⟩ prog_16_method_54_code _ 1 0 "java/lang/String" cl_1 false rfl rfl rfl rfl dk_1 (by decide +kernel) (by decide +kernel) (by decide +kernel) ok_1 (by decide +kernel) (fun _ => ⟨0, _, rfl, rfl, rfl⟩)
/-- java/lang/String.coder()B -/
def cl_2 : xCl := [(10, [(0, .getstatic 38, 3), (3, .ifCond .eq 10, 3), (6, .aload_n 0, 1), (7, .getfield 15, 3)]), (100000, [(10, .goto 4, 3), (13, .iconst 1, 1), (14, .ireturn, 1)])]
set_option maxRecDepth 100000 in
theorem dk_2 : dkA cl_2 prog_16_method_152_code = true := by decide +kernel
set_option maxRecDepth 100000 in
theorem ok_2 : (ck pft pfn (look2 cl_2) ppl pmk 0 false 4 tr_2 0 0 0 0).isSome = true := by decide +kernel
set_option maxRecDepth 100000 in
theorem mk_2 : MOK1 2 mr_2 := mok_mk ⟨"java/lang/String", "coder", "()B"⟩ prog_16_method_152_code _ 1 0 "java/lang/String" cl_2 false rfl rfl rfl rfl dk_2 (by decide +kernel) (by decide +kernel) (by decide +kernel) ok_2 (by decide +kernel) (fun _ => ⟨0, _, rfl, rfl, rfl⟩)
/-- java/lang/String.isLatin1()Z -/
def cl_3 : xCl := [(10, [(0, .getstatic 38, 3), (3, .ifCond .eq 14, 3), (6, .aload_n 0, 1), (7, .getfield 15, 3)]), (18, [(10, .ifCond .ne 7, 3), (13, .iconst 1, 1), (14, .goto 4, 3), (17, .iconst 0, 1)]), (100000, [(18, .ireturn, 1)])]
set_option maxRecDepth 100000 in
theorem dk_3 : dkA cl_3 prog_16_method_154_code = true := by decide +kernel
set_option maxRecDepth 100000 in
theorem ok_3 : (ck pft pfn (look2 cl_3) ppl pmk 0 false 3 tr_3 0 0 0 0).isSome = true := by decide +kernel
set_option maxRecDepth 100000 in
theorem mk_3 : MOK1 3 mr_3 := mok_mk ⟨"java/lang/String", "isLatin1", "()Z"⟩ prog_16_method_154_code _ 1 0 "java/lang/String" cl_3 false rfl rfl rfl rfl dk_3 (by decide +kernel) (by decide +kernel) (by decide +kernel) ok_3 (by decide +kernel) (fun _ => ⟨0, _, rfl, rfl, rfl⟩)
/-- java/lang/String.charAt(I)C -/
def cl_4 : xCl := [(8, [(0, .aload_n 0, 1), (1, .invokevirtual 492, 3), (4, .ifCond .eq 12, 3), (7, .aload_n 0, 1)]), (16, [(8, .getfield 9, 3), (11, .iload_n 1, 1), (12, .invokestatic 495, 3), (15, .ireturn, 1)]), (24, [(16, .aload_n 0, 1), (17, .getfield 9, 3), (20, .iload_n 1, 1), (21, .invokestatic 498, 3)]), (100000, [(24, .ireturn, 1)])]
set_option maxRecDepth 100000 in
theorem dk_4 : dkA cl_4 prog_16_method_56_code = true := by decide +kernel
set_option maxRecDepth 100000 in
theorem ok_4 : (ck pft pfn (look2 cl_4) ppl pmk 0 false 5 tr_4 0 0 0 0).isSome = true := by decide +kernel
set_option maxRecDepth 100000 in
theorem mk_4 : MOK1 4 mr_4 := mok_mk ⟨"java/lang/String", "charAt", "(I)C"⟩ prog_16_method_56_code _ 1 0 "java/lang/String" cl_4 false rfl rfl rfl rfl dk_4 (by decide +kernel) (by decide +kernel) (by decide +kernel) ok_4 (by decide +kernel) (fun _ => ⟨0, _, rfl, rfl, rfl⟩)
/-- java/lang/String.indexOf(I)I -/
def cl_5 : xCl := [(6, [(0, .aload_n 0, 1), (1, .iload_n 1, 1), (2, .iconst 0, 1), (3, .invokevirtual 633, 3)]), (100000, [(6, .ireturn, 1)])]
set_option maxRecDepth 100000 in
theorem dk_5 : dkA cl_5 prog_16_method_79_code = true := by decide +kernel
set_option maxRecDepth 100000 in
theorem ok_5 : (ck pft pfn (look2 cl_5) ppl pmk 0 false 0 tr_5 0 0 0 0).isSome = true := by decide +kernel
set_option maxRecDepth 100000 in
theorem mk_5 : MOK1 5 mr_5 := mok_mk ⟨"java/lang/String", "indexOf", "(I)I"⟩ prog_16_method_79_code _ 1 0 "java/lang/String" cl_5 false rfl rfl rfl rfl dk_5 (by decide +kernel) (by decide +kernel) (by decide +kernel) ok_5 (by decide +kernel) (fun _ => ⟨0, _, rfl, rfl, rfl⟩)
/-- java/lang/String.indexOf(II)I -/
def cl_6 : xCl := [(8, [(0, .aload_n 0, 1), (1, .invokevirtual 492, 3), (4, .ifCond .eq 19, 3), (7, .aload_n 0, 1)]), (14, [(8, .getfield 9, 3), (11, .iload_n 1, 1), (12, .iload_n 2, 1), (13, .aload_n 0, 1)]), (24, [(14, .invokevirtual 505, 3), (17, .invokestatic 637, 3), (20, .goto 16, 3), (23, .aload_n 0, 1)]), (30, [(24, .getfield 9, 3), (27, .iload_n 1, 1), (28, .iload_n 2, 1), (29, .aload_n 0, 1)]), (100000, [(30, .invokevirtual 505, 3), (33, .invokestatic 640, 3), (36, .ireturn, 1)])]
set_option maxRecDepth 100000 in
theorem dk_6 : dkA cl_6 prog_16_method_80_code = true := by decide +kernel
set_option maxRecDepth 100000 in
theorem ok_6 : (ck pft pfn (look2 cl_6) ppl pmk 0 false 0 tr_6 0 0 0 0).isSome = true := by decide +kernel
set_option maxRecDepth 100000 in
theorem mk_6 : MOK1 6 mr_6 := mok_mk ⟨"java/lang/String", "indexOf", "(II)I"⟩ prog_16_method_80_code _ 1 0 "java/lang/String" cl_6 false rfl rfl rfl rfl dk_6 (by decide +kernel) (by decide +kernel) (by decide +kernel) ok_6 (by decide +kernel) (fun _ => ⟨0, _, rfl, rfl, rfl⟩)
/-- java/lang/String.substring(II)Ljava/lang/String; -/
def cl_7 : xCl := [(7, [(0, .aload_n 0, 1), (1, .invokevirtual 505, 3), (4, .istore_n 3, 1), (5, .iload_n 1, 1), (6, .iload_n 2, 1)]), (16, [(7, .iload_n 3, 1), (8, .invokestatic 521, 3), (11, .iload_n 1, 1), (12, .ifCond .ne 10, 3), (15, .iload_n 2, 1)]), (23, [(16, .iload_n 3, 1), (17, .if_icmp .ne 5, 3), (20, .aload_n 0, 1), (21, .areturn, 1), (22, .iload_n 2, 1)]), (31, [(23, .iload_n 1, 1), (24, .isub, 1), (25, .istore 4, 2), (27, .aload_n 0, 1), (28, .invokevirtual 492, 3)]), (41, [(31, .ifCond .eq 16, 3), (34, .aload_n 0, 1), (35, .getfield 9, 3), (38, .iload_n 1, 1), (39, .iload 4, 2)]), (52, [(41, .invokestatic 685, 3), (44, .goto 13, 3), (47, .aload_n 0, 1), (48, .getfield 9, 3), (51, .iload_n 1, 1)]), (100000, [(52, .iload 4, 2), (54, .invokestatic 689, 3), (57, .areturn, 1)])]
set_option maxRecDepth 100000 in
theorem dk_7 : dkA cl_7 prog_16_method_92_code = true := by decide +kernel
set_option maxRecDepth 100000 in
theorem ok_7 : (ck pft pfn (look2 cl_7) ppl pmk 0 false 2 tr_7 0 0 0 0).isSome = true := by decide +kernel
set_option maxRecDepth 100000 in
theorem mk_7 : MOK1 7 mr_7 := mok_mk ⟨"java/lang/String", "substring", "(II)Ljava/lang/String;"⟩ prog_16_method_92_code _ 1 0 "java/lang/String" cl_7 false rfl rfl rfl rfl dk_7 (by decide +kernel) (by decide +kernel) (by decide +kernel) ok_7 (by decide +kernel) (fun _ => ⟨0, _, rfl, rfl, rfl⟩)
/-- java/lang/String.checkIndex(II)V -/
def cl_8 : xCl := [(8, [(0, .iload_n 0, 1), (1, .iload_n 1, 1), (2, .getstatic 1053, 3), (5, .invokestatic 1059, 3)]), (100000, [(8, .pop, 1), (9, .return_, 1)])]
set_option maxRecDepth 100000 in
theorem dk_8 : dkA cl_8 prog_16_method_155_code = true := by decide +kernel
set_option maxRecDepth 100000 in
theorem ok_8 : (ck pft pfn (look2 cl_8) ppl pmk 0 false 9 tr_8 0 0 0 0).isSome = true := by decide +kernel
set_option maxRecDepth 100000 in
theorem mk_8 : MOK1 8 mr_8 := mok_mk ⟨"java/lang/String", "checkIndex", "(II)V"⟩ prog_16_method_155_code _ 0 0 "java/lang/String" cl_8 false rfl rfl rfl rfl dk_8 (by decide +kernel) (by decide +kernel) (by decide +kernel) ok_8 (by decide +kernel) (fun z => absurd z (by decide))
/-- java/lang/String.checkBoundsBeginEnd(III)V -/
def cl_9 : xCl := [(6, [(0, .iload_n 0, 1), (1, .iload_n 1, 1), (2, .iload_n 2, 1), (3, .getstatic 1053, 3)]), (100000, [(6, .invokestatic 1062, 3), (9, .pop, 1), (10, .return_, 1)])]
set_option maxRecDepth 100000 in
theorem dk_9 : dkA cl_9 prog_16_method_158_code = true := by decide +kernel
set_option maxRecDepth 100000 in
theorem ok_9 : (ck pft pfn (look2 cl_9) ppl pmk 0 false 9 tr_9 0 0 0 0).isSome = true := by decide +kernel
set_option maxRecDepth 100000 in
theorem mk_9 : MOK1 9 mr_9 := mok_mk ⟨"java/lang/String", "checkBoundsBeginEnd", "(III)V"⟩ prog_16_method_158_code _ 0 0 "java/lang/String" cl_9 false rfl rfl rfl rfl dk_9 (by decide +kernel) (by decide +kernel) (by decide +kernel) ok_9 (by decide +kernel) (fun z => absurd z (by decide))
/-- GatedPile$Code.addOrder(III)V -/
def cl_10 : xCl := [(11, [(0, .aload_n 0, 1), (1, .getfield 41, 3), (4, .sipush 3000, 3), (7, .if_icmp .lt 4, 3), (10, .return_, 1)]), (20, [(11, .aload_n 0, 1), (12, .getfield 13, 3), (15, .aload_n 0, 1), (16, .getfield 41, 3), (19, .iload_n 1, 1)]), (29, [(20, .iastore, 1), (21, .aload_n 0, 1), (22, .getfield 17, 3), (25, .aload_n 0, 1), (26, .getfield 41, 3)]), (36, [(29, .iload_n 2, 1), (30, .iastore, 1), (31, .aload_n 0, 1), (32, .getfield 20, 3), (35, .aload_n 0, 1)]), (43, [(36, .getfield 41, 3), (39, .iload_n 3, 1), (40, .iastore, 1), (41, .aload_n 0, 1), (42, .dup, 1)]), (100000, [(43, .getfield 41, 3), (46, .iconst 1, 1), (47, .iadd, 1), (48, .putfield 41, 3), (51, .return_, 1)])]
set_option maxRecDepth 100000 in
theorem dk_10 : dkA cl_10 prog_2_method_2_code = true := by decide +kernel
set_option maxRecDepth 100000 in
theorem ok_10 : (ck pft pfn (look2 cl_10) ppl pmk 1 false 9 tr_10 0 0 0 0).isSome = true := by decide +kernel
set_option maxRecDepth 100000 in
theorem mk_10 : MOK1 10 mr_10 := mok_mk ⟨"GatedPile$Code", "addOrder", "(III)V"⟩ prog_2_method_2_code _ 1 1 "GatedPile$Code" cl_10 false rfl rfl rfl rfl dk_10 (by decide +kernel) (by decide +kernel) (by decide +kernel) ok_10 (plainFor_of_name (by decide +kernel)) (fun _ => ⟨1, _, rfl, rfl, rfl⟩)
/-- GatedPile$Code.placeOf(I)I -/
def cl_11 : xCl := [(6, [(0, .iload_n 1, 1), (1, .ifCond .lt 11, 3), (4, .iload_n 1, 1), (5, .aload_n 0, 1)]), (16, [(6, .getfield 41, 3), (9, .if_icmp .lt 7, 3), (12, .iconst 0, 1), (13, .goto 9, 3)]), (22, [(16, .aload_n 0, 1), (17, .getfield 23, 3), (20, .iload_n 1, 1), (21, .iaload, 1)]), (100000, [(22, .ireturn, 1)])]
set_option maxRecDepth 100000 in
theorem dk_11 : dkA cl_11 prog_2_method_3_code = true := by decide +kernel
set_option maxRecDepth 100000 in
theorem ok_11 : (ck pft pfn (look2 cl_11) ppl pmk 1 false 0 tr_11 0 0 0 0).isSome = true := by decide +kernel
set_option maxRecDepth 100000 in
theorem mk_11 : MOK1 11 mr_11 := mok_mk ⟨"GatedPile$Code", "placeOf", "(I)I"⟩ prog_2_method_3_code _ 1 1 "GatedPile$Code" cl_11 false rfl rfl rfl rfl dk_11 (by decide +kernel) (by decide +kernel) (by decide +kernel) ok_11 (plainFor_of_name (by decide +kernel)) (fun _ => ⟨1, _, rfl, rfl, rfl⟩)
/-- GatedPile$Code.enterOf(I)I -/
def cl_12 : xCl := [(7, [(0, .iload_n 1, 1), (1, .ifCond .lt 9, 3), (4, .iload_n 1, 1), (5, .bipush 40, 2)]), (15, [(7, .if_icmp .lt 7, 3), (10, .iconst (-1), 1), (11, .goto 9, 3), (14, .aload_n 0, 1)]), (100000, [(15, .getfield 35, 3), (18, .iload_n 1, 1), (19, .iaload, 1), (20, .ireturn, 1)])]
set_option maxRecDepth 100000 in
theorem dk_12 : dkA cl_12 prog_2_method_4_code = true := by decide +kernel
set_option maxRecDepth 100000 in
theorem ok_12 : (ck pft pfn (look2 cl_12) ppl pmk 1 false 0 tr_12 0 0 0 0).isSome = true := by decide +kernel
set_option maxRecDepth 100000 in
theorem mk_12 : MOK1 12 mr_12 := mok_mk ⟨"GatedPile$Code", "enterOf", "(I)I"⟩ prog_2_method_4_code _ 1 1 "GatedPile$Code" cl_12 false rfl rfl rfl rfl dk_12 (by decide +kernel) (by decide +kernel) (by decide +kernel) ok_12 (plainFor_of_name (by decide +kernel)) (fun _ => ⟨1, _, rfl, rfl, rfl⟩)
/-- GatedPile$Code.parametersOf(I)I -/
def cl_13 : xCl := [(7, [(0, .iload_n 1, 1), (1, .ifCond .lt 9, 3), (4, .iload_n 1, 1), (5, .bipush 40, 2)]), (15, [(7, .if_icmp .lt 7, 3), (10, .iconst 0, 1), (11, .goto 9, 3), (14, .aload_n 0, 1)]), (100000, [(15, .getfield 26, 3), (18, .iload_n 1, 1), (19, .iaload, 1), (20, .ireturn, 1)])]
set_option maxRecDepth 100000 in
theorem dk_13 : dkA cl_13 prog_2_method_5_code = true := by decide +kernel
set_option maxRecDepth 100000 in
theorem ok_13 : (ck pft pfn (look2 cl_13) ppl pmk 1 false 0 tr_13 0 0 0 0).isSome = true := by decide +kernel
set_option maxRecDepth 100000 in
theorem mk_13 : MOK1 13 mr_13 := mok_mk ⟨"GatedPile$Code", "parametersOf", "(I)I"⟩ prog_2_method_5_code _ 1 1 "GatedPile$Code" cl_13 false rfl rfl rfl rfl dk_13 (by decide +kernel) (by decide +kernel) (by decide +kernel) ok_13 (plainFor_of_name (by decide +kernel)) (fun _ => ⟨1, _, rfl, rfl, rfl⟩)
/-- GatedPile$Code.frameOf(I)I -/
def cl_14 : xCl := [(7, [(0, .iload_n 1, 1), (1, .ifCond .lt 9, 3), (4, .iload_n 1, 1), (5, .bipush 40, 2)]), (15, [(7, .if_icmp .lt 7, 3), (10, .iconst 0, 1), (11, .goto 9, 3), (14, .aload_n 0, 1)]), (100000, [(15, .getfield 29, 3), (18, .iload_n 1, 1), (19, .iaload, 1), (20, .ireturn, 1)])]
set_option maxRecDepth 100000 in
theorem dk_14 : dkA cl_14 prog_2_method_6_code = true := by decide +kernel
set_option maxRecDepth 100000 in
theorem ok_14 : (ck pft pfn (look2 cl_14) ppl pmk 1 false 0 tr_14 0 0 0 0).isSome = true := by decide +kernel
set_option maxRecDepth 100000 in
theorem mk_14 : MOK1 14 mr_14 := mok_mk ⟨"GatedPile$Code", "frameOf", "(I)I"⟩ prog_2_method_6_code _ 1 1 "GatedPile$Code" cl_14 false rfl rfl rfl rfl dk_14 (by decide +kernel) (by decide +kernel) (by decide +kernel) ok_14 (plainFor_of_name (by decide +kernel)) (fun _ => ⟨1, _, rfl, rfl, rfl⟩)
/-- GatedPile$Code.wantOf(I)I -/
def cl_15 : xCl := [(7, [(0, .iload_n 1, 1), (1, .ifCond .lt 9, 3), (4, .iload_n 1, 1), (5, .bipush 40, 2)]), (15, [(7, .if_icmp .lt 7, 3), (10, .iconst 0, 1), (11, .goto 9, 3), (14, .aload_n 0, 1)]), (100000, [(15, .getfield 32, 3), (18, .iload_n 1, 1), (19, .iaload, 1), (20, .ireturn, 1)])]
set_option maxRecDepth 100000 in
theorem dk_15 : dkA cl_15 prog_2_method_7_code = true := by decide +kernel
set_option maxRecDepth 100000 in
theorem ok_15 : (ck pft pfn (look2 cl_15) ppl pmk 1 false 0 tr_15 0 0 0 0).isSome = true := by decide +kernel
set_option maxRecDepth 100000 in
theorem mk_15 : MOK1 15 mr_15 := mok_mk ⟨"GatedPile$Code", "wantOf", "(I)I"⟩ prog_2_method_7_code _ 1 1 "GatedPile$Code" cl_15 false rfl rfl rfl rfl dk_15 (by decide +kernel) (by decide +kernel) (by decide +kernel) ok_15 (plainFor_of_name (by decide +kernel)) (fun _ => ⟨1, _, rfl, rfl, rfl⟩)
/-- GatedPile$Code.<init>()V -/
def cl_16 : xCl := [(13, [(0, .aload_n 0, 1), (1, .invokespecial 5, 3), (4, .aload_n 0, 1), (5, .sipush 3000, 3), (8, .newarray .int, 2), (10, .putfield 13, 3)]), (26, [(13, .aload_n 0, 1), (14, .sipush 3000, 3), (17, .newarray .int, 2), (19, .putfield 17, 3), (22, .aload_n 0, 1), (23, .sipush 3000, 3)]), (40, [(26, .newarray .int, 2), (28, .putfield 20, 3), (31, .aload_n 0, 1), (32, .sipush 3000, 3), (35, .newarray .int, 2), (37, .putfield 23, 3)]), (51, [(40, .aload_n 0, 1), (41, .bipush 40, 2), (43, .newarray .int, 2), (45, .putfield 26, 3), (48, .aload_n 0, 1), (49, .bipush 40, 2)]), (64, [(51, .newarray .int, 2), (53, .putfield 29, 3), (56, .aload_n 0, 1), (57, .bipush 40, 2), (59, .newarray .int, 2), (61, .putfield 32, 3)]), (76, [(64, .aload_n 0, 1), (65, .bipush 40, 2), (67, .newarray .int, 2), (69, .putfield 35, 3), (72, .aload_n 0, 1), (73, .sipush 6000, 3)]), (100000, [(76, .newarray .int, 2), (78, .putfield 38, 3), (81, .return_, 1)])]
set_option maxRecDepth 100000 in
theorem dk_16 : dkA cl_16 prog_2_method_1_code = true := by decide +kernel
set_option maxRecDepth 100000 in
theorem ok_16 : (ck pft pfn (look2 cl_16) ppl pmk 1 true 9 tr_16 0 0 0 0).isSome = true := by decide +kernel
set_option maxRecDepth 100000 in
theorem mk_16 : MOK1 16 mr_16 := mok_mk ⟨"GatedPile$Code", "<init>", "()V"⟩ prog_2_method_1_code _ 2 1 "GatedPile$Code" cl_16 true rfl rfl rfl rfl dk_16 (by decide +kernel) (by decide +kernel) (by decide +kernel) ok_16 (plainFor_of_name (by decide +kernel)) (fun z => absurd z (by decide))
/-- GatedPile$Grammar.<init>(LGatedPile$Text;)V -/
def cl_17 : xCl := [(6, [(0, .aload_n 0, 1), (1, .invokespecial 3, 3), (4, .aload_n 0, 1), (5, .aload_n 1, 1)]), (100000, [(6, .putfield 9, 3), (9, .return_, 1)])]
set_option maxRecDepth 100000 in
theorem dk_17 : dkA cl_17 prog_3_method_1_code = true := by decide +kernel
set_option maxRecDepth 100000 in
theorem ok_17 : (ck pft pfn (look2 cl_17) ppl pmk 2 true 9 tr_17 0 0 0 0).isSome = true := by decide +kernel
set_option maxRecDepth 100000 in
theorem mk_17 : MOK1 17 mr_17 := mok_mk ⟨"GatedPile$Grammar", "<init>", "(LGatedPile$Text;)V"⟩ prog_3_method_1_code _ 2 2 "GatedPile$Grammar" cl_17 true rfl rfl rfl rfl dk_17 (by decide +kernel) (by decide +kernel) (by decide +kernel) ok_17 (plainFor_of_name (by decide +kernel)) (fun z => absurd z (by decide))
/-- GatedPile$Grammar.holds()Z -/
def cl_18 : xCl := [(9, [(0, .aload_n 0, 1), (1, .iconst 0, 1), (2, .putfield 15, 3), (5, .aload_n 0, 1), (6, .getfield 9, 3)]), (18, [(9, .getfield 19, 3), (12, .istore_n 1, 1), (13, .iload_n 1, 1), (14, .ifCond .le 25, 3), (17, .aload_n 0, 1)]), (31, [(18, .invokevirtual 24, 3), (21, .ifCond .eq 18, 3), (24, .aload_n 0, 1), (25, .invokevirtual 28, 3), (28, .ifCond .ne 5, 3)]), (40, [(31, .iconst 0, 1), (32, .ireturn, 1), (33, .iinc 1 (-1), 3), (36, .goto (-23), 3), (39, .aload_n 0, 1)]), (51, [(40, .invokevirtual 24, 3), (43, .ifCond .ne 7, 3), (46, .iconst 1, 1), (47, .goto 4, 3), (50, .iconst 0, 1)]), (100000, [(51, .ireturn, 1)])]
set_option maxRecDepth 100000 in
theorem dk_18 : dkA cl_18 prog_3_method_2_code = true := by decide +kernel
set_option maxRecDepth 100000 in
theorem ok_18 : (ck pft pfn (look2 cl_18) ppl pmk 2 false 3 tr_18 0 0 0 0).isSome = true := by decide +kernel
set_option maxRecDepth 100000 in
theorem mk_18 : MOK1 18 mr_18 := mok_mk ⟨"GatedPile$Grammar", "holds", "()Z"⟩ prog_3_method_2_code _ 1 2 "GatedPile$Grammar" cl_18 false rfl rfl rfl rfl dk_18 (by decide +kernel) (by decide +kernel) (by decide +kernel) ok_18 (plainFor_of_name (by decide +kernel)) (fun _ => ⟨2, _, rfl, rfl, rfl⟩)
/-- GatedPile$Grammar.here()I -/
def cl_19 : xCl := [(8, [(0, .aload_n 0, 1), (1, .getfield 9, 3), (4, .aload_n 0, 1), (5, .getfield 15, 3)]), (100000, [(8, .invokevirtual 32, 3), (11, .ireturn, 1)])]
set_option maxRecDepth 100000 in
theorem dk_19 : dkA cl_19 prog_3_method_3_code = true := by decide +kernel
set_option maxRecDepth 100000 in
theorem ok_19 : (ck pft pfn (look2 cl_19) ppl pmk 2 false 0 tr_19 0 0 0 0).isSome = true := by decide +kernel
set_option maxRecDepth 100000 in
theorem mk_19 : MOK1 19 mr_19 := mok_mk ⟨"GatedPile$Grammar", "here", "()I"⟩ prog_3_method_3_code _ 1 2 "GatedPile$Grammar" cl_19 false rfl rfl rfl rfl dk_19 (by decide +kernel) (by decide +kernel) (by decide +kernel) ok_19 (plainFor_of_name (by decide +kernel)) (fun _ => ⟨2, _, rfl, rfl, rfl⟩)
/-- GatedPile$Grammar.accept(I)Z -/
def cl_20 : xCl := [(8, [(0, .aload_n 0, 1), (1, .getfield 9, 3), (4, .aload_n 0, 1), (5, .getfield 15, 3)]), (16, [(8, .invokevirtual 32, 3), (11, .iload_n 1, 1), (12, .if_icmp .eq 5, 3), (15, .iconst 0, 1)]), (22, [(16, .ireturn, 1), (17, .aload_n 0, 1), (18, .dup, 1), (19, .getfield 15, 3)]), (28, [(22, .iconst 1, 1), (23, .iadd, 1), (24, .putfield 15, 3), (27, .iconst 1, 1)]), (100000, [(28, .ireturn, 1)])]
set_option maxRecDepth 100000 in
theorem dk_20 : dkA cl_20 prog_3_method_4_code = true := by decide +kernel
set_option maxRecDepth 100000 in
theorem ok_20 : (ck pft pfn (look2 cl_20) ppl pmk 2 false 3 tr_20 0 0 0 0).isSome = true := by decide +kernel
set_option maxRecDepth 100000 in
theorem mk_20 : MOK1 20 mr_20 := mok_mk ⟨"GatedPile$Grammar", "accept", "(I)Z"⟩ prog_3_method_4_code _ 1 2 "GatedPile$Grammar" cl_20 false rfl rfl rfl rfl dk_20 (by decide +kernel) (by decide +kernel) (by decide +kernel) ok_20 (plainFor_of_name (by decide +kernel)) (fun _ => ⟨2, _, rfl, rfl, rfl⟩)
/-- GatedPile$Grammar.open(II)Z -/
def cl_21 : xCl := [(7, [(0, .iload_n 2, 1), (1, .bipush 30, 2), (3, .if_icmp .ge 18, 3), (6, .aload_n 0, 1)]), (17, [(7, .getfield 9, 3), (10, .aload_n 0, 1), (11, .getfield 15, 3), (14, .invokevirtual 32, 3)]), (23, [(17, .iload_n 1, 1), (18, .if_icmp .eq 5, 3), (21, .iconst 0, 1), (22, .ireturn, 1)]), (29, [(23, .aload_n 0, 1), (24, .dup, 1), (25, .getfield 15, 3), (28, .iconst 1, 1)]), (100000, [(29, .iadd, 1), (30, .putfield 15, 3), (33, .iconst 1, 1), (34, .ireturn, 1)])]
set_option maxRecDepth 100000 in
theorem dk_21 : dkA cl_21 prog_3_method_5_code = true := by decide +kernel
set_option maxRecDepth 100000 in
theorem ok_21 : (ck pft pfn (look2 cl_21) ppl pmk 2 false 3 tr_21 0 0 0 0).isSome = true := by decide +kernel
set_option maxRecDepth 100000 in
theorem mk_21 : MOK1 21 mr_21 := mok_mk ⟨"GatedPile$Grammar", "open", "(II)Z"⟩ prog_3_method_5_code _ 1 2 "GatedPile$Grammar" cl_21 false rfl rfl rfl rfl dk_21 (by decide +kernel) (by decide +kernel) (by decide +kernel) ok_21 (plainFor_of_name (by decide +kernel)) (fun _ => ⟨2, _, rfl, rfl, rfl⟩)
/-- GatedPile$Grammar.topPart()Z -/
def cl_22 : xCl := [(42, [(0, .aload_n 0, 1), (1, .invokevirtual 24, 3), (4, .tableswitch 197 4 6 #[28, 83, 115], 28), (32, .aload_n 0, 1), (33, .dup, 1), (34, .getfield 15, 3), (37, .iconst 1, 1), (38, .iadd, 1), (39, .putfield 15, 3)]), (58, [(42, .aload_n 0, 1), (43, .iconst 2, 1), (44, .invokevirtual 36, 3), (47, .ifCond .ne 5, 3), (50, .iconst 0, 1), (51, .ireturn, 1), (52, .aload_n 0, 1), (53, .bipush 91, 2), (55, .invokevirtual 36, 3)]), (78, [(58, .ifCond .eq 22, 3), (61, .aload_n 0, 1), (62, .iconst 3, 1), (63, .invokevirtual 36, 3), (66, .ifCond .eq 12, 3), (69, .aload_n 0, 1), (70, .bipush 93, 2), (72, .invokevirtual 36, 3), (75, .ifCond .ne 5, 3)]), (92, [(78, .iconst 0, 1), (79, .ireturn, 1), (80, .aload_n 0, 1), (81, .bipush 59, 2), (83, .invokevirtual 36, 3), (86, .ireturn, 1), (87, .aload_n 0, 1), (88, .dup, 1), (89, .getfield 15, 3)]), (110, [(92, .iconst 1, 1), (93, .iadd, 1), (94, .putfield 15, 3), (97, .aload_n 0, 1), (98, .invokevirtual 40, 3), (101, .ifCond .eq 16, 3), (104, .aload_n 0, 1), (105, .bipush 59, 2), (107, .invokevirtual 36, 3)]), (125, [(110, .ifCond .eq 7, 3), (113, .iconst 1, 1), (114, .goto 4, 3), (117, .iconst 0, 1), (118, .ireturn, 1), (119, .aload_n 0, 1), (120, .dup, 1), (121, .getfield 15, 3), (124, .iconst 1, 1)]), (143, [(125, .iadd, 1), (126, .putfield 15, 3), (129, .aload_n 0, 1), (130, .iconst 2, 1), (131, .invokevirtual 36, 3), (134, .ifCond .eq 12, 3), (137, .aload_n 0, 1), (138, .bipush 40, 2), (140, .invokevirtual 36, 3)]), (161, [(143, .ifCond .ne 5, 3), (146, .iconst 0, 1), (147, .ireturn, 1), (148, .aload_n 0, 1), (149, .invokevirtual 24, 3), (152, .bipush 41, 2), (154, .if_icmp .eq 12, 3), (157, .aload_n 0, 1), (158, .invokevirtual 40, 3)]), (177, [(161, .ifCond .ne 5, 3), (164, .iconst 0, 1), (165, .ireturn, 1), (166, .aload_n 0, 1), (167, .bipush 41, 2), (169, .invokevirtual 36, 3), (172, .ifCond .ne 5, 3), (175, .iconst 0, 1), (176, .ireturn, 1)]), (195, [(177, .aload_n 0, 1), (178, .bipush 7, 2), (180, .invokevirtual 36, 3), (183, .ifCond .eq 12, 3), (186, .aload_n 0, 1), (187, .invokevirtual 40, 3), (190, .ifCond .ne 5, 3), (193, .iconst 0, 1), (194, .ireturn, 1)]), (100000, [(195, .aload_n 0, 1), (196, .iconst 0, 1), (197, .invokevirtual 43, 3), (200, .ireturn, 1), (201, .iconst 0, 1), (202, .ireturn, 1)])]
set_option maxRecDepth 100000 in
theorem dk_22 : dkA cl_22 prog_3_method_6_code = true := by decide +kernel
set_option maxRecDepth 100000 in
theorem ok_22 : (ck pft pfn (look2 cl_22) ppl pmk 2 false 3 tr_22 0 0 0 0).isSome = true := by decide +kernel
set_option maxRecDepth 100000 in
theorem mk_22 : MOK1 22 mr_22 := mok_mk ⟨"GatedPile$Grammar", "topPart", "()Z"⟩ prog_3_method_6_code _ 1 2 "GatedPile$Grammar" cl_22 false rfl rfl rfl rfl dk_22 (by decide +kernel) (by decide +kernel) (by decide +kernel) ok_22 (plainFor_of_name (by decide +kernel)) (fun _ => ⟨2, _, rfl, rfl, rfl⟩)
/-- GatedPile$Grammar.names()Z -/
def cl_23 : xCl := [(9, [(0, .aload_n 0, 1), (1, .iconst 2, 1), (2, .invokevirtual 36, 3), (5, .ifCond .ne 5, 3), (8, .iconst 0, 1)]), (18, [(9, .ireturn, 1), (10, .aload_n 0, 1), (11, .getfield 9, 3), (14, .getfield 19, 3), (17, .istore_n 1, 1)]), (28, [(18, .iload_n 1, 1), (19, .ifCond .le 28, 3), (22, .aload_n 0, 1), (23, .bipush 44, 2), (25, .invokevirtual 36, 3)]), (39, [(28, .ifCond .eq 19, 3), (31, .aload_n 0, 1), (32, .iconst 2, 1), (33, .invokevirtual 36, 3), (36, .ifCond .ne 5, 3)]), (48, [(39, .iconst 0, 1), (40, .ireturn, 1), (41, .iinc 1 (-1), 3), (44, .goto (-26), 3), (47, .iconst 1, 1)]), (100000, [(48, .ireturn, 1)])]
set_option maxRecDepth 100000 in
theorem dk_23 : dkA cl_23 prog_3_method_7_code = true := by decide +kernel
set_option maxRecDepth 100000 in
theorem ok_23 : (ck pft pfn (look2 cl_23) ppl pmk 2 false 3 tr_23 0 0 0 0).isSome = true := by decide +kernel
set_option maxRecDepth 100000 in
theorem mk_23 : MOK1 23 mr_23 := mok_mk ⟨"GatedPile$Grammar", "names", "()Z"⟩ prog_3_method_7_code _ 1 2 "GatedPile$Grammar" cl_23 false rfl rfl rfl rfl dk_23 (by decide +kernel) (by decide +kernel) (by decide +kernel) ok_23 (plainFor_of_name (by decide +kernel)) (fun _ => ⟨2, _, rfl, rfl, rfl⟩)
/-- GatedPile$Grammar.block(I)Z -/
def cl_24 : xCl := [(9, [(0, .aload_n 0, 1), (1, .getfield 15, 3), (4, .istore_n 2, 1), (5, .aload_n 0, 1), (6, .bipush 123, 2), (8, .iload_n 1, 1)]), (21, [(9, .invokevirtual 46, 3), (12, .ifCond .ne 5, 3), (15, .iconst 0, 1), (16, .ireturn, 1), (17, .aload_n 0, 1), (18, .getfield 9, 3)]), (33, [(21, .getfield 19, 3), (24, .istore_n 3, 1), (25, .iload_n 3, 1), (26, .ifCond .le 30, 3), (29, .aload_n 0, 1), (30, .invokevirtual 24, 3)]), (42, [(33, .bipush 125, 2), (35, .if_icmp .eq 21, 3), (38, .aload_n 0, 1), (39, .iload_n 1, 1), (40, .iconst 1, 1), (41, .iadd, 1)]), (56, [(42, .invokevirtual 50, 3), (45, .ifCond .ne 5, 3), (48, .iconst 0, 1), (49, .ireturn, 1), (50, .iinc 3 (-1), 3), (53, .goto (-28), 3)]), (68, [(56, .aload_n 0, 1), (57, .getfield 9, 3), (60, .iload_n 2, 1), (61, .aload_n 0, 1), (62, .getfield 15, 3), (65, .invokevirtual 53, 3)]), (100000, [(68, .aload_n 0, 1), (69, .bipush 125, 2), (71, .invokevirtual 36, 3), (74, .ireturn, 1)])]
set_option maxRecDepth 100000 in
theorem dk_24 : dkA cl_24 prog_3_method_8_code = true := by decide +kernel
set_option maxRecDepth 100000 in
theorem ok_24 : (ck pft pfn (look2 cl_24) ppl pmk 2 false 3 tr_24 0 0 0 0).isSome = true := by decide +kernel
set_option maxRecDepth 100000 in
theorem mk_24 : MOK1 24 mr_24 := mok_mk ⟨"GatedPile$Grammar", "block", "(I)Z"⟩ prog_3_method_8_code _ 1 2 "GatedPile$Grammar" cl_24 false rfl rfl rfl rfl dk_24 (by decide +kernel) (by decide +kernel) (by decide +kernel) ok_24 (plainFor_of_name (by decide +kernel)) (fun _ => ⟨2, _, rfl, rfl, rfl⟩)
/-- GatedPile$Grammar.statement(I)Z -/
def cl_25 : xCl := [(16, [(0, .aload_n 0, 1), (1, .invokevirtual 24, 3), (4, .istore_n 2, 1), (5, .iload_n 2, 1), (6, .ifCond .eq 13, 3), (9, .aload_n 0, 1), (10, .dup, 1), (11, .getfield 15, 3), (14, .iconst 1, 1), (15, .iadd, 1)]), (106, [(16, .putfield 15, 3), (19, .iload_n 2, 1), (20, .tableswitch 250 2 15 #[112, 250, 72, 250, 250, 250, 135, 250, 176, 198, 250, 204, 227, 227], 72), (92, .aload_n 0, 1), (93, .iconst 2, 1), (94, .invokevirtual 36, 3), (97, .ifCond .eq 33, 3), (100, .aload_n 0, 1), (101, .bipush 61, 2), (103, .invokevirtual 36, 3)]), (127, [(106, .ifCond .eq 24, 3), (109, .aload_n 0, 1), (110, .iload_n 1, 1), (111, .invokevirtual 57, 3), (114, .ifCond .eq 16, 3), (117, .aload_n 0, 1), (118, .bipush 59, 2), (120, .invokevirtual 36, 3), (123, .ifCond .eq 7, 3), (126, .iconst 1, 1)]), (146, [(127, .goto 4, 3), (130, .iconst 0, 1), (131, .ireturn, 1), (132, .aload_n 0, 1), (133, .iload_n 1, 1), (134, .invokevirtual 60, 3), (137, .ifCond .eq 16, 3), (140, .aload_n 0, 1), (141, .bipush 59, 2), (143, .invokevirtual 36, 3)]), (164, [(146, .ifCond .eq 7, 3), (149, .iconst 1, 1), (150, .goto 4, 3), (153, .iconst 0, 1), (154, .ireturn, 1), (155, .aload_n 0, 1), (156, .iload_n 1, 1), (157, .invokevirtual 57, 3), (160, .ifCond .eq 11, 3), (163, .aload_n 0, 1)]), (183, [(164, .iload_n 1, 1), (165, .invokevirtual 43, 3), (168, .ifCond .ne 5, 3), (171, .iconst 0, 1), (172, .ireturn, 1), (173, .aload_n 0, 1), (174, .bipush 9, 2), (176, .invokevirtual 36, 3), (179, .ifCond .eq 11, 3), (182, .aload_n 0, 1)]), (201, [(183, .iload_n 1, 1), (184, .invokevirtual 43, 3), (187, .ifCond .eq 7, 3), (190, .iconst 1, 1), (191, .goto 4, 3), (194, .iconst 0, 1), (195, .ireturn, 1), (196, .aload_n 0, 1), (197, .iload_n 1, 1), (198, .invokevirtual 57, 3)]), (219, [(201, .ifCond .eq 15, 3), (204, .aload_n 0, 1), (205, .iload_n 1, 1), (206, .invokevirtual 43, 3), (209, .ifCond .eq 7, 3), (212, .iconst 1, 1), (213, .goto 4, 3), (216, .iconst 0, 1), (217, .ireturn, 1), (218, .aload_n 0, 1)]), (238, [(219, .iload_n 1, 1), (220, .invokevirtual 63, 3), (223, .ireturn, 1), (224, .aload_n 0, 1), (225, .iconst 2, 1), (226, .invokevirtual 36, 3), (229, .ifCond .eq 16, 3), (232, .aload_n 0, 1), (233, .bipush 59, 2), (235, .invokevirtual 36, 3)]), (256, [(238, .ifCond .eq 7, 3), (241, .iconst 1, 1), (242, .goto 4, 3), (245, .iconst 0, 1), (246, .ireturn, 1), (247, .aload_n 0, 1), (248, .iload_n 1, 1), (249, .invokevirtual 57, 3), (252, .ifCond .eq 16, 3), (255, .aload_n 0, 1)]), (275, [(256, .bipush 59, 2), (258, .invokevirtual 36, 3), (261, .ifCond .eq 7, 3), (264, .iconst 1, 1), (265, .goto 4, 3), (268, .iconst 0, 1), (269, .ireturn, 1), (270, .iload_n 2, 1), (271, .ifCond .eq 13, 3), (274, .aload_n 0, 1)]), (100000, [(275, .dup, 1), (276, .getfield 15, 3), (279, .iconst 1, 1), (280, .isub, 1), (281, .putfield 15, 3), (284, .iconst 0, 1), (285, .ireturn, 1)])]
set_option maxRecDepth 100000 in
theorem dk_25 : dkA cl_25 prog_3_method_9_code = true := by decide +kernel
set_option maxRecDepth 100000 in
theorem ok_25 : (ck pft pfn (look2 cl_25) ppl pmk 2 false 3 tr_25 0 0 0 0).isSome = true := by decide +kernel
set_option maxRecDepth 100000 in
theorem mk_25 : MOK1 25 mr_25 := mok_mk ⟨"GatedPile$Grammar", "statement", "(I)Z"⟩ prog_3_method_9_code _ 1 2 "GatedPile$Grammar" cl_25 false rfl rfl rfl rfl dk_25 (by decide +kernel) (by decide +kernel) (by decide +kernel) ok_25 (plainFor_of_name (by decide +kernel)) (fun _ => ⟨2, _, rfl, rfl, rfl⟩)
/-- GatedPile$Grammar.named(I)Z -/
def cl_26 : xCl := [(10, [(0, .aload_n 0, 1), (1, .invokevirtual 24, 3), (4, .bipush 40, 2), (6, .if_icmp .ne 9, 3), (9, .aload_n 0, 1)]), (19, [(10, .iload_n 1, 1), (11, .invokevirtual 66, 3), (14, .ireturn, 1), (15, .aload_n 0, 1), (16, .invokevirtual 24, 3)]), (29, [(19, .bipush 91, 2), (21, .if_icmp .ne 13, 3), (24, .aload_n 0, 1), (25, .iload_n 1, 1), (26, .invokevirtual 69, 3)]), (37, [(29, .ifCond .ne 5, 3), (32, .iconst 0, 1), (33, .ireturn, 1), (34, .aload_n 0, 1), (35, .bipush 61, 2)]), (48, [(37, .invokevirtual 36, 3), (40, .ifCond .eq 15, 3), (43, .aload_n 0, 1), (44, .iload_n 1, 1), (45, .invokevirtual 57, 3)]), (100000, [(48, .ifCond .eq 7, 3), (51, .iconst 1, 1), (52, .goto 4, 3), (55, .iconst 0, 1), (56, .ireturn, 1)])]
set_option maxRecDepth 100000 in
theorem dk_26 : dkA cl_26 prog_3_method_10_code = true := by decide +kernel
set_option maxRecDepth 100000 in
theorem ok_26 : (ck pft pfn (look2 cl_26) ppl pmk 2 false 3 tr_26 0 0 0 0).isSome = true := by decide +kernel
set_option maxRecDepth 100000 in
theorem mk_26 : MOK1 26 mr_26 := mok_mk ⟨"GatedPile$Grammar", "named", "(I)Z"⟩ prog_3_method_10_code _ 1 2 "GatedPile$Grammar" cl_26 false rfl rfl rfl rfl dk_26 (by decide +kernel) (by decide +kernel) (by decide +kernel) ok_26 (plainFor_of_name (by decide +kernel)) (fun _ => ⟨2, _, rfl, rfl, rfl⟩)
/-- GatedPile$Grammar.attempt(I)Z -/
def cl_27 : xCl := [(9, [(0, .aload_n 0, 1), (1, .iload_n 1, 1), (2, .invokevirtual 43, 3), (5, .ifCond .eq 11, 3), (8, .aload_n 0, 1)]), (18, [(9, .iload_n 1, 1), (10, .invokevirtual 72, 3), (13, .ifCond .ne 5, 3), (16, .iconst 0, 1), (17, .ireturn, 1)]), (27, [(18, .aload_n 0, 1), (19, .getfield 9, 3), (22, .getfield 19, 3), (25, .istore_n 2, 1), (26, .iload_n 2, 1)]), (39, [(27, .ifCond .le 28, 3), (30, .aload_n 0, 1), (31, .invokevirtual 24, 3), (34, .bipush 12, 2), (36, .if_icmp .ne 19, 3)]), (48, [(39, .aload_n 0, 1), (40, .iload_n 1, 1), (41, .invokevirtual 72, 3), (44, .ifCond .ne 5, 3), (47, .iconst 0, 1)]), (100000, [(48, .ireturn, 1), (49, .iinc 2 (-1), 3), (52, .goto (-26), 3), (55, .iconst 1, 1), (56, .ireturn, 1)])]
set_option maxRecDepth 100000 in
theorem dk_27 : dkA cl_27 prog_3_method_11_code = true := by decide +kernel
set_option maxRecDepth 100000 in
theorem ok_27 : (ck pft pfn (look2 cl_27) ppl pmk 2 false 3 tr_27 0 0 0 0).isSome = true := by decide +kernel
set_option maxRecDepth 100000 in
theorem mk_27 : MOK1 27 mr_27 := mok_mk ⟨"GatedPile$Grammar", "attempt", "(I)Z"⟩ prog_3_method_11_code _ 1 2 "GatedPile$Grammar" cl_27 false rfl rfl rfl rfl dk_27 (by decide +kernel) (by decide +kernel) (by decide +kernel) ok_27 (plainFor_of_name (by decide +kernel)) (fun _ => ⟨2, _, rfl, rfl, rfl⟩)
/-- GatedPile$Grammar.when(I)Z -/
def cl_28 : xCl := [(9, [(0, .aload_n 0, 1), (1, .bipush 12, 2), (3, .invokevirtual 36, 3), (6, .ifCond .eq 23, 3)]), (17, [(9, .aload_n 0, 1), (10, .iconst 2, 1), (11, .invokevirtual 36, 3), (14, .ifCond .eq 15, 3)]), (25, [(17, .aload_n 0, 1), (18, .iload_n 1, 1), (19, .invokevirtual 43, 3), (22, .ifCond .eq 7, 3)]), (100000, [(25, .iconst 1, 1), (26, .goto 4, 3), (29, .iconst 0, 1), (30, .ireturn, 1)])]
set_option maxRecDepth 100000 in
theorem dk_28 : dkA cl_28 prog_3_method_12_code = true := by decide +kernel
set_option maxRecDepth 100000 in
theorem ok_28 : (ck pft pfn (look2 cl_28) ppl pmk 2 false 3 tr_28 0 0 0 0).isSome = true := by decide +kernel
set_option maxRecDepth 100000 in
theorem mk_28 : MOK1 28 mr_28 := mok_mk ⟨"GatedPile$Grammar", "when", "(I)Z"⟩ prog_3_method_12_code _ 1 2 "GatedPile$Grammar" cl_28 false rfl rfl rfl rfl dk_28 (by decide +kernel) (by decide +kernel) (by decide +kernel) ok_28 (plainFor_of_name (by decide +kernel)) (fun _ => ⟨2, _, rfl, rfl, rfl⟩)
/-- GatedPile$Grammar.expression(I)Z -/
def cl_29 : xCl := [(8, [(0, .aload_n 0, 1), (1, .iload_n 1, 1), (2, .invokevirtual 75, 3), (5, .ifCond .ne 5, 3)]), (14, [(8, .iconst 0, 1), (9, .ireturn, 1), (10, .aload_n 0, 1), (11, .invokevirtual 24, 3)]), (22, [(14, .invokestatic 78, 3), (17, .iconst (-1), 1), (18, .if_icmp .ne 5, 3), (21, .iconst 1, 1)]), (28, [(22, .ireturn, 1), (23, .aload_n 0, 1), (24, .dup, 1), (25, .getfield 15, 3)]), (34, [(28, .iconst 1, 1), (29, .iadd, 1), (30, .putfield 15, 3), (33, .aload_n 0, 1)]), (100000, [(34, .iload_n 1, 1), (35, .invokevirtual 75, 3), (38, .ireturn, 1)])]
set_option maxRecDepth 100000 in
theorem dk_29 : dkA cl_29 prog_3_method_13_code = true := by decide +kernel
set_option maxRecDepth 100000 in
theorem ok_29 : (ck pft pfn (look2 cl_29) ppl pmk 2 false 3 tr_29 0 0 0 0).isSome = true := by decide +kernel
set_option maxRecDepth 100000 in
theorem mk_29 : MOK1 29 mr_29 := mok_mk ⟨"GatedPile$Grammar", "expression", "(I)Z"⟩ prog_3_method_13_code _ 1 2 "GatedPile$Grammar" cl_29 false rfl rfl rfl rfl dk_29 (by decide +kernel) (by decide +kernel) (by decide +kernel) ok_29 (plainFor_of_name (by decide +kernel)) (fun _ => ⟨2, _, rfl, rfl, rfl⟩)
/-- GatedPile$Grammar.sum(I)Z -/
def cl_30 : xCl := [(10, [(0, .aload_n 0, 1), (1, .iload_n 1, 1), (2, .invokevirtual 81, 3), (5, .ifCond .ne 5, 3), (8, .iconst 0, 1), (9, .ireturn, 1)]), (22, [(10, .aload_n 0, 1), (11, .getfield 9, 3), (14, .getfield 19, 3), (17, .istore_n 2, 1), (18, .iload_n 2, 1), (19, .ifCond .le 47, 3)]), (35, [(22, .aload_n 0, 1), (23, .invokevirtual 24, 3), (26, .bipush 43, 2), (28, .if_icmp .eq 12, 3), (31, .aload_n 0, 1), (32, .invokevirtual 24, 3)]), (46, [(35, .bipush 45, 2), (37, .if_icmp .ne 29, 3), (40, .aload_n 0, 1), (41, .dup, 1), (42, .getfield 15, 3), (45, .iconst 1, 1)]), (58, [(46, .iadd, 1), (47, .putfield 15, 3), (50, .aload_n 0, 1), (51, .iload_n 1, 1), (52, .invokevirtual 81, 3), (55, .ifCond .ne 5, 3)]), (100000, [(58, .iconst 0, 1), (59, .ireturn, 1), (60, .iinc 2 (-1), 3), (63, .goto (-45), 3), (66, .iconst 1, 1), (67, .ireturn, 1)])]
set_option maxRecDepth 100000 in
theorem dk_30 : dkA cl_30 prog_3_method_14_code = true := by decide +kernel
set_option maxRecDepth 100000 in
theorem ok_30 : (ck pft pfn (look2 cl_30) ppl pmk 2 false 3 tr_30 0 0 0 0).isSome = true := by decide +kernel
set_option maxRecDepth 100000 in
theorem mk_30 : MOK1 30 mr_30 := mok_mk ⟨"GatedPile$Grammar", "sum", "(I)Z"⟩ prog_3_method_14_code _ 1 2 "GatedPile$Grammar" cl_30 false rfl rfl rfl rfl dk_30 (by decide +kernel) (by decide +kernel) (by decide +kernel) ok_30 (plainFor_of_name (by decide +kernel)) (fun _ => ⟨2, _, rfl, rfl, rfl⟩)
/-- GatedPile$Grammar.term(I)Z -/
def cl_31 : xCl := [(10, [(0, .aload_n 0, 1), (1, .iload_n 1, 1), (2, .invokevirtual 84, 3), (5, .ifCond .ne 5, 3), (8, .iconst 0, 1), (9, .ireturn, 1)]), (22, [(10, .aload_n 0, 1), (11, .getfield 9, 3), (14, .getfield 19, 3), (17, .istore_n 2, 1), (18, .iload_n 2, 1), (19, .ifCond .le 56, 3)]), (35, [(22, .aload_n 0, 1), (23, .invokevirtual 24, 3), (26, .bipush 42, 2), (28, .if_icmp .eq 21, 3), (31, .aload_n 0, 1), (32, .invokevirtual 24, 3)]), (49, [(35, .bipush 47, 2), (37, .if_icmp .eq 12, 3), (40, .aload_n 0, 1), (41, .invokevirtual 24, 3), (44, .bipush 37, 2), (46, .if_icmp .ne 29, 3)]), (59, [(49, .aload_n 0, 1), (50, .dup, 1), (51, .getfield 15, 3), (54, .iconst 1, 1), (55, .iadd, 1), (56, .putfield 15, 3)]), (69, [(59, .aload_n 0, 1), (60, .iload_n 1, 1), (61, .invokevirtual 84, 3), (64, .ifCond .ne 5, 3), (67, .iconst 0, 1), (68, .ireturn, 1)]), (100000, [(69, .iinc 2 (-1), 3), (72, .goto (-54), 3), (75, .iconst 1, 1), (76, .ireturn, 1)])]
set_option maxRecDepth 100000 in
theorem dk_31 : dkA cl_31 prog_3_method_15_code = true := by decide +kernel
set_option maxRecDepth 100000 in
theorem ok_31 : (ck pft pfn (look2 cl_31) ppl pmk 2 false 3 tr_31 0 0 0 0).isSome = true := by decide +kernel
set_option maxRecDepth 100000 in
theorem mk_31 : MOK1 31 mr_31 := mok_mk ⟨"GatedPile$Grammar", "term", "(I)Z"⟩ prog_3_method_15_code _ 1 2 "GatedPile$Grammar" cl_31 false rfl rfl rfl rfl dk_31 (by decide +kernel) (by decide +kernel) (by decide +kernel) ok_31 (plainFor_of_name (by decide +kernel)) (fun _ => ⟨2, _, rfl, rfl, rfl⟩)
/-- GatedPile$Grammar.factor(I)Z -/
def cl_32 : xCl := [(66, [(0, .aload_n 0, 1), (1, .invokevirtual 24, 3), (4, .lookupswitch 173 #[(2, 125), (3, 113), (16, 113), (40, 78), (45, 52)], 52), (56, .aload_n 0, 1), (57, .bipush 45, 2), (59, .iload_n 1, 1), (60, .invokevirtual 46, 3), (63, .ifCond .eq 17, 3)]), (80, [(66, .aload_n 0, 1), (67, .iload_n 1, 1), (68, .iconst 1, 1), (69, .iadd, 1), (70, .invokevirtual 84, 3), (73, .ifCond .eq 7, 3), (76, .iconst 1, 1), (77, .goto 4, 3)]), (93, [(80, .iconst 0, 1), (81, .ireturn, 1), (82, .aload_n 0, 1), (83, .bipush 40, 2), (85, .iload_n 1, 1), (86, .invokevirtual 46, 3), (89, .ifCond .eq 26, 3), (92, .aload_n 0, 1)]), (108, [(93, .iload_n 1, 1), (94, .iconst 1, 1), (95, .iadd, 1), (96, .invokevirtual 57, 3), (99, .ifCond .eq 16, 3), (102, .aload_n 0, 1), (103, .bipush 41, 2), (105, .invokevirtual 36, 3)]), (122, [(108, .ifCond .eq 7, 3), (111, .iconst 1, 1), (112, .goto 4, 3), (115, .iconst 0, 1), (116, .ireturn, 1), (117, .aload_n 0, 1), (118, .dup, 1), (119, .getfield 15, 3)]), (134, [(122, .iconst 1, 1), (123, .iadd, 1), (124, .putfield 15, 3), (127, .iconst 1, 1), (128, .ireturn, 1), (129, .aload_n 0, 1), (130, .dup, 1), (131, .getfield 15, 3)]), (149, [(134, .iconst 1, 1), (135, .iadd, 1), (136, .putfield 15, 3), (139, .aload_n 0, 1), (140, .invokevirtual 24, 3), (143, .bipush 91, 2), (145, .if_icmp .ne 9, 3), (148, .aload_n 0, 1)]), (164, [(149, .iload_n 1, 1), (150, .invokevirtual 69, 3), (153, .ireturn, 1), (154, .aload_n 0, 1), (155, .invokevirtual 24, 3), (158, .bipush 40, 2), (160, .if_icmp .ne 11, 3), (163, .aload_n 0, 1)]), (178, [(164, .iload_n 1, 1), (165, .invokevirtual 66, 3), (168, .ifCond .eq 7, 3), (171, .iconst 1, 1), (172, .goto 4, 3), (175, .iconst 0, 1), (176, .ireturn, 1), (177, .iconst 0, 1)]), (100000, [(178, .ireturn, 1)])]
set_option maxRecDepth 100000 in
theorem dk_32 : dkA cl_32 prog_3_method_16_code = true := by decide +kernel
set_option maxRecDepth 100000 in
theorem ok_32 : (ck pft pfn (look2 cl_32) ppl pmk 2 false 3 tr_32 0 0 0 0).isSome = true := by decide +kernel
set_option maxRecDepth 100000 in
theorem mk_32 : MOK1 32 mr_32 := mok_mk ⟨"GatedPile$Grammar", "factor", "(I)Z"⟩ prog_3_method_16_code _ 1 2 "GatedPile$Grammar" cl_32 false rfl rfl rfl rfl dk_32 (by decide +kernel) (by decide +kernel) (by decide +kernel) ok_32 (plainFor_of_name (by decide +kernel)) (fun _ => ⟨2, _, rfl, rfl, rfl⟩)
/-- GatedPile$Grammar.index(I)Z -/
def cl_33 : xCl := [(7, [(0, .aload_n 0, 1), (1, .bipush 91, 2), (3, .iload_n 1, 1), (4, .invokevirtual 46, 3)]), (13, [(7, .ifCond .eq 26, 3), (10, .aload_n 0, 1), (11, .iload_n 1, 1), (12, .iconst 1, 1)]), (21, [(13, .iadd, 1), (14, .invokevirtual 57, 3), (17, .ifCond .eq 16, 3), (20, .aload_n 0, 1)]), (30, [(21, .bipush 93, 2), (23, .invokevirtual 36, 3), (26, .ifCond .eq 7, 3), (29, .iconst 1, 1)]), (100000, [(30, .goto 4, 3), (33, .iconst 0, 1), (34, .ireturn, 1)])]
set_option maxRecDepth 100000 in
theorem dk_33 : dkA cl_33 prog_3_method_17_code = true := by decide +kernel
set_option maxRecDepth 100000 in
theorem ok_33 : (ck pft pfn (look2 cl_33) ppl pmk 2 false 3 tr_33 0 0 0 0).isSome = true := by decide +kernel
set_option maxRecDepth 100000 in
theorem mk_33 : MOK1 33 mr_33 := mok_mk ⟨"GatedPile$Grammar", "index", "(I)Z"⟩ prog_3_method_17_code _ 1 2 "GatedPile$Grammar" cl_33 false rfl rfl rfl rfl dk_33 (by decide +kernel) (by decide +kernel) (by decide +kernel) ok_33 (plainFor_of_name (by decide +kernel)) (fun _ => ⟨2, _, rfl, rfl, rfl⟩)
/-- GatedPile$Grammar.arguments(I)Z -/
def cl_34 : xCl := [(11, [(0, .aload_n 0, 1), (1, .bipush 40, 2), (3, .iload_n 1, 1), (4, .invokevirtual 46, 3), (7, .ifCond .ne 5, 3), (10, .iconst 0, 1)]), (22, [(11, .ireturn, 1), (12, .aload_n 0, 1), (13, .bipush 41, 2), (15, .invokevirtual 36, 3), (18, .ifCond .eq 5, 3), (21, .iconst 1, 1)]), (30, [(22, .ireturn, 1), (23, .aload_n 0, 1), (24, .iload_n 1, 1), (25, .iconst 1, 1), (26, .iadd, 1), (27, .invokevirtual 57, 3)]), (42, [(30, .ifCond .ne 5, 3), (33, .iconst 0, 1), (34, .ireturn, 1), (35, .aload_n 0, 1), (36, .getfield 9, 3), (39, .getfield 19, 3)]), (53, [(42, .istore_n 2, 1), (43, .iload_n 2, 1), (44, .ifCond .le 30, 3), (47, .aload_n 0, 1), (48, .bipush 44, 2), (50, .invokevirtual 36, 3)]), (63, [(53, .ifCond .eq 21, 3), (56, .aload_n 0, 1), (57, .iload_n 1, 1), (58, .iconst 1, 1), (59, .iadd, 1), (60, .invokevirtual 57, 3)]), (75, [(63, .ifCond .ne 5, 3), (66, .iconst 0, 1), (67, .ireturn, 1), (68, .iinc 2 (-1), 3), (71, .goto (-28), 3), (74, .aload_n 0, 1)]), (100000, [(75, .bipush 41, 2), (77, .invokevirtual 36, 3), (80, .ireturn, 1)])]
set_option maxRecDepth 100000 in
theorem dk_34 : dkA cl_34 prog_3_method_18_code = true := by decide +kernel
set_option maxRecDepth 100000 in
theorem ok_34 : (ck pft pfn (look2 cl_34) ppl pmk 2 false 3 tr_34 0 0 0 0).isSome = true := by decide +kernel
set_option maxRecDepth 100000 in
theorem mk_34 : MOK1 34 mr_34 := mok_mk ⟨"GatedPile$Grammar", "arguments", "(I)Z"⟩ prog_3_method_18_code _ 1 2 "GatedPile$Grammar" cl_34 false rfl rfl rfl rfl dk_34 (by decide +kernel) (by decide +kernel) (by decide +kernel) ok_34 (plainFor_of_name (by decide +kernel)) (fun _ => ⟨2, _, rfl, rfl, rfl⟩)
/-- GatedPile$Layer.<init>(LGatedPile$Tops;)V -/
def cl_35 : xCl := [(8, [(0, .aload_n 0, 1), (1, .invokespecial 1, 3), (4, .aload_n 0, 1), (5, .sipush 3000, 3)]), (15, [(8, .newarray .int, 2), (10, .putfield 9, 3), (13, .aload_n 0, 1), (14, .aload_n 1, 1)]), (100000, [(15, .putfield 15, 3), (18, .return_, 1)])]
set_option maxRecDepth 100000 in
theorem dk_35 : dkA cl_35 prog_4_method_1_code = true := by decide +kernel
set_option maxRecDepth 100000 in
theorem ok_35 : (ck pft pfn (look2 cl_35) ppl pmk 3 true 9 tr_35 0 0 0 0).isSome = true := by decide +kernel
set_option maxRecDepth 100000 in
theorem mk_35 : MOK1 35 mr_35 := mok_mk ⟨"GatedPile$Layer", "<init>", "(LGatedPile$Tops;)V"⟩ prog_4_method_1_code _ 2 3 "GatedPile$Layer" cl_35 true rfl rfl rfl rfl dk_35 (by decide +kernel) (by decide +kernel) (by decide +kernel) ok_35 (plainFor_of_name (by decide +kernel)) (fun z => absurd z (by decide))
/-- GatedPile$Layer.lay(LGatedPile$Code;)Z -/
def cl_36 : xCl := [(15, [(0, .aload_n 0, 1), (1, .aload_n 1, 1), (2, .putfield 19, 3), (5, .aload_n 0, 1), (6, .getfield 9, 3), (9, .iconst 0, 1), (10, .invokestatic 23, 3), (13, .iconst 0, 1), (14, .istore_n 2, 1)]), (30, [(15, .iload_n 2, 1), (16, .sipush 12002, 3), (19, .if_icmp .ge 137, 3), (22, .aload_n 0, 1), (23, .iload_n 2, 1), (24, .iconst 2, 1), (25, .irem, 1), (26, .iconst 1, 1), (27, .if_icmp .ne 7, 3)]), (45, [(30, .iconst 1, 1), (31, .goto 4, 3), (34, .iconst 0, 1), (35, .putfield 29, 3), (38, .aload_n 0, 1), (39, .iconst 0, 1), (40, .putfield 33, 3), (43, .aload_n 0, 1), (44, .iconst 0, 1)]), (66, [(45, .putfield 36, 3), (48, .aload_n 0, 1), (49, .invokevirtual 40, 3), (52, .aload_n 0, 1), (53, .getstatic 43, 3), (56, .invokevirtual 46, 3), (59, .aload_n 0, 1), (60, .getstatic 50, 3), (63, .invokevirtual 46, 3)]), (83, [(66, .iconst 0, 1), (67, .istore_n 3, 1), (68, .iload_n 3, 1), (69, .aload_n 0, 1), (70, .getfield 19, 3), (73, .getfield 53, 3), (76, .if_icmp .ge 27, 3), (79, .aload_n 0, 1), (80, .getfield 19, 3)]), (100, [(83, .getfield 56, 3), (86, .iload_n 3, 1), (87, .aload_n 0, 1), (88, .getfield 36, 3), (91, .iastore, 1), (92, .aload_n 0, 1), (93, .iload_n 3, 1), (94, .invokevirtual 59, 3), (97, .iinc 3 1, 3)]), (121, [(100, .goto (-32), 3), (103, .aload_n 0, 1), (104, .getfield 36, 3), (107, .aload_n 0, 1), (108, .getfield 15, 3), (111, .getfield 63, 3), (114, .iadd, 1), (115, .sipush 6000, 3), (118, .if_icmp .le 5, 3)]), (138, [(121, .iconst 0, 1), (122, .ireturn, 1), (123, .aload_n 0, 1), (124, .getfield 19, 3), (127, .aload_n 0, 1), (128, .getfield 36, 3), (131, .putfield 68, 3), (134, .aload_n 0, 1), (135, .getfield 29, 3)]), (157, [(138, .ifCond .eq 12, 3), (141, .aload_n 0, 1), (142, .getfield 33, 3), (145, .ifCond .ne 5, 3), (148, .iconst 1, 1), (149, .ireturn, 1), (150, .iinc 2 1, 3), (153, .goto (-138), 3), (156, .iconst 0, 1)]), (100000, [(157, .ireturn, 1)])]
set_option maxRecDepth 100000 in
theorem dk_36 : dkA cl_36 prog_4_method_2_code = true := by decide +kernel
set_option maxRecDepth 100000 in
theorem ok_36 : (ck pft pfn (look2 cl_36) ppl pmk 3 false 3 tr_36 0 0 0 0).isSome = true := by decide +kernel
set_option maxRecDepth 100000 in
theorem mk_36 : MOK1 36 mr_36 := mok_mk ⟨"GatedPile$Layer", "lay", "(LGatedPile$Code;)Z"⟩ prog_4_method_2_code _ 1 3 "GatedPile$Layer" cl_36 false rfl rfl rfl rfl dk_36 (by decide +kernel) (by decide +kernel) (by decide +kernel) ok_36 (plainFor_of_name (by decide +kernel)) (fun _ => ⟨3, _, rfl, rfl, rfl⟩)
/-- GatedPile$Layer.layHead()V -/
def cl_37 : xCl := [(9, [(0, .aload_n 0, 1), (1, .bipush 6, 2), (3, .iconst 4, 1), (4, .iconst 0, 1), (5, .iconst 0, 1), (6, .invokevirtual 73, 3)]), (20, [(9, .aload_n 0, 1), (10, .bipush 7, 2), (12, .aload_n 0, 1), (13, .getfield 19, 3), (16, .getfield 68, 3), (19, .aload_n 0, 1)]), (33, [(20, .getfield 15, 3), (23, .getfield 63, 3), (26, .iadd, 1), (27, .invokevirtual 77, 3), (30, .aload_n 0, 1), (31, .bipush 10, 2)]), (43, [(33, .bipush 6, 2), (35, .bipush 7, 2), (37, .iconst 0, 1), (38, .invokevirtual 73, 3), (41, .aload_n 0, 1), (42, .aload_n 0, 1)]), (57, [(43, .getfield 19, 3), (46, .aload_n 0, 1), (47, .getfield 19, 3), (50, .aload_n 0, 1), (51, .getfield 15, 3), (54, .invokevirtual 80, 3)]), (70, [(57, .invokevirtual 84, 3), (60, .invokevirtual 88, 3), (63, .invokevirtual 91, 3), (66, .aload_n 0, 1), (67, .bipush 15, 2), (69, .iconst 0, 1)]), (100000, [(70, .iconst 0, 1), (71, .iconst 0, 1), (72, .invokevirtual 73, 3), (75, .return_, 1)])]
set_option maxRecDepth 100000 in
theorem dk_37 : dkA cl_37 prog_4_method_3_code = true := by decide +kernel
set_option maxRecDepth 100000 in
theorem ok_37 : (ck pft pfn (look2 cl_37) ppl pmk 3 false 9 tr_37 0 0 0 0).isSome = true := by decide +kernel
set_option maxRecDepth 100000 in
theorem mk_37 : MOK1 37 mr_37 := mok_mk ⟨"GatedPile$Layer", "layHead", "()V"⟩ prog_4_method_3_code _ 1 3 "GatedPile$Layer" cl_37 false rfl rfl rfl rfl dk_37 (by decide +kernel) (by decide +kernel) (by decide +kernel) ok_37 (plainFor_of_name (by decide +kernel)) (fun _ => ⟨3, _, rfl, rfl, rfl⟩)
/-- GatedPile$Layer.layTable([I)V -/
def cl_38 : xCl := [(5, [(0, .iconst 0, 1), (1, .istore_n 2, 1), (2, .iload_n 2, 1), (3, .iconst 3, 1), (4, .iadd, 1)]), (12, [(5, .aload_n 1, 1), (6, .arraylength, 1), (7, .if_icmp .ge 31, 3), (10, .aload_n 0, 1), (11, .aload_n 1, 1)]), (17, [(12, .iload_n 2, 1), (13, .iaload, 1), (14, .aload_n 1, 1), (15, .iload_n 2, 1), (16, .iconst 1, 1)]), (22, [(17, .iadd, 1), (18, .iaload, 1), (19, .aload_n 1, 1), (20, .iload_n 2, 1), (21, .iconst 2, 1)]), (27, [(22, .iadd, 1), (23, .iaload, 1), (24, .aload_n 1, 1), (25, .iload_n 2, 1), (26, .iconst 3, 1)]), (38, [(27, .iadd, 1), (28, .iaload, 1), (29, .invokevirtual 73, 3), (32, .iinc 2 4, 3), (35, .goto (-33), 3)]), (100000, [(38, .return_, 1)])]
set_option maxRecDepth 100000 in
theorem dk_38 : dkA cl_38 prog_4_method_4_code = true := by decide +kernel
set_option maxRecDepth 100000 in
theorem ok_38 : (ck pft pfn (look2 cl_38) ppl pmk 3 false 9 tr_38 0 0 0 0).isSome = true := by decide +kernel
set_option maxRecDepth 100000 in
theorem mk_38 : MOK1 38 mr_38 := mok_mk ⟨"GatedPile$Layer", "layTable", "([I)V"⟩ prog_4_method_4_code _ 1 3 "GatedPile$Layer" cl_38 false rfl rfl rfl rfl dk_38 (by decide +kernel) (by decide +kernel) (by decide +kernel) ok_38 (plainFor_of_name (by decide +kernel)) (fun _ => ⟨3, _, rfl, rfl, rfl⟩)
/-- GatedPile$Layer.put(IIII)V -/
def cl_39 : xCl := [(15, [(0, .aload_n 0, 1), (1, .getfield 29, 3), (4, .ifCond .eq 83, 3), (7, .aload_n 0, 1), (8, .getfield 36, 3), (11, .ifCond .lt 76, 3), (14, .aload_n 0, 1)]), (32, [(15, .getfield 36, 3), (18, .sipush 6000, 3), (21, .if_icmp .ge 66, 3), (24, .iload_n 1, 1), (25, .ifCond .lt 62, 3), (28, .iload_n 1, 1), (29, .getstatic 94, 3)]), (44, [(32, .arraylength, 1), (33, .if_icmp .ge 54, 3), (36, .iload_n 1, 1), (37, .iconst 4, 1), (38, .if_icmp .gt 10, 3), (41, .iload 4, 2), (43, .iconst 3, 1)]), (59, [(44, .ishl, 1), (45, .goto 5, 3), (48, .iload 4, 2), (50, .istore 5, 2), (52, .aload_n 0, 1), (53, .getfield 19, 3), (56, .getfield 97, 3)]), (70, [(59, .aload_n 0, 1), (60, .getfield 36, 3), (63, .iload_n 1, 1), (64, .bipush 12, 2), (66, .ishl, 1), (67, .iload_n 2, 1), (68, .bipush 9, 2)]), (79, [(70, .ishl, 1), (71, .ior, 1), (72, .iload_n 3, 1), (73, .bipush 6, 2), (75, .ishl, 1), (76, .ior, 1), (77, .iload 5, 2)]), (88, [(79, .getstatic 94, 3), (82, .iload_n 1, 1), (83, .iaload, 1), (84, .iand, 1), (85, .ior, 1), (86, .iastore, 1), (87, .aload_n 0, 1)]), (100000, [(88, .dup, 1), (89, .getfield 36, 3), (92, .iconst 1, 1), (93, .iadd, 1), (94, .putfield 36, 3), (97, .return_, 1)])]
set_option maxRecDepth 100000 in
theorem dk_39 : dkA cl_39 prog_4_method_5_code = true := by decide +kernel
set_option maxRecDepth 100000 in
theorem ok_39 : (ck pft pfn (look2 cl_39) ppl pmk 3 false 9 tr_39 0 0 0 0).isSome = true := by decide +kernel
set_option maxRecDepth 100000 in
theorem mk_39 : MOK1 39 mr_39 := mok_mk ⟨"GatedPile$Layer", "put", "(IIII)V"⟩ prog_4_method_5_code _ 1 3 "GatedPile$Layer" cl_39 false rfl rfl rfl rfl dk_39 (by decide +kernel) (by decide +kernel) (by decide +kernel) ok_39 (plainFor_of_name (by decide +kernel)) (fun _ => ⟨3, _, rfl, rfl, rfl⟩)
/-- GatedPile$Layer.place(II)V -/
def cl_40 : xCl := [(5, [(0, .aload_n 0, 1), (1, .bipush 6, 2), (3, .iload_n 1, 1), (4, .iconst 0, 1)]), (13, [(5, .iload_n 2, 1), (6, .sipush 255, 3), (9, .iand, 1), (10, .invokevirtual 73, 3)]), (18, [(13, .aload_n 0, 1), (14, .bipush 7, 2), (16, .iload_n 1, 1), (17, .iconst 0, 1)]), (25, [(18, .iload_n 2, 1), (19, .bipush 8, 2), (21, .ishr, 1), (22, .sipush 255, 3)]), (100000, [(25, .iand, 1), (26, .invokevirtual 73, 3), (29, .return_, 1)])]
set_option maxRecDepth 100000 in
theorem dk_40 : dkA cl_40 prog_4_method_6_code = true := by decide +kernel
set_option maxRecDepth 100000 in
theorem ok_40 : (ck pft pfn (look2 cl_40) ppl pmk 3 false 9 tr_40 0 0 0 0).isSome = true := by decide +kernel
set_option maxRecDepth 100000 in
theorem mk_40 : MOK1 40 mr_40 := mok_mk ⟨"GatedPile$Layer", "place", "(II)V"⟩ prog_4_method_6_code _ 1 3 "GatedPile$Layer" cl_40 false rfl rfl rfl rfl dk_40 (by decide +kernel) (by decide +kernel) (by decide +kernel) ok_40 (plainFor_of_name (by decide +kernel)) (fun _ => ⟨3, _, rfl, rfl, rfl⟩)
/-- GatedPile$Layer.constant(II)V -/
def cl_41 : xCl := [(8, [(0, .iload_n 2, 1), (1, .sipush (-256), 3), (4, .if_icmp .lt 22, 3), (7, .iload_n 2, 1)]), (17, [(8, .sipush 255, 3), (11, .if_icmp .gt 15, 3), (14, .aload_n 0, 1), (15, .bipush 6, 2)]), (23, [(17, .iload_n 1, 1), (18, .iconst 0, 1), (19, .iload_n 2, 1), (20, .invokevirtual 73, 3)]), (29, [(23, .goto 9, 3), (26, .aload_n 0, 1), (27, .iload_n 1, 1), (28, .iload_n 2, 1)]), (100000, [(29, .invokevirtual 77, 3), (32, .return_, 1)])]
set_option maxRecDepth 100000 in
theorem dk_41 : dkA cl_41 prog_4_method_7_code = true := by decide +kernel
set_option maxRecDepth 100000 in
theorem ok_41 : (ck pft pfn (look2 cl_41) ppl pmk 3 false 9 tr_41 0 0 0 0).isSome = true := by decide +kernel
set_option maxRecDepth 100000 in
theorem mk_41 : MOK1 41 mr_41 := mok_mk ⟨"GatedPile$Layer", "constant", "(II)V"⟩ prog_4_method_7_code _ 1 3 "GatedPile$Layer" cl_41 false rfl rfl rfl rfl dk_41 (by decide +kernel) (by decide +kernel) (by decide +kernel) ok_41 (plainFor_of_name (by decide +kernel)) (fun _ => ⟨3, _, rfl, rfl, rfl⟩)
/-- GatedPile$Layer.on(I)V -/
def cl_42 : xCl := [(6, [(0, .aload_n 0, 1), (1, .bipush 9, 2), (3, .iload_n 1, 1), (4, .bipush 7, 2)]), (13, [(6, .iconst 0, 1), (7, .invokevirtual 73, 3), (10, .aload_n 0, 1), (11, .bipush 10, 2)]), (21, [(13, .bipush 7, 2), (15, .bipush 7, 2), (17, .iconst 1, 1), (18, .invokevirtual 73, 3)]), (100000, [(21, .return_, 1)])]
set_option maxRecDepth 100000 in
theorem dk_42 : dkA cl_42 prog_4_method_8_code = true := by decide +kernel
set_option maxRecDepth 100000 in
theorem ok_42 : (ck pft pfn (look2 cl_42) ppl pmk 3 false 9 tr_42 0 0 0 0).isSome = true := by decide +kernel
set_option maxRecDepth 100000 in
theorem mk_42 : MOK1 42 mr_42 := mok_mk ⟨"GatedPile$Layer", "on", "(I)V"⟩ prog_4_method_8_code _ 1 3 "GatedPile$Layer" cl_42 false rfl rfl rfl rfl dk_42 (by decide +kernel) (by decide +kernel) (by decide +kernel) ok_42 (plainFor_of_name (by decide +kernel)) (fun _ => ⟨3, _, rfl, rfl, rfl⟩)
/-- GatedPile$Layer.off(I)V -/
def cl_43 : xCl := [(7, [(0, .aload_n 0, 1), (1, .bipush 10, 2), (3, .bipush 7, 2), (5, .bipush 7, 2)]), (14, [(7, .iconst (-1), 1), (8, .invokevirtual 73, 3), (11, .aload_n 0, 1), (12, .bipush 8, 2)]), (21, [(14, .iload_n 1, 1), (15, .bipush 7, 2), (17, .iconst 0, 1), (18, .invokevirtual 73, 3)]), (100000, [(21, .return_, 1)])]
set_option maxRecDepth 100000 in
theorem dk_43 : dkA cl_43 prog_4_method_9_code = true := by decide +kernel
set_option maxRecDepth 100000 in
theorem ok_43 : (ck pft pfn (look2 cl_43) ppl pmk 3 false 9 tr_43 0 0 0 0).isSome = true := by decide +kernel
set_option maxRecDepth 100000 in
theorem mk_43 : MOK1 43 mr_43 := mok_mk ⟨"GatedPile$Layer", "off", "(I)V"⟩ prog_4_method_9_code _ 1 3 "GatedPile$Layer" cl_43 false rfl rfl rfl rfl dk_43 (by decide +kernel) (by decide +kernel) (by decide +kernel) ok_43 (plainFor_of_name (by decide +kernel)) (fun _ => ⟨3, _, rfl, rfl, rfl⟩)
/-- GatedPile$Layer.library(I)V -/
def cl_44 : xCl := [(6, [(0, .aload_n 0, 1), (1, .iconst 5, 1), (2, .iload_n 1, 1), (3, .invokevirtual 77, 3)]), (11, [(6, .aload_n 0, 1), (7, .bipush 13, 2), (9, .iconst 5, 1), (10, .iconst 5, 1)]), (100000, [(11, .iconst 0, 1), (12, .invokevirtual 73, 3), (15, .return_, 1)])]
set_option maxRecDepth 100000 in
theorem dk_44 : dkA cl_44 prog_4_method_10_code = true := by decide +kernel
set_option maxRecDepth 100000 in
theorem ok_44 : (ck pft pfn (look2 cl_44) ppl pmk 3 false 9 tr_44 0 0 0 0).isSome = true := by decide +kernel
set_option maxRecDepth 100000 in
theorem mk_44 : MOK1 44 mr_44 := mok_mk ⟨"GatedPile$Layer", "library", "(I)V"⟩ prog_4_method_10_code _ 1 3 "GatedPile$Layer" cl_44 false rfl rfl rfl rfl dk_44 (by decide +kernel) (by decide +kernel) (by decide +kernel) ok_44 (plainFor_of_name (by decide +kernel)) (fun _ => ⟨3, _, rfl, rfl, rfl⟩)
/-- GatedPile$Layer.nextIsLonger()Z -/
def cl_45 : xCl := [(8, [(0, .aload_n 0, 1), (1, .getfield 9, 3), (4, .aload_n 0, 1), (5, .getfield 100, 3)]), (14, [(8, .iaload, 1), (9, .aload_n 0, 1), (10, .getfield 103, 3), (13, .ishr, 1)]), (20, [(14, .iconst 1, 1), (15, .iand, 1), (16, .ifCond .eq 7, 3), (19, .iconst 1, 1)]), (100000, [(20, .goto 4, 3), (23, .iconst 0, 1), (24, .ireturn, 1)])]
set_option maxRecDepth 100000 in
theorem dk_45 : dkA cl_45 prog_4_method_11_code = true := by decide +kernel
set_option maxRecDepth 100000 in
theorem ok_45 : (ck pft pfn (look2 cl_45) ppl pmk 3 false 3 tr_45 0 0 0 0).isSome = true := by decide +kernel
set_option maxRecDepth 100000 in
theorem mk_45 : MOK1 45 mr_45 := mok_mk ⟨"GatedPile$Layer", "nextIsLonger", "()Z"⟩ prog_4_method_11_code _ 1 3 "GatedPile$Layer" cl_45 false rfl rfl rfl rfl dk_45 (by decide +kernel) (by decide +kernel) (by decide +kernel) ok_45 (plainFor_of_name (by decide +kernel)) (fun _ => ⟨3, _, rfl, rfl, rfl⟩)
/-- GatedPile$Layer.goSize()I -/
def cl_46 : xCl := [(8, [(0, .aload_n 0, 1), (1, .invokevirtual 106, 3), (4, .ifCond .eq 7, 3), (7, .iconst 3, 1)]), (100000, [(8, .goto 4, 3), (11, .iconst 1, 1), (12, .ireturn, 1)])]
set_option maxRecDepth 100000 in
theorem dk_46 : dkA cl_46 prog_4_method_12_code = true := by decide +kernel
set_option maxRecDepth 100000 in
theorem ok_46 : (ck pft pfn (look2 cl_46) ppl pmk 3 false 0 tr_46 0 0 0 0).isSome = true := by decide +kernel
set_option maxRecDepth 100000 in
theorem mk_46 : MOK1 46 mr_46 := mok_mk ⟨"GatedPile$Layer", "goSize", "()I"⟩ prog_4_method_12_code _ 1 3 "GatedPile$Layer" cl_46 false rfl rfl rfl rfl dk_46 (by decide +kernel) (by decide +kernel) (by decide +kernel) ok_46 (plainFor_of_name (by decide +kernel)) (fun _ => ⟨3, _, rfl, rfl, rfl⟩)
/-- GatedPile$Layer.go()V -/
def cl_47 : xCl := [(19, [(0, .aload_n 0, 1), (1, .getfield 19, 3), (4, .aload_n 0, 1), (5, .getfield 19, 3), (8, .getfield 110, 3), (11, .aload_n 0, 1), (12, .getfield 100, 3), (15, .iaload, 1), (16, .invokevirtual 88, 3)]), (33, [(19, .istore_n 1, 1), (20, .aload_n 0, 1), (21, .invokevirtual 106, 3), (24, .ifCond .eq 44, 3), (27, .aload_n 0, 1), (28, .bipush 6, 2), (30, .iconst 5, 1), (31, .iconst 0, 1), (32, .iload_n 1, 1)]), (48, [(33, .sipush 255, 3), (36, .iand, 1), (37, .invokevirtual 73, 3), (40, .aload_n 0, 1), (41, .bipush 7, 2), (43, .iconst 5, 1), (44, .iconst 0, 1), (45, .iload_n 1, 1), (46, .bipush 8, 2)]), (62, [(48, .ishr, 1), (49, .sipush 255, 3), (52, .iand, 1), (53, .invokevirtual 73, 3), (56, .aload_n 0, 1), (57, .bipush 13, 2), (59, .iconst 5, 1), (60, .iconst 5, 1), (61, .iconst 0, 1)]), (77, [(62, .invokevirtual 73, 3), (65, .goto 65, 3), (68, .iload_n 1, 1), (69, .aload_n 0, 1), (70, .getfield 36, 3), (73, .isub, 1), (74, .iconst 1, 1), (75, .isub, 1), (76, .istore_n 2, 1)]), (98, [(77, .aload_n 0, 1), (78, .getfield 29, 3), (81, .ifCond .eq 40, 3), (84, .iload_n 2, 1), (85, .sipush (-2048), 3), (88, .if_icmp .lt 10, 3), (91, .iload_n 2, 1), (92, .sipush 2047, 3), (95, .if_icmp .le 26, 3)]), (113, [(98, .aload_n 0, 1), (99, .getfield 9, 3), (102, .aload_n 0, 1), (103, .getfield 100, 3), (106, .dup2, 1), (107, .iaload, 1), (108, .iconst 1, 1), (109, .aload_n 0, 1), (110, .getfield 103, 3)]), (125, [(113, .ishl, 1), (114, .ior, 1), (115, .iastore, 1), (116, .aload_n 0, 1), (117, .iconst 1, 1), (118, .putfield 33, 3), (121, .aload_n 0, 1), (122, .bipush 14, 2), (124, .iconst 0, 1)]), (140, [(125, .iconst 0, 1), (126, .iload_n 2, 1), (127, .invokevirtual 73, 3), (130, .aload_n 0, 1), (131, .dup, 1), (132, .getfield 103, 3), (135, .iconst 1, 1), (136, .iadd, 1), (137, .putfield 103, 3)]), (100000, [(140, .return_, 1)])]
set_option maxRecDepth 100000 in
theorem dk_47 : dkA cl_47 prog_4_method_13_code = true := by decide +kernel
set_option maxRecDepth 100000 in
theorem ok_47 : (ck pft pfn (look2 cl_47) ppl pmk 3 false 9 tr_47 0 0 0 0).isSome = true := by decide +kernel
set_option maxRecDepth 100000 in
theorem mk_47 : MOK1 47 mr_47 := mok_mk ⟨"GatedPile$Layer", "go", "()V"⟩ prog_4_method_13_code _ 1 3 "GatedPile$Layer" cl_47 false rfl rfl rfl rfl dk_47 (by decide +kernel) (by decide +kernel) (by decide +kernel) ok_47 (plainFor_of_name (by decide +kernel)) (fun _ => ⟨3, _, rfl, rfl, rfl⟩)
/-- GatedPile$Layer.skipFail(I)V -/
def cl_48 : xCl := [(5, [(0, .aload_n 0, 1), (1, .bipush 14, 2), (3, .iconst 0, 1), (4, .iconst 0, 1)]), (11, [(5, .iconst 1, 1), (6, .aload_n 0, 1), (7, .invokevirtual 113, 3), (10, .iadd, 1)]), (18, [(11, .invokevirtual 73, 3), (14, .aload_n 0, 1), (15, .bipush 6, 2), (17, .iconst 4, 1)]), (24, [(18, .iconst 0, 1), (19, .iload_n 1, 1), (20, .invokevirtual 73, 3), (23, .aload_n 0, 1)]), (100000, [(24, .invokevirtual 116, 3), (27, .return_, 1)])]
set_option maxRecDepth 100000 in
theorem dk_48 : dkA cl_48 prog_4_method_14_code = true := by decide +kernel
set_option maxRecDepth 100000 in
theorem ok_48 : (ck pft pfn (look2 cl_48) ppl pmk 3 false 9 tr_48 0 0 0 0).isSome = true := by decide +kernel
set_option maxRecDepth 100000 in
theorem mk_48 : MOK1 48 mr_48 := mok_mk ⟨"GatedPile$Layer", "skipFail", "(I)V"⟩ prog_4_method_14_code _ 1 3 "GatedPile$Layer" cl_48 false rfl rfl rfl rfl dk_48 (by decide +kernel) (by decide +kernel) (by decide +kernel) ok_48 (plainFor_of_name (by decide +kernel)) (fun _ => ⟨3, _, rfl, rfl, rfl⟩)
/-- GatedPile$Layer.goIfRaised()V -/
def cl_49 : xCl := [(5, [(0, .aload_n 0, 1), (1, .bipush 11, 2), (3, .iconst 4, 1), (4, .iconst 0, 1)]), (13, [(5, .aload_n 0, 1), (6, .invokevirtual 113, 3), (9, .invokevirtual 73, 3), (12, .aload_n 0, 1)]), (100000, [(13, .invokevirtual 116, 3), (16, .return_, 1)])]
set_option maxRecDepth 100000 in
theorem dk_49 : dkA cl_49 prog_4_method_15_code = true := by decide +kernel
set_option maxRecDepth 100000 in
theorem ok_49 : (ck pft pfn (look2 cl_49) ppl pmk 3 false 9 tr_49 0 0 0 0).isSome = true := by decide +kernel
set_option maxRecDepth 100000 in
theorem mk_49 : MOK1 49 mr_49 := mok_mk ⟨"GatedPile$Layer", "goIfRaised", "()V"⟩ prog_4_method_15_code _ 1 3 "GatedPile$Layer" cl_49 false rfl rfl rfl rfl dk_49 (by decide +kernel) (by decide +kernel) (by decide +kernel) ok_49 (plainFor_of_name (by decide +kernel)) (fun _ => ⟨3, _, rfl, rfl, rfl⟩)
set_option maxRecDepth 100000 in
theorem ma_0 : AllM 0 ml_0 := AllM_cons mk_0 (AllM_cons mk_1 (AllM_cons mk_2 (AllM_cons mk_3 (AllM_cons mk_4 (AllM_cons mk_5 (AllM_cons mk_6 (AllM_cons mk_7 (AllM_cons mk_8 (AllM_cons mk_9 (AllM_cons mk_10 (AllM_cons mk_11 (AllM_cons mk_12 (AllM_cons mk_13 (AllM_cons mk_14 (AllM_cons mk_15 (AllM_cons mk_16 (AllM_cons mk_17 (AllM_cons mk_18 (AllM_cons mk_19 (AllM_cons mk_20 (AllM_cons mk_21 (AllM_cons mk_22 (AllM_cons mk_23 (AllM_cons mk_24 (AllM_cons mk_25 (AllM_cons mk_26 (AllM_cons mk_27 (AllM_cons mk_28 (AllM_cons mk_29 (AllM_cons mk_30 (AllM_cons mk_31 (AllM_cons mk_32 (AllM_cons mk_33 (AllM_cons mk_34 (AllM_cons mk_35 (AllM_cons mk_36 (AllM_cons mk_37 (AllM_cons mk_38 (AllM_cons mk_39 (AllM_cons mk_40 (AllM_cons mk_41 (AllM_cons mk_42 (AllM_cons mk_43 (AllM_cons mk_44 (AllM_cons mk_45 (AllM_cons mk_46 (AllM_cons mk_47 (AllM_cons mk_48 (AllM_cons mk_49 (AllM_nil _))))))))))))))))))))))))))))))))))))))))))))))))))
