/-- GatedPile$Text.isDigit(I)Z -/
def cl_143 : xCl := [(7, [(0, .iload_n 0, 1), (1, .bipush 48, 2), (3, .if_icmp .lt 13, 3), (6, .iload_n 0, 1)]), (16, [(7, .bipush 57, 2), (9, .if_icmp .gt 7, 3), (12, .iconst 1, 1), (13, .goto 4, 3)]), (100000, [(16, .iconst 0, 1), (17, .ireturn, 1)])]
set_option maxRecDepth 100000 in
theorem dk_143 : dkA cl_143 prog_8_method_19_code = true := by decide +kernel
set_option maxRecDepth 100000 in
theorem ok_143 : (ck pft pfn (look2 cl_143) ppl pmk 7 false 3 tr_143 0 0 0 0).isSome = true := by decide +kernel
set_option maxRecDepth 100000 in
theorem mk_143 : MOK1 143 mr_143 := mok_mk ⟨"GatedPile$Text", "isDigit", "(I)Z"⟩ prog_8_method_19_code _ 0 7 "GatedPile$Text" cl_143 false rfl rfl rfl rfl dk_143 (by decide +kernel) (by decide +kernel) (by decide +kernel) ok_143 (plainFor_of_name (by decide +kernel)) (fun z => absurd z (by decide))
/-- GatedPile$Tops.spell(JI)J -/
def cl_144 : xCl := [(6, [(0, .lload_n 0, 1), (1, .ldc2_w 42, 3), (4, .lmul, 1), (5, .iload_n 2, 1)]), (14, [(6, .bipush 97, 2), (8, .if_icmp .lt 12, 3), (11, .iload_n 2, 1), (12, .bipush 97, 2)]), (20, [(14, .isub, 1), (15, .iconst 1, 1), (16, .iadd, 1), (17, .goto 10, 3)]), (26, [(20, .iload_n 2, 1), (21, .bipush 48, 2), (23, .isub, 1), (24, .bipush 27, 2)]), (100000, [(26, .iadd, 1), (27, .i2l, 1), (28, .ladd, 1), (29, .lreturn, 1)])]
set_option maxRecDepth 100000 in
theorem dk_144 : dkA cl_144 prog_9_method_2_code = true := by decide +kernel
set_option maxRecDepth 100000 in
theorem ok_144 : (ck pft pfn (look2 cl_144) ppl pmk 8 false 1 tr_144 0 0 0 0).isSome = true := by decide +kernel
set_option maxRecDepth 100000 in
theorem mk_144 : MOK1 144 mr_144 := mok_mk ⟨"GatedPile$Tops", "spell", "(JI)J"⟩ prog_9_method_2_code _ 0 8 "GatedPile$Tops" cl_144 false rfl rfl rfl rfl dk_144 (by decide +kernel) (by decide +kernel) (by decide +kernel) ok_144 (plainFor_of_name (by decide +kernel)) (fun z => absurd z (by decide))
/-- GatedPile$Tops.codeOf(Ljava/lang/String;)J -/
def cl_145 : xCl := [(4, [(0, .lconst 0, 1), (1, .lstore_n 1, 1), (2, .iconst 0, 1), (3, .istore_n 3, 1)]), (12, [(4, .iload_n 3, 1), (5, .aload_n 0, 1), (6, .invokevirtual 44, 3), (9, .if_icmp .ge 19, 3)]), (18, [(12, .lload_n 1, 1), (13, .aload_n 0, 1), (14, .iload_n 3, 1), (15, .invokevirtual 50, 3)]), (28, [(18, .invokestatic 54, 3), (21, .lstore_n 1, 1), (22, .iinc 3 1, 3), (25, .goto (-21), 3)]), (100000, [(28, .lload_n 1, 1), (29, .lreturn, 1)])]
set_option maxRecDepth 100000 in
theorem dk_145 : dkA cl_145 prog_9_method_3_code = true := by decide +kernel
set_option maxRecDepth 100000 in
theorem ok_145 : (ck pft pfn (look2 cl_145) ppl pmk 8 false 1 tr_145 0 0 0 0).isSome = true := by decide +kernel
set_option maxRecDepth 100000 in
theorem mk_145 : MOK1 145 mr_145 := mok_mk ⟨"GatedPile$Tops", "codeOf", "(Ljava/lang/String;)J"⟩ prog_9_method_3_code _ 0 8 "GatedPile$Tops" cl_145 false rfl rfl rfl rfl dk_145 (by decide +kernel) (by decide +kernel) (by decide +kernel) ok_145 (plainFor_of_name (by decide +kernel)) (fun z => absurd z (by decide))
/-- GatedPile$Tops.begin()V -/
def cl_146 : xCl := [(10, [(0, .aload_n 0, 1), (1, .iconst 0, 1), (2, .putfield 58, 3), (5, .aload_n 0, 1), (6, .iconst 0, 1), (7, .putfield 62, 3)]), (20, [(10, .aload_n 0, 1), (11, .iconst 0, 1), (12, .putfield 65, 3), (15, .aload_n 0, 1), (16, .iconst 0, 1), (17, .putfield 68, 3)]), (30, [(20, .aload_n 0, 1), (21, .iconst 0, 1), (22, .putfield 71, 3), (25, .aload_n 0, 1), (26, .iconst 0, 1), (27, .putfield 74, 3)]), (42, [(30, .aload_n 0, 1), (31, .sipush 3001, 3), (34, .putfield 77, 3), (37, .aload_n 0, 1), (38, .iconst 0, 1), (39, .putfield 80, 3)]), (54, [(42, .aload_n 0, 1), (43, .ldc 84, 2), (45, .invokevirtual 86, 3), (48, .aload_n 0, 1), (49, .ldc 90, 2), (51, .invokevirtual 86, 3)]), (66, [(54, .aload_n 0, 1), (55, .ldc 92, 2), (57, .invokevirtual 86, 3), (60, .aload_n 0, 1), (61, .ldc 94, 2), (63, .invokevirtual 86, 3)]), (100000, [(66, .aload_n 0, 1), (67, .ldc 96, 2), (69, .invokevirtual 86, 3), (72, .return_, 1)])]
set_option maxRecDepth 100000 in
theorem dk_146 : dkA cl_146 prog_9_method_4_code = true := by decide +kernel
set_option maxRecDepth 100000 in
theorem ok_146 : (ck pft pfn (look2 cl_146) ppl pmk 8 false 9 tr_146 0 0 0 0).isSome = true := by decide +kernel
set_option maxRecDepth 100000 in
theorem mk_146 : MOK1 146 mr_146 := mok_mk ⟨"GatedPile$Tops", "begin", "()V"⟩ prog_9_method_4_code _ 1 8 "GatedPile$Tops" cl_146 false rfl rfl rfl rfl dk_146 (by decide +kernel) (by decide +kernel) (by decide +kernel) ok_146 (plainFor_of_name (by decide +kernel)) (fun _ => ⟨8, _, rfl, rfl, rfl⟩)
/-- GatedPile$Tops.tellAhead(Ljava/lang/String;)V -/
def cl_147 : xCl := [(8, [(0, .aload_n 0, 1), (1, .aload_n 1, 1), (2, .invokestatic 98, 3), (5, .invokevirtual 102, 3)]), (14, [(8, .istore_n 2, 1), (9, .aload_n 0, 1), (10, .dup, 1), (11, .getfield 65, 3)]), (20, [(14, .iconst 1, 1), (15, .iadd, 1), (16, .putfield 65, 3), (19, .aload_n 0, 1)]), (26, [(20, .getfield 17, 3), (23, .iload_n 2, 1), (24, .iconst 3, 1), (25, .iastore, 1)]), (32, [(26, .aload_n 0, 1), (27, .getfield 21, 3), (30, .iload_n 2, 1), (31, .aload_n 0, 1)]), (100000, [(32, .getfield 65, 3), (35, .iastore, 1), (36, .return_, 1)])]
set_option maxRecDepth 100000 in
theorem dk_147 : dkA cl_147 prog_9_method_5_code = true := by decide +kernel
set_option maxRecDepth 100000 in
theorem ok_147 : (ck pft pfn (look2 cl_147) ppl pmk 8 false 9 tr_147 0 0 0 0).isSome = true := by decide +kernel
set_option maxRecDepth 100000 in
theorem mk_147 : MOK1 147 mr_147 := mok_mk ⟨"GatedPile$Tops", "tellAhead", "(Ljava/lang/String;)V"⟩ prog_9_method_5_code _ 1 8 "GatedPile$Tops" cl_147 false rfl rfl rfl rfl dk_147 (by decide +kernel) (by decide +kernel) (by decide +kernel) ok_147 (plainFor_of_name (by decide +kernel)) (fun _ => ⟨8, _, rfl, rfl, rfl⟩)
/-- GatedPile$Tops.idOf(J)I -/
def cl_148 : xCl := [(11, [(0, .iconst 0, 1), (1, .istore_n 3, 1), (2, .iload_n 3, 1), (3, .aload_n 0, 1), (4, .getfield 58, 3), (7, .if_icmp .ge 22, 3), (10, .aload_n 0, 1)]), (22, [(11, .getfield 13, 3), (14, .iload_n 3, 1), (15, .laload, 1), (16, .lload_n 1, 1), (17, .lcmp, 1), (18, .ifCond .ne 5, 3), (21, .iload_n 3, 1)]), (39, [(22, .ireturn, 1), (23, .iinc 3 1, 3), (26, .goto (-24), 3), (29, .aload_n 0, 1), (30, .getfield 58, 3), (33, .sipush 1510, 3), (36, .if_icmp .lt 5, 3)]), (50, [(39, .iconst 0, 1), (40, .ireturn, 1), (41, .aload_n 0, 1), (42, .getfield 13, 3), (45, .aload_n 0, 1), (46, .getfield 58, 3), (49, .lload_n 1, 1)]), (61, [(50, .lastore, 1), (51, .aload_n 0, 1), (52, .getfield 17, 3), (55, .aload_n 0, 1), (56, .getfield 58, 3), (59, .iconst 0, 1), (60, .iastore, 1)]), (72, [(61, .aload_n 0, 1), (62, .getfield 21, 3), (65, .aload_n 0, 1), (66, .getfield 58, 3), (69, .iconst (-1), 1), (70, .iastore, 1), (71, .aload_n 0, 1)]), (83, [(72, .getfield 24, 3), (75, .aload_n 0, 1), (76, .getfield 58, 3), (79, .iconst (-1), 1), (80, .iastore, 1), (81, .aload_n 0, 1), (82, .dup, 1)]), (96, [(83, .getfield 58, 3), (86, .iconst 1, 1), (87, .iadd, 1), (88, .putfield 58, 3), (91, .aload_n 0, 1), (92, .getfield 58, 3), (95, .iconst 1, 1)]), (100000, [(96, .isub, 1), (97, .ireturn, 1)])]
set_option maxRecDepth 100000 in
theorem dk_148 : dkA cl_148 prog_9_method_6_code = true := by decide +kernel
set_option maxRecDepth 100000 in
theorem ok_148 : (ck pft pfn (look2 cl_148) ppl pmk 8 false 0 tr_148 0 0 0 0).isSome = true := by decide +kernel
set_option maxRecDepth 100000 in
theorem mk_148 : MOK1 148 mr_148 := mok_mk ⟨"GatedPile$Tops", "idOf", "(J)I"⟩ prog_9_method_6_code _ 1 8 "GatedPile$Tops" cl_148 false rfl rfl rfl rfl dk_148 (by decide +kernel) (by decide +kernel) (by decide +kernel) ok_148 (plainFor_of_name (by decide +kernel)) (fun _ => ⟨8, _, rfl, rfl, rfl⟩)
/-- GatedPile$Tops.kindOf(I)I -/
def cl_149 : xCl := [(6, [(0, .iload_n 1, 1), (1, .ifCond .lt 11, 3), (4, .iload_n 1, 1), (5, .aload_n 0, 1)]), (16, [(6, .getfield 58, 3), (9, .if_icmp .lt 7, 3), (12, .iconst 0, 1), (13, .goto 9, 3)]), (22, [(16, .aload_n 0, 1), (17, .getfield 17, 3), (20, .iload_n 1, 1), (21, .iaload, 1)]), (100000, [(22, .ireturn, 1)])]
set_option maxRecDepth 100000 in
theorem dk_149 : dkA cl_149 prog_9_method_7_code = true := by decide +kernel
set_option maxRecDepth 100000 in
theorem ok_149 : (ck pft pfn (look2 cl_149) ppl pmk 8 false 0 tr_149 0 0 0 0).isSome = true := by decide +kernel
set_option maxRecDepth 100000 in
theorem mk_149 : MOK1 149 mr_149 := mok_mk ⟨"GatedPile$Tops", "kindOf", "(I)I"⟩ prog_9_method_7_code _ 1 8 "GatedPile$Tops" cl_149 false rfl rfl rfl rfl dk_149 (by decide +kernel) (by decide +kernel) (by decide +kernel) ok_149 (plainFor_of_name (by decide +kernel)) (fun _ => ⟨8, _, rfl, rfl, rfl⟩)
/-- GatedPile$Tops.numberOf(I)I -/
def cl_150 : xCl := [(6, [(0, .iload_n 1, 1), (1, .ifCond .lt 11, 3), (4, .iload_n 1, 1), (5, .aload_n 0, 1)]), (16, [(6, .getfield 58, 3), (9, .if_icmp .lt 7, 3), (12, .iconst (-1), 1), (13, .goto 9, 3)]), (22, [(16, .aload_n 0, 1), (17, .getfield 21, 3), (20, .iload_n 1, 1), (21, .iaload, 1)]), (100000, [(22, .ireturn, 1)])]
set_option maxRecDepth 100000 in
theorem dk_150 : dkA cl_150 prog_9_method_8_code = true := by decide +kernel
set_option maxRecDepth 100000 in
theorem ok_150 : (ck pft pfn (look2 cl_150) ppl pmk 8 false 0 tr_150 0 0 0 0).isSome = true := by decide +kernel
set_option maxRecDepth 100000 in
theorem mk_150 : MOK1 150 mr_150 := mok_mk ⟨"GatedPile$Tops", "numberOf", "(I)I"⟩ prog_9_method_8_code _ 1 8 "GatedPile$Tops" cl_150 false rfl rfl rfl rfl dk_150 (by decide +kernel) (by decide +kernel) (by decide +kernel) ok_150 (plainFor_of_name (by decide +kernel)) (fun _ => ⟨8, _, rfl, rfl, rfl⟩)
/-- GatedPile$Tops.localOf(I)I -/
def cl_151 : xCl := [(6, [(0, .iload_n 1, 1), (1, .ifCond .lt 11, 3), (4, .iload_n 1, 1), (5, .aload_n 0, 1)]), (16, [(6, .getfield 58, 3), (9, .if_icmp .lt 7, 3), (12, .iconst (-1), 1), (13, .goto 9, 3)]), (22, [(16, .aload_n 0, 1), (17, .getfield 24, 3), (20, .iload_n 1, 1), (21, .iaload, 1)]), (100000, [(22, .ireturn, 1)])]
set_option maxRecDepth 100000 in
theorem dk_151 : dkA cl_151 prog_9_method_9_code = true := by decide +kernel
set_option maxRecDepth 100000 in
theorem ok_151 : (ck pft pfn (look2 cl_151) ppl pmk 8 false 0 tr_151 0 0 0 0).isSome = true := by decide +kernel
set_option maxRecDepth 100000 in
theorem mk_151 : MOK1 151 mr_151 := mok_mk ⟨"GatedPile$Tops", "localOf", "(I)I"⟩ prog_9_method_9_code _ 1 8 "GatedPile$Tops" cl_151 false rfl rfl rfl rfl dk_151 (by decide +kernel) (by decide +kernel) (by decide +kernel) ok_151 (plainFor_of_name (by decide +kernel)) (fun _ => ⟨8, _, rfl, rfl, rfl⟩)
/-- GatedPile$Tops.setLocal(II)V -/
def cl_152 : xCl := [(6, [(0, .iload_n 1, 1), (1, .ifCond .lt 18, 3), (4, .iload_n 1, 1), (5, .aload_n 0, 1)]), (16, [(6, .getfield 58, 3), (9, .if_icmp .ge 10, 3), (12, .aload_n 0, 1), (13, .getfield 24, 3)]), (100000, [(16, .iload_n 1, 1), (17, .iload_n 2, 1), (18, .iastore, 1), (19, .return_, 1)])]
set_option maxRecDepth 100000 in
theorem dk_152 : dkA cl_152 prog_9_method_10_code = true := by decide +kernel
set_option maxRecDepth 100000 in
theorem ok_152 : (ck pft pfn (look2 cl_152) ppl pmk 8 false 9 tr_152 0 0 0 0).isSome = true := by decide +kernel
set_option maxRecDepth 100000 in
theorem mk_152 : MOK1 152 mr_152 := mok_mk ⟨"GatedPile$Tops", "setLocal", "(II)V"⟩ prog_9_method_10_code _ 1 8 "GatedPile$Tops" cl_152 false rfl rfl rfl rfl dk_152 (by decide +kernel) (by decide +kernel) (by decide +kernel) ok_152 (plainFor_of_name (by decide +kernel)) (fun _ => ⟨8, _, rfl, rfl, rfl⟩)
/-- GatedPile$Tops.parametersOf(I)I -/
def cl_153 : xCl := [(6, [(0, .iload_n 1, 1), (1, .ifCond .lt 11, 3), (4, .iload_n 1, 1), (5, .aload_n 0, 1)]), (16, [(6, .getfield 68, 3), (9, .if_icmp .lt 7, 3), (12, .iconst 0, 1), (13, .goto 9, 3)]), (22, [(16, .aload_n 0, 1), (17, .getfield 33, 3), (20, .iload_n 1, 1), (21, .iaload, 1)]), (100000, [(22, .ireturn, 1)])]
set_option maxRecDepth 100000 in
theorem dk_153 : dkA cl_153 prog_9_method_11_code = true := by decide +kernel
set_option maxRecDepth 100000 in
theorem ok_153 : (ck pft pfn (look2 cl_153) ppl pmk 8 false 0 tr_153 0 0 0 0).isSome = true := by decide +kernel
set_option maxRecDepth 100000 in
theorem mk_153 : MOK1 153 mr_153 := mok_mk ⟨"GatedPile$Tops", "parametersOf", "(I)I"⟩ prog_9_method_11_code _ 1 8 "GatedPile$Tops" cl_153 false rfl rfl rfl rfl dk_153 (by decide +kernel) (by decide +kernel) (by decide +kernel) ok_153 (plainFor_of_name (by decide +kernel)) (fun _ => ⟨8, _, rfl, rfl, rfl⟩)
/-- GatedPile$Tops.offsetOf(I)I -/
def cl_154 : xCl := [(6, [(0, .iload_n 1, 1), (1, .ifCond .lt 11, 3), (4, .iload_n 1, 1), (5, .aload_n 0, 1)]), (16, [(6, .getfield 62, 3), (9, .if_icmp .lt 7, 3), (12, .iconst 0, 1), (13, .goto 9, 3)]), (22, [(16, .aload_n 0, 1), (17, .getfield 27, 3), (20, .iload_n 1, 1), (21, .iaload, 1)]), (100000, [(22, .ireturn, 1)])]
set_option maxRecDepth 100000 in
theorem dk_154 : dkA cl_154 prog_9_method_12_code = true := by decide +kernel
set_option maxRecDepth 100000 in
theorem ok_154 : (ck pft pfn (look2 cl_154) ppl pmk 8 false 0 tr_154 0 0 0 0).isSome = true := by decide +kernel
set_option maxRecDepth 100000 in
theorem mk_154 : MOK1 154 mr_154 := mok_mk ⟨"GatedPile$Tops", "offsetOf", "(I)I"⟩ prog_9_method_12_code _ 1 8 "GatedPile$Tops" cl_154 false rfl rfl rfl rfl dk_154 (by decide +kernel) (by decide +kernel) (by decide +kernel) ok_154 (plainFor_of_name (by decide +kernel)) (fun _ => ⟨8, _, rfl, rfl, rfl⟩)
/-- GatedPile$Tops.lengthOf(I)I -/
def cl_155 : xCl := [(6, [(0, .iload_n 1, 1), (1, .ifCond .lt 11, 3), (4, .iload_n 1, 1), (5, .aload_n 0, 1)]), (16, [(6, .getfield 62, 3), (9, .if_icmp .lt 7, 3), (12, .iconst 0, 1), (13, .goto 9, 3)]), (22, [(16, .aload_n 0, 1), (17, .getfield 30, 3), (20, .iload_n 1, 1), (21, .iaload, 1)]), (100000, [(22, .ireturn, 1)])]
set_option maxRecDepth 100000 in
theorem dk_155 : dkA cl_155 prog_9_method_13_code = true := by decide +kernel
set_option maxRecDepth 100000 in
theorem ok_155 : (ck pft pfn (look2 cl_155) ppl pmk 8 false 0 tr_155 0 0 0 0).isSome = true := by decide +kernel
set_option maxRecDepth 100000 in
theorem mk_155 : MOK1 155 mr_155 := mok_mk ⟨"GatedPile$Tops", "lengthOf", "(I)I"⟩ prog_9_method_13_code _ 1 8 "GatedPile$Tops" cl_155 false rfl rfl rfl rfl dk_155 (by decide +kernel) (by decide +kernel) (by decide +kernel) ok_155 (plainFor_of_name (by decide +kernel)) (fun _ => ⟨8, _, rfl, rfl, rfl⟩)
/-- GatedPile$Tops.mainNumber()I -/
def cl_156 : xCl := [(9, [(0, .aload_n 0, 1), (1, .ldc 106, 2), (3, .invokestatic 98, 3), (6, .invokevirtual 102, 3)]), (15, [(9, .istore_n 1, 1), (10, .aload_n 0, 1), (11, .iload_n 1, 1), (12, .invokevirtual 108, 3)]), (21, [(15, .iconst 4, 1), (16, .if_icmp .ne 23, 3), (19, .aload_n 0, 1), (20, .aload_n 0, 1)]), (31, [(21, .iload_n 1, 1), (22, .invokevirtual 112, 3), (25, .invokevirtual 115, 3), (28, .ifCond .ne 11, 3)]), (39, [(31, .aload_n 0, 1), (32, .iload_n 1, 1), (33, .invokevirtual 112, 3), (36, .goto 4, 3)]), (100000, [(39, .iconst (-1), 1), (40, .ireturn, 1)])]
set_option maxRecDepth 100000 in
theorem dk_156 : dkA cl_156 prog_9_method_14_code = true := by decide +kernel
set_option maxRecDepth 100000 in
theorem ok_156 : (ck pft pfn (look2 cl_156) ppl pmk 8 false 0 tr_156 0 0 0 0).isSome = true := by decide +kernel
set_option maxRecDepth 100000 in
theorem mk_156 : MOK1 156 mr_156 := mok_mk ⟨"GatedPile$Tops", "mainNumber", "()I"⟩ prog_9_method_14_code _ 1 8 "GatedPile$Tops" cl_156 false rfl rfl rfl rfl dk_156 (by decide +kernel) (by decide +kernel) (by decide +kernel) ok_156 (plainFor_of_name (by decide +kernel)) (fun _ => ⟨8, _, rfl, rfl, rfl⟩)
/-- GatedPile$Tops.exceeds()Z -/
def cl_157 : xCl := [(8, [(0, .aload_n 0, 1), (1, .getfield 80, 3), (4, .ifCond .ne 30, 3), (7, .aload_n 0, 1)]), (17, [(8, .getfield 68, 3), (11, .bipush 40, 2), (13, .if_icmp .gt 21, 3), (16, .aload_n 0, 1)]), (26, [(17, .getfield 65, 3), (20, .bipush 30, 2), (22, .if_icmp .gt 12, 3), (25, .aload_n 0, 1)]), (35, [(26, .getfield 62, 3), (29, .bipush 60, 2), (31, .if_icmp .le 7, 3), (34, .iconst 1, 1)]), (100000, [(35, .goto 4, 3), (38, .iconst 0, 1), (39, .ireturn, 1)])]
set_option maxRecDepth 100000 in
theorem dk_157 : dkA cl_157 prog_9_method_15_code = true := by decide +kernel
set_option maxRecDepth 100000 in
theorem ok_157 : (ck pft pfn (look2 cl_157) ppl pmk 8 false 3 tr_157 0 0 0 0).isSome = true := by decide +kernel
set_option maxRecDepth 100000 in
theorem mk_157 : MOK1 157 mr_157 := mok_mk ⟨"GatedPile$Tops", "exceeds", "()Z"⟩ prog_9_method_15_code _ 1 8 "GatedPile$Tops" cl_157 false rfl rfl rfl rfl dk_157 (by decide +kernel) (by decide +kernel) (by decide +kernel) ok_157 (plainFor_of_name (by decide +kernel)) (fun _ => ⟨8, _, rfl, rfl, rfl⟩)
/-- GatedPile$Tops.gather(LGatedPile$Text;)V -/
def cl_158 : xCl := [(11, [(0, .iconst 0, 1), (1, .istore_n 2, 1), (2, .aload_n 1, 1), (3, .getfield 120, 3), (6, .istore_n 3, 1), (7, .iload_n 3, 1), (8, .ifCond .le 73, 3)]), (24, [(11, .aload_n 1, 1), (12, .iload_n 2, 1), (13, .invokevirtual 123, 3), (16, .ifCond .eq 65, 3), (19, .aload_n 1, 1), (20, .iload_n 2, 1), (21, .invokevirtual 123, 3)]), (37, [(24, .istore 4, 2), (26, .iinc 2 1, 3), (29, .iload 4, 2), (31, .iconst 4, 1), (32, .if_icmp .ne 13, 3), (35, .aload_n 0, 1), (36, .aload_n 1, 1)]), (51, [(37, .iload_n 2, 1), (38, .invokevirtual 124, 3), (41, .istore_n 2, 1), (42, .goto 33, 3), (45, .iload 4, 2), (47, .iconst 5, 1), (48, .if_icmp .ne 13, 3)]), (63, [(51, .aload_n 0, 1), (52, .aload_n 1, 1), (53, .iload_n 2, 1), (54, .invokevirtual 128, 3), (57, .istore_n 2, 1), (58, .goto 17, 3), (61, .iload 4, 2)]), (75, [(63, .bipush 6, 2), (65, .if_icmp .ne 10, 3), (68, .aload_n 0, 1), (69, .aload_n 1, 1), (70, .iload_n 2, 1), (71, .invokevirtual 131, 3), (74, .istore_n 2, 1)]), (92, [(75, .iinc 3 (-1), 3), (78, .goto (-71), 3), (81, .aload_n 0, 1), (82, .getfield 39, 3), (85, .aload_n 0, 1), (86, .getfield 68, 3), (89, .sipush 300, 3)]), (100000, [(92, .invokestatic 134, 3), (95, .aload_n 0, 1), (96, .getfield 74, 3), (99, .iastore, 1), (100, .return_, 1)])]
set_option maxRecDepth 100000 in
theorem dk_158 : dkA cl_158 prog_9_method_16_code = true := by decide +kernel
set_option maxRecDepth 100000 in
theorem ok_158 : (ck pft pfn (look2 cl_158) ppl pmk 8 false 9 tr_158 0 0 0 0).isSome = true := by decide +kernel
set_option maxRecDepth 100000 in
theorem mk_158 : MOK1 158 mr_158 := mok_mk ⟨"GatedPile$Tops", "gather", "(LGatedPile$Text;)V"⟩ prog_9_method_16_code _ 1 8 "GatedPile$Tops" cl_158 false rfl rfl rfl rfl dk_158 (by decide +kernel) (by decide +kernel) (by decide +kernel) ok_158 (plainFor_of_name (by decide +kernel)) (fun _ => ⟨8, _, rfl, rfl, rfl⟩)
/-- GatedPile$Tops.tell(LGatedPile$Text;III)V -/
def cl_159 : xCl := [(8, [(0, .aload_n 1, 1), (1, .iload_n 2, 1), (2, .invokevirtual 140, 3), (5, .istore 5, 2), (7, .aload_n 0, 1)]), (18, [(8, .iload 5, 2), (10, .invokevirtual 108, 3), (13, .ifCond .eq 22, 3), (16, .aload_n 0, 1), (17, .aload_n 0, 1)]), (29, [(18, .getfield 77, 3), (21, .aload_n 1, 1), (22, .iload_n 2, 1), (23, .invokevirtual 143, 3), (26, .invokestatic 134, 3)]), (42, [(29, .putfield 77, 3), (32, .goto 34, 3), (35, .iload 5, 2), (37, .ifCond .lt 29, 3), (40, .iload 5, 2)]), (53, [(42, .aload_n 0, 1), (43, .getfield 58, 3), (46, .if_icmp .ge 20, 3), (49, .aload_n 0, 1), (50, .getfield 17, 3)]), (61, [(53, .iload 5, 2), (55, .iload_n 3, 1), (56, .iastore, 1), (57, .aload_n 0, 1), (58, .getfield 21, 3)]), (100000, [(61, .iload 5, 2), (63, .iload 4, 2), (65, .iastore, 1), (66, .return_, 1)])]
set_option maxRecDepth 100000 in
theorem dk_159 : dkA cl_159 prog_9_method_17_code = true := by decide +kernel
set_option maxRecDepth 100000 in
theorem ok_159 : (ck pft pfn (look2 cl_159) ppl pmk 8 false 9 tr_159 0 0 0 0).isSome = true := by decide +kernel
set_option maxRecDepth 100000 in
theorem mk_159 : MOK1 159 mr_159 := mok_mk ⟨"GatedPile$Tops", "tell", "(LGatedPile$Text;III)V"⟩ prog_9_method_17_code _ 1 8 "GatedPile$Tops" cl_159 false rfl rfl rfl rfl dk_159 (by decide +kernel) (by decide +kernel) (by decide +kernel) ok_159 (plainFor_of_name (by decide +kernel)) (fun _ => ⟨8, _, rfl, rfl, rfl⟩)
/-- GatedPile$Tops.gatherVar(LGatedPile$Text;I)I -/
def cl_160 : xCl := [(13, [(0, .aload_n 1, 1), (1, .iload_n 2, 1), (2, .iconst 1, 1), (3, .iadd, 1), (4, .invokevirtual 123, 3), (7, .bipush 91, 2), (9, .if_icmp .ne 7, 3), (12, .iconst 1, 1)]), (25, [(13, .goto 4, 3), (16, .iconst 0, 1), (17, .istore_n 3, 1), (18, .iload_n 3, 1), (19, .ifCond .eq 13, 3), (22, .aload_n 1, 1), (23, .iload_n 2, 1), (24, .iconst 2, 1)]), (41, [(25, .iadd, 1), (26, .invokevirtual 140, 3), (29, .goto 4, 3), (32, .iconst 1, 1), (33, .istore 4, 2), (35, .iload 4, 2), (37, .iconst 1, 1), (38, .if_icmp .lt 11, 3)]), (56, [(41, .iload 4, 2), (43, .sipush 500, 3), (46, .if_icmp .le 8, 3), (49, .aload_n 0, 1), (50, .iconst 1, 1), (51, .putfield 80, 3), (54, .aload_n 0, 1), (55, .aload_n 1, 1)]), (70, [(56, .iload_n 2, 1), (57, .iload_n 3, 1), (58, .ifCond .eq 7, 3), (61, .iconst 2, 1), (62, .goto 4, 3), (65, .iconst 1, 1), (66, .aload_n 0, 1), (67, .getfield 62, 3)]), (88, [(70, .invokevirtual 146, 3), (73, .aload_n 0, 1), (74, .getfield 62, 3), (77, .sipush 500, 3), (80, .if_icmp .ge 37, 3), (83, .aload_n 0, 1), (84, .getfield 27, 3), (87, .aload_n 0, 1)]), (104, [(88, .getfield 62, 3), (91, .aload_n 0, 1), (92, .getfield 71, 3), (95, .iastore, 1), (96, .aload_n 0, 1), (97, .getfield 30, 3), (100, .aload_n 0, 1), (101, .getfield 62, 3)]), (117, [(104, .iload 4, 2), (106, .iastore, 1), (107, .aload_n 0, 1), (108, .dup, 1), (109, .getfield 62, 3), (112, .iconst 1, 1), (113, .iadd, 1), (114, .putfield 62, 3)]), (132, [(117, .aload_n 0, 1), (118, .dup, 1), (119, .getfield 71, 3), (122, .iload 4, 2), (124, .iadd, 1), (125, .putfield 71, 3), (128, .iload_n 3, 1), (129, .ifCond .eq 9, 3)]), (100000, [(132, .iload_n 2, 1), (133, .iconst 5, 1), (134, .iadd, 1), (135, .goto 6, 3), (138, .iload_n 2, 1), (139, .iconst 2, 1), (140, .iadd, 1), (141, .ireturn, 1)])]
set_option maxRecDepth 100000 in
theorem dk_160 : dkA cl_160 prog_9_method_18_code = true := by decide +kernel
set_option maxRecDepth 100000 in
theorem ok_160 : (ck pft pfn (look2 cl_160) ppl pmk 8 false 0 tr_160 0 0 0 0).isSome = true := by decide +kernel
set_option maxRecDepth 100000 in
theorem mk_160 : MOK1 160 mr_160 := mok_mk ⟨"GatedPile$Tops", "gatherVar", "(LGatedPile$Text;I)I"⟩ prog_9_method_18_code _ 1 8 "GatedPile$Tops" cl_160 false rfl rfl rfl rfl dk_160 (by decide +kernel) (by decide +kernel) (by decide +kernel) ok_160 (plainFor_of_name (by decide +kernel)) (fun _ => ⟨8, _, rfl, rfl, rfl⟩)
/-- GatedPile$Tops.gatherConditions(LGatedPile$Text;I)I -/
def cl_161 : xCl := [(10, [(0, .iload_n 2, 1), (1, .istore_n 3, 1), (2, .iload_n 3, 1), (3, .aload_n 1, 1), (4, .getfield 120, 3), (7, .if_icmp .ge 52, 3)]), (21, [(10, .aload_n 1, 1), (11, .iload_n 3, 1), (12, .invokevirtual 123, 3), (15, .bipush 59, 2), (17, .if_icmp .eq 42, 3), (20, .aload_n 1, 1)]), (33, [(21, .iload_n 3, 1), (22, .invokevirtual 123, 3), (25, .iconst 2, 1), (26, .if_icmp .eq 6, 3), (29, .goto 24, 3), (32, .aload_n 0, 1)]), (43, [(33, .dup, 1), (34, .getfield 65, 3), (37, .iconst 1, 1), (38, .iadd, 1), (39, .putfield 65, 3), (42, .aload_n 0, 1)]), (53, [(43, .aload_n 1, 1), (44, .iload_n 3, 1), (45, .iconst 3, 1), (46, .aload_n 0, 1), (47, .getfield 65, 3), (50, .invokevirtual 146, 3)]), (100000, [(53, .iinc 3 1, 3), (56, .goto (-54), 3), (59, .iload_n 3, 1), (60, .iconst 1, 1), (61, .iadd, 1), (62, .ireturn, 1)])]
set_option maxRecDepth 100000 in
theorem dk_161 : dkA cl_161 prog_9_method_19_code = true := by decide +kernel
set_option maxRecDepth 100000 in
theorem ok_161 : (ck pft pfn (look2 cl_161) ppl pmk 8 false 0 tr_161 0 0 0 0).isSome = true := by decide +kernel
set_option maxRecDepth 100000 in
theorem mk_161 : MOK1 161 mr_161 := mok_mk ⟨"GatedPile$Tops", "gatherConditions", "(LGatedPile$Text;I)I"⟩ prog_9_method_19_code _ 1 8 "GatedPile$Tops" cl_161 false rfl rfl rfl rfl dk_161 (by decide +kernel) (by decide +kernel) (by decide +kernel) ok_161 (plainFor_of_name (by decide +kernel)) (fun _ => ⟨8, _, rfl, rfl, rfl⟩)
/-- GatedPile$Tops.gatherProcedure(LGatedPile$Text;I)I -/
def cl_162 : xCl := [(13, [(0, .aload_n 0, 1), (1, .aload_n 1, 1), (2, .iload_n 2, 1), (3, .iconst 4, 1), (4, .aload_n 0, 1), (5, .getfield 68, 3), (8, .invokevirtual 146, 3), (11, .iload_n 2, 1), (12, .iconst 1, 1)]), (27, [(13, .iadd, 1), (14, .istore_n 3, 1), (15, .iconst 0, 1), (16, .istore 4, 2), (18, .iload_n 3, 1), (19, .aload_n 1, 1), (20, .getfield 120, 3), (23, .if_icmp .ge 31, 3), (26, .aload_n 1, 1)]), (45, [(27, .iload_n 3, 1), (28, .invokevirtual 123, 3), (31, .bipush 41, 2), (33, .if_icmp .eq 21, 3), (36, .aload_n 1, 1), (37, .iload_n 3, 1), (38, .invokevirtual 123, 3), (41, .iconst 2, 1), (42, .if_icmp .ne 6, 3)]), (66, [(45, .iinc 4 1, 3), (48, .iinc 3 1, 3), (51, .goto (-33), 3), (54, .iload 4, 2), (56, .bipush 8, 2), (58, .if_icmp .le 8, 3), (61, .aload_n 0, 1), (62, .iconst 1, 1), (63, .putfield 80, 3)]), (86, [(66, .aload_n 0, 1), (67, .getfield 68, 3), (70, .sipush 300, 3), (73, .if_icmp .ge 37, 3), (76, .aload_n 0, 1), (77, .getfield 33, 3), (80, .aload_n 0, 1), (81, .getfield 68, 3), (84, .iload 4, 2)]), (101, [(86, .iastore, 1), (87, .aload_n 0, 1), (88, .getfield 39, 3), (91, .aload_n 0, 1), (92, .getfield 68, 3), (95, .aload_n 0, 1), (96, .getfield 74, 3), (99, .iastore, 1), (100, .aload_n 0, 1)]), (118, [(101, .dup, 1), (102, .getfield 68, 3), (105, .iconst 1, 1), (106, .iadd, 1), (107, .putfield 68, 3), (110, .iload_n 3, 1), (111, .aload_n 1, 1), (112, .getfield 120, 3), (115, .if_icmp .ge 62, 3)]), (134, [(118, .aload_n 1, 1), (119, .iload_n 3, 1), (120, .invokevirtual 123, 3), (123, .bipush 123, 2), (125, .if_icmp .eq 52, 3), (128, .aload_n 1, 1), (129, .iload_n 3, 1), (130, .invokevirtual 123, 3), (133, .iconst 2, 1)]), (155, [(134, .if_icmp .ne 37, 3), (137, .aload_n 0, 1), (138, .getfield 74, 3), (141, .sipush 1510, 3), (144, .if_icmp .ge 27, 3), (147, .aload_n 0, 1), (148, .getfield 36, 3), (151, .aload_n 0, 1), (152, .getfield 74, 3)]), (168, [(155, .aload_n 1, 1), (156, .iload_n 3, 1), (157, .invokevirtual 140, 3), (160, .iastore, 1), (161, .aload_n 0, 1), (162, .dup, 1), (163, .getfield 74, 3), (166, .iconst 1, 1), (167, .iadd, 1)]), (100000, [(168, .putfield 74, 3), (171, .iinc 3 1, 3), (174, .goto (-64), 3), (177, .aload_n 1, 1), (178, .iload_n 3, 1), (179, .invokevirtual 150, 3), (182, .ireturn, 1)])]
set_option maxRecDepth 100000 in
theorem dk_162 : dkA cl_162 prog_9_method_20_code = true := by decide +kernel
set_option maxRecDepth 100000 in
theorem ok_162 : (ck pft pfn (look2 cl_162) ppl pmk 8 false 0 tr_162 0 0 0 0).isSome = true := by decide +kernel
set_option maxRecDepth 100000 in
theorem mk_162 : MOK1 162 mr_162 := mok_mk ⟨"GatedPile$Tops", "gatherProcedure", "(LGatedPile$Text;I)I"⟩ prog_9_method_20_code _ 1 8 "GatedPile$Tops" cl_162 false rfl rfl rfl rfl dk_162 (by decide +kernel) (by decide +kernel) (by decide +kernel) ok_162 (plainFor_of_name (by decide +kernel)) (fun _ => ⟨8, _, rfl, rfl, rfl⟩)
/-- GatedPile$Tops.<init>()V -/
def cl_163 : xCl := [(13, [(0, .aload_n 0, 1), (1, .invokespecial 5, 3), (4, .aload_n 0, 1), (5, .sipush 1510, 3), (8, .newarray .long, 2), (10, .putfield 13, 3)]), (26, [(13, .aload_n 0, 1), (14, .sipush 1510, 3), (17, .newarray .int, 2), (19, .putfield 17, 3), (22, .aload_n 0, 1), (23, .sipush 1510, 3)]), (40, [(26, .newarray .int, 2), (28, .putfield 21, 3), (31, .aload_n 0, 1), (32, .sipush 1510, 3), (35, .newarray .int, 2), (37, .putfield 24, 3)]), (53, [(40, .aload_n 0, 1), (41, .sipush 500, 3), (44, .newarray .int, 2), (46, .putfield 27, 3), (49, .aload_n 0, 1), (50, .sipush 500, 3)]), (67, [(53, .newarray .int, 2), (55, .putfield 30, 3), (58, .aload_n 0, 1), (59, .sipush 300, 3), (62, .newarray .int, 2), (64, .putfield 33, 3)]), (80, [(67, .aload_n 0, 1), (68, .sipush 1510, 3), (71, .newarray .int, 2), (73, .putfield 36, 3), (76, .aload_n 0, 1), (77, .sipush 301, 3)]), (100000, [(80, .newarray .int, 2), (82, .putfield 39, 3), (85, .return_, 1)])]
set_option maxRecDepth 100000 in
theorem dk_163 : dkA cl_163 prog_9_method_1_code = true := by decide +kernel
set_option maxRecDepth 100000 in
theorem ok_163 : (ck pft pfn (look2 cl_163) ppl pmk 8 true 9 tr_163 0 0 0 0).isSome = true := by decide +kernel
set_option maxRecDepth 100000 in
theorem mk_163 : MOK1 163 mr_163 := mok_mk ⟨"GatedPile$Tops", "<init>", "()V"⟩ prog_9_method_1_code _ 2 8 "GatedPile$Tops" cl_163 true rfl rfl rfl rfl dk_163 (by decide +kernel) (by decide +kernel) (by decide +kernel) ok_163 (plainFor_of_name (by decide +kernel)) (fun z => absurd z (by decide))
/-- GatedPile$Wiring.<init>(LGatedPile$Net;)V -/
def cl_164 : xCl := [(6, [(0, .aload_n 0, 1), (1, .invokespecial 1, 3), (4, .aload_n 0, 1), (5, .iconst 4, 1)]), (14, [(6, .newarray .int, 2), (8, .putfield 7, 3), (11, .aload_n 0, 1), (12, .bipush 16, 2)]), (21, [(14, .newarray .int, 2), (16, .putfield 13, 3), (19, .aload_n 0, 1), (20, .aload_n 1, 1)]), (100000, [(21, .putfield 16, 3), (24, .return_, 1)])]
set_option maxRecDepth 100000 in
theorem dk_164 : dkA cl_164 prog_10_method_1_code = true := by decide +kernel
set_option maxRecDepth 100000 in
theorem ok_164 : (ck pft pfn (look2 cl_164) ppl pmk 9 true 9 tr_164 0 0 0 0).isSome = true := by decide +kernel
set_option maxRecDepth 100000 in
theorem mk_164 : MOK1 164 mr_164 := mok_mk ⟨"GatedPile$Wiring", "<init>", "(LGatedPile$Net;)V"⟩ prog_10_method_1_code _ 2 9 "GatedPile$Wiring" cl_164 true rfl rfl rfl rfl dk_164 (by decide +kernel) (by decide +kernel) (by decide +kernel) ok_164 (plainFor_of_name (by decide +kernel)) (fun z => absurd z (by decide))
/-- GatedPile$Wiring.build()V -/
def cl_165 : xCl := [(10, [(0, .aload_n 0, 1), (1, .aload_n 0, 1), (2, .bipush 24, 2), (4, .invokevirtual 22, 3), (7, .putfield 26, 3)]), (20, [(10, .aload_n 0, 1), (11, .aload_n 0, 1), (12, .bipush 21, 2), (14, .invokevirtual 22, 3), (17, .putfield 29, 3)]), (30, [(20, .aload_n 0, 1), (21, .aload_n 0, 1), (22, .bipush 27, 2), (24, .invokevirtual 22, 3), (27, .putfield 32, 3)]), (39, [(30, .aload_n 0, 1), (31, .invokevirtual 35, 3), (34, .aload_n 0, 1), (35, .invokevirtual 38, 3), (38, .aload_n 0, 1)]), (50, [(39, .invokevirtual 41, 3), (42, .aload_n 0, 1), (43, .invokevirtual 44, 3), (46, .aload_n 0, 1), (47, .invokevirtual 47, 3)]), (100000, [(50, .aload_n 0, 1), (51, .invokevirtual 50, 3), (54, .aload_n 0, 1), (55, .invokevirtual 53, 3), (58, .return_, 1)])]
set_option maxRecDepth 100000 in
theorem dk_165 : dkA cl_165 prog_10_method_2_code = true := by decide +kernel
set_option maxRecDepth 100000 in
theorem ok_165 : (ck pft pfn (look2 cl_165) ppl pmk 9 false 9 tr_165 0 0 0 0).isSome = true := by decide +kernel
set_option maxRecDepth 100000 in
theorem mk_165 : MOK1 165 mr_165 := mok_mk ⟨"GatedPile$Wiring", "build", "()V"⟩ prog_10_method_2_code _ 1 9 "GatedPile$Wiring" cl_165 false rfl rfl rfl rfl dk_165 (by decide +kernel) (by decide +kernel) (by decide +kernel) ok_165 (plainFor_of_name (by decide +kernel)) (fun _ => ⟨9, _, rfl, rfl, rfl⟩)
/-- GatedPile$Wiring.register(II)I -/
def cl_166 : xCl := [(6, [(0, .bipush 68, 2), (2, .bipush 16, 2), (4, .iload_n 1, 1), (5, .imul, 1)]), (100000, [(6, .iadd, 1), (7, .iload_n 2, 1), (8, .iadd, 1), (9, .ireturn, 1)])]
set_option maxRecDepth 100000 in
theorem dk_166 : dkA cl_166 prog_10_method_3_code = true := by decide +kernel
set_option maxRecDepth 100000 in
theorem ok_166 : (ck pft pfn (look2 cl_166) ppl pmk 9 false 0 tr_166 0 0 0 0).isSome = true := by decide +kernel
set_option maxRecDepth 100000 in
theorem mk_166 : MOK1 166 mr_166 := mok_mk ⟨"GatedPile$Wiring", "register", "(II)I"⟩ prog_10_method_3_code _ 1 9 "GatedPile$Wiring" cl_166 false rfl rfl rfl rfl dk_166 (by decide +kernel) (by decide +kernel) (by decide +kernel) ok_166 (plainFor_of_name (by decide +kernel)) (fun _ => ⟨9, _, rfl, rfl, rfl⟩)
/-- GatedPile$Wiring.port(I)[I -/
def cl_167 : xCl := [(10, [(0, .iload_n 1, 1), (1, .iconst 1, 1), (2, .iadd, 1), (3, .istore_n 2, 1), (4, .iload_n 1, 1), (5, .iconst 2, 1), (6, .iadd, 1), (7, .istore_n 3, 1), (8, .bipush 16, 2)]), (28, [(10, .newarray .int, 2), (12, .astore 4, 2), (14, .iconst 0, 1), (15, .istore 5, 2), (17, .iload 5, 2), (19, .bipush 16, 2), (21, .if_icmp .ge 128, 3), (24, .aload 4, 2), (26, .iload 5, 2)]), (43, [(28, .aload_n 0, 1), (29, .getfield 16, 3), (32, .iload_n 3, 1), (33, .aload_n 0, 1), (34, .getfield 16, 3), (37, .iload_n 2, 1), (38, .aload_n 0, 1), (39, .getfield 16, 3), (42, .iload_n 1, 1)]), (60, [(43, .aload_n 0, 1), (44, .iconst 0, 1), (45, .iload 5, 2), (47, .invokevirtual 56, 3), (50, .aload_n 0, 1), (51, .iconst 1, 1), (52, .iload 5, 2), (54, .invokevirtual 56, 3), (57, .invokevirtual 60, 3)]), (74, [(60, .aload_n 0, 1), (61, .getfield 16, 3), (64, .iload_n 1, 1), (65, .aload_n 0, 1), (66, .iconst 2, 1), (67, .iload 5, 2), (69, .invokevirtual 56, 3), (72, .aload_n 0, 1), (73, .iconst 3, 1)]), (94, [(74, .iload 5, 2), (76, .invokevirtual 56, 3), (79, .invokevirtual 60, 3), (82, .invokevirtual 60, 3), (85, .aload_n 0, 1), (86, .getfield 16, 3), (89, .iload_n 2, 1), (90, .aload_n 0, 1), (91, .getfield 16, 3)]), (109, [(94, .iload_n 1, 1), (95, .aload_n 0, 1), (96, .iconst 4, 1), (97, .iload 5, 2), (99, .invokevirtual 56, 3), (102, .aload_n 0, 1), (103, .iconst 5, 1), (104, .iload 5, 2), (106, .invokevirtual 56, 3)]), (126, [(109, .invokevirtual 60, 3), (112, .aload_n 0, 1), (113, .getfield 16, 3), (116, .iload_n 1, 1), (117, .aload_n 0, 1), (118, .bipush 6, 2), (120, .iload 5, 2), (122, .invokevirtual 56, 3), (125, .aload_n 0, 1)]), (149, [(126, .bipush 7, 2), (128, .iload 5, 2), (130, .invokevirtual 56, 3), (133, .invokevirtual 60, 3), (136, .invokevirtual 60, 3), (139, .invokevirtual 60, 3), (142, .iastore, 1), (143, .iinc 5 1, 3), (146, .goto (-129), 3)]), (100000, [(149, .aload 4, 2), (151, .areturn, 1)])]
set_option maxRecDepth 100000 in
theorem dk_167 : dkA cl_167 prog_10_method_4_code = true := by decide +kernel
set_option maxRecDepth 100000 in
theorem ok_167 : (ck pft pfn (look2 cl_167) ppl pmk 9 false 2 tr_167 0 0 0 0).isSome = true := by decide +kernel
set_option maxRecDepth 100000 in
theorem mk_167 : MOK1 167 mr_167 := mok_mk ⟨"GatedPile$Wiring", "port", "(I)[I"⟩ prog_10_method_4_code _ 1 9 "GatedPile$Wiring" cl_167 false rfl rfl rfl rfl dk_167 (by decide +kernel) (by decide +kernel) (by decide +kernel) ok_167 (plainFor_of_name (by decide +kernel)) (fun _ => ⟨9, _, rfl, rfl, rfl⟩)
/-- GatedPile$Wiring.wiresFrom(I)[I -/
def cl_168 : xCl := [(6, [(0, .bipush 16, 2), (2, .newarray .int, 2), (4, .astore_n 1, 1), (5, .iconst 0, 1)]), (13, [(6, .istore_n 2, 1), (7, .iload_n 2, 1), (8, .bipush 16, 2), (10, .if_icmp .ge 15, 3)]), (17, [(13, .aload_n 1, 1), (14, .iload_n 2, 1), (15, .iload_n 0, 1), (16, .iload_n 2, 1)]), (25, [(17, .iadd, 1), (18, .iastore, 1), (19, .iinc 2 1, 3), (22, .goto (-15), 3)]), (100000, [(25, .aload_n 1, 1), (26, .areturn, 1)])]
set_option maxRecDepth 100000 in
theorem dk_168 : dkA cl_168 prog_10_method_5_code = true := by decide +kernel
set_option maxRecDepth 100000 in
theorem ok_168 : (ck pft pfn (look2 cl_168) ppl pmk 9 false 2 tr_168 0 0 0 0).isSome = true := by decide +kernel
set_option maxRecDepth 100000 in
theorem mk_168 : MOK1 168 mr_168 := mok_mk ⟨"GatedPile$Wiring", "wiresFrom", "(I)[I"⟩ prog_10_method_5_code _ 0 9 "GatedPile$Wiring" cl_168 false rfl rfl rfl rfl dk_168 (by decide +kernel) (by decide +kernel) (by decide +kernel) ok_168 (plainFor_of_name (by decide +kernel)) (fun z => absurd z (by decide))
/-- GatedPile$Wiring.numberUpTo(I)[I -/
def cl_169 : xCl := [(6, [(0, .bipush 16, 2), (2, .newarray .int, 2), (4, .astore_n 1, 1), (5, .iconst 0, 1)]), (13, [(6, .istore_n 2, 1), (7, .iload_n 2, 1), (8, .bipush 16, 2), (10, .if_icmp .ge 20, 3)]), (18, [(13, .aload_n 1, 1), (14, .iload_n 2, 1), (15, .bipush 18, 2), (17, .iload_n 2, 1)]), (24, [(18, .iload_n 0, 1), (19, .invokestatic 64, 3), (22, .iadd, 1), (23, .iastore, 1)]), (100000, [(24, .iinc 2 1, 3), (27, .goto (-20), 3), (30, .aload_n 1, 1), (31, .areturn, 1)])]
set_option maxRecDepth 100000 in
theorem dk_169 : dkA cl_169 prog_10_method_6_code = true := by decide +kernel
set_option maxRecDepth 100000 in
theorem ok_169 : (ck pft pfn (look2 cl_169) ppl pmk 9 false 2 tr_169 0 0 0 0).isSome = true := by decide +kernel
set_option maxRecDepth 100000 in
theorem mk_169 : MOK1 169 mr_169 := mok_mk ⟨"GatedPile$Wiring", "numberUpTo", "(I)[I"⟩ prog_10_method_6_code _ 0 9 "GatedPile$Wiring" cl_169 false rfl rfl rfl rfl dk_169 (by decide +kernel) (by decide +kernel) (by decide +kernel) ok_169 (plainFor_of_name (by decide +kernel)) (fun z => absurd z (by decide))
/-- GatedPile$Wiring.makeOps()V -/
def cl_170 : xCl := [(11, [(0, .iconst 0, 1), (1, .istore_n 1, 1), (2, .iload_n 1, 1), (3, .iconst 4, 1), (4, .if_icmp .ge 26, 3), (7, .aload_n 0, 1), (8, .getfield 7, 3)]), (23, [(11, .iload_n 1, 1), (12, .aload_n 0, 1), (13, .getfield 16, 3), (16, .bipush 30, 2), (18, .iload_n 1, 1), (19, .iadd, 1), (20, .invokevirtual 69, 3)]), (35, [(23, .iastore, 1), (24, .iinc 1 1, 3), (27, .goto (-25), 3), (30, .iconst 0, 1), (31, .istore_n 1, 1), (32, .iload_n 1, 1), (33, .bipush 16, 2)]), (48, [(35, .if_icmp .ge 60, 3), (38, .aload_n 0, 1), (39, .getfield 13, 3), (42, .iload_n 1, 1), (43, .aload_n 0, 1), (44, .getfield 16, 3), (47, .aload_n 0, 1)]), (59, [(48, .getfield 16, 3), (51, .aload_n 0, 1), (52, .iload_n 1, 1), (53, .iconst 0, 1), (54, .invokevirtual 73, 3), (57, .aload_n 0, 1), (58, .iload_n 1, 1)]), (72, [(59, .iconst 1, 1), (60, .invokevirtual 73, 3), (63, .invokevirtual 76, 3), (66, .aload_n 0, 1), (67, .getfield 16, 3), (70, .aload_n 0, 1), (71, .iload_n 1, 1)]), (85, [(72, .iconst 2, 1), (73, .invokevirtual 73, 3), (76, .aload_n 0, 1), (77, .iload_n 1, 1), (78, .iconst 3, 1), (79, .invokevirtual 73, 3), (82, .invokevirtual 76, 3)]), (100000, [(85, .invokevirtual 76, 3), (88, .iastore, 1), (89, .iinc 1 1, 3), (92, .goto (-60), 3), (95, .return_, 1)])]
set_option maxRecDepth 100000 in
theorem dk_170 : dkA cl_170 prog_10_method_7_code = true := by decide +kernel
set_option maxRecDepth 100000 in
theorem ok_170 : (ck pft pfn (look2 cl_170) ppl pmk 9 false 9 tr_170 0 0 0 0).isSome = true := by decide +kernel
set_option maxRecDepth 100000 in
theorem mk_170 : MOK1 170 mr_170 := mok_mk ⟨"GatedPile$Wiring", "makeOps", "()V"⟩ prog_10_method_7_code _ 1 9 "GatedPile$Wiring" cl_170 false rfl rfl rfl rfl dk_170 (by decide +kernel) (by decide +kernel) (by decide +kernel) ok_170 (plainFor_of_name (by decide +kernel)) (fun _ => ⟨9, _, rfl, rfl, rfl⟩)
/-- GatedPile$Wiring.opBit(II)I -/
def cl_171 : xCl := [(4, [(0, .iload_n 1, 1), (1, .iload_n 2, 1), (2, .ishr, 1), (3, .iconst 1, 1)]), (11, [(4, .iand, 1), (5, .iconst 1, 1), (6, .if_icmp .ne 10, 3), (9, .bipush 30, 2)]), (17, [(11, .iload_n 2, 1), (12, .iadd, 1), (13, .goto 11, 3), (16, .aload_n 0, 1)]), (23, [(17, .getfield 7, 3), (20, .iload_n 2, 1), (21, .iconst 3, 1), (22, .iand, 1)]), (100000, [(23, .iaload, 1), (24, .ireturn, 1)])]
set_option maxRecDepth 100000 in
theorem dk_171 : dkA cl_171 prog_10_method_8_code = true := by decide +kernel
set_option maxRecDepth 100000 in
theorem ok_171 : (ck pft pfn (look2 cl_171) ppl pmk 9 false 0 tr_171 0 0 0 0).isSome = true := by decide +kernel
set_option maxRecDepth 100000 in
theorem mk_171 : MOK1 171 mr_171 := mok_mk ⟨"GatedPile$Wiring", "opBit", "(II)I"⟩ prog_10_method_8_code _ 1 9 "GatedPile$Wiring" cl_171 false rfl rfl rfl rfl dk_171 (by decide +kernel) (by decide +kernel) (by decide +kernel) ok_171 (plainFor_of_name (by decide +kernel)) (fun _ => ⟨9, _, rfl, rfl, rfl⟩)
/-- GatedPile$Wiring.makeStates()V -/
def cl_172 : xCl := [(10, [(0, .bipush 66, 2), (2, .istore_n 1, 1), (3, .bipush 67, 2), (5, .istore_n 2, 1), (6, .aload_n 0, 1), (7, .getfield 16, 3)]), (20, [(10, .iload_n 1, 1), (11, .invokevirtual 69, 3), (14, .istore_n 3, 1), (15, .aload_n 0, 1), (16, .getfield 16, 3), (19, .iload_n 2, 1)]), (31, [(20, .invokevirtual 69, 3), (23, .istore 4, 2), (25, .aload_n 0, 1), (26, .aload_n 0, 1), (27, .getfield 16, 3), (30, .iload_n 3, 1)]), (44, [(31, .iload 4, 2), (33, .invokevirtual 76, 3), (36, .putfield 79, 3), (39, .aload_n 0, 1), (40, .aload_n 0, 1), (41, .getfield 16, 3)]), (55, [(44, .iload_n 1, 1), (45, .iload 4, 2), (47, .invokevirtual 76, 3), (50, .putfield 83, 3), (53, .aload_n 0, 1), (54, .aload_n 0, 1)]), (67, [(55, .getfield 16, 3), (58, .iload_n 3, 1), (59, .iload_n 2, 1), (60, .invokevirtual 76, 3), (63, .putfield 86, 3), (66, .aload_n 0, 1)]), (100000, [(67, .getfield 16, 3), (70, .iload_n 1, 1), (71, .iload_n 2, 1), (72, .invokevirtual 76, 3), (75, .pop, 1), (76, .return_, 1)])]
set_option maxRecDepth 100000 in
theorem dk_172 : dkA cl_172 prog_10_method_9_code = true := by decide +kernel
set_option maxRecDepth 100000 in
theorem ok_172 : (ck pft pfn (look2 cl_172) ppl pmk 9 false 9 tr_172 0 0 0 0).isSome = true := by decide +kernel
set_option maxRecDepth 100000 in
theorem mk_172 : MOK1 172 mr_172 := mok_mk ⟨"GatedPile$Wiring", "makeStates", "()V"⟩ prog_10_method_9_code _ 1 9 "GatedPile$Wiring" cl_172 false rfl rfl rfl rfl dk_172 (by decide +kernel) (by decide +kernel) (by decide +kernel) ok_172 (plainFor_of_name (by decide +kernel)) (fun _ => ⟨9, _, rfl, rfl, rfl⟩)
/-- GatedPile$Wiring.makeSum()V -/
def cl_173 : xCl := [(16, [(0, .aload_n 0, 1), (1, .getfield 16, 3), (4, .aload_n 0, 1), (5, .getfield 16, 3), (8, .aload_n 0, 1), (9, .getfield 13, 3), (12, .bipush 8, 2), (14, .iaload, 1), (15, .aload_n 0, 1)]), (35, [(16, .getfield 13, 3), (19, .bipush 9, 2), (21, .iaload, 1), (22, .invokevirtual 89, 3), (25, .aload_n 0, 1), (26, .getfield 13, 3), (29, .bipush 10, 2), (31, .iaload, 1), (32, .invokevirtual 89, 3)]), (52, [(35, .istore_n 1, 1), (36, .aload_n 0, 1), (37, .getfield 16, 3), (40, .iload_n 1, 1), (41, .aload_n 0, 1), (42, .getfield 29, 3), (45, .iconst 5, 1), (46, .invokestatic 92, 3), (49, .invokevirtual 95, 3)]), (67, [(52, .astore_n 2, 1), (53, .aload_n 0, 1), (54, .getfield 16, 3), (57, .aload_n 0, 1), (58, .getfield 13, 3), (61, .iconst 1, 1), (62, .iaload, 1), (63, .aload_n 0, 1), (64, .getfield 13, 3)]), (82, [(67, .iconst 4, 1), (68, .iaload, 1), (69, .invokevirtual 89, 3), (72, .istore_n 3, 1), (73, .bipush 16, 2), (75, .newarray .int, 2), (77, .astore 4, 2), (79, .iconst 0, 1), (80, .istore 5, 2)]), (99, [(82, .iload 5, 2), (84, .bipush 16, 2), (86, .if_icmp .ge 26, 3), (89, .aload 4, 2), (91, .iload 5, 2), (93, .aload_n 0, 1), (94, .getfield 16, 3), (97, .iload_n 3, 1), (98, .aload_n 2, 1)]), (117, [(99, .iload 5, 2), (101, .iaload, 1), (102, .invokevirtual 99, 3), (105, .iastore, 1), (106, .iinc 5 1, 3), (109, .goto (-27), 3), (112, .aload_n 0, 1), (113, .aload_n 0, 1), (114, .getfield 16, 3)]), (135, [(117, .aload_n 0, 1), (118, .getfield 26, 3), (121, .aload 4, 2), (123, .iload_n 3, 1), (124, .invokevirtual 102, 3), (127, .putfield 106, 3), (130, .aload_n 0, 1), (131, .aload_n 0, 1), (132, .getfield 16, 3)]), (150, [(135, .aload_n 0, 1), (136, .getfield 16, 3), (139, .aload_n 0, 1), (140, .getfield 26, 3), (143, .bipush 15, 2), (145, .iaload, 1), (146, .aload_n 2, 1), (147, .bipush 15, 2), (149, .iaload, 1)]), (167, [(150, .invokevirtual 99, 3), (153, .aload_n 0, 1), (154, .getfield 106, 3), (157, .bipush 15, 2), (159, .iaload, 1), (160, .aload_n 0, 1), (161, .getfield 26, 3), (164, .bipush 15, 2), (166, .iaload, 1)]), (100000, [(167, .invokevirtual 60, 3), (170, .putfield 109, 3), (173, .return_, 1)])]
set_option maxRecDepth 100000 in
theorem dk_173 : dkA cl_173 prog_10_method_10_code = true := by decide +kernel
set_option maxRecDepth 100000 in
theorem ok_173 : (ck pft pfn (look2 cl_173) ppl pmk 9 false 9 tr_173 0 0 0 0).isSome = true := by decide +kernel
set_option maxRecDepth 100000 in
theorem mk_173 : MOK1 173 mr_173 := mok_mk ⟨"GatedPile$Wiring", "makeSum", "()V"⟩ prog_10_method_10_code _ 1 9 "GatedPile$Wiring" cl_173 false rfl rfl rfl rfl dk_173 (by decide +kernel) (by decide +kernel) (by decide +kernel) ok_173 (plainFor_of_name (by decide +kernel)) (fun _ => ⟨9, _, rfl, rfl, rfl⟩)
/-- GatedPile$Wiring.makeResult()V -/
def cl_174 : xCl := [(20, [(0, .bipush 16, 2), (2, .newarray .int, 2), (4, .astore_n 1, 1), (5, .bipush 16, 2), (7, .newarray .int, 2), (9, .astore_n 2, 1), (10, .iconst 0, 1), (11, .istore_n 3, 1), (12, .iload_n 3, 1), (13, .bipush 16, 2), (15, .if_icmp .ge 31, 3), (18, .aload_n 1, 1), (19, .iload_n 3, 1)]), (43, [(20, .aload_n 0, 1), (21, .getfield 16, 3), (24, .aload_n 0, 1), (25, .getfield 26, 3), (28, .iload_n 3, 1), (29, .iaload, 1), (30, .aload_n 0, 1), (31, .getfield 29, 3), (34, .iload_n 3, 1), (35, .iaload, 1), (36, .invokevirtual 76, 3), (39, .iastore, 1), (40, .iinc 3 1, 3)]), (65, [(43, .goto (-31), 3), (46, .iconst 0, 1), (47, .istore_n 3, 1), (48, .iload_n 3, 1), (49, .bipush 16, 2), (51, .if_icmp .ge 31, 3), (54, .aload_n 2, 1), (55, .iload_n 3, 1), (56, .aload_n 0, 1), (57, .getfield 16, 3), (60, .aload_n 0, 1), (61, .getfield 26, 3), (64, .iload_n 3, 1)]), (88, [(65, .iaload, 1), (66, .aload_n 0, 1), (67, .getfield 29, 3), (70, .iload_n 3, 1), (71, .iaload, 1), (72, .invokevirtual 99, 3), (75, .iastore, 1), (76, .iinc 3 1, 3), (79, .goto (-31), 3), (82, .bipush 16, 2), (84, .newarray .int, 2), (86, .astore_n 3, 1), (87, .aload_n 3, 1)]), (110, [(88, .iconst 0, 1), (89, .aload_n 0, 1), (90, .getfield 109, 3), (93, .iastore, 1), (94, .bipush 16, 2), (96, .newarray .int, 2), (98, .astore 4, 2), (100, .aload_n 0, 1), (101, .getfield 26, 3), (104, .iconst 1, 1), (105, .aload 4, 2), (107, .iconst 0, 1), (108, .bipush 15, 2)]), (137, [(110, .invokestatic 112, 3), (113, .bipush 16, 2), (115, .newarray .int, 2), (117, .astore 5, 2), (119, .iconst 0, 1), (120, .istore 6, 2), (122, .iload 6, 2), (124, .bipush 8, 2), (126, .if_icmp .ge 34, 3), (129, .aload 5, 2), (131, .iload 6, 2), (133, .aload_n 0, 1), (134, .getfield 32, 3)]), (160, [(137, .iload 6, 2), (139, .iaload, 1), (140, .iastore, 1), (141, .aload 5, 2), (143, .iload 6, 2), (145, .bipush 8, 2), (147, .iadd, 1), (148, .bipush 18, 2), (150, .iload 6, 2), (152, .iadd, 1), (153, .iastore, 1), (154, .iinc 6 1, 3), (157, .goto (-35), 3)]), (183, [(160, .aload_n 0, 1), (161, .aload_n 0, 1), (162, .getfield 16, 3), (165, .aload_n 0, 1), (166, .getfield 13, 3), (169, .iconst 2, 1), (170, .iaload, 1), (171, .aload_n 0, 1), (172, .getfield 106, 3), (175, .aload_n 1, 1), (176, .invokevirtual 95, 3), (179, .putfield 118, 3), (182, .aload_n 0, 1)]), (206, [(183, .aload_n 0, 1), (184, .getfield 16, 3), (187, .aload_n 0, 1), (188, .getfield 13, 3), (191, .iconst 3, 1), (192, .iaload, 1), (193, .aload_n 0, 1), (194, .getfield 118, 3), (197, .aload_n 2, 1), (198, .invokevirtual 95, 3), (201, .putfield 118, 3), (204, .aload_n 0, 1), (205, .aload_n 0, 1)]), (231, [(206, .getfield 16, 3), (209, .aload_n 0, 1), (210, .getfield 13, 3), (213, .iconst 4, 1), (214, .iaload, 1), (215, .aload_n 0, 1), (216, .getfield 118, 3), (219, .aload_n 3, 1), (220, .invokevirtual 95, 3), (223, .putfield 118, 3), (226, .aload_n 0, 1), (227, .aload_n 0, 1), (228, .getfield 16, 3)]), (255, [(231, .aload_n 0, 1), (232, .getfield 13, 3), (235, .iconst 5, 1), (236, .iaload, 1), (237, .aload_n 0, 1), (238, .getfield 118, 3), (241, .aload 4, 2), (243, .invokevirtual 95, 3), (246, .putfield 118, 3), (249, .aload_n 0, 1), (250, .aload_n 0, 1), (251, .getfield 16, 3), (254, .aload_n 0, 1)]), (282, [(255, .getfield 13, 3), (258, .bipush 6, 2), (260, .iaload, 1), (261, .aload_n 0, 1), (262, .getfield 118, 3), (265, .bipush 8, 2), (267, .invokestatic 92, 3), (270, .invokevirtual 95, 3), (273, .putfield 118, 3), (276, .aload_n 0, 1), (277, .aload_n 0, 1), (278, .getfield 16, 3), (281, .aload_n 0, 1)]), (309, [(282, .getfield 13, 3), (285, .bipush 7, 2), (287, .iaload, 1), (288, .aload_n 0, 1), (289, .getfield 118, 3), (292, .aload 5, 2), (294, .invokevirtual 95, 3), (297, .putfield 118, 3), (300, .aload_n 0, 1), (301, .aload_n 0, 1), (302, .getfield 16, 3), (305, .aload_n 0, 1), (306, .getfield 13, 3)]), (335, [(309, .bipush 13, 2), (311, .iaload, 1), (312, .aload_n 0, 1), (313, .getfield 118, 3), (316, .iconst 2, 1), (317, .invokestatic 121, 3), (320, .invokevirtual 95, 3), (323, .putfield 118, 3), (326, .aload_n 0, 1), (327, .aload_n 0, 1), (328, .getfield 16, 3), (331, .aload_n 0, 1), (332, .getfield 86, 3)]), (100000, [(335, .aload_n 0, 1), (336, .getfield 118, 3), (339, .sipush 196, 3), (342, .invokestatic 121, 3), (345, .invokevirtual 95, 3), (348, .putfield 118, 3), (351, .return_, 1)])]
set_option maxRecDepth 100000 in
theorem dk_174 : dkA cl_174 prog_10_method_11_code = true := by decide +kernel
set_option maxRecDepth 100000 in
theorem ok_174 : (ck pft pfn (look2 cl_174) ppl pmk 9 false 9 tr_174 0 0 0 0).isSome = true := by decide +kernel
set_option maxRecDepth 100000 in
theorem mk_174 : MOK1 174 mr_174 := mok_mk ⟨"GatedPile$Wiring", "makeResult", "()V"⟩ prog_10_method_11_code _ 1 9 "GatedPile$Wiring" cl_174 false rfl rfl rfl rfl dk_174 (by decide +kernel) (by decide +kernel) (by decide +kernel) ok_174 (plainFor_of_name (by decide +kernel)) (fun _ => ⟨9, _, rfl, rfl, rfl⟩)
set_option maxRecDepth 100000 in
theorem ma_4 : AllM 143 ml_4 := AllM_cons mk_143 (AllM_cons mk_144 (AllM_cons mk_145 (AllM_cons mk_146 (AllM_cons mk_147 (AllM_cons mk_148 (AllM_cons mk_149 (AllM_cons mk_150 (AllM_cons mk_151 (AllM_cons mk_152 (AllM_cons mk_153 (AllM_cons mk_154 (AllM_cons mk_155 (AllM_cons mk_156 (AllM_cons mk_157 (AllM_cons mk_158 (AllM_cons mk_159 (AllM_cons mk_160 (AllM_cons mk_161 (AllM_cons mk_162 (AllM_cons mk_163 (AllM_cons mk_164 (AllM_cons mk_165 (AllM_cons mk_166 (AllM_cons mk_167 (AllM_cons mk_168 (AllM_cons mk_169 (AllM_cons mk_170 (AllM_cons mk_171 (AllM_cons mk_172 (AllM_cons mk_173 (AllM_cons mk_174 (AllM_nil _))))))))))))))))))))))))))))))))
