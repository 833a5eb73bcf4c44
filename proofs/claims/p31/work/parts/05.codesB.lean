def tX9_init : List (List xEnt) := [[(0, .aload_n 0, 1, 0, 0), (1, .invokespecial 3, 3, 0, 9), (4, .aload_n 0, 1, 0, 0), (5, .sipush 6918, 3, 0, 0), (8, .newarray .int, 2, 0, 0), (10, .putfield 9, 3, 9, 0), (13, .aload_n 0, 1, 0, 0), (14, .bipush 24, 2, 0, 0)],
  [(16, .newarray .long, 2, 1, 0), (18, .putfield 13, 3, 9, 1), (21, .aload_n 0, 1, 0, 0), (22, .bipush 60, 2, 0, 0), (24, .newarray .long, 2, 1, 0), (26, .putfield 17, 3, 9, 2), (29, .aload_n 0, 1, 0, 0), (30, .sipush 6918, 3, 0, 0)],
  [(33, .newarray .int, 2, 0, 0), (35, .putfield 20, 3, 9, 3), (38, .aload_n 0, 1, 0, 0), (39, .bipush 24, 2, 0, 0), (41, .newarray .long, 2, 1, 0), (43, .putfield 23, 3, 9, 4), (46, .aload_n 0, 1, 0, 0), (47, .bipush 60, 2, 0, 0)],
  [(49, .newarray .long, 2, 1, 0), (51, .putfield 26, 3, 9, 5), (54, .aload_n 0, 1, 0, 0), (55, .bipush 24, 2, 0, 0), (57, .newarray .boolean, 2, 2, 0), (59, .putfield 29, 3, 9, 7), (62, .aload_n 0, 1, 0, 0), (63, .bipush 24, 2, 0, 0)],
  [(65, .newarray .int, 2, 0, 0), (67, .putfield 33, 3, 9, 8), (70, .aload_n 0, 1, 0, 0), (71, .bipush 24, 2, 0, 0), (73, .newarray .int, 2, 0, 0), (75, .putfield 36, 3, 9, 9), (78, .aload_n 0, 1, 0, 0), (79, .bipush 7, 2, 0, 0)],
  [(81, .newarray .int, 2, 0, 0), (83, .putfield 39, 3, 9, 10), (86, .aload_n 0, 1, 0, 0), (87, .sipush 250, 3, 0, 0), (90, .newarray .int, 2, 0, 0), (92, .putfield 42, 3, 9, 11), (95, .aload_n 0, 1, 0, 0)],
  [(96, .bipush 24, 2, 0, 0), (98, .newarray .int, 2, 0, 0), (100, .putfield 45, 3, 9, 15), (103, .aload_n 0, 1, 0, 0), (104, .bipush 24, 2, 0, 0), (106, .newarray .int, 2, 0, 0), (108, .putfield 48, 3, 9, 18), (111, .aload_n 0, 1, 0, 0)],
  [(112, .bipush 24, 2, 0, 0), (114, .newarray .long, 2, 1, 0), (116, .putfield 51, 3, 9, 19), (119, .aload_n 0, 1, 0, 0), (120, .sipush 2000, 3, 0, 0), (123, .newarray .int, 2, 0, 0), (125, .putfield 54, 3, 9, 24)],
  [(128, .aload_n 0, 1, 0, 0), (129, .bipush 8, 2, 0, 0), (131, .newarray .int, 2, 0, 0), (133, .dup, 1, 0, 0), (134, .iconst 0, 1, 0, 0), (135, .iconst (-1), 1, 0, 0), (136, .iastore, 1, 0, 0), (137, .dup, 1, 0, 0), (138, .iconst 1, 1, 0, 0), (139, .iconst (-1), 1, 0, 0), (140, .iastore, 1, 0, 0), (141, .dup, 1, 0, 0), (142, .iconst 2, 1, 0, 0), (143, .iconst (-1), 1, 0, 0)],
  [(144, .iastore, 1, 0, 0), (145, .dup, 1, 0, 0), (146, .iconst 3, 1, 0, 0), (147, .iconst (-1), 1, 0, 0), (148, .iastore, 1, 0, 0), (149, .dup, 1, 0, 0), (150, .iconst 4, 1, 0, 0), (151, .iconst (-1), 1, 0, 0), (152, .iastore, 1, 0, 0), (153, .dup, 1, 0, 0), (154, .iconst 5, 1, 0, 0), (155, .iconst (-1), 1, 0, 0), (156, .iastore, 1, 0, 0), (157, .dup, 1, 0, 0), (158, .bipush 6, 2, 0, 0)],
  [(160, .iconst (-1), 1, 0, 0), (161, .iastore, 1, 0, 0), (162, .dup, 1, 0, 0), (163, .bipush 7, 2, 0, 0), (165, .iconst (-1), 1, 0, 0), (166, .iastore, 1, 0, 0), (167, .putfield 57, 3, 9, 26), (170, .aload_n 0, 1, 0, 0), (171, .bipush 8, 2, 0, 0), (173, .newarray .int, 2, 0, 0), (175, .putfield 60, 3, 9, 27)],
  [(178, .aload_n 0, 1, 0, 0), (179, .sipush 320, 3, 0, 0), (182, .newarray .long, 2, 1, 0), (184, .putfield 63, 3, 9, 28), (187, .aload_n 0, 1, 0, 0), (188, .getfield 9, 3, 9, 0), (191, .sipush 6917, 3, 0, 0)],
  [(194, .iconst 1, 1, 0, 0), (195, .iastore, 1, 0, 0), (196, .return_, 1, 0, 0)]]
def rX9_init : xM := (⟨"PulledSignalsModel", "<init>", "()V"⟩, prog_11_method_1_code, tX9_init, 9, 1, none, 0, 2, 982, 981, 200000, 8)
theorem ok_rX9_init : xMok rX9_init = true := by decide +kernel
def tX9_in : List (List xEnt) := [[(0, .lload_n 0, 1, 0, 0), (1, .lload_n 2, 1, 0, 0), (2, .lcmp, 1, 0, 0), (3, .ifCond .lt 14, 3, 0, 0), (6, .lload_n 0, 1, 0, 0), (7, .lload 4, 2, 0, 0), (9, .lcmp, 1, 0, 0), (10, .ifCond .gt 7, 3, 0, 0), (13, .iconst 1, 1, 0, 0), (14, .goto 4, 3, 0, 0)],
  [(17, .iconst 0, 1, 0, 0), (18, .ireturn, 1, 0, 0)]]
def rX9_in : xM := (⟨"PulledSignalsModel", "in", "(JJJ)Z"⟩, prog_11_method_2_code, tX9_in, 9, 6, (some Jvm.ClassFile.FieldType.boolean), 3, 1, 1082, 1081, 200000, 8)
theorem ok_rX9_in : xMok rX9_in = true := by decide +kernel
def tX9_refused : List (List xEnt) := [[(0, .aload_n 0, 1, 0, 0), (1, .getfield 39, 3, 9, 10), (4, .iload_n 1, 1, 0, 0), (5, .ineg, 1, 0, 0), (6, .dup2, 1, 0, 0), (7, .iaload, 1, 0, 0), (8, .iconst 1, 1, 0, 0), (9, .iadd, 1, 0, 0), (10, .iastore, 1, 0, 0), (11, .iload_n 1, 1, 0, 0), (12, .ireturn, 1, 0, 0)]]
def rX9_refused : xM := (⟨"PulledSignalsModel", "refused", "(I)I"⟩, prog_11_method_3_code, tX9_refused, 9, 2, (some Jvm.ClassFile.FieldType.int), 1, 0, 1094, 1093, 100044, 8)
theorem ok_rX9_refused : xMok rX9_refused = true := by decide +kernel
def tX9_refusedLong : List (List xEnt) := [[(0, .aload_n 0, 1, 0, 0), (1, .iload_n 1, 1, 0, 0), (2, .invokevirtual 66, 3, 164, 0), (5, .i2l, 1, 0, 0), (6, .ldc2_w 70, 3, 7, 0), (9, .lsub, 1, 0, 0), (10, .lreturn, 1, 0, 0)]]
def rX9_refusedLong : xM := (⟨"PulledSignalsModel", "refusedLong", "(I)J"⟩, prog_11_method_4_code, tX9_refusedLong, 9, 2, (some Jvm.ClassFile.FieldType.long), 1, 0, 1393, 1392, 100093, 8)
theorem ok_rX9_refusedLong : xMok rX9_refusedLong = true := by decide +kernel
def tX9_of : List (List xEnt) := [[(0, .aload_n 0, 1, 0, 0), (1, .getfield 9, 3, 9, 0), (4, .sipush 282, 3, 0, 0), (7, .iload_n 1, 1, 0, 0), (8, .imul, 1, 0, 0), (9, .iload_n 2, 1, 0, 0), (10, .iadd, 1, 0, 0), (11, .iaload, 1, 0, 0), (12, .ireturn, 1, 0, 0)]]
def rX9_of : xM := (⟨"PulledSignalsModel", "of", "(II)I"⟩, prog_11_method_5_code, tX9_of, 9, 3, (some Jvm.ClassFile.FieldType.int), 2, 0, 1090, 1089, 100043, 8)
theorem ok_rX9_of : xMok rX9_of = true := by decide +kernel
def tX9_is : List (List xEnt) := [[(0, .aload_n 0, 1, 0, 0), (1, .getfield 9, 3, 9, 0), (4, .sipush 282, 3, 0, 0), (7, .iload_n 1, 1, 0, 0), (8, .imul, 1, 0, 0), (9, .iload_n 2, 1, 0, 0), (10, .iadd, 1, 0, 0), (11, .iload_n 3, 1, 0, 0), (12, .iastore, 1, 0, 0), (13, .return_, 1, 0, 0)]]
def rX9_is : xM := (⟨"PulledSignalsModel", "is", "(III)V"⟩, prog_11_method_6_code, tX9_is, 9, 4, none, 3, 0, 1200, 1199, 100057, 8)
theorem ok_rX9_is : xMok rX9_is = true := by decide +kernel
def tX9_isCell : List (List xEnt) := [[(0, .iload_n 1, 1, 0, 0), (1, .i2l, 1, 0, 0), (2, .lconst 0, 1, 0, 0), (3, .aload_n 0, 1, 0, 0), (4, .getfield 9, 3, 9, 0), (7, .sipush 6768, 3, 0, 0), (10, .iaload, 1, 0, 0), (11, .iconst 1, 1, 0, 0), (12, .isub, 1, 0, 0), (13, .i2l, 1, 0, 0), (14, .invokestatic 72, 3, 163, 2)],
  [(17, .ireturn, 1, 0, 0)]]
def rX9_isCell : xM := (⟨"PulledSignalsModel", "isCell", "(I)Z"⟩, prog_11_method_7_code, tX9_isCell, 9, 2, (some Jvm.ClassFile.FieldType.boolean), 1, 0, 1079, 1078, 100041, 8)
theorem ok_rX9_isCell : xMok rX9_isCell = true := by decide +kernel
def tX9_isComputed : List (List xEnt) := [[(0, .aload_n 0, 1, 0, 0), (1, .iload_n 1, 1, 0, 0), (2, .iconst 0, 1, 0, 0), (3, .invokevirtual 76, 3, 166, 0), (6, .iconst 3, 1, 0, 0), (7, .if_icmp .eq 13, 3, 0, 0), (10, .aload_n 0, 1, 0, 0), (11, .iload_n 1, 1, 0, 0), (12, .iconst 0, 1, 0, 0), (13, .invokevirtual 76, 3, 166, 0)],
  [(16, .iconst 4, 1, 0, 0), (17, .if_icmp .ne 7, 3, 0, 0), (20, .iconst 1, 1, 0, 0), (21, .goto 4, 3, 0, 0), (24, .iconst 0, 1, 0, 0), (25, .ireturn, 1, 0, 0)]]
def rX9_isComputed : xM := (⟨"PulledSignalsModel", "isComputed", "(I)Z"⟩, prog_11_method_8_code, tX9_isComputed, 9, 2, (some Jvm.ClassFile.FieldType.boolean), 1, 0, 1086, 1085, 100042, 8)
theorem ok_rX9_isComputed : xMok rX9_isComputed = true := by decide +kernel
def tX9_letter : List (List xEnt) := [[(0, .iload_n 2, 1, 0, 0), (1, .aload_n 0, 1, 0, 0), (2, .iload_n 1, 1, 0, 0), (3, .bipush 31, 2, 0, 0), (5, .invokevirtual 76, 3, 166, 0), (8, .if_icmp .ge 15, 3, 0, 0), (11, .aload_n 0, 1, 0, 0), (12, .iload_n 1, 1, 0, 0), (13, .bipush 32, 2, 0, 0), (15, .iload_n 2, 1, 0, 0)],
  [(16, .iadd, 1, 0, 0), (17, .invokevirtual 76, 3, 166, 0), (20, .goto 4, 3, 0, 0), (23, .iconst (-1), 1, 0, 0), (24, .ireturn, 1, 0, 0)]]
def rX9_letter : xM := (⟨"PulledSignalsModel", "letter", "(II)I"⟩, prog_11_method_9_code, tX9_letter, 9, 3, (some Jvm.ClassFile.FieldType.int), 2, 0, 1114, 1113, 100049, 8)
theorem ok_rX9_letter : xMok rX9_letter = true := by decide +kernel
def tX9_isFail : List (List xEnt) := [[(0, .lload_n 0, 1, 0, 0), (1, .ldc2_w 80, 3, 8, 0), (4, .lcmp, 1, 0, 0), (5, .ifCond .lt 7, 3, 0, 0), (8, .iconst 1, 1, 0, 0), (9, .goto 4, 3, 0, 0), (12, .iconst 0, 1, 0, 0), (13, .ireturn, 1, 0, 0)]]
def rX9_isFail : xM := (⟨"PulledSignalsModel", "isFail", "(J)Z"⟩, prog_11_method_10_code, tX9_isFail, 9, 2, (some Jvm.ClassFile.FieldType.boolean), 1, 1, 1335, 1334, 200000, 8)
theorem ok_rX9_isFail : xMok rX9_isFail = true := by decide +kernel
def tX9_two : List (List xEnt) := [[(0, .iload_n 0, 1, 0, 0), (1, .tableswitch 202 37 61 #[156, 202, 202, 202, 202, 125, 115, 202, 120, 202, 130, 202, 202, 202, 202, 202, 202, 202, 202, 202, 202, 202, 202, 180, 191], 115, 0, 0)],
  [],
  [],
  [],
  [],
  [],
  [],
  [(116, .iload_n 1, 1, 0, 0), (117, .iload_n 2, 1, 0, 0), (118, .iadd, 1, 0, 0), (119, .i2l, 1, 0, 0), (120, .lreturn, 1, 0, 0), (121, .iload_n 1, 1, 0, 0), (122, .iload_n 2, 1, 0, 0), (123, .isub, 1, 0, 0), (124, .i2l, 1, 0, 0), (125, .lreturn, 1, 0, 0), (126, .iload_n 1, 1, 0, 0), (127, .iload_n 2, 1, 0, 0)],
  [(128, .imul, 1, 0, 0), (129, .i2l, 1, 0, 0), (130, .lreturn, 1, 0, 0), (131, .iload_n 2, 1, 0, 0), (132, .ifCond .ne 9, 3, 0, 0), (135, .ldc2_w 82, 3, 9, 0), (138, .goto 18, 3, 0, 0), (141, .iload_n 2, 1, 0, 0), (142, .iconst (-1), 1, 0, 0), (143, .if_icmp .ne 9, 3, 0, 0)],
  [(146, .iload_n 1, 1, 0, 0), (147, .ineg, 1, 0, 0), (148, .i2l, 1, 0, 0), (149, .goto 7, 3, 0, 0), (152, .iload_n 1, 1, 0, 0), (153, .iload_n 2, 1, 0, 0), (154, .idiv, 1, 0, 0), (155, .i2l, 1, 0, 0), (156, .lreturn, 1, 0, 0), (157, .iload_n 2, 1, 0, 0), (158, .ifCond .ne 9, 3, 0, 0)],
  [(161, .ldc2_w 82, 3, 9, 0), (164, .goto 16, 3, 0, 0), (167, .iload_n 2, 1, 0, 0), (168, .iconst (-1), 1, 0, 0), (169, .if_icmp .ne 7, 3, 0, 0), (172, .lconst 0, 1, 0, 0), (173, .goto 7, 3, 0, 0)],
  [(176, .iload_n 1, 1, 0, 0), (177, .iload_n 2, 1, 0, 0), (178, .irem, 1, 0, 0), (179, .i2l, 1, 0, 0), (180, .lreturn, 1, 0, 0), (181, .iload_n 1, 1, 0, 0), (182, .iload_n 2, 1, 0, 0), (183, .if_icmp .ge 7, 3, 0, 0), (186, .lconst 1, 1, 0, 0), (187, .goto 4, 3, 0, 0), (190, .lconst 0, 1, 0, 0), (191, .lreturn, 1, 0, 0)],
  [(192, .iload_n 1, 1, 0, 0), (193, .iload_n 2, 1, 0, 0), (194, .if_icmp .ne 7, 3, 0, 0), (197, .lconst 1, 1, 0, 0), (198, .goto 4, 3, 0, 0), (201, .lconst 0, 1, 0, 0), (202, .lreturn, 1, 0, 0), (203, .iload_n 1, 1, 0, 0), (204, .iload_n 2, 1, 0, 0), (205, .if_icmp .le 7, 3, 0, 0)],
  [(208, .lconst 1, 1, 0, 0), (209, .goto 4, 3, 0, 0), (212, .lconst 0, 1, 0, 0), (213, .lreturn, 1, 0, 0)]]
def rX9_two : xM := (⟨"PulledSignalsModel", "two", "(III)J"⟩, prog_11_method_11_code, tX9_two, 9, 3, (some Jvm.ClassFile.FieldType.long), 3, 1, 1344, 1343, 200000, 8)
theorem ok_rX9_two : xMok rX9_two = true := by decide +kernel
def tX9_comp : List (List xEnt) := [[(0, .aload_n 0, 1, 0, 0), (1, .iload_n 1, 1, 0, 0), (2, .iload_n 2, 1, 0, 0), (3, .invokevirtual 84, 3, 174, 0), (6, .lstore_n 3, 1, 0, 0), (7, .aload_n 0, 1, 0, 0), (8, .iload_n 1, 1, 0, 0), (9, .aload_n 0, 1, 0, 0), (10, .getfield 88, 3, 9, 16), (13, .invokevirtual 92, 3, 170, 0)],
  [(16, .istore 5, 2, 0, 0), (18, .iload 5, 2, 0, 0), (20, .bipush 60, 2, 0, 0), (22, .if_icmp .eq 19, 3, 0, 0), (25, .iload 5, 2, 0, 0), (27, .bipush 61, 2, 0, 0), (29, .if_icmp .eq 12, 3, 0, 0)],
  [(32, .iload 5, 2, 0, 0), (34, .bipush 62, 2, 0, 0), (36, .if_icmp .eq 5, 3, 0, 0), (39, .lload_n 3, 1, 0, 0), (40, .lreturn, 1, 0, 0), (41, .aload_n 0, 1, 0, 0), (42, .dup, 1, 0, 0), (43, .getfield 88, 3, 9, 16), (46, .iconst 1, 1, 0, 0), (47, .iadd, 1, 0, 0)],
  [(48, .putfield 88, 3, 9, 16), (51, .iload_n 2, 1, 0, 0), (52, .ifCond .eq 14, 3, 0, 0), (55, .lload_n 3, 1, 0, 0), (56, .invokestatic 95, 3, 171, 2), (59, .ifCond .ne 7, 3, 0, 0), (62, .iconst 1, 1, 0, 0), (63, .goto 4, 3, 0, 0)],
  [(66, .iconst 0, 1, 0, 0), (67, .istore 6, 2, 0, 0), (69, .aload_n 0, 1, 0, 0), (70, .iload_n 1, 1, 0, 0), (71, .iload 6, 2, 0, 0), (73, .invokevirtual 84, 3, 174, 0), (76, .lstore 7, 2, 0, 0), (78, .iload 6, 2, 0, 0)],
  [(80, .ifCond .eq 11, 3, 0, 0), (83, .lload 7, 2, 0, 0), (85, .invokestatic 95, 3, 171, 2), (88, .ifCond .eq 17, 3, 0, 0), (91, .iload 6, 2, 0, 0), (93, .ifCond .eq 8, 3, 0, 0)],
  [(96, .lload 7, 2, 0, 0), (98, .goto 17, 3, 0, 0), (101, .lload_n 3, 1, 0, 0), (102, .goto 13, 3, 0, 0), (105, .iload 5, 2, 0, 0), (107, .lload_n 3, 1, 0, 0), (108, .l2i, 1, 0, 0), (109, .lload 7, 2, 0, 0), (111, .l2i, 1, 0, 0)],
  [(112, .invokestatic 99, 3, 172, 2), (115, .lreturn, 1, 0, 0)]]
def rX9_comp : xM := (⟨"PulledSignalsModel", "comp", "(IZ)J"⟩, prog_11_method_12_code, tX9_comp, 9, 9, (some Jvm.ClassFile.FieldType.long), 2, 0, 1302, 1301, 100080, 8)
theorem ok_rX9_comp : xMok rX9_comp = true := by decide +kernel
def tX9_sum : List (List xEnt) := [[(0, .aload_n 0, 1, 0, 0), (1, .iload_n 1, 1, 0, 0), (2, .iload_n 2, 1, 0, 0), (3, .invokevirtual 103, 3, 175, 0), (6, .lstore_n 3, 1, 0, 0), (7, .aload_n 0, 1, 0, 0), (8, .iload_n 1, 1, 0, 0), (9, .aload_n 0, 1, 0, 0), (10, .getfield 88, 3, 9, 16), (13, .invokevirtual 92, 3, 170, 0)],
  [(16, .bipush 43, 2, 0, 0), (18, .if_icmp .eq 17, 3, 0, 0), (21, .aload_n 0, 1, 0, 0), (22, .iload_n 1, 1, 0, 0), (23, .aload_n 0, 1, 0, 0), (24, .getfield 88, 3, 9, 16), (27, .invokevirtual 92, 3, 170, 0), (30, .bipush 45, 2, 0, 0)],
  [(32, .if_icmp .ne 92, 3, 0, 0), (35, .aload_n 0, 1, 0, 0), (36, .iload_n 1, 1, 0, 0), (37, .aload_n 0, 1, 0, 0), (38, .getfield 88, 3, 9, 16), (41, .invokevirtual 92, 3, 170, 0), (44, .istore 5, 2, 0, 0), (46, .aload_n 0, 1, 0, 0), (47, .dup, 1, 0, 0)],
  [(48, .getfield 88, 3, 9, 16), (51, .iconst 1, 1, 0, 0), (52, .iadd, 1, 0, 0), (53, .putfield 88, 3, 9, 16), (56, .iload_n 2, 1, 0, 0), (57, .ifCond .eq 14, 3, 0, 0), (60, .lload_n 3, 1, 0, 0), (61, .invokestatic 95, 3, 171, 2)],
  [(64, .ifCond .ne 7, 3, 0, 0), (67, .iconst 1, 1, 0, 0), (68, .goto 4, 3, 0, 0), (71, .iconst 0, 1, 0, 0), (72, .istore 6, 2, 0, 0), (74, .aload_n 0, 1, 0, 0), (75, .iload_n 1, 1, 0, 0), (76, .iload 6, 2, 0, 0), (78, .invokevirtual 103, 3, 175, 0)],
  [(81, .lstore 7, 2, 0, 0), (83, .iload 6, 2, 0, 0), (85, .ifCond .eq 11, 3, 0, 0), (88, .lload 7, 2, 0, 0), (90, .invokestatic 95, 3, 171, 2), (93, .ifCond .eq 17, 3, 0, 0)],
  [(96, .iload 6, 2, 0, 0), (98, .ifCond .eq 8, 3, 0, 0), (101, .lload 7, 2, 0, 0), (103, .goto 17, 3, 0, 0), (106, .lload_n 3, 1, 0, 0), (107, .goto 13, 3, 0, 0), (110, .iload 5, 2, 0, 0)],
  [(112, .lload_n 3, 1, 0, 0), (113, .l2i, 1, 0, 0), (114, .lload 7, 2, 0, 0), (116, .l2i, 1, 0, 0), (117, .invokestatic 99, 3, 172, 2), (120, .lstore_n 3, 1, 0, 0), (121, .goto (-114), 3, 0, 0), (124, .lload_n 3, 1, 0, 0), (125, .lreturn, 1, 0, 0)]]
def rX9_sum : xM := (⟨"PulledSignalsModel", "sum", "(IZ)J"⟩, prog_11_method_13_code, tX9_sum, 9, 9, (some Jvm.ClassFile.FieldType.long), 2, 0, 1306, 1305, 100081, 8)
theorem ok_rX9_sum : xMok rX9_sum = true := by decide +kernel
def tX9_term : List (List xEnt) := [[(0, .aload_n 0, 1, 0, 0), (1, .iload_n 1, 1, 0, 0), (2, .iload_n 2, 1, 0, 0), (3, .invokevirtual 106, 3, 176, 0), (6, .lstore_n 3, 1, 0, 0), (7, .aload_n 0, 1, 0, 0), (8, .iload_n 1, 1, 0, 0), (9, .aload_n 0, 1, 0, 0), (10, .getfield 88, 3, 9, 16), (13, .invokevirtual 92, 3, 170, 0)],
  [(16, .bipush 42, 2, 0, 0), (18, .if_icmp .eq 31, 3, 0, 0), (21, .aload_n 0, 1, 0, 0), (22, .iload_n 1, 1, 0, 0), (23, .aload_n 0, 1, 0, 0), (24, .getfield 88, 3, 9, 16), (27, .invokevirtual 92, 3, 170, 0), (30, .bipush 47, 2, 0, 0)],
  [(32, .if_icmp .eq 17, 3, 0, 0), (35, .aload_n 0, 1, 0, 0), (36, .iload_n 1, 1, 0, 0), (37, .aload_n 0, 1, 0, 0), (38, .getfield 88, 3, 9, 16), (41, .invokevirtual 92, 3, 170, 0), (44, .bipush 37, 2, 0, 0), (46, .if_icmp .ne 92, 3, 0, 0)],
  [(49, .aload_n 0, 1, 0, 0), (50, .iload_n 1, 1, 0, 0), (51, .aload_n 0, 1, 0, 0), (52, .getfield 88, 3, 9, 16), (55, .invokevirtual 92, 3, 170, 0), (58, .istore 5, 2, 0, 0), (60, .aload_n 0, 1, 0, 0), (61, .dup, 1, 0, 0), (62, .getfield 88, 3, 9, 16)],
  [(65, .iconst 1, 1, 0, 0), (66, .iadd, 1, 0, 0), (67, .putfield 88, 3, 9, 16), (70, .iload_n 2, 1, 0, 0), (71, .ifCond .eq 14, 3, 0, 0), (74, .lload_n 3, 1, 0, 0), (75, .invokestatic 95, 3, 171, 2), (78, .ifCond .ne 7, 3, 0, 0)],
  [(81, .iconst 1, 1, 0, 0), (82, .goto 4, 3, 0, 0), (85, .iconst 0, 1, 0, 0), (86, .istore 6, 2, 0, 0), (88, .aload_n 0, 1, 0, 0), (89, .iload_n 1, 1, 0, 0), (90, .iload 6, 2, 0, 0), (92, .invokevirtual 106, 3, 176, 0), (95, .lstore 7, 2, 0, 0)],
  [(97, .iload 6, 2, 0, 0), (99, .ifCond .eq 11, 3, 0, 0), (102, .lload 7, 2, 0, 0), (104, .invokestatic 95, 3, 171, 2), (107, .ifCond .eq 17, 3, 0, 0), (110, .iload 6, 2, 0, 0)],
  [(112, .ifCond .eq 8, 3, 0, 0), (115, .lload 7, 2, 0, 0), (117, .goto 17, 3, 0, 0), (120, .lload_n 3, 1, 0, 0), (121, .goto 13, 3, 0, 0), (124, .iload 5, 2, 0, 0), (126, .lload_n 3, 1, 0, 0), (127, .l2i, 1, 0, 0)],
  [(128, .lload 7, 2, 0, 0), (130, .l2i, 1, 0, 0), (131, .invokestatic 99, 3, 172, 2), (134, .lstore_n 3, 1, 0, 0), (135, .goto (-128), 3, 0, 0), (138, .lload_n 3, 1, 0, 0), (139, .lreturn, 1, 0, 0)]]
def rX9_term : xM := (⟨"PulledSignalsModel", "term", "(IZ)J"⟩, prog_11_method_14_code, tX9_term, 9, 9, (some Jvm.ClassFile.FieldType.long), 2, 0, 1310, 1309, 100082, 8)
theorem ok_rX9_term : xMok rX9_term = true := by decide +kernel
def tX9_part : List (List xEnt) := [[(0, .aload_n 0, 1, 0, 0), (1, .iload_n 1, 1, 0, 0), (2, .aload_n 0, 1, 0, 0), (3, .getfield 88, 3, 9, 16), (6, .invokevirtual 92, 3, 170, 0), (9, .istore_n 3, 1, 0, 0), (10, .iload_n 3, 1, 0, 0), (11, .i2l, 1, 0, 0), (12, .ldc2_w 109, 3, 10, 0), (15, .ldc2_w 111, 3, 11, 0)],
  [(18, .invokestatic 72, 3, 163, 2), (21, .ifCond .eq 65, 3, 0, 0), (24, .iconst 0, 1, 0, 0), (25, .istore 4, 2, 0, 0), (27, .aload_n 0, 1, 0, 0), (28, .iload_n 1, 1, 0, 0), (29, .aload_n 0, 1, 0, 0), (30, .getfield 88, 3, 9, 16)],
  [(33, .invokevirtual 92, 3, 170, 0), (36, .i2l, 1, 0, 0), (37, .ldc2_w 109, 3, 10, 0), (40, .ldc2_w 111, 3, 11, 0), (43, .invokestatic 72, 3, 163, 2), (46, .ifCond .eq 36, 3, 0, 0)],
  [(49, .bipush 10, 2, 0, 0), (51, .iload 4, 2, 0, 0), (53, .imul, 1, 0, 0), (54, .aload_n 0, 1, 0, 0), (55, .iload_n 1, 1, 0, 0), (56, .aload_n 0, 1, 0, 0), (57, .getfield 88, 3, 9, 16), (60, .invokevirtual 92, 3, 170, 0), (63, .iadd, 1, 0, 0)],
  [(64, .bipush 48, 2, 0, 0), (66, .isub, 1, 0, 0), (67, .istore 4, 2, 0, 0), (69, .aload_n 0, 1, 0, 0), (70, .dup, 1, 0, 0), (71, .getfield 88, 3, 9, 16), (74, .iconst 1, 1, 0, 0), (75, .iadd, 1, 0, 0), (76, .putfield 88, 3, 9, 16), (79, .goto (-52), 3, 0, 0)],
  [(82, .iload 4, 2, 0, 0), (84, .i2l, 1, 0, 0), (85, .lreturn, 1, 0, 0), (86, .iload_n 3, 1, 0, 0), (87, .i2l, 1, 0, 0), (88, .ldc2_w 113, 3, 12, 0), (91, .ldc2_w 115, 3, 13, 0), (94, .invokestatic 72, 3, 163, 2)],
  [(97, .ifCond .ne 9, 3, 0, 0), (100, .iload_n 3, 1, 0, 0), (101, .bipush 126, 2, 0, 0), (103, .if_icmp .ne 76, 3, 0, 0), (106, .aload_n 0, 1, 0, 0), (107, .dup, 1, 0, 0), (108, .getfield 88, 3, 9, 16), (111, .iload_n 3, 1, 0, 0)],
  [(112, .bipush 126, 2, 0, 0), (114, .if_icmp .ne 7, 3, 0, 0), (117, .iconst 2, 1, 0, 0), (118, .goto 4, 3, 0, 0), (121, .iconst 1, 1, 0, 0), (122, .iadd, 1, 0, 0), (123, .putfield 88, 3, 9, 16), (126, .iload_n 3, 1, 0, 0), (127, .bipush 126, 2, 0, 0)],
  [(129, .if_icmp .ne 17, 3, 0, 0), (132, .aload_n 0, 1, 0, 0), (133, .iload_n 1, 1, 0, 0), (134, .aload_n 0, 1, 0, 0), (135, .getfield 88, 3, 9, 16), (138, .iconst 1, 1, 0, 0), (139, .isub, 1, 0, 0), (140, .invokevirtual 92, 3, 170, 0), (143, .goto 4, 3, 0, 0)],
  [(146, .iload_n 3, 1, 0, 0), (147, .bipush 97, 2, 0, 0), (149, .isub, 1, 0, 0), (150, .istore 4, 2, 0, 0), (152, .iload_n 2, 1, 0, 0), (153, .ifCond .eq 24, 3, 0, 0), (156, .aload_n 0, 1, 0, 0), (157, .iload_n 1, 1, 0, 0), (158, .iload 4, 2, 0, 0)],
  [(160, .iload_n 3, 1, 0, 0), (161, .bipush 126, 2, 0, 0), (163, .if_icmp .ne 7, 3, 0, 0), (166, .iconst 1, 1, 0, 0), (167, .goto 4, 3, 0, 0), (170, .iconst 0, 1, 0, 0), (171, .invokevirtual 117, 3, 178, 0), (174, .goto 4, 3, 0, 0)],
  [(177, .lconst 0, 1, 0, 0), (178, .lreturn, 1, 0, 0), (179, .aload_n 0, 1, 0, 0), (180, .dup, 1, 0, 0), (181, .getfield 88, 3, 9, 16), (184, .iconst 1, 1, 0, 0), (185, .iadd, 1, 0, 0), (186, .putfield 88, 3, 9, 16), (189, .iload_n 3, 1, 0, 0), (190, .bipush 45, 2, 0, 0)],
  [(192, .if_icmp .ne 30, 3, 0, 0), (195, .aload_n 0, 1, 0, 0), (196, .iload_n 1, 1, 0, 0), (197, .iload_n 2, 1, 0, 0), (198, .invokevirtual 106, 3, 176, 0), (201, .lstore 4, 2, 0, 0), (203, .lload 4, 2, 0, 0), (205, .invokestatic 95, 3, 171, 2)],
  [(208, .ifCond .eq 8, 3, 0, 0), (211, .lload 4, 2, 0, 0), (213, .goto 8, 3, 0, 0), (216, .lload 4, 2, 0, 0), (218, .l2i, 1, 0, 0), (219, .ineg, 1, 0, 0), (220, .i2l, 1, 0, 0), (221, .lreturn, 1, 0, 0), (222, .iload_n 3, 1, 0, 0), (223, .bipush 40, 2, 0, 0)],
  [(225, .if_icmp .ne 24, 3, 0, 0), (228, .aload_n 0, 1, 0, 0), (229, .iload_n 1, 1, 0, 0), (230, .iload_n 2, 1, 0, 0), (231, .invokevirtual 121, 3, 173, 0), (234, .lstore 4, 2, 0, 0), (236, .aload_n 0, 1, 0, 0), (237, .dup, 1, 0, 0), (238, .getfield 88, 3, 9, 16)],
  [(241, .iconst 1, 1, 0, 0), (242, .iadd, 1, 0, 0), (243, .putfield 88, 3, 9, 16), (246, .lload 4, 2, 0, 0), (248, .lreturn, 1, 0, 0), (249, .iload_n 3, 1, 0, 0), (250, .bipush 91, 2, 0, 0), (252, .if_icmp .ne 10, 3, 0, 0), (255, .aload_n 0, 1, 0, 0)],
  [(256, .iload_n 1, 1, 0, 0), (257, .iload_n 2, 1, 0, 0), (258, .invokevirtual 124, 3, 177, 0), (261, .lreturn, 1, 0, 0), (262, .aload_n 0, 1, 0, 0), (263, .dup, 1, 0, 0), (264, .getfield 88, 3, 9, 16), (267, .iconst 1, 1, 0, 0), (268, .iadd, 1, 0, 0), (269, .putfield 88, 3, 9, 16)],
  [(272, .aload_n 0, 1, 0, 0), (273, .iload_n 1, 1, 0, 0), (274, .iload_n 2, 1, 0, 0), (275, .invokevirtual 121, 3, 173, 0), (278, .lstore 4, 2, 0, 0), (280, .aload_n 0, 1, 0, 0), (281, .dup, 1, 0, 0), (282, .getfield 88, 3, 9, 16), (285, .iconst 1, 1, 0, 0), (286, .iadd, 1, 0, 0), (287, .putfield 88, 3, 9, 16)],
  [(290, .iload_n 2, 1, 0, 0), (291, .ifCond .eq 15, 3, 0, 0), (294, .lload 4, 2, 0, 0), (296, .invokestatic 95, 3, 171, 2), (299, .ifCond .ne 7, 3, 0, 0), (302, .iconst 1, 1, 0, 0), (303, .goto 4, 3, 0, 0)],
  [(306, .iconst 0, 1, 0, 0), (307, .istore 6, 2, 0, 0), (309, .aload_n 0, 1, 0, 0), (310, .iload_n 1, 1, 0, 0), (311, .iload 6, 2, 0, 0), (313, .invokevirtual 121, 3, 173, 0), (316, .lstore 7, 2, 0, 0), (318, .aload_n 0, 1, 0, 0), (319, .dup, 1, 0, 0)],
  [(320, .getfield 88, 3, 9, 16), (323, .iconst 1, 1, 0, 0), (324, .iadd, 1, 0, 0), (325, .putfield 88, 3, 9, 16), (328, .iload 6, 2, 0, 0), (330, .ifCond .eq 11, 3, 0, 0), (333, .lload 7, 2, 0, 0), (335, .invokestatic 95, 3, 171, 2)],
  [(338, .ifCond .eq 18, 3, 0, 0), (341, .iload 6, 2, 0, 0), (343, .ifCond .eq 8, 3, 0, 0), (346, .lload 7, 2, 0, 0), (348, .goto 18, 3, 0, 0), (351, .lload 4, 2, 0, 0)],
  [(353, .goto 13, 3, 0, 0), (356, .lload 4, 2, 0, 0), (358, .l2i, 1, 0, 0), (359, .lload 7, 2, 0, 0), (361, .l2i, 1, 0, 0), (362, .invokestatic 127, 3, 0, 7), (365, .i2l, 1, 0, 0), (366, .lreturn, 1, 0, 0)]]
def rX9_part : xM := (⟨"PulledSignalsModel", "part", "(IZ)J"⟩, prog_11_method_15_code, tX9_part, 9, 9, (some Jvm.ClassFile.FieldType.long), 2, 0, 1314, 1313, 100083, 8)
theorem ok_rX9_part : xMok rX9_part = true := by decide +kernel
def tX9_choice : List (List xEnt) := [[(0, .aload_n 0, 1, 0, 0), (1, .iload_n 1, 1, 0, 0), (2, .iload_n 2, 1, 0, 0), (3, .invokevirtual 121, 3, 173, 0), (6, .lstore_n 3, 1, 0, 0), (7, .aload_n 0, 1, 0, 0), (8, .dup, 1, 0, 0), (9, .getfield 88, 3, 9, 16), (12, .iconst 1, 1, 0, 0), (13, .iadd, 1, 0, 0), (14, .putfield 88, 3, 9, 16)],
  [(17, .iload_n 2, 1, 0, 0), (18, .ifCond .eq 14, 3, 0, 0), (21, .lload_n 3, 1, 0, 0), (22, .invokestatic 95, 3, 171, 2), (25, .ifCond .ne 7, 3, 0, 0), (28, .iconst 1, 1, 0, 0), (29, .goto 4, 3, 0, 0)],
  [(32, .iconst 0, 1, 0, 0), (33, .istore 5, 2, 0, 0), (35, .aload_n 0, 1, 0, 0), (36, .iload_n 1, 1, 0, 0), (37, .iload 5, 2, 0, 0), (39, .ifCond .eq 13, 3, 0, 0), (42, .lload_n 3, 1, 0, 0), (43, .lconst 0, 1, 0, 0), (44, .lcmp, 1, 0, 0), (45, .ifCond .eq 7, 3, 0, 0)],
  [(48, .iconst 1, 1, 0, 0), (49, .goto 4, 3, 0, 0), (52, .iconst 0, 1, 0, 0), (53, .invokevirtual 121, 3, 173, 0), (56, .lstore 6, 2, 0, 0), (58, .aload_n 0, 1, 0, 0), (59, .dup, 1, 0, 0), (60, .getfield 88, 3, 9, 16), (63, .iconst 1, 1, 0, 0)],
  [(64, .iadd, 1, 0, 0), (65, .putfield 88, 3, 9, 16), (68, .aload_n 0, 1, 0, 0), (69, .iload_n 1, 1, 0, 0), (70, .iload 5, 2, 0, 0), (72, .ifCond .eq 13, 3, 0, 0), (75, .lload_n 3, 1, 0, 0), (76, .lconst 0, 1, 0, 0), (77, .lcmp, 1, 0, 0), (78, .ifCond .ne 7, 3, 0, 0)],
  [(81, .iconst 1, 1, 0, 0), (82, .goto 4, 3, 0, 0), (85, .iconst 0, 1, 0, 0), (86, .invokevirtual 121, 3, 173, 0), (89, .lstore 8, 2, 0, 0), (91, .aload_n 0, 1, 0, 0), (92, .dup, 1, 0, 0), (93, .getfield 88, 3, 9, 16)],
  [(96, .iconst 1, 1, 0, 0), (97, .iadd, 1, 0, 0), (98, .putfield 88, 3, 9, 16), (101, .iload 5, 2, 0, 0), (103, .ifCond .ne 7, 3, 0, 0), (106, .lload_n 3, 1, 0, 0), (107, .goto 16, 3, 0, 0), (110, .lload_n 3, 1, 0, 0), (111, .lconst 0, 1, 0, 0)],
  [(112, .lcmp, 1, 0, 0), (113, .ifCond .eq 8, 3, 0, 0), (116, .lload 6, 2, 0, 0), (118, .goto 5, 3, 0, 0), (121, .lload 8, 2, 0, 0), (123, .lreturn, 1, 0, 0)]]
def rX9_choice : xM := (⟨"PulledSignalsModel", "choice", "(IZ)J"⟩, prog_11_method_16_code, tX9_choice, 9, 10, (some Jvm.ClassFile.FieldType.long), 2, 0, 1340, 1339, 100088, 8)
theorem ok_rX9_choice : xMok rX9_choice = true := by decide +kernel
def tX9_asked : List (List xEnt) := [[(0, .aload_n 0, 1, 0, 0), (1, .getfield 88, 3, 9, 16), (4, .istore 4, 2, 0, 0), (6, .aload_n 0, 1, 0, 0), (7, .getfield 132, 3, 9, 13), (10, .ifCond .ne 13, 3, 0, 0), (13, .aload_n 0, 1, 0, 0), (14, .iload_n 1, 1, 0, 0), (15, .iload_n 2, 1, 0, 0)],
  [(16, .iload_n 3, 1, 0, 0), (17, .invokevirtual 135, 3, 181, 0), (20, .goto 8, 3, 0, 0), (23, .aload_n 0, 1, 0, 0), (24, .iload_n 2, 1, 0, 0), (25, .invokevirtual 138, 3, 192, 0), (28, .lstore 5, 2, 0, 0), (30, .aload_n 0, 1, 0, 0), (31, .iload 4, 2, 0, 0)],
  [(33, .putfield 88, 3, 9, 16), (36, .lload 5, 2, 0, 0), (38, .lreturn, 1, 0, 0)]]
def rX9_asked : xM := (⟨"PulledSignalsModel", "asked", "(IIZ)J"⟩, prog_11_method_17_code, tX9_asked, 9, 7, (some Jvm.ClassFile.FieldType.long), 3, 0, 1318, 1317, 100084, 8)
theorem ok_rX9_asked : xMok rX9_asked = true := by decide +kernel
def tX9_worked : List (List xEnt) := [[(0, .aload_n 0, 1, 0, 0), (1, .getfield 88, 3, 9, 16), (4, .istore_n 2, 1, 0, 0), (5, .aload_n 0, 1, 0, 0), (6, .iconst 0, 1, 0, 0), (7, .putfield 88, 3, 9, 16), (10, .aload_n 0, 1, 0, 0), (11, .iload_n 1, 1, 0, 0), (12, .iconst 1, 1, 0, 0), (13, .invokevirtual 121, 3, 173, 0)],
  [(16, .lstore_n 3, 1, 0, 0), (17, .aload_n 0, 1, 0, 0), (18, .iload_n 2, 1, 0, 0), (19, .putfield 88, 3, 9, 16), (22, .lload_n 3, 1, 0, 0), (23, .invokestatic 95, 3, 171, 2), (26, .ifCond .eq 7, 3, 0, 0), (29, .lload_n 3, 1, 0, 0), (30, .goto 6, 3, 0, 0)],
  [(33, .lload_n 3, 1, 0, 0), (34, .l2i, 1, 0, 0), (35, .i2l, 1, 0, 0), (36, .lreturn, 1, 0, 0)]]
def rX9_worked : xM := (⟨"PulledSignalsModel", "worked", "(I)J"⟩, prog_11_method_18_code, tX9_worked, 9, 5, (some Jvm.ClassFile.FieldType.long), 1, 0, 1298, 1297, 100079, 8)
theorem ok_rX9_worked : xMok rX9_worked = true := by decide +kernel
def tX9_hasRead : List (List xEnt) := [[(0, .iconst 0, 1, 0, 0), (1, .istore_n 3, 1, 0, 0), (2, .iload_n 3, 1, 0, 0), (3, .aload_n 0, 1, 0, 0), (4, .iload_n 1, 1, 0, 0), (5, .bipush 6, 2, 0, 0), (7, .invokevirtual 76, 3, 166, 0), (10, .if_icmp .ge 24, 3, 0, 0), (13, .aload_n 0, 1, 0, 0), (14, .iload_n 1, 1, 0, 0), (15, .bipush 7, 2, 0, 0)],
  [(17, .iload_n 3, 1, 0, 0), (18, .iadd, 1, 0, 0), (19, .invokevirtual 76, 3, 166, 0), (22, .iload_n 2, 1, 0, 0), (23, .if_icmp .ne 5, 3, 0, 0), (26, .iconst 1, 1, 0, 0), (27, .ireturn, 1, 0, 0), (28, .iinc 3 1, 3, 0, 0), (31, .goto (-29), 3, 0, 0)],
  [(34, .iconst 0, 1, 0, 0), (35, .ireturn, 1, 0, 0)]]
def rX9_hasRead : xM := (⟨"PulledSignalsModel", "hasRead", "(II)Z"⟩, prog_11_method_19_code, tX9_hasRead, 9, 4, (some Jvm.ClassFile.FieldType.boolean), 2, 0, 1294, 1293, 100078, 8)
theorem ok_rX9_hasRead : xMok rX9_hasRead = true := by decide +kernel
def tX9_readBy : List (List xEnt) := [[(0, .aload_n 0, 1, 0, 0), (1, .iload_n 2, 1, 0, 0), (2, .iconst 2, 1, 0, 0), (3, .invokevirtual 76, 3, 166, 0), (6, .iconst 1, 1, 0, 0), (7, .if_icmp .eq 23, 3, 0, 0), (10, .aload_n 0, 1, 0, 0), (11, .iload_n 2, 1, 0, 0), (12, .iconst 0, 1, 0, 0), (13, .invokevirtual 76, 3, 166, 0)],
  [(16, .iconst 4, 1, 0, 0), (17, .if_icmp .eq 13, 3, 0, 0), (20, .aload_n 0, 1, 0, 0), (21, .iload_n 2, 1, 0, 0), (22, .iconst 0, 1, 0, 0), (23, .invokevirtual 76, 3, 166, 0), (26, .iconst 5, 1, 0, 0), (27, .if_icmp .ne 7, 3, 0, 0), (30, .ldc2_w 142, 3, 14, 0)],
  [(33, .lreturn, 1, 0, 0), (34, .iload_n 3, 1, 0, 0), (35, .ifCond .ne 49, 3, 0, 0), (38, .iload_n 2, 1, 0, 0), (39, .iload_n 1, 1, 0, 0), (40, .if_icmp .eq 44, 3, 0, 0), (43, .aload_n 0, 1, 0, 0), (44, .iload_n 1, 1, 0, 0), (45, .iload_n 2, 1, 0, 0), (46, .invokevirtual 144, 3, 180, 0)],
  [(49, .ifCond .ne 35, 3, 0, 0), (52, .aload_n 0, 1, 0, 0), (53, .iload_n 1, 1, 0, 0), (54, .bipush 7, 2, 0, 0), (56, .aload_n 0, 1, 0, 0), (57, .iload_n 1, 1, 0, 0), (58, .bipush 6, 2, 0, 0), (60, .invokevirtual 76, 3, 166, 0), (63, .iadd, 1, 0, 0)],
  [(64, .iload_n 2, 1, 0, 0), (65, .invokevirtual 148, 3, 167, 0), (68, .aload_n 0, 1, 0, 0), (69, .iload_n 1, 1, 0, 0), (70, .bipush 6, 2, 0, 0), (72, .aload_n 0, 1, 0, 0), (73, .iload_n 1, 1, 0, 0), (74, .bipush 6, 2, 0, 0), (76, .invokevirtual 76, 3, 166, 0), (79, .iconst 1, 1, 0, 0)],
  [(80, .iadd, 1, 0, 0), (81, .invokevirtual 148, 3, 167, 0), (84, .aload_n 0, 1, 0, 0), (85, .getfield 29, 3, 9, 7), (88, .iload_n 2, 1, 0, 0), (89, .baload, 1, 0, 0), (90, .ifCond .eq 7, 3, 0, 0), (93, .ldc2_w 152, 3, 15, 0)],
  [(96, .lreturn, 1, 0, 0), (97, .aload_n 0, 1, 0, 0), (98, .iload_n 2, 1, 0, 0), (99, .iconst 0, 1, 0, 0), (100, .invokevirtual 76, 3, 166, 0), (103, .iconst 3, 1, 0, 0), (104, .if_icmp .ne 8, 3, 0, 0), (107, .aload_n 0, 1, 0, 0), (108, .iload_n 2, 1, 0, 0), (109, .invokevirtual 154, 3, 182, 0)],
  [(112, .aload_n 0, 1, 0, 0), (113, .getfield 13, 3, 9, 1), (116, .iload_n 2, 1, 0, 0), (117, .laload, 1, 0, 0), (118, .lreturn, 1, 0, 0)]]
def rX9_readBy : xM := (⟨"PulledSignalsModel", "readBy", "(IIZ)J"⟩, prog_11_method_20_code, tX9_readBy, 9, 4, (some Jvm.ClassFile.FieldType.long), 3, 0, 1322, 1321, 100085, 8)
theorem ok_rX9_readBy : xMok rX9_readBy = true := by decide +kernel
def tX9_refreshes : List (List xEnt) := [[(0, .aload_n 0, 1, 0, 0), (1, .iload_n 1, 1, 0, 0), (2, .iconst 3, 1, 0, 0), (3, .invokevirtual 76, 3, 166, 0), (6, .ifCond .ne 4, 3, 0, 0), (9, .return_, 1, 0, 0), (10, .aload_n 0, 1, 0, 0), (11, .getfield 29, 3, 9, 7), (14, .iload_n 1, 1, 0, 0), (15, .iconst 1, 1, 0, 0)],
  [(16, .bastore, 1, 0, 0), (17, .iconst 0, 1, 0, 0), (18, .istore_n 2, 1, 0, 0), (19, .aload_n 0, 1, 0, 0), (20, .iload_n 1, 1, 0, 0), (21, .iconst 3, 1, 0, 0), (22, .invokevirtual 76, 3, 166, 0), (25, .iconst 1, 1, 0, 0), (26, .if_icmp .ne 54, 3, 0, 0), (29, .iload_n 2, 1, 0, 0), (30, .aload_n 0, 1, 0, 0), (31, .iload_n 1, 1, 0, 0)],
  [(32, .bipush 6, 2, 0, 0), (34, .invokevirtual 76, 3, 166, 0), (37, .if_icmp .ge 43, 3, 0, 0), (40, .aload_n 0, 1, 0, 0), (41, .iload_n 1, 1, 0, 0), (42, .bipush 7, 2, 0, 0), (44, .iload_n 2, 1, 0, 0), (45, .iadd, 1, 0, 0), (46, .invokevirtual 76, 3, 166, 0)],
  [(49, .istore_n 3, 1, 0, 0), (50, .aload_n 0, 1, 0, 0), (51, .iload_n 3, 1, 0, 0), (52, .iconst 0, 1, 0, 0), (53, .invokevirtual 76, 3, 166, 0), (56, .iconst 3, 1, 0, 0), (57, .if_icmp .ne 17, 3, 0, 0), (60, .aload_n 0, 1, 0, 0), (61, .getfield 29, 3, 9, 7)],
  [(64, .iload_n 3, 1, 0, 0), (65, .baload, 1, 0, 0), (66, .ifCond .ne 8, 3, 0, 0), (69, .aload_n 0, 1, 0, 0), (70, .iload_n 3, 1, 0, 0), (71, .invokevirtual 154, 3, 182, 0), (74, .iinc 2 1, 3, 0, 0), (77, .goto (-58), 3, 0, 0)],
  [(80, .aload_n 0, 1, 0, 0), (81, .iload_n 1, 1, 0, 0), (82, .iconst 3, 1, 0, 0), (83, .invokevirtual 76, 3, 166, 0), (86, .iconst 1, 1, 0, 0), (87, .if_icmp .ne 10, 3, 0, 0), (90, .aload_n 0, 1, 0, 0), (91, .iload_n 1, 1, 0, 0), (92, .iconst 3, 1, 0, 0), (93, .iconst 0, 1, 0, 0), (94, .invokevirtual 148, 3, 167, 0)],
  [(97, .aload_n 0, 1, 0, 0), (98, .iload_n 1, 1, 0, 0), (99, .iconst 3, 1, 0, 0), (100, .invokevirtual 76, 3, 166, 0), (103, .iconst 2, 1, 0, 0), (104, .if_icmp .ne 8, 3, 0, 0), (107, .aload_n 0, 1, 0, 0), (108, .iload_n 1, 1, 0, 0), (109, .invokevirtual 158, 3, 183, 0)],
  [(112, .aload_n 0, 1, 0, 0), (113, .getfield 29, 3, 9, 7), (116, .iload_n 1, 1, 0, 0), (117, .iconst 0, 1, 0, 0), (118, .bastore, 1, 0, 0), (119, .return_, 1, 0, 0)]]
def rX9_refreshes : xM := (⟨"PulledSignalsModel", "refreshes", "(I)V"⟩, prog_11_method_21_code, tX9_refreshes, 9, 4, none, 1, 0, 1274, 1273, 100073, 8)
theorem ok_rX9_refreshes : xMok rX9_refreshes = true := by decide +kernel
def tX9_runs : List (List xEnt) := [[(0, .aload_n 0, 1, 0, 0), (1, .iload_n 1, 1, 0, 0), (2, .bipush 6, 2, 0, 0), (4, .iconst 0, 1, 0, 0), (5, .invokevirtual 148, 3, 167, 0), (8, .aload_n 0, 1, 0, 0), (9, .iload_n 1, 1, 0, 0), (10, .iconst 0, 1, 0, 0), (11, .invokevirtual 76, 3, 166, 0), (14, .iconst 4, 1, 0, 0), (15, .if_icmp .ne 8, 3, 0, 0)],
  [(18, .aload_n 0, 1, 0, 0), (19, .iload_n 1, 1, 0, 0), (20, .invokevirtual 161, 3, 189, 0), (23, .aload_n 0, 1, 0, 0), (24, .getfield 132, 3, 9, 13), (27, .istore_n 2, 1, 0, 0), (28, .aload_n 0, 1, 0, 0), (29, .iconst 0, 1, 0, 0), (30, .putfield 132, 3, 9, 13)],
  [(33, .aload_n 0, 1, 0, 0), (34, .iload_n 1, 1, 0, 0), (35, .invokevirtual 164, 3, 179, 0), (38, .lstore_n 3, 1, 0, 0), (39, .aload_n 0, 1, 0, 0), (40, .iload_n 2, 1, 0, 0), (41, .putfield 132, 3, 9, 13), (44, .aload_n 0, 1, 0, 0), (45, .iload_n 1, 1, 0, 0), (46, .iconst 3, 1, 0, 0), (47, .iconst 0, 1, 0, 0)],
  [(48, .invokevirtual 148, 3, 167, 0), (51, .aload_n 0, 1, 0, 0), (52, .iload_n 1, 1, 0, 0), (53, .iconst 5, 1, 0, 0), (54, .aload_n 0, 1, 0, 0), (55, .iload_n 1, 1, 0, 0), (56, .iconst 5, 1, 0, 0), (57, .invokevirtual 76, 3, 166, 0), (60, .iconst 1, 1, 0, 0), (61, .iadd, 1, 0, 0), (62, .invokevirtual 148, 3, 167, 0)],
  [(65, .aload_n 0, 1, 0, 0), (66, .iload_n 1, 1, 0, 0), (67, .iconst 0, 1, 0, 0), (68, .invokevirtual 76, 3, 166, 0), (71, .iconst 4, 1, 0, 0), (72, .if_icmp .ne 9, 3, 0, 0), (75, .aload_n 0, 1, 0, 0), (76, .iload_n 1, 1, 0, 0), (77, .lload_n 3, 1, 0, 0), (78, .invokevirtual 167, 3, 184, 0)],
  [(81, .lload_n 3, 1, 0, 0), (82, .aload_n 0, 1, 0, 0), (83, .getfield 13, 3, 9, 1), (86, .iload_n 1, 1, 0, 0), (87, .laload, 1, 0, 0), (88, .lcmp, 1, 0, 0), (89, .ifCond .ne 12, 3, 0, 0), (92, .aload_n 0, 1, 0, 0), (93, .iload_n 1, 1, 0, 0), (94, .iconst 4, 1, 0, 0), (95, .invokevirtual 76, 3, 166, 0)],
  [(98, .ifCond .ne 99, 3, 0, 0), (101, .aload_n 0, 1, 0, 0), (102, .getfield 13, 3, 9, 1), (105, .iload_n 1, 1, 0, 0), (106, .lload_n 3, 1, 0, 0), (107, .lastore, 1, 0, 0), (108, .aload_n 0, 1, 0, 0), (109, .iload_n 1, 1, 0, 0), (110, .iconst 4, 1, 0, 0), (111, .aload_n 0, 1, 0, 0)],
  [(112, .iload_n 1, 1, 0, 0), (113, .iconst 4, 1, 0, 0), (114, .invokevirtual 76, 3, 166, 0), (117, .iconst 1, 1, 0, 0), (118, .iadd, 1, 0, 0), (119, .invokevirtual 148, 3, 167, 0), (122, .iconst 0, 1, 0, 0), (123, .istore 5, 2, 0, 0), (125, .iload 5, 2, 0, 0), (127, .aload_n 0, 1, 0, 0)],
  [(128, .getfield 9, 3, 9, 0), (131, .sipush 6768, 3, 0, 0), (134, .iaload, 1, 0, 0), (135, .if_icmp .ge 62, 3, 0, 0), (138, .aload_n 0, 1, 0, 0), (139, .iload 5, 2, 0, 0), (141, .iconst 2, 1, 0, 0), (142, .invokevirtual 76, 3, 166, 0)],
  [(145, .ifCond .ne 46, 3, 0, 0), (148, .aload_n 0, 1, 0, 0), (149, .iload 5, 2, 0, 0), (151, .iload_n 1, 1, 0, 0), (152, .invokevirtual 144, 3, 180, 0), (155, .ifCond .eq 36, 3, 0, 0), (158, .aload_n 0, 1, 0, 0), (159, .iload 5, 2, 0, 0)],
  [(161, .iconst 3, 1, 0, 0), (162, .invokevirtual 76, 3, 166, 0), (165, .ifCond .ne 7, 3, 0, 0), (168, .iconst 1, 1, 0, 0), (169, .goto 4, 3, 0, 0), (172, .iconst 0, 1, 0, 0), (173, .istore 6, 2, 0, 0), (175, .aload_n 0, 1, 0, 0)],
  [(176, .iload 5, 2, 0, 0), (178, .iconst 3, 1, 0, 0), (179, .iconst 2, 1, 0, 0), (180, .invokevirtual 148, 3, 167, 0), (183, .aload_n 0, 1, 0, 0), (184, .iload 5, 2, 0, 0), (186, .iload 6, 2, 0, 0), (188, .invokevirtual 171, 3, 185, 0), (191, .iinc 5 1, 3, 0, 0)],
  [(194, .goto (-69), 3, 0, 0), (197, .return_, 1, 0, 0)]]
def rX9_runs : xM := (⟨"PulledSignalsModel", "runs", "(I)V"⟩, prog_11_method_22_code, tX9_runs, 9, 7, none, 1, 0, 1278, 1277, 100074, 8)
theorem ok_rX9_runs : xMok rX9_runs = true := by decide +kernel
def tX9_logs : List (List xEnt) := [[(0, .aload_n 0, 1, 0, 0), (1, .getfield 9, 3, 9, 0), (4, .sipush 6795, 3, 0, 0), (7, .iaload, 1, 0, 0), (8, .istore 4, 2, 0, 0), (10, .iload 4, 2, 0, 0), (12, .bipush 60, 2, 0, 0), (14, .if_icmp .ge 23, 3, 0, 0)],
  [(17, .aload_n 0, 1, 0, 0), (18, .getfield 9, 3, 9, 0), (21, .sipush 6796, 3, 0, 0), (24, .iload 4, 2, 0, 0), (26, .iadd, 1, 0, 0), (27, .iload_n 1, 1, 0, 0), (28, .iastore, 1, 0, 0), (29, .aload_n 0, 1, 0, 0), (30, .getfield 17, 3, 9, 2)],
  [(33, .iload 4, 2, 0, 0), (35, .lload_n 2, 1, 0, 0), (36, .lastore, 1, 0, 0), (37, .aload_n 0, 1, 0, 0), (38, .getfield 9, 3, 9, 0), (41, .sipush 6795, 3, 0, 0), (44, .iload 4, 2, 0, 0), (46, .iconst 1, 1, 0, 0), (47, .iadd, 1, 0, 0)],
  [(48, .iastore, 1, 0, 0), (49, .aload_n 0, 1, 0, 0), (50, .getfield 33, 3, 9, 8), (53, .iload_n 1, 1, 0, 0), (54, .dup2, 1, 0, 0), (55, .iaload, 1, 0, 0), (56, .iconst 1, 1, 0, 0), (57, .iadd, 1, 0, 0), (58, .iastore, 1, 0, 0), (59, .return_, 1, 0, 0)]]
def rX9_logs : xM := (⟨"PulledSignalsModel", "logs", "(IJ)V"⟩, prog_11_method_23_code, tX9_logs, 9, 5, none, 2, 0, 1349, 1348, 100089, 8)
theorem ok_rX9_logs : xMok rX9_logs = true := by decide +kernel
def tX9_queues : List (List xEnt) := [[(0, .iload_n 2, 1, 0, 0), (1, .ifCond .eq 60, 3, 0, 0), (4, .aload_n 0, 1, 0, 0), (5, .iload_n 1, 1, 0, 0), (6, .iconst 0, 1, 0, 0), (7, .invokevirtual 76, 3, 166, 0), (10, .iconst 4, 1, 0, 0), (11, .if_icmp .ne 50, 3, 0, 0), (14, .aload_n 0, 1, 0, 0), (15, .iload_n 1, 1, 0, 0)],
  [(16, .iconst 2, 1, 0, 0), (17, .invokevirtual 76, 3, 166, 0), (20, .ifCond .ne 41, 3, 0, 0), (23, .aload_n 0, 1, 0, 0), (24, .iload_n 1, 1, 0, 0), (25, .invokevirtual 175, 3, 186, 0), (28, .ifCond .ne 33, 3, 0, 0), (31, .aload_n 0, 1, 0, 0)],
  [(32, .getfield 9, 3, 9, 0), (35, .sipush 6771, 3, 0, 0), (38, .aload_n 0, 1, 0, 0), (39, .getfield 9, 3, 9, 0), (42, .sipush 6770, 3, 0, 0), (45, .iaload, 1, 0, 0), (46, .iadd, 1, 0, 0), (47, .iload_n 1, 1, 0, 0)],
  [(48, .iastore, 1, 0, 0), (49, .aload_n 0, 1, 0, 0), (50, .getfield 9, 3, 9, 0), (53, .sipush 6770, 3, 0, 0), (56, .dup2, 1, 0, 0), (57, .iaload, 1, 0, 0), (58, .iconst 1, 1, 0, 0), (59, .iadd, 1, 0, 0), (60, .iastore, 1, 0, 0), (61, .return_, 1, 0, 0)]]
def rX9_queues : xM := (⟨"PulledSignalsModel", "queues", "(IZ)V"⟩, prog_11_method_24_code, tX9_queues, 9, 3, none, 2, 0, 1258, 1257, 100069, 8)
theorem ok_rX9_queues : xMok rX9_queues = true := by decide +kernel
def tX9_isQueued : List (List xEnt) := [[(0, .iconst 0, 1, 0, 0), (1, .istore_n 2, 1, 0, 0), (2, .iload_n 2, 1, 0, 0), (3, .aload_n 0, 1, 0, 0), (4, .getfield 9, 3, 9, 0), (7, .sipush 6770, 3, 0, 0), (10, .iaload, 1, 0, 0), (11, .if_icmp .ge 25, 3, 0, 0), (14, .aload_n 0, 1, 0, 0), (15, .getfield 9, 3, 9, 0)],
  [(18, .sipush 6771, 3, 0, 0), (21, .iload_n 2, 1, 0, 0), (22, .iadd, 1, 0, 0), (23, .iaload, 1, 0, 0), (24, .iload_n 1, 1, 0, 0), (25, .if_icmp .ne 5, 3, 0, 0), (28, .iconst 1, 1, 0, 0), (29, .ireturn, 1, 0, 0), (30, .iinc 2 1, 3, 0, 0)],
  [(33, .goto (-31), 3, 0, 0), (36, .iconst 0, 1, 0, 0), (37, .ireturn, 1, 0, 0)]]
def rX9_isQueued : xM := (⟨"PulledSignalsModel", "isQueued", "(I)Z"⟩, prog_11_method_25_code, tX9_isQueued, 9, 3, (some Jvm.ClassFile.FieldType.boolean), 1, 0, 1262, 1261, 100070, 8)
theorem ok_rX9_isQueued : xMok rX9_isQueued = true := by decide +kernel
def tX9_unqueues : List (List xEnt) := [[(0, .iconst 0, 1, 0, 0), (1, .istore_n 2, 1, 0, 0), (2, .iconst 0, 1, 0, 0), (3, .istore_n 3, 1, 0, 0), (4, .iload_n 3, 1, 0, 0), (5, .aload_n 0, 1, 0, 0), (6, .getfield 9, 3, 9, 0), (9, .sipush 6770, 3, 0, 0), (12, .iaload, 1, 0, 0), (13, .if_icmp .ge 46, 3, 0, 0)],
  [(16, .aload_n 0, 1, 0, 0), (17, .getfield 9, 3, 9, 0), (20, .sipush 6771, 3, 0, 0), (23, .iload_n 3, 1, 0, 0), (24, .iadd, 1, 0, 0), (25, .iaload, 1, 0, 0), (26, .iload_n 1, 1, 0, 0), (27, .if_icmp .eq 26, 3, 0, 0), (30, .aload_n 0, 1, 0, 0), (31, .getfield 9, 3, 9, 0)],
  [(34, .sipush 6771, 3, 0, 0), (37, .iload_n 2, 1, 0, 0), (38, .iadd, 1, 0, 0), (39, .aload_n 0, 1, 0, 0), (40, .getfield 9, 3, 9, 0), (43, .sipush 6771, 3, 0, 0), (46, .iload_n 3, 1, 0, 0), (47, .iadd, 1, 0, 0)],
  [(48, .iaload, 1, 0, 0), (49, .iastore, 1, 0, 0), (50, .iinc 2 1, 3, 0, 0), (53, .iinc 3 1, 3, 0, 0), (56, .goto (-52), 3, 0, 0), (59, .aload_n 0, 1, 0, 0), (60, .getfield 9, 3, 9, 0), (63, .sipush 6770, 3, 0, 0)],
  [(66, .iload_n 2, 1, 0, 0), (67, .iastore, 1, 0, 0), (68, .return_, 1, 0, 0)]]
def rX9_unqueues : xM := (⟨"PulledSignalsModel", "unqueues", "(I)V"⟩, prog_11_method_26_code, tX9_unqueues, 9, 4, none, 1, 0, 1270, 1269, 100072, 8)
theorem ok_rX9_unqueues : xMok rX9_unqueues = true := by decide +kernel
def tX9_marks : List (List xEnt) := [[(0, .iconst 0, 1, 0, 0), (1, .istore_n 3, 1, 0, 0), (2, .aload_n 0, 1, 0, 0), (3, .getfield 9, 3, 9, 0), (6, .sipush 6768, 3, 0, 0), (9, .iaload, 1, 0, 0), (10, .istore 4, 2, 0, 0), (12, .iconst 0, 1, 0, 0), (13, .istore 5, 2, 0, 0), (15, .iload 5, 2, 0, 0)],
  [(17, .iload 4, 2, 0, 0), (19, .if_icmp .ge 30, 3, 0, 0), (22, .iload_n 3, 1, 0, 0), (23, .aload_n 0, 1, 0, 0), (24, .iload 5, 2, 0, 0), (26, .iconst 3, 1, 0, 0), (27, .invokevirtual 76, 3, 166, 0), (30, .ifCond .ne 10, 3, 0, 0)],
  [(33, .iconst 1, 1, 0, 0), (34, .iload 5, 2, 0, 0), (36, .ishl, 1, 0, 0), (37, .goto 4, 3, 0, 0), (40, .iconst 0, 1, 0, 0), (41, .ior, 1, 0, 0), (42, .istore_n 3, 1, 0, 0), (43, .iinc 5 1, 3, 0, 0), (46, .goto (-31), 3, 0, 0)],
  [(49, .iconst 0, 1, 0, 0), (50, .istore 5, 2, 0, 0), (52, .iconst 0, 1, 0, 0), (53, .istore 6, 2, 0, 0), (55, .iload 6, 2, 0, 0), (57, .iload 4, 2, 0, 0), (59, .if_icmp .ge 38, 3, 0, 0), (62, .aload_n 0, 1, 0, 0), (63, .iload 6, 2, 0, 0)],
  [(65, .iconst 2, 1, 0, 0), (66, .invokevirtual 76, 3, 166, 0), (69, .ifCond .ne 22, 3, 0, 0), (72, .aload_n 0, 1, 0, 0), (73, .iload 6, 2, 0, 0), (75, .iload_n 1, 1, 0, 0), (76, .invokevirtual 144, 3, 180, 0), (79, .ifCond .eq 12, 3, 0, 0)],
  [(82, .iload 5, 2, 0, 0), (84, .iconst 1, 1, 0, 0), (85, .iload 6, 2, 0, 0), (87, .ishl, 1, 0, 0), (88, .ior, 1, 0, 0), (89, .istore 5, 2, 0, 0), (91, .iinc 6 1, 3, 0, 0), (94, .goto (-39), 3, 0, 0)],
  [(97, .iload 5, 2, 0, 0), (99, .istore 6, 2, 0, 0), (101, .iconst 1, 1, 0, 0), (102, .istore 7, 2, 0, 0), (104, .iload 7, 2, 0, 0), (106, .ifCond .eq 101, 3, 0, 0), (109, .iload 5, 2, 0, 0), (111, .istore 8, 2, 0, 0)],
  [(113, .iconst 0, 1, 0, 0), (114, .istore 9, 2, 0, 0), (116, .iload 9, 2, 0, 0), (118, .iload 4, 2, 0, 0), (120, .if_icmp .ge 70, 3, 0, 0), (123, .iconst 0, 1, 0, 0), (124, .istore 10, 2, 0, 0), (126, .iload 10, 2, 0, 0)],
  [(128, .iload 4, 2, 0, 0), (130, .if_icmp .ge 54, 3, 0, 0), (133, .iload 5, 2, 0, 0), (135, .iload 8, 2, 0, 0), (137, .iload 10, 2, 0, 0), (139, .ishr, 1, 0, 0), (140, .iconst 1, 1, 0, 0), (141, .iand, 1, 0, 0), (142, .iconst 1, 1, 0, 0), (143, .if_icmp .ne 31, 3, 0, 0)],
  [(146, .aload_n 0, 1, 0, 0), (147, .iload 9, 2, 0, 0), (149, .iconst 2, 1, 0, 0), (150, .invokevirtual 76, 3, 166, 0), (153, .ifCond .ne 21, 3, 0, 0), (156, .aload_n 0, 1, 0, 0), (157, .iload 9, 2, 0, 0), (159, .iload 10, 2, 0, 0)],
  [(161, .invokevirtual 144, 3, 180, 0), (164, .ifCond .eq 10, 3, 0, 0), (167, .iconst 1, 1, 0, 0), (168, .iload 9, 2, 0, 0), (170, .ishl, 1, 0, 0), (171, .goto 4, 3, 0, 0), (174, .iconst 0, 1, 0, 0), (175, .ior, 1, 0, 0)],
  [(176, .istore 5, 2, 0, 0), (178, .iinc 10 1, 3, 0, 0), (181, .goto (-55), 3, 0, 0), (184, .iinc 9 1, 3, 0, 0), (187, .goto (-71), 3, 0, 0), (190, .iload 5, 2, 0, 0)],
  [(192, .iload 8, 2, 0, 0), (194, .if_icmp .eq 7, 3, 0, 0), (197, .iconst 1, 1, 0, 0), (198, .goto 4, 3, 0, 0), (201, .iconst 0, 1, 0, 0), (202, .istore 7, 2, 0, 0), (204, .goto (-100), 3, 0, 0), (207, .iconst 0, 1, 0, 0)],
  [(208, .istore 8, 2, 0, 0), (210, .iload 8, 2, 0, 0), (212, .iload 4, 2, 0, 0), (214, .if_icmp .ge 65, 3, 0, 0), (217, .iload 6, 2, 0, 0), (219, .iload 8, 2, 0, 0), (221, .ishr, 1, 0, 0), (222, .iconst 1, 1, 0, 0), (223, .iand, 1, 0, 0)],
  [(224, .iconst 1, 1, 0, 0), (225, .if_icmp .ne 19, 3, 0, 0), (228, .iload_n 2, 1, 0, 0), (229, .iconst 2, 1, 0, 0), (230, .if_icmp .ne 14, 3, 0, 0), (233, .aload_n 0, 1, 0, 0), (234, .iload 8, 2, 0, 0), (236, .iconst 3, 1, 0, 0), (237, .iconst 2, 1, 0, 0), (238, .invokevirtual 148, 3, 167, 0)],
  [(241, .goto 32, 3, 0, 0), (244, .iload 5, 2, 0, 0), (246, .iload 8, 2, 0, 0), (248, .ishr, 1, 0, 0), (249, .iconst 1, 1, 0, 0), (250, .iand, 1, 0, 0), (251, .iconst 1, 1, 0, 0), (252, .if_icmp .ne 21, 3, 0, 0), (255, .aload_n 0, 1, 0, 0)],
  [(256, .iload 8, 2, 0, 0), (258, .iconst 3, 1, 0, 0), (259, .invokevirtual 76, 3, 166, 0), (262, .ifCond .ne 11, 3, 0, 0), (265, .aload_n 0, 1, 0, 0), (266, .iload 8, 2, 0, 0), (268, .iconst 3, 1, 0, 0), (269, .iconst 1, 1, 0, 0), (270, .invokevirtual 148, 3, 167, 0)],
  [(273, .iinc 8 1, 3, 0, 0), (276, .goto (-66), 3, 0, 0), (279, .iconst 0, 1, 0, 0), (280, .istore 8, 2, 0, 0), (282, .iload 8, 2, 0, 0), (284, .iload 4, 2, 0, 0), (286, .if_icmp .ge 40, 3, 0, 0)],
  [(289, .aload_n 0, 1, 0, 0), (290, .iload 8, 2, 0, 0), (292, .iload_n 3, 1, 0, 0), (293, .iload 8, 2, 0, 0), (295, .ishr, 1, 0, 0), (296, .iconst 1, 1, 0, 0), (297, .iand, 1, 0, 0), (298, .iconst 1, 1, 0, 0), (299, .if_icmp .ne 17, 3, 0, 0), (302, .aload_n 0, 1, 0, 0), (303, .iload 8, 2, 0, 0)],
  [(305, .iconst 3, 1, 0, 0), (306, .invokevirtual 76, 3, 166, 0), (309, .ifCond .eq 7, 3, 0, 0), (312, .iconst 1, 1, 0, 0), (313, .goto 4, 3, 0, 0), (316, .iconst 0, 1, 0, 0), (317, .invokevirtual 171, 3, 185, 0)],
  [(320, .iinc 8 1, 3, 0, 0), (323, .goto (-41), 3, 0, 0), (326, .return_, 1, 0, 0)]]
def rX9_marks : xM := (⟨"PulledSignalsModel", "marks", "(II)V"⟩, prog_11_method_27_code, tX9_marks, 9, 11, none, 2, 0, 1290, 1289, 100077, 8)
theorem ok_rX9_marks : xMok rX9_marks = true := by decide +kernel
def tX9_disposesOwn : List (List xEnt) := [[(0, .aload_n 0, 1, 0, 0), (1, .getfield 9, 3, 9, 0), (4, .sipush 6768, 3, 0, 0), (7, .iaload, 1, 0, 0), (8, .iconst 1, 1, 0, 0), (9, .isub, 1, 0, 0), (10, .istore_n 2, 1, 0, 0), (11, .iload_n 2, 1, 0, 0), (12, .ifCond .lt 33, 3, 0, 0), (15, .aload_n 0, 1, 0, 0)],
  [(16, .iload_n 2, 1, 0, 0), (17, .iconst 1, 1, 0, 0), (18, .invokevirtual 76, 3, 166, 0), (21, .iload_n 1, 1, 0, 0), (22, .if_icmp .ne 17, 3, 0, 0), (25, .aload_n 0, 1, 0, 0), (26, .iload_n 2, 1, 0, 0), (27, .iconst 2, 1, 0, 0), (28, .invokevirtual 76, 3, 166, 0), (31, .ifCond .ne 8, 3, 0, 0)],
  [(34, .aload_n 0, 1, 0, 0), (35, .iload_n 2, 1, 0, 0), (36, .invokevirtual 179, 3, 190, 0), (39, .iinc 2 (-1), 3, 0, 0), (42, .goto (-31), 3, 0, 0), (45, .return_, 1, 0, 0)]]
def rX9_disposesOwn : xM := (⟨"PulledSignalsModel", "disposesOwn", "(I)V"⟩, prog_11_method_28_code, tX9_disposesOwn, 9, 3, none, 1, 0, 1282, 1281, 100075, 8)
theorem ok_rX9_disposesOwn : xMok rX9_disposesOwn = true := by decide +kernel
def tX9_disposes : List (List xEnt) := [[(0, .aload_n 0, 1, 0, 0), (1, .iload_n 1, 1, 0, 0), (2, .invokevirtual 161, 3, 189, 0), (5, .aload_n 0, 1, 0, 0), (6, .iload_n 1, 1, 0, 0), (7, .iconst 2, 1, 0, 0), (8, .iconst 1, 1, 0, 0), (9, .invokevirtual 148, 3, 167, 0), (12, .aload_n 0, 1, 0, 0), (13, .iload_n 1, 1, 0, 0), (14, .invokevirtual 182, 3, 187, 0)],
  [(17, .aload_n 0, 1, 0, 0), (18, .iload_n 1, 1, 0, 0), (19, .iconst 3, 1, 0, 0), (20, .iconst 0, 1, 0, 0), (21, .invokevirtual 148, 3, 167, 0), (24, .aload_n 0, 1, 0, 0), (25, .getfield 9, 3, 9, 0), (28, .sipush 6856, 3, 0, 0), (31, .iaload, 1, 0, 0)],
  [(32, .istore_n 2, 1, 0, 0), (33, .iload_n 2, 1, 0, 0), (34, .bipush 60, 2, 0, 0), (36, .if_icmp .ge 14, 3, 0, 0), (39, .aload_n 0, 1, 0, 0), (40, .getfield 9, 3, 9, 0), (43, .sipush 6857, 3, 0, 0), (46, .iload_n 2, 1, 0, 0), (47, .iadd, 1, 0, 0)],
  [(48, .iload_n 1, 1, 0, 0), (49, .iastore, 1, 0, 0), (50, .aload_n 0, 1, 0, 0), (51, .getfield 9, 3, 9, 0), (54, .sipush 6856, 3, 0, 0), (57, .iload_n 2, 1, 0, 0), (58, .iconst 1, 1, 0, 0), (59, .iadd, 1, 0, 0), (60, .iastore, 1, 0, 0), (61, .aload_n 0, 1, 0, 0), (62, .dup, 1, 0, 0), (63, .getfield 185, 3, 9, 17)],
  [(66, .iconst 1, 1, 0, 0), (67, .iadd, 1, 0, 0), (68, .putfield 185, 3, 9, 17), (71, .aload_n 0, 1, 0, 0), (72, .iload_n 1, 1, 0, 0), (73, .bipush 6, 2, 0, 0), (75, .iconst 0, 1, 0, 0), (76, .invokevirtual 148, 3, 167, 0), (79, .aload_n 0, 1, 0, 0)],
  [(80, .iload_n 1, 1, 0, 0), (81, .iconst 2, 1, 0, 0), (82, .invokevirtual 188, 3, 188, 0), (85, .return_, 1, 0, 0)]]
def rX9_disposes : xM := (⟨"PulledSignalsModel", "disposes", "(I)V"⟩, prog_11_method_29_code, tX9_disposes, 9, 3, none, 1, 0, 1286, 1285, 100076, 8)
theorem ok_rX9_disposes : xMok rX9_disposes = true := by decide +kernel
def tX9_flushes : List (List xEnt) := [[(0, .iconst 0, 1, 0, 0), (1, .istore_n 1, 1, 0, 0), (2, .iload_n 1, 1, 0, 0), (3, .bipush 100, 2, 0, 0), (5, .if_icmp .ge 50, 3, 0, 0), (8, .aload_n 0, 1, 0, 0), (9, .getfield 9, 3, 9, 0), (12, .sipush 6769, 3, 0, 0), (15, .iaload, 1, 0, 0)],
  [(16, .ifCond .ne 39, 3, 0, 0), (19, .aload_n 0, 1, 0, 0), (20, .getfield 9, 3, 9, 0), (23, .sipush 6770, 3, 0, 0), (26, .iaload, 1, 0, 0), (27, .ifCond .le 28, 3, 0, 0), (30, .aload_n 0, 1, 0, 0), (31, .getfield 9, 3, 9, 0)],
  [(34, .sipush 6771, 3, 0, 0), (37, .iaload, 1, 0, 0), (38, .istore_n 2, 1, 0, 0), (39, .aload_n 0, 1, 0, 0), (40, .iload_n 2, 1, 0, 0), (41, .invokevirtual 182, 3, 187, 0), (44, .aload_n 0, 1, 0, 0), (45, .iload_n 2, 1, 0, 0), (46, .invokevirtual 154, 3, 182, 0)],
  [(49, .iinc 1 1, 3, 0, 0), (52, .goto (-50), 3, 0, 0), (55, .return_, 1, 0, 0)]]
def rX9_flushes : xM := (⟨"PulledSignalsModel", "flushes", "()V"⟩, prog_11_method_30_code, tX9_flushes, 9, 3, none, 0, 0, 1266, 1265, 100071, 8)
theorem ok_rX9_flushes : xMok rX9_flushes = true := by decide +kernel
def tX9_plainBy : List (List xEnt) := [[(0, .aload_n 0, 1, 0, 0), (1, .iload_n 1, 1, 0, 0), (2, .iconst 2, 1, 0, 0), (3, .invokevirtual 76, 3, 166, 0), (6, .iconst 1, 1, 0, 0), (7, .if_icmp .eq 23, 3, 0, 0), (10, .aload_n 0, 1, 0, 0), (11, .iload_n 1, 1, 0, 0), (12, .iconst 0, 1, 0, 0), (13, .invokevirtual 76, 3, 166, 0)],
  [(16, .iconst 4, 1, 0, 0), (17, .if_icmp .eq 13, 3, 0, 0), (20, .aload_n 0, 1, 0, 0), (21, .iload_n 1, 1, 0, 0), (22, .iconst 0, 1, 0, 0), (23, .invokevirtual 76, 3, 166, 0), (26, .iconst 5, 1, 0, 0), (27, .if_icmp .ne 7, 3, 0, 0), (30, .ldc2_w 142, 3, 14, 0)],
  [(33, .lreturn, 1, 0, 0), (34, .aload_n 0, 1, 0, 0), (35, .iload_n 1, 1, 0, 0), (36, .invokevirtual 192, 3, 193, 0), (39, .lreturn, 1, 0, 0)]]
def rX9_plainBy : xM := (⟨"PulledSignalsModel", "plainBy", "(I)J"⟩, prog_11_method_31_code, tX9_plainBy, 9, 2, (some Jvm.ClassFile.FieldType.long), 1, 0, 1328, 1327, 100086, 8)
theorem ok_rX9_plainBy : xMok rX9_plainBy = true := by decide +kernel
def tX9_plainOf : List (List xEnt) := [[(0, .aload_n 0, 1, 0, 0), (1, .iload_n 1, 1, 0, 0), (2, .iconst 0, 1, 0, 0), (3, .invokevirtual 76, 3, 166, 0), (6, .iconst 1, 1, 0, 0), (7, .if_icmp .ne 26, 3, 0, 0), (10, .iload_n 1, 1, 0, 0), (11, .aload_n 0, 1, 0, 0), (12, .getfield 195, 3, 9, 20), (15, .if_icmp .ne 11, 3, 0, 0)],
  [(18, .aload_n 0, 1, 0, 0), (19, .getfield 198, 3, 9, 21), (22, .i2l, 1, 0, 0), (23, .goto 9, 3, 0, 0), (26, .aload_n 0, 1, 0, 0), (27, .getfield 13, 3, 9, 1), (30, .iload_n 1, 1, 0, 0), (31, .laload, 1, 0, 0)],
  [(32, .lreturn, 1, 0, 0), (33, .aload_n 0, 1, 0, 0), (34, .getfield 48, 3, 9, 18), (37, .iload_n 1, 1, 0, 0), (38, .iaload, 1, 0, 0), (39, .ifCond .ne 28, 3, 0, 0), (42, .aload_n 0, 1, 0, 0), (43, .getfield 48, 3, 9, 18), (46, .iload_n 1, 1, 0, 0), (47, .iconst 1, 1, 0, 0)],
  [(48, .iastore, 1, 0, 0), (49, .aload_n 0, 1, 0, 0), (50, .getfield 51, 3, 9, 19), (53, .iload_n 1, 1, 0, 0), (54, .aload_n 0, 1, 0, 0), (55, .iload_n 1, 1, 0, 0), (56, .invokevirtual 164, 3, 179, 0), (59, .lastore, 1, 0, 0), (60, .aload_n 0, 1, 0, 0), (61, .getfield 48, 3, 9, 18)],
  [(64, .iload_n 1, 1, 0, 0), (65, .iconst 2, 1, 0, 0), (66, .iastore, 1, 0, 0), (67, .aload_n 0, 1, 0, 0), (68, .getfield 48, 3, 9, 18), (71, .iload_n 1, 1, 0, 0), (72, .iaload, 1, 0, 0), (73, .iconst 1, 1, 0, 0), (74, .if_icmp .ne 9, 3, 0, 0), (77, .ldc2_w 152, 3, 15, 0)],
  [(80, .goto 9, 3, 0, 0), (83, .aload_n 0, 1, 0, 0), (84, .getfield 51, 3, 9, 19), (87, .iload_n 1, 1, 0, 0), (88, .laload, 1, 0, 0), (89, .lreturn, 1, 0, 0)]]
def rX9_plainOf : xM := (⟨"PulledSignalsModel", "plainOf", "(I)J"⟩, prog_11_method_32_code, tX9_plainOf, 9, 2, (some Jvm.ClassFile.FieldType.long), 1, 0, 1332, 1331, 100087, 8)
theorem ok_rX9_plainOf : xMok rX9_plainOf = true := by decide +kernel
def tX9_plainly : List (List xEnt) := [[(0, .iconst 0, 1, 0, 0), (1, .istore 4, 2, 0, 0), (3, .iload 4, 2, 0, 0), (5, .bipush 24, 2, 0, 0), (7, .if_icmp .ge 17, 3, 0, 0), (10, .aload_n 0, 1, 0, 0), (11, .getfield 48, 3, 9, 18), (14, .iload 4, 2, 0, 0)],
  [(16, .iconst 0, 1, 0, 0), (17, .iastore, 1, 0, 0), (18, .iinc 4 1, 3, 0, 0), (21, .goto (-18), 3, 0, 0), (24, .aload_n 0, 1, 0, 0), (25, .iload_n 2, 1, 0, 0), (26, .putfield 195, 3, 9, 20), (29, .aload_n 0, 1, 0, 0), (30, .iload_n 3, 1, 0, 0), (31, .putfield 198, 3, 9, 21)],
  [(34, .aload_n 0, 1, 0, 0), (35, .iconst 1, 1, 0, 0), (36, .putfield 132, 3, 9, 13), (39, .aload_n 0, 1, 0, 0), (40, .iload_n 1, 1, 0, 0), (41, .invokevirtual 192, 3, 193, 0), (44, .lstore 4, 2, 0, 0), (46, .aload_n 0, 1, 0, 0), (47, .iconst 0, 1, 0, 0)],
  [(48, .putfield 132, 3, 9, 13), (51, .lload 4, 2, 0, 0), (53, .lreturn, 1, 0, 0)]]
def rX9_plainly : xM := (⟨"PulledSignalsModel", "plainly", "(III)J"⟩, prog_11_method_33_code, tX9_plainly, 9, 6, (some Jvm.ClassFile.FieldType.long), 3, 0, 1427, 1426, 100097, 8)
theorem ok_rX9_plainly : xMok rX9_plainly = true := by decide +kernel
def tX9_byteAt : List (List xEnt) := [[(0, .iload_n 1, 1, 0, 0), (1, .aload_n 0, 1, 0, 0), (2, .getfield 201, 3, 9, 12), (5, .if_icmp .ge 12, 3, 0, 0), (8, .aload_n 0, 1, 0, 0), (9, .getfield 42, 3, 9, 11), (12, .iload_n 1, 1, 0, 0), (13, .iaload, 1, 0, 0), (14, .goto 4, 3, 0, 0)],
  [(17, .iconst (-1), 1, 0, 0), (18, .ireturn, 1, 0, 0)]]
def rX9_byteAt : xM := (⟨"PulledSignalsModel", "byteAt", "(I)I"⟩, prog_11_method_34_code, tX9_byteAt, 9, 2, (some Jvm.ClassFile.FieldType.int), 1, 0, 1236, 1235, 100064, 8)
theorem ok_rX9_byteAt : xMok rX9_byteAt = true := by decide +kernel
def tX9_sign : List (List xEnt) := [[(0, .aload_n 0, 1, 0, 0), (1, .aload_n 0, 1, 0, 0), (2, .getfield 204, 3, 9, 22), (5, .invokevirtual 207, 3, 195, 0), (8, .iload_n 1, 1, 0, 0), (9, .if_icmp .eq 5, 3, 0, 0), (12, .iconst 0, 1, 0, 0), (13, .ireturn, 1, 0, 0), (14, .aload_n 0, 1, 0, 0), (15, .dup, 1, 0, 0)],
  [(16, .getfield 204, 3, 9, 22), (19, .iconst 1, 1, 0, 0), (20, .iadd, 1, 0, 0), (21, .putfield 204, 3, 9, 22), (24, .iconst 1, 1, 0, 0), (25, .ireturn, 1, 0, 0)]]
def rX9_sign : xM := (⟨"PulledSignalsModel", "sign", "(I)Z"⟩, prog_11_method_35_code, tX9_sign, 9, 2, (some Jvm.ClassFile.FieldType.boolean), 1, 0, 1246, 1245, 100066, 8)
theorem ok_rX9_sign : xMok rX9_sign = true := by decide +kernel
def tX9_isComp : List (List xEnt) := [[(0, .aload_n 0, 1, 0, 0), (1, .invokevirtual 210, 3, 198, 0), (4, .ifCond .ne 5, 3, 0, 0), (7, .iconst 0, 1, 0, 0), (8, .ireturn, 1, 0, 0), (9, .aload_n 0, 1, 0, 0), (10, .aload_n 0, 1, 0, 0), (11, .getfield 204, 3, 9, 22), (14, .invokevirtual 207, 3, 195, 0)],
  [(17, .istore_n 1, 1, 0, 0), (18, .iload_n 1, 1, 0, 0), (19, .bipush 60, 2, 0, 0), (21, .if_icmp .eq 17, 3, 0, 0), (24, .iload_n 1, 1, 0, 0), (25, .bipush 61, 2, 0, 0), (27, .if_icmp .eq 11, 3, 0, 0), (30, .iload_n 1, 1, 0, 0), (31, .bipush 62, 2, 0, 0)],
  [(33, .if_icmp .eq 5, 3, 0, 0), (36, .iconst 1, 1, 0, 0), (37, .ireturn, 1, 0, 0), (38, .aload_n 0, 1, 0, 0), (39, .dup, 1, 0, 0), (40, .getfield 204, 3, 9, 22), (43, .iconst 1, 1, 0, 0), (44, .iadd, 1, 0, 0), (45, .putfield 204, 3, 9, 22)],
  [(48, .aload_n 0, 1, 0, 0), (49, .invokevirtual 210, 3, 198, 0), (52, .ireturn, 1, 0, 0)]]
def rX9_isComp : xM := (⟨"PulledSignalsModel", "isComp", "()Z"⟩, prog_11_method_36_code, tX9_isComp, 9, 2, (some Jvm.ClassFile.FieldType.boolean), 0, 0, 1220, 1219, 100060, 8)
theorem ok_rX9_isComp : xMok rX9_isComp = true := by decide +kernel
def tX9_isSum : List (List xEnt) := [[(0, .aload_n 0, 1, 0, 0), (1, .invokevirtual 214, 3, 199, 0), (4, .istore_n 1, 1, 0, 0), (5, .iload_n 1, 1, 0, 0), (6, .ifCond .eq 47, 3, 0, 0), (9, .aload_n 0, 1, 0, 0), (10, .aload_n 0, 1, 0, 0), (11, .getfield 204, 3, 9, 22), (14, .invokevirtual 207, 3, 195, 0)],
  [(17, .bipush 43, 2, 0, 0), (19, .if_icmp .eq 16, 3, 0, 0), (22, .aload_n 0, 1, 0, 0), (23, .aload_n 0, 1, 0, 0), (24, .getfield 204, 3, 9, 22), (27, .invokevirtual 207, 3, 195, 0), (30, .bipush 45, 2, 0, 0)],
  [(32, .if_icmp .ne 21, 3, 0, 0), (35, .aload_n 0, 1, 0, 0), (36, .dup, 1, 0, 0), (37, .getfield 204, 3, 9, 22), (40, .iconst 1, 1, 0, 0), (41, .iadd, 1, 0, 0), (42, .putfield 204, 3, 9, 22), (45, .aload_n 0, 1, 0, 0), (46, .invokevirtual 214, 3, 199, 0)],
  [(49, .istore_n 1, 1, 0, 0), (50, .goto (-45), 3, 0, 0), (53, .iload_n 1, 1, 0, 0), (54, .ireturn, 1, 0, 0)]]
def rX9_isSum : xM := (⟨"PulledSignalsModel", "isSum", "()Z"⟩, prog_11_method_37_code, tX9_isSum, 9, 2, (some Jvm.ClassFile.FieldType.boolean), 0, 0, 1224, 1223, 100061, 8)
theorem ok_rX9_isSum : xMok rX9_isSum = true := by decide +kernel
def tX9_isTerm : List (List xEnt) := [[(0, .aload_n 0, 1, 0, 0), (1, .invokevirtual 217, 3, 201, 0), (4, .istore_n 1, 1, 0, 0), (5, .iload_n 1, 1, 0, 0), (6, .ifCond .eq 60, 3, 0, 0), (9, .aload_n 0, 1, 0, 0), (10, .aload_n 0, 1, 0, 0), (11, .getfield 204, 3, 9, 22), (14, .invokevirtual 207, 3, 195, 0)],
  [(17, .bipush 42, 2, 0, 0), (19, .if_icmp .eq 29, 3, 0, 0), (22, .aload_n 0, 1, 0, 0), (23, .aload_n 0, 1, 0, 0), (24, .getfield 204, 3, 9, 22), (27, .invokevirtual 207, 3, 195, 0), (30, .bipush 47, 2, 0, 0)],
  [(32, .if_icmp .eq 16, 3, 0, 0), (35, .aload_n 0, 1, 0, 0), (36, .aload_n 0, 1, 0, 0), (37, .getfield 204, 3, 9, 22), (40, .invokevirtual 207, 3, 195, 0), (43, .bipush 37, 2, 0, 0), (45, .if_icmp .ne 21, 3, 0, 0)],
  [(48, .aload_n 0, 1, 0, 0), (49, .dup, 1, 0, 0), (50, .getfield 204, 3, 9, 22), (53, .iconst 1, 1, 0, 0), (54, .iadd, 1, 0, 0), (55, .putfield 204, 3, 9, 22), (58, .aload_n 0, 1, 0, 0), (59, .invokevirtual 217, 3, 201, 0), (62, .istore_n 1, 1, 0, 0), (63, .goto (-58), 3, 0, 0)],
  [(66, .iload_n 1, 1, 0, 0), (67, .ireturn, 1, 0, 0)]]
def rX9_isTerm : xM := (⟨"PulledSignalsModel", "isTerm", "()Z"⟩, prog_11_method_38_code, tX9_isTerm, 9, 2, (some Jvm.ClassFile.FieldType.boolean), 0, 0, 1228, 1227, 100062, 8)
theorem ok_rX9_isTerm : xMok rX9_isTerm = true := by decide +kernel
def tX9_isLetter : List (List xEnt) := [[(0, .aload_n 0, 1, 0, 0), (1, .aload_n 0, 1, 0, 0), (2, .getfield 204, 3, 9, 22), (5, .invokevirtual 207, 3, 195, 0), (8, .istore_n 1, 1, 0, 0), (9, .iload_n 1, 1, 0, 0), (10, .i2l, 1, 0, 0), (11, .ldc2_w 113, 3, 12, 0), (14, .ldc2_w 115, 3, 13, 0)],
  [(17, .invokestatic 72, 3, 163, 2), (20, .ifCond .eq 14, 3, 0, 0), (23, .aload_n 0, 1, 0, 0), (24, .iload_n 1, 1, 0, 0), (25, .bipush 97, 2, 0, 0), (27, .isub, 1, 0, 0), (28, .invokevirtual 220, 3, 168, 0), (31, .ifCond .ne 5, 3, 0, 0)],
  [(34, .iconst 0, 1, 0, 0), (35, .ireturn, 1, 0, 0), (36, .aload_n 0, 1, 0, 0), (37, .dup, 1, 0, 0), (38, .getfield 204, 3, 9, 22), (41, .iconst 1, 1, 0, 0), (42, .iadd, 1, 0, 0), (43, .putfield 204, 3, 9, 22), (46, .iconst 1, 1, 0, 0), (47, .ireturn, 1, 0, 0)]]
def rX9_isLetter : xM := (⟨"PulledSignalsModel", "isLetter", "()Z"⟩, prog_11_method_39_code, tX9_isLetter, 9, 2, (some Jvm.ClassFile.FieldType.boolean), 0, 0, 1242, 1241, 100065, 8)
theorem ok_rX9_isLetter : xMok rX9_isLetter = true := by decide +kernel
def tX9_isPart : List (List xEnt) := [[(0, .aload_n 0, 1, 0, 0), (1, .aload_n 0, 1, 0, 0), (2, .getfield 204, 3, 9, 22), (5, .invokevirtual 207, 3, 195, 0), (8, .istore_n 1, 1, 0, 0), (9, .iload_n 1, 1, 0, 0), (10, .i2l, 1, 0, 0), (11, .ldc2_w 109, 3, 10, 0), (14, .ldc2_w 111, 3, 11, 0)],
  [(17, .invokestatic 72, 3, 163, 2), (20, .ifCond .eq 74, 3, 0, 0), (23, .iconst 0, 1, 0, 0), (24, .istore_n 2, 1, 0, 0), (25, .iload_n 2, 1, 0, 0), (26, .iconst 3, 1, 0, 0), (27, .if_icmp .ge 40, 3, 0, 0), (30, .aload_n 0, 1, 0, 0), (31, .aload_n 0, 1, 0, 0)],
  [(32, .getfield 204, 3, 9, 22), (35, .invokevirtual 207, 3, 195, 0), (38, .i2l, 1, 0, 0), (39, .ldc2_w 109, 3, 10, 0), (42, .ldc2_w 111, 3, 11, 0), (45, .invokestatic 72, 3, 163, 2)],
  [(48, .ifCond .eq 19, 3, 0, 0), (51, .aload_n 0, 1, 0, 0), (52, .dup, 1, 0, 0), (53, .getfield 204, 3, 9, 22), (56, .iconst 1, 1, 0, 0), (57, .iadd, 1, 0, 0), (58, .putfield 204, 3, 9, 22), (61, .iinc 2 1, 3, 0, 0)],
  [(64, .goto (-39), 3, 0, 0), (67, .aload_n 0, 1, 0, 0), (68, .aload_n 0, 1, 0, 0), (69, .getfield 204, 3, 9, 22), (72, .invokevirtual 207, 3, 195, 0), (75, .i2l, 1, 0, 0), (76, .ldc2_w 109, 3, 10, 0), (79, .ldc2_w 111, 3, 11, 0)],
  [(82, .invokestatic 72, 3, 163, 2), (85, .ifCond .ne 7, 3, 0, 0), (88, .iconst 1, 1, 0, 0), (89, .goto 4, 3, 0, 0), (92, .iconst 0, 1, 0, 0), (93, .ireturn, 1, 0, 0), (94, .iload_n 1, 1, 0, 0), (95, .i2l, 1, 0, 0)],
  [(96, .ldc2_w 113, 3, 12, 0), (99, .ldc2_w 115, 3, 13, 0), (102, .invokestatic 72, 3, 163, 2), (105, .ifCond .eq 8, 3, 0, 0), (108, .aload_n 0, 1, 0, 0), (109, .invokevirtual 223, 3, 200, 0)],
  [(112, .ireturn, 1, 0, 0), (113, .iload_n 1, 1, 0, 0), (114, .bipush 126, 2, 0, 0), (116, .if_icmp .eq 29, 3, 0, 0), (119, .iload_n 1, 1, 0, 0), (120, .bipush 45, 2, 0, 0), (122, .if_icmp .eq 23, 3, 0, 0), (125, .iload_n 1, 1, 0, 0), (126, .bipush 40, 2, 0, 0)],
  [(128, .if_icmp .eq 17, 3, 0, 0), (131, .iload_n 1, 1, 0, 0), (132, .bipush 91, 2, 0, 0), (134, .if_icmp .eq 11, 3, 0, 0), (137, .iload_n 1, 1, 0, 0), (138, .bipush 94, 2, 0, 0), (140, .if_icmp .eq 5, 3, 0, 0), (143, .iconst 0, 1, 0, 0)],
  [(144, .ireturn, 1, 0, 0), (145, .aload_n 0, 1, 0, 0), (146, .dup, 1, 0, 0), (147, .getfield 204, 3, 9, 22), (150, .iconst 1, 1, 0, 0), (151, .iadd, 1, 0, 0), (152, .putfield 204, 3, 9, 22), (155, .iload_n 1, 1, 0, 0), (156, .bipush 126, 2, 0, 0), (158, .if_icmp .ne 8, 3, 0, 0)],
  [(161, .aload_n 0, 1, 0, 0), (162, .invokevirtual 223, 3, 200, 0), (165, .ireturn, 1, 0, 0), (166, .iload_n 1, 1, 0, 0), (167, .bipush 45, 2, 0, 0), (169, .if_icmp .ne 8, 3, 0, 0), (172, .aload_n 0, 1, 0, 0), (173, .invokevirtual 217, 3, 201, 0)],
  [(176, .ireturn, 1, 0, 0), (177, .iload_n 1, 1, 0, 0), (178, .bipush 40, 2, 0, 0), (180, .if_icmp .ne 25, 3, 0, 0), (183, .aload_n 0, 1, 0, 0), (184, .invokevirtual 226, 3, 197, 0), (187, .ifCond .eq 16, 3, 0, 0), (190, .aload_n 0, 1, 0, 0), (191, .bipush 41, 2, 0, 0)],
  [(193, .invokevirtual 229, 3, 196, 0), (196, .ifCond .eq 7, 3, 0, 0), (199, .iconst 1, 1, 0, 0), (200, .goto 4, 3, 0, 0), (203, .iconst 0, 1, 0, 0), (204, .ireturn, 1, 0, 0), (205, .iload_n 1, 1, 0, 0), (206, .bipush 91, 2, 0, 0)],
  [(208, .if_icmp .ne 57, 3, 0, 0), (211, .aload_n 0, 1, 0, 0), (212, .invokevirtual 226, 3, 197, 0), (215, .ifCond .eq 48, 3, 0, 0), (218, .aload_n 0, 1, 0, 0), (219, .bipush 63, 2, 0, 0), (221, .invokevirtual 229, 3, 196, 0)],
  [(224, .ifCond .eq 39, 3, 0, 0), (227, .aload_n 0, 1, 0, 0), (228, .invokevirtual 226, 3, 197, 0), (231, .ifCond .eq 32, 3, 0, 0), (234, .aload_n 0, 1, 0, 0), (235, .bipush 58, 2, 0, 0), (237, .invokevirtual 229, 3, 196, 0)],
  [(240, .ifCond .eq 23, 3, 0, 0), (243, .aload_n 0, 1, 0, 0), (244, .invokevirtual 226, 3, 197, 0), (247, .ifCond .eq 16, 3, 0, 0), (250, .aload_n 0, 1, 0, 0), (251, .bipush 93, 2, 0, 0), (253, .invokevirtual 229, 3, 196, 0)],
  [(256, .ifCond .eq 7, 3, 0, 0), (259, .iconst 1, 1, 0, 0), (260, .goto 4, 3, 0, 0), (263, .iconst 0, 1, 0, 0), (264, .ireturn, 1, 0, 0), (265, .aload_n 0, 1, 0, 0), (266, .bipush 40, 2, 0, 0), (268, .invokevirtual 229, 3, 196, 0), (271, .ifCond .eq 39, 3, 0, 0)],
  [(274, .aload_n 0, 1, 0, 0), (275, .invokevirtual 226, 3, 197, 0), (278, .ifCond .eq 32, 3, 0, 0), (281, .aload_n 0, 1, 0, 0), (282, .bipush 44, 2, 0, 0), (284, .invokevirtual 229, 3, 196, 0), (287, .ifCond .eq 23, 3, 0, 0)],
  [(290, .aload_n 0, 1, 0, 0), (291, .invokevirtual 226, 3, 197, 0), (294, .ifCond .eq 16, 3, 0, 0), (297, .aload_n 0, 1, 0, 0), (298, .bipush 41, 2, 0, 0), (300, .invokevirtual 229, 3, 196, 0), (303, .ifCond .eq 7, 3, 0, 0)],
  [(306, .iconst 1, 1, 0, 0), (307, .goto 4, 3, 0, 0), (310, .iconst 0, 1, 0, 0), (311, .ireturn, 1, 0, 0)]]
def rX9_isPart : xM := (⟨"PulledSignalsModel", "isPart", "()Z"⟩, prog_11_method_40_code, tX9_isPart, 9, 3, (some Jvm.ClassFile.FieldType.boolean), 0, 0, 1232, 1231, 100063, 8)
theorem ok_rX9_isPart : xMok rX9_isPart = true := by decide +kernel
def tX9_faultRead : List (List xEnt) := [[(0, .aload_n 0, 1, 0, 0), (1, .iconst 0, 1, 0, 0), (2, .putfield 204, 3, 9, 22), (5, .aload_n 0, 1, 0, 0), (6, .invokevirtual 226, 3, 197, 0), (9, .ifCond .eq 18, 3, 0, 0), (12, .aload_n 0, 1, 0, 0), (13, .getfield 204, 3, 9, 22)],
  [(16, .aload_n 0, 1, 0, 0), (17, .getfield 201, 3, 9, 12), (20, .if_icmp .ne 7, 3, 0, 0), (23, .iconst 1, 1, 0, 0), (24, .goto 4, 3, 0, 0), (27, .iconst 0, 1, 0, 0), (28, .istore_n 1, 1, 0, 0), (29, .aload_n 0, 1, 0, 0), (30, .aload_n 0, 1, 0, 0), (31, .getfield 201, 3, 9, 12)],
  [(34, .putfield 232, 3, 9, 23), (37, .aload_n 0, 1, 0, 0), (38, .iconst 0, 1, 0, 0), (39, .putfield 201, 3, 9, 12), (42, .iload_n 1, 1, 0, 0), (43, .ifCond .eq 7, 3, 0, 0), (46, .iconst (-1), 1, 0, 0), (47, .goto 7, 3, 0, 0)],
  [(50, .aload_n 0, 1, 0, 0), (51, .getfield 204, 3, 9, 22), (54, .ireturn, 1, 0, 0)]]
def rX9_faultRead : xM := (⟨"PulledSignalsModel", "faultRead", "()I"⟩, prog_11_method_41_code, tX9_faultRead, 9, 2, (some Jvm.ClassFile.FieldType.int), 0, 0, 1216, 1215, 100059, 8)
theorem ok_rX9_faultRead : xMok rX9_faultRead = true := by decide +kernel
def tX9_takes : List (List xEnt) := [[(0, .aload_n 0, 1, 0, 0), (1, .iload_n 1, 1, 0, 0), (2, .bipush 31, 2, 0, 0), (4, .aload_n 0, 1, 0, 0), (5, .getfield 232, 3, 9, 23), (8, .invokevirtual 148, 3, 167, 0), (11, .iconst 0, 1, 0, 0), (12, .istore_n 2, 1, 0, 0), (13, .iload_n 2, 1, 0, 0), (14, .aload_n 0, 1, 0, 0), (15, .getfield 232, 3, 9, 23)],
  [(18, .if_icmp .ge 24, 3, 0, 0), (21, .aload_n 0, 1, 0, 0), (22, .iload_n 1, 1, 0, 0), (23, .bipush 32, 2, 0, 0), (25, .iload_n 2, 1, 0, 0), (26, .iadd, 1, 0, 0), (27, .aload_n 0, 1, 0, 0), (28, .getfield 42, 3, 9, 11), (31, .iload_n 2, 1, 0, 0)],
  [(32, .iaload, 1, 0, 0), (33, .invokevirtual 148, 3, 167, 0), (36, .iinc 2 1, 3, 0, 0), (39, .goto (-26), 3, 0, 0), (42, .return_, 1, 0, 0)]]
def rX9_takes : xM := (⟨"PulledSignalsModel", "takes", "(I)V"⟩, prog_11_method_42_code, tX9_takes, 9, 3, none, 1, 0, 1254, 1253, 100068, 8)
theorem ok_rX9_takes : xMok rX9_takes = true := by decide +kernel
def tX9_tells : List (List xEnt) := [[(0, .aload_n 0, 1, 0, 0), (1, .getfield 54, 3, 9, 24), (4, .aload_n 0, 1, 0, 0), (5, .getfield 235, 3, 9, 25), (8, .iload_n 1, 1, 0, 0), (9, .iastore, 1, 0, 0), (10, .aload_n 0, 1, 0, 0), (11, .dup, 1, 0, 0), (12, .getfield 235, 3, 9, 25), (15, .iconst 1, 1, 0, 0)],
  [(16, .iadd, 1, 0, 0), (17, .putfield 235, 3, 9, 25), (20, .return_, 1, 0, 0)]]
def rX9_tells : xM := (⟨"PulledSignalsModel", "tells", "(I)V"⟩, prog_11_method_43_code, tX9_tells, 9, 2, none, 1, 0, 1120, 1119, 100050, 8)
theorem ok_rX9_tells : xMok rX9_tells = true := by decide +kernel
def tX9_shifts : List (List xEnt) := [[(0, .aload_n 0, 1, 0, 0), (1, .getfield 235, 3, 9, 25), (4, .istore_n 3, 1, 0, 0), (5, .iload_n 3, 1, 0, 0), (6, .iload_n 1, 1, 0, 0), (7, .if_icmp .le 23, 3, 0, 0), (10, .aload_n 0, 1, 0, 0), (11, .getfield 54, 3, 9, 24), (14, .iload_n 3, 1, 0, 0), (15, .aload_n 0, 1, 0, 0)],
  [(16, .getfield 54, 3, 9, 24), (19, .iload_n 3, 1, 0, 0), (20, .iconst 1, 1, 0, 0), (21, .isub, 1, 0, 0), (22, .iaload, 1, 0, 0), (23, .iastore, 1, 0, 0), (24, .iinc 3 (-1), 3, 0, 0), (27, .goto (-22), 3, 0, 0), (30, .aload_n 0, 1, 0, 0), (31, .getfield 54, 3, 9, 24)],
  [(34, .iload_n 1, 1, 0, 0), (35, .iload_n 2, 1, 0, 0), (36, .iastore, 1, 0, 0), (37, .aload_n 0, 1, 0, 0), (38, .dup, 1, 0, 0), (39, .getfield 235, 3, 9, 25), (42, .iconst 1, 1, 0, 0), (43, .iadd, 1, 0, 0), (44, .putfield 235, 3, 9, 25), (47, .return_, 1, 0, 0)]]
def rX9_shifts : xM := (⟨"PulledSignalsModel", "shifts", "(II)V"⟩, prog_11_method_44_code, tX9_shifts, 9, 4, none, 2, 0, 1124, 1123, 100051, 8)
theorem ok_rX9_shifts : xMok rX9_shifts = true := by decide +kernel
def tX9_compTold : List (List xEnt) := [[(0, .aload_n 0, 1, 0, 0), (1, .getfield 235, 3, 9, 25), (4, .istore_n 2, 1, 0, 0), (5, .aload_n 0, 1, 0, 0), (6, .iload_n 1, 1, 0, 0), (7, .invokevirtual 238, 3, 207, 0), (10, .aload_n 0, 1, 0, 0), (11, .iload_n 1, 1, 0, 0), (12, .aload_n 0, 1, 0, 0), (13, .getfield 88, 3, 9, 16)],
  [(16, .invokevirtual 92, 3, 170, 0), (19, .istore_n 3, 1, 0, 0), (20, .iload_n 3, 1, 0, 0), (21, .bipush 60, 2, 0, 0), (23, .if_icmp .eq 15, 3, 0, 0), (26, .iload_n 3, 1, 0, 0), (27, .bipush 61, 2, 0, 0), (29, .if_icmp .eq 9, 3, 0, 0)],
  [(32, .iload_n 3, 1, 0, 0), (33, .bipush 62, 2, 0, 0), (35, .if_icmp .ne 36, 3, 0, 0), (38, .aload_n 0, 1, 0, 0), (39, .dup, 1, 0, 0), (40, .getfield 88, 3, 9, 16), (43, .iconst 1, 1, 0, 0), (44, .iadd, 1, 0, 0), (45, .putfield 88, 3, 9, 16)],
  [(48, .aload_n 0, 1, 0, 0), (49, .iload_n 2, 1, 0, 0), (50, .bipush 40, 2, 0, 0), (52, .invokevirtual 241, 3, 205, 0), (55, .aload_n 0, 1, 0, 0), (56, .iload_n 3, 1, 0, 0), (57, .invokevirtual 244, 3, 204, 0), (60, .aload_n 0, 1, 0, 0), (61, .iload_n 1, 1, 0, 0), (62, .invokevirtual 238, 3, 207, 0)],
  [(65, .aload_n 0, 1, 0, 0), (66, .bipush 41, 2, 0, 0), (68, .invokevirtual 244, 3, 204, 0), (71, .return_, 1, 0, 0)]]
def rX9_compTold : xM := (⟨"PulledSignalsModel", "compTold", "(I)V"⟩, prog_11_method_45_code, tX9_compTold, 9, 4, none, 1, 0, 1098, 1097, 100045, 8)
theorem ok_rX9_compTold : xMok rX9_compTold = true := by decide +kernel
def tX9_sumTold : List (List xEnt) := [[(0, .aload_n 0, 1, 0, 0), (1, .getfield 235, 3, 9, 25), (4, .istore_n 2, 1, 0, 0), (5, .aload_n 0, 1, 0, 0), (6, .iload_n 1, 1, 0, 0), (7, .invokevirtual 247, 3, 208, 0), (10, .aload_n 0, 1, 0, 0), (11, .iload_n 1, 1, 0, 0), (12, .aload_n 0, 1, 0, 0), (13, .getfield 88, 3, 9, 16)],
  [(16, .invokevirtual 92, 3, 170, 0), (19, .bipush 43, 2, 0, 0), (21, .if_icmp .eq 17, 3, 0, 0), (24, .aload_n 0, 1, 0, 0), (25, .iload_n 1, 1, 0, 0), (26, .aload_n 0, 1, 0, 0), (27, .getfield 88, 3, 9, 16), (30, .invokevirtual 92, 3, 170, 0)],
  [(33, .bipush 45, 2, 0, 0), (35, .if_icmp .ne 47, 3, 0, 0), (38, .aload_n 0, 1, 0, 0), (39, .iload_n 2, 1, 0, 0), (40, .bipush 40, 2, 0, 0), (42, .invokevirtual 241, 3, 205, 0), (45, .aload_n 0, 1, 0, 0), (46, .aload_n 0, 1, 0, 0), (47, .iload_n 1, 1, 0, 0)],
  [(48, .aload_n 0, 1, 0, 0), (49, .getfield 88, 3, 9, 16), (52, .invokevirtual 92, 3, 170, 0), (55, .invokevirtual 244, 3, 204, 0), (58, .aload_n 0, 1, 0, 0), (59, .dup, 1, 0, 0), (60, .getfield 88, 3, 9, 16), (63, .iconst 1, 1, 0, 0)],
  [(64, .iadd, 1, 0, 0), (65, .putfield 88, 3, 9, 16), (68, .aload_n 0, 1, 0, 0), (69, .iload_n 1, 1, 0, 0), (70, .invokevirtual 247, 3, 208, 0), (73, .aload_n 0, 1, 0, 0), (74, .bipush 41, 2, 0, 0), (76, .invokevirtual 244, 3, 204, 0), (79, .goto (-69), 3, 0, 0)],
  [(82, .return_, 1, 0, 0)]]
def rX9_sumTold : xM := (⟨"PulledSignalsModel", "sumTold", "(I)V"⟩, prog_11_method_46_code, tX9_sumTold, 9, 3, none, 1, 0, 1102, 1101, 100046, 8)
theorem ok_rX9_sumTold : xMok rX9_sumTold = true := by decide +kernel
def tX9_termTold : List (List xEnt) := [[(0, .aload_n 0, 1, 0, 0), (1, .getfield 235, 3, 9, 25), (4, .istore_n 2, 1, 0, 0), (5, .aload_n 0, 1, 0, 0), (6, .iload_n 1, 1, 0, 0), (7, .invokevirtual 250, 3, 209, 0), (10, .aload_n 0, 1, 0, 0), (11, .iload_n 1, 1, 0, 0), (12, .aload_n 0, 1, 0, 0), (13, .getfield 88, 3, 9, 16)],
  [(16, .invokevirtual 92, 3, 170, 0), (19, .bipush 42, 2, 0, 0), (21, .if_icmp .eq 31, 3, 0, 0), (24, .aload_n 0, 1, 0, 0), (25, .iload_n 1, 1, 0, 0), (26, .aload_n 0, 1, 0, 0), (27, .getfield 88, 3, 9, 16), (30, .invokevirtual 92, 3, 170, 0)],
  [(33, .bipush 47, 2, 0, 0), (35, .if_icmp .eq 17, 3, 0, 0), (38, .aload_n 0, 1, 0, 0), (39, .iload_n 1, 1, 0, 0), (40, .aload_n 0, 1, 0, 0), (41, .getfield 88, 3, 9, 16), (44, .invokevirtual 92, 3, 170, 0), (47, .bipush 37, 2, 0, 0)],
  [(49, .if_icmp .ne 47, 3, 0, 0), (52, .aload_n 0, 1, 0, 0), (53, .iload_n 2, 1, 0, 0), (54, .bipush 40, 2, 0, 0), (56, .invokevirtual 241, 3, 205, 0), (59, .aload_n 0, 1, 0, 0), (60, .aload_n 0, 1, 0, 0), (61, .iload_n 1, 1, 0, 0), (62, .aload_n 0, 1, 0, 0), (63, .getfield 88, 3, 9, 16)],
  [(66, .invokevirtual 92, 3, 170, 0), (69, .invokevirtual 244, 3, 204, 0), (72, .aload_n 0, 1, 0, 0), (73, .dup, 1, 0, 0), (74, .getfield 88, 3, 9, 16), (77, .iconst 1, 1, 0, 0), (78, .iadd, 1, 0, 0), (79, .putfield 88, 3, 9, 16)],
  [(82, .aload_n 0, 1, 0, 0), (83, .iload_n 1, 1, 0, 0), (84, .invokevirtual 250, 3, 209, 0), (87, .aload_n 0, 1, 0, 0), (88, .bipush 41, 2, 0, 0), (90, .invokevirtual 244, 3, 204, 0), (93, .goto (-83), 3, 0, 0)],
  [(96, .return_, 1, 0, 0)]]
def rX9_termTold : xM := (⟨"PulledSignalsModel", "termTold", "(I)V"⟩, prog_11_method_47_code, tX9_termTold, 9, 3, none, 1, 0, 1106, 1105, 100047, 8)
theorem ok_rX9_termTold : xMok rX9_termTold = true := by decide +kernel
def tX9_partTold : List (List xEnt) := [[(0, .aload_n 0, 1, 0, 0), (1, .iload_n 1, 1, 0, 0), (2, .aload_n 0, 1, 0, 0), (3, .getfield 88, 3, 9, 16), (6, .invokevirtual 92, 3, 170, 0), (9, .istore_n 2, 1, 0, 0), (10, .iload_n 2, 1, 0, 0), (11, .i2l, 1, 0, 0), (12, .ldc2_w 109, 3, 10, 0), (15, .ldc2_w 111, 3, 11, 0)],
  [(18, .invokestatic 72, 3, 163, 2), (21, .ifCond .eq 52, 3, 0, 0), (24, .aload_n 0, 1, 0, 0), (25, .iload_n 1, 1, 0, 0), (26, .aload_n 0, 1, 0, 0), (27, .getfield 88, 3, 9, 16), (30, .invokevirtual 92, 3, 170, 0)],
  [(33, .i2l, 1, 0, 0), (34, .ldc2_w 109, 3, 10, 0), (37, .ldc2_w 111, 3, 11, 0), (40, .invokestatic 72, 3, 163, 2), (43, .ifCond .eq 29, 3, 0, 0), (46, .aload_n 0, 1, 0, 0), (47, .aload_n 0, 1, 0, 0)],
  [(48, .iload_n 1, 1, 0, 0), (49, .aload_n 0, 1, 0, 0), (50, .getfield 88, 3, 9, 16), (53, .invokevirtual 92, 3, 170, 0), (56, .invokevirtual 244, 3, 204, 0), (59, .aload_n 0, 1, 0, 0), (60, .dup, 1, 0, 0), (61, .getfield 88, 3, 9, 16)],
  [(64, .iconst 1, 1, 0, 0), (65, .iadd, 1, 0, 0), (66, .putfield 88, 3, 9, 16), (69, .goto (-45), 3, 0, 0), (72, .return_, 1, 0, 0), (73, .aload_n 0, 1, 0, 0), (74, .dup, 1, 0, 0), (75, .getfield 88, 3, 9, 16), (78, .iconst 1, 1, 0, 0), (79, .iadd, 1, 0, 0)],
  [(80, .putfield 88, 3, 9, 16), (83, .iload_n 2, 1, 0, 0), (84, .bipush 40, 2, 0, 0), (86, .if_icmp .ne 19, 3, 0, 0), (89, .aload_n 0, 1, 0, 0), (90, .iload_n 1, 1, 0, 0), (91, .invokevirtual 253, 3, 206, 0), (94, .aload_n 0, 1, 0, 0), (95, .dup, 1, 0, 0)],
  [(96, .getfield 88, 3, 9, 16), (99, .iconst 1, 1, 0, 0), (100, .iadd, 1, 0, 0), (101, .putfield 88, 3, 9, 16), (104, .return_, 1, 0, 0), (105, .iload_n 2, 1, 0, 0), (106, .bipush 45, 2, 0, 0), (108, .if_icmp .ne 27, 3, 0, 0), (111, .aload_n 0, 1, 0, 0)],
  [(112, .bipush 40, 2, 0, 0), (114, .invokevirtual 244, 3, 204, 0), (117, .aload_n 0, 1, 0, 0), (118, .bipush 45, 2, 0, 0), (120, .invokevirtual 244, 3, 204, 0), (123, .aload_n 0, 1, 0, 0), (124, .iload_n 1, 1, 0, 0), (125, .invokevirtual 250, 3, 209, 0)],
  [(128, .aload_n 0, 1, 0, 0), (129, .bipush 41, 2, 0, 0), (131, .invokevirtual 244, 3, 204, 0), (134, .return_, 1, 0, 0), (135, .aload_n 0, 1, 0, 0), (136, .iload_n 2, 1, 0, 0), (137, .invokevirtual 244, 3, 204, 0), (140, .iload_n 2, 1, 0, 0), (141, .bipush 126, 2, 0, 0), (143, .if_icmp .ne 29, 3, 0, 0)],
  [(146, .aload_n 0, 1, 0, 0), (147, .aload_n 0, 1, 0, 0), (148, .iload_n 1, 1, 0, 0), (149, .aload_n 0, 1, 0, 0), (150, .getfield 88, 3, 9, 16), (153, .invokevirtual 92, 3, 170, 0), (156, .invokevirtual 244, 3, 204, 0), (159, .aload_n 0, 1, 0, 0)],
  [(160, .dup, 1, 0, 0), (161, .getfield 88, 3, 9, 16), (164, .iconst 1, 1, 0, 0), (165, .iadd, 1, 0, 0), (166, .putfield 88, 3, 9, 16), (169, .goto 138, 3, 0, 0), (172, .iload_n 2, 1, 0, 0), (173, .bipush 91, 2, 0, 0), (175, .if_icmp .ne 68, 3, 0, 0)],
  [(178, .aload_n 0, 1, 0, 0), (179, .iload_n 1, 1, 0, 0), (180, .invokevirtual 253, 3, 206, 0), (183, .iconst 0, 1, 0, 0), (184, .istore_n 3, 1, 0, 0), (185, .iload_n 3, 1, 0, 0), (186, .iconst 2, 1, 0, 0), (187, .if_icmp .ge 37, 3, 0, 0), (190, .aload_n 0, 1, 0, 0), (191, .aload_n 0, 1, 0, 0)],
  [(192, .iload_n 1, 1, 0, 0), (193, .aload_n 0, 1, 0, 0), (194, .getfield 88, 3, 9, 16), (197, .invokevirtual 92, 3, 170, 0), (200, .invokevirtual 244, 3, 204, 0), (203, .aload_n 0, 1, 0, 0), (204, .dup, 1, 0, 0), (205, .getfield 88, 3, 9, 16)],
  [(208, .iconst 1, 1, 0, 0), (209, .iadd, 1, 0, 0), (210, .putfield 88, 3, 9, 16), (213, .aload_n 0, 1, 0, 0), (214, .iload_n 1, 1, 0, 0), (215, .invokevirtual 253, 3, 206, 0), (218, .iinc 3 1, 3, 0, 0), (221, .goto (-36), 3, 0, 0)],
  [(224, .aload_n 0, 1, 0, 0), (225, .bipush 93, 2, 0, 0), (227, .invokevirtual 244, 3, 204, 0), (230, .aload_n 0, 1, 0, 0), (231, .dup, 1, 0, 0), (232, .getfield 88, 3, 9, 16), (235, .iconst 1, 1, 0, 0), (236, .iadd, 1, 0, 0), (237, .putfield 88, 3, 9, 16)],
  [(240, .goto 67, 3, 0, 0), (243, .iload_n 2, 1, 0, 0), (244, .bipush 94, 2, 0, 0), (246, .if_icmp .ne 61, 3, 0, 0), (249, .aload_n 0, 1, 0, 0), (250, .bipush 40, 2, 0, 0), (252, .invokevirtual 244, 3, 204, 0), (255, .aload_n 0, 1, 0, 0)],
  [(256, .dup, 1, 0, 0), (257, .getfield 88, 3, 9, 16), (260, .iconst 1, 1, 0, 0), (261, .iadd, 1, 0, 0), (262, .putfield 88, 3, 9, 16), (265, .aload_n 0, 1, 0, 0), (266, .iload_n 1, 1, 0, 0), (267, .invokevirtual 253, 3, 206, 0), (270, .aload_n 0, 1, 0, 0), (271, .bipush 44, 2, 0, 0)],
  [(273, .invokevirtual 244, 3, 204, 0), (276, .aload_n 0, 1, 0, 0), (277, .dup, 1, 0, 0), (278, .getfield 88, 3, 9, 16), (281, .iconst 1, 1, 0, 0), (282, .iadd, 1, 0, 0), (283, .putfield 88, 3, 9, 16), (286, .aload_n 0, 1, 0, 0), (287, .iload_n 1, 1, 0, 0)],
  [(288, .invokevirtual 253, 3, 206, 0), (291, .aload_n 0, 1, 0, 0), (292, .bipush 41, 2, 0, 0), (294, .invokevirtual 244, 3, 204, 0), (297, .aload_n 0, 1, 0, 0), (298, .dup, 1, 0, 0), (299, .getfield 88, 3, 9, 16), (302, .iconst 1, 1, 0, 0), (303, .iadd, 1, 0, 0)],
  [(304, .putfield 88, 3, 9, 16), (307, .return_, 1, 0, 0)]]
def rX9_partTold : xM := (⟨"PulledSignalsModel", "partTold", "(I)V"⟩, prog_11_method_48_code, tX9_partTold, 9, 4, none, 1, 0, 1110, 1109, 100048, 8)
theorem ok_rX9_partTold : xMok rX9_partTold = true := by decide +kernel
def tX9_spelled : List (List xEnt) := [[(0, .aload_n 0, 1, 0, 0), (1, .iload_n 1, 1, 0, 0), (2, .invokevirtual 220, 3, 168, 0), (5, .ifCond .eq 11, 3, 0, 0), (8, .aload_n 0, 1, 0, 0), (9, .iload_n 1, 1, 0, 0), (10, .invokevirtual 256, 3, 169, 0), (13, .ifCond .ne 10, 3, 0, 0)],
  [(16, .aload_n 0, 1, 0, 0), (17, .bipush (-2), 2, 0, 0), (19, .invokevirtual 66, 3, 164, 0), (22, .ireturn, 1, 0, 0), (23, .aload_n 0, 1, 0, 0), (24, .iconst 0, 1, 0, 0), (25, .putfield 88, 3, 9, 16), (28, .aload_n 0, 1, 0, 0), (29, .iconst 0, 1, 0, 0), (30, .putfield 235, 3, 9, 25)],
  [(33, .aload_n 0, 1, 0, 0), (34, .iload_n 1, 1, 0, 0), (35, .invokevirtual 253, 3, 206, 0), (38, .iload_n 2, 1, 0, 0), (39, .i2l, 1, 0, 0), (40, .lconst 0, 1, 0, 0), (41, .aload_n 0, 1, 0, 0), (42, .getfield 235, 3, 9, 25), (45, .iconst 1, 1, 0, 0), (46, .isub, 1, 0, 0), (47, .i2l, 1, 0, 0)],
  [(48, .invokestatic 72, 3, 163, 2), (51, .ifCond .eq 12, 3, 0, 0), (54, .aload_n 0, 1, 0, 0), (55, .getfield 54, 3, 9, 24), (58, .iload_n 2, 1, 0, 0), (59, .iaload, 1, 0, 0), (60, .goto 4, 3, 0, 0), (63, .iconst (-1), 1, 0, 0)],
  [(64, .ireturn, 1, 0, 0)]]
def rX9_spelled : xM := (⟨"PulledSignalsModel", "spelled", "(II)I"⟩, prog_11_method_49_code, tX9_spelled, 9, 3, (some Jvm.ClassFile.FieldType.int), 2, 0, 1075, 1073, 1074, 8)
theorem ok_rX9_spelled : xMok rX9_spelled = true := by decide +kernel
def tX9_isShelf : List (List xEnt) := [[(0, .iload_n 0, 1, 0, 0), (1, .i2l, 1, 0, 0), (2, .lconst 0, 1, 0, 0), (3, .ldc2_w 259, 3, 16, 0), (6, .invokestatic 72, 3, 163, 2), (9, .ireturn, 1, 0, 0)]]
def rX9_isShelf : xM := (⟨"PulledSignalsModel", "isShelf", "(I)Z"⟩, prog_11_method_50_code, tX9_isShelf, 9, 1, (some Jvm.ClassFile.FieldType.boolean), 1, 1, 1131, 1130, 200000, 8)
theorem ok_rX9_isShelf : xMok rX9_isShelf = true := by decide +kernel
def tX9_row : List (List xEnt) := [[(0, .iload_n 1, 1, 0, 0), (1, .invokestatic 261, 3, 211, 2), (4, .ifCond .eq 27, 3, 0, 0), (7, .iload_n 2, 1, 0, 0), (8, .i2l, 1, 0, 0), (9, .lconst 0, 1, 0, 0), (10, .ldc2_w 264, 3, 17, 0), (13, .invokestatic 72, 3, 163, 2)],
  [(16, .ifCond .eq 15, 3, 0, 0), (19, .iload_n 3, 1, 0, 0), (20, .i2l, 1, 0, 0), (21, .lconst 0, 1, 0, 0), (22, .ldc2_w 266, 3, 18, 0), (25, .invokestatic 72, 3, 163, 2), (28, .ifCond .ne 10, 3, 0, 0), (31, .aload_n 0, 1, 0, 0)],
  [(32, .bipush (-2), 2, 0, 0), (34, .invokevirtual 66, 3, 164, 0), (37, .ireturn, 1, 0, 0), (38, .aload_n 0, 1, 0, 0), (39, .getfield 57, 3, 9, 26), (42, .iload_n 1, 1, 0, 0), (43, .iload_n 2, 1, 0, 0), (44, .iastore, 1, 0, 0), (45, .aload_n 0, 1, 0, 0), (46, .getfield 60, 3, 9, 27)],
  [(49, .iload_n 1, 1, 0, 0), (50, .iload_n 3, 1, 0, 0), (51, .iastore, 1, 0, 0), (52, .iconst 0, 1, 0, 0), (53, .istore 4, 2, 0, 0), (55, .iload 4, 2, 0, 0), (57, .bipush 40, 2, 0, 0), (59, .if_icmp .ge 22, 3, 0, 0), (62, .aload_n 0, 1, 0, 0), (63, .getfield 63, 3, 9, 28)],
  [(66, .bipush 40, 2, 0, 0), (68, .iload_n 1, 1, 0, 0), (69, .imul, 1, 0, 0), (70, .iload 4, 2, 0, 0), (72, .iadd, 1, 0, 0), (73, .lconst 0, 1, 0, 0), (74, .lastore, 1, 0, 0), (75, .iinc 4 1, 3, 0, 0), (78, .goto (-23), 3, 0, 0)],
  [(81, .iconst 1, 1, 0, 0), (82, .ireturn, 1, 0, 0)]]
def rX9_row : xM := (⟨"PulledSignalsModel", "row", "(III)I"⟩, prog_11_method_51_code, tX9_row, 9, 5, (some Jvm.ClassFile.FieldType.int), 3, 0, 1128, 1126, 1127, 8)
theorem ok_rX9_row : xMok rX9_row = true := by decide +kernel
def tX9_lowest : List (List xEnt) := [[(0, .iload_n 0, 1, 0, 0), (1, .tableswitch 47 0 3 #[31, 36, 41, 45], 31, 0, 0)],
  [],
  [(32, .lload_n 1, 1, 0, 0), (33, .l2i, 1, 0, 0), (34, .i2b, 1, 0, 0), (35, .i2l, 1, 0, 0), (36, .lreturn, 1, 0, 0), (37, .lload_n 1, 1, 0, 0), (38, .l2i, 1, 0, 0), (39, .i2s, 1, 0, 0), (40, .i2l, 1, 0, 0), (41, .lreturn, 1, 0, 0), (42, .lload_n 1, 1, 0, 0), (43, .l2i, 1, 0, 0), (44, .i2l, 1, 0, 0), (45, .lreturn, 1, 0, 0), (46, .lload_n 1, 1, 0, 0), (47, .lreturn, 1, 0, 0)],
  [(48, .lload_n 1, 1, 0, 0), (49, .lconst 0, 1, 0, 0), (50, .lcmp, 1, 0, 0), (51, .ifCond .ne 7, 3, 0, 0), (54, .lconst 0, 1, 0, 0), (55, .goto 4, 3, 0, 0), (58, .lconst 1, 1, 0, 0), (59, .lreturn, 1, 0, 0)]]
def rX9_lowest : xM := (⟨"PulledSignalsModel", "lowest", "(IJ)J"⟩, prog_11_method_52_code, tX9_lowest, 9, 3, (some Jvm.ClassFile.FieldType.long), 2, 1, 1141, 1140, 200000, 8)
theorem ok_rX9_lowest : xMok rX9_lowest = true := by decide +kernel
def tX9_set : List (List xEnt) := [[(0, .iload_n 1, 1, 0, 0), (1, .invokestatic 261, 3, 211, 2), (4, .ifCond .ne 10, 3, 0, 0), (7, .aload_n 0, 1, 0, 0), (8, .bipush (-2), 2, 0, 0), (10, .invokevirtual 66, 3, 164, 0), (13, .ireturn, 1, 0, 0), (14, .aload_n 0, 1, 0, 0), (15, .getfield 57, 3, 9, 26)],
  [(18, .iload_n 1, 1, 0, 0), (19, .iaload, 1, 0, 0), (20, .iconst 4, 1, 0, 0), (21, .if_icmp .le 10, 3, 0, 0), (24, .aload_n 0, 1, 0, 0), (25, .bipush (-3), 2, 0, 0), (27, .invokevirtual 66, 3, 164, 0), (30, .ireturn, 1, 0, 0), (31, .aload_n 0, 1, 0, 0)],
  [(32, .getfield 57, 3, 9, 26), (35, .iload_n 1, 1, 0, 0), (36, .iaload, 1, 0, 0), (37, .ifCond .ge 10, 3, 0, 0), (40, .aload_n 0, 1, 0, 0), (41, .bipush (-4), 2, 0, 0), (43, .invokevirtual 66, 3, 164, 0), (46, .ireturn, 1, 0, 0), (47, .iload_n 2, 1, 0, 0)],
  [(48, .i2l, 1, 0, 0), (49, .lconst 0, 1, 0, 0), (50, .aload_n 0, 1, 0, 0), (51, .getfield 60, 3, 9, 27), (54, .iload_n 1, 1, 0, 0), (55, .iaload, 1, 0, 0), (56, .iconst 1, 1, 0, 0), (57, .isub, 1, 0, 0), (58, .i2l, 1, 0, 0), (59, .invokestatic 72, 3, 163, 2), (62, .ifCond .ne 10, 3, 0, 0)],
  [(65, .aload_n 0, 1, 0, 0), (66, .bipush (-2), 2, 0, 0), (68, .invokevirtual 66, 3, 164, 0), (71, .ireturn, 1, 0, 0), (72, .aload_n 0, 1, 0, 0), (73, .getfield 63, 3, 9, 28), (76, .bipush 40, 2, 0, 0), (78, .iload_n 1, 1, 0, 0), (79, .imul, 1, 0, 0)],
  [(80, .iload_n 2, 1, 0, 0), (81, .iadd, 1, 0, 0), (82, .aload_n 0, 1, 0, 0), (83, .getfield 57, 3, 9, 26), (86, .iload_n 1, 1, 0, 0), (87, .iaload, 1, 0, 0), (88, .lload_n 3, 1, 0, 0), (89, .invokestatic 268, 3, 213, 2), (92, .lastore, 1, 0, 0), (93, .iconst 1, 1, 0, 0), (94, .ireturn, 1, 0, 0)]]
def rX9_set : xM := (⟨"PulledSignalsModel", "set", "(IIJ)I"⟩, prog_11_method_53_code, tX9_set, 9, 5, (some Jvm.ClassFile.FieldType.int), 3, 0, 1138, 1136, 1137, 8)
theorem ok_rX9_set : xMok rX9_set = true := by decide +kernel
def tX9_copy : List (List xEnt) := [[(0, .iload_n 1, 1, 0, 0), (1, .invokestatic 261, 3, 211, 2), (4, .ifCond .eq 10, 3, 0, 0), (7, .iload_n 2, 1, 0, 0), (8, .invokestatic 261, 3, 211, 2), (11, .ifCond .ne 10, 3, 0, 0), (14, .aload_n 0, 1, 0, 0), (15, .bipush (-2), 2, 0, 0)],
  [(17, .invokevirtual 66, 3, 164, 0), (20, .ireturn, 1, 0, 0), (21, .aload_n 0, 1, 0, 0), (22, .getfield 57, 3, 9, 26), (25, .iload_n 1, 1, 0, 0), (26, .iaload, 1, 0, 0), (27, .iconst 4, 1, 0, 0), (28, .if_icmp .gt 46, 3, 0, 0), (31, .aload_n 0, 1, 0, 0)],
  [(32, .getfield 57, 3, 9, 26), (35, .iload_n 2, 1, 0, 0), (36, .iaload, 1, 0, 0), (37, .iconst 4, 1, 0, 0), (38, .if_icmp .gt 36, 3, 0, 0), (41, .aload_n 0, 1, 0, 0), (42, .getfield 57, 3, 9, 26), (45, .iload_n 1, 1, 0, 0), (46, .iaload, 1, 0, 0), (47, .ifCond .lt 34, 3, 0, 0)],
  [(50, .aload_n 0, 1, 0, 0), (51, .getfield 57, 3, 9, 26), (54, .iload_n 2, 1, 0, 0), (55, .iaload, 1, 0, 0), (56, .ifCond .lt 25, 3, 0, 0), (59, .aload_n 0, 1, 0, 0), (60, .getfield 57, 3, 9, 26), (63, .iload_n 1, 1, 0, 0)],
  [(64, .iaload, 1, 0, 0), (65, .aload_n 0, 1, 0, 0), (66, .getfield 57, 3, 9, 26), (69, .iload_n 2, 1, 0, 0), (70, .iaload, 1, 0, 0), (71, .if_icmp .eq 10, 3, 0, 0), (74, .aload_n 0, 1, 0, 0), (75, .bipush (-3), 2, 0, 0), (77, .invokevirtual 66, 3, 164, 0)],
  [(80, .ireturn, 1, 0, 0), (81, .aload_n 0, 1, 0, 0), (82, .getfield 57, 3, 9, 26), (85, .iload_n 1, 1, 0, 0), (86, .iaload, 1, 0, 0), (87, .ifCond .lt 12, 3, 0, 0), (90, .aload_n 0, 1, 0, 0), (91, .getfield 57, 3, 9, 26), (94, .iload_n 2, 1, 0, 0), (95, .iaload, 1, 0, 0)],
  [(96, .ifCond .ge 10, 3, 0, 0), (99, .aload_n 0, 1, 0, 0), (100, .bipush (-4), 2, 0, 0), (102, .invokevirtual 66, 3, 164, 0), (105, .ireturn, 1, 0, 0), (106, .iload_n 3, 1, 0, 0), (107, .ifCond .lt 61, 3, 0, 0), (110, .iload 4, 2, 0, 0)],
  [(112, .ifCond .lt 56, 3, 0, 0), (115, .iload 5, 2, 0, 0), (117, .ifCond .lt 51, 3, 0, 0), (120, .iload_n 3, 1, 0, 0), (121, .aload_n 0, 1, 0, 0), (122, .getfield 60, 3, 9, 27), (125, .iload_n 1, 1, 0, 0), (126, .iaload, 1, 0, 0), (127, .if_icmp .gt 41, 3, 0, 0)],
  [(130, .iload 4, 2, 0, 0), (132, .aload_n 0, 1, 0, 0), (133, .getfield 60, 3, 9, 27), (136, .iload_n 2, 1, 0, 0), (137, .iaload, 1, 0, 0), (138, .if_icmp .gt 30, 3, 0, 0), (141, .iload 5, 2, 0, 0), (143, .aload_n 0, 1, 0, 0)],
  [(144, .getfield 60, 3, 9, 27), (147, .iload_n 1, 1, 0, 0), (148, .iaload, 1, 0, 0), (149, .iload_n 3, 1, 0, 0), (150, .isub, 1, 0, 0), (151, .if_icmp .gt 17, 3, 0, 0), (154, .iload 5, 2, 0, 0), (156, .aload_n 0, 1, 0, 0), (157, .getfield 60, 3, 9, 27)],
  [(160, .iload_n 2, 1, 0, 0), (161, .iaload, 1, 0, 0), (162, .iload 4, 2, 0, 0), (164, .isub, 1, 0, 0), (165, .if_icmp .le 10, 3, 0, 0), (168, .aload_n 0, 1, 0, 0), (169, .bipush (-2), 2, 0, 0), (171, .invokevirtual 66, 3, 164, 0), (174, .ireturn, 1, 0, 0), (175, .iconst 0, 1, 0, 0)],
  [(176, .istore 6, 2, 0, 0), (178, .iload 6, 2, 0, 0), (180, .iload 5, 2, 0, 0), (182, .if_icmp .ge 58, 3, 0, 0), (185, .iload_n 3, 1, 0, 0), (186, .iload 4, 2, 0, 0), (188, .if_icmp .ge 13, 3, 0, 0), (191, .iload 5, 2, 0, 0)],
  [(193, .iconst 1, 1, 0, 0), (194, .isub, 1, 0, 0), (195, .iload 6, 2, 0, 0), (197, .isub, 1, 0, 0), (198, .goto 5, 3, 0, 0), (201, .iload 6, 2, 0, 0), (203, .istore 7, 2, 0, 0), (205, .aload_n 0, 1, 0, 0), (206, .getfield 63, 3, 9, 28)],
  [(209, .bipush 40, 2, 0, 0), (211, .iload_n 2, 1, 0, 0), (212, .imul, 1, 0, 0), (213, .iload 4, 2, 0, 0), (215, .iadd, 1, 0, 0), (216, .iload 7, 2, 0, 0), (218, .iadd, 1, 0, 0), (219, .aload_n 0, 1, 0, 0), (220, .getfield 63, 3, 9, 28), (223, .bipush 40, 2, 0, 0)],
  [(225, .iload_n 1, 1, 0, 0), (226, .imul, 1, 0, 0), (227, .iload_n 3, 1, 0, 0), (228, .iadd, 1, 0, 0), (229, .iload 7, 2, 0, 0), (231, .iadd, 1, 0, 0), (232, .laload, 1, 0, 0), (233, .lastore, 1, 0, 0), (234, .iinc 6 1, 3, 0, 0), (237, .goto (-59), 3, 0, 0)],
  [(240, .iload 5, 2, 0, 0), (242, .ireturn, 1, 0, 0)]]
def rX9_copy : xM := (⟨"PulledSignalsModel", "copy", "(IIIII)I"⟩, prog_11_method_54_code, tX9_copy, 9, 8, (some Jvm.ClassFile.FieldType.int), 5, 0, 1145, 1143, 1144, 8)
theorem ok_rX9_copy : xMok rX9_copy = true := by decide +kernel
def tX9_element : List (List xEnt) := [[(0, .iload_n 1, 1, 0, 0), (1, .invokestatic 261, 3, 211, 2), (4, .ifCond .eq 52, 3, 0, 0), (7, .aload_n 0, 1, 0, 0), (8, .getfield 57, 3, 9, 26), (11, .iload_n 1, 1, 0, 0), (12, .iaload, 1, 0, 0), (13, .i2l, 1, 0, 0), (14, .lconst 0, 1, 0, 0), (15, .ldc2_w 264, 3, 17, 0)],
  [(18, .invokestatic 72, 3, 163, 2), (21, .ifCond .eq 35, 3, 0, 0), (24, .iload_n 2, 1, 0, 0), (25, .i2l, 1, 0, 0), (26, .lconst 0, 1, 0, 0), (27, .aload_n 0, 1, 0, 0), (28, .getfield 60, 3, 9, 27), (31, .iload_n 1, 1, 0, 0)],
  [(32, .iaload, 1, 0, 0), (33, .iconst 1, 1, 0, 0), (34, .isub, 1, 0, 0), (35, .i2l, 1, 0, 0), (36, .invokestatic 72, 3, 163, 2), (39, .ifCond .eq 17, 3, 0, 0), (42, .aload_n 0, 1, 0, 0), (43, .getfield 63, 3, 9, 28), (46, .bipush 40, 2, 0, 0)],
  [(48, .iload_n 1, 1, 0, 0), (49, .imul, 1, 0, 0), (50, .iload_n 2, 1, 0, 0), (51, .iadd, 1, 0, 0), (52, .laload, 1, 0, 0), (53, .goto 4, 3, 0, 0), (56, .lconst 0, 1, 0, 0), (57, .lreturn, 1, 0, 0)]]
def rX9_element : xM := (⟨"PulledSignalsModel", "element", "(II)J"⟩, prog_11_method_55_code, tX9_element, 9, 3, (some Jvm.ClassFile.FieldType.long), 2, 0, 1149, 1147, 1148, 8)
theorem ok_rX9_element : xMok rX9_element = true := by decide +kernel
def tX9_holds : List (List xEnt) := [[(0, .iload_n 1, 1, 0, 0), (1, .invokestatic 261, 3, 211, 2), (4, .ifCond .eq 12, 3, 0, 0), (7, .aload_n 0, 1, 0, 0), (8, .getfield 57, 3, 9, 26), (11, .iload_n 1, 1, 0, 0), (12, .iaload, 1, 0, 0), (13, .goto 4, 3, 0, 0)],
  [(16, .iconst (-1), 1, 0, 0), (17, .ireturn, 1, 0, 0)]]
def rX9_holds : xM := (⟨"PulledSignalsModel", "holds", "(I)I"⟩, prog_11_method_56_code, tX9_holds, 9, 2, (some Jvm.ClassFile.FieldType.int), 1, 0, 1153, 1151, 1152, 8)
theorem ok_rX9_holds : xMok rX9_holds = true := by decide +kernel
def tX9_show : List (List xEnt) := [[(0, .iload_n 1, 1, 0, 0), (1, .invokestatic 261, 3, 211, 2), (4, .ifCond .eq 16, 3, 0, 0), (7, .iload_n 2, 1, 0, 0), (8, .iconst (-1), 1, 0, 0), (9, .if_icmp .eq 18, 3, 0, 0), (12, .aload_n 0, 1, 0, 0), (13, .iload_n 2, 1, 0, 0), (14, .invokevirtual 220, 3, 168, 0)],
  [(17, .ifCond .ne 10, 3, 0, 0), (20, .aload_n 0, 1, 0, 0), (21, .bipush (-2), 2, 0, 0), (23, .invokevirtual 66, 3, 164, 0), (26, .ireturn, 1, 0, 0), (27, .aload_n 0, 1, 0, 0), (28, .getfield 57, 3, 9, 26), (31, .iload_n 1, 1, 0, 0)],
  [(32, .iload_n 2, 1, 0, 0), (33, .iconst (-1), 1, 0, 0), (34, .if_icmp .ne 7, 3, 0, 0), (37, .iconst (-1), 1, 0, 0), (38, .goto 7, 3, 0, 0), (41, .bipush 10, 2, 0, 0), (43, .iload_n 2, 1, 0, 0), (44, .iadd, 1, 0, 0), (45, .iastore, 1, 0, 0), (46, .iconst 1, 1, 0, 0), (47, .ireturn, 1, 0, 0)]]
def rX9_show : xM := (⟨"PulledSignalsModel", "show", "(II)I"⟩, prog_11_method_57_code, tX9_show, 9, 3, (some Jvm.ClassFile.FieldType.int), 2, 0, 1157, 1155, 1156, 8)
theorem ok_rX9_show : xMok rX9_show = true := by decide +kernel
def tX9_isUnder : List (List xEnt) := [[(0, .iload_n 2, 1, 0, 0), (1, .ifCond .eq 23, 3, 0, 0), (4, .iload_n 1, 1, 0, 0), (5, .iload_n 2, 1, 0, 0), (6, .if_icmp .eq 18, 3, 0, 0), (9, .iload_n 2, 1, 0, 0), (10, .iconst 2, 1, 0, 0), (11, .if_icmp .ne 17, 3, 0, 0), (14, .iload_n 1, 1, 0, 0), (15, .iconst 3, 1, 0, 0)],
  [(16, .if_icmp .eq 8, 3, 0, 0), (19, .iload_n 1, 1, 0, 0), (20, .iconst 4, 1, 0, 0), (21, .if_icmp .ne 7, 3, 0, 0), (24, .iconst 1, 1, 0, 0), (25, .goto 4, 3, 0, 0), (28, .iconst 0, 1, 0, 0), (29, .ireturn, 1, 0, 0)]]
def rX9_isUnder : xM := (⟨"PulledSignalsModel", "isUnder", "(II)Z"⟩, prog_11_method_58_code, tX9_isUnder, 9, 3, (some Jvm.ClassFile.FieldType.boolean), 2, 0, 1166, 1165, 100052, 8)
theorem ok_rX9_isUnder : xMok rX9_isUnder = true := by decide +kernel
def tX9_owns : List (List xEnt) := [[(0, .iconst 0, 1, 0, 0), (1, .istore_n 2, 1, 0, 0), (2, .iconst 0, 1, 0, 0), (3, .istore_n 3, 1, 0, 0), (4, .iload_n 3, 1, 0, 0), (5, .aload_n 0, 1, 0, 0), (6, .getfield 9, 3, 9, 0), (9, .sipush 6768, 3, 0, 0), (12, .iaload, 1, 0, 0), (13, .if_icmp .ge 38, 3, 0, 0)],
  [(16, .iload_n 2, 1, 0, 0), (17, .aload_n 0, 1, 0, 0), (18, .iload_n 3, 1, 0, 0), (19, .iconst 1, 1, 0, 0), (20, .invokevirtual 76, 3, 166, 0), (23, .iload_n 1, 1, 0, 0), (24, .if_icmp .ne 18, 3, 0, 0), (27, .aload_n 0, 1, 0, 0), (28, .iload_n 3, 1, 0, 0), (29, .iconst 2, 1, 0, 0), (30, .invokevirtual 76, 3, 166, 0)],
  [(33, .ifCond .ne 9, 3, 0, 0), (36, .iconst 1, 1, 0, 0), (37, .iload_n 3, 1, 0, 0), (38, .ishl, 1, 0, 0), (39, .goto 4, 3, 0, 0), (42, .iconst 0, 1, 0, 0), (43, .ior, 1, 0, 0), (44, .istore_n 2, 1, 0, 0), (45, .iinc 3 1, 3, 0, 0)],
  [(48, .goto (-44), 3, 0, 0), (51, .iload_n 2, 1, 0, 0), (52, .ireturn, 1, 0, 0)]]
def rX9_owns : xM := (⟨"PulledSignalsModel", "owns", "(I)I"⟩, prog_11_method_59_code, tX9_owns, 9, 4, (some Jvm.ClassFile.FieldType.int), 1, 0, 1170, 1169, 100053, 8)
theorem ok_rX9_owns : xMok rX9_owns = true := by decide +kernel
def tX9_says : List (List xEnt) := [[(0, .iload_n 1, 1, 0, 0), (1, .invokestatic 261, 3, 211, 2), (4, .ifCond .eq 15, 3, 0, 0), (7, .iload_n 2, 1, 0, 0), (8, .i2l, 1, 0, 0), (9, .lconst 0, 1, 0, 0), (10, .ldc2_w 272, 3, 19, 0), (13, .invokestatic 72, 3, 163, 2)],
  [(16, .ifCond .ne 10, 3, 0, 0), (19, .aload_n 0, 1, 0, 0), (20, .bipush (-2), 2, 0, 0), (22, .invokevirtual 66, 3, 164, 0), (25, .ireturn, 1, 0, 0), (26, .aload_n 0, 1, 0, 0), (27, .getfield 57, 3, 9, 26), (30, .iload_n 1, 1, 0, 0), (31, .iaload, 1, 0, 0)],
  [(32, .i2l, 1, 0, 0), (33, .lconst 0, 1, 0, 0), (34, .ldc2_w 264, 3, 17, 0), (37, .invokestatic 72, 3, 163, 2), (40, .ifCond .eq 10, 3, 0, 0), (43, .aload_n 0, 1, 0, 0), (44, .bipush (-3), 2, 0, 0), (46, .invokevirtual 66, 3, 164, 0)],
  [(49, .ireturn, 1, 0, 0), (50, .aload_n 0, 1, 0, 0), (51, .getfield 57, 3, 9, 26), (54, .iload_n 1, 1, 0, 0), (55, .iaload, 1, 0, 0), (56, .ifCond .ge 10, 3, 0, 0), (59, .aload_n 0, 1, 0, 0), (60, .bipush (-4), 2, 0, 0), (62, .invokevirtual 66, 3, 164, 0)],
  [(65, .ireturn, 1, 0, 0), (66, .aload_n 0, 1, 0, 0), (67, .getfield 57, 3, 9, 26), (70, .iload_n 1, 1, 0, 0), (71, .iaload, 1, 0, 0), (72, .bipush 10, 2, 0, 0), (74, .isub, 1, 0, 0), (75, .istore_n 3, 1, 0, 0), (76, .aload_n 0, 1, 0, 0), (77, .aload_n 0, 1, 0, 0), (78, .iload_n 3, 1, 0, 0), (79, .iconst 0, 1, 0, 0)],
  [(80, .invokevirtual 76, 3, 166, 0), (83, .iload_n 2, 1, 0, 0), (84, .invokevirtual 274, 3, 219, 0), (87, .ifCond .ne 10, 3, 0, 0), (90, .aload_n 0, 1, 0, 0), (91, .bipush (-3), 2, 0, 0), (93, .invokevirtual 66, 3, 164, 0)],
  [(96, .ireturn, 1, 0, 0), (97, .iload_n 2, 1, 0, 0), (98, .tableswitch 63 0 4 #[34, 41, 48, 41, 56], 34, 0, 0)],
  [],
  [(132, .aload_n 0, 1, 0, 0), (133, .iload_n 3, 1, 0, 0), (134, .iconst 1, 1, 0, 0), (135, .invokevirtual 76, 3, 166, 0), (138, .ireturn, 1, 0, 0), (139, .aload_n 0, 1, 0, 0), (140, .iload_n 3, 1, 0, 0), (141, .iconst 4, 1, 0, 0), (142, .invokevirtual 76, 3, 166, 0)],
  [(145, .ireturn, 1, 0, 0), (146, .aload_n 0, 1, 0, 0), (147, .iload_n 3, 1, 0, 0), (148, .bipush 6, 2, 0, 0), (150, .invokevirtual 76, 3, 166, 0), (153, .ireturn, 1, 0, 0), (154, .aload_n 0, 1, 0, 0), (155, .getfield 33, 3, 9, 8), (158, .iload_n 3, 1, 0, 0), (159, .iaload, 1, 0, 0)],
  [(160, .ireturn, 1, 0, 0), (161, .aload_n 0, 1, 0, 0), (162, .iload_n 3, 1, 0, 0), (163, .invokevirtual 277, 3, 220, 0), (166, .invokestatic 280, 3, 272, 2), (169, .ireturn, 1, 0, 0)]]
def rX9_says : xM := (⟨"PulledSignalsModel", "says", "(II)I"⟩, prog_11_method_60_code, tX9_says, 9, 4, (some Jvm.ClassFile.FieldType.int), 2, 0, 1161, 1159, 1160, 8)
theorem ok_rX9_says : xMok rX9_says = true := by decide +kernel
def tX9_feed : List (List xEnt) := [[(0, .iload_n 1, 1, 0, 0), (1, .i2l, 1, 0, 0), (2, .lconst 0, 1, 0, 0), (3, .ldc2_w 285, 3, 20, 0), (6, .invokestatic 72, 3, 163, 2), (9, .ifCond .ne 10, 3, 0, 0), (12, .aload_n 0, 1, 0, 0), (13, .bipush (-2), 2, 0, 0), (15, .invokevirtual 66, 3, 164, 0)],
  [(18, .ireturn, 1, 0, 0), (19, .aload_n 0, 1, 0, 0), (20, .getfield 201, 3, 9, 12), (23, .sipush 250, 3, 0, 0), (26, .if_icmp .ne 10, 3, 0, 0), (29, .aload_n 0, 1, 0, 0), (30, .bipush (-6), 2, 0, 0)],
  [(32, .invokevirtual 66, 3, 164, 0), (35, .ireturn, 1, 0, 0), (36, .aload_n 0, 1, 0, 0), (37, .getfield 42, 3, 9, 11), (40, .aload_n 0, 1, 0, 0), (41, .getfield 201, 3, 9, 12), (44, .iload_n 1, 1, 0, 0), (45, .iastore, 1, 0, 0), (46, .aload_n 0, 1, 0, 0), (47, .dup, 1, 0, 0)],
  [(48, .getfield 201, 3, 9, 12), (51, .iconst 1, 1, 0, 0), (52, .iadd, 1, 0, 0), (53, .putfield 201, 3, 9, 12), (56, .aload_n 0, 1, 0, 0), (57, .getfield 201, 3, 9, 12), (60, .ireturn, 1, 0, 0)]]
def rX9_feed : xM := (⟨"PulledSignalsModel", "feed", "(I)I"⟩, prog_11_method_61_code, tX9_feed, 9, 2, (some Jvm.ClassFile.FieldType.int), 1, 0, 1175, 1173, 1174, 8)
theorem ok_rX9_feed : xMok rX9_feed = true := by decide +kernel
def tX9_wipe : List (List xEnt) := [[(0, .aload_n 0, 1, 0, 0), (1, .getfield 201, 3, 9, 12), (4, .istore_n 1, 1, 0, 0), (5, .aload_n 0, 1, 0, 0), (6, .iconst 0, 1, 0, 0), (7, .putfield 201, 3, 9, 12), (10, .iload_n 1, 1, 0, 0), (11, .ireturn, 1, 0, 0)]]
def rX9_wipe : xM := (⟨"PulledSignalsModel", "wipe", "()I"⟩, prog_11_method_62_code, tX9_wipe, 9, 2, (some Jvm.ClassFile.FieldType.int), 0, 0, 1180, 1178, 1179, 8)
theorem ok_rX9_wipe : xMok rX9_wipe = true := by decide +kernel
def tX9_isOwner : List (List xEnt) := [[(0, .iload_n 1, 1, 0, 0), (1, .iconst (-1), 1, 0, 0), (2, .if_icmp .eq 40, 3, 0, 0), (5, .aload_n 0, 1, 0, 0), (6, .iload_n 1, 1, 0, 0), (7, .invokevirtual 220, 3, 168, 0), (10, .ifCond .eq 36, 3, 0, 0), (13, .aload_n 0, 1, 0, 0), (14, .iload_n 1, 1, 0, 0), (15, .iconst 2, 1, 0, 0)],
  [(16, .invokevirtual 76, 3, 166, 0), (19, .ifCond .ne 27, 3, 0, 0), (22, .aload_n 0, 1, 0, 0), (23, .iload_n 1, 1, 0, 0), (24, .iconst 0, 1, 0, 0), (25, .invokevirtual 76, 3, 166, 0), (28, .iconst 5, 1, 0, 0), (29, .if_icmp .eq 13, 3, 0, 0)],
  [(32, .aload_n 0, 1, 0, 0), (33, .iload_n 1, 1, 0, 0), (34, .iconst 0, 1, 0, 0), (35, .invokevirtual 76, 3, 166, 0), (38, .iconst 4, 1, 0, 0), (39, .if_icmp .ne 7, 3, 0, 0), (42, .iconst 1, 1, 0, 0), (43, .goto 4, 3, 0, 0), (46, .iconst 0, 1, 0, 0), (47, .ireturn, 1, 0, 0)]]
def rX9_isOwner : xM := (⟨"PulledSignalsModel", "isOwner", "(I)Z"⟩, prog_11_method_63_code, tX9_isOwner, 9, 2, (some Jvm.ClassFile.FieldType.boolean), 1, 0, 1192, 1191, 100055, 8)
theorem ok_rX9_isOwner : xMok rX9_isOwner = true := by decide +kernel
def tX9_made : List (List xEnt) := [[(0, .aload_n 0, 1, 0, 0), (1, .getfield 9, 3, 9, 0), (4, .sipush 6768, 3, 0, 0), (7, .iaload, 1, 0, 0), (8, .istore_n 3, 1, 0, 0), (9, .iconst 0, 1, 0, 0), (10, .istore 4, 2, 0, 0), (12, .iload 4, 2, 0, 0), (14, .sipush 282, 3, 0, 0)],
  [(17, .if_icmp .ge 17, 3, 0, 0), (20, .aload_n 0, 1, 0, 0), (21, .iload_n 3, 1, 0, 0), (22, .iload 4, 2, 0, 0), (24, .iconst 0, 1, 0, 0), (25, .invokevirtual 148, 3, 167, 0), (28, .iinc 4 1, 3, 0, 0), (31, .goto (-19), 3, 0, 0)],
  [(34, .aload_n 0, 1, 0, 0), (35, .iload_n 3, 1, 0, 0), (36, .iconst 0, 1, 0, 0), (37, .iload_n 1, 1, 0, 0), (38, .invokevirtual 148, 3, 167, 0), (41, .aload_n 0, 1, 0, 0), (42, .iload_n 3, 1, 0, 0), (43, .iconst 1, 1, 0, 0), (44, .iload_n 2, 1, 0, 0), (45, .invokevirtual 148, 3, 167, 0)],
  [(48, .aload_n 0, 1, 0, 0), (49, .iload_n 3, 1, 0, 0), (50, .iconst 3, 1, 0, 0), (51, .iload_n 1, 1, 0, 0), (52, .iconst 3, 1, 0, 0), (53, .if_icmp .eq 8, 3, 0, 0), (56, .iload_n 1, 1, 0, 0), (57, .iconst 4, 1, 0, 0), (58, .if_icmp .ne 7, 3, 0, 0), (61, .iconst 2, 1, 0, 0), (62, .goto 4, 3, 0, 0)],
  [(65, .iconst 0, 1, 0, 0), (66, .invokevirtual 148, 3, 167, 0), (69, .aload_n 0, 1, 0, 0), (70, .getfield 13, 3, 9, 1), (73, .iload_n 3, 1, 0, 0), (74, .lconst 0, 1, 0, 0), (75, .lastore, 1, 0, 0), (76, .aload_n 0, 1, 0, 0), (77, .getfield 33, 3, 9, 8)],
  [(80, .iload_n 3, 1, 0, 0), (81, .iconst 0, 1, 0, 0), (82, .iastore, 1, 0, 0), (83, .aload_n 0, 1, 0, 0), (84, .getfield 9, 3, 9, 0), (87, .sipush 6768, 3, 0, 0), (90, .iload_n 3, 1, 0, 0), (91, .iconst 1, 1, 0, 0), (92, .iadd, 1, 0, 0), (93, .iastore, 1, 0, 0), (94, .iload_n 3, 1, 0, 0), (95, .ireturn, 1, 0, 0)]]
def rX9_made : xM := (⟨"PulledSignalsModel", "made", "(II)I"⟩, prog_11_method_64_code, tX9_made, 9, 5, (some Jvm.ClassFile.FieldType.int), 2, 0, 1196, 1195, 100056, 8)
theorem ok_rX9_made : xMok rX9_made = true := by decide +kernel
def tX9_plainMade : List (List xEnt) := [[(0, .aload_n 0, 1, 0, 0), (1, .iload_n 2, 1, 0, 0), (2, .invokevirtual 287, 3, 224, 0), (5, .ifCond .ne 10, 3, 0, 0), (8, .aload_n 0, 1, 0, 0), (9, .bipush (-2), 2, 0, 0), (11, .invokevirtual 66, 3, 164, 0), (14, .ireturn, 1, 0, 0), (15, .aload_n 0, 1, 0, 0)],
  [(16, .getfield 9, 3, 9, 0), (19, .sipush 6768, 3, 0, 0), (22, .iaload, 1, 0, 0), (23, .bipush 24, 2, 0, 0), (25, .if_icmp .ne 10, 3, 0, 0), (28, .aload_n 0, 1, 0, 0), (29, .bipush (-6), 2, 0, 0), (31, .invokevirtual 66, 3, 164, 0)],
  [(34, .ireturn, 1, 0, 0), (35, .aload_n 0, 1, 0, 0), (36, .iload_n 1, 1, 0, 0), (37, .iload_n 2, 1, 0, 0), (38, .invokevirtual 290, 3, 225, 0), (41, .istore 4, 2, 0, 0), (43, .aload_n 0, 1, 0, 0), (44, .getfield 13, 3, 9, 1), (47, .iload 4, 2, 0, 0)],
  [(49, .iload_n 3, 1, 0, 0), (50, .i2l, 1, 0, 0), (51, .lastore, 1, 0, 0), (52, .iload 4, 2, 0, 0), (54, .ireturn, 1, 0, 0)]]
def rX9_plainMade : xM := (⟨"PulledSignalsModel", "plainMade", "(III)I"⟩, prog_11_method_65_code, tX9_plainMade, 9, 5, (some Jvm.ClassFile.FieldType.int), 3, 0, 1188, 1187, 100054, 8)
theorem ok_rX9_plainMade : xMok rX9_plainMade = true := by decide +kernel
def tX9_source : List (List xEnt) := [[(0, .aload_n 0, 1, 0, 0), (1, .iconst 1, 1, 0, 0), (2, .iload_n 2, 1, 0, 0), (3, .iload_n 1, 1, 0, 0), (4, .invokevirtual 293, 3, 226, 0), (7, .ireturn, 1, 0, 0)]]
def rX9_source : xM := (⟨"PulledSignalsModel", "source", "(II)I"⟩, prog_11_method_66_code, tX9_source, 9, 3, (some Jvm.ClassFile.FieldType.int), 2, 0, 1184, 1182, 1183, 8)
theorem ok_rX9_source : xMok rX9_source = true := by decide +kernel
def tX9_scope : List (List xEnt) := [[(0, .aload_n 0, 1, 0, 0), (1, .iconst 5, 1, 0, 0), (2, .iload_n 1, 1, 0, 0), (3, .iconst 0, 1, 0, 0), (4, .invokevirtual 293, 3, 226, 0), (7, .ireturn, 1, 0, 0)]]
def rX9_scope : xM := (⟨"PulledSignalsModel", "scope", "(I)I"⟩, prog_11_method_67_code, tX9_scope, 9, 2, (some Jvm.ClassFile.FieldType.int), 1, 0, 1204, 1202, 1203, 8)
theorem ok_rX9_scope : xMok rX9_scope = true := by decide +kernel
def tX9_faulty : List (List xEnt) := [[(0, .aload_n 0, 1, 0, 0), (1, .getfield 39, 3, 9, 10), (4, .iconst 2, 1, 0, 0), (5, .dup2, 1, 0, 0), (6, .iaload, 1, 0, 0), (7, .iconst 1, 1, 0, 0), (8, .iadd, 1, 0, 0), (9, .iastore, 1, 0, 0), (10, .sipush (-200), 3, 0, 0), (13, .iload_n 1, 1, 0, 0), (14, .isub, 1, 0, 0), (15, .ireturn, 1, 0, 0)]]
def rX9_faulty : xM := (⟨"PulledSignalsModel", "faulty", "(I)I"⟩, prog_11_method_68_code, tX9_faulty, 9, 2, (some Jvm.ClassFile.FieldType.int), 1, 0, 1250, 1249, 100067, 8)
theorem ok_rX9_faulty : xMok rX9_faulty = true := by decide +kernel
def tX9_computed : List (List xEnt) := [[(0, .aload_n 0, 1, 0, 0), (1, .iload_n 2, 1, 0, 0), (2, .invokevirtual 287, 3, 224, 0), (5, .ifCond .ne 15, 3, 0, 0), (8, .aload_n 0, 1, 0, 0), (9, .iconst 0, 1, 0, 0), (10, .putfield 201, 3, 9, 12), (13, .aload_n 0, 1, 0, 0), (14, .bipush (-2), 2, 0, 0)],
  [(16, .invokevirtual 66, 3, 164, 0), (19, .ireturn, 1, 0, 0), (20, .aload_n 0, 1, 0, 0), (21, .invokevirtual 297, 3, 202, 0), (24, .istore_n 3, 1, 0, 0), (25, .iload_n 3, 1, 0, 0), (26, .ifCond .lt 9, 3, 0, 0), (29, .aload_n 0, 1, 0, 0), (30, .iload_n 3, 1, 0, 0), (31, .invokevirtual 301, 3, 229, 0)],
  [(34, .ireturn, 1, 0, 0), (35, .aload_n 0, 1, 0, 0), (36, .getfield 9, 3, 9, 0), (39, .sipush 6768, 3, 0, 0), (42, .iaload, 1, 0, 0), (43, .bipush 24, 2, 0, 0), (45, .if_icmp .ne 10, 3, 0, 0)],
  [(48, .aload_n 0, 1, 0, 0), (49, .bipush (-6), 2, 0, 0), (51, .invokevirtual 66, 3, 164, 0), (54, .ireturn, 1, 0, 0), (55, .aload_n 0, 1, 0, 0), (56, .iload_n 1, 1, 0, 0), (57, .iload_n 2, 1, 0, 0), (58, .invokevirtual 290, 3, 225, 0), (61, .istore 4, 2, 0, 0), (63, .aload_n 0, 1, 0, 0)],
  [(64, .iload 4, 2, 0, 0), (66, .invokevirtual 304, 3, 203, 0), (69, .iload_n 1, 1, 0, 0), (70, .iconst 4, 1, 0, 0), (71, .if_icmp .ne 14, 3, 0, 0), (74, .aload_n 0, 1, 0, 0), (75, .iload 4, 2, 0, 0), (77, .iconst 1, 1, 0, 0), (78, .invokevirtual 171, 3, 185, 0)],
  [(81, .aload_n 0, 1, 0, 0), (82, .invokevirtual 307, 3, 191, 0), (85, .iload 4, 2, 0, 0), (87, .ireturn, 1, 0, 0)]]
def rX9_computed : xM := (⟨"PulledSignalsModel", "computed", "(II)I"⟩, prog_11_method_69_code, tX9_computed, 9, 5, (some Jvm.ClassFile.FieldType.int), 2, 0, 1212, 1211, 100058, 8)
theorem ok_rX9_computed : xMok rX9_computed = true := by decide +kernel
def tX9_memo : List (List xEnt) := [[(0, .aload_n 0, 1, 0, 0), (1, .iconst 3, 1, 0, 0), (2, .iload_n 1, 1, 0, 0), (3, .invokevirtual 310, 3, 230, 0), (6, .ireturn, 1, 0, 0)]]
def rX9_memo : xM := (⟨"PulledSignalsModel", "memo", "(I)I"⟩, prog_11_method_70_code, tX9_memo, 9, 2, (some Jvm.ClassFile.FieldType.int), 1, 0, 1208, 1206, 1207, 8)
theorem ok_rX9_memo : xMok rX9_memo = true := by decide +kernel
def tX9_effect : List (List xEnt) := [[(0, .aload_n 0, 1, 0, 0), (1, .iconst 4, 1, 0, 0), (2, .iload_n 1, 1, 0, 0), (3, .invokevirtual 310, 3, 230, 0), (6, .ireturn, 1, 0, 0)]]
def rX9_effect : xM := (⟨"PulledSignalsModel", "effect", "(I)I"⟩, prog_11_method_71_code, tX9_effect, 9, 2, (some Jvm.ClassFile.FieldType.int), 1, 0, 1353, 1351, 1352, 8)
theorem ok_rX9_effect : xMok rX9_effect = true := by decide +kernel
def tX9_reform : List (List xEnt) := [[(0, .aload_n 0, 1, 0, 0), (1, .iload_n 1, 1, 0, 0), (2, .invokevirtual 220, 3, 168, 0), (5, .ifCond .eq 21, 3, 0, 0), (8, .aload_n 0, 1, 0, 0), (9, .iload_n 1, 1, 0, 0), (10, .invokevirtual 256, 3, 169, 0), (13, .ifCond .eq 13, 3, 0, 0)],
  [(16, .aload_n 0, 1, 0, 0), (17, .iload_n 1, 1, 0, 0), (18, .iconst 2, 1, 0, 0), (19, .invokevirtual 76, 3, 166, 0), (22, .iconst 1, 1, 0, 0), (23, .if_icmp .ne 36, 3, 0, 0), (26, .aload_n 0, 1, 0, 0), (27, .iconst 0, 1, 0, 0), (28, .putfield 201, 3, 9, 12), (31, .aload_n 0, 1, 0, 0)],
  [(32, .aload_n 0, 1, 0, 0), (33, .iload_n 1, 1, 0, 0), (34, .invokevirtual 220, 3, 168, 0), (37, .ifCond .eq 16, 3, 0, 0), (40, .aload_n 0, 1, 0, 0), (41, .iload_n 1, 1, 0, 0), (42, .invokevirtual 256, 3, 169, 0), (45, .ifCond .eq 8, 3, 0, 0)],
  [(48, .bipush (-5), 2, 0, 0), (50, .goto 5, 3, 0, 0), (53, .bipush (-2), 2, 0, 0), (55, .invokevirtual 66, 3, 164, 0), (58, .ireturn, 1, 0, 0), (59, .aload_n 0, 1, 0, 0), (60, .invokevirtual 297, 3, 202, 0), (63, .istore_n 2, 1, 0, 0)],
  [(64, .iload_n 2, 1, 0, 0), (65, .ifCond .lt 9, 3, 0, 0), (68, .aload_n 0, 1, 0, 0), (69, .iload_n 2, 1, 0, 0), (70, .invokevirtual 301, 3, 229, 0), (73, .ireturn, 1, 0, 0), (74, .aload_n 0, 1, 0, 0), (75, .iload_n 1, 1, 0, 0), (76, .invokevirtual 304, 3, 203, 0), (79, .aload_n 0, 1, 0, 0)],
  [(80, .iload_n 1, 1, 0, 0), (81, .iconst 3, 1, 0, 0), (82, .invokevirtual 76, 3, 166, 0), (85, .ifCond .ne 7, 3, 0, 0), (88, .iconst 1, 1, 0, 0), (89, .goto 4, 3, 0, 0), (92, .iconst 0, 1, 0, 0), (93, .istore_n 3, 1, 0, 0), (94, .aload_n 0, 1, 0, 0), (95, .iload_n 1, 1, 0, 0)],
  [(96, .iconst 3, 1, 0, 0), (97, .iconst 2, 1, 0, 0), (98, .invokevirtual 148, 3, 167, 0), (101, .aload_n 0, 1, 0, 0), (102, .iload_n 1, 1, 0, 0), (103, .iload_n 3, 1, 0, 0), (104, .invokevirtual 171, 3, 185, 0), (107, .aload_n 0, 1, 0, 0), (108, .iload_n 1, 1, 0, 0), (109, .iconst 1, 1, 0, 0), (110, .invokevirtual 188, 3, 188, 0)],
  [(113, .aload_n 0, 1, 0, 0), (114, .invokevirtual 307, 3, 191, 0), (117, .iconst 1, 1, 0, 0), (118, .ireturn, 1, 0, 0)]]
def rX9_reform : xM := (⟨"PulledSignalsModel", "reform", "(I)I"⟩, prog_11_method_72_code, tX9_reform, 9, 4, (some Jvm.ClassFile.FieldType.int), 1, 0, 1357, 1355, 1356, 8)
theorem ok_rX9_reform : xMok rX9_reform = true := by decide +kernel
def tX9_isWritten : List (List xEnt) := [[(0, .aload_n 0, 1, 0, 0), (1, .getfield 13, 3, 9, 1), (4, .iload_n 1, 1, 0, 0), (5, .laload, 1, 0, 0), (6, .iload_n 2, 1, 0, 0), (7, .i2l, 1, 0, 0), (8, .lcmp, 1, 0, 0), (9, .ifCond .ne 5, 3, 0, 0), (12, .iconst 0, 1, 0, 0), (13, .ireturn, 1, 0, 0), (14, .aload_n 0, 1, 0, 0), (15, .getfield 13, 3, 9, 1)],
  [(18, .iload_n 1, 1, 0, 0), (19, .iload_n 2, 1, 0, 0), (20, .i2l, 1, 0, 0), (21, .lastore, 1, 0, 0), (22, .aload_n 0, 1, 0, 0), (23, .iload_n 1, 1, 0, 0), (24, .iconst 4, 1, 0, 0), (25, .aload_n 0, 1, 0, 0), (26, .iload_n 1, 1, 0, 0), (27, .iconst 4, 1, 0, 0), (28, .invokevirtual 76, 3, 166, 0), (31, .iconst 1, 1, 0, 0)],
  [(32, .iadd, 1, 0, 0), (33, .invokevirtual 148, 3, 167, 0), (36, .aload_n 0, 1, 0, 0), (37, .iload_n 1, 1, 0, 0), (38, .iconst 2, 1, 0, 0), (39, .invokevirtual 188, 3, 188, 0), (42, .iconst 1, 1, 0, 0), (43, .ireturn, 1, 0, 0)]]
def rX9_isWritten : xM := (⟨"PulledSignalsModel", "isWritten", "(II)Z"⟩, prog_11_method_73_code, tX9_isWritten, 9, 3, (some Jvm.ClassFile.FieldType.boolean), 2, 0, 1369, 1368, 100091, 8)
theorem ok_rX9_isWritten : xMok rX9_isWritten = true := by decide +kernel
def tX9_isSource : List (List xEnt) := [[(0, .aload_n 0, 1, 0, 0), (1, .iload_n 1, 1, 0, 0), (2, .invokevirtual 220, 3, 168, 0), (5, .ifCond .eq 17, 3, 0, 0), (8, .aload_n 0, 1, 0, 0), (9, .iload_n 1, 1, 0, 0), (10, .iconst 0, 1, 0, 0), (11, .invokevirtual 76, 3, 166, 0), (14, .iconst 1, 1, 0, 0), (15, .if_icmp .ne 7, 3, 0, 0)],
  [(18, .iconst 1, 1, 0, 0), (19, .goto 4, 3, 0, 0), (22, .iconst 0, 1, 0, 0), (23, .ireturn, 1, 0, 0)]]
def rX9_isSource : xM := (⟨"PulledSignalsModel", "isSource", "(I)Z"⟩, prog_11_method_74_code, tX9_isSource, 9, 2, (some Jvm.ClassFile.FieldType.boolean), 1, 0, 1365, 1364, 100090, 8)
theorem ok_rX9_isSource : xMok rX9_isSource = true := by decide +kernel
def tX9_write : List (List xEnt) := [[(0, .aload_n 0, 1, 0, 0), (1, .iload_n 1, 1, 0, 0), (2, .invokevirtual 313, 3, 235, 0), (5, .ifCond .ne 10, 3, 0, 0), (8, .aload_n 0, 1, 0, 0), (9, .bipush (-2), 2, 0, 0), (11, .invokevirtual 66, 3, 164, 0), (14, .ireturn, 1, 0, 0), (15, .aload_n 0, 1, 0, 0)],
  [(16, .iload_n 1, 1, 0, 0), (17, .iconst 2, 1, 0, 0), (18, .invokevirtual 76, 3, 166, 0), (21, .iconst 1, 1, 0, 0), (22, .if_icmp .ne 10, 3, 0, 0), (25, .aload_n 0, 1, 0, 0), (26, .bipush (-5), 2, 0, 0), (28, .invokevirtual 66, 3, 164, 0), (31, .ireturn, 1, 0, 0)],
  [(32, .aload_n 0, 1, 0, 0), (33, .iload_n 1, 1, 0, 0), (34, .iload_n 2, 1, 0, 0), (35, .invokevirtual 316, 3, 234, 0), (38, .istore_n 3, 1, 0, 0), (39, .aload_n 0, 1, 0, 0), (40, .iload_n 1, 1, 0, 0), (41, .iconst 4, 1, 0, 0), (42, .invokevirtual 76, 3, 166, 0), (45, .istore 4, 2, 0, 0), (47, .aload_n 0, 1, 0, 0)],
  [(48, .invokevirtual 307, 3, 191, 0), (51, .iload 4, 2, 0, 0), (53, .ireturn, 1, 0, 0)]]
def rX9_write : xM := (⟨"PulledSignalsModel", "write", "(II)I"⟩, prog_11_method_75_code, tX9_write, 9, 5, (some Jvm.ClassFile.FieldType.int), 2, 0, 1361, 1359, 1360, 8)
theorem ok_rX9_write : xMok rX9_write = true := by decide +kernel
def tX9_begin : List (List xEnt) := [[(0, .aload_n 0, 1, 0, 0), (1, .getfield 9, 3, 9, 0), (4, .sipush 6769, 3, 0, 0), (7, .dup2, 1, 0, 0), (8, .iaload, 1, 0, 0), (9, .iconst 1, 1, 0, 0), (10, .iadd, 1, 0, 0), (11, .iastore, 1, 0, 0), (12, .aload_n 0, 1, 0, 0), (13, .getfield 9, 3, 9, 0)],
  [(16, .sipush 6769, 3, 0, 0), (19, .iaload, 1, 0, 0), (20, .ireturn, 1, 0, 0)]]
def rX9_begin : xM := (⟨"PulledSignalsModel", "begin", "()I"⟩, prog_11_method_76_code, tX9_begin, 9, 1, (some Jvm.ClassFile.FieldType.int), 0, 0, 1373, 1371, 1372, 8)
theorem ok_rX9_begin : xMok rX9_begin = true := by decide +kernel
def tX9_end : List (List xEnt) := [[(0, .aload_n 0, 1, 0, 0), (1, .getfield 9, 3, 9, 0), (4, .sipush 6769, 3, 0, 0), (7, .iaload, 1, 0, 0), (8, .ifCond .ne 10, 3, 0, 0), (11, .aload_n 0, 1, 0, 0), (12, .bipush (-5), 2, 0, 0), (14, .invokevirtual 66, 3, 164, 0)],
  [(17, .ireturn, 1, 0, 0), (18, .aload_n 0, 1, 0, 0), (19, .getfield 9, 3, 9, 0), (22, .sipush 6769, 3, 0, 0), (25, .dup2, 1, 0, 0), (26, .iaload, 1, 0, 0), (27, .iconst 1, 1, 0, 0), (28, .isub, 1, 0, 0), (29, .iastore, 1, 0, 0), (30, .aload_n 0, 1, 0, 0), (31, .invokevirtual 307, 3, 191, 0)],
  [(34, .aload_n 0, 1, 0, 0), (35, .getfield 9, 3, 9, 0), (38, .sipush 6769, 3, 0, 0), (41, .iaload, 1, 0, 0), (42, .ireturn, 1, 0, 0)]]
def rX9_end : xM := (⟨"PulledSignalsModel", "end", "()I"⟩, prog_11_method_77_code, tX9_end, 9, 1, (some Jvm.ClassFile.FieldType.int), 0, 0, 1377, 1375, 1376, 8)
theorem ok_rX9_end : xMok rX9_end = true := by decide +kernel
def tX9_dispose : List (List xEnt) := [[(0, .aload_n 0, 1, 0, 0), (1, .iload_n 1, 1, 0, 0), (2, .invokevirtual 220, 3, 168, 0), (5, .ifCond .ne 10, 3, 0, 0), (8, .aload_n 0, 1, 0, 0), (9, .bipush (-2), 2, 0, 0), (11, .invokevirtual 66, 3, 164, 0), (14, .ireturn, 1, 0, 0), (15, .aload_n 0, 1, 0, 0)],
  [(16, .iload_n 1, 1, 0, 0), (17, .iconst 2, 1, 0, 0), (18, .invokevirtual 76, 3, 166, 0), (21, .iconst 1, 1, 0, 0), (22, .if_icmp .ne 10, 3, 0, 0), (25, .aload_n 0, 1, 0, 0), (26, .bipush (-5), 2, 0, 0), (28, .invokevirtual 66, 3, 164, 0), (31, .ireturn, 1, 0, 0)],
  [(32, .aload_n 0, 1, 0, 0), (33, .iconst 0, 1, 0, 0), (34, .putfield 185, 3, 9, 17), (37, .aload_n 0, 1, 0, 0), (38, .iload_n 1, 1, 0, 0), (39, .invokevirtual 179, 3, 190, 0), (42, .aload_n 0, 1, 0, 0), (43, .invokevirtual 307, 3, 191, 0), (46, .aload_n 0, 1, 0, 0), (47, .getfield 185, 3, 9, 17)],
  [(50, .ireturn, 1, 0, 0)]]
def rX9_dispose : xM := (⟨"PulledSignalsModel", "dispose", "(I)I"⟩, prog_11_method_78_code, tX9_dispose, 9, 2, (some Jvm.ClassFile.FieldType.int), 1, 0, 1381, 1379, 1380, 8)
theorem ok_rX9_dispose : xMok rX9_dispose = true := by decide +kernel
def tX9_isTelling : List (List xEnt) := [[(0, .aload_n 0, 1, 0, 0), (1, .iload_n 1, 1, 0, 0), (2, .invokevirtual 220, 3, 168, 0), (5, .ifCond .eq 17, 3, 0, 0), (8, .aload_n 0, 1, 0, 0), (9, .iload_n 1, 1, 0, 0), (10, .iconst 0, 1, 0, 0), (11, .invokevirtual 76, 3, 166, 0), (14, .iconst 5, 1, 0, 0), (15, .if_icmp .eq 7, 3, 0, 0)],
  [(18, .iconst 1, 1, 0, 0), (19, .goto 4, 3, 0, 0), (22, .iconst 0, 1, 0, 0), (23, .ireturn, 1, 0, 0)]]
def rX9_isTelling : xM := (⟨"PulledSignalsModel", "isTelling", "(I)Z"⟩, prog_11_method_79_code, tX9_isTelling, 9, 2, (some Jvm.ClassFile.FieldType.boolean), 1, 0, 1389, 1388, 100092, 8)
theorem ok_rX9_isTelling : xMok rX9_isTelling = true := by decide +kernel
def tX9_read : List (List xEnt) := [[(0, .aload_n 0, 1, 0, 0), (1, .iload_n 1, 1, 0, 0), (2, .invokevirtual 319, 3, 240, 0), (5, .ifCond .ne 10, 3, 0, 0), (8, .aload_n 0, 1, 0, 0), (9, .bipush (-2), 2, 0, 0), (11, .invokevirtual 322, 3, 165, 0), (14, .lreturn, 1, 0, 0), (15, .aload_n 0, 1, 0, 0)],
  [(16, .iload_n 1, 1, 0, 0), (17, .iconst 2, 1, 0, 0), (18, .invokevirtual 76, 3, 166, 0), (21, .iconst 1, 1, 0, 0), (22, .if_icmp .ne 10, 3, 0, 0), (25, .aload_n 0, 1, 0, 0), (26, .bipush (-5), 2, 0, 0), (28, .invokevirtual 322, 3, 165, 0), (31, .lreturn, 1, 0, 0)],
  [(32, .aload_n 0, 1, 0, 0), (33, .iload_n 1, 1, 0, 0), (34, .iconst 0, 1, 0, 0), (35, .invokevirtual 76, 3, 166, 0), (38, .iconst 3, 1, 0, 0), (39, .if_icmp .ne 8, 3, 0, 0), (42, .aload_n 0, 1, 0, 0), (43, .iload_n 1, 1, 0, 0), (44, .invokevirtual 154, 3, 182, 0), (47, .aload_n 0, 1, 0, 0)],
  [(48, .getfield 13, 3, 9, 1), (51, .iload_n 1, 1, 0, 0), (52, .laload, 1, 0, 0), (53, .lstore_n 2, 1, 0, 0), (54, .aload_n 0, 1, 0, 0), (55, .invokevirtual 307, 3, 191, 0), (58, .lload_n 2, 1, 0, 0), (59, .lreturn, 1, 0, 0)]]
def rX9_read : xM := (⟨"PulledSignalsModel", "read", "(I)J"⟩, prog_11_method_80_code, tX9_read, 9, 4, (some Jvm.ClassFile.FieldType.long), 1, 0, 1385, 1383, 1384, 8)
theorem ok_rX9_read : xMok rX9_read = true := by decide +kernel
def tX9_kept : List (List xEnt) := [[(0, .aload_n 0, 1, 0, 0), (1, .iload_n 1, 1, 0, 0), (2, .invokevirtual 319, 3, 240, 0), (5, .ifCond .eq 12, 3, 0, 0), (8, .aload_n 0, 1, 0, 0), (9, .getfield 13, 3, 9, 1), (12, .iload_n 1, 1, 0, 0), (13, .laload, 1, 0, 0), (14, .goto 9, 3, 0, 0)],
  [(17, .aload_n 0, 1, 0, 0), (18, .bipush (-2), 2, 0, 0), (20, .invokevirtual 322, 3, 165, 0), (23, .lreturn, 1, 0, 0)]]
def rX9_kept : xM := (⟨"PulledSignalsModel", "kept", "(I)J"⟩, prog_11_method_81_code, tX9_kept, 9, 2, (some Jvm.ClassFile.FieldType.long), 1, 0, 1398, 1396, 1397, 8)
theorem ok_rX9_kept : xMok rX9_kept = true := by decide +kernel
def tX9_readsOf : List (List xEnt) := [[(0, .iconst 0, 1, 0, 0), (1, .istore_n 2, 1, 0, 0), (2, .iconst 0, 1, 0, 0), (3, .istore_n 3, 1, 0, 0), (4, .iload_n 3, 1, 0, 0), (5, .aload_n 0, 1, 0, 0), (6, .iload_n 1, 1, 0, 0), (7, .bipush 6, 2, 0, 0), (9, .invokevirtual 76, 3, 166, 0), (12, .if_icmp .ge 23, 3, 0, 0), (15, .iload_n 2, 1, 0, 0)],
  [(16, .iconst 1, 1, 0, 0), (17, .aload_n 0, 1, 0, 0), (18, .iload_n 1, 1, 0, 0), (19, .bipush 7, 2, 0, 0), (21, .iload_n 3, 1, 0, 0), (22, .iadd, 1, 0, 0), (23, .invokevirtual 76, 3, 166, 0), (26, .ishl, 1, 0, 0), (27, .ior, 1, 0, 0), (28, .istore_n 2, 1, 0, 0), (29, .iinc 3 1, 3, 0, 0)],
  [(32, .goto (-28), 3, 0, 0), (35, .iload_n 2, 1, 0, 0), (36, .ireturn, 1, 0, 0)]]
def rX9_readsOf : xM := (⟨"PulledSignalsModel", "readsOf", "(I)I"⟩, prog_11_method_82_code, tX9_readsOf, 9, 4, (some Jvm.ClassFile.FieldType.int), 1, 0, 1415, 1414, 100096, 8)
theorem ok_rX9_readsOf : xMok rX9_readsOf = true := by decide +kernel
def tX9_reached : List (List xEnt) := [[(0, .aload_n 0, 1, 0, 0), (1, .iload_n 1, 1, 0, 0), (2, .invokevirtual 325, 3, 243, 0), (5, .istore_n 2, 1, 0, 0), (6, .iload_n 2, 1, 0, 0), (7, .istore_n 3, 1, 0, 0), (8, .iconst 0, 1, 0, 0), (9, .istore 4, 2, 0, 0), (11, .iload 4, 2, 0, 0), (13, .aload_n 0, 1, 0, 0), (14, .getfield 9, 3, 9, 0)],
  [(17, .sipush 6768, 3, 0, 0), (20, .iaload, 1, 0, 0), (21, .if_icmp .ge 32, 3, 0, 0), (24, .iload_n 3, 1, 0, 0), (25, .iload_n 2, 1, 0, 0), (26, .iload 4, 2, 0, 0), (28, .ishr, 1, 0, 0), (29, .iconst 1, 1, 0, 0), (30, .iand, 1, 0, 0), (31, .iconst 1, 1, 0, 0)],
  [(32, .if_icmp .ne 12, 3, 0, 0), (35, .aload_n 0, 1, 0, 0), (36, .iload 4, 2, 0, 0), (38, .invokevirtual 325, 3, 243, 0), (41, .goto 4, 3, 0, 0), (44, .iconst 0, 1, 0, 0), (45, .ior, 1, 0, 0), (46, .istore_n 3, 1, 0, 0), (47, .iinc 4 1, 3, 0, 0)],
  [(50, .goto (-39), 3, 0, 0), (53, .iload_n 3, 1, 0, 0), (54, .iload_n 2, 1, 0, 0), (55, .if_icmp .ne 5, 3, 0, 0), (58, .iload_n 2, 1, 0, 0), (59, .ireturn, 1, 0, 0), (60, .iload_n 3, 1, 0, 0), (61, .istore_n 2, 1, 0, 0), (62, .goto (-56), 3, 0, 0)]]
def rX9_reached : xM := (⟨"PulledSignalsModel", "reached", "(I)I"⟩, prog_11_method_83_code, tX9_reached, 9, 5, (some Jvm.ClassFile.FieldType.int), 1, 0, 1411, 1410, 100095, 8)
theorem ok_rX9_reached : xMok rX9_reached = true := by decide +kernel
def tX9_readersOf : List (List xEnt) := [[(0, .iconst 0, 1, 0, 0), (1, .istore_n 2, 1, 0, 0), (2, .iconst 0, 1, 0, 0), (3, .istore_n 3, 1, 0, 0), (4, .iload_n 3, 1, 0, 0), (5, .aload_n 0, 1, 0, 0), (6, .getfield 9, 3, 9, 0), (9, .sipush 6768, 3, 0, 0), (12, .iaload, 1, 0, 0), (13, .if_icmp .ge 28, 3, 0, 0)],
  [(16, .iload_n 2, 1, 0, 0), (17, .aload_n 0, 1, 0, 0), (18, .iload_n 3, 1, 0, 0), (19, .iload_n 1, 1, 0, 0), (20, .invokevirtual 144, 3, 180, 0), (23, .ifCond .eq 9, 3, 0, 0), (26, .iconst 1, 1, 0, 0), (27, .iload_n 3, 1, 0, 0), (28, .ishl, 1, 0, 0), (29, .goto 4, 3, 0, 0)],
  [(32, .iconst 0, 1, 0, 0), (33, .ior, 1, 0, 0), (34, .istore_n 2, 1, 0, 0), (35, .iinc 3 1, 3, 0, 0), (38, .goto (-34), 3, 0, 0), (41, .iload_n 2, 1, 0, 0), (42, .ireturn, 1, 0, 0)]]
def rX9_readersOf : xM := (⟨"PulledSignalsModel", "readersOf", "(I)I"⟩, prog_11_method_84_code, tX9_readersOf, 9, 4, (some Jvm.ClassFile.FieldType.int), 1, 0, 1407, 1406, 100094, 8)
theorem ok_rX9_readersOf : xMok rX9_readersOf = true := by decide +kernel
def tX9_cellOf : List (List xEnt) := [[(0, .aload_n 0, 1, 0, 0), (1, .iload_n 1, 1, 0, 0), (2, .invokevirtual 220, 3, 168, 0), (5, .ifCond .eq 15, 3, 0, 0), (8, .iload_n 2, 1, 0, 0), (9, .i2l, 1, 0, 0), (10, .lconst 0, 1, 0, 0), (11, .ldc2_w 328, 3, 21, 0), (14, .invokestatic 72, 3, 163, 2)],
  [(17, .ifCond .ne 10, 3, 0, 0), (20, .aload_n 0, 1, 0, 0), (21, .bipush (-2), 2, 0, 0), (23, .invokevirtual 66, 3, 164, 0), (26, .ireturn, 1, 0, 0), (27, .iload_n 2, 1, 0, 0), (28, .tableswitch 67 7 10 #[32, 38, 44, 58], 32, 0, 0)],
  [],
  [(60, .aload_n 0, 1, 0, 0), (61, .iload_n 1, 1, 0, 0), (62, .invokevirtual 330, 3, 245, 0)],
  [(65, .ireturn, 1, 0, 0), (66, .aload_n 0, 1, 0, 0), (67, .iload_n 1, 1, 0, 0), (68, .invokevirtual 277, 3, 220, 0), (71, .ireturn, 1, 0, 0), (72, .aload_n 0, 1, 0, 0), (73, .iload_n 1, 1, 0, 0), (74, .invokevirtual 175, 3, 186, 0), (77, .ifCond .eq 7, 3, 0, 0)],
  [(80, .iconst 1, 1, 0, 0), (81, .goto 4, 3, 0, 0), (84, .iconst 0, 1, 0, 0), (85, .ireturn, 1, 0, 0), (86, .aload_n 0, 1, 0, 0), (87, .iload_n 1, 1, 0, 0), (88, .invokevirtual 333, 3, 244, 0), (91, .invokestatic 280, 3, 272, 2), (94, .ireturn, 1, 0, 0), (95, .aload_n 0, 1, 0, 0)],
  [(96, .iload_n 1, 1, 0, 0), (97, .iload_n 2, 1, 0, 0), (98, .invokevirtual 76, 3, 166, 0), (101, .ireturn, 1, 0, 0)]]
def rX9_cellOf : xM := (⟨"PulledSignalsModel", "cellOf", "(II)I"⟩, prog_11_method_85_code, tX9_cellOf, 9, 3, (some Jvm.ClassFile.FieldType.int), 2, 0, 1402, 1400, 1401, 8)
theorem ok_rX9_cellOf : xMok rX9_cellOf = true := by decide +kernel
def tX9_reads : List (List xEnt) := [[(0, .aload_n 0, 1, 0, 0), (1, .iload_n 1, 1, 0, 0), (2, .invokevirtual 220, 3, 168, 0), (5, .ifCond .eq 22, 3, 0, 0), (8, .iload_n 2, 1, 0, 0), (9, .i2l, 1, 0, 0), (10, .lconst 0, 1, 0, 0), (11, .aload_n 0, 1, 0, 0), (12, .iload_n 1, 1, 0, 0), (13, .bipush 6, 2, 0, 0), (15, .invokevirtual 76, 3, 166, 0)],
  [(18, .iconst 1, 1, 0, 0), (19, .isub, 1, 0, 0), (20, .i2l, 1, 0, 0), (21, .invokestatic 72, 3, 163, 2), (24, .ifCond .ne 10, 3, 0, 0), (27, .aload_n 0, 1, 0, 0), (28, .bipush (-2), 2, 0, 0), (30, .invokevirtual 66, 3, 164, 0)],
  [(33, .ireturn, 1, 0, 0), (34, .aload_n 0, 1, 0, 0), (35, .iload_n 1, 1, 0, 0), (36, .bipush 7, 2, 0, 0), (38, .iload_n 2, 1, 0, 0), (39, .iadd, 1, 0, 0), (40, .invokevirtual 76, 3, 166, 0), (43, .ireturn, 1, 0, 0)]]
def rX9_reads : xM := (⟨"PulledSignalsModel", "reads", "(II)I"⟩, prog_11_method_86_code, tX9_reads, 9, 3, (some Jvm.ClassFile.FieldType.int), 2, 0, 1419, 1417, 1418, 8)
theorem ok_rX9_reads : xMok rX9_reads = true := by decide +kernel
def tX9_plain : List (List xEnt) := [[(0, .aload_n 0, 1, 0, 0), (1, .iload_n 1, 1, 0, 0), (2, .invokevirtual 319, 3, 240, 0), (5, .ifCond .eq 13, 3, 0, 0), (8, .aload_n 0, 1, 0, 0), (9, .iload_n 1, 1, 0, 0), (10, .iconst (-1), 1, 0, 0), (11, .iconst 0, 1, 0, 0), (12, .invokevirtual 336, 3, 194, 0), (15, .goto 9, 3, 0, 0)],
  [(18, .aload_n 0, 1, 0, 0), (19, .bipush (-2), 2, 0, 0), (21, .invokevirtual 322, 3, 165, 0), (24, .lreturn, 1, 0, 0)]]
def rX9_plain : xM := (⟨"PulledSignalsModel", "plain", "(I)J"⟩, prog_11_method_87_code, tX9_plain, 9, 2, (some Jvm.ClassFile.FieldType.long), 1, 0, 1423, 1421, 1422, 8)
theorem ok_rX9_plain : xMok rX9_plain = true := by decide +kernel
def tX9_whatIf : List (List xEnt) := [[(0, .aload_n 0, 1, 0, 0), (1, .iload_n 1, 1, 0, 0), (2, .invokevirtual 313, 3, 235, 0), (5, .ifCond .eq 21, 3, 0, 0), (8, .aload_n 0, 1, 0, 0), (9, .iload_n 3, 1, 0, 0), (10, .invokevirtual 319, 3, 240, 0), (13, .ifCond .eq 13, 3, 0, 0)],
  [(16, .aload_n 0, 1, 0, 0), (17, .iload_n 3, 1, 0, 0), (18, .iload_n 1, 1, 0, 0), (19, .iload_n 2, 1, 0, 0), (20, .invokevirtual 336, 3, 194, 0), (23, .goto 9, 3, 0, 0), (26, .aload_n 0, 1, 0, 0), (27, .bipush (-2), 2, 0, 0), (29, .invokevirtual 322, 3, 165, 0)],
  [(32, .lreturn, 1, 0, 0)]]
def rX9_whatIf : xM := (⟨"PulledSignalsModel", "whatIf", "(III)J"⟩, prog_11_method_88_code, tX9_whatIf, 9, 4, (some Jvm.ClassFile.FieldType.long), 3, 0, 1431, 1429, 1430, 8)
theorem ok_rX9_whatIf : xMok rX9_whatIf = true := by decide +kernel
def tX9_aim : List (List xEnt) := [[(0, .aload_n 0, 1, 0, 0), (1, .iload_n 1, 1, 0, 0), (2, .invokevirtual 313, 3, 235, 0), (5, .ifCond .eq 11, 3, 0, 0), (8, .aload_n 0, 1, 0, 0), (9, .iload_n 2, 1, 0, 0), (10, .invokevirtual 319, 3, 240, 0), (13, .ifCond .ne 10, 3, 0, 0)],
  [(16, .aload_n 0, 1, 0, 0), (17, .bipush (-2), 2, 0, 0), (19, .invokevirtual 66, 3, 164, 0), (22, .ireturn, 1, 0, 0), (23, .bipush (-20), 2, 0, 0), (25, .istore 4, 2, 0, 0), (27, .iload 4, 2, 0, 0), (29, .bipush 20, 2, 0, 0), (31, .if_icmp .gt 38, 3, 0, 0)],
  [(34, .aload_n 0, 1, 0, 0), (35, .iload_n 2, 1, 0, 0), (36, .iload_n 1, 1, 0, 0), (37, .iload 4, 2, 0, 0), (39, .invokevirtual 336, 3, 194, 0), (42, .lstore 5, 2, 0, 0), (44, .lload 5, 2, 0, 0), (46, .invokestatic 95, 3, 171, 2)],
  [(49, .ifCond .ne 14, 3, 0, 0), (52, .lload 5, 2, 0, 0), (54, .iload_n 3, 1, 0, 0), (55, .i2l, 1, 0, 0), (56, .lcmp, 1, 0, 0), (57, .ifCond .lt 6, 3, 0, 0), (60, .iload 4, 2, 0, 0), (62, .ireturn, 1, 0, 0), (63, .iinc 4 1, 3, 0, 0)],
  [(66, .goto (-39), 3, 0, 0), (69, .bipush 100, 2, 0, 0), (71, .ireturn, 1, 0, 0)]]
def rX9_aim : xM := (⟨"PulledSignalsModel", "aim", "(III)I"⟩, prog_11_method_89_code, tX9_aim, 9, 7, (some Jvm.ClassFile.FieldType.int), 3, 0, 1435, 1433, 1434, 8)
theorem ok_rX9_aim : xMok rX9_aim = true := by decide +kernel
def tX9_news : List (List xEnt) := [[(0, .aload_n 0, 1, 0, 0), (1, .iload_n 1, 1, 0, 0), (2, .invokevirtual 313, 3, 235, 0), (5, .ifCond .ne 10, 3, 0, 0), (8, .aload_n 0, 1, 0, 0), (9, .bipush (-2), 2, 0, 0), (11, .invokevirtual 66, 3, 164, 0), (14, .ireturn, 1, 0, 0), (15, .iconst 0, 1, 0, 0)],
  [(16, .istore_n 3, 1, 0, 0), (17, .iconst 0, 1, 0, 0), (18, .istore 4, 2, 0, 0), (20, .iload 4, 2, 0, 0), (22, .aload_n 0, 1, 0, 0), (23, .getfield 9, 3, 9, 0), (26, .sipush 6768, 3, 0, 0), (29, .iaload, 1, 0, 0), (30, .if_icmp .ge 71, 3, 0, 0)],
  [(33, .aload_n 0, 1, 0, 0), (34, .iload 4, 2, 0, 0), (36, .invokevirtual 256, 3, 169, 0), (39, .ifCond .eq 37, 3, 0, 0), (42, .aload_n 0, 1, 0, 0), (43, .iload 4, 2, 0, 0), (45, .iconst 2, 1, 0, 0), (46, .invokevirtual 76, 3, 166, 0)],
  [(49, .ifCond .ne 27, 3, 0, 0), (52, .aload_n 0, 1, 0, 0), (53, .iload 4, 2, 0, 0), (55, .iconst (-1), 1, 0, 0), (56, .iconst 0, 1, 0, 0), (57, .invokevirtual 336, 3, 194, 0), (60, .aload_n 0, 1, 0, 0), (61, .iload 4, 2, 0, 0), (63, .iload_n 1, 1, 0, 0)],
  [(64, .iload_n 2, 1, 0, 0), (65, .invokevirtual 336, 3, 194, 0), (68, .lcmp, 1, 0, 0), (69, .ifCond .eq 7, 3, 0, 0), (72, .iconst 1, 1, 0, 0), (73, .goto 4, 3, 0, 0), (76, .iconst 0, 1, 0, 0), (77, .istore 5, 2, 0, 0), (79, .iload_n 3, 1, 0, 0)],
  [(80, .iload 5, 2, 0, 0), (82, .ifCond .eq 10, 3, 0, 0), (85, .iconst 1, 1, 0, 0), (86, .iload 4, 2, 0, 0), (88, .ishl, 1, 0, 0), (89, .goto 4, 3, 0, 0), (92, .iconst 0, 1, 0, 0), (93, .ior, 1, 0, 0), (94, .istore_n 3, 1, 0, 0), (95, .iinc 4 1, 3, 0, 0)],
  [(98, .goto (-78), 3, 0, 0), (101, .iload_n 3, 1, 0, 0), (102, .ireturn, 1, 0, 0)]]
def rX9_news : xM := (⟨"PulledSignalsModel", "news", "(II)I"⟩, prog_11_method_90_code, tX9_news, 9, 6, (some Jvm.ClassFile.FieldType.int), 2, 0, 1439, 1437, 1438, 8)
theorem ok_rX9_news : xMok rX9_news = true := by decide +kernel
def tX9_reaches : List (List xEnt) := [[(0, .aload_n 0, 1, 0, 0), (1, .iload_n 1, 1, 0, 0), (2, .invokevirtual 220, 3, 168, 0), (5, .ifCond .eq 11, 3, 0, 0), (8, .aload_n 0, 1, 0, 0), (9, .iload_n 2, 1, 0, 0), (10, .invokevirtual 220, 3, 168, 0), (13, .ifCond .ne 10, 3, 0, 0)],
  [(16, .aload_n 0, 1, 0, 0), (17, .bipush (-2), 2, 0, 0), (19, .invokevirtual 66, 3, 164, 0), (22, .ireturn, 1, 0, 0), (23, .aload_n 0, 1, 0, 0), (24, .iload_n 1, 1, 0, 0), (25, .invokevirtual 333, 3, 244, 0), (28, .iload_n 2, 1, 0, 0), (29, .ishr, 1, 0, 0), (30, .iconst 1, 1, 0, 0), (31, .iand, 1, 0, 0)],
  [(32, .ireturn, 1, 0, 0)]]
def rX9_reaches : xM := (⟨"PulledSignalsModel", "reaches", "(II)I"⟩, prog_11_method_91_code, tX9_reaches, 9, 3, (some Jvm.ClassFile.FieldType.int), 2, 0, 1443, 1441, 1442, 8)
theorem ok_rX9_reaches : xMok rX9_reaches = true := by decide +kernel
def tX9_colours : List (List xEnt) := [[(0, .iload_n 1, 1, 0, 0), (1, .i2l, 1, 0, 0), (2, .lconst 0, 1, 0, 0), (3, .ldc2_w 339, 3, 22, 0), (6, .invokestatic 72, 3, 163, 2), (9, .ifCond .ne 10, 3, 0, 0), (12, .aload_n 0, 1, 0, 0), (13, .bipush (-2), 2, 0, 0), (15, .invokevirtual 66, 3, 164, 0)],
  [(18, .ireturn, 1, 0, 0), (19, .iconst 0, 1, 0, 0), (20, .istore_n 2, 1, 0, 0), (21, .iconst 0, 1, 0, 0), (22, .istore_n 3, 1, 0, 0), (23, .iload_n 3, 1, 0, 0), (24, .aload_n 0, 1, 0, 0), (25, .getfield 9, 3, 9, 0), (28, .sipush 6768, 3, 0, 0), (31, .iaload, 1, 0, 0)],
  [(32, .if_icmp .ge 36, 3, 0, 0), (35, .iload_n 2, 1, 0, 0), (36, .aload_n 0, 1, 0, 0), (37, .iload_n 3, 1, 0, 0), (38, .iconst 2, 1, 0, 0), (39, .invokevirtual 76, 3, 166, 0), (42, .ifCond .ne 17, 3, 0, 0), (45, .aload_n 0, 1, 0, 0), (46, .iload_n 3, 1, 0, 0), (47, .iconst 3, 1, 0, 0)],
  [(48, .invokevirtual 76, 3, 166, 0), (51, .iload_n 1, 1, 0, 0), (52, .if_icmp .ne 7, 3, 0, 0), (55, .iconst 1, 1, 0, 0), (56, .goto 4, 3, 0, 0), (59, .iconst 0, 1, 0, 0), (60, .iadd, 1, 0, 0), (61, .istore_n 2, 1, 0, 0), (62, .iinc 3 1, 3, 0, 0)],
  [(65, .goto (-42), 3, 0, 0), (68, .iload_n 2, 1, 0, 0), (69, .ireturn, 1, 0, 0)]]
def rX9_colours : xM := (⟨"PulledSignalsModel", "colours", "(I)I"⟩, prog_11_method_92_code, tX9_colours, 9, 4, (some Jvm.ClassFile.FieldType.int), 1, 0, 1447, 1445, 1446, 8)
theorem ok_rX9_colours : xMok rX9_colours = true := by decide +kernel
def tX9_signOf : List (List xEnt) := []
def rX9_signOf : xM := (⟨"PulledSignalsModel", "signOf", "(I)I"⟩, prog_11_method_93_code, tX9_signOf, 9, 1, (some Jvm.ClassFile.FieldType.int), 1, 1, 1455, 1454, 200000, 8)
theorem ok_rX9_signOf : xMok rX9_signOf = true := by decide +kernel
def tX9_signs : List (List xEnt) := [[(0, .iconst 0, 1, 0, 0), (1, .istore 4, 2, 0, 0), (3, .iconst 0, 1, 0, 0), (4, .istore 5, 2, 0, 0), (6, .iload 5, 2, 0, 0), (8, .bipush 8, 2, 0, 0), (10, .if_icmp .ge 38, 3, 0, 0), (13, .iload 4, 2, 0, 0), (15, .iload 5, 2, 0, 0)],
  [(17, .invokestatic 349, 3, 254, 2), (20, .iload_n 1, 1, 0, 0), (21, .iload_n 2, 1, 0, 0), (22, .invokestatic 99, 3, 172, 2), (25, .iload_n 3, 1, 0, 0), (26, .i2l, 1, 0, 0), (27, .lcmp, 1, 0, 0), (28, .ifCond .ne 10, 3, 0, 0), (31, .iconst 1, 1, 0, 0)],
  [(32, .iload 5, 2, 0, 0), (34, .ishl, 1, 0, 0), (35, .goto 4, 3, 0, 0), (38, .iconst 0, 1, 0, 0), (39, .ior, 1, 0, 0), (40, .istore 4, 2, 0, 0), (42, .iinc 5 1, 3, 0, 0), (45, .goto (-39), 3, 0, 0)],
  [(48, .iload 4, 2, 0, 0), (50, .ireturn, 1, 0, 0)]]
def rX9_signs : xM := (⟨"PulledSignalsModel", "signs", "(III)I"⟩, prog_11_method_94_code, tX9_signs, 9, 6, (some Jvm.ClassFile.FieldType.int), 3, 0, 1452, 1450, 1451, 8)
theorem ok_rX9_signs : xMok rX9_signs = true := by decide +kernel
def tX9_log : List (List xEnt) := [[(0, .iload_n 1, 1, 0, 0), (1, .i2l, 1, 0, 0), (2, .lconst 0, 1, 0, 0), (3, .bipush 60, 2, 0, 0), (5, .aload_n 0, 1, 0, 0), (6, .getfield 9, 3, 9, 0), (9, .sipush 6795, 3, 0, 0), (12, .iaload, 1, 0, 0), (13, .invokestatic 352, 3, 0, 8)],
  [(16, .iconst 1, 1, 0, 0), (17, .isub, 1, 0, 0), (18, .i2l, 1, 0, 0), (19, .invokestatic 72, 3, 163, 2), (22, .ifCond .eq 16, 3, 0, 0), (25, .aload_n 0, 1, 0, 0), (26, .getfield 9, 3, 9, 0), (29, .sipush 6796, 3, 0, 0)],
  [(32, .iload_n 1, 1, 0, 0), (33, .iadd, 1, 0, 0), (34, .iaload, 1, 0, 0), (35, .goto 9, 3, 0, 0), (38, .aload_n 0, 1, 0, 0), (39, .bipush (-2), 2, 0, 0), (41, .invokevirtual 66, 3, 164, 0), (44, .ireturn, 1, 0, 0)]]
def rX9_log : xM := (⟨"PulledSignalsModel", "log", "(I)I"⟩, prog_11_method_95_code, tX9_log, 9, 2, (some Jvm.ClassFile.FieldType.int), 1, 0, 1501, 1499, 1500, 8)
theorem ok_rX9_log : xMok rX9_log = true := by decide +kernel
def tX9_logged : List (List xEnt) := [[(0, .iload_n 1, 1, 0, 0), (1, .i2l, 1, 0, 0), (2, .lconst 0, 1, 0, 0), (3, .bipush 60, 2, 0, 0), (5, .aload_n 0, 1, 0, 0), (6, .getfield 9, 3, 9, 0), (9, .sipush 6795, 3, 0, 0), (12, .iaload, 1, 0, 0), (13, .invokestatic 352, 3, 0, 8)],
  [(16, .iconst 1, 1, 0, 0), (17, .isub, 1, 0, 0), (18, .i2l, 1, 0, 0), (19, .invokestatic 72, 3, 163, 2), (22, .ifCond .eq 12, 3, 0, 0), (25, .aload_n 0, 1, 0, 0), (26, .getfield 17, 3, 9, 2), (29, .iload_n 1, 1, 0, 0), (30, .laload, 1, 0, 0), (31, .goto 9, 3, 0, 0)],
  [(34, .aload_n 0, 1, 0, 0), (35, .bipush (-2), 2, 0, 0), (37, .invokevirtual 322, 3, 165, 0), (40, .lreturn, 1, 0, 0)]]
def rX9_logged : xM := (⟨"PulledSignalsModel", "logged", "(I)J"⟩, prog_11_method_96_code, tX9_logged, 9, 2, (some Jvm.ClassFile.FieldType.long), 1, 0, 1508, 1506, 1507, 8)
theorem ok_rX9_logged : xMok rX9_logged = true := by decide +kernel
def tX9_disposed : List (List xEnt) := [[(0, .iload_n 1, 1, 0, 0), (1, .i2l, 1, 0, 0), (2, .lconst 0, 1, 0, 0), (3, .bipush 60, 2, 0, 0), (5, .aload_n 0, 1, 0, 0), (6, .getfield 9, 3, 9, 0), (9, .sipush 6856, 3, 0, 0), (12, .iaload, 1, 0, 0), (13, .invokestatic 352, 3, 0, 8)],
  [(16, .iconst 1, 1, 0, 0), (17, .isub, 1, 0, 0), (18, .i2l, 1, 0, 0), (19, .invokestatic 72, 3, 163, 2), (22, .ifCond .eq 16, 3, 0, 0), (25, .aload_n 0, 1, 0, 0), (26, .getfield 9, 3, 9, 0), (29, .sipush 6857, 3, 0, 0)],
  [(32, .iload_n 1, 1, 0, 0), (33, .iadd, 1, 0, 0), (34, .iaload, 1, 0, 0), (35, .goto 9, 3, 0, 0), (38, .aload_n 0, 1, 0, 0), (39, .bipush (-2), 2, 0, 0), (41, .invokevirtual 66, 3, 164, 0), (44, .ireturn, 1, 0, 0)]]
def rX9_disposed : xM := (⟨"PulledSignalsModel", "disposed", "(I)I"⟩, prog_11_method_97_code, tX9_disposed, 9, 2, (some Jvm.ClassFile.FieldType.int), 1, 0, 1512, 1510, 1511, 8)
theorem ok_rX9_disposed : xMok rX9_disposed = true := by decide +kernel
def tX9_queued : List (List xEnt) := [[(0, .iload_n 1, 1, 0, 0), (1, .i2l, 1, 0, 0), (2, .lconst 0, 1, 0, 0), (3, .aload_n 0, 1, 0, 0), (4, .getfield 9, 3, 9, 0), (7, .sipush 6770, 3, 0, 0), (10, .iaload, 1, 0, 0), (11, .iconst 1, 1, 0, 0), (12, .isub, 1, 0, 0), (13, .i2l, 1, 0, 0), (14, .invokestatic 72, 3, 163, 2)],
  [(17, .ifCond .eq 16, 3, 0, 0), (20, .aload_n 0, 1, 0, 0), (21, .getfield 9, 3, 9, 0), (24, .sipush 6771, 3, 0, 0), (27, .iload_n 1, 1, 0, 0), (28, .iadd, 1, 0, 0), (29, .iaload, 1, 0, 0), (30, .goto 9, 3, 0, 0)],
  [(33, .aload_n 0, 1, 0, 0), (34, .bipush (-2), 2, 0, 0), (36, .invokevirtual 66, 3, 164, 0), (39, .ireturn, 1, 0, 0)]]
def rX9_queued : xM := (⟨"PulledSignalsModel", "queued", "(I)I"⟩, prog_11_method_98_code, tX9_queued, 9, 2, (some Jvm.ClassFile.FieldType.int), 1, 0, 1516, 1514, 1515, 8)
theorem ok_rX9_queued : xMok rX9_queued = true := by decide +kernel
def tX9_judge : List (List xEnt) := [[(0, .iload_n 1, 1, 0, 0), (1, .invokestatic 261, 3, 211, 2), (4, .ifCond .eq 15, 3, 0, 0), (7, .iload_n 2, 1, 0, 0), (8, .i2l, 1, 0, 0), (9, .lconst 0, 1, 0, 0), (10, .ldc2_w 355, 3, 23, 0), (13, .invokestatic 72, 3, 163, 2)],
  [(16, .ifCond .ne 10, 3, 0, 0), (19, .aload_n 0, 1, 0, 0), (20, .bipush (-2), 2, 0, 0), (22, .invokevirtual 66, 3, 164, 0), (25, .ireturn, 1, 0, 0), (26, .aload_n 0, 1, 0, 0), (27, .getfield 57, 3, 9, 26), (30, .iload_n 1, 1, 0, 0), (31, .iaload, 1, 0, 0)],
  [(32, .iconst 4, 1, 0, 0), (33, .if_icmp .le 10, 3, 0, 0), (36, .aload_n 0, 1, 0, 0), (37, .bipush (-3), 2, 0, 0), (39, .invokevirtual 66, 3, 164, 0), (42, .ireturn, 1, 0, 0), (43, .aload_n 0, 1, 0, 0), (44, .getfield 57, 3, 9, 26), (47, .iload_n 1, 1, 0, 0)],
  [(48, .iaload, 1, 0, 0), (49, .ifCond .ge 10, 3, 0, 0), (52, .aload_n 0, 1, 0, 0), (53, .bipush (-4), 2, 0, 0), (55, .invokevirtual 66, 3, 164, 0), (58, .ireturn, 1, 0, 0), (59, .iconst 2, 1, 0, 0), (60, .iload_n 2, 1, 0, 0), (61, .imul, 1, 0, 0), (62, .aload_n 0, 1, 0, 0), (63, .getfield 60, 3, 9, 27)],
  [(66, .iload_n 1, 1, 0, 0), (67, .iaload, 1, 0, 0), (68, .if_icmp .le 10, 3, 0, 0), (71, .aload_n 0, 1, 0, 0), (72, .bipush (-2), 2, 0, 0), (74, .invokevirtual 66, 3, 164, 0), (77, .ireturn, 1, 0, 0), (78, .iconst 0, 1, 0, 0), (79, .istore_n 3, 1, 0, 0)],
  [(80, .iload_n 3, 1, 0, 0), (81, .iload_n 2, 1, 0, 0), (82, .if_icmp .ge 105, 3, 0, 0), (85, .iload_n 3, 1, 0, 0), (86, .bipush 60, 2, 0, 0), (88, .aload_n 0, 1, 0, 0), (89, .getfield 9, 3, 9, 0), (92, .sipush 6795, 3, 0, 0), (95, .iaload, 1, 0, 0)],
  [(96, .invokestatic 352, 3, 0, 8), (99, .if_icmp .ge 72, 3, 0, 0), (102, .aload_n 0, 1, 0, 0), (103, .getfield 63, 3, 9, 28), (106, .bipush 40, 2, 0, 0), (108, .iload_n 1, 1, 0, 0), (109, .imul, 1, 0, 0), (110, .iconst 2, 1, 0, 0), (111, .iload_n 3, 1, 0, 0)],
  [(112, .imul, 1, 0, 0), (113, .iadd, 1, 0, 0), (114, .laload, 1, 0, 0), (115, .aload_n 0, 1, 0, 0), (116, .getfield 9, 3, 9, 0), (119, .sipush 6796, 3, 0, 0), (122, .iload_n 3, 1, 0, 0), (123, .iadd, 1, 0, 0), (124, .iaload, 1, 0, 0), (125, .i2l, 1, 0, 0), (126, .lcmp, 1, 0, 0), (127, .ifCond .ne 44, 3, 0, 0)],
  [(130, .aload_n 0, 1, 0, 0), (131, .getfield 63, 3, 9, 28), (134, .bipush 40, 2, 0, 0), (136, .iload_n 1, 1, 0, 0), (137, .imul, 1, 0, 0), (138, .iconst 2, 1, 0, 0), (139, .iload_n 3, 1, 0, 0), (140, .imul, 1, 0, 0), (141, .iadd, 1, 0, 0), (142, .iconst 1, 1, 0, 0), (143, .iadd, 1, 0, 0)],
  [(144, .laload, 1, 0, 0), (145, .aload_n 0, 1, 0, 0), (146, .getfield 17, 3, 9, 2), (149, .iload_n 3, 1, 0, 0), (150, .laload, 1, 0, 0), (151, .lcmp, 1, 0, 0), (152, .ifCond .ne 19, 3, 0, 0), (155, .aload_n 0, 1, 0, 0), (156, .getfield 17, 3, 9, 2), (159, .iload_n 3, 1, 0, 0)],
  [(160, .laload, 1, 0, 0), (161, .invokestatic 95, 3, 171, 2), (164, .ifCond .ne 7, 3, 0, 0), (167, .iconst 1, 1, 0, 0), (168, .goto 4, 3, 0, 0), (171, .iconst 0, 1, 0, 0), (172, .istore 4, 2, 0, 0), (174, .iload 4, 2, 0, 0)],
  [(176, .ifCond .ne 5, 3, 0, 0), (179, .iload_n 3, 1, 0, 0), (180, .ireturn, 1, 0, 0), (181, .iinc 3 1, 3, 0, 0), (184, .goto (-104), 3, 0, 0), (187, .iconst (-1), 1, 0, 0), (188, .ireturn, 1, 0, 0)]]
def rX9_judge : xM := (⟨"PulledSignalsModel", "judge", "(II)I"⟩, prog_11_method_99_code, tX9_judge, 9, 5, (some Jvm.ClassFile.FieldType.int), 2, 0, 1520, 1518, 1519, 8)
theorem ok_rX9_judge : xMok rX9_judge = true := by decide +kernel
def tX9_draw : List (List xEnt) := [[(0, .aload_n 0, 1, 0, 0), (1, .getfield 9, 3, 9, 0), (4, .sipush 6917, 3, 0, 0), (7, .aload_n 0, 1, 0, 0), (8, .getfield 9, 3, 9, 0), (11, .sipush 6917, 3, 0, 0), (14, .iaload, 1, 0, 0), (15, .ldc_w 357, 3, 1, 0)],
  [(18, .imul, 1, 0, 0), (19, .sipush 12345, 3, 0, 0), (22, .iadd, 1, 0, 0), (23, .iastore, 1, 0, 0), (24, .aload_n 0, 1, 0, 0), (25, .getfield 9, 3, 9, 0), (28, .sipush 6917, 3, 0, 0), (31, .iaload, 1, 0, 0)],
  [(32, .bipush 16, 2, 0, 0), (34, .iushr, 1, 0, 0), (35, .iload_n 1, 1, 0, 0), (36, .irem, 1, 0, 0), (37, .ireturn, 1, 0, 0)]]
def rX9_draw : xM := (⟨"PulledSignalsModel", "draw", "(I)I"⟩, prog_11_method_100_code, tX9_draw, 9, 2, (some Jvm.ClassFile.FieldType.int), 1, 0, 1530, 1529, 100098, 8)
theorem ok_rX9_draw : xMok rX9_draw = true := by decide +kernel
def tX9_days : List (List xEnt) := [[(0, .iload_n 1, 1, 0, 0), (1, .i2l, 1, 0, 0), (2, .lconst 1, 1, 0, 0), (3, .ldc2_w 358, 3, 24, 0), (6, .invokestatic 72, 3, 163, 2), (9, .ifCond .ne 10, 3, 0, 0), (12, .aload_n 0, 1, 0, 0), (13, .bipush (-2), 2, 0, 0), (15, .invokevirtual 66, 3, 164, 0)],
  [(18, .ireturn, 1, 0, 0), (19, .aload_n 0, 1, 0, 0), (20, .getfield 9, 3, 9, 0), (23, .sipush 6768, 3, 0, 0), (26, .iaload, 1, 0, 0), (27, .ifCond .ne 10, 3, 0, 0), (30, .aload_n 0, 1, 0, 0), (31, .bipush (-5), 2, 0, 0)],
  [(33, .invokevirtual 66, 3, 164, 0), (36, .ireturn, 1, 0, 0), (37, .iconst 0, 1, 0, 0), (38, .istore_n 2, 1, 0, 0), (39, .iconst 0, 1, 0, 0), (40, .istore_n 3, 1, 0, 0), (41, .iload_n 3, 1, 0, 0), (42, .iload_n 1, 1, 0, 0), (43, .if_icmp .ge 74, 3, 0, 0), (46, .aload_n 0, 1, 0, 0), (47, .aload_n 0, 1, 0, 0)],
  [(48, .getfield 9, 3, 9, 0), (51, .sipush 6768, 3, 0, 0), (54, .iaload, 1, 0, 0), (55, .invokevirtual 360, 3, 261, 0), (58, .istore 4, 2, 0, 0), (60, .aload_n 0, 1, 0, 0), (61, .iload 4, 2, 0, 0), (63, .iconst 0, 1, 0, 0)],
  [(64, .invokevirtual 76, 3, 166, 0), (67, .iconst 1, 1, 0, 0), (68, .if_icmp .ne 39, 3, 0, 0), (71, .aload_n 0, 1, 0, 0), (72, .iload 4, 2, 0, 0), (74, .iconst 2, 1, 0, 0), (75, .invokevirtual 76, 3, 166, 0), (78, .ifCond .ne 29, 3, 0, 0)],
  [(81, .iload_n 2, 1, 0, 0), (82, .aload_n 0, 1, 0, 0), (83, .iload 4, 2, 0, 0), (85, .aload_n 0, 1, 0, 0), (86, .bipush 21, 2, 0, 0), (88, .invokevirtual 360, 3, 261, 0), (91, .bipush 10, 2, 0, 0), (93, .isub, 1, 0, 0), (94, .invokevirtual 316, 3, 234, 0)],
  [(97, .ifCond .eq 7, 3, 0, 0), (100, .iconst 1, 1, 0, 0), (101, .goto 4, 3, 0, 0), (104, .iconst 0, 1, 0, 0), (105, .iadd, 1, 0, 0), (106, .istore_n 2, 1, 0, 0), (107, .aload_n 0, 1, 0, 0), (108, .invokevirtual 307, 3, 191, 0), (111, .iinc 3 1, 3, 0, 0)],
  [(114, .goto (-73), 3, 0, 0), (117, .iload_n 2, 1, 0, 0), (118, .ireturn, 1, 0, 0)]]
def rX9_days : xM := (⟨"PulledSignalsModel", "days", "(I)I"⟩, prog_11_method_101_code, tX9_days, 9, 5, (some Jvm.ClassFile.FieldType.int), 1, 0, 1525, 1523, 1524, 8)
theorem ok_rX9_days : xMok rX9_days = true := by decide +kernel
def tX9_seed : List (List xEnt) := [[(0, .aload_n 0, 1, 0, 0), (1, .getfield 9, 3, 9, 0), (4, .sipush 6917, 3, 0, 0), (7, .iaload, 1, 0, 0), (8, .istore_n 2, 1, 0, 0), (9, .aload_n 0, 1, 0, 0), (10, .getfield 9, 3, 9, 0), (13, .sipush 6917, 3, 0, 0)],
  [(16, .iload_n 1, 1, 0, 0), (17, .iastore, 1, 0, 0), (18, .iload_n 2, 1, 0, 0), (19, .ireturn, 1, 0, 0)]]
def rX9_seed : xM := (⟨"PulledSignalsModel", "seed", "(I)I"⟩, prog_11_method_102_code, tX9_seed, 9, 3, (some Jvm.ClassFile.FieldType.int), 1, 0, 1535, 1533, 1534, 8)
theorem ok_rX9_seed : xMok rX9_seed = true := by decide +kernel
def tX9_copies : List (List xEnt) := [[(0, .iconst 0, 1, 0, 0), (1, .istore_n 2, 1, 0, 0), (2, .iload_n 2, 1, 0, 0), (3, .aload_n 0, 1, 0, 0), (4, .arraylength, 1, 0, 0), (5, .if_icmp .ge 15, 3, 0, 0), (8, .aload_n 1, 1, 0, 0), (9, .iload_n 2, 1, 0, 0), (10, .aload_n 0, 1, 0, 0), (11, .iload_n 2, 1, 0, 0), (12, .iaload, 1, 0, 0), (13, .iastore, 1, 0, 0), (14, .iinc 2 1, 3, 0, 0)],
  [(17, .goto (-15), 3, 0, 0), (20, .return_, 1, 0, 0)]]
def rX9_copies : xM := (⟨"PulledSignalsModel", "copies", "([I[I)V"⟩, prog_11_method_103_code, tX9_copies, 9, 3, none, 2, 1, 1542, 1541, 200000, 8)
theorem ok_rX9_copies : xMok rX9_copies = true := by decide +kernel
def tX9_copies_ : List (List xEnt) := [[(0, .iconst 0, 1, 0, 0), (1, .istore_n 2, 1, 0, 0), (2, .iload_n 2, 1, 0, 0), (3, .aload_n 0, 1, 0, 0), (4, .arraylength, 1, 0, 0), (5, .if_icmp .ge 15, 3, 0, 0), (8, .aload_n 1, 1, 0, 0), (9, .iload_n 2, 1, 0, 0), (10, .aload_n 0, 1, 0, 0), (11, .iload_n 2, 1, 0, 0), (12, .laload, 1, 0, 0), (13, .lastore, 1, 0, 0), (14, .iinc 2 1, 3, 0, 0)],
  [(17, .goto (-15), 3, 0, 0), (20, .return_, 1, 0, 0)]]
def rX9_copies_ : xM := (⟨"PulledSignalsModel", "copies", "([J[J)V"⟩, prog_11_method_104_code, tX9_copies_, 9, 3, none, 2, 1, 1545, 1544, 200000, 8)
theorem ok_rX9_copies_ : xMok rX9_copies_ = true := by decide +kernel
def tX9_image : List (List xEnt) := [[(0, .aload_n 0, 1, 0, 0), (1, .getfield 9, 3, 9, 0), (4, .aload_n 0, 1, 0, 0), (5, .getfield 20, 3, 9, 3), (8, .invokestatic 363, 3, 264, 2), (11, .aload_n 0, 1, 0, 0), (12, .getfield 13, 3, 9, 1), (15, .aload_n 0, 1, 0, 0)],
  [(16, .getfield 23, 3, 9, 4), (19, .invokestatic 367, 3, 265, 2), (22, .aload_n 0, 1, 0, 0), (23, .getfield 17, 3, 9, 2), (26, .aload_n 0, 1, 0, 0), (27, .getfield 26, 3, 9, 5), (30, .invokestatic 367, 3, 265, 2)],
  [(33, .aload_n 0, 1, 0, 0), (34, .getfield 33, 3, 9, 8), (37, .aload_n 0, 1, 0, 0), (38, .getfield 36, 3, 9, 9), (41, .invokestatic 363, 3, 264, 2), (44, .aload_n 0, 1, 0, 0), (45, .iconst 1, 1, 0, 0), (46, .putfield 370, 3, 9, 6)],
  [(49, .iconst 1, 1, 0, 0), (50, .ireturn, 1, 0, 0)]]
def rX9_image : xM := (⟨"PulledSignalsModel", "image", "()I"⟩, prog_11_method_105_code, tX9_image, 9, 1, (some Jvm.ClassFile.FieldType.int), 0, 0, 1539, 1537, 1538, 8)
theorem ok_rX9_image : xMok rX9_image = true := by decide +kernel
def tX9_back : List (List xEnt) := [[(0, .aload_n 0, 1, 0, 0), (1, .getfield 370, 3, 9, 6), (4, .ifCond .ne 10, 3, 0, 0), (7, .aload_n 0, 1, 0, 0), (8, .bipush (-5), 2, 0, 0), (10, .invokevirtual 66, 3, 164, 0), (13, .ireturn, 1, 0, 0), (14, .aload_n 0, 1, 0, 0), (15, .getfield 20, 3, 9, 3)],
  [(18, .aload_n 0, 1, 0, 0), (19, .getfield 9, 3, 9, 0), (22, .invokestatic 363, 3, 264, 2), (25, .aload_n 0, 1, 0, 0), (26, .getfield 23, 3, 9, 4), (29, .aload_n 0, 1, 0, 0), (30, .getfield 13, 3, 9, 1)],
  [(33, .invokestatic 367, 3, 265, 2), (36, .aload_n 0, 1, 0, 0), (37, .getfield 26, 3, 9, 5), (40, .aload_n 0, 1, 0, 0), (41, .getfield 17, 3, 9, 2), (44, .invokestatic 367, 3, 265, 2), (47, .aload_n 0, 1, 0, 0)],
  [(48, .getfield 36, 3, 9, 9), (51, .aload_n 0, 1, 0, 0), (52, .getfield 33, 3, 9, 8), (55, .invokestatic 363, 3, 264, 2), (58, .iconst 0, 1, 0, 0), (59, .istore_n 1, 1, 0, 0), (60, .iload_n 1, 1, 0, 0), (61, .bipush 8, 2, 0, 0), (63, .if_icmp .ge 45, 3, 0, 0)],
  [(66, .aload_n 0, 1, 0, 0), (67, .getfield 57, 3, 9, 26), (70, .iload_n 1, 1, 0, 0), (71, .aload_n 0, 1, 0, 0), (72, .getfield 57, 3, 9, 26), (75, .iload_n 1, 1, 0, 0), (76, .iaload, 1, 0, 0), (77, .bipush 10, 2, 0, 0), (79, .aload_n 0, 1, 0, 0)],
  [(80, .getfield 9, 3, 9, 0), (83, .sipush 6768, 3, 0, 0), (86, .iaload, 1, 0, 0), (87, .iadd, 1, 0, 0), (88, .if_icmp .lt 7, 3, 0, 0), (91, .iconst (-1), 1, 0, 0), (92, .goto 9, 3, 0, 0), (95, .aload_n 0, 1, 0, 0)],
  [(96, .getfield 57, 3, 9, 26), (99, .iload_n 1, 1, 0, 0), (100, .iaload, 1, 0, 0), (101, .iastore, 1, 0, 0), (102, .iinc 1 1, 3, 0, 0), (105, .goto (-45), 3, 0, 0), (108, .iconst 1, 1, 0, 0), (109, .ireturn, 1, 0, 0)]]
def rX9_back : xM := (⟨"PulledSignalsModel", "back", "()I"⟩, prog_11_method_106_code, tX9_back, 9, 2, (some Jvm.ClassFile.FieldType.int), 0, 0, 1549, 1547, 1548, 8)
theorem ok_rX9_back : xMok rX9_back = true := by decide +kernel
def tX9_gone : List (List xEnt) := [[(0, .iconst 0, 1, 0, 0), (1, .istore_n 1, 1, 0, 0), (2, .iconst 0, 1, 0, 0), (3, .istore_n 2, 1, 0, 0), (4, .iload_n 2, 1, 0, 0), (5, .aload_n 0, 1, 0, 0), (6, .getfield 9, 3, 9, 0), (9, .sipush 6768, 3, 0, 0), (12, .iaload, 1, 0, 0), (13, .if_icmp .ge 18, 3, 0, 0)],
  [(16, .iload_n 1, 1, 0, 0), (17, .aload_n 0, 1, 0, 0), (18, .iload_n 2, 1, 0, 0), (19, .iconst 2, 1, 0, 0), (20, .invokevirtual 76, 3, 166, 0), (23, .iadd, 1, 0, 0), (24, .istore_n 1, 1, 0, 0), (25, .iinc 2 1, 3, 0, 0), (28, .goto (-24), 3, 0, 0), (31, .iload_n 1, 1, 0, 0)],
  [(32, .ireturn, 1, 0, 0)]]
def rX9_gone : xM := (⟨"PulledSignalsModel", "gone", "()I"⟩, prog_11_method_107_code, tX9_gone, 9, 3, (some Jvm.ClassFile.FieldType.int), 0, 0, 1557, 1556, 100099, 8)
theorem ok_rX9_gone : xMok rX9_gone = true := by decide +kernel
def tX9_runsAll : List (List xEnt) := [[(0, .iconst 0, 1, 0, 0), (1, .istore_n 1, 1, 0, 0), (2, .iconst 0, 1, 0, 0), (3, .istore_n 2, 1, 0, 0), (4, .iload_n 2, 1, 0, 0), (5, .aload_n 0, 1, 0, 0), (6, .getfield 9, 3, 9, 0), (9, .sipush 6768, 3, 0, 0), (12, .iaload, 1, 0, 0), (13, .if_icmp .ge 18, 3, 0, 0)],
  [(16, .iload_n 1, 1, 0, 0), (17, .aload_n 0, 1, 0, 0), (18, .iload_n 2, 1, 0, 0), (19, .iconst 5, 1, 0, 0), (20, .invokevirtual 76, 3, 166, 0), (23, .iadd, 1, 0, 0), (24, .istore_n 1, 1, 0, 0), (25, .iinc 2 1, 3, 0, 0), (28, .goto (-24), 3, 0, 0), (31, .iload_n 1, 1, 0, 0)],
  [(32, .ireturn, 1, 0, 0)]]
def rX9_runsAll : xM := (⟨"PulledSignalsModel", "runsAll", "()I"⟩, prog_11_method_108_code, tX9_runsAll, 9, 3, (some Jvm.ClassFile.FieldType.int), 0, 0, 1561, 1560, 100100, 8)
theorem ok_rX9_runsAll : xMok rX9_runsAll = true := by decide +kernel
def tX9_held : List (List xEnt) := [[(0, .iconst 0, 1, 0, 0), (1, .istore_n 1, 1, 0, 0), (2, .iconst 0, 1, 0, 0), (3, .istore_n 2, 1, 0, 0), (4, .iload_n 2, 1, 0, 0), (5, .bipush 8, 2, 0, 0), (7, .if_icmp .ge 26, 3, 0, 0), (10, .iload_n 1, 1, 0, 0), (11, .aload_n 0, 1, 0, 0), (12, .getfield 57, 3, 9, 26), (15, .iload_n 2, 1, 0, 0)],
  [(16, .iaload, 1, 0, 0), (17, .ifCond .lt 7, 3, 0, 0), (20, .iconst 1, 1, 0, 0), (21, .goto 4, 3, 0, 0), (24, .iconst 0, 1, 0, 0), (25, .iadd, 1, 0, 0), (26, .istore_n 1, 1, 0, 0), (27, .iinc 2 1, 3, 0, 0), (30, .goto (-26), 3, 0, 0)],
  [(33, .iload_n 1, 1, 0, 0), (34, .ireturn, 1, 0, 0)]]
def rX9_held : xM := (⟨"PulledSignalsModel", "held", "()I"⟩, prog_11_method_109_code, tX9_held, 9, 3, (some Jvm.ClassFile.FieldType.int), 0, 0, 1565, 1564, 100101, 8)
theorem ok_rX9_held : xMok rX9_held = true := by decide +kernel
def tX9_status : List (List xEnt) := [[(0, .iload_n 1, 1, 0, 0), (1, .tableswitch 129 0 9 #[55, 64, 69, 78, 87, 96, 105, 110, 115, 124], 55, 0, 0)],
  [],
  [],
  [(56, .aload_n 0, 1, 0, 0), (57, .getfield 9, 3, 9, 0), (60, .sipush 6768, 3, 0, 0), (63, .iaload, 1, 0, 0)],
  [(64, .ireturn, 1, 0, 0), (65, .aload_n 0, 1, 0, 0), (66, .invokevirtual 374, 3, 268, 0), (69, .ireturn, 1, 0, 0), (70, .aload_n 0, 1, 0, 0), (71, .getfield 9, 3, 9, 0), (74, .sipush 6769, 3, 0, 0), (77, .iaload, 1, 0, 0), (78, .ireturn, 1, 0, 0), (79, .aload_n 0, 1, 0, 0)],
  [(80, .getfield 9, 3, 9, 0), (83, .sipush 6770, 3, 0, 0), (86, .iaload, 1, 0, 0), (87, .ireturn, 1, 0, 0), (88, .aload_n 0, 1, 0, 0), (89, .getfield 9, 3, 9, 0), (92, .sipush 6795, 3, 0, 0), (95, .iaload, 1, 0, 0)],
  [(96, .ireturn, 1, 0, 0), (97, .aload_n 0, 1, 0, 0), (98, .getfield 9, 3, 9, 0), (101, .sipush 6856, 3, 0, 0), (104, .iaload, 1, 0, 0), (105, .ireturn, 1, 0, 0), (106, .aload_n 0, 1, 0, 0), (107, .invokevirtual 377, 3, 269, 0), (110, .ireturn, 1, 0, 0), (111, .aload_n 0, 1, 0, 0)],
  [(112, .getfield 201, 3, 9, 12), (115, .ireturn, 1, 0, 0), (116, .aload_n 0, 1, 0, 0), (117, .getfield 9, 3, 9, 0), (120, .sipush 6917, 3, 0, 0), (123, .iaload, 1, 0, 0), (124, .ireturn, 1, 0, 0), (125, .aload_n 0, 1, 0, 0), (126, .invokevirtual 380, 3, 270, 0)],
  [(129, .ireturn, 1, 0, 0), (130, .iload_n 1, 1, 0, 0), (131, .i2l, 1, 0, 0), (132, .ldc2_w 383, 3, 25, 0), (135, .ldc2_w 385, 3, 26, 0), (138, .invokestatic 72, 3, 163, 2), (141, .ifCond .eq 15, 3, 0, 0)],
  [(144, .aload_n 0, 1, 0, 0), (145, .getfield 39, 3, 9, 10), (148, .iload_n 1, 1, 0, 0), (149, .bipush 10, 2, 0, 0), (151, .isub, 1, 0, 0), (152, .iaload, 1, 0, 0), (153, .goto 4, 3, 0, 0), (156, .iconst (-1), 1, 0, 0), (157, .ireturn, 1, 0, 0)]]
def rX9_status : xM := (⟨"PulledSignalsModel", "status", "(I)I"⟩, prog_11_method_110_code, tX9_status, 9, 2, (some Jvm.ClassFile.FieldType.int), 1, 0, 1553, 1551, 1552, 8)
theorem ok_rX9_status : xMok rX9_status = true := by decide +kernel
