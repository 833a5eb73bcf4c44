def tX0_init : List (List xEnt) := [[(0, .aload_n 0, 1, 0, 0), (1, .invokespecial 3, 3, 0, 9), (4, .aload_n 0, 1, 0, 0), (5, .bipush 24, 2, 0, 0), (7, .newarray .long, 2, 1, 0), (9, .putfield 9, 3, 0, 1), (12, .aload_n 0, 1, 0, 0), (13, .bipush 24, 2, 0, 0), (15, .newarray .int, 2, 0, 0)],
  [(17, .putfield 15, 3, 0, 2), (20, .aload_n 0, 1, 0, 0), (21, .aload_n 1, 1, 0, 0), (22, .putfield 19, 3, 0, 0), (25, .return_, 1, 0, 0)]]
def rX0_init : xM := (⟨"PulledSignals$Beside", "<init>", "(LPulledSignals$Web;)V"⟩, prog_2_method_1_code, tX0_init, 0, 2, none, 1, 2, 101, 100, 200000, 5)
theorem ok_rX0_init : xMok rX0_init = true := by decide +kernel
def tX0_outcomeNow : List (List xEnt) := [[(0, .aload_n 0, 1, 0, 0), (1, .iconst (-1), 1, 0, 0), (2, .iconst 0, 1, 0, 0), (3, .iload_n 1, 1, 0, 0), (4, .invokevirtual 23, 3, 2, 0), (7, .lreturn, 1, 0, 0)]]
def rX0_outcomeNow : xM := (⟨"PulledSignals$Beside", "outcomeNow", "(I)J"⟩, prog_2_method_2_code, tX0_outcomeNow, 0, 2, (some Jvm.ClassFile.FieldType.long), 1, 0, 834, 832, 833, 5)
theorem ok_rX0_outcomeNow : xMok rX0_outcomeNow = true := by decide +kernel
def tX0_outcomeIf : List (List xEnt) := [[(0, .aload_n 0, 1, 0, 0), (1, .iload_n 1, 1, 0, 0), (2, .putfield 27, 3, 0, 3), (5, .aload_n 0, 1, 0, 0), (6, .iload_n 2, 1, 0, 0), (7, .putfield 31, 3, 0, 4), (10, .iconst 0, 1, 0, 0), (11, .istore 4, 2, 0, 0), (13, .iload 4, 2, 0, 0), (15, .aload_n 0, 1, 0, 0)],
  [(16, .getfield 15, 3, 0, 2), (19, .arraylength, 1, 0, 0), (20, .if_icmp .ge 17, 3, 0, 0), (23, .aload_n 0, 1, 0, 0), (24, .getfield 15, 3, 0, 2), (27, .iload 4, 2, 0, 0), (29, .iconst 0, 1, 0, 0), (30, .iastore, 1, 0, 0), (31, .iinc 4 1, 3, 0, 0)],
  [(34, .goto (-21), 3, 0, 0), (37, .aload_n 0, 1, 0, 0), (38, .iload_n 3, 1, 0, 0), (39, .iconst 0, 1, 0, 0), (40, .invokevirtual 34, 3, 3, 0), (43, .lreturn, 1, 0, 0)]]
def rX0_outcomeIf : xM := (⟨"PulledSignals$Beside", "outcomeIf", "(III)J"⟩, prog_2_method_3_code, tX0_outcomeIf, 0, 5, (some Jvm.ClassFile.FieldType.long), 3, 0, 838, 836, 837, 5)
theorem ok_rX0_outcomeIf : xMok rX0_outcomeIf = true := by decide +kernel
def tX0_outcomeOf : List (List xEnt) := [[(0, .aload_n 0, 1, 0, 0), (1, .getfield 19, 3, 0, 0), (4, .iload_n 1, 1, 0, 0), (5, .invokevirtual 38, 3, 87, 0), (8, .astore_n 3, 1, 0, 0), (9, .aload_n 3, 1, 0, 0), (10, .ifnull 9, 3, 0, 0), (13, .iload_n 2, 1, 0, 0), (14, .bipush 24, 2, 0, 0)],
  [(16, .if_icmp .le 7, 3, 0, 0), (19, .ldc2_w 44, 3, 0, 0), (22, .lreturn, 1, 0, 0), (23, .aload_n 3, 1, 0, 0), (24, .getfield 46, 3, 1, 0), (27, .iconst 1, 1, 0, 0), (28, .if_icmp .ne 24, 3, 0, 0), (31, .iload_n 1, 1, 0, 0)],
  [(32, .aload_n 0, 1, 0, 0), (33, .getfield 27, 3, 0, 3), (36, .if_icmp .ne 11, 3, 0, 0), (39, .aload_n 0, 1, 0, 0), (40, .getfield 31, 3, 0, 4), (43, .i2l, 1, 0, 0), (44, .goto 7, 3, 0, 0), (47, .aload_n 3, 1, 0, 0)],
  [(48, .getfield 51, 3, 1, 7), (51, .lreturn, 1, 0, 0), (52, .aload_n 3, 1, 0, 0), (53, .getfield 55, 3, 1, 8), (56, .astore 4, 2, 0, 0), (58, .aload 4, 2, 0, 0), (60, .ifnull 21, 3, 0, 0), (63, .iload_n 1, 1, 0, 0)],
  [(64, .aload_n 0, 1, 0, 0), (65, .getfield 15, 3, 0, 2), (68, .arraylength, 1, 0, 0), (69, .if_icmp .ge 12, 3, 0, 0), (72, .iload_n 1, 1, 0, 0), (73, .aload_n 0, 1, 0, 0), (74, .getfield 9, 3, 0, 1), (77, .arraylength, 1, 0, 0), (78, .if_icmp .lt 7, 3, 0, 0)],
  [(81, .ldc2_w 44, 3, 0, 0), (84, .lreturn, 1, 0, 0), (85, .aload_n 0, 1, 0, 0), (86, .getfield 15, 3, 0, 2), (89, .iload_n 1, 1, 0, 0), (90, .iaload, 1, 0, 0), (91, .iconst 1, 1, 0, 0), (92, .if_icmp .ne 7, 3, 0, 0), (95, .ldc2_w 59, 3, 1, 0)],
  [(98, .lreturn, 1, 0, 0), (99, .aload_n 0, 1, 0, 0), (100, .getfield 15, 3, 0, 2), (103, .iload_n 1, 1, 0, 0), (104, .iaload, 1, 0, 0), (105, .iconst 2, 1, 0, 0), (106, .if_icmp .ne 10, 3, 0, 0), (109, .aload_n 0, 1, 0, 0), (110, .getfield 9, 3, 0, 1)],
  [(113, .iload_n 1, 1, 0, 0), (114, .laload, 1, 0, 0), (115, .lreturn, 1, 0, 0), (116, .aload_n 0, 1, 0, 0), (117, .getfield 15, 3, 0, 2), (120, .iload_n 1, 1, 0, 0), (121, .iconst 1, 1, 0, 0), (122, .iastore, 1, 0, 0), (123, .aload 4, 2, 0, 0), (125, .invokevirtual 61, 3, 14, 0)],
  [(128, .iconst 0, 1, 0, 0), (129, .istore 5, 2, 0, 0), (131, .iload 5, 2, 0, 0), (133, .sipush 250, 3, 0, 0), (136, .if_icmp .ge 32, 3, 0, 0), (139, .aload 4, 2, 0, 0), (141, .invokevirtual 66, 3, 15, 0)],
  [(144, .ifCond .eq 24, 3, 0, 0), (147, .aload 4, 2, 0, 0), (149, .aload_n 0, 1, 0, 0), (150, .aload 4, 2, 0, 0), (152, .invokevirtual 70, 3, 12, 0), (155, .iload_n 2, 1, 0, 0), (156, .invokevirtual 74, 3, 4, 0), (159, .invokevirtual 77, 3, 16, 0)],
  [(162, .iinc 5 1, 3, 0, 0), (165, .goto (-34), 3, 0, 0), (168, .aload_n 0, 1, 0, 0), (169, .getfield 15, 3, 0, 2), (172, .iload_n 1, 1, 0, 0), (173, .iconst 2, 1, 0, 0), (174, .iastore, 1, 0, 0), (175, .aload_n 0, 1, 0, 0)],
  [(176, .getfield 9, 3, 0, 1), (179, .iload_n 1, 1, 0, 0), (180, .aload 4, 2, 0, 0), (182, .invokevirtual 81, 3, 17, 0), (185, .lastore, 1, 0, 0), (186, .aload_n 0, 1, 0, 0), (187, .getfield 9, 3, 0, 1), (190, .iload_n 1, 1, 0, 0), (191, .laload, 1, 0, 0)],
  [(192, .lreturn, 1, 0, 0)]]
def rX0_outcomeOf : xM := (⟨"PulledSignals$Beside", "outcomeOf", "(II)J"⟩, prog_2_method_4_code, tX0_outcomeOf, 0, 6, (some Jvm.ClassFile.FieldType.long), 2, 0, 842, 841, 100036, 5)
theorem ok_rX0_outcomeOf : xMok rX0_outcomeOf = true := by decide +kernel
def tX0_outcomeRead : List (List xEnt) := [[(0, .aload_n 0, 1, 0, 0), (1, .getfield 19, 3, 0, 0), (4, .iload_n 1, 1, 0, 0), (5, .invokevirtual 38, 3, 87, 0), (8, .astore_n 3, 1, 0, 0), (9, .aload_n 3, 1, 0, 0), (10, .ifnull 21, 3, 0, 0), (13, .aload_n 3, 1, 0, 0), (14, .invokevirtual 84, 3, 9, 0)],
  [(17, .ifCond .eq 14, 3, 0, 0), (20, .aload_n 0, 1, 0, 0), (21, .iload_n 1, 1, 0, 0), (22, .iload_n 2, 1, 0, 0), (23, .iconst 1, 1, 0, 0), (24, .iadd, 1, 0, 0), (25, .invokevirtual 34, 3, 3, 0), (28, .goto 6, 3, 0, 0), (31, .ldc2_w 44, 3, 0, 0)],
  [(34, .lreturn, 1, 0, 0)]]
def rX0_outcomeRead : xM := (⟨"PulledSignals$Beside", "outcomeRead", "(II)J"⟩, prog_2_method_5_code, tX0_outcomeRead, 0, 4, (some Jvm.ClassFile.FieldType.long), 2, 0, 852, 851, 100037, 5)
theorem ok_rX0_outcomeRead : xMok rX0_outcomeRead = true := by decide +kernel
def tX1_init : List (List xEnt) := [[(0, .aload_n 0, 1, 0, 0), (1, .invokespecial 3, 3, 0, 9), (4, .aload_n 0, 1, 0, 0), (5, .new 9, 3, 4, 0), (8, .dup, 1, 0, 0), (9, .bipush 24, 2, 0, 0), (11, .invokespecial 11, 3, 43, 4), (14, .putfield 14, 3, 1, 9)],
  [(17, .return_, 1, 0, 0)]]
def rX1_init : xM := (⟨"PulledSignals$Cell", "<init>", "()V"⟩, prog_3_method_1_code, tX1_init, 1, 1, none, 0, 2, 373, 372, 200000, 10)
theorem ok_rX1_init : xMok rX1_init = true := by decide +kernel
def tX1_become : List (List xEnt) := [[(0, .aload_n 0, 1, 0, 0), (1, .iload_n 1, 1, 0, 0), (2, .putfield 20, 3, 1, 0), (5, .aload_n 0, 1, 0, 0), (6, .iload_n 2, 1, 0, 0), (7, .putfield 24, 3, 1, 1), (10, .aload_n 0, 1, 0, 0), (11, .iconst 0, 1, 0, 0), (12, .putfield 27, 3, 1, 2), (15, .aload_n 0, 1, 0, 0)],
  [(16, .iconst 0, 1, 0, 0), (17, .putfield 31, 3, 1, 3), (20, .aload_n 0, 1, 0, 0), (21, .aload 5, 2, 0, 0), (23, .ifnonnull 7, 3, 0, 0), (26, .iconst 0, 1, 0, 0), (27, .goto 4, 3, 0, 0), (30, .iconst 2, 1, 0, 0), (31, .putfield 34, 3, 1, 4)],
  [(34, .aload_n 0, 1, 0, 0), (35, .lconst 0, 1, 0, 0), (36, .putfield 37, 3, 1, 5), (39, .aload_n 0, 1, 0, 0), (40, .iconst 0, 1, 0, 0), (41, .putfield 41, 3, 1, 6), (44, .aload_n 0, 1, 0, 0), (45, .lload_n 3, 1, 0, 0), (46, .putfield 44, 3, 1, 7)],
  [(49, .aload_n 0, 1, 0, 0), (50, .aload 5, 2, 0, 0), (52, .putfield 47, 3, 1, 8), (55, .aload_n 0, 1, 0, 0), (56, .getfield 14, 3, 1, 9), (59, .invokevirtual 51, 3, 55, 0), (62, .return_, 1, 0, 0)]]
def rX1_become : xM := (⟨"PulledSignals$Cell", "become", "(IIJLPulledSignals$Formula;)V"⟩, prog_3_method_2_code, tX1_become, 1, 6, none, 4, 0, 438, 436, 437, 10)
theorem ok_rX1_become : xMok rX1_become = true := by decide +kernel
def tX1_takeFrom : List (List xEnt) := [[(0, .aload_n 0, 1, 0, 0), (1, .aload_n 1, 1, 0, 0), (2, .getfield 20, 3, 1, 0), (5, .putfield 20, 3, 1, 0), (8, .aload_n 0, 1, 0, 0), (9, .aload_n 1, 1, 0, 0), (10, .getfield 24, 3, 1, 1), (13, .putfield 24, 3, 1, 1)],
  [(16, .aload_n 0, 1, 0, 0), (17, .aload_n 1, 1, 0, 0), (18, .getfield 27, 3, 1, 2), (21, .putfield 27, 3, 1, 2), (24, .aload_n 0, 1, 0, 0), (25, .iconst 0, 1, 0, 0), (26, .putfield 31, 3, 1, 3), (29, .aload_n 0, 1, 0, 0), (30, .aload_n 1, 1, 0, 0), (31, .getfield 34, 3, 1, 4)],
  [(34, .putfield 34, 3, 1, 4), (37, .aload_n 0, 1, 0, 0), (38, .aload_n 1, 1, 0, 0), (39, .getfield 37, 3, 1, 5), (42, .putfield 37, 3, 1, 5), (45, .aload_n 0, 1, 0, 0), (46, .aload_n 1, 1, 0, 0), (47, .getfield 41, 3, 1, 6)],
  [(50, .putfield 41, 3, 1, 6), (53, .aload_n 0, 1, 0, 0), (54, .aload_n 1, 1, 0, 0), (55, .getfield 44, 3, 1, 7), (58, .putfield 44, 3, 1, 7), (61, .aload_n 0, 1, 0, 0), (62, .aload_n 1, 1, 0, 0), (63, .getfield 47, 3, 1, 8)],
  [(66, .putfield 47, 3, 1, 8), (69, .aload_n 0, 1, 0, 0), (70, .getfield 14, 3, 1, 9), (73, .aload_n 1, 1, 0, 0), (74, .getfield 14, 3, 1, 9), (77, .invokevirtual 54, 3, 56, 0)],
  [(80, .return_, 1, 0, 0)]]
def rX1_takeFrom : xM := (⟨"PulledSignals$Cell", "takeFrom", "(LPulledSignals$Cell;)V"⟩, prog_3_method_3_code, tX1_takeFrom, 1, 2, none, 1, 0, 950, 948, 949, 10)
theorem ok_rX1_takeFrom : xMok rX1_takeFrom = true := by decide +kernel
def tX1_isOf : List (List xEnt) := [[(0, .iload_n 1, 1, 0, 0), (1, .ifCond .eq 32, 3, 0, 0), (4, .iload_n 1, 1, 0, 0), (5, .aload_n 0, 1, 0, 0), (6, .getfield 20, 3, 1, 0), (9, .if_icmp .eq 24, 3, 0, 0), (12, .iload_n 1, 1, 0, 0), (13, .iconst 2, 1, 0, 0), (14, .if_icmp .ne 23, 3, 0, 0)],
  [(17, .aload_n 0, 1, 0, 0), (18, .getfield 20, 3, 1, 0), (21, .iconst 3, 1, 0, 0), (22, .if_icmp .eq 11, 3, 0, 0), (25, .aload_n 0, 1, 0, 0), (26, .getfield 20, 3, 1, 0), (29, .iconst 4, 1, 0, 0), (30, .if_icmp .ne 7, 3, 0, 0)],
  [(33, .iconst 1, 1, 0, 0), (34, .goto 4, 3, 0, 0), (37, .iconst 0, 1, 0, 0), (38, .ireturn, 1, 0, 0)]]
def rX1_isOf : xM := (⟨"PulledSignals$Cell", "isOf", "(I)Z"⟩, prog_3_method_4_code, tX1_isOf, 1, 2, (some Jvm.ClassFile.FieldType.boolean), 1, 0, 310, 308, 309, 10)
theorem ok_rX1_isOf : xMok rX1_isOf = true := by decide +kernel
def tX1_isReadable : List (List xEnt) := [[(0, .aload_n 0, 1, 0, 0), (1, .getfield 27, 3, 1, 2), (4, .ifCond .ne 23, 3, 0, 0), (7, .aload_n 0, 1, 0, 0), (8, .getfield 20, 3, 1, 0), (11, .iconst 1, 1, 0, 0), (12, .if_icmp .eq 11, 3, 0, 0), (15, .aload_n 0, 1, 0, 0)],
  [(16, .getfield 20, 3, 1, 0), (19, .iconst 3, 1, 0, 0), (20, .if_icmp .ne 7, 3, 0, 0), (23, .iconst 1, 1, 0, 0), (24, .goto 4, 3, 0, 0), (27, .iconst 0, 1, 0, 0), (28, .ireturn, 1, 0, 0)]]
def rX1_isReadable : xM := (⟨"PulledSignals$Cell", "isReadable", "()Z"⟩, prog_3_method_5_code, tX1_isReadable, 1, 1, (some Jvm.ClassFile.FieldType.boolean), 0, 0, 711, 709, 710, 10)
theorem ok_rX1_isReadable : xMok rX1_isReadable = true := by decide +kernel
def tX2_init : List (List xEnt) := [[(0, .aload_n 0, 1, 0, 0), (1, .invokespecial 3, 3, 0, 9), (4, .aload_n 0, 1, 0, 0), (5, .aload_n 1, 1, 0, 0), (6, .invokevirtual 9, 3, 57, 0), (9, .putfield 15, 3, 2, 0), (12, .aload_n 0, 1, 0, 0), (13, .aload_n 2, 1, 0, 0), (14, .invokevirtual 9, 3, 57, 0)],
  [(17, .putfield 21, 3, 2, 1), (20, .aload_n 0, 1, 0, 0), (21, .aload_n 3, 1, 0, 0), (22, .invokevirtual 9, 3, 57, 0), (25, .putfield 24, 3, 2, 2), (28, .aload_n 0, 1, 0, 0), (29, .new 10, 3, 4, 0)],
  [(32, .dup, 1, 0, 0), (33, .iload 4, 2, 0, 0), (35, .invokespecial 27, 3, 43, 4), (38, .putfield 30, 3, 2, 3), (41, .return_, 1, 0, 0)]]
def rX2_init : xM := (⟨"PulledSignals$Formula", "<init>", "(LPulledSignals$Numbers;LPulledSignals$Numbers;LPulledSignals$Numbers;I)V"⟩, prog_4_method_1_code, tX2_init, 2, 5, none, 4, 2, 566, 565, 200000, 12)
theorem ok_rX2_init : xMok rX2_init = true := by decide +kernel
def tX2_letterAt : List (List xEnt) := [[(0, .aload_n 0, 1, 0, 0), (1, .getfield 24, 3, 2, 2), (4, .iload_n 1, 1, 0, 0), (5, .invokevirtual 33, 3, 46, 0), (8, .ireturn, 1, 0, 0)]]
def rX2_letterAt : xM := (⟨"PulledSignals$Formula", "letterAt", "(I)I"⟩, prog_4_method_2_code, tX2_letterAt, 2, 2, (some Jvm.ClassFile.FieldType.int), 1, 0, 822, 820, 821, 12)
theorem ok_rX2_letterAt : xMok rX2_letterAt = true := by decide +kernel
def tX2_asked : List (List xEnt) := [[(0, .aload_n 0, 1, 0, 0), (1, .getfield 37, 3, 2, 6), (4, .ireturn, 1, 0, 0)]]
def rX2_asked : xM := (⟨"PulledSignals$Formula", "asked", "()I"⟩, prog_4_method_3_code, tX2_asked, 2, 1, (some Jvm.ClassFile.FieldType.int), 0, 0, 703, 701, 702, 12)
theorem ok_rX2_asked : xMok rX2_asked = true := by decide +kernel
def tX2_isTracked : List (List xEnt) := [[(0, .aload_n 0, 1, 0, 0), (1, .getfield 41, 3, 2, 7), (4, .ireturn, 1, 0, 0)]]
def rX2_isTracked : xM := (⟨"PulledSignals$Formula", "isTracked", "()Z"⟩, prog_4_method_4_code, tX2_isTracked, 2, 1, (some Jvm.ClassFile.FieldType.boolean), 0, 0, 716, 714, 715, 12)
theorem ok_rX2_isTracked : xMok rX2_isTracked = true := by decide +kernel
def tX2_start : List (List xEnt) := [[(0, .aload_n 0, 1, 0, 0), (1, .iconst 0, 1, 0, 0), (2, .putfield 45, 3, 2, 4), (5, .aload_n 0, 1, 0, 0), (6, .lconst 0, 1, 0, 0), (7, .putfield 48, 3, 2, 5), (10, .aload_n 0, 1, 0, 0), (11, .getfield 30, 3, 2, 3), (14, .invokevirtual 52, 3, 55, 0)],
  [(17, .return_, 1, 0, 0)]]
def rX2_start : xM := (⟨"PulledSignals$Formula", "start", "()V"⟩, prog_4_method_5_code, tX2_start, 2, 1, none, 0, 0, 675, 673, 674, 12)
theorem ok_rX2_start : xMok rX2_start = true := by decide +kernel
def tX2_goesOn : List (List xEnt) := [[(0, .iconst 0, 1, 0, 0), (1, .istore_n 1, 1, 0, 0), (2, .iload_n 1, 1, 0, 0), (3, .sipush 250, 3, 0, 0), (6, .if_icmp .ge 106, 3, 0, 0), (9, .aload_n 0, 1, 0, 0), (10, .getfield 45, 3, 2, 4), (13, .aload_n 0, 1, 0, 0), (14, .getfield 15, 3, 2, 0)],
  [(17, .invokevirtual 55, 3, 44, 0), (20, .if_icmp .ge 92, 3, 0, 0), (23, .aload_n 0, 1, 0, 0), (24, .getfield 48, 3, 2, 5), (27, .lconst 0, 1, 0, 0), (28, .lcmp, 1, 0, 0), (29, .ifCond .ne 83, 3, 0, 0)],
  [(32, .aload_n 0, 1, 0, 0), (33, .getfield 15, 3, 2, 0), (36, .aload_n 0, 1, 0, 0), (37, .getfield 45, 3, 2, 4), (40, .invokevirtual 33, 3, 46, 0), (43, .istore_n 2, 1, 0, 0), (44, .aload_n 0, 1, 0, 0), (45, .getfield 21, 3, 2, 1)],
  [(48, .aload_n 0, 1, 0, 0), (49, .getfield 45, 3, 2, 4), (52, .invokevirtual 33, 3, 46, 0), (55, .istore_n 3, 1, 0, 0), (56, .aload_n 0, 1, 0, 0), (57, .dup, 1, 0, 0), (58, .getfield 45, 3, 2, 4), (61, .iconst 1, 1, 0, 0), (62, .iadd, 1, 0, 0), (63, .putfield 45, 3, 2, 4)],
  [(66, .iload_n 2, 1, 0, 0), (67, .bipush 11, 2, 0, 0), (69, .if_icmp .eq 9, 3, 0, 0), (72, .iload_n 2, 1, 0, 0), (73, .bipush 12, 2, 0, 0), (75, .if_icmp .ne 25, 3, 0, 0), (78, .aload_n 0, 1, 0, 0), (79, .iload_n 3, 1, 0, 0)],
  [(80, .putfield 37, 3, 2, 6), (83, .aload_n 0, 1, 0, 0), (84, .iload_n 2, 1, 0, 0), (85, .bipush 11, 2, 0, 0), (87, .if_icmp .ne 7, 3, 0, 0), (90, .iconst 1, 1, 0, 0), (91, .goto 4, 3, 0, 0), (94, .iconst 0, 1, 0, 0), (95, .putfield 41, 3, 2, 7)],
  [(98, .iconst 1, 1, 0, 0), (99, .ireturn, 1, 0, 0), (100, .aload_n 0, 1, 0, 0), (101, .iload_n 2, 1, 0, 0), (102, .iload_n 3, 1, 0, 0), (103, .invokevirtual 59, 3, 18, 0), (106, .iinc 1 1, 3, 0, 0), (109, .goto (-107), 3, 0, 0)],
  [(112, .iconst 0, 1, 0, 0), (113, .ireturn, 1, 0, 0)]]
def rX2_goesOn : xM := (⟨"PulledSignals$Formula", "goesOn", "()Z"⟩, prog_4_method_6_code, tX2_goesOn, 2, 4, (some Jvm.ClassFile.FieldType.boolean), 0, 0, 680, 678, 679, 12)
theorem ok_rX2_goesOn : xMok rX2_goesOn = true := by decide +kernel
def tX2_give : List (List xEnt) := [[(0, .lload_n 1, 1, 0, 0), (1, .invokestatic 63, 3, 160, 3), (4, .ifCond .eq 11, 3, 0, 0), (7, .aload_n 0, 1, 0, 0), (8, .lload_n 1, 1, 0, 0), (9, .putfield 48, 3, 2, 5), (12, .goto 12, 3, 0, 0), (15, .aload_n 0, 1, 0, 0)],
  [(16, .getfield 30, 3, 2, 3), (19, .lload_n 1, 1, 0, 0), (20, .l2i, 1, 0, 0), (21, .invokevirtual 67, 3, 50, 0), (24, .return_, 1, 0, 0)]]
def rX2_give : xM := (⟨"PulledSignals$Formula", "give", "(J)V"⟩, prog_4_method_7_code, tX2_give, 2, 3, none, 1, 0, 726, 724, 725, 12)
theorem ok_rX2_give : xMok rX2_give = true := by decide +kernel
def tX2_outcome : List (List xEnt) := [[(0, .aload_n 0, 1, 0, 0), (1, .getfield 48, 3, 2, 5), (4, .lconst 0, 1, 0, 0), (5, .lcmp, 1, 0, 0), (6, .ifCond .eq 10, 3, 0, 0), (9, .aload_n 0, 1, 0, 0), (10, .getfield 48, 3, 2, 5), (13, .goto 11, 3, 0, 0)],
  [(16, .aload_n 0, 1, 0, 0), (17, .getfield 30, 3, 2, 3), (20, .invokevirtual 70, 3, 47, 0), (23, .i2l, 1, 0, 0), (24, .lreturn, 1, 0, 0)]]
def rX2_outcome : xM := (⟨"PulledSignals$Formula", "outcome", "()J"⟩, prog_4_method_8_code, tX2_outcome, 2, 1, (some Jvm.ClassFile.FieldType.long), 0, 0, 734, 732, 733, 12)
theorem ok_rX2_outcome : xMok rX2_outcome = true := by decide +kernel
def tX2_takeStep : List (List xEnt) := [[(0, .iload_n 1, 1, 0, 0), (1, .tableswitch 94 9 14 #[76, 39, 94, 94, 50, 58], 39, 0, 0)],
  [],
  [(40, .aload_n 0, 1, 0, 0), (41, .getfield 30, 3, 2, 3), (44, .iload_n 2, 1, 0, 0), (45, .invokevirtual 67, 3, 50, 0)],
  [(48, .goto 52, 3, 0, 0), (51, .aload_n 0, 1, 0, 0), (52, .iload_n 2, 1, 0, 0), (53, .putfield 45, 3, 2, 4), (56, .goto 44, 3, 0, 0), (59, .aload_n 0, 1, 0, 0), (60, .getfield 30, 3, 2, 3), (63, .invokevirtual 73, 3, 48, 0)],
  [(66, .ifCond .ne 34, 3, 0, 0), (69, .aload_n 0, 1, 0, 0), (70, .iload_n 2, 1, 0, 0), (71, .putfield 45, 3, 2, 4), (74, .goto 26, 3, 0, 0), (77, .aload_n 0, 1, 0, 0), (78, .getfield 30, 3, 2, 3)],
  [(81, .aload_n 0, 1, 0, 0), (82, .getfield 30, 3, 2, 3), (85, .invokevirtual 73, 3, 48, 0), (88, .ineg, 1, 0, 0), (89, .invokevirtual 67, 3, 50, 0), (92, .goto 8, 3, 0, 0), (95, .aload_n 0, 1, 0, 0)],
  [(96, .iload_n 1, 1, 0, 0), (97, .invokevirtual 76, 3, 19, 0), (100, .return_, 1, 0, 0)]]
def rX2_takeStep : xM := (⟨"PulledSignals$Formula", "takeStep", "(II)V"⟩, prog_4_method_9_code, tX2_takeStep, 2, 3, none, 2, 0, 686, 685, 100030, 12)
theorem ok_rX2_takeStep : xMok rX2_takeStep = true := by decide +kernel
def tX2_join : List (List xEnt) := [[(0, .aload_n 0, 1, 0, 0), (1, .getfield 30, 3, 2, 3), (4, .invokevirtual 73, 3, 48, 0), (7, .istore_n 2, 1, 0, 0), (8, .aload_n 0, 1, 0, 0), (9, .getfield 30, 3, 2, 3), (12, .invokevirtual 73, 3, 48, 0), (15, .istore_n 3, 1, 0, 0)],
  [(16, .iload_n 2, 1, 0, 0), (17, .ifCond .ne 23, 3, 0, 0), (20, .iload_n 1, 1, 0, 0), (21, .iconst 3, 1, 0, 0), (22, .if_icmp .eq 8, 3, 0, 0), (25, .iload_n 1, 1, 0, 0), (26, .iconst 4, 1, 0, 0), (27, .if_icmp .ne 13, 3, 0, 0), (30, .aload_n 0, 1, 0, 0), (31, .ldc2_w 79, 3, 2, 0)],
  [(34, .putfield 48, 3, 2, 5), (37, .goto 16, 3, 0, 0), (40, .aload_n 0, 1, 0, 0), (41, .getfield 30, 3, 2, 3), (44, .iload_n 1, 1, 0, 0), (45, .iload_n 3, 1, 0, 0), (46, .iload_n 2, 1, 0, 0), (47, .invokestatic 81, 3, 161, 3)],
  [(50, .invokevirtual 67, 3, 50, 0), (53, .return_, 1, 0, 0)]]
def rX2_join : xM := (⟨"PulledSignals$Formula", "join", "(I)V"⟩, prog_4_method_10_code, tX2_join, 2, 4, none, 1, 0, 695, 694, 100031, 12)
theorem ok_rX2_join : xMok rX2_join = true := by decide +kernel
def tX3_init : List (List xEnt) := [[(0, .aload_n 0, 1, 0, 0), (1, .invokespecial 3, 3, 0, 9), (4, .aload_n 0, 1, 0, 0), (5, .new 9, 3, 4, 0), (8, .dup, 1, 0, 0), (9, .sipush 250, 3, 0, 0), (12, .invokespecial 11, 3, 43, 4), (15, .putfield 14, 3, 3, 0)],
  [(18, .aload_n 0, 1, 0, 0), (19, .new 9, 3, 4, 0), (22, .dup, 1, 0, 0), (23, .sipush 250, 3, 0, 0), (26, .invokespecial 11, 3, 43, 4), (29, .putfield 20, 3, 3, 1)],
  [(32, .aload_n 0, 1, 0, 0), (33, .new 9, 3, 4, 0), (36, .dup, 1, 0, 0), (37, .sipush 750, 3, 0, 0), (40, .invokespecial 11, 3, 43, 4), (43, .putfield 23, 3, 3, 2), (46, .aload_n 0, 1, 0, 0), (47, .new 9, 3, 4, 0)],
  [(50, .dup, 1, 0, 0), (51, .sipush 250, 3, 0, 0), (54, .invokespecial 11, 3, 43, 4), (57, .putfield 26, 3, 3, 3), (60, .aload_n 0, 1, 0, 0), (61, .new 9, 3, 4, 0)],
  [(64, .dup, 1, 0, 0), (65, .sipush 250, 3, 0, 0), (68, .invokespecial 11, 3, 43, 4), (71, .putfield 29, 3, 3, 4), (74, .aload_n 0, 1, 0, 0), (75, .new 9, 3, 4, 0), (78, .dup, 1, 0, 0), (79, .sipush 250, 3, 0, 0)],
  [(82, .invokespecial 11, 3, 43, 4), (85, .putfield 32, 3, 3, 5), (88, .aload_n 0, 1, 0, 0), (89, .new 9, 3, 4, 0), (92, .dup, 1, 0, 0), (93, .sipush 250, 3, 0, 0)],
  [(96, .invokespecial 11, 3, 43, 4), (99, .putfield 35, 3, 3, 6), (102, .return_, 1, 0, 0)]]
def rX3_init : xM := (⟨"PulledSignals$FormulaReader", "<init>", "()V"⟩, prog_5_method_1_code, tX3_init, 3, 1, none, 0, 2, 123, 122, 200000, 6)
theorem ok_rX3_init : xMok rX3_init = true := by decide +kernel
def tX3_fault : List (List xEnt) := [[(0, .aload_n 0, 1, 0, 0), (1, .getfield 38, 3, 3, 10), (4, .ireturn, 1, 0, 0)]]
def rX3_fault : xM := (⟨"PulledSignals$FormulaReader", "fault", "()I"⟩, prog_5_method_2_code, tX3_fault, 3, 1, (some Jvm.ClassFile.FieldType.int), 0, 0, 613, 611, 612, 6)
theorem ok_rX3_fault : xMok rX3_fault = true := by decide +kernel
def tX3_take : List (List xEnt) := [[(0, .aload_n 0, 1, 0, 0), (1, .iload_n 2, 1, 0, 0), (2, .invokevirtual 42, 3, 23, 0), (5, .aload_n 1, 1, 0, 0), (6, .invokevirtual 45, 3, 44, 0), (9, .istore_n 3, 1, 0, 0), (10, .iconst 0, 1, 0, 0), (11, .istore 4, 2, 0, 0), (13, .iload 4, 2, 0, 0), (15, .iload_n 3, 1, 0, 0)],
  [(16, .if_icmp .ge 63, 3, 0, 0), (19, .aload_n 0, 1, 0, 0), (20, .getfield 49, 3, 3, 9), (23, .iload_n 3, 1, 0, 0), (24, .if_icmp .ge 55, 3, 0, 0), (27, .aload_n 0, 1, 0, 0), (28, .getfield 38, 3, 3, 10), (31, .iconst (-1), 1, 0, 0)],
  [(32, .if_icmp .ne 47, 3, 0, 0), (35, .aload_n 0, 1, 0, 0), (36, .getfield 52, 3, 3, 11), (39, .ifCond .eq 11, 3, 0, 0), (42, .aload_n 0, 1, 0, 0), (43, .aload_n 1, 1, 0, 0), (44, .invokevirtual 56, 3, 24, 0), (47, .goto 15, 3, 0, 0)],
  [(50, .aload_n 0, 1, 0, 0), (51, .aload_n 1, 1, 0, 0), (52, .aload_n 0, 1, 0, 0), (53, .getfield 49, 3, 3, 9), (56, .invokevirtual 60, 3, 46, 0), (59, .invokevirtual 63, 3, 32, 0), (62, .aload_n 0, 1, 0, 0), (63, .getfield 66, 3, 3, 12)],
  [(66, .ifCond .eq 7, 3, 0, 0), (69, .aload_n 0, 1, 0, 0), (70, .invokevirtual 69, 3, 31, 0), (73, .iinc 4 1, 3, 0, 0), (76, .goto (-63), 3, 0, 0), (79, .aload_n 0, 1, 0, 0)],
  [(80, .getfield 38, 3, 3, 10), (83, .iconst (-1), 1, 0, 0), (84, .if_icmp .eq 5, 3, 0, 0), (87, .aconst_null, 1, 0, 0), (88, .areturn, 1, 0, 0), (89, .aload_n 0, 1, 0, 0), (90, .iconst 1, 1, 0, 0), (91, .invokevirtual 72, 3, 33, 0), (94, .aload_n 0, 1, 0, 0), (95, .getfield 52, 3, 3, 11)],
  [(98, .ifCond .ne 13, 3, 0, 0), (101, .aload_n 0, 1, 0, 0), (102, .getfield 26, 3, 3, 3), (105, .invokevirtual 45, 3, 44, 0), (108, .ifCond .le 10, 3, 0, 0), (111, .aload_n 0, 1, 0, 0)],
  [(112, .iload_n 3, 1, 0, 0), (113, .putfield 38, 3, 3, 10), (116, .aconst_null, 1, 0, 0), (117, .areturn, 1, 0, 0), (118, .new 75, 3, 2, 0), (121, .dup, 1, 0, 0), (122, .aload_n 0, 1, 0, 0), (123, .getfield 14, 3, 3, 0), (126, .aload_n 0, 1, 0, 0), (127, .getfield 20, 3, 3, 1)],
  [(130, .aload_n 0, 1, 0, 0), (131, .getfield 23, 3, 3, 2), (134, .aload_n 0, 1, 0, 0), (135, .getfield 77, 3, 3, 7), (138, .invokespecial 80, 3, 10, 4), (141, .areturn, 1, 0, 0)]]
def rX3_take : xM := (⟨"PulledSignals$FormulaReader", "take", "(LPulledSignals$Numbers;I)LPulledSignals$Formula;"⟩, prog_5_method_3_code, tX3_take, 3, 5, (some (Jvm.ClassFile.FieldType.object "PulledSignals$Formula")), 2, 0, 459, 457, 458, 6)
theorem ok_rX3_take : xMok rX3_take = true := by decide +kernel
def tX3_start : List (List xEnt) := [[(0, .aload_n 0, 1, 0, 0), (1, .getfield 14, 3, 3, 0), (4, .invokevirtual 83, 3, 55, 0), (7, .aload_n 0, 1, 0, 0), (8, .getfield 20, 3, 3, 1), (11, .invokevirtual 83, 3, 55, 0), (14, .aload_n 0, 1, 0, 0), (15, .getfield 23, 3, 3, 2)],
  [(18, .invokevirtual 83, 3, 55, 0), (21, .aload_n 0, 1, 0, 0), (22, .getfield 26, 3, 3, 3), (25, .invokevirtual 83, 3, 55, 0), (28, .aload_n 0, 1, 0, 0), (29, .getfield 29, 3, 3, 4)],
  [(32, .invokevirtual 83, 3, 55, 0), (35, .aload_n 0, 1, 0, 0), (36, .getfield 32, 3, 3, 5), (39, .invokevirtual 83, 3, 55, 0), (42, .aload_n 0, 1, 0, 0), (43, .getfield 35, 3, 3, 6), (46, .invokevirtual 83, 3, 55, 0)],
  [(49, .aload_n 0, 1, 0, 0), (50, .iconst 0, 1, 0, 0), (51, .putfield 77, 3, 3, 7), (54, .aload_n 0, 1, 0, 0), (55, .iload_n 1, 1, 0, 0), (56, .putfield 86, 3, 3, 8), (59, .aload_n 0, 1, 0, 0), (60, .iconst 0, 1, 0, 0), (61, .putfield 49, 3, 3, 9)],
  [(64, .aload_n 0, 1, 0, 0), (65, .iconst (-1), 1, 0, 0), (66, .putfield 38, 3, 3, 10), (69, .aload_n 0, 1, 0, 0), (70, .iconst 1, 1, 0, 0), (71, .putfield 52, 3, 3, 11), (74, .aload_n 0, 1, 0, 0), (75, .iconst 0, 1, 0, 0), (76, .putfield 66, 3, 3, 12), (79, .return_, 1, 0, 0)]]
def rX3_start : xM := (⟨"PulledSignals$FormulaReader", "start", "(I)V"⟩, prog_5_method_4_code, tX3_start, 3, 2, none, 1, 0, 463, 462, 100007, 6)
theorem ok_rX3_start : xMok rX3_start = true := by decide +kernel
def tX3_readPart : List (List xEnt) := [[(0, .aload_n 1, 1, 0, 0), (1, .aload_n 0, 1, 0, 0), (2, .getfield 49, 3, 3, 9), (5, .invokevirtual 60, 3, 46, 0), (8, .istore_n 2, 1, 0, 0), (9, .iload_n 2, 1, 0, 0), (10, .lookupswitch 150 #[(40, 87), (45, 50), (91, 106), (94, 134), (126, 142)], 50, 0, 0)],
  [],
  [],
  [(60, .aload_n 0, 1, 0, 0), (61, .bipush 9, 2, 0, 0), (63, .invokevirtual 89, 3, 36, 0)],
  [(66, .aload_n 0, 1, 0, 0), (67, .getfield 23, 3, 3, 2), (70, .bipush 40, 2, 0, 0), (72, .invokevirtual 92, 3, 50, 0), (75, .aload_n 0, 1, 0, 0), (76, .getfield 23, 3, 3, 2), (79, .bipush 45, 2, 0, 0)],
  [(81, .invokevirtual 92, 3, 50, 0), (84, .aload_n 0, 1, 0, 0), (85, .dup, 1, 0, 0), (86, .getfield 49, 3, 3, 9), (89, .iconst 1, 1, 0, 0), (90, .iadd, 1, 0, 0), (91, .putfield 49, 3, 3, 9), (94, .goto 72, 3, 0, 0)],
  [(97, .aload_n 0, 1, 0, 0), (98, .bipush 20, 2, 0, 0), (100, .invokevirtual 89, 3, 36, 0), (103, .aload_n 0, 1, 0, 0), (104, .dup, 1, 0, 0), (105, .getfield 49, 3, 3, 9), (108, .iconst 1, 1, 0, 0), (109, .iadd, 1, 0, 0), (110, .putfield 49, 3, 3, 9)],
  [(113, .goto 53, 3, 0, 0), (116, .aload_n 0, 1, 0, 0), (117, .bipush 21, 2, 0, 0), (119, .invokevirtual 89, 3, 36, 0), (122, .aload_n 0, 1, 0, 0), (123, .getfield 23, 3, 3, 2), (126, .bipush 91, 2, 0, 0)],
  [(128, .invokevirtual 92, 3, 50, 0), (131, .aload_n 0, 1, 0, 0), (132, .dup, 1, 0, 0), (133, .getfield 49, 3, 3, 9), (136, .iconst 1, 1, 0, 0), (137, .iadd, 1, 0, 0), (138, .putfield 49, 3, 3, 9), (141, .goto 25, 3, 0, 0)],
  [(144, .aload_n 0, 1, 0, 0), (145, .aload_n 1, 1, 0, 0), (146, .invokevirtual 95, 3, 25, 0), (149, .goto 17, 3, 0, 0), (152, .aload_n 0, 1, 0, 0), (153, .aload_n 1, 1, 0, 0), (154, .invokevirtual 98, 3, 26, 0), (157, .goto 9, 3, 0, 0)],
  [(160, .aload_n 0, 1, 0, 0), (161, .aload_n 1, 1, 0, 0), (162, .iload_n 2, 1, 0, 0), (163, .invokevirtual 101, 3, 27, 0), (166, .return_, 1, 0, 0)]]
def rX3_readPart : xM := (⟨"PulledSignals$FormulaReader", "readPart", "(LPulledSignals$Numbers;)V"⟩, prog_5_method_5_code, tX3_readPart, 3, 3, none, 1, 0, 469, 468, 100008, 6)
theorem ok_rX3_readPart : xMok rX3_readPart = true := by decide +kernel
def tX3_readGreater : List (List xEnt) := [[(0, .aload_n 1, 1, 0, 0), (1, .aload_n 0, 1, 0, 0), (2, .getfield 49, 3, 3, 9), (5, .iconst 1, 1, 0, 0), (6, .iadd, 1, 0, 0), (7, .invokevirtual 60, 3, 46, 0), (10, .bipush 40, 2, 0, 0), (12, .if_icmp .eq 14, 3, 0, 0), (15, .aload_n 0, 1, 0, 0)],
  [(16, .aload_n 0, 1, 0, 0), (17, .getfield 49, 3, 3, 9), (20, .iconst 1, 1, 0, 0), (21, .iadd, 1, 0, 0), (22, .putfield 38, 3, 3, 10), (25, .return_, 1, 0, 0), (26, .aload_n 0, 1, 0, 0), (27, .bipush 24, 2, 0, 0), (29, .invokevirtual 89, 3, 36, 0)],
  [(32, .aload_n 0, 1, 0, 0), (33, .getfield 23, 3, 3, 2), (36, .bipush 94, 2, 0, 0), (38, .invokevirtual 92, 3, 50, 0), (41, .aload_n 0, 1, 0, 0), (42, .getfield 23, 3, 3, 2), (45, .bipush 40, 2, 0, 0), (47, .invokevirtual 92, 3, 50, 0)],
  [(50, .aload_n 0, 1, 0, 0), (51, .dup, 1, 0, 0), (52, .getfield 49, 3, 3, 9), (55, .iconst 2, 1, 0, 0), (56, .iadd, 1, 0, 0), (57, .putfield 49, 3, 3, 9), (60, .return_, 1, 0, 0)]]
def rX3_readGreater : xM := (⟨"PulledSignals$FormulaReader", "readGreater", "(LPulledSignals$Numbers;)V"⟩, prog_5_method_6_code, tX3_readGreater, 3, 2, none, 1, 0, 482, 481, 100010, 6)
theorem ok_rX3_readGreater : xMok rX3_readGreater = true := by decide +kernel
def tX3_readUntracked : List (List xEnt) := [[(0, .aload_n 1, 1, 0, 0), (1, .aload_n 0, 1, 0, 0), (2, .getfield 49, 3, 3, 9), (5, .iconst 1, 1, 0, 0), (6, .iadd, 1, 0, 0), (7, .invokevirtual 60, 3, 46, 0), (10, .istore_n 2, 1, 0, 0), (11, .aload_n 0, 1, 0, 0), (12, .iload_n 2, 1, 0, 0), (13, .invokevirtual 105, 3, 29, 0)],
  [(16, .ifCond .ne 14, 3, 0, 0), (19, .aload_n 0, 1, 0, 0), (20, .aload_n 0, 1, 0, 0), (21, .getfield 49, 3, 3, 9), (24, .iconst 1, 1, 0, 0), (25, .iadd, 1, 0, 0), (26, .putfield 38, 3, 3, 10), (29, .return_, 1, 0, 0), (30, .aload_n 0, 1, 0, 0), (31, .getfield 35, 3, 3, 6)],
  [(34, .aload_n 0, 1, 0, 0), (35, .getfield 23, 3, 3, 2), (38, .invokevirtual 45, 3, 44, 0), (41, .invokevirtual 92, 3, 50, 0), (44, .aload_n 0, 1, 0, 0), (45, .getfield 23, 3, 3, 2)],
  [(48, .bipush 126, 2, 0, 0), (50, .invokevirtual 92, 3, 50, 0), (53, .aload_n 0, 1, 0, 0), (54, .getfield 23, 3, 3, 2), (57, .iload_n 2, 1, 0, 0), (58, .invokevirtual 92, 3, 50, 0), (61, .aload_n 0, 1, 0, 0), (62, .dup, 1, 0, 0), (63, .getfield 49, 3, 3, 9)],
  [(66, .iconst 2, 1, 0, 0), (67, .iadd, 1, 0, 0), (68, .putfield 49, 3, 3, 9), (71, .aload_n 0, 1, 0, 0), (72, .bipush 12, 2, 0, 0), (74, .iload_n 2, 1, 0, 0), (75, .bipush 97, 2, 0, 0), (77, .isub, 1, 0, 0), (78, .invokevirtual 109, 3, 39, 0)],
  [(81, .aload_n 0, 1, 0, 0), (82, .iconst 1, 1, 0, 0), (83, .putfield 66, 3, 3, 12), (86, .return_, 1, 0, 0)]]
def rX3_readUntracked : xM := (⟨"PulledSignals$FormulaReader", "readUntracked", "(LPulledSignals$Numbers;)V"⟩, prog_5_method_7_code, tX3_readUntracked, 3, 3, none, 1, 0, 486, 485, 100011, 6)
theorem ok_rX3_readUntracked : xMok rX3_readUntracked = true := by decide +kernel
def tX3_readPlainPart : List (List xEnt) := [[(0, .aload_n 0, 1, 0, 0), (1, .iload_n 2, 1, 0, 0), (2, .invokevirtual 105, 3, 29, 0), (5, .ifCond .eq 53, 3, 0, 0), (8, .aload_n 0, 1, 0, 0), (9, .getfield 35, 3, 3, 6), (12, .aload_n 0, 1, 0, 0), (13, .getfield 23, 3, 3, 2)],
  [(16, .invokevirtual 45, 3, 44, 0), (19, .invokevirtual 92, 3, 50, 0), (22, .aload_n 0, 1, 0, 0), (23, .getfield 23, 3, 3, 2), (26, .iload_n 2, 1, 0, 0), (27, .invokevirtual 92, 3, 50, 0), (30, .aload_n 0, 1, 0, 0), (31, .dup, 1, 0, 0)],
  [(32, .getfield 49, 3, 3, 9), (35, .iconst 1, 1, 0, 0), (36, .iadd, 1, 0, 0), (37, .putfield 49, 3, 3, 9), (40, .aload_n 0, 1, 0, 0), (41, .bipush 11, 2, 0, 0), (43, .iload_n 2, 1, 0, 0), (44, .bipush 97, 2, 0, 0), (46, .isub, 1, 0, 0), (47, .invokevirtual 109, 3, 39, 0)],
  [(50, .aload_n 0, 1, 0, 0), (51, .iconst 1, 1, 0, 0), (52, .putfield 66, 3, 3, 12), (55, .goto 51, 3, 0, 0), (58, .iload_n 2, 1, 0, 0), (59, .invokestatic 113, 3, 30, 2), (62, .ifCond .eq 36, 3, 0, 0)],
  [(65, .aload_n 0, 1, 0, 0), (66, .getfield 35, 3, 3, 6), (69, .aload_n 0, 1, 0, 0), (70, .getfield 23, 3, 3, 2), (73, .invokevirtual 45, 3, 44, 0), (76, .invokevirtual 92, 3, 50, 0), (79, .aload_n 0, 1, 0, 0)],
  [(80, .bipush 10, 2, 0, 0), (82, .aload_n 0, 1, 0, 0), (83, .aload_n 1, 1, 0, 0), (84, .invokevirtual 116, 3, 28, 0), (87, .invokevirtual 109, 3, 39, 0), (90, .aload_n 0, 1, 0, 0), (91, .iconst 1, 1, 0, 0), (92, .putfield 66, 3, 3, 12), (95, .goto 11, 3, 0, 0)],
  [(98, .aload_n 0, 1, 0, 0), (99, .aload_n 0, 1, 0, 0), (100, .getfield 49, 3, 3, 9), (103, .putfield 38, 3, 3, 10), (106, .return_, 1, 0, 0)]]
def rX3_readPlainPart : xM := (⟨"PulledSignals$FormulaReader", "readPlainPart", "(LPulledSignals$Numbers;I)V"⟩, prog_5_method_8_code, tX3_readPlainPart, 3, 3, none, 2, 0, 498, 497, 100014, 6)
theorem ok_rX3_readPlainPart : xMok rX3_readPlainPart = true := by decide +kernel
def tX3_readNumber : List (List xEnt) := [[(0, .iconst 0, 1, 0, 0), (1, .istore_n 2, 1, 0, 0), (2, .iconst 0, 1, 0, 0), (3, .istore_n 3, 1, 0, 0), (4, .iload_n 3, 1, 0, 0), (5, .iconst 3, 1, 0, 0), (6, .if_icmp .ge 65, 3, 0, 0), (9, .aload_n 1, 1, 0, 0), (10, .aload_n 0, 1, 0, 0), (11, .getfield 49, 3, 3, 9), (14, .invokevirtual 60, 3, 46, 0)],
  [(17, .invokestatic 113, 3, 30, 2), (20, .ifCond .eq 51, 3, 0, 0), (23, .iload_n 2, 1, 0, 0), (24, .bipush 10, 2, 0, 0), (26, .imul, 1, 0, 0), (27, .aload_n 1, 1, 0, 0), (28, .aload_n 0, 1, 0, 0), (29, .getfield 49, 3, 3, 9)],
  [(32, .invokevirtual 60, 3, 46, 0), (35, .iadd, 1, 0, 0), (36, .bipush 48, 2, 0, 0), (38, .isub, 1, 0, 0), (39, .istore_n 2, 1, 0, 0), (40, .aload_n 0, 1, 0, 0), (41, .getfield 23, 3, 3, 2), (44, .aload_n 1, 1, 0, 0), (45, .aload_n 0, 1, 0, 0), (46, .getfield 49, 3, 3, 9)],
  [(49, .invokevirtual 60, 3, 46, 0), (52, .invokevirtual 92, 3, 50, 0), (55, .aload_n 0, 1, 0, 0), (56, .dup, 1, 0, 0), (57, .getfield 49, 3, 3, 9), (60, .iconst 1, 1, 0, 0), (61, .iadd, 1, 0, 0), (62, .putfield 49, 3, 3, 9)],
  [(65, .iinc 3 1, 3, 0, 0), (68, .goto (-64), 3, 0, 0), (71, .iload_n 2, 1, 0, 0), (72, .ireturn, 1, 0, 0)]]
def rX3_readNumber : xM := (⟨"PulledSignals$FormulaReader", "readNumber", "(LPulledSignals$Numbers;)I"⟩, prog_5_method_9_code, tX3_readNumber, 3, 4, (some Jvm.ClassFile.FieldType.int), 1, 0, 505, 504, 100015, 6)
theorem ok_rX3_readNumber : xMok rX3_readNumber = true := by decide +kernel
def tX3_isLetter : List (List xEnt) := [[(0, .iload_n 1, 1, 0, 0), (1, .bipush 97, 2, 0, 0), (3, .if_icmp .lt 18, 3, 0, 0), (6, .iload_n 1, 1, 0, 0), (7, .bipush 97, 2, 0, 0), (9, .aload_n 0, 1, 0, 0), (10, .getfield 86, 3, 3, 8), (13, .iadd, 1, 0, 0), (14, .if_icmp .ge 7, 3, 0, 0)],
  [(17, .iconst 1, 1, 0, 0), (18, .goto 4, 3, 0, 0), (21, .iconst 0, 1, 0, 0), (22, .ireturn, 1, 0, 0)]]
def rX3_isLetter : xM := (⟨"PulledSignals$FormulaReader", "isLetter", "(I)Z"⟩, prog_5_method_10_code, tX3_isLetter, 3, 2, (some Jvm.ClassFile.FieldType.boolean), 1, 0, 490, 489, 100012, 6)
theorem ok_rX3_isLetter : xMok rX3_isLetter = true := by decide +kernel
def tX3_isDigit : List (List xEnt) := [[(0, .iload_n 0, 1, 0, 0), (1, .bipush 48, 2, 0, 0), (3, .if_icmp .lt 13, 3, 0, 0), (6, .iload_n 0, 1, 0, 0), (7, .bipush 57, 2, 0, 0), (9, .if_icmp .gt 7, 3, 0, 0), (12, .iconst 1, 1, 0, 0), (13, .goto 4, 3, 0, 0)],
  [(16, .iconst 0, 1, 0, 0), (17, .ireturn, 1, 0, 0)]]
def rX3_isDigit : xM := (⟨"PulledSignals$FormulaReader", "isDigit", "(I)Z"⟩, prog_5_method_11_code, tX3_isDigit, 3, 1, (some Jvm.ClassFile.FieldType.boolean), 1, 1, 501, 500, 200000, 6)
theorem ok_rX3_isDigit : xMok rX3_isDigit = true := by decide +kernel
def tX3_endPart : List (List xEnt) := [[(0, .aload_n 0, 1, 0, 0), (1, .iconst 0, 1, 0, 0), (2, .putfield 66, 3, 3, 12), (5, .aload_n 0, 1, 0, 0), (6, .aload_n 0, 1, 0, 0), (7, .getfield 77, 3, 3, 7), (10, .aload_n 0, 1, 0, 0), (11, .getfield 35, 3, 3, 6), (14, .invokevirtual 45, 3, 44, 0)],
  [(17, .invokestatic 120, 3, 0, 7), (20, .putfield 77, 3, 3, 7), (23, .iconst 0, 1, 0, 0), (24, .istore_n 1, 1, 0, 0), (25, .iload_n 1, 1, 0, 0), (26, .sipush 250, 3, 0, 0), (29, .if_icmp .ge 41, 3, 0, 0)],
  [(32, .aload_n 0, 1, 0, 0), (33, .getfield 26, 3, 3, 3), (36, .invokevirtual 126, 3, 47, 0), (39, .bipush 9, 2, 0, 0), (41, .if_icmp .ne 29, 3, 0, 0), (44, .aload_n 0, 1, 0, 0), (45, .bipush 9, 2, 0, 0), (47, .iconst 0, 1, 0, 0)],
  [(48, .invokevirtual 109, 3, 39, 0), (51, .aload_n 0, 1, 0, 0), (52, .getfield 23, 3, 3, 2), (55, .bipush 41, 2, 0, 0), (57, .invokevirtual 92, 3, 50, 0), (60, .aload_n 0, 1, 0, 0), (61, .invokevirtual 129, 3, 38, 0)],
  [(64, .iinc 1 1, 3, 0, 0), (67, .goto (-42), 3, 0, 0), (70, .aload_n 0, 1, 0, 0), (71, .iconst 0, 1, 0, 0), (72, .putfield 52, 3, 3, 11), (75, .return_, 1, 0, 0)]]
def rX3_endPart : xM := (⟨"PulledSignals$FormulaReader", "endPart", "()V"⟩, prog_5_method_12_code, tX3_endPart, 3, 2, none, 0, 0, 561, 560, 100022, 6)
theorem ok_rX3_endPart : xMok rX3_endPart = true := by decide +kernel
def tX3_readSign : List (List xEnt) := [[(0, .iload_n 1, 1, 0, 0), (1, .invokestatic 132, 3, 40, 2), (4, .istore_n 2, 1, 0, 0), (5, .iload_n 2, 1, 0, 0), (6, .iconst (-1), 1, 0, 0), (7, .if_icmp .ne 14, 3, 0, 0), (10, .aload_n 0, 1, 0, 0), (11, .iconst 1, 1, 0, 0), (12, .invokevirtual 72, 3, 33, 0), (15, .aload_n 0, 1, 0, 0)],
  [(16, .iload_n 1, 1, 0, 0), (17, .invokevirtual 135, 3, 34, 0), (20, .return_, 1, 0, 0), (21, .iload_n 2, 1, 0, 0), (22, .invokestatic 138, 3, 41, 2), (25, .istore_n 3, 1, 0, 0), (26, .aload_n 0, 1, 0, 0), (27, .iload_n 3, 1, 0, 0), (28, .iconst 2, 1, 0, 0), (29, .invokestatic 120, 3, 0, 7)],
  [(32, .invokevirtual 72, 3, 33, 0), (35, .iload_n 3, 1, 0, 0), (36, .iconst 1, 1, 0, 0), (37, .if_icmp .ne 26, 3, 0, 0), (40, .aload_n 0, 1, 0, 0), (41, .getfield 26, 3, 3, 3), (44, .invokevirtual 126, 3, 47, 0), (47, .invokestatic 138, 3, 41, 2)],
  [(50, .iconst 1, 1, 0, 0), (51, .if_icmp .ne 12, 3, 0, 0), (54, .aload_n 0, 1, 0, 0), (55, .aload_n 0, 1, 0, 0), (56, .getfield 49, 3, 3, 9), (59, .putfield 38, 3, 3, 10), (62, .return_, 1, 0, 0), (63, .aload_n 0, 1, 0, 0)],
  [(64, .iload_n 2, 1, 0, 0), (65, .invokevirtual 89, 3, 36, 0), (68, .aload_n 0, 1, 0, 0), (69, .getfield 23, 3, 3, 2), (72, .iload_n 1, 1, 0, 0), (73, .invokevirtual 92, 3, 50, 0), (76, .aload_n 0, 1, 0, 0), (77, .dup, 1, 0, 0), (78, .getfield 49, 3, 3, 9)],
  [(81, .iconst 1, 1, 0, 0), (82, .iadd, 1, 0, 0), (83, .putfield 49, 3, 3, 9), (86, .aload_n 0, 1, 0, 0), (87, .iconst 1, 1, 0, 0), (88, .putfield 52, 3, 3, 11), (91, .return_, 1, 0, 0)]]
def rX3_readSign : xM := (⟨"PulledSignals$FormulaReader", "readSign", "(I)V"⟩, prog_5_method_13_code, tX3_readSign, 3, 4, none, 1, 0, 509, 508, 100016, 6)
theorem ok_rX3_readSign : xMok rX3_readSign = true := by decide +kernel
def tX3_gather : List (List xEnt) := [[(0, .iconst 0, 1, 0, 0), (1, .istore_n 2, 1, 0, 0), (2, .iload_n 2, 1, 0, 0), (3, .sipush 250, 3, 0, 0), (6, .if_icmp .ge 78, 3, 0, 0), (9, .aload_n 0, 1, 0, 0), (10, .getfield 26, 3, 3, 3), (13, .invokevirtual 126, 3, 47, 0)],
  [(16, .invokestatic 138, 3, 41, 2), (19, .iload_n 1, 1, 0, 0), (20, .if_icmp .lt 64, 3, 0, 0), (23, .aload_n 0, 1, 0, 0), (24, .getfield 52, 3, 3, 11), (27, .ifCond .ne 57, 3, 0, 0), (30, .aload_n 0, 1, 0, 0), (31, .aload_n 0, 1, 0, 0)],
  [(32, .getfield 26, 3, 3, 3), (35, .invokevirtual 126, 3, 47, 0), (38, .iconst 0, 1, 0, 0), (39, .invokevirtual 109, 3, 39, 0), (42, .aload_n 0, 1, 0, 0), (43, .invokevirtual 141, 3, 37, 0), (46, .aload_n 0, 1, 0, 0), (47, .getfield 35, 3, 3, 6)],
  [(50, .invokevirtual 144, 3, 53, 0), (53, .aload_n 0, 1, 0, 0), (54, .getfield 23, 3, 3, 2), (57, .aload_n 0, 1, 0, 0), (58, .getfield 35, 3, 3, 6), (61, .invokevirtual 126, 3, 47, 0)],
  [(64, .bipush 40, 2, 0, 0), (66, .invokevirtual 147, 3, 52, 0), (69, .aload_n 0, 1, 0, 0), (70, .getfield 23, 3, 3, 2), (73, .bipush 41, 2, 0, 0), (75, .invokevirtual 92, 3, 50, 0), (78, .iinc 2 1, 3, 0, 0)],
  [(81, .goto (-79), 3, 0, 0), (84, .return_, 1, 0, 0)]]
def rX3_gather : xM := (⟨"PulledSignals$FormulaReader", "gather", "(I)V"⟩, prog_5_method_14_code, tX3_gather, 3, 3, none, 1, 0, 516, 515, 100017, 6)
theorem ok_rX3_gather : xMok rX3_gather = true := by decide +kernel
def tX3_readBracketSign : List (List xEnt) := [[(0, .aload_n 0, 1, 0, 0), (1, .getfield 26, 3, 3, 3), (4, .invokevirtual 126, 3, 47, 0), (7, .istore_n 2, 1, 0, 0), (8, .iload_n 2, 1, 0, 0), (9, .iconst (-1), 1, 0, 0), (10, .if_icmp .eq 11, 3, 0, 0), (13, .iload_n 1, 1, 0, 0), (14, .iload_n 2, 1, 0, 0), (15, .invokestatic 150, 3, 42, 2)],
  [(18, .if_icmp .eq 12, 3, 0, 0), (21, .aload_n 0, 1, 0, 0), (22, .aload_n 0, 1, 0, 0), (23, .getfield 49, 3, 3, 9), (26, .putfield 38, 3, 3, 10), (29, .return_, 1, 0, 0), (30, .aload_n 0, 1, 0, 0), (31, .dup, 1, 0, 0)],
  [(32, .getfield 49, 3, 3, 9), (35, .iconst 1, 1, 0, 0), (36, .iadd, 1, 0, 0), (37, .putfield 49, 3, 3, 9), (40, .iload_n 2, 1, 0, 0), (41, .bipush 20, 2, 0, 0), (43, .if_icmp .eq 11, 3, 0, 0), (46, .aload_n 0, 1, 0, 0), (47, .getfield 23, 3, 3, 2)],
  [(50, .iload_n 1, 1, 0, 0), (51, .invokevirtual 92, 3, 50, 0), (54, .iload_n 2, 1, 0, 0), (55, .tableswitch 140 21 25 #[33, 44, 55, 88, 114], 33, 0, 0)],
  [],
  [(88, .aload_n 0, 1, 0, 0), (89, .bipush 14, 2, 0, 0), (91, .bipush 22, 2, 0, 0), (93, .invokevirtual 153, 3, 35, 0)],
  [(96, .goto 108, 3, 0, 0), (99, .aload_n 0, 1, 0, 0), (100, .bipush 13, 2, 0, 0), (102, .bipush 23, 2, 0, 0), (104, .invokevirtual 153, 3, 35, 0), (107, .goto 97, 3, 0, 0), (110, .aload_n 0, 1, 0, 0), (111, .getfield 20, 3, 3, 1)],
  [(114, .aload_n 0, 1, 0, 0), (115, .getfield 32, 3, 3, 5), (118, .invokevirtual 126, 3, 47, 0), (121, .aload_n 0, 1, 0, 0), (122, .getfield 14, 3, 3, 0), (125, .invokevirtual 45, 3, 44, 0)],
  [(128, .invokevirtual 156, 3, 51, 0), (131, .aload_n 0, 1, 0, 0), (132, .invokevirtual 129, 3, 38, 0), (135, .aload_n 0, 1, 0, 0), (136, .iconst 1, 1, 0, 0), (137, .putfield 66, 3, 3, 12), (140, .goto 64, 3, 0, 0), (143, .aload_n 0, 1, 0, 0)],
  [(144, .getfield 26, 3, 3, 3), (147, .aload_n 0, 1, 0, 0), (148, .getfield 26, 3, 3, 3), (151, .invokevirtual 45, 3, 44, 0), (154, .iconst 1, 1, 0, 0), (155, .isub, 1, 0, 0), (156, .bipush 25, 2, 0, 0), (158, .invokevirtual 156, 3, 51, 0)],
  [(161, .aload_n 0, 1, 0, 0), (162, .iconst 1, 1, 0, 0), (163, .putfield 52, 3, 3, 11), (166, .goto 38, 3, 0, 0), (169, .aload_n 0, 1, 0, 0), (170, .bipush 8, 2, 0, 0), (172, .iconst 0, 1, 0, 0), (173, .invokevirtual 109, 3, 39, 0)],
  [(176, .aload_n 0, 1, 0, 0), (177, .getfield 35, 3, 3, 6), (180, .invokevirtual 144, 3, 53, 0), (183, .aload_n 0, 1, 0, 0), (184, .invokevirtual 129, 3, 38, 0), (187, .aload_n 0, 1, 0, 0), (188, .iconst 1, 1, 0, 0), (189, .putfield 66, 3, 3, 12)],
  [(192, .goto 12, 3, 0, 0), (195, .aload_n 0, 1, 0, 0), (196, .invokevirtual 141, 3, 37, 0), (199, .aload_n 0, 1, 0, 0), (200, .iconst 1, 1, 0, 0), (201, .putfield 66, 3, 3, 12), (204, .return_, 1, 0, 0)]]
def rX3_readBracketSign : xM := (⟨"PulledSignals$FormulaReader", "readBracketSign", "(I)V"⟩, prog_5_method_15_code, tX3_readBracketSign, 3, 3, none, 1, 0, 539, 538, 100019, 6)
theorem ok_rX3_readBracketSign : xMok rX3_readBracketSign = true := by decide +kernel
def tX3_choose : List (List xEnt) := [[(0, .aload_n 0, 1, 0, 0), (1, .getfield 35, 3, 3, 6), (4, .invokevirtual 144, 3, 53, 0), (7, .aload_n 0, 1, 0, 0), (8, .iload_n 1, 1, 0, 0), (9, .iconst 0, 1, 0, 0), (10, .invokevirtual 109, 3, 39, 0), (13, .aload_n 0, 1, 0, 0), (14, .getfield 20, 3, 3, 1)],
  [(17, .aload_n 0, 1, 0, 0), (18, .getfield 32, 3, 3, 5), (21, .invokevirtual 126, 3, 47, 0), (24, .aload_n 0, 1, 0, 0), (25, .getfield 14, 3, 3, 0), (28, .invokevirtual 45, 3, 44, 0), (31, .invokevirtual 156, 3, 51, 0)],
  [(34, .aload_n 0, 1, 0, 0), (35, .getfield 32, 3, 3, 5), (38, .aload_n 0, 1, 0, 0), (39, .getfield 32, 3, 3, 5), (42, .invokevirtual 45, 3, 44, 0), (45, .iconst 1, 1, 0, 0), (46, .isub, 1, 0, 0), (47, .aload_n 0, 1, 0, 0)],
  [(48, .getfield 14, 3, 3, 0), (51, .invokevirtual 45, 3, 44, 0), (54, .iconst 1, 1, 0, 0), (55, .isub, 1, 0, 0), (56, .invokevirtual 156, 3, 51, 0), (59, .aload_n 0, 1, 0, 0), (60, .getfield 26, 3, 3, 3), (63, .aload_n 0, 1, 0, 0)],
  [(64, .getfield 26, 3, 3, 3), (67, .invokevirtual 45, 3, 44, 0), (70, .iconst 1, 1, 0, 0), (71, .isub, 1, 0, 0), (72, .iload_n 2, 1, 0, 0), (73, .invokevirtual 156, 3, 51, 0), (76, .aload_n 0, 1, 0, 0), (77, .iconst 1, 1, 0, 0), (78, .putfield 52, 3, 3, 11)],
  [(81, .return_, 1, 0, 0)]]
def rX3_choose : xM := (⟨"PulledSignals$FormulaReader", "choose", "(II)V"⟩, prog_5_method_16_code, tX3_choose, 3, 3, none, 2, 0, 546, 545, 100020, 6)
theorem ok_rX3_choose : xMok rX3_choose = true := by decide +kernel
def tX3_openUp : List (List xEnt) := [[(0, .aload_n 0, 1, 0, 0), (1, .getfield 26, 3, 3, 3), (4, .iload_n 1, 1, 0, 0), (5, .invokevirtual 92, 3, 50, 0), (8, .aload_n 0, 1, 0, 0), (9, .getfield 29, 3, 3, 4), (12, .aload_n 0, 1, 0, 0), (13, .getfield 23, 3, 3, 2)],
  [(16, .invokevirtual 45, 3, 44, 0), (19, .invokevirtual 92, 3, 50, 0), (22, .aload_n 0, 1, 0, 0), (23, .getfield 32, 3, 3, 5), (26, .iconst (-1), 1, 0, 0), (27, .invokevirtual 92, 3, 50, 0), (30, .return_, 1, 0, 0)]]
def rX3_openUp : xM := (⟨"PulledSignals$FormulaReader", "openUp", "(I)V"⟩, prog_5_method_17_code, tX3_openUp, 3, 2, none, 1, 0, 477, 476, 100009, 6)
theorem ok_rX3_openUp : xMok rX3_openUp = true := by decide +kernel
def tX3_closeDown : List (List xEnt) := [[(0, .aload_n 0, 1, 0, 0), (1, .getfield 26, 3, 3, 3), (4, .invokevirtual 144, 3, 53, 0), (7, .aload_n 0, 1, 0, 0), (8, .getfield 29, 3, 3, 4), (11, .invokevirtual 144, 3, 53, 0), (14, .aload_n 0, 1, 0, 0), (15, .getfield 32, 3, 3, 5)],
  [(18, .invokevirtual 144, 3, 53, 0), (21, .return_, 1, 0, 0)]]
def rX3_closeDown : xM := (⟨"PulledSignals$FormulaReader", "closeDown", "()V"⟩, prog_5_method_18_code, tX3_closeDown, 3, 1, none, 0, 0, 527, 526, 100018, 6)
theorem ok_rX3_closeDown : xMok rX3_closeDown = true := by decide +kernel
def tX3_closeWithPart : List (List xEnt) := [[(0, .aload_n 0, 1, 0, 0), (1, .getfield 35, 3, 3, 6), (4, .aload_n 0, 1, 0, 0), (5, .getfield 35, 3, 3, 6), (8, .invokevirtual 45, 3, 44, 0), (11, .iconst 1, 1, 0, 0), (12, .isub, 1, 0, 0), (13, .aload_n 0, 1, 0, 0), (14, .getfield 29, 3, 3, 4)],
  [(17, .invokevirtual 126, 3, 47, 0), (20, .invokevirtual 156, 3, 51, 0), (23, .aload_n 0, 1, 0, 0), (24, .invokevirtual 141, 3, 37, 0), (27, .return_, 1, 0, 0)]]
def rX3_closeWithPart : xM := (⟨"PulledSignals$FormulaReader", "closeWithPart", "()V"⟩, prog_5_method_19_code, tX3_closeWithPart, 3, 1, none, 0, 0, 554, 553, 100021, 6)
theorem ok_rX3_closeWithPart : xMok rX3_closeWithPart = true := by decide +kernel
def tX3_addStep : List (List xEnt) := [[(0, .aload_n 0, 1, 0, 0), (1, .getfield 14, 3, 3, 0), (4, .iload_n 1, 1, 0, 0), (5, .invokevirtual 92, 3, 50, 0), (8, .aload_n 0, 1, 0, 0), (9, .getfield 20, 3, 3, 1), (12, .iload_n 2, 1, 0, 0), (13, .invokevirtual 92, 3, 50, 0)],
  [(16, .return_, 1, 0, 0)]]
def rX3_addStep : xM := (⟨"PulledSignals$FormulaReader", "addStep", "(II)V"⟩, prog_5_method_20_code, tX3_addStep, 3, 3, none, 2, 0, 494, 493, 100013, 6)
theorem ok_rX3_addStep : xMok rX3_addStep = true := by decide +kernel
def tX3_joiningSign : List (List xEnt) := [[(0, .iload_n 0, 1, 0, 0), (1, .tableswitch 137 37 62 #[127, 137, 137, 137, 137, 123, 119, 137, 121, 137, 125, 137, 137, 137, 137, 137, 137, 137, 137, 137, 137, 137, 137, 129, 131, 134], 119, 0, 0)],
  [],
  [],
  [],
  [],
  [],
  [],
  [(120, .iconst 0, 1, 0, 0), (121, .ireturn, 1, 0, 0), (122, .iconst 1, 1, 0, 0), (123, .ireturn, 1, 0, 0), (124, .iconst 2, 1, 0, 0), (125, .ireturn, 1, 0, 0), (126, .iconst 3, 1, 0, 0), (127, .ireturn, 1, 0, 0)],
  [(128, .iconst 4, 1, 0, 0), (129, .ireturn, 1, 0, 0), (130, .iconst 5, 1, 0, 0), (131, .ireturn, 1, 0, 0), (132, .bipush 6, 2, 0, 0), (134, .ireturn, 1, 0, 0), (135, .bipush 7, 2, 0, 0), (137, .ireturn, 1, 0, 0), (138, .iconst (-1), 1, 0, 0), (139, .ireturn, 1, 0, 0)]]
def rX3_joiningSign : xM := (⟨"PulledSignals$FormulaReader", "joiningSign", "(I)I"⟩, prog_5_method_21_code, tX3_joiningSign, 3, 1, (some Jvm.ClassFile.FieldType.int), 1, 1, 512, 511, 200000, 6)
theorem ok_rX3_joiningSign : xMok rX3_joiningSign = true := by decide +kernel
def tX3_level : List (List xEnt) := [[(0, .iload_n 0, 1, 0, 0), (1, .tableswitch 53 0 7 #[49, 49, 47, 47, 47, 51, 51, 51], 47, 0, 0)],
  [],
  [],
  [(48, .iconst 3, 1, 0, 0), (49, .ireturn, 1, 0, 0), (50, .iconst 2, 1, 0, 0), (51, .ireturn, 1, 0, 0), (52, .iconst 1, 1, 0, 0), (53, .ireturn, 1, 0, 0), (54, .iconst 0, 1, 0, 0), (55, .ireturn, 1, 0, 0)]]
def rX3_level : xM := (⟨"PulledSignals$FormulaReader", "level", "(I)I"⟩, prog_5_method_22_code, tX3_level, 3, 1, (some Jvm.ClassFile.FieldType.int), 1, 1, 523, 522, 200000, 6)
theorem ok_rX3_level : xMok rX3_level = true := by decide +kernel
def tX3_awaited : List (List xEnt) := [[(0, .iload_n 0, 1, 0, 0), (1, .tableswitch 43 21 24 #[31, 34, 37, 40], 31, 0, 0)],
  [],
  [(32, .bipush 63, 2, 0, 0), (34, .ireturn, 1, 0, 0), (35, .bipush 58, 2, 0, 0), (37, .ireturn, 1, 0, 0), (38, .bipush 93, 2, 0, 0), (40, .ireturn, 1, 0, 0), (41, .bipush 44, 2, 0, 0), (43, .ireturn, 1, 0, 0), (44, .bipush 41, 2, 0, 0), (46, .ireturn, 1, 0, 0)]]
def rX3_awaited : xM := (⟨"PulledSignals$FormulaReader", "awaited", "(I)I"⟩, prog_5_method_23_code, tX3_awaited, 3, 1, (some Jvm.ClassFile.FieldType.int), 1, 1, 542, 541, 200000, 6)
theorem ok_rX3_awaited : xMok rX3_awaited = true := by decide +kernel
def tX4_init : List (List xEnt) := [[(0, .aload_n 0, 1, 0, 0), (1, .invokespecial 3, 3, 0, 9), (4, .aload_n 0, 1, 0, 0), (5, .iload_n 1, 1, 0, 0), (6, .ifCond .ge 7, 3, 0, 0), (9, .iconst 0, 1, 0, 0), (10, .goto 4, 3, 0, 0), (13, .iload_n 1, 1, 0, 0), (14, .newarray .int, 2, 0, 0)],
  [(16, .putfield 9, 3, 4, 0), (19, .return_, 1, 0, 0)]]
def rX4_init : xM := (⟨"PulledSignals$Numbers", "<init>", "(I)V"⟩, prog_6_method_1_code, tX4_init, 4, 2, none, 1, 2, 37, 36, 200000, 3)
theorem ok_rX4_init : xMok rX4_init = true := by decide +kernel
def tX4_size : List (List xEnt) := [[(0, .aload_n 0, 1, 0, 0), (1, .getfield 15, 3, 4, 1), (4, .ireturn, 1, 0, 0)]]
def rX4_size : xM := (⟨"PulledSignals$Numbers", "size", "()I"⟩, prog_6_method_2_code, tX4_size, 4, 1, (some Jvm.ClassFile.FieldType.int), 0, 0, 318, 316, 317, 3)
theorem ok_rX4_size : xMok rX4_size = true := by decide +kernel
def tX4_counted : List (List xEnt) := [[(0, .aload_n 0, 1, 0, 0), (1, .getfield 19, 3, 4, 2), (4, .ireturn, 1, 0, 0)]]
def rX4_counted : xM := (⟨"PulledSignals$Numbers", "counted", "()I"⟩, prog_6_method_3_code, tX4_counted, 4, 1, (some Jvm.ClassFile.FieldType.int), 0, 0, 964, 962, 963, 3)
theorem ok_rX4_counted : xMok rX4_counted = true := by decide +kernel
def tX4_at : List (List xEnt) := [[(0, .iload_n 1, 1, 0, 0), (1, .ifCond .lt 29, 3, 0, 0), (4, .iload_n 1, 1, 0, 0), (5, .aload_n 0, 1, 0, 0), (6, .getfield 15, 3, 4, 1), (9, .if_icmp .ge 21, 3, 0, 0), (12, .iload_n 1, 1, 0, 0), (13, .aload_n 0, 1, 0, 0), (14, .getfield 9, 3, 4, 0)],
  [(17, .arraylength, 1, 0, 0), (18, .if_icmp .ge 12, 3, 0, 0), (21, .aload_n 0, 1, 0, 0), (22, .getfield 9, 3, 4, 0), (25, .iload_n 1, 1, 0, 0), (26, .iaload, 1, 0, 0), (27, .goto 4, 3, 0, 0), (30, .iconst (-1), 1, 0, 0), (31, .ireturn, 1, 0, 0)]]
def rX4_at : xM := (⟨"PulledSignals$Numbers", "at", "(I)I"⟩, prog_6_method_4_code, tX4_at, 4, 2, (some Jvm.ClassFile.FieldType.int), 1, 0, 473, 471, 472, 3)
theorem ok_rX4_at : xMok rX4_at = true := by decide +kernel
def tX4_last : List (List xEnt) := [[(0, .aload_n 0, 1, 0, 0), (1, .getfield 15, 3, 4, 1), (4, .ifCond .le 29, 3, 0, 0), (7, .aload_n 0, 1, 0, 0), (8, .getfield 15, 3, 4, 1), (11, .aload_n 0, 1, 0, 0), (12, .getfield 9, 3, 4, 0), (15, .arraylength, 1, 0, 0)],
  [(16, .if_icmp .gt 17, 3, 0, 0), (19, .aload_n 0, 1, 0, 0), (20, .getfield 9, 3, 4, 0), (23, .aload_n 0, 1, 0, 0), (24, .getfield 15, 3, 4, 1), (27, .iconst 1, 1, 0, 0), (28, .isub, 1, 0, 0), (29, .iaload, 1, 0, 0), (30, .goto 4, 3, 0, 0)],
  [(33, .iconst (-1), 1, 0, 0), (34, .ireturn, 1, 0, 0)]]
def rX4_last : xM := (⟨"PulledSignals$Numbers", "last", "()I"⟩, prog_6_method_5_code, tX4_last, 4, 1, (some Jvm.ClassFile.FieldType.int), 0, 0, 520, 518, 519, 3)
theorem ok_rX4_last : xMok rX4_last = true := by decide +kernel
def tX4_take : List (List xEnt) := [[(0, .aload_n 0, 1, 0, 0), (1, .getfield 15, 3, 4, 1), (4, .ifCond .le 15, 3, 0, 0), (7, .aload_n 0, 1, 0, 0), (8, .getfield 15, 3, 4, 1), (11, .aload_n 0, 1, 0, 0), (12, .getfield 9, 3, 4, 0), (15, .arraylength, 1, 0, 0)],
  [(16, .if_icmp .le 5, 3, 0, 0), (19, .iconst (-1), 1, 0, 0), (20, .ireturn, 1, 0, 0), (21, .aload_n 0, 1, 0, 0), (22, .dup, 1, 0, 0), (23, .getfield 15, 3, 4, 1), (26, .iconst 1, 1, 0, 0), (27, .isub, 1, 0, 0), (28, .putfield 15, 3, 4, 1), (31, .aload_n 0, 1, 0, 0)],
  [(32, .getfield 9, 3, 4, 0), (35, .aload_n 0, 1, 0, 0), (36, .getfield 15, 3, 4, 1), (39, .iaload, 1, 0, 0), (40, .ireturn, 1, 0, 0)]]
def rX4_take : xM := (⟨"PulledSignals$Numbers", "take", "()I"⟩, prog_6_method_6_code, tX4_take, 4, 1, (some Jvm.ClassFile.FieldType.int), 0, 0, 691, 689, 690, 3)
theorem ok_rX4_take : xMok rX4_take = true := by decide +kernel
def tX4_has : List (List xEnt) := [[(0, .iconst 0, 1, 0, 0), (1, .istore_n 2, 1, 0, 0), (2, .iload_n 2, 1, 0, 0), (3, .aload_n 0, 1, 0, 0), (4, .getfield 15, 3, 4, 1), (7, .if_icmp .ge 30, 3, 0, 0), (10, .iload_n 2, 1, 0, 0), (11, .aload_n 0, 1, 0, 0), (12, .getfield 9, 3, 4, 0), (15, .arraylength, 1, 0, 0)],
  [(16, .if_icmp .ge 21, 3, 0, 0), (19, .aload_n 0, 1, 0, 0), (20, .getfield 9, 3, 4, 0), (23, .iload_n 2, 1, 0, 0), (24, .iaload, 1, 0, 0), (25, .iload_n 1, 1, 0, 0), (26, .if_icmp .ne 5, 3, 0, 0), (29, .iconst 1, 1, 0, 0), (30, .ireturn, 1, 0, 0), (31, .iinc 2 1, 3, 0, 0)],
  [(34, .goto (-32), 3, 0, 0), (37, .iconst 0, 1, 0, 0), (38, .ireturn, 1, 0, 0)]]
def rX4_has : xM := (⟨"PulledSignals$Numbers", "has", "(I)Z"⟩, prog_6_method_7_code, tX4_has, 4, 3, (some Jvm.ClassFile.FieldType.boolean), 1, 0, 805, 803, 804, 3)
theorem ok_rX4_has : xMok rX4_has = true := by decide +kernel
def tX4_add : List (List xEnt) := [[(0, .aload_n 0, 1, 0, 0), (1, .dup, 1, 0, 0), (2, .getfield 19, 3, 4, 2), (5, .iconst 1, 1, 0, 0), (6, .iadd, 1, 0, 0), (7, .putfield 19, 3, 4, 2), (10, .aload_n 0, 1, 0, 0), (11, .getfield 15, 3, 4, 1), (14, .ifCond .lt 35, 3, 0, 0)],
  [(17, .aload_n 0, 1, 0, 0), (18, .getfield 15, 3, 4, 1), (21, .aload_n 0, 1, 0, 0), (22, .getfield 9, 3, 4, 0), (25, .arraylength, 1, 0, 0), (26, .if_icmp .ge 23, 3, 0, 0), (29, .aload_n 0, 1, 0, 0), (30, .getfield 9, 3, 4, 0)],
  [(33, .aload_n 0, 1, 0, 0), (34, .getfield 15, 3, 4, 1), (37, .iload_n 1, 1, 0, 0), (38, .iastore, 1, 0, 0), (39, .aload_n 0, 1, 0, 0), (40, .dup, 1, 0, 0), (41, .getfield 15, 3, 4, 1), (44, .iconst 1, 1, 0, 0), (45, .iadd, 1, 0, 0), (46, .putfield 15, 3, 4, 1)],
  [(49, .return_, 1, 0, 0)]]
def rX4_add : xM := (⟨"PulledSignals$Numbers", "add", "(I)V"⟩, prog_6_method_8_code, tX4_add, 4, 2, none, 1, 0, 336, 334, 335, 3)
theorem ok_rX4_add : xMok rX4_add = true := by decide +kernel
def tX4_put : List (List xEnt) := [[(0, .iload_n 1, 1, 0, 0), (1, .ifCond .lt 27, 3, 0, 0), (4, .iload_n 1, 1, 0, 0), (5, .aload_n 0, 1, 0, 0), (6, .getfield 15, 3, 4, 1), (9, .if_icmp .ge 19, 3, 0, 0), (12, .iload_n 1, 1, 0, 0), (13, .aload_n 0, 1, 0, 0), (14, .getfield 9, 3, 4, 0)],
  [(17, .arraylength, 1, 0, 0), (18, .if_icmp .ge 10, 3, 0, 0), (21, .aload_n 0, 1, 0, 0), (22, .getfield 9, 3, 4, 0), (25, .iload_n 1, 1, 0, 0), (26, .iload_n 2, 1, 0, 0), (27, .iastore, 1, 0, 0), (28, .return_, 1, 0, 0)]]
def rX4_put : xM := (⟨"PulledSignals$Numbers", "put", "(II)V"⟩, prog_6_method_9_code, tX4_put, 4, 3, none, 2, 0, 550, 548, 549, 3)
theorem ok_rX4_put : xMok rX4_put = true := by decide +kernel
def tX4_insert : List (List xEnt) := [[(0, .iload_n 1, 1, 0, 0), (1, .ifCond .lt 23, 3, 0, 0), (4, .iload_n 1, 1, 0, 0), (5, .aload_n 0, 1, 0, 0), (6, .getfield 15, 3, 4, 1), (9, .if_icmp .gt 15, 3, 0, 0), (12, .aload_n 0, 1, 0, 0), (13, .getfield 15, 3, 4, 1)],
  [(16, .aload_n 0, 1, 0, 0), (17, .getfield 9, 3, 4, 0), (20, .arraylength, 1, 0, 0), (21, .if_icmp .lt 4, 3, 0, 0), (24, .return_, 1, 0, 0), (25, .aload_n 0, 1, 0, 0), (26, .getfield 15, 3, 4, 1), (29, .istore_n 3, 1, 0, 0), (30, .iload_n 3, 1, 0, 0), (31, .iload_n 1, 1, 0, 0)],
  [(32, .if_icmp .le 23, 3, 0, 0), (35, .aload_n 0, 1, 0, 0), (36, .getfield 9, 3, 4, 0), (39, .iload_n 3, 1, 0, 0), (40, .aload_n 0, 1, 0, 0), (41, .getfield 9, 3, 4, 0), (44, .iload_n 3, 1, 0, 0), (45, .iconst 1, 1, 0, 0), (46, .isub, 1, 0, 0), (47, .iaload, 1, 0, 0)],
  [(48, .iastore, 1, 0, 0), (49, .iinc 3 (-1), 3, 0, 0), (52, .goto (-22), 3, 0, 0), (55, .aload_n 0, 1, 0, 0), (56, .getfield 9, 3, 4, 0), (59, .iload_n 1, 1, 0, 0), (60, .iload_n 2, 1, 0, 0), (61, .iastore, 1, 0, 0), (62, .aload_n 0, 1, 0, 0), (63, .dup, 1, 0, 0)],
  [(64, .getfield 15, 3, 4, 1), (67, .iconst 1, 1, 0, 0), (68, .iadd, 1, 0, 0), (69, .putfield 15, 3, 4, 1), (72, .return_, 1, 0, 0)]]
def rX4_insert : xM := (⟨"PulledSignals$Numbers", "insert", "(II)V"⟩, prog_6_method_10_code, tX4_insert, 4, 4, none, 2, 0, 535, 533, 534, 3)
theorem ok_rX4_insert : xMok rX4_insert = true := by decide +kernel
def tX4_dropLast : List (List xEnt) := [[(0, .aload_n 0, 1, 0, 0), (1, .getfield 15, 3, 4, 1), (4, .ifCond .le 13, 3, 0, 0), (7, .aload_n 0, 1, 0, 0), (8, .dup, 1, 0, 0), (9, .getfield 15, 3, 4, 1), (12, .iconst 1, 1, 0, 0), (13, .isub, 1, 0, 0), (14, .putfield 15, 3, 4, 1)],
  [(17, .return_, 1, 0, 0)]]
def rX4_dropLast : xM := (⟨"PulledSignals$Numbers", "dropLast", "()V"⟩, prog_6_method_11_code, tX4_dropLast, 4, 1, none, 0, 0, 531, 529, 530, 3)
theorem ok_rX4_dropLast : xMok rX4_dropLast = true := by decide +kernel
def tX4_drop : List (List xEnt) := [[(0, .iconst 0, 1, 0, 0), (1, .istore_n 2, 1, 0, 0), (2, .iconst 0, 1, 0, 0), (3, .istore_n 3, 1, 0, 0), (4, .iload_n 3, 1, 0, 0), (5, .aload_n 0, 1, 0, 0), (6, .getfield 15, 3, 4, 1), (9, .if_icmp .ge 43, 3, 0, 0), (12, .iload_n 3, 1, 0, 0), (13, .aload_n 0, 1, 0, 0), (14, .getfield 9, 3, 4, 0)],
  [(17, .arraylength, 1, 0, 0), (18, .if_icmp .ge 34, 3, 0, 0), (21, .aload_n 0, 1, 0, 0), (22, .getfield 9, 3, 4, 0), (25, .iload_n 3, 1, 0, 0), (26, .iaload, 1, 0, 0), (27, .iload_n 1, 1, 0, 0), (28, .if_icmp .eq 18, 3, 0, 0), (31, .aload_n 0, 1, 0, 0)],
  [(32, .getfield 9, 3, 4, 0), (35, .iload_n 2, 1, 0, 0), (36, .aload_n 0, 1, 0, 0), (37, .getfield 9, 3, 4, 0), (40, .iload_n 3, 1, 0, 0), (41, .iaload, 1, 0, 0), (42, .iastore, 1, 0, 0), (43, .iinc 2 1, 3, 0, 0), (46, .iinc 3 1, 3, 0, 0)],
  [(49, .goto (-45), 3, 0, 0), (52, .aload_n 0, 1, 0, 0), (53, .iload_n 2, 1, 0, 0), (54, .putfield 15, 3, 4, 1), (57, .return_, 1, 0, 0)]]
def rX4_drop : xM := (⟨"PulledSignals$Numbers", "drop", "(I)V"⟩, prog_6_method_12_code, tX4_drop, 4, 4, none, 1, 0, 627, 625, 626, 3)
theorem ok_rX4_drop : xMok rX4_drop = true := by decide +kernel
def tX4_clear : List (List xEnt) := [[(0, .aload_n 0, 1, 0, 0), (1, .iconst 0, 1, 0, 0), (2, .putfield 15, 3, 4, 1), (5, .aload_n 0, 1, 0, 0), (6, .iconst 0, 1, 0, 0), (7, .putfield 19, 3, 4, 2), (10, .return_, 1, 0, 0)]]
def rX4_clear : xM := (⟨"PulledSignals$Numbers", "clear", "()V"⟩, prog_6_method_13_code, tX4_clear, 4, 1, none, 0, 0, 344, 342, 343, 3)
theorem ok_rX4_clear : xMok rX4_clear = true := by decide +kernel
def tX4_takeFrom : List (List xEnt) := [[(0, .aload_n 0, 1, 0, 0), (1, .invokevirtual 22, 3, 55, 0), (4, .iconst 0, 1, 0, 0), (5, .istore_n 2, 1, 0, 0), (6, .iload_n 2, 1, 0, 0), (7, .aload_n 1, 1, 0, 0), (8, .getfield 15, 3, 4, 1), (11, .if_icmp .ge 49, 3, 0, 0), (14, .iload_n 2, 1, 0, 0), (15, .aload_n 1, 1, 0, 0)],
  [(16, .getfield 9, 3, 4, 0), (19, .arraylength, 1, 0, 0), (20, .if_icmp .ge 40, 3, 0, 0), (23, .iload_n 2, 1, 0, 0), (24, .aload_n 0, 1, 0, 0), (25, .getfield 9, 3, 4, 0), (28, .arraylength, 1, 0, 0), (29, .if_icmp .ge 31, 3, 0, 0)],
  [(32, .aload_n 0, 1, 0, 0), (33, .getfield 9, 3, 4, 0), (36, .iload_n 2, 1, 0, 0), (37, .aload_n 1, 1, 0, 0), (38, .getfield 9, 3, 4, 0), (41, .iload_n 2, 1, 0, 0), (42, .iaload, 1, 0, 0), (43, .iastore, 1, 0, 0), (44, .aload_n 0, 1, 0, 0), (45, .dup, 1, 0, 0), (46, .getfield 15, 3, 4, 1)],
  [(49, .iconst 1, 1, 0, 0), (50, .iadd, 1, 0, 0), (51, .putfield 15, 3, 4, 1), (54, .iinc 2 1, 3, 0, 0), (57, .goto (-51), 3, 0, 0), (60, .aload_n 0, 1, 0, 0), (61, .aload_n 1, 1, 0, 0), (62, .getfield 19, 3, 4, 2)],
  [(65, .putfield 19, 3, 4, 2), (68, .return_, 1, 0, 0)]]
def rX4_takeFrom : xM := (⟨"PulledSignals$Numbers", "takeFrom", "(LPulledSignals$Numbers;)V"⟩, prog_6_method_14_code, tX4_takeFrom, 4, 3, none, 1, 0, 577, 575, 576, 3)
theorem ok_rX4_takeFrom : xMok rX4_takeFrom = true := by decide +kernel
def tX4_trimmed : List (List xEnt) := [[(0, .new 10, 3, 4, 0), (3, .dup, 1, 0, 0), (4, .aload_n 0, 1, 0, 0), (5, .getfield 15, 3, 4, 1), (8, .invokespecial 25, 3, 43, 4), (11, .astore_n 1, 1, 0, 0), (12, .aload_n 1, 1, 0, 0), (13, .aload_n 0, 1, 0, 0), (14, .invokevirtual 28, 3, 56, 0)],
  [(17, .aload_n 1, 1, 0, 0), (18, .areturn, 1, 0, 0)]]
def rX4_trimmed : xM := (⟨"PulledSignals$Numbers", "trimmed", "()LPulledSignals$Numbers;"⟩, prog_6_method_15_code, tX4_trimmed, 4, 2, (some (Jvm.ClassFile.FieldType.object "PulledSignals$Numbers")), 0, 0, 571, 569, 570, 3)
theorem ok_rX4_trimmed : xMok rX4_trimmed = true := by decide +kernel
def tX5_init : List (List xEnt) := [[(0, .aload_n 0, 1, 0, 0), (1, .invokespecial 3, 3, 0, 9), (4, .aload_n 0, 1, 0, 0), (5, .aload_n 1, 1, 0, 0), (6, .putfield 9, 3, 5, 0), (9, .return_, 1, 0, 0)]]
def rX5_init : xM := (⟨"PulledSignals$Puller", "<init>", "(LPulledSignals$Web;)V"⟩, prog_7_method_1_code, tX5_init, 5, 2, none, 1, 2, 91, 90, 200000, 4)
theorem ok_rX5_init : xMok rX5_init = true := by decide +kernel
def tX5_pull : List (List xEnt) := [[(0, .aload_n 0, 1, 0, 0), (1, .iload_n 1, 1, 0, 0), (2, .iconst 0, 1, 0, 0), (3, .invokevirtual 15, 3, 67, 0), (6, .return_, 1, 0, 0)]]
def rX5_pull : xM := (⟨"PulledSignals$Puller", "pull", "(I)V"⟩, prog_7_method_2_code, tX5_pull, 5, 2, none, 1, 0, 792, 790, 791, 4)
theorem ok_rX5_pull : xMok rX5_pull = true := by decide +kernel
def tX5_flushUnlessBatch : List (List xEnt) := [[(0, .aload_n 0, 1, 0, 0), (1, .getfield 9, 3, 5, 0), (4, .getfield 19, 3, 7, 7), (7, .ifCond .le 4, 3, 0, 0), (10, .return_, 1, 0, 0), (11, .iconst 0, 1, 0, 0), (12, .istore_n 1, 1, 0, 0), (13, .iload_n 1, 1, 0, 0), (14, .bipush 100, 2, 0, 0)],
  [(16, .if_icmp .ge 51, 3, 0, 0), (19, .aload_n 0, 1, 0, 0), (20, .getfield 9, 3, 5, 0), (23, .getfield 25, 3, 7, 3), (26, .invokevirtual 29, 3, 44, 0), (29, .ifCond .le 38, 3, 0, 0)],
  [(32, .aload_n 0, 1, 0, 0), (33, .getfield 9, 3, 5, 0), (36, .getfield 25, 3, 7, 3), (39, .iconst 0, 1, 0, 0), (40, .invokevirtual 35, 3, 46, 0), (43, .istore_n 2, 1, 0, 0), (44, .aload_n 0, 1, 0, 0), (45, .getfield 9, 3, 5, 0)],
  [(48, .getfield 25, 3, 7, 3), (51, .iload_n 2, 1, 0, 0), (52, .invokevirtual 39, 3, 54, 0), (55, .aload_n 0, 1, 0, 0), (56, .iload_n 2, 1, 0, 0), (57, .iconst 0, 1, 0, 0), (58, .invokevirtual 15, 3, 67, 0), (61, .iinc 1 1, 3, 0, 0)],
  [(64, .goto (-51), 3, 0, 0), (67, .return_, 1, 0, 0)]]
def rX5_flushUnlessBatch : xM := (⟨"PulledSignals$Puller", "flushUnlessBatch", "()V"⟩, prog_7_method_3_code, tX5_flushUnlessBatch, 5, 3, none, 0, 0, 621, 619, 620, 4)
theorem ok_rX5_flushUnlessBatch : xMok rX5_flushUnlessBatch = true := by decide +kernel
def tX5_writeTo : List (List xEnt) := [[(0, .aload_n 0, 1, 0, 0), (1, .getfield 9, 3, 5, 0), (4, .iload_n 1, 1, 0, 0), (5, .invokevirtual 43, 3, 87, 0), (8, .astore_n 3, 1, 0, 0), (9, .aload_n 3, 1, 0, 0), (10, .ifnull 13, 3, 0, 0), (13, .aload_n 3, 1, 0, 0), (14, .getfield 47, 3, 1, 7)],
  [(17, .iload_n 2, 1, 0, 0), (18, .i2l, 1, 0, 0), (19, .lcmp, 1, 0, 0), (20, .ifCond .ne 5, 3, 0, 0), (23, .iconst 0, 1, 0, 0), (24, .ireturn, 1, 0, 0), (25, .aload_n 3, 1, 0, 0), (26, .iload_n 2, 1, 0, 0), (27, .i2l, 1, 0, 0), (28, .putfield 47, 3, 1, 7), (31, .aload_n 3, 1, 0, 0)],
  [(32, .dup, 1, 0, 0), (33, .getfield 53, 3, 1, 5), (36, .lconst 1, 1, 0, 0), (37, .ladd, 1, 0, 0), (38, .putfield 53, 3, 1, 5), (41, .aload_n 0, 1, 0, 0), (42, .aload_n 0, 1, 0, 0), (43, .getfield 9, 3, 5, 0), (46, .iload_n 1, 1, 0, 0), (47, .invokevirtual 56, 3, 95, 0)],
  [(50, .aload_n 0, 1, 0, 0), (51, .getfield 9, 3, 5, 0), (54, .iload_n 1, 1, 0, 0), (55, .invokevirtual 59, 3, 96, 0), (58, .invokevirtual 62, 3, 66, 0), (61, .iconst 1, 1, 0, 0), (62, .ireturn, 1, 0, 0)]]
def rX5_writeTo : xM := (⟨"PulledSignals$Puller", "writeTo", "(II)Z"⟩, prog_7_method_4_code, tX5_writeTo, 5, 4, (some Jvm.ClassFile.FieldType.boolean), 2, 0, 759, 757, 758, 4)
theorem ok_rX5_writeTo : xMok rX5_writeTo = true := by decide +kernel
def tX5_giveFormula : List (List xEnt) := [[(0, .aload_n 0, 1, 0, 0), (1, .getfield 9, 3, 5, 0), (4, .iload_n 1, 1, 0, 0), (5, .invokevirtual 43, 3, 87, 0), (8, .astore_n 3, 1, 0, 0), (9, .aload_n 3, 1, 0, 0), (10, .ifnonnull 4, 3, 0, 0), (13, .return_, 1, 0, 0), (14, .aload_n 3, 1, 0, 0), (15, .aload_n 2, 1, 0, 0)],
  [(16, .putfield 65, 3, 1, 8), (19, .aload_n 0, 1, 0, 0), (20, .iconst 1, 1, 0, 0), (21, .iload_n 1, 1, 0, 0), (22, .ishl, 1, 0, 0), (23, .iconst 0, 1, 0, 0), (24, .invokevirtual 62, 3, 66, 0), (27, .aload_n 0, 1, 0, 0), (28, .iconst 0, 1, 0, 0), (29, .aload_n 0, 1, 0, 0), (30, .getfield 9, 3, 5, 0)],
  [(33, .iload_n 1, 1, 0, 0), (34, .invokevirtual 56, 3, 95, 0), (37, .aload_n 0, 1, 0, 0), (38, .getfield 9, 3, 5, 0), (41, .iload_n 1, 1, 0, 0), (42, .invokevirtual 59, 3, 96, 0), (45, .ior, 1, 0, 0), (46, .invokevirtual 62, 3, 66, 0)],
  [(49, .return_, 1, 0, 0)]]
def rX5_giveFormula : xM := (⟨"PulledSignals$Puller", "giveFormula", "(ILPulledSignals$Formula;)V"⟩, prog_7_method_5_code, tX5_giveFormula, 5, 4, none, 2, 0, 751, 749, 750, 4)
theorem ok_rX5_giveFormula : xMok rX5_giveFormula = true := by decide +kernel
def tX5_disposeOf : List (List xEnt) := [[(0, .aload_n 0, 1, 0, 0), (1, .iload_n 1, 1, 0, 0), (2, .iconst 0, 1, 0, 0), (3, .invokevirtual 69, 3, 64, 0), (6, .aload_n 0, 1, 0, 0), (7, .iload_n 1, 1, 0, 0), (8, .invokevirtual 72, 3, 65, 0), (11, .return_, 1, 0, 0)]]
def rX5_disposeOf : xM := (⟨"PulledSignals$Puller", "disposeOf", "(I)V"⟩, prog_7_method_6_code, tX5_disposeOf, 5, 2, none, 1, 0, 779, 777, 778, 4)
theorem ok_rX5_disposeOf : xMok rX5_disposeOf = true := by decide +kernel
def tX5_disposeOwned : List (List xEnt) := [[(0, .iload_n 2, 1, 0, 0), (1, .bipush 24, 2, 0, 0), (3, .if_icmp .le 7, 3, 0, 0), (6, .iconst 0, 1, 0, 0), (7, .goto 11, 3, 0, 0), (10, .aload_n 0, 1, 0, 0), (11, .getfield 9, 3, 5, 0), (14, .iload_n 1, 1, 0, 0), (15, .invokevirtual 75, 3, 92, 0)],
  [(18, .istore_n 3, 1, 0, 0), (19, .bipush 23, 2, 0, 0), (21, .istore 4, 2, 0, 0), (23, .iload 4, 2, 0, 0), (25, .ifCond .lt 37, 3, 0, 0), (28, .iload_n 3, 1, 0, 0), (29, .ifCond .eq 33, 3, 0, 0)],
  [(32, .iload_n 3, 1, 0, 0), (33, .iload 4, 2, 0, 0), (35, .ishr, 1, 0, 0), (36, .iconst 1, 1, 0, 0), (37, .iand, 1, 0, 0), (38, .ifCond .eq 18, 3, 0, 0), (41, .aload_n 0, 1, 0, 0), (42, .iload 4, 2, 0, 0), (44, .iload_n 2, 1, 0, 0), (45, .iconst 1, 1, 0, 0), (46, .iadd, 1, 0, 0), (47, .invokevirtual 69, 3, 64, 0)],
  [(50, .aload_n 0, 1, 0, 0), (51, .iload 4, 2, 0, 0), (53, .invokevirtual 72, 3, 65, 0), (56, .iinc 4 (-1), 3, 0, 0), (59, .goto (-36), 3, 0, 0), (62, .return_, 1, 0, 0)]]
def rX5_disposeOwned : xM := (⟨"PulledSignals$Puller", "disposeOwned", "(II)V"⟩, prog_7_method_7_code, tX5_disposeOwned, 5, 5, none, 2, 0, 651, 650, 100027, 4)
theorem ok_rX5_disposeOwned : xMok rX5_disposeOwned = true := by decide +kernel
def tX5_letGo : List (List xEnt) := [[(0, .aload_n 0, 1, 0, 0), (1, .getfield 9, 3, 5, 0), (4, .iload_n 1, 1, 0, 0), (5, .invokevirtual 43, 3, 87, 0), (8, .astore_n 2, 1, 0, 0), (9, .aload_n 2, 1, 0, 0), (10, .ifnonnull 4, 3, 0, 0), (13, .return_, 1, 0, 0), (14, .aload_n 2, 1, 0, 0), (15, .iconst 1, 1, 0, 0)],
  [(16, .putfield 78, 3, 1, 2), (19, .aload_n 2, 1, 0, 0), (20, .iconst 0, 1, 0, 0), (21, .putfield 82, 3, 1, 4), (24, .aload_n 0, 1, 0, 0), (25, .getfield 9, 3, 5, 0), (28, .iload_n 1, 1, 0, 0), (29, .invokevirtual 84, 3, 94, 0)],
  [(32, .aload_n 0, 1, 0, 0), (33, .getfield 9, 3, 5, 0), (36, .getfield 25, 3, 7, 3), (39, .iload_n 1, 1, 0, 0), (40, .invokevirtual 39, 3, 54, 0), (43, .aload_n 0, 1, 0, 0), (44, .getfield 9, 3, 5, 0), (47, .getfield 87, 3, 7, 6)],
  [(50, .iload_n 1, 1, 0, 0), (51, .invokevirtual 90, 3, 50, 0), (54, .aload_n 0, 1, 0, 0), (55, .aload_n 0, 1, 0, 0), (56, .getfield 9, 3, 5, 0), (59, .iload_n 1, 1, 0, 0), (60, .invokevirtual 56, 3, 95, 0), (63, .aload_n 0, 1, 0, 0)],
  [(64, .getfield 9, 3, 5, 0), (67, .iload_n 1, 1, 0, 0), (68, .invokevirtual 59, 3, 96, 0), (71, .invokevirtual 62, 3, 66, 0), (74, .return_, 1, 0, 0)]]
def rX5_letGo : xM := (⟨"PulledSignals$Puller", "letGo", "(I)V"⟩, prog_7_method_8_code, tX5_letGo, 5, 3, none, 1, 0, 656, 655, 100028, 4)
theorem ok_rX5_letGo : xMok rX5_letGo = true := by decide +kernel
def tX5_colour : List (List xEnt) := [[(0, .iconst 0, 1, 0, 0), (1, .istore_n 3, 1, 0, 0), (2, .iload_n 1, 1, 0, 0), (3, .iload_n 2, 1, 0, 0), (4, .ior, 1, 0, 0), (5, .iload_n 3, 1, 0, 0), (6, .iushr, 1, 0, 0), (7, .ifCond .eq 122, 3, 0, 0), (10, .iload_n 3, 1, 0, 0), (11, .aload_n 0, 1, 0, 0), (12, .getfield 9, 3, 5, 0), (15, .invokevirtual 93, 3, 85, 0)],
  [(18, .if_icmp .ge 111, 3, 0, 0), (21, .aload_n 0, 1, 0, 0), (22, .getfield 9, 3, 5, 0), (25, .iload_n 3, 1, 0, 0), (26, .invokevirtual 43, 3, 87, 0), (29, .astore 4, 2, 0, 0), (31, .aload 4, 2, 0, 0)],
  [(33, .ifnonnull 6, 3, 0, 0), (36, .goto 87, 3, 0, 0), (39, .aload 4, 2, 0, 0), (41, .getfield 82, 3, 1, 4), (44, .ifCond .ne 7, 3, 0, 0), (47, .iconst 1, 1, 0, 0)],
  [(48, .goto 4, 3, 0, 0), (51, .iconst 0, 1, 0, 0), (52, .istore 5, 2, 0, 0), (54, .iload_n 1, 1, 0, 0), (55, .iload_n 3, 1, 0, 0), (56, .ishr, 1, 0, 0), (57, .iconst 1, 1, 0, 0), (58, .iand, 1, 0, 0), (59, .ifCond .eq 12, 3, 0, 0), (62, .aload 4, 2, 0, 0)],
  [(64, .iconst 2, 1, 0, 0), (65, .putfield 82, 3, 1, 4), (68, .goto 22, 3, 0, 0), (71, .iload 5, 2, 0, 0), (73, .ifCond .eq 17, 3, 0, 0), (76, .iload_n 2, 1, 0, 0), (77, .iload_n 3, 1, 0, 0), (78, .ishr, 1, 0, 0), (79, .iconst 1, 1, 0, 0)],
  [(80, .iand, 1, 0, 0), (81, .ifCond .eq 9, 3, 0, 0), (84, .aload 4, 2, 0, 0), (86, .iconst 1, 1, 0, 0), (87, .putfield 82, 3, 1, 4), (90, .aload 4, 2, 0, 0), (92, .getfield 96, 3, 1, 0), (95, .iconst 4, 1, 0, 0)],
  [(96, .if_icmp .ne 27, 3, 0, 0), (99, .iload 5, 2, 0, 0), (101, .ifCond .eq 22, 3, 0, 0), (104, .aload 4, 2, 0, 0), (106, .getfield 82, 3, 1, 4), (109, .ifCond .eq 14, 3, 0, 0)],
  [(112, .aload_n 0, 1, 0, 0), (113, .getfield 9, 3, 5, 0), (116, .getfield 25, 3, 7, 3), (119, .iload_n 3, 1, 0, 0), (120, .invokevirtual 90, 3, 50, 0), (123, .iinc 3 1, 3, 0, 0), (126, .goto (-124), 3, 0, 0)],
  [(129, .return_, 1, 0, 0)]]
def rX5_colour : xM := (⟨"PulledSignals$Puller", "colour", "(II)V"⟩, prog_7_method_9_code, tX5_colour, 5, 6, none, 2, 0, 670, 669, 100029, 4)
theorem ok_rX5_colour : xMok rX5_colour = true := by decide +kernel
def tX5_refresh : List (List xEnt) := [[(0, .aload_n 0, 1, 0, 0), (1, .getfield 9, 3, 5, 0), (4, .iload_n 1, 1, 0, 0), (5, .invokevirtual 43, 3, 87, 0), (8, .astore_n 3, 1, 0, 0), (9, .aload_n 3, 1, 0, 0), (10, .ifnull 23, 3, 0, 0), (13, .aload_n 3, 1, 0, 0), (14, .getfield 99, 3, 1, 3)],
  [(17, .ifCond .ne 16, 3, 0, 0), (20, .aload_n 3, 1, 0, 0), (21, .getfield 82, 3, 1, 4), (24, .ifCond .eq 9, 3, 0, 0), (27, .iload_n 2, 1, 0, 0), (28, .bipush 24, 2, 0, 0), (30, .if_icmp .le 4, 3, 0, 0)],
  [(33, .return_, 1, 0, 0), (34, .aload_n 3, 1, 0, 0), (35, .iconst 1, 1, 0, 0), (36, .putfield 99, 3, 1, 3), (39, .aload_n 3, 1, 0, 0), (40, .getfield 82, 3, 1, 4), (43, .iconst 1, 1, 0, 0), (44, .if_icmp .ne 9, 3, 0, 0), (47, .aload_n 0, 1, 0, 0)],
  [(48, .aload_n 3, 1, 0, 0), (49, .iload_n 2, 1, 0, 0), (50, .invokevirtual 102, 3, 68, 0), (53, .aload_n 3, 1, 0, 0), (54, .getfield 82, 3, 1, 4), (57, .iconst 2, 1, 0, 0), (58, .if_icmp .ne 10, 3, 0, 0), (61, .aload_n 0, 1, 0, 0), (62, .aload_n 3, 1, 0, 0), (63, .iload_n 1, 1, 0, 0)],
  [(64, .iload_n 2, 1, 0, 0), (65, .invokevirtual 106, 3, 69, 0), (68, .aload_n 3, 1, 0, 0), (69, .iconst 0, 1, 0, 0), (70, .putfield 99, 3, 1, 3), (73, .return_, 1, 0, 0)]]
def rX5_refresh : xM := (⟨"PulledSignals$Puller", "refresh", "(II)V"⟩, prog_7_method_10_code, tX5_refresh, 5, 4, none, 2, 0, 631, 630, 100024, 4)
theorem ok_rX5_refresh : xMok rX5_refresh = true := by decide +kernel
def tX5_checkReads : List (List xEnt) := [[(0, .iconst 0, 1, 0, 0), (1, .istore_n 3, 1, 0, 0), (2, .iload_n 3, 1, 0, 0), (3, .aload_n 1, 1, 0, 0), (4, .getfield 110, 3, 1, 9), (7, .invokevirtual 29, 3, 44, 0), (10, .if_icmp .ge 61, 3, 0, 0), (13, .aload_n 1, 1, 0, 0), (14, .getfield 82, 3, 1, 4)],
  [(17, .iconst 1, 1, 0, 0), (18, .if_icmp .ne 53, 3, 0, 0), (21, .aload_n 1, 1, 0, 0), (22, .getfield 110, 3, 1, 9), (25, .iload_n 3, 1, 0, 0), (26, .invokevirtual 35, 3, 46, 0), (29, .istore 4, 2, 0, 0), (31, .aload_n 0, 1, 0, 0)],
  [(32, .getfield 9, 3, 5, 0), (35, .iload 4, 2, 0, 0), (37, .invokevirtual 43, 3, 87, 0), (40, .astore 5, 2, 0, 0), (42, .aload 5, 2, 0, 0), (44, .ifnull 21, 3, 0, 0), (47, .aload 5, 2, 0, 0)],
  [(49, .getfield 96, 3, 1, 0), (52, .iconst 3, 1, 0, 0), (53, .if_icmp .ne 12, 3, 0, 0), (56, .aload_n 0, 1, 0, 0), (57, .iload 4, 2, 0, 0), (59, .iload_n 2, 1, 0, 0), (60, .iconst 1, 1, 0, 0), (61, .iadd, 1, 0, 0), (62, .invokevirtual 15, 3, 67, 0)],
  [(65, .iinc 3 1, 3, 0, 0), (68, .goto (-66), 3, 0, 0), (71, .aload_n 1, 1, 0, 0), (72, .getfield 82, 3, 1, 4), (75, .iconst 1, 1, 0, 0), (76, .if_icmp .ne 8, 3, 0, 0), (79, .aload_n 1, 1, 0, 0)],
  [(80, .iconst 0, 1, 0, 0), (81, .putfield 82, 3, 1, 4), (84, .return_, 1, 0, 0)]]
def rX5_checkReads : xM := (⟨"PulledSignals$Puller", "checkReads", "(LPulledSignals$Cell;I)V"⟩, prog_7_method_11_code, tX5_checkReads, 5, 6, none, 2, 0, 636, 635, 100025, 4)
theorem ok_rX5_checkReads : xMok rX5_checkReads = true := by decide +kernel
def tX5_runOnce : List (List xEnt) := [[(0, .aload_n 0, 1, 0, 0), (1, .getfield 9, 3, 5, 0), (4, .iload_n 2, 1, 0, 0), (5, .invokevirtual 84, 3, 94, 0), (8, .aload_n 1, 1, 0, 0), (9, .getfield 96, 3, 1, 0), (12, .iconst 4, 1, 0, 0), (13, .if_icmp .ne 9, 3, 0, 0)],
  [(16, .aload_n 0, 1, 0, 0), (17, .iload_n 2, 1, 0, 0), (18, .iconst 0, 1, 0, 0), (19, .invokevirtual 69, 3, 64, 0), (22, .aload_n 1, 1, 0, 0), (23, .getfield 65, 3, 1, 8), (26, .astore 4, 2, 0, 0), (28, .aload 4, 2, 0, 0), (30, .ifnonnull 4, 3, 0, 0)],
  [(33, .return_, 1, 0, 0), (34, .aload 4, 2, 0, 0), (36, .invokevirtual 113, 3, 14, 0), (39, .iconst 0, 1, 0, 0), (40, .istore 5, 2, 0, 0), (42, .iload 5, 2, 0, 0), (44, .sipush 250, 3, 0, 0), (47, .if_icmp .ge 34, 3, 0, 0)],
  [(50, .aload 4, 2, 0, 0), (52, .invokevirtual 118, 3, 15, 0), (55, .ifCond .eq 26, 3, 0, 0), (58, .aload 4, 2, 0, 0), (60, .aload_n 0, 1, 0, 0), (61, .aload_n 1, 1, 0, 0), (62, .iload_n 2, 1, 0, 0), (63, .aload 4, 2, 0, 0)],
  [(65, .invokevirtual 122, 3, 12, 0), (68, .iload_n 3, 1, 0, 0), (69, .invokevirtual 125, 3, 70, 0), (72, .invokevirtual 129, 3, 16, 0), (75, .iinc 5 1, 3, 0, 0), (78, .goto (-36), 3, 0, 0)],
  [(81, .aload 4, 2, 0, 0), (83, .invokevirtual 133, 3, 17, 0), (86, .lstore 5, 2, 0, 0), (88, .aload_n 1, 1, 0, 0), (89, .iconst 0, 1, 0, 0), (90, .putfield 82, 3, 1, 4), (93, .aload_n 1, 1, 0, 0), (94, .dup, 1, 0, 0), (95, .getfield 136, 3, 1, 6)],
  [(98, .iconst 1, 1, 0, 0), (99, .iadd, 1, 0, 0), (100, .putfield 136, 3, 1, 6), (103, .aload_n 1, 1, 0, 0), (104, .getfield 96, 3, 1, 0), (107, .iconst 4, 1, 0, 0), (108, .if_icmp .ne 13, 3, 0, 0), (111, .aload_n 0, 1, 0, 0)],
  [(112, .getfield 9, 3, 5, 0), (115, .iload_n 2, 1, 0, 0), (116, .lload 5, 2, 0, 0), (118, .invokevirtual 139, 3, 101, 0), (121, .lload 5, 2, 0, 0), (123, .aload_n 1, 1, 0, 0), (124, .getfield 47, 3, 1, 7), (127, .lcmp, 1, 0, 0)],
  [(128, .ifCond .ne 12, 3, 0, 0), (131, .aload_n 1, 1, 0, 0), (132, .getfield 53, 3, 1, 5), (135, .lconst 0, 1, 0, 0), (136, .lcmp, 1, 0, 0), (137, .ifCond .ne 32, 3, 0, 0), (140, .aload_n 1, 1, 0, 0), (141, .lload 5, 2, 0, 0), (143, .putfield 47, 3, 1, 7)],
  [(146, .aload_n 1, 1, 0, 0), (147, .dup, 1, 0, 0), (148, .getfield 53, 3, 1, 5), (151, .lconst 1, 1, 0, 0), (152, .ladd, 1, 0, 0), (153, .putfield 53, 3, 1, 5), (156, .aload_n 0, 1, 0, 0), (157, .aload_n 0, 1, 0, 0), (158, .getfield 9, 3, 5, 0)],
  [(161, .iload_n 2, 1, 0, 0), (162, .invokevirtual 56, 3, 95, 0), (165, .iconst 0, 1, 0, 0), (166, .invokevirtual 62, 3, 66, 0), (169, .return_, 1, 0, 0)]]
def rX5_runOnce : xM := (⟨"PulledSignals$Puller", "runOnce", "(LPulledSignals$Cell;II)V"⟩, prog_7_method_12_code, tX5_runOnce, 5, 7, none, 3, 0, 640, 639, 100026, 4)
theorem ok_rX5_runOnce : xMok rX5_runOnce = true := by decide +kernel
def tX5_outcomeRead : List (List xEnt) := [[(0, .aload_n 0, 1, 0, 0), (1, .getfield 9, 3, 5, 0), (4, .iload_n 3, 1, 0, 0), (5, .invokevirtual 43, 3, 87, 0), (8, .astore 5, 2, 0, 0), (10, .aload_n 1, 1, 0, 0), (11, .getfield 65, 3, 1, 8), (14, .astore 6, 2, 0, 0)],
  [(16, .aload 5, 2, 0, 0), (18, .ifnull 16, 3, 0, 0), (21, .aload 6, 2, 0, 0), (23, .ifnull 11, 3, 0, 0), (26, .aload 5, 2, 0, 0), (28, .invokevirtual 143, 3, 9, 0), (31, .ifCond .ne 7, 3, 0, 0)],
  [(34, .ldc2_w 146, 3, 3, 0), (37, .lreturn, 1, 0, 0), (38, .aload 6, 2, 0, 0), (40, .invokevirtual 148, 3, 13, 0), (43, .ifCond .eq 17, 3, 0, 0), (46, .iload_n 3, 1, 0, 0), (47, .iload_n 2, 1, 0, 0)],
  [(48, .if_icmp .eq 12, 3, 0, 0), (51, .aload_n 0, 1, 0, 0), (52, .getfield 9, 3, 5, 0), (55, .iload_n 2, 1, 0, 0), (56, .iload_n 3, 1, 0, 0), (57, .invokevirtual 151, 3, 93, 0), (60, .aload 5, 2, 0, 0), (62, .getfield 99, 3, 1, 3)],
  [(65, .ifCond .eq 7, 3, 0, 0), (68, .ldc2_w 154, 3, 4, 0), (71, .lreturn, 1, 0, 0), (72, .aload 5, 2, 0, 0), (74, .getfield 96, 3, 1, 0), (77, .iconst 3, 1, 0, 0), (78, .if_icmp .ne 12, 3, 0, 0)],
  [(81, .aload_n 0, 1, 0, 0), (82, .iload_n 3, 1, 0, 0), (83, .iload 4, 2, 0, 0), (85, .iconst 1, 1, 0, 0), (86, .iadd, 1, 0, 0), (87, .invokevirtual 15, 3, 67, 0), (90, .aload 5, 2, 0, 0), (92, .getfield 47, 3, 1, 7), (95, .lreturn, 1, 0, 0)]]
def rX5_outcomeRead : xM := (⟨"PulledSignals$Puller", "outcomeRead", "(LPulledSignals$Cell;III)J"⟩, prog_7_method_13_code, tX5_outcomeRead, 5, 7, (some Jvm.ClassFile.FieldType.long), 4, 0, 707, 706, 100032, 4)
theorem ok_rX5_outcomeRead : xMok rX5_outcomeRead = true := by decide +kernel
def tX6_init : List (List xEnt) := [[(0, .aload_n 0, 1, 0, 0), (1, .invokespecial 3, 3, 0, 9), (4, .aload_n 0, 1, 0, 0), (5, .bipush 40, 2, 0, 0), (7, .newarray .long, 2, 1, 0), (9, .putfield 9, 3, 6, 0), (12, .aload_n 0, 1, 0, 0), (13, .iconst (-1), 1, 0, 0), (14, .putfield 15, 3, 6, 2)],
  [(17, .return_, 1, 0, 0)]]
def rX6_init : xM := (⟨"PulledSignals$Shelf", "<init>", "()V"⟩, prog_8_method_1_code, tX6_init, 6, 1, none, 0, 2, 174, 173, 200000, 7)
theorem ok_rX6_init : xMok rX6_init = true := by decide +kernel
def tX6_holding : List (List xEnt) := [[(0, .aload_n 0, 1, 0, 0), (1, .getfield 15, 3, 6, 2), (4, .ireturn, 1, 0, 0)]]
def rX6_holding : xM := (⟨"PulledSignals$Shelf", "holding", "()I"⟩, prog_8_method_2_code, tX6_holding, 6, 1, (some Jvm.ClassFile.FieldType.int), 0, 0, 264, 262, 263, 7)
theorem ok_rX6_holding : xMok rX6_holding = true := by decide +kernel
def tX6_holdsRow : List (List xEnt) := [[(0, .aload_n 0, 1, 0, 0), (1, .getfield 15, 3, 6, 2), (4, .ifCond .lt 15, 3, 0, 0), (7, .aload_n 0, 1, 0, 0), (8, .getfield 15, 3, 6, 2), (11, .iconst 4, 1, 0, 0), (12, .if_icmp .gt 7, 3, 0, 0), (15, .iconst 1, 1, 0, 0)],
  [(16, .goto 4, 3, 0, 0), (19, .iconst 0, 1, 0, 0), (20, .ireturn, 1, 0, 0)]]
def rX6_holdsRow : xM := (⟨"PulledSignals$Shelf", "holdsRow", "()Z"⟩, prog_8_method_3_code, tX6_holdsRow, 6, 1, (some Jvm.ClassFile.FieldType.boolean), 0, 0, 244, 242, 243, 7)
theorem ok_rX6_holdsRow : xMok rX6_holdsRow = true := by decide +kernel
def tX6_holdsCell : List (List xEnt) := [[(0, .aload_n 0, 1, 0, 0), (1, .getfield 15, 3, 6, 2), (4, .bipush 10, 2, 0, 0), (6, .if_icmp .lt 7, 3, 0, 0), (9, .iconst 1, 1, 0, 0), (10, .goto 4, 3, 0, 0), (13, .iconst 0, 1, 0, 0), (14, .ireturn, 1, 0, 0)]]
def rX6_holdsCell : xM := (⟨"PulledSignals$Shelf", "holdsCell", "()Z"⟩, prog_8_method_4_code, tX6_holdsCell, 6, 1, (some Jvm.ClassFile.FieldType.boolean), 0, 0, 240, 238, 239, 7)
theorem ok_rX6_holdsCell : xMok rX6_holdsCell = true := by decide +kernel
def tX6_cellHeld : List (List xEnt) := [[(0, .aload_n 0, 1, 0, 0), (1, .getfield 15, 3, 6, 2), (4, .bipush 10, 2, 0, 0), (6, .isub, 1, 0, 0), (7, .ireturn, 1, 0, 0)]]
def rX6_cellHeld : xM := (⟨"PulledSignals$Shelf", "cellHeld", "()I"⟩, prog_8_method_5_code, tX6_cellHeld, 6, 1, (some Jvm.ClassFile.FieldType.int), 0, 0, 306, 304, 305, 7)
theorem ok_rX6_cellHeld : xMok rX6_cellHeld = true := by decide +kernel
def tX6_holdNothing : List (List xEnt) := [[(0, .aload_n 0, 1, 0, 0), (1, .iconst (-1), 1, 0, 0), (2, .putfield 15, 3, 6, 2), (5, .aload_n 0, 1, 0, 0), (6, .iconst 0, 1, 0, 0), (7, .putfield 19, 3, 6, 1), (10, .return_, 1, 0, 0)]]
def rX6_holdNothing : xM := (⟨"PulledSignals$Shelf", "holdNothing", "()V"⟩, prog_8_method_6_code, tX6_holdNothing, 6, 1, none, 0, 0, 294, 292, 293, 7)
theorem ok_rX6_holdNothing : xMok rX6_holdNothing = true := by decide +kernel
def tX6_holdCell : List (List xEnt) := [[(0, .aload_n 0, 1, 0, 0), (1, .bipush 10, 2, 0, 0), (3, .iload_n 1, 1, 0, 0), (4, .iadd, 1, 0, 0), (5, .putfield 15, 3, 6, 2), (8, .aload_n 0, 1, 0, 0), (9, .iconst 0, 1, 0, 0), (10, .putfield 19, 3, 6, 1), (13, .return_, 1, 0, 0)]]
def rX6_holdCell : xM := (⟨"PulledSignals$Shelf", "holdCell", "(I)V"⟩, prog_8_method_7_code, tX6_holdCell, 6, 2, none, 1, 0, 298, 296, 297, 7)
theorem ok_rX6_holdCell : xMok rX6_holdCell = true := by decide +kernel
def tX6_holdRow : List (List xEnt) := [[(0, .aload_n 0, 1, 0, 0), (1, .iload_n 1, 1, 0, 0), (2, .putfield 15, 3, 6, 2), (5, .aload_n 0, 1, 0, 0), (6, .iload_n 2, 1, 0, 0), (7, .putfield 19, 3, 6, 1), (10, .iconst 0, 1, 0, 0), (11, .istore_n 3, 1, 0, 0), (12, .iload_n 3, 1, 0, 0), (13, .aload_n 0, 1, 0, 0), (14, .getfield 9, 3, 6, 0)],
  [(17, .arraylength, 1, 0, 0), (18, .if_icmp .ge 16, 3, 0, 0), (21, .aload_n 0, 1, 0, 0), (22, .getfield 9, 3, 6, 0), (25, .iload_n 3, 1, 0, 0), (26, .lconst 0, 1, 0, 0), (27, .lastore, 1, 0, 0), (28, .iinc 3 1, 3, 0, 0), (31, .goto (-19), 3, 0, 0)],
  [(34, .return_, 1, 0, 0)]]
def rX6_holdRow : xM := (⟨"PulledSignals$Shelf", "holdRow", "(II)V"⟩, prog_8_method_8_code, tX6_holdRow, 6, 4, none, 2, 0, 229, 227, 228, 7)
theorem ok_rX6_holdRow : xMok rX6_holdRow = true := by decide +kernel
def tX6_hasPlaces : List (List xEnt) := [[(0, .iload_n 1, 1, 0, 0), (1, .ifCond .lt 29, 3, 0, 0), (4, .iload_n 2, 1, 0, 0), (5, .ifCond .lt 25, 3, 0, 0), (8, .iload_n 1, 1, 0, 0), (9, .aload_n 0, 1, 0, 0), (10, .getfield 19, 3, 6, 1), (13, .if_icmp .gt 17, 3, 0, 0)],
  [(16, .iload_n 2, 1, 0, 0), (17, .aload_n 0, 1, 0, 0), (18, .getfield 19, 3, 6, 1), (21, .iload_n 1, 1, 0, 0), (22, .isub, 1, 0, 0), (23, .if_icmp .gt 7, 3, 0, 0), (26, .iconst 1, 1, 0, 0), (27, .goto 4, 3, 0, 0), (30, .iconst 0, 1, 0, 0), (31, .ireturn, 1, 0, 0)]]
def rX6_hasPlaces : xM := (⟨"PulledSignals$Shelf", "hasPlaces", "(II)Z"⟩, prog_8_method_9_code, tX6_hasPlaces, 6, 3, (some Jvm.ClassFile.FieldType.boolean), 2, 0, 248, 246, 247, 7)
theorem ok_rX6_hasPlaces : xMok rX6_hasPlaces = true := by decide +kernel
def tX6_elementAt : List (List xEnt) := [[(0, .iload_n 1, 1, 0, 0), (1, .ifCond .lt 29, 3, 0, 0), (4, .iload_n 1, 1, 0, 0), (5, .aload_n 0, 1, 0, 0), (6, .getfield 19, 3, 6, 1), (9, .if_icmp .ge 21, 3, 0, 0), (12, .iload_n 1, 1, 0, 0), (13, .aload_n 0, 1, 0, 0), (14, .getfield 9, 3, 6, 0)],
  [(17, .arraylength, 1, 0, 0), (18, .if_icmp .ge 12, 3, 0, 0), (21, .aload_n 0, 1, 0, 0), (22, .getfield 9, 3, 6, 0), (25, .iload_n 1, 1, 0, 0), (26, .laload, 1, 0, 0), (27, .goto 4, 3, 0, 0), (30, .lconst 0, 1, 0, 0), (31, .lreturn, 1, 0, 0)]]
def rX6_elementAt : xM := (⟨"PulledSignals$Shelf", "elementAt", "(I)J"⟩, prog_8_method_10_code, tX6_elementAt, 6, 2, (some Jvm.ClassFile.FieldType.long), 1, 0, 272, 270, 271, 7)
theorem ok_rX6_elementAt : xMok rX6_elementAt = true := by decide +kernel
def tX6_putElement : List (List xEnt) := [[(0, .iload_n 1, 1, 0, 0), (1, .ifCond .lt 31, 3, 0, 0), (4, .iload_n 1, 1, 0, 0), (5, .aload_n 0, 1, 0, 0), (6, .getfield 19, 3, 6, 1), (9, .if_icmp .ge 23, 3, 0, 0), (12, .iload_n 1, 1, 0, 0), (13, .aload_n 0, 1, 0, 0), (14, .getfield 9, 3, 6, 0)],
  [(17, .arraylength, 1, 0, 0), (18, .if_icmp .ge 14, 3, 0, 0), (21, .aload_n 0, 1, 0, 0), (22, .getfield 9, 3, 6, 0), (25, .iload_n 1, 1, 0, 0), (26, .aload_n 0, 1, 0, 0), (27, .lload_n 2, 1, 0, 0), (28, .invokevirtual 22, 3, 82, 0), (31, .lastore, 1, 0, 0)],
  [(32, .return_, 1, 0, 0)]]
def rX6_putElement : xM := (⟨"PulledSignals$Shelf", "putElement", "(IJ)V"⟩, prog_8_method_11_code, tX6_putElement, 6, 4, none, 2, 0, 252, 250, 251, 7)
theorem ok_rX6_putElement : xMok rX6_putElement = true := by decide +kernel
def tX6_lowestBits : List (List xEnt) := [[(0, .aload_n 0, 1, 0, 0), (1, .getfield 15, 3, 6, 2), (4, .tableswitch 62 0 4 #[36, 41, 46, 62, 50], 36, 0, 0)],
  [],
  [(40, .lload_n 1, 1, 0, 0), (41, .l2i, 1, 0, 0), (42, .i2b, 1, 0, 0), (43, .i2l, 1, 0, 0), (44, .lreturn, 1, 0, 0), (45, .lload_n 1, 1, 0, 0), (46, .l2i, 1, 0, 0), (47, .i2s, 1, 0, 0)],
  [(48, .i2l, 1, 0, 0), (49, .lreturn, 1, 0, 0), (50, .lload_n 1, 1, 0, 0), (51, .l2i, 1, 0, 0), (52, .i2l, 1, 0, 0), (53, .lreturn, 1, 0, 0), (54, .lload_n 1, 1, 0, 0), (55, .lconst 0, 1, 0, 0), (56, .lcmp, 1, 0, 0), (57, .ifCond .eq 7, 3, 0, 0), (60, .lconst 1, 1, 0, 0), (61, .goto 4, 3, 0, 0)],
  [(64, .lconst 0, 1, 0, 0), (65, .lreturn, 1, 0, 0), (66, .lload_n 1, 1, 0, 0), (67, .lreturn, 1, 0, 0)]]
def rX6_lowestBits : xM := (⟨"PulledSignals$Shelf", "lowestBits", "(J)J"⟩, prog_8_method_12_code, tX6_lowestBits, 6, 3, (some Jvm.ClassFile.FieldType.long), 1, 0, 256, 255, 100002, 7)
theorem ok_rX6_lowestBits : xMok rX6_lowestBits = true := by decide +kernel
def tX6_takeElements : List (List xEnt) := [[(0, .iload_n 1, 1, 0, 0), (1, .iload_n 3, 1, 0, 0), (2, .if_icmp .gt 38, 3, 0, 0), (5, .iconst 0, 1, 0, 0), (6, .istore 5, 2, 0, 0), (8, .iload 5, 2, 0, 0), (10, .iload 4, 2, 0, 0), (12, .if_icmp .ge 25, 3, 0, 0), (15, .aload_n 0, 1, 0, 0)],
  [(16, .iload_n 1, 1, 0, 0), (17, .iload 5, 2, 0, 0), (19, .iadd, 1, 0, 0), (20, .aload_n 2, 1, 0, 0), (21, .iload_n 3, 1, 0, 0), (22, .iload 5, 2, 0, 0), (24, .iadd, 1, 0, 0), (25, .invokevirtual 26, 3, 80, 0), (28, .invokevirtual 30, 3, 81, 0), (31, .iinc 5 1, 3, 0, 0)],
  [(34, .goto (-26), 3, 0, 0), (37, .goto 36, 3, 0, 0), (40, .iload 4, 2, 0, 0), (42, .iconst 1, 1, 0, 0), (43, .isub, 1, 0, 0), (44, .istore 5, 2, 0, 0), (46, .iload 5, 2, 0, 0)],
  [(48, .ifCond .lt 25, 3, 0, 0), (51, .aload_n 0, 1, 0, 0), (52, .iload_n 1, 1, 0, 0), (53, .iload 5, 2, 0, 0), (55, .iadd, 1, 0, 0), (56, .aload_n 2, 1, 0, 0), (57, .iload_n 3, 1, 0, 0), (58, .iload 5, 2, 0, 0), (60, .iadd, 1, 0, 0), (61, .invokevirtual 26, 3, 80, 0)],
  [(64, .invokevirtual 30, 3, 81, 0), (67, .iinc 5 (-1), 3, 0, 0), (70, .goto (-24), 3, 0, 0), (73, .return_, 1, 0, 0)]]
def rX6_takeElements : xM := (⟨"PulledSignals$Shelf", "takeElements", "(ILPulledSignals$Shelf;II)V"⟩, prog_8_method_13_code, tX6_takeElements, 6, 6, none, 4, 0, 268, 266, 267, 7)
theorem ok_rX6_takeElements : xMok rX6_takeElements = true := by decide +kernel
def tX7_init : List (List xEnt) := [[(0, .aload_n 0, 1, 0, 0), (1, .invokespecial 3, 3, 0, 9), (4, .aload_n 0, 1, 0, 0), (5, .bipush 24, 2, 0, 0), (7, .anewarray 9, 3, 3, 0), (10, .putfield 11, 3, 7, 0), (13, .aload_n 0, 1, 0, 0), (14, .bipush 24, 2, 0, 0)],
  [(16, .newarray .int, 2, 0, 0), (18, .putfield 17, 3, 7, 1), (21, .aload_n 0, 1, 0, 0), (22, .new 21, 3, 4, 0), (25, .dup, 1, 0, 0), (26, .bipush 24, 2, 0, 0), (28, .invokespecial 23, 3, 43, 4), (31, .putfield 26, 3, 7, 3)],
  [(34, .aload_n 0, 1, 0, 0), (35, .new 21, 3, 4, 0), (38, .dup, 1, 0, 0), (39, .bipush 60, 2, 0, 0), (41, .invokespecial 23, 3, 43, 4), (44, .putfield 30, 3, 7, 4), (47, .aload_n 0, 1, 0, 0)],
  [(48, .bipush 60, 2, 0, 0), (50, .newarray .long, 2, 1, 0), (52, .putfield 33, 3, 7, 5), (55, .aload_n 0, 1, 0, 0), (56, .new 21, 3, 4, 0), (59, .dup, 1, 0, 0), (60, .bipush 60, 2, 0, 0), (62, .invokespecial 23, 3, 43, 4)],
  [(65, .putfield 37, 3, 7, 6), (68, .aload_n 0, 1, 0, 0), (69, .iconst 1, 1, 0, 0), (70, .putfield 40, 3, 7, 8), (73, .return_, 1, 0, 0)]]
def rX7_init : xM := (⟨"PulledSignals$Web", "<init>", "()V"⟩, prog_9_method_1_code, tX7_init, 7, 1, none, 0, 2, 29, 28, 200000, 2)
theorem ok_rX7_init : xMok rX7_init = true := by decide +kernel
def tX7_count : List (List xEnt) := [[(0, .aload_n 0, 1, 0, 0), (1, .getfield 44, 3, 7, 2), (4, .ireturn, 1, 0, 0)]]
def rX7_count : xM := (⟨"PulledSignals$Web", "count", "()I"⟩, prog_9_method_2_code, tX7_count, 7, 1, (some Jvm.ClassFile.FieldType.int), 0, 0, 455, 453, 454, 2)
theorem ok_rX7_count : xMok rX7_count = true := by decide +kernel
def tX7_isFull : List (List xEnt) := [[(0, .aload_n 0, 1, 0, 0), (1, .getfield 44, 3, 7, 2), (4, .aload_n 0, 1, 0, 0), (5, .getfield 11, 3, 7, 0), (8, .arraylength, 1, 0, 0), (9, .if_icmp .lt 7, 3, 0, 0), (12, .iconst 1, 1, 0, 0), (13, .goto 4, 3, 0, 0)],
  [(16, .iconst 0, 1, 0, 0), (17, .ireturn, 1, 0, 0)]]
def rX7_isFull : xM := (⟨"PulledSignals$Web", "isFull", "()Z"⟩, prog_9_method_3_code, tX7_isFull, 7, 1, (some Jvm.ClassFile.FieldType.boolean), 0, 0, 361, 359, 360, 2)
theorem ok_rX7_isFull : xMok rX7_isFull = true := by decide +kernel
def tX7_cell : List (List xEnt) := [[(0, .iload_n 1, 1, 0, 0), (1, .ifCond .lt 29, 3, 0, 0), (4, .iload_n 1, 1, 0, 0), (5, .aload_n 0, 1, 0, 0), (6, .getfield 44, 3, 7, 2), (9, .if_icmp .ge 21, 3, 0, 0), (12, .iload_n 1, 1, 0, 0), (13, .aload_n 0, 1, 0, 0), (14, .getfield 11, 3, 7, 0)],
  [(17, .arraylength, 1, 0, 0), (18, .if_icmp .ge 12, 3, 0, 0), (21, .aload_n 0, 1, 0, 0), (22, .getfield 11, 3, 7, 0), (25, .iload_n 1, 1, 0, 0), (26, .aaload, 1, 0, 0), (27, .goto 4, 3, 0, 0), (30, .aconst_null, 1, 0, 0), (31, .areturn, 1, 0, 0)]]
def rX7_cell : xM := (⟨"PulledSignals$Web", "cell", "(I)LPulledSignals$Cell;"⟩, prog_9_method_4_code, tX7_cell, 7, 2, (some (Jvm.ClassFile.FieldType.object "PulledSignals$Cell")), 1, 0, 290, 288, 289, 2)
theorem ok_rX7_cell : xMok rX7_cell = true := by decide +kernel
def tX7_mayOwn : List (List xEnt) := [[(0, .aload_n 0, 1, 0, 0), (1, .iload_n 1, 1, 0, 0), (2, .invokevirtual 47, 3, 87, 0), (5, .astore_n 2, 1, 0, 0), (6, .iload_n 1, 1, 0, 0), (7, .iconst (-1), 1, 0, 0), (8, .if_icmp .eq 30, 3, 0, 0), (11, .aload_n 2, 1, 0, 0), (12, .ifnull 30, 3, 0, 0), (15, .aload_n 2, 1, 0, 0)],
  [(16, .getfield 51, 3, 1, 2), (19, .ifCond .ne 23, 3, 0, 0), (22, .aload_n 2, 1, 0, 0), (23, .getfield 55, 3, 1, 0), (26, .iconst 5, 1, 0, 0), (27, .if_icmp .eq 11, 3, 0, 0), (30, .aload_n 2, 1, 0, 0), (31, .getfield 55, 3, 1, 0)],
  [(34, .iconst 4, 1, 0, 0), (35, .if_icmp .ne 7, 3, 0, 0), (38, .iconst 1, 1, 0, 0), (39, .goto 4, 3, 0, 0), (42, .iconst 0, 1, 0, 0), (43, .ireturn, 1, 0, 0)]]
def rX7_mayOwn : xM := (⟨"PulledSignals$Web", "mayOwn", "(I)Z"⟩, prog_9_method_5_code, tX7_mayOwn, 7, 3, (some Jvm.ClassFile.FieldType.boolean), 1, 0, 356, 354, 355, 2)
theorem ok_rX7_mayOwn : xMok rX7_mayOwn = true := by decide +kernel
def tX7_addCell : List (List xEnt) := [[(0, .aload_n 0, 1, 0, 0), (1, .getfield 44, 3, 7, 2), (4, .ifCond .lt 15, 3, 0, 0), (7, .aload_n 0, 1, 0, 0), (8, .getfield 44, 3, 7, 2), (11, .aload_n 0, 1, 0, 0), (12, .getfield 11, 3, 7, 0), (15, .arraylength, 1, 0, 0)],
  [(16, .if_icmp .lt 5, 3, 0, 0), (19, .iconst (-1), 1, 0, 0), (20, .ireturn, 1, 0, 0), (21, .aload_n 0, 1, 0, 0), (22, .aload_n 0, 1, 0, 0), (23, .getfield 44, 3, 7, 2), (26, .invokevirtual 58, 3, 90, 0), (29, .astore 6, 2, 0, 0), (31, .aload 6, 2, 0, 0)],
  [(33, .ifnull 13, 3, 0, 0), (36, .aload 6, 2, 0, 0), (38, .iload_n 1, 1, 0, 0), (39, .iload_n 2, 1, 0, 0), (40, .lload_n 3, 1, 0, 0), (41, .aload 5, 2, 0, 0), (43, .invokevirtual 61, 3, 6, 0), (46, .aload_n 0, 1, 0, 0), (47, .dup, 1, 0, 0)],
  [(48, .getfield 44, 3, 7, 2), (51, .iconst 1, 1, 0, 0), (52, .iadd, 1, 0, 0), (53, .putfield 44, 3, 7, 2), (56, .aload_n 0, 1, 0, 0), (57, .getfield 44, 3, 7, 2), (60, .iconst 1, 1, 0, 0), (61, .isub, 1, 0, 0), (62, .ireturn, 1, 0, 0)]]
def rX7_addCell : xM := (⟨"PulledSignals$Web", "addCell", "(IIJLPulledSignals$Formula;)I"⟩, prog_9_method_6_code, tX7_addCell, 7, 7, (some Jvm.ClassFile.FieldType.int), 4, 0, 365, 363, 364, 2)
theorem ok_rX7_addCell : xMok rX7_addCell = true := by decide +kernel
def tX7_roomFor : List (List xEnt) := [[(0, .iload_n 1, 1, 0, 0), (1, .ifCond .lt 12, 3, 0, 0), (4, .iload_n 1, 1, 0, 0), (5, .aload_n 0, 1, 0, 0), (6, .getfield 11, 3, 7, 0), (9, .arraylength, 1, 0, 0), (10, .if_icmp .lt 5, 3, 0, 0), (13, .aconst_null, 1, 0, 0), (14, .areturn, 1, 0, 0), (15, .aload_n 0, 1, 0, 0)],
  [(16, .getfield 11, 3, 7, 0), (19, .iload_n 1, 1, 0, 0), (20, .aaload, 1, 0, 0), (21, .ifnonnull 16, 3, 0, 0), (24, .aload_n 0, 1, 0, 0), (25, .getfield 11, 3, 7, 0), (28, .iload_n 1, 1, 0, 0), (29, .new 9, 3, 1, 0)],
  [(32, .dup, 1, 0, 0), (33, .invokespecial 65, 3, 5, 5), (36, .aastore, 1, 0, 0), (37, .aload_n 0, 1, 0, 0), (38, .getfield 11, 3, 7, 0), (41, .iload_n 1, 1, 0, 0), (42, .aaload, 1, 0, 0), (43, .areturn, 1, 0, 0)]]
def rX7_roomFor : xM := (⟨"PulledSignals$Web", "roomFor", "(I)LPulledSignals$Cell;"⟩, prog_9_method_7_code, tX7_roomFor, 7, 2, (some (Jvm.ClassFile.FieldType.object "PulledSignals$Cell")), 1, 0, 369, 368, 100005, 2)
theorem ok_rX7_roomFor : xMok rX7_roomFor = true := by decide +kernel
def tX7_takeFrom : List (List xEnt) := [[(0, .iconst 0, 1, 0, 0), (1, .istore_n 2, 1, 0, 0), (2, .iload_n 2, 1, 0, 0), (3, .aload_n 1, 1, 0, 0), (4, .getfield 44, 3, 7, 2), (7, .if_icmp .ge 46, 3, 0, 0), (10, .iload_n 2, 1, 0, 0), (11, .aload_n 0, 1, 0, 0), (12, .getfield 11, 3, 7, 0), (15, .arraylength, 1, 0, 0)],
  [(16, .if_icmp .ge 37, 3, 0, 0), (19, .aload_n 0, 1, 0, 0), (20, .iload_n 2, 1, 0, 0), (21, .invokevirtual 58, 3, 90, 0), (24, .astore_n 3, 1, 0, 0), (25, .aload_n 1, 1, 0, 0), (26, .iload_n 2, 1, 0, 0), (27, .invokevirtual 47, 3, 87, 0), (30, .astore 4, 2, 0, 0)],
  [(32, .aload_n 3, 1, 0, 0), (33, .ifnull 14, 3, 0, 0), (36, .aload 4, 2, 0, 0), (38, .ifnull 9, 3, 0, 0), (41, .aload_n 3, 1, 0, 0), (42, .aload 4, 2, 0, 0), (44, .invokevirtual 66, 3, 7, 0), (47, .iinc 2 1, 3, 0, 0)],
  [(50, .goto (-48), 3, 0, 0), (53, .iconst 0, 1, 0, 0), (54, .istore_n 2, 1, 0, 0), (55, .iload_n 2, 1, 0, 0), (56, .aload_n 0, 1, 0, 0), (57, .getfield 17, 3, 7, 1), (60, .arraylength, 1, 0, 0), (61, .if_icmp .ge 30, 3, 0, 0)],
  [(64, .iload_n 2, 1, 0, 0), (65, .aload_n 1, 1, 0, 0), (66, .getfield 17, 3, 7, 1), (69, .arraylength, 1, 0, 0), (70, .if_icmp .ge 21, 3, 0, 0), (73, .aload_n 0, 1, 0, 0), (74, .getfield 17, 3, 7, 1), (77, .iload_n 2, 1, 0, 0), (78, .aload_n 1, 1, 0, 0), (79, .getfield 17, 3, 7, 1)],
  [(82, .iload_n 2, 1, 0, 0), (83, .iaload, 1, 0, 0), (84, .iastore, 1, 0, 0), (85, .iinc 2 1, 3, 0, 0), (88, .goto (-33), 3, 0, 0), (91, .aload_n 0, 1, 0, 0), (92, .aload_n 1, 1, 0, 0), (93, .getfield 44, 3, 7, 2)],
  [(96, .putfield 44, 3, 7, 2), (99, .aload_n 0, 1, 0, 0), (100, .getfield 26, 3, 7, 3), (103, .aload_n 1, 1, 0, 0), (104, .getfield 26, 3, 7, 3), (107, .invokevirtual 70, 3, 56, 0), (110, .aload_n 0, 1, 0, 0), (111, .getfield 30, 3, 7, 4)],
  [(114, .aload_n 1, 1, 0, 0), (115, .getfield 30, 3, 7, 4), (118, .invokevirtual 70, 3, 56, 0), (121, .iconst 0, 1, 0, 0), (122, .istore_n 2, 1, 0, 0), (123, .iload_n 2, 1, 0, 0), (124, .aload_n 0, 1, 0, 0), (125, .getfield 33, 3, 7, 5)],
  [(128, .arraylength, 1, 0, 0), (129, .if_icmp .ge 30, 3, 0, 0), (132, .iload_n 2, 1, 0, 0), (133, .aload_n 1, 1, 0, 0), (134, .getfield 33, 3, 7, 5), (137, .arraylength, 1, 0, 0), (138, .if_icmp .ge 21, 3, 0, 0), (141, .aload_n 0, 1, 0, 0), (142, .getfield 33, 3, 7, 5)],
  [(145, .iload_n 2, 1, 0, 0), (146, .aload_n 1, 1, 0, 0), (147, .getfield 33, 3, 7, 5), (150, .iload_n 2, 1, 0, 0), (151, .laload, 1, 0, 0), (152, .lastore, 1, 0, 0), (153, .iinc 2 1, 3, 0, 0), (156, .goto (-33), 3, 0, 0), (159, .aload_n 0, 1, 0, 0)],
  [(160, .getfield 37, 3, 7, 6), (163, .aload_n 1, 1, 0, 0), (164, .getfield 37, 3, 7, 6), (167, .invokevirtual 70, 3, 56, 0), (170, .aload_n 0, 1, 0, 0), (171, .aload_n 1, 1, 0, 0), (172, .getfield 73, 3, 7, 7), (175, .putfield 73, 3, 7, 7)],
  [(178, .aload_n 0, 1, 0, 0), (179, .aload_n 1, 1, 0, 0), (180, .getfield 40, 3, 7, 8), (183, .putfield 40, 3, 7, 8), (186, .return_, 1, 0, 0)]]
def rX7_takeFrom : xM := (⟨"PulledSignals$Web", "takeFrom", "(LPulledSignals$Web;)V"⟩, prog_9_method_8_code, tX7_takeFrom, 7, 5, none, 1, 0, 946, 944, 945, 2)
theorem ok_rX7_takeFrom : xMok rX7_takeFrom = true := by decide +kernel
def tX7_ownedBy : List (List xEnt) := [[(0, .iconst 0, 1, 0, 0), (1, .istore_n 2, 1, 0, 0), (2, .iconst 0, 1, 0, 0), (3, .istore_n 3, 1, 0, 0), (4, .iload_n 3, 1, 0, 0), (5, .aload_n 0, 1, 0, 0), (6, .getfield 44, 3, 7, 2), (9, .if_icmp .ge 54, 3, 0, 0), (12, .iload_n 3, 1, 0, 0), (13, .aload_n 0, 1, 0, 0), (14, .getfield 11, 3, 7, 0)],
  [(17, .arraylength, 1, 0, 0), (18, .if_icmp .ge 45, 3, 0, 0), (21, .aload_n 0, 1, 0, 0), (22, .getfield 11, 3, 7, 0), (25, .iload_n 3, 1, 0, 0), (26, .aaload, 1, 0, 0), (27, .astore 4, 2, 0, 0), (29, .aload 4, 2, 0, 0), (31, .ifnull 26, 3, 0, 0)],
  [(34, .aload 4, 2, 0, 0), (36, .getfield 51, 3, 1, 2), (39, .ifCond .ne 18, 3, 0, 0), (42, .aload 4, 2, 0, 0), (44, .getfield 76, 3, 1, 1), (47, .iload_n 1, 1, 0, 0)],
  [(48, .if_icmp .ne 9, 3, 0, 0), (51, .iload_n 2, 1, 0, 0), (52, .iconst 1, 1, 0, 0), (53, .iload_n 3, 1, 0, 0), (54, .ishl, 1, 0, 0), (55, .ior, 1, 0, 0), (56, .istore_n 2, 1, 0, 0), (57, .iinc 3 1, 3, 0, 0), (60, .goto (-56), 3, 0, 0), (63, .iload_n 2, 1, 0, 0)],
  [(64, .ireturn, 1, 0, 0)]]
def rX7_ownedBy : xM := (⟨"PulledSignals$Web", "ownedBy", "(I)I"⟩, prog_9_method_9_code, tX7_ownedBy, 7, 5, (some Jvm.ClassFile.FieldType.int), 1, 0, 322, 320, 321, 2)
theorem ok_rX7_ownedBy : xMok rX7_ownedBy = true := by decide +kernel
def tX7_addRead : List (List xEnt) := [[(0, .aload_n 0, 1, 0, 0), (1, .iload_n 1, 1, 0, 0), (2, .invokevirtual 47, 3, 87, 0), (5, .astore_n 3, 1, 0, 0), (6, .aload_n 3, 1, 0, 0), (7, .ifnull 29, 3, 0, 0), (10, .iload_n 2, 1, 0, 0), (11, .ifCond .lt 25, 3, 0, 0), (14, .iload_n 2, 1, 0, 0), (15, .aload_n 0, 1, 0, 0)],
  [(16, .getfield 17, 3, 7, 1), (19, .arraylength, 1, 0, 0), (20, .if_icmp .ge 16, 3, 0, 0), (23, .aload_n 0, 1, 0, 0), (24, .getfield 17, 3, 7, 1), (27, .iload_n 2, 1, 0, 0), (28, .iaload, 1, 0, 0), (29, .iload_n 1, 1, 0, 0), (30, .ishr, 1, 0, 0), (31, .iconst 1, 1, 0, 0)],
  [(32, .iand, 1, 0, 0), (33, .ifCond .eq 4, 3, 0, 0), (36, .return_, 1, 0, 0), (37, .aload_n 3, 1, 0, 0), (38, .getfield 79, 3, 1, 9), (41, .iload_n 2, 1, 0, 0), (42, .invokevirtual 82, 3, 50, 0), (45, .aload_n 0, 1, 0, 0), (46, .getfield 17, 3, 7, 1)],
  [(49, .iload_n 2, 1, 0, 0), (50, .dup2, 1, 0, 0), (51, .iaload, 1, 0, 0), (52, .iconst 1, 1, 0, 0), (53, .iload_n 1, 1, 0, 0), (54, .ishl, 1, 0, 0), (55, .ior, 1, 0, 0), (56, .iastore, 1, 0, 0), (57, .return_, 1, 0, 0)]]
def rX7_addRead : xM := (⟨"PulledSignals$Web", "addRead", "(II)V"⟩, prog_9_method_10_code, tX7_addRead, 7, 4, none, 2, 0, 720, 718, 719, 2)
theorem ok_rX7_addRead : xMok rX7_addRead = true := by decide +kernel
def tX7_clearReads : List (List xEnt) := [[(0, .aload_n 0, 1, 0, 0), (1, .iload_n 1, 1, 0, 0), (2, .invokevirtual 47, 3, 87, 0), (5, .astore_n 2, 1, 0, 0), (6, .aload_n 2, 1, 0, 0), (7, .ifnonnull 4, 3, 0, 0), (10, .return_, 1, 0, 0), (11, .iconst 0, 1, 0, 0), (12, .istore_n 3, 1, 0, 0), (13, .iload_n 3, 1, 0, 0), (14, .aload_n 2, 1, 0, 0), (15, .getfield 79, 3, 1, 9)],
  [(18, .invokevirtual 85, 3, 44, 0), (21, .if_icmp .ge 49, 3, 0, 0), (24, .aload_n 2, 1, 0, 0), (25, .getfield 79, 3, 1, 9), (28, .iload_n 3, 1, 0, 0), (29, .invokevirtual 89, 3, 46, 0)],
  [(32, .istore 4, 2, 0, 0), (34, .iload 4, 2, 0, 0), (36, .ifCond .lt 28, 3, 0, 0), (39, .iload 4, 2, 0, 0), (41, .aload_n 0, 1, 0, 0), (42, .getfield 17, 3, 7, 1), (45, .arraylength, 1, 0, 0), (46, .if_icmp .ge 18, 3, 0, 0)],
  [(49, .aload_n 0, 1, 0, 0), (50, .getfield 17, 3, 7, 1), (53, .iload 4, 2, 0, 0), (55, .dup2, 1, 0, 0), (56, .iaload, 1, 0, 0), (57, .iconst 1, 1, 0, 0), (58, .iload_n 1, 1, 0, 0), (59, .ishl, 1, 0, 0), (60, .iconst (-1), 1, 0, 0), (61, .ixor, 1, 0, 0), (62, .iand, 1, 0, 0), (63, .iastore, 1, 0, 0)],
  [(64, .iinc 3 1, 3, 0, 0), (67, .goto (-54), 3, 0, 0), (70, .aload_n 2, 1, 0, 0), (71, .getfield 79, 3, 1, 9), (74, .invokevirtual 93, 3, 55, 0), (77, .return_, 1, 0, 0)]]
def rX7_clearReads : xM := (⟨"PulledSignals$Web", "clearReads", "(I)V"⟩, prog_9_method_11_code, tX7_clearReads, 7, 5, none, 1, 0, 644, 642, 643, 2)
theorem ok_rX7_clearReads : xMok rX7_clearReads = true := by decide +kernel
def tX7_readersOf : List (List xEnt) := [[(0, .iload_n 1, 1, 0, 0), (1, .ifCond .lt 21, 3, 0, 0), (4, .iload_n 1, 1, 0, 0), (5, .aload_n 0, 1, 0, 0), (6, .getfield 17, 3, 7, 1), (9, .arraylength, 1, 0, 0), (10, .if_icmp .ge 12, 3, 0, 0), (13, .aload_n 0, 1, 0, 0), (14, .getfield 17, 3, 7, 1)],
  [(17, .iload_n 1, 1, 0, 0), (18, .iaload, 1, 0, 0), (19, .goto 4, 3, 0, 0), (22, .iconst 0, 1, 0, 0), (23, .ireturn, 1, 0, 0)]]
def rX7_readersOf : xM := (⟨"PulledSignals$Web", "readersOf", "(I)I"⟩, prog_9_method_12_code, tX7_readersOf, 7, 2, (some Jvm.ClassFile.FieldType.int), 1, 0, 661, 659, 660, 2)
theorem ok_rX7_readersOf : xMok rX7_readersOf = true := by decide +kernel
def tX7_furtherReadersOf : List (List xEnt) := [[(0, .iconst 0, 1, 0, 0), (1, .istore_n 2, 1, 0, 0), (2, .aload_n 0, 1, 0, 0), (3, .iload_n 1, 1, 0, 0), (4, .invokevirtual 96, 3, 95, 0), (7, .istore_n 3, 1, 0, 0), (8, .iconst 0, 1, 0, 0), (9, .istore 4, 2, 0, 0), (11, .iload 4, 2, 0, 0), (13, .bipush 24, 2, 0, 0), (15, .if_icmp .gt 68, 3, 0, 0)],
  [(18, .iload_n 3, 1, 0, 0), (19, .ifCond .eq 64, 3, 0, 0), (22, .iconst 0, 1, 0, 0), (23, .istore 5, 2, 0, 0), (25, .iconst 0, 1, 0, 0), (26, .istore 6, 2, 0, 0), (28, .iload 6, 2, 0, 0), (30, .aload_n 0, 1, 0, 0), (31, .getfield 17, 3, 7, 1)],
  [(34, .arraylength, 1, 0, 0), (35, .if_icmp .ge 30, 3, 0, 0), (38, .iload_n 3, 1, 0, 0), (39, .iload 6, 2, 0, 0), (41, .ishr, 1, 0, 0), (42, .iconst 1, 1, 0, 0), (43, .iand, 1, 0, 0), (44, .ifCond .eq 15, 3, 0, 0), (47, .iload 5, 2, 0, 0)],
  [(49, .aload_n 0, 1, 0, 0), (50, .getfield 17, 3, 7, 1), (53, .iload 6, 2, 0, 0), (55, .iaload, 1, 0, 0), (56, .ior, 1, 0, 0), (57, .istore 5, 2, 0, 0), (59, .iinc 6 1, 3, 0, 0), (62, .goto (-34), 3, 0, 0)],
  [(65, .iload 5, 2, 0, 0), (67, .iload_n 2, 1, 0, 0), (68, .iconst (-1), 1, 0, 0), (69, .ixor, 1, 0, 0), (70, .iand, 1, 0, 0), (71, .istore_n 3, 1, 0, 0), (72, .iload_n 2, 1, 0, 0), (73, .iload 5, 2, 0, 0), (75, .ior, 1, 0, 0), (76, .istore_n 2, 1, 0, 0), (77, .iinc 4 1, 3, 0, 0)],
  [(80, .goto (-69), 3, 0, 0), (83, .iload_n 2, 1, 0, 0), (84, .ireturn, 1, 0, 0)]]
def rX7_furtherReadersOf : xM := (⟨"PulledSignals$Web", "furtherReadersOf", "(I)I"⟩, prog_9_method_13_code, tX7_furtherReadersOf, 7, 7, (some Jvm.ClassFile.FieldType.int), 1, 0, 665, 663, 664, 2)
theorem ok_rX7_furtherReadersOf : xMok rX7_furtherReadersOf = true := by decide +kernel
def tX7_reachedFrom : List (List xEnt) := [[(0, .iconst 0, 1, 0, 0), (1, .istore_n 2, 1, 0, 0), (2, .iconst 1, 1, 0, 0), (3, .iload_n 1, 1, 0, 0), (4, .ishl, 1, 0, 0), (5, .istore_n 3, 1, 0, 0), (6, .iconst 0, 1, 0, 0), (7, .istore 4, 2, 0, 0), (9, .iload 4, 2, 0, 0), (11, .bipush 24, 2, 0, 0), (13, .if_icmp .gt 68, 3, 0, 0)],
  [(16, .iload_n 3, 1, 0, 0), (17, .ifCond .eq 64, 3, 0, 0), (20, .iconst 0, 1, 0, 0), (21, .istore 5, 2, 0, 0), (23, .iconst 0, 1, 0, 0), (24, .istore 6, 2, 0, 0), (26, .iload 6, 2, 0, 0), (28, .aload_n 0, 1, 0, 0), (29, .getfield 17, 3, 7, 1)],
  [(32, .arraylength, 1, 0, 0), (33, .if_icmp .ge 30, 3, 0, 0), (36, .aload_n 0, 1, 0, 0), (37, .getfield 17, 3, 7, 1), (40, .iload 6, 2, 0, 0), (42, .iaload, 1, 0, 0), (43, .iload_n 3, 1, 0, 0), (44, .iand, 1, 0, 0), (45, .ifCond .eq 12, 3, 0, 0)],
  [(48, .iload 5, 2, 0, 0), (50, .iconst 1, 1, 0, 0), (51, .iload 6, 2, 0, 0), (53, .ishl, 1, 0, 0), (54, .ior, 1, 0, 0), (55, .istore 5, 2, 0, 0), (57, .iinc 6 1, 3, 0, 0), (60, .goto (-34), 3, 0, 0), (63, .iload 5, 2, 0, 0)],
  [(65, .iload_n 2, 1, 0, 0), (66, .iconst (-1), 1, 0, 0), (67, .ixor, 1, 0, 0), (68, .iand, 1, 0, 0), (69, .istore_n 3, 1, 0, 0), (70, .iload_n 2, 1, 0, 0), (71, .iload 5, 2, 0, 0), (73, .ior, 1, 0, 0), (74, .istore_n 2, 1, 0, 0), (75, .iinc 4 1, 3, 0, 0), (78, .goto (-69), 3, 0, 0)],
  [(81, .iload_n 2, 1, 0, 0), (82, .ireturn, 1, 0, 0)]]
def rX7_reachedFrom : xM := (⟨"PulledSignals$Web", "reachedFrom", "(I)I"⟩, prog_9_method_14_code, tX7_reachedFrom, 7, 7, (some Jvm.ClassFile.FieldType.int), 1, 0, 809, 807, 808, 2)
theorem ok_rX7_reachedFrom : xMok rX7_reachedFrom = true := by decide +kernel
def tX7_goneCount : List (List xEnt) := [[(0, .iconst 0, 1, 0, 0), (1, .istore_n 1, 1, 0, 0), (2, .iconst 0, 1, 0, 0), (3, .istore_n 2, 1, 0, 0), (4, .iload_n 2, 1, 0, 0), (5, .aload_n 0, 1, 0, 0), (6, .getfield 44, 3, 7, 2), (9, .if_icmp .ge 39, 3, 0, 0), (12, .iload_n 2, 1, 0, 0), (13, .aload_n 0, 1, 0, 0), (14, .getfield 11, 3, 7, 0)],
  [(17, .arraylength, 1, 0, 0), (18, .if_icmp .ge 30, 3, 0, 0), (21, .aload_n 0, 1, 0, 0), (22, .getfield 11, 3, 7, 0), (25, .iload_n 2, 1, 0, 0), (26, .aaload, 1, 0, 0), (27, .astore_n 3, 1, 0, 0), (28, .aload_n 3, 1, 0, 0), (29, .ifnull 13, 3, 0, 0)],
  [(32, .aload_n 3, 1, 0, 0), (33, .getfield 51, 3, 1, 2), (36, .ifCond .eq 6, 3, 0, 0), (39, .iinc 1 1, 3, 0, 0), (42, .iinc 2 1, 3, 0, 0), (45, .goto (-41), 3, 0, 0)],
  [(48, .iload_n 1, 1, 0, 0), (49, .ireturn, 1, 0, 0)]]
def rX7_goneCount : xM := (⟨"PulledSignals$Web", "goneCount", "()I"⟩, prog_9_method_15_code, tX7_goneCount, 7, 4, (some Jvm.ClassFile.FieldType.int), 0, 0, 775, 773, 774, 2)
theorem ok_rX7_goneCount : xMok rX7_goneCount = true := by decide +kernel
def tX7_colouredCount : List (List xEnt) := [[(0, .iconst 0, 1, 0, 0), (1, .istore_n 2, 1, 0, 0), (2, .iconst 0, 1, 0, 0), (3, .istore_n 3, 1, 0, 0), (4, .iload_n 3, 1, 0, 0), (5, .aload_n 0, 1, 0, 0), (6, .getfield 44, 3, 7, 2), (9, .if_icmp .ge 51, 3, 0, 0), (12, .iload_n 3, 1, 0, 0), (13, .aload_n 0, 1, 0, 0), (14, .getfield 11, 3, 7, 0)],
  [(17, .arraylength, 1, 0, 0), (18, .if_icmp .ge 42, 3, 0, 0), (21, .aload_n 0, 1, 0, 0), (22, .getfield 11, 3, 7, 0), (25, .iload_n 3, 1, 0, 0), (26, .aaload, 1, 0, 0), (27, .astore 4, 2, 0, 0), (29, .aload 4, 2, 0, 0), (31, .ifnull 23, 3, 0, 0)],
  [(34, .aload 4, 2, 0, 0), (36, .getfield 51, 3, 1, 2), (39, .ifCond .ne 15, 3, 0, 0), (42, .aload 4, 2, 0, 0), (44, .getfield 99, 3, 1, 4), (47, .iload_n 1, 1, 0, 0)],
  [(48, .if_icmp .ne 6, 3, 0, 0), (51, .iinc 2 1, 3, 0, 0), (54, .iinc 3 1, 3, 0, 0), (57, .goto (-53), 3, 0, 0), (60, .iload_n 2, 1, 0, 0), (61, .ireturn, 1, 0, 0)]]
def rX7_colouredCount : xM := (⟨"PulledSignals$Web", "colouredCount", "(I)I"⟩, prog_9_method_16_code, tX7_colouredCount, 7, 5, (some Jvm.ClassFile.FieldType.int), 1, 0, 885, 883, 884, 2)
theorem ok_rX7_colouredCount : xMok rX7_colouredCount = true := by decide +kernel
def tX7_allRuns : List (List xEnt) := [[(0, .iconst 0, 1, 0, 0), (1, .istore_n 1, 1, 0, 0), (2, .iconst 0, 1, 0, 0), (3, .istore_n 2, 1, 0, 0), (4, .iload_n 2, 1, 0, 0), (5, .aload_n 0, 1, 0, 0), (6, .getfield 44, 3, 7, 2), (9, .if_icmp .ge 36, 3, 0, 0), (12, .iload_n 2, 1, 0, 0), (13, .aload_n 0, 1, 0, 0), (14, .getfield 11, 3, 7, 0)],
  [(17, .arraylength, 1, 0, 0), (18, .if_icmp .ge 27, 3, 0, 0), (21, .aload_n 0, 1, 0, 0), (22, .getfield 11, 3, 7, 0), (25, .iload_n 2, 1, 0, 0), (26, .aaload, 1, 0, 0), (27, .astore_n 3, 1, 0, 0), (28, .aload_n 3, 1, 0, 0), (29, .ifnull 10, 3, 0, 0)],
  [(32, .iload_n 1, 1, 0, 0), (33, .aload_n 3, 1, 0, 0), (34, .getfield 102, 3, 1, 6), (37, .iadd, 1, 0, 0), (38, .istore_n 1, 1, 0, 0), (39, .iinc 2 1, 3, 0, 0), (42, .goto (-38), 3, 0, 0), (45, .iload_n 1, 1, 0, 0), (46, .ireturn, 1, 0, 0)]]
def rX7_allRuns : xM := (⟨"PulledSignals$Web", "allRuns", "()I"⟩, prog_9_method_17_code, tX7_allRuns, 7, 4, (some Jvm.ClassFile.FieldType.int), 0, 0, 968, 966, 967, 2)
theorem ok_rX7_allRuns : xMok rX7_allRuns = true := by decide +kernel
def tX7_addToLog : List (List xEnt) := [[(0, .aload_n 0, 1, 0, 0), (1, .getfield 30, 3, 7, 4), (4, .invokevirtual 85, 3, 44, 0), (7, .istore 4, 2, 0, 0), (9, .iload 4, 2, 0, 0), (11, .ifCond .lt 21, 3, 0, 0), (14, .iload 4, 2, 0, 0)],
  [(16, .aload_n 0, 1, 0, 0), (17, .getfield 33, 3, 7, 5), (20, .arraylength, 1, 0, 0), (21, .if_icmp .ge 11, 3, 0, 0), (24, .aload_n 0, 1, 0, 0), (25, .getfield 33, 3, 7, 5), (28, .iload 4, 2, 0, 0), (30, .lload_n 2, 1, 0, 0), (31, .lastore, 1, 0, 0)],
  [(32, .aload_n 0, 1, 0, 0), (33, .getfield 30, 3, 7, 4), (36, .iload_n 1, 1, 0, 0), (37, .invokevirtual 82, 3, 50, 0), (40, .return_, 1, 0, 0)]]
def rX7_addToLog : xM := (⟨"PulledSignals$Web", "addToLog", "(IJ)V"⟩, prog_9_method_18_code, tX7_addToLog, 7, 5, none, 2, 0, 739, 737, 738, 2)
theorem ok_rX7_addToLog : xMok rX7_addToLog = true := by decide +kernel
def tX7_hasLogged : List (List xEnt) := [[(0, .iload_n 1, 1, 0, 0), (1, .ifCond .lt 18, 3, 0, 0), (4, .iload_n 1, 1, 0, 0), (5, .aload_n 0, 1, 0, 0), (6, .getfield 30, 3, 7, 4), (9, .invokevirtual 85, 3, 44, 0), (12, .if_icmp .ge 7, 3, 0, 0), (15, .iconst 1, 1, 0, 0)],
  [(16, .goto 4, 3, 0, 0), (19, .iconst 0, 1, 0, 0), (20, .ireturn, 1, 0, 0)]]
def rX7_hasLogged : xM := (⟨"PulledSignals$Web", "hasLogged", "(I)Z"⟩, prog_9_method_19_code, tX7_hasLogged, 7, 2, (some Jvm.ClassFile.FieldType.boolean), 1, 0, 898, 896, 897, 2)
theorem ok_rX7_hasLogged : xMok rX7_hasLogged = true := by decide +kernel
def tX7_outcomeLogged : List (List xEnt) := [[(0, .iload_n 1, 1, 0, 0), (1, .ifCond .lt 21, 3, 0, 0), (4, .iload_n 1, 1, 0, 0), (5, .aload_n 0, 1, 0, 0), (6, .getfield 33, 3, 7, 5), (9, .arraylength, 1, 0, 0), (10, .if_icmp .ge 12, 3, 0, 0), (13, .aload_n 0, 1, 0, 0), (14, .getfield 33, 3, 7, 5)],
  [(17, .iload_n 1, 1, 0, 0), (18, .laload, 1, 0, 0), (19, .goto 4, 3, 0, 0), (22, .lconst 0, 1, 0, 0), (23, .lreturn, 1, 0, 0)]]
def rX7_outcomeLogged : xM := (⟨"PulledSignals$Web", "outcomeLogged", "(I)J"⟩, prog_9_method_20_code, tX7_outcomeLogged, 7, 2, (some Jvm.ClassFile.FieldType.long), 1, 0, 906, 904, 905, 2)
theorem ok_rX7_outcomeLogged : xMok rX7_outcomeLogged = true := by decide +kernel
def tX7_logSays : List (List xEnt) := [[(0, .aload_n 0, 1, 0, 0), (1, .iload_n 1, 1, 0, 0), (2, .invokevirtual 105, 3, 102, 0), (5, .ifCond .eq 40, 3, 0, 0), (8, .aload_n 0, 1, 0, 0), (9, .getfield 30, 3, 7, 4), (12, .iload_n 1, 1, 0, 0), (13, .invokevirtual 89, 3, 46, 0)],
  [(16, .i2l, 1, 0, 0), (17, .lload_n 2, 1, 0, 0), (18, .lcmp, 1, 0, 0), (19, .ifCond .ne 26, 3, 0, 0), (22, .aload_n 0, 1, 0, 0), (23, .iload_n 1, 1, 0, 0), (24, .invokevirtual 109, 3, 103, 0), (27, .lload 4, 2, 0, 0), (29, .lcmp, 1, 0, 0), (30, .ifCond .ne 15, 3, 0, 0)],
  [(33, .lload 4, 2, 0, 0), (35, .invokestatic 113, 3, 160, 3), (38, .ifCond .ne 7, 3, 0, 0), (41, .iconst 1, 1, 0, 0), (42, .goto 4, 3, 0, 0), (45, .iconst 0, 1, 0, 0), (46, .ireturn, 1, 0, 0)]]
def rX7_logSays : xM := (⟨"PulledSignals$Web", "logSays", "(IJJ)Z"⟩, prog_9_method_21_code, tX7_logSays, 7, 6, (some Jvm.ClassFile.FieldType.boolean), 3, 0, 922, 920, 921, 2)
theorem ok_rX7_logSays : xMok rX7_logSays = true := by decide +kernel
def tX7_draw : List (List xEnt) := [[(0, .aload_n 0, 1, 0, 0), (1, .aload_n 0, 1, 0, 0), (2, .getfield 40, 3, 7, 8), (5, .ldc 117, 2, 0, 0), (7, .imul, 1, 0, 0), (8, .sipush 12345, 3, 0, 0), (11, .iadd, 1, 0, 0), (12, .putfield 40, 3, 7, 8), (15, .iload_n 1, 1, 0, 0)],
  [(16, .ifCond .gt 7, 3, 0, 0), (19, .iconst 0, 1, 0, 0), (20, .goto 12, 3, 0, 0), (23, .aload_n 0, 1, 0, 0), (24, .getfield 40, 3, 7, 8), (27, .bipush 16, 2, 0, 0), (29, .iushr, 1, 0, 0), (30, .iload_n 1, 1, 0, 0), (31, .irem, 1, 0, 0)],
  [(32, .ireturn, 1, 0, 0)]]
def rX7_draw : xM := (⟨"PulledSignals$Web", "draw", "(I)I"⟩, prog_9_method_22_code, tX7_draw, 7, 2, (some Jvm.ClassFile.FieldType.int), 1, 0, 933, 931, 932, 2)
theorem ok_rX7_draw : xMok rX7_draw = true := by decide +kernel
def tX8_init : List (List xEnt) := [[(0, .aload_n 0, 1, 0, 0), (1, .invokespecial 3, 3, 0, 9), (4, .aload_n 0, 1, 0, 0), (5, .new 9, 3, 7, 0), (8, .dup, 1, 0, 0), (9, .invokespecial 11, 3, 84, 5), (12, .putfield 12, 3, 8, 0), (15, .aload_n 0, 1, 0, 0)],
  [(16, .new 9, 3, 7, 0), (19, .dup, 1, 0, 0), (20, .invokespecial 11, 3, 84, 5), (23, .putfield 16, 3, 8, 1), (26, .aload_n 0, 1, 0, 0), (27, .new 19, 3, 5, 0), (30, .dup, 1, 0, 0), (31, .aload_n 0, 1, 0, 0)],
  [(32, .getfield 12, 3, 8, 0), (35, .invokespecial 21, 3, 58, 4), (38, .putfield 24, 3, 8, 3), (41, .aload_n 0, 1, 0, 0), (42, .new 28, 3, 0, 0), (45, .dup, 1, 0, 0), (46, .aload_n 0, 1, 0, 0), (47, .getfield 12, 3, 8, 0)],
  [(50, .invokespecial 30, 3, 0, 4), (53, .putfield 31, 3, 8, 4), (56, .aload_n 0, 1, 0, 0), (57, .new 35, 3, 3, 0), (60, .dup, 1, 0, 0), (61, .invokespecial 37, 3, 20, 5)],
  [(64, .putfield 38, 3, 8, 5), (67, .aload_n 0, 1, 0, 0), (68, .new 42, 3, 4, 0), (71, .dup, 1, 0, 0), (72, .sipush 250, 3, 0, 0), (75, .invokespecial 44, 3, 43, 4), (78, .putfield 47, 3, 8, 6)],
  [(81, .aload_n 0, 1, 0, 0), (82, .bipush 8, 2, 0, 0), (84, .anewarray 51, 3, 4, 0), (87, .putfield 53, 3, 8, 7), (90, .aload_n 0, 1, 0, 0), (91, .iconst 5, 1, 0, 0), (92, .newarray .int, 2, 0, 0), (94, .putfield 57, 3, 8, 8)],
  [(97, .iconst 0, 1, 0, 0), (98, .istore_n 1, 1, 0, 0), (99, .iload_n 1, 1, 0, 0), (100, .aload_n 0, 1, 0, 0), (101, .getfield 53, 3, 8, 7), (104, .arraylength, 1, 0, 0), (105, .if_icmp .ge 22, 3, 0, 0), (108, .aload_n 0, 1, 0, 0), (109, .getfield 53, 3, 8, 7)],
  [(112, .iload_n 1, 1, 0, 0), (113, .new 51, 3, 6, 0), (116, .dup, 1, 0, 0), (117, .invokespecial 61, 3, 71, 5), (120, .aastore, 1, 0, 0), (121, .iinc 1 1, 3, 0, 0), (124, .goto (-25), 3, 0, 0), (127, .return_, 1, 0, 0)]]
def rX8_init : xM := (⟨"PulledSignals", "<init>", "()V"⟩, prog_1_method_1_code, tX8_init, 8, 2, none, 0, 2, 21, 20, 200000, 1)
theorem ok_rX8_init : xMok rX8_init = true := by decide +kernel
def tX8_row : List (List xEnt) := [[(0, .aload_n 0, 1, 0, 0), (1, .iload_n 1, 1, 0, 0), (2, .invokevirtual 62, 3, 156, 0), (5, .astore 4, 2, 0, 0), (7, .aload 4, 2, 0, 0), (9, .ifnull 22, 3, 0, 0), (12, .iload_n 2, 1, 0, 0), (13, .ifCond .lt 18, 3, 0, 0)],
  [(16, .iload_n 2, 1, 0, 0), (17, .iconst 4, 1, 0, 0), (18, .if_icmp .gt 13, 3, 0, 0), (21, .iload_n 3, 1, 0, 0), (22, .ifCond .lt 9, 3, 0, 0), (25, .iload_n 3, 1, 0, 0), (26, .bipush 40, 2, 0, 0), (28, .if_icmp .le 10, 3, 0, 0), (31, .aload_n 0, 1, 0, 0)],
  [(32, .bipush (-2), 2, 0, 0), (34, .invokevirtual 66, 3, 153, 0), (37, .ireturn, 1, 0, 0), (38, .aload 4, 2, 0, 0), (40, .iload_n 2, 1, 0, 0), (41, .iload_n 3, 1, 0, 0), (42, .invokevirtual 70, 3, 78, 0), (45, .iconst 1, 1, 0, 0), (46, .ireturn, 1, 0, 0)]]
def rX8_row : xM := (⟨"PulledSignals", "row", "(III)I"⟩, prog_1_method_2_code, tX8_row, 8, 5, (some Jvm.ClassFile.FieldType.int), 3, 0, 217, 215, 216, 1)
theorem ok_rX8_row : xMok rX8_row = true := by decide +kernel
def tX8_set : List (List xEnt) := [[(0, .aload_n 0, 1, 0, 0), (1, .iload_n 1, 1, 0, 0), (2, .invokevirtual 62, 3, 156, 0), (5, .astore 5, 2, 0, 0), (7, .aload 5, 2, 0, 0), (9, .invokestatic 74, 3, 157, 2), (12, .istore 6, 2, 0, 0), (14, .aload 5, 2, 0, 0)],
  [(16, .ifnull 8, 3, 0, 0), (19, .iload 6, 2, 0, 0), (21, .ifCond .eq 10, 3, 0, 0), (24, .aload_n 0, 1, 0, 0), (25, .iload 6, 2, 0, 0), (27, .invokevirtual 66, 3, 153, 0), (30, .ireturn, 1, 0, 0), (31, .aload 5, 2, 0, 0)],
  [(33, .iload_n 2, 1, 0, 0), (34, .iconst 1, 1, 0, 0), (35, .invokevirtual 78, 3, 79, 0), (38, .ifCond .ne 10, 3, 0, 0), (41, .aload_n 0, 1, 0, 0), (42, .bipush (-2), 2, 0, 0), (44, .invokevirtual 66, 3, 153, 0), (47, .ireturn, 1, 0, 0)],
  [(48, .aload 5, 2, 0, 0), (50, .iload_n 2, 1, 0, 0), (51, .lload_n 3, 1, 0, 0), (52, .invokevirtual 82, 3, 81, 0), (55, .iconst 1, 1, 0, 0), (56, .ireturn, 1, 0, 0)]]
def rX8_set : xM := (⟨"PulledSignals", "set", "(IIJ)I"⟩, prog_1_method_3_code, tX8_set, 8, 7, (some Jvm.ClassFile.FieldType.int), 3, 0, 233, 231, 232, 1)
theorem ok_rX8_set : xMok rX8_set = true := by decide +kernel
def tX8_copy : List (List xEnt) := [[(0, .aload_n 0, 1, 0, 0), (1, .iload_n 1, 1, 0, 0), (2, .invokevirtual 62, 3, 156, 0), (5, .astore 6, 2, 0, 0), (7, .aload_n 0, 1, 0, 0), (8, .iload_n 2, 1, 0, 0), (9, .invokevirtual 62, 3, 156, 0), (12, .astore 7, 2, 0, 0), (14, .aload 6, 2, 0, 0)],
  [(16, .ifnull 8, 3, 0, 0), (19, .aload 7, 2, 0, 0), (21, .ifnonnull 10, 3, 0, 0), (24, .aload_n 0, 1, 0, 0), (25, .bipush (-2), 2, 0, 0), (27, .invokevirtual 66, 3, 153, 0), (30, .ireturn, 1, 0, 0), (31, .aload 6, 2, 0, 0)],
  [(33, .invokevirtual 86, 3, 73, 0), (36, .ifCond .eq 28, 3, 0, 0), (39, .aload 7, 2, 0, 0), (41, .invokevirtual 86, 3, 73, 0), (44, .ifCond .eq 20, 3, 0, 0), (47, .aload 6, 2, 0, 0)],
  [(49, .invokevirtual 90, 3, 72, 0), (52, .aload 7, 2, 0, 0), (54, .invokevirtual 90, 3, 72, 0), (57, .if_icmp .eq 7, 3, 0, 0), (60, .iconst 1, 1, 0, 0), (61, .goto 4, 3, 0, 0)],
  [(64, .iconst 0, 1, 0, 0), (65, .istore 8, 2, 0, 0), (67, .aload 6, 2, 0, 0), (69, .invokevirtual 94, 3, 74, 0), (72, .ifCond .ne 16, 3, 0, 0), (75, .aload 7, 2, 0, 0), (77, .invokevirtual 94, 3, 74, 0)],
  [(80, .ifCond .ne 8, 3, 0, 0), (83, .iload 8, 2, 0, 0), (85, .ifCond .eq 10, 3, 0, 0), (88, .aload_n 0, 1, 0, 0), (89, .bipush (-3), 2, 0, 0), (91, .invokevirtual 66, 3, 153, 0), (94, .ireturn, 1, 0, 0), (95, .aload 6, 2, 0, 0)],
  [(97, .invokevirtual 86, 3, 73, 0), (100, .ifCond .eq 11, 3, 0, 0), (103, .aload 7, 2, 0, 0), (105, .invokevirtual 86, 3, 73, 0), (108, .ifCond .ne 10, 3, 0, 0), (111, .aload_n 0, 1, 0, 0)],
  [(112, .bipush (-4), 2, 0, 0), (114, .invokevirtual 66, 3, 153, 0), (117, .ireturn, 1, 0, 0), (118, .aload 6, 2, 0, 0), (120, .iload_n 3, 1, 0, 0), (121, .iload 5, 2, 0, 0), (123, .invokevirtual 78, 3, 79, 0), (126, .ifCond .eq 15, 3, 0, 0)],
  [(129, .aload 7, 2, 0, 0), (131, .iload 4, 2, 0, 0), (133, .iload 5, 2, 0, 0), (135, .invokevirtual 78, 3, 79, 0), (138, .ifCond .ne 10, 3, 0, 0), (141, .aload_n 0, 1, 0, 0), (142, .bipush (-2), 2, 0, 0)],
  [(144, .invokevirtual 66, 3, 153, 0), (147, .ireturn, 1, 0, 0), (148, .aload 7, 2, 0, 0), (150, .iload 4, 2, 0, 0), (152, .aload 6, 2, 0, 0), (154, .iload_n 3, 1, 0, 0), (155, .iload 5, 2, 0, 0), (157, .invokevirtual 97, 3, 83, 0)],
  [(160, .iload 5, 2, 0, 0), (162, .ireturn, 1, 0, 0)]]
def rX8_copy : xM := (⟨"PulledSignals", "copy", "(IIIII)I"⟩, prog_1_method_4_code, tX8_copy, 8, 9, (some Jvm.ClassFile.FieldType.int), 5, 0, 260, 258, 259, 1)
theorem ok_rX8_copy : xMok rX8_copy = true := by decide +kernel
def tX8_element : List (List xEnt) := [[(0, .aload_n 0, 1, 0, 0), (1, .iload_n 1, 1, 0, 0), (2, .invokevirtual 62, 3, 156, 0), (5, .astore_n 3, 1, 0, 0), (6, .aload_n 3, 1, 0, 0), (7, .ifnonnull 7, 3, 0, 0), (10, .lconst 0, 1, 0, 0), (11, .goto 8, 3, 0, 0), (14, .aload_n 3, 1, 0, 0), (15, .iload_n 2, 1, 0, 0)],
  [(16, .invokevirtual 101, 3, 80, 0), (19, .lreturn, 1, 0, 0)]]
def rX8_element : xM := (⟨"PulledSignals", "element", "(II)J"⟩, prog_1_method_5_code, tX8_element, 8, 4, (some Jvm.ClassFile.FieldType.long), 2, 0, 277, 275, 276, 1)
theorem ok_rX8_element : xMok rX8_element = true := by decide +kernel
def tX8_holds : List (List xEnt) := [[(0, .aload_n 0, 1, 0, 0), (1, .iload_n 1, 1, 0, 0), (2, .invokevirtual 62, 3, 156, 0), (5, .astore_n 2, 1, 0, 0), (6, .aload_n 2, 1, 0, 0), (7, .ifnonnull 7, 3, 0, 0), (10, .iconst (-1), 1, 0, 0), (11, .goto 7, 3, 0, 0), (14, .aload_n 2, 1, 0, 0), (15, .invokevirtual 90, 3, 72, 0)],
  [(18, .ireturn, 1, 0, 0)]]
def rX8_holds : xM := (⟨"PulledSignals", "holds", "(I)I"⟩, prog_1_method_6_code, tX8_holds, 8, 3, (some Jvm.ClassFile.FieldType.int), 1, 0, 282, 280, 281, 1)
theorem ok_rX8_holds : xMok rX8_holds = true := by decide +kernel
def tX8_show : List (List xEnt) := [[(0, .aload_n 0, 1, 0, 0), (1, .iload_n 1, 1, 0, 0), (2, .invokevirtual 62, 3, 156, 0), (5, .astore_n 3, 1, 0, 0), (6, .aload_n 3, 1, 0, 0), (7, .ifnull 19, 3, 0, 0), (10, .iload_n 2, 1, 0, 0), (11, .iconst (-1), 1, 0, 0), (12, .if_icmp .eq 21, 3, 0, 0), (15, .aload_n 0, 1, 0, 0)],
  [(16, .getfield 12, 3, 8, 0), (19, .iload_n 2, 1, 0, 0), (20, .invokevirtual 105, 3, 87, 0), (23, .ifnonnull 10, 3, 0, 0), (26, .aload_n 0, 1, 0, 0), (27, .bipush (-2), 2, 0, 0), (29, .invokevirtual 66, 3, 153, 0)],
  [(32, .ireturn, 1, 0, 0), (33, .iload_n 2, 1, 0, 0), (34, .iconst (-1), 1, 0, 0), (35, .if_icmp .ne 10, 3, 0, 0), (38, .aload_n 3, 1, 0, 0), (39, .invokevirtual 109, 3, 76, 0), (42, .goto 8, 3, 0, 0), (45, .aload_n 3, 1, 0, 0), (46, .iload_n 2, 1, 0, 0), (47, .invokevirtual 112, 3, 77, 0)],
  [(50, .iconst 1, 1, 0, 0), (51, .ireturn, 1, 0, 0)]]
def rX8_show : xM := (⟨"PulledSignals", "show", "(II)I"⟩, prog_1_method_7_code, tX8_show, 8, 4, (some Jvm.ClassFile.FieldType.int), 2, 0, 286, 284, 285, 1)
theorem ok_rX8_show : xMok rX8_show = true := by decide +kernel
def tX8_says : List (List xEnt) := [[(0, .aload_n 0, 1, 0, 0), (1, .iload_n 1, 1, 0, 0), (2, .invokevirtual 62, 3, 156, 0), (5, .astore_n 3, 1, 0, 0), (6, .aload_n 3, 1, 0, 0), (7, .ifnull 12, 3, 0, 0), (10, .iload_n 2, 1, 0, 0), (11, .ifCond .lt 8, 3, 0, 0), (14, .iload_n 2, 1, 0, 0), (15, .iconst 5, 1, 0, 0)],
  [(16, .if_icmp .le 10, 3, 0, 0), (19, .aload_n 0, 1, 0, 0), (20, .bipush (-2), 2, 0, 0), (22, .invokevirtual 66, 3, 153, 0), (25, .ireturn, 1, 0, 0), (26, .aload_n 3, 1, 0, 0), (27, .invokevirtual 86, 3, 73, 0), (30, .ifCond .eq 10, 3, 0, 0)],
  [(33, .aload_n 0, 1, 0, 0), (34, .bipush (-3), 2, 0, 0), (36, .invokevirtual 66, 3, 153, 0), (39, .ireturn, 1, 0, 0), (40, .aload_n 3, 1, 0, 0), (41, .invokevirtual 94, 3, 74, 0), (44, .ifCond .ne 10, 3, 0, 0), (47, .aload_n 0, 1, 0, 0)],
  [(48, .bipush (-4), 2, 0, 0), (50, .invokevirtual 66, 3, 153, 0), (53, .ireturn, 1, 0, 0), (54, .aload_n 0, 1, 0, 0), (55, .getfield 12, 3, 8, 0), (58, .aload_n 3, 1, 0, 0), (59, .invokevirtual 115, 3, 75, 0), (62, .invokevirtual 105, 3, 87, 0)],
  [(65, .astore 4, 2, 0, 0), (67, .aload 4, 2, 0, 0), (69, .ifnull 12, 3, 0, 0), (72, .aload 4, 2, 0, 0), (74, .iload_n 2, 1, 0, 0), (75, .invokevirtual 118, 3, 8, 0), (78, .ifCond .ne 10, 3, 0, 0)],
  [(81, .aload_n 0, 1, 0, 0), (82, .bipush (-3), 2, 0, 0), (84, .invokevirtual 66, 3, 153, 0), (87, .ireturn, 1, 0, 0), (88, .aload_n 0, 1, 0, 0), (89, .aload 4, 2, 0, 0), (91, .aload_n 3, 1, 0, 0), (92, .invokevirtual 115, 3, 75, 0), (95, .iload_n 2, 1, 0, 0)],
  [(96, .invokevirtual 124, 3, 114, 0), (99, .ireturn, 1, 0, 0)]]
def rX8_says : xM := (⟨"PulledSignals", "says", "(II)I"⟩, prog_1_method_8_code, tX8_says, 8, 5, (some Jvm.ClassFile.FieldType.int), 2, 0, 302, 300, 301, 1)
theorem ok_rX8_says : xMok rX8_says = true := by decide +kernel
def tX8_saidBy : List (List xEnt) := [[(0, .iload_n 3, 1, 0, 0), (1, .tableswitch 66 1 5 #[35, 41, 35, 49, 54], 35, 0, 0)],
  [],
  [(36, .aload_n 1, 1, 0, 0), (37, .getfield 128, 3, 1, 5), (40, .l2i, 1, 0, 0), (41, .ireturn, 1, 0, 0), (42, .aload_n 1, 1, 0, 0), (43, .getfield 132, 3, 1, 9), (46, .invokevirtual 135, 3, 44, 0)],
  [(49, .ireturn, 1, 0, 0), (50, .aload_n 1, 1, 0, 0), (51, .getfield 138, 3, 1, 6), (54, .ireturn, 1, 0, 0), (55, .aload_n 0, 1, 0, 0), (56, .getfield 12, 3, 8, 0), (59, .iload_n 2, 1, 0, 0), (60, .invokevirtual 142, 3, 92, 0), (63, .invokestatic 145, 3, 272, 2)],
  [(66, .ireturn, 1, 0, 0), (67, .aload_n 1, 1, 0, 0), (68, .getfield 150, 3, 1, 1), (71, .ireturn, 1, 0, 0)]]
def rX8_saidBy : xM := (⟨"PulledSignals", "saidBy", "(LPulledSignals$Cell;II)I"⟩, prog_1_method_9_code, tX8_saidBy, 8, 4, (some Jvm.ClassFile.FieldType.int), 3, 0, 314, 313, 100003, 1)
theorem ok_rX8_saidBy : xMok rX8_saidBy = true := by decide +kernel
def tX8_feed : List (List xEnt) := [[(0, .iload_n 1, 1, 0, 0), (1, .ifCond .lt 10, 3, 0, 0), (4, .iload_n 1, 1, 0, 0), (5, .sipush 255, 3, 0, 0), (8, .if_icmp .le 10, 3, 0, 0), (11, .aload_n 0, 1, 0, 0), (12, .bipush (-2), 2, 0, 0), (14, .invokevirtual 66, 3, 153, 0)],
  [(17, .ireturn, 1, 0, 0), (18, .aload_n 0, 1, 0, 0), (19, .getfield 47, 3, 8, 6), (22, .invokevirtual 135, 3, 44, 0), (25, .sipush 250, 3, 0, 0), (28, .if_icmp .lt 10, 3, 0, 0), (31, .aload_n 0, 1, 0, 0)],
  [(32, .bipush (-6), 2, 0, 0), (34, .invokevirtual 66, 3, 153, 0), (37, .ireturn, 1, 0, 0), (38, .aload_n 0, 1, 0, 0), (39, .getfield 47, 3, 8, 6), (42, .iload_n 1, 1, 0, 0), (43, .invokevirtual 153, 3, 50, 0), (46, .aload_n 0, 1, 0, 0), (47, .getfield 47, 3, 8, 6)],
  [(50, .invokevirtual 135, 3, 44, 0), (53, .ireturn, 1, 0, 0)]]
def rX8_feed : xM := (⟨"PulledSignals", "feed", "(I)I"⟩, prog_1_method_10_code, tX8_feed, 8, 2, (some Jvm.ClassFile.FieldType.int), 1, 0, 332, 330, 331, 1)
theorem ok_rX8_feed : xMok rX8_feed = true := by decide +kernel
def tX8_wipe : List (List xEnt) := [[(0, .aload_n 0, 1, 0, 0), (1, .getfield 47, 3, 8, 6), (4, .invokevirtual 135, 3, 44, 0), (7, .istore_n 1, 1, 0, 0), (8, .aload_n 0, 1, 0, 0), (9, .getfield 47, 3, 8, 6), (12, .invokevirtual 156, 3, 55, 0), (15, .iload_n 1, 1, 0, 0)],
  [(16, .ireturn, 1, 0, 0)]]
def rX8_wipe : xM := (⟨"PulledSignals", "wipe", "()I"⟩, prog_1_method_11_code, tX8_wipe, 8, 2, (some Jvm.ClassFile.FieldType.int), 0, 0, 340, 338, 339, 1)
theorem ok_rX8_wipe : xMok rX8_wipe = true := by decide +kernel
def tX8_source : List (List xEnt) := [[(0, .aload_n 0, 1, 0, 0), (1, .iconst 1, 1, 0, 0), (2, .iload_n 2, 1, 0, 0), (3, .iload_n 1, 1, 0, 0), (4, .invokevirtual 159, 3, 119, 0), (7, .ireturn, 1, 0, 0)]]
def rX8_source : xM := (⟨"PulledSignals", "source", "(II)I"⟩, prog_1_method_12_code, tX8_source, 8, 3, (some Jvm.ClassFile.FieldType.int), 2, 0, 348, 346, 347, 1)
theorem ok_rX8_source : xMok rX8_source = true := by decide +kernel
def tX8_scope : List (List xEnt) := [[(0, .aload_n 0, 1, 0, 0), (1, .iconst 5, 1, 0, 0), (2, .iload_n 1, 1, 0, 0), (3, .iconst 0, 1, 0, 0), (4, .invokevirtual 159, 3, 119, 0), (7, .ireturn, 1, 0, 0)]]
def rX8_scope : xM := (⟨"PulledSignals", "scope", "(I)I"⟩, prog_1_method_13_code, tX8_scope, 8, 2, (some Jvm.ClassFile.FieldType.int), 1, 0, 443, 441, 442, 1)
theorem ok_rX8_scope : xMok rX8_scope = true := by decide +kernel
def tX8_newCell : List (List xEnt) := [[(0, .aload_n 0, 1, 0, 0), (1, .getfield 12, 3, 8, 0), (4, .iload_n 2, 1, 0, 0), (5, .invokevirtual 163, 3, 88, 0), (8, .ifCond .ne 10, 3, 0, 0), (11, .aload_n 0, 1, 0, 0), (12, .bipush (-2), 2, 0, 0), (14, .invokevirtual 66, 3, 153, 0)],
  [(17, .ireturn, 1, 0, 0), (18, .aload_n 0, 1, 0, 0), (19, .getfield 12, 3, 8, 0), (22, .invokevirtual 166, 3, 86, 0), (25, .ifCond .eq 10, 3, 0, 0), (28, .aload_n 0, 1, 0, 0), (29, .bipush (-6), 2, 0, 0), (31, .invokevirtual 66, 3, 153, 0)],
  [(34, .ireturn, 1, 0, 0), (35, .aload_n 0, 1, 0, 0), (36, .getfield 12, 3, 8, 0), (39, .iload_n 1, 1, 0, 0), (40, .iload_n 2, 1, 0, 0), (41, .iload_n 3, 1, 0, 0), (42, .i2l, 1, 0, 0), (43, .aconst_null, 1, 0, 0), (44, .invokevirtual 169, 3, 89, 0), (47, .ireturn, 1, 0, 0)]]
def rX8_newCell : xM := (⟨"PulledSignals", "newCell", "(III)I"⟩, prog_1_method_14_code, tX8_newCell, 8, 4, (some Jvm.ClassFile.FieldType.int), 3, 0, 352, 351, 100004, 1)
theorem ok_rX8_newCell : xMok rX8_newCell = true := by decide +kernel
def tX8_memo : List (List xEnt) := [[(0, .aload_n 0, 1, 0, 0), (1, .iconst 3, 1, 0, 0), (2, .iload_n 1, 1, 0, 0), (3, .invokevirtual 173, 3, 122, 0), (6, .istore_n 2, 1, 0, 0), (7, .aload_n 0, 1, 0, 0), (8, .getfield 47, 3, 8, 6), (11, .invokevirtual 156, 3, 55, 0), (14, .iload_n 2, 1, 0, 0), (15, .ireturn, 1, 0, 0)]]
def rX8_memo : xM := (⟨"PulledSignals", "memo", "(I)I"⟩, prog_1_method_15_code, tX8_memo, 8, 3, (some Jvm.ClassFile.FieldType.int), 1, 0, 447, 445, 446, 1)
theorem ok_rX8_memo : xMok rX8_memo = true := by decide +kernel
def tX8_effect : List (List xEnt) := [[(0, .aload_n 0, 1, 0, 0), (1, .iconst 4, 1, 0, 0), (2, .iload_n 1, 1, 0, 0), (3, .invokevirtual 173, 3, 122, 0), (6, .istore_n 2, 1, 0, 0), (7, .aload_n 0, 1, 0, 0), (8, .getfield 47, 3, 8, 6), (11, .invokevirtual 156, 3, 55, 0), (14, .iload_n 2, 1, 0, 0), (15, .ifCond .lt 21, 3, 0, 0)],
  [(18, .aload_n 0, 1, 0, 0), (19, .getfield 12, 3, 8, 0), (22, .getfield 177, 3, 7, 3), (25, .iload_n 2, 1, 0, 0), (26, .invokevirtual 153, 3, 50, 0), (29, .aload_n 0, 1, 0, 0), (30, .getfield 24, 3, 8, 3)],
  [(33, .invokevirtual 180, 3, 60, 0), (36, .iload_n 2, 1, 0, 0), (37, .ireturn, 1, 0, 0)]]
def rX8_effect : xM := (⟨"PulledSignals", "effect", "(I)I"⟩, prog_1_method_16_code, tX8_effect, 8, 3, (some Jvm.ClassFile.FieldType.int), 1, 0, 617, 615, 616, 1)
theorem ok_rX8_effect : xMok rX8_effect = true := by decide +kernel
def tX8_newComputed : List (List xEnt) := [[(0, .aload_n 0, 1, 0, 0), (1, .getfield 12, 3, 8, 0), (4, .iload_n 2, 1, 0, 0), (5, .invokevirtual 163, 3, 88, 0), (8, .ifCond .ne 10, 3, 0, 0), (11, .aload_n 0, 1, 0, 0), (12, .bipush (-2), 2, 0, 0), (14, .invokevirtual 66, 3, 153, 0)],
  [(17, .ireturn, 1, 0, 0), (18, .aload_n 0, 1, 0, 0), (19, .getfield 38, 3, 8, 5), (22, .aload_n 0, 1, 0, 0), (23, .getfield 47, 3, 8, 6), (26, .aload_n 0, 1, 0, 0), (27, .getfield 12, 3, 8, 0), (30, .invokevirtual 183, 3, 85, 0)],
  [(33, .invokevirtual 186, 3, 22, 0), (36, .astore_n 3, 1, 0, 0), (37, .aload_n 3, 1, 0, 0), (38, .ifnonnull 8, 3, 0, 0), (41, .aload_n 0, 1, 0, 0), (42, .invokevirtual 190, 3, 155, 0), (45, .ireturn, 1, 0, 0), (46, .aload_n 0, 1, 0, 0), (47, .getfield 12, 3, 8, 0)],
  [(50, .invokevirtual 166, 3, 86, 0), (53, .ifCond .eq 10, 3, 0, 0), (56, .aload_n 0, 1, 0, 0), (57, .bipush (-6), 2, 0, 0), (59, .invokevirtual 66, 3, 153, 0), (62, .ireturn, 1, 0, 0), (63, .aload_n 0, 1, 0, 0)],
  [(64, .getfield 12, 3, 8, 0), (67, .iload_n 1, 1, 0, 0), (68, .iload_n 2, 1, 0, 0), (69, .lconst 0, 1, 0, 0), (70, .aload_n 3, 1, 0, 0), (71, .invokevirtual 169, 3, 89, 0), (74, .ireturn, 1, 0, 0)]]
def rX8_newComputed : xM := (⟨"PulledSignals", "newComputed", "(II)I"⟩, prog_1_method_17_code, tX8_newComputed, 8, 4, (some Jvm.ClassFile.FieldType.int), 2, 0, 451, 450, 100006, 1)
theorem ok_rX8_newComputed : xMok rX8_newComputed = true := by decide +kernel
def tX8_reform : List (List xEnt) := [[(0, .aload_n 0, 1, 0, 0), (1, .iload_n 1, 1, 0, 0), (2, .invokevirtual 193, 3, 124, 0), (5, .istore_n 2, 1, 0, 0), (6, .aload_n 0, 1, 0, 0), (7, .getfield 47, 3, 8, 6), (10, .invokevirtual 156, 3, 55, 0), (13, .iload_n 2, 1, 0, 0), (14, .iconst 1, 1, 0, 0), (15, .if_icmp .ne 10, 3, 0, 0)],
  [(18, .aload_n 0, 1, 0, 0), (19, .getfield 24, 3, 8, 3), (22, .invokevirtual 180, 3, 60, 0), (25, .iload_n 2, 1, 0, 0), (26, .ireturn, 1, 0, 0)]]
def rX8_reform : xM := (⟨"PulledSignals", "reform", "(I)I"⟩, prog_1_method_18_code, tX8_reform, 8, 3, (some Jvm.ClassFile.FieldType.int), 1, 0, 743, 741, 742, 1)
theorem ok_rX8_reform : xMok rX8_reform = true := by decide +kernel
def tX8_anotherFormula : List (List xEnt) := [[(0, .aload_n 0, 1, 0, 0), (1, .getfield 12, 3, 8, 0), (4, .iload_n 1, 1, 0, 0), (5, .invokevirtual 105, 3, 87, 0), (8, .astore_n 2, 1, 0, 0), (9, .aload_n 2, 1, 0, 0), (10, .ifnull 11, 3, 0, 0), (13, .aload_n 2, 1, 0, 0), (14, .iconst 2, 1, 0, 0), (15, .invokevirtual 118, 3, 8, 0)],
  [(18, .ifCond .ne 10, 3, 0, 0), (21, .aload_n 0, 1, 0, 0), (22, .bipush (-2), 2, 0, 0), (24, .invokevirtual 66, 3, 153, 0), (27, .ireturn, 1, 0, 0), (28, .aload_n 2, 1, 0, 0), (29, .getfield 196, 3, 1, 2)],
  [(32, .ifCond .eq 10, 3, 0, 0), (35, .aload_n 0, 1, 0, 0), (36, .bipush (-5), 2, 0, 0), (38, .invokevirtual 66, 3, 153, 0), (41, .ireturn, 1, 0, 0), (42, .aload_n 0, 1, 0, 0), (43, .getfield 38, 3, 8, 5), (46, .aload_n 0, 1, 0, 0), (47, .getfield 47, 3, 8, 6)],
  [(50, .aload_n 0, 1, 0, 0), (51, .getfield 12, 3, 8, 0), (54, .invokevirtual 183, 3, 85, 0), (57, .invokevirtual 186, 3, 22, 0), (60, .astore_n 3, 1, 0, 0), (61, .aload_n 3, 1, 0, 0), (62, .ifnonnull 8, 3, 0, 0)],
  [(65, .aload_n 0, 1, 0, 0), (66, .invokevirtual 190, 3, 155, 0), (69, .ireturn, 1, 0, 0), (70, .aload_n 0, 1, 0, 0), (71, .getfield 24, 3, 8, 3), (74, .iload_n 1, 1, 0, 0), (75, .aload_n 3, 1, 0, 0), (76, .invokevirtual 200, 3, 62, 0), (79, .iconst 1, 1, 0, 0)],
  [(80, .ireturn, 1, 0, 0)]]
def rX8_anotherFormula : xM := (⟨"PulledSignals", "anotherFormula", "(I)I"⟩, prog_1_method_19_code, tX8_anotherFormula, 8, 4, (some Jvm.ClassFile.FieldType.int), 1, 0, 747, 746, 100033, 1)
theorem ok_rX8_anotherFormula : xMok rX8_anotherFormula = true := by decide +kernel
def tX8_write : List (List xEnt) := [[(0, .aload_n 0, 1, 0, 0), (1, .getfield 12, 3, 8, 0), (4, .iload_n 1, 1, 0, 0), (5, .invokevirtual 105, 3, 87, 0), (8, .astore_n 3, 1, 0, 0), (9, .aload_n 3, 1, 0, 0), (10, .ifnull 11, 3, 0, 0), (13, .aload_n 3, 1, 0, 0), (14, .getfield 204, 3, 1, 0)],
  [(17, .iconst 1, 1, 0, 0), (18, .if_icmp .eq 10, 3, 0, 0), (21, .aload_n 0, 1, 0, 0), (22, .bipush (-2), 2, 0, 0), (24, .invokevirtual 66, 3, 153, 0), (27, .ireturn, 1, 0, 0), (28, .aload_n 3, 1, 0, 0), (29, .getfield 196, 3, 1, 2)],
  [(32, .ifCond .eq 10, 3, 0, 0), (35, .aload_n 0, 1, 0, 0), (36, .bipush (-5), 2, 0, 0), (38, .invokevirtual 66, 3, 153, 0), (41, .ireturn, 1, 0, 0), (42, .aload_n 0, 1, 0, 0), (43, .getfield 24, 3, 8, 3), (46, .iload_n 1, 1, 0, 0), (47, .iload_n 2, 1, 0, 0)],
  [(48, .invokevirtual 207, 3, 61, 0), (51, .pop, 1, 0, 0), (52, .aload_n 0, 1, 0, 0), (53, .getfield 24, 3, 8, 3), (56, .invokevirtual 180, 3, 60, 0), (59, .aload_n 3, 1, 0, 0), (60, .getfield 128, 3, 1, 5), (63, .l2i, 1, 0, 0)],
  [(64, .ireturn, 1, 0, 0)]]
def rX8_write : xM := (⟨"PulledSignals", "write", "(II)I"⟩, prog_1_method_20_code, tX8_write, 8, 4, (some Jvm.ClassFile.FieldType.int), 2, 0, 755, 753, 754, 1)
theorem ok_rX8_write : xMok rX8_write = true := by decide +kernel
def tX8_begin : List (List xEnt) := [[(0, .aload_n 0, 1, 0, 0), (1, .getfield 12, 3, 8, 0), (4, .dup, 1, 0, 0), (5, .getfield 210, 3, 7, 7), (8, .iconst 1, 1, 0, 0), (9, .iadd, 1, 0, 0), (10, .putfield 210, 3, 7, 7), (13, .aload_n 0, 1, 0, 0), (14, .getfield 12, 3, 8, 0)],
  [(17, .getfield 210, 3, 7, 7), (20, .ireturn, 1, 0, 0)]]
def rX8_begin : xM := (⟨"PulledSignals", "begin", "()I"⟩, prog_1_method_21_code, tX8_begin, 8, 1, (some Jvm.ClassFile.FieldType.int), 0, 0, 763, 761, 762, 1)
theorem ok_rX8_begin : xMok rX8_begin = true := by decide +kernel
def tX8_end : List (List xEnt) := [[(0, .aload_n 0, 1, 0, 0), (1, .getfield 12, 3, 8, 0), (4, .getfield 210, 3, 7, 7), (7, .ifCond .gt 10, 3, 0, 0), (10, .aload_n 0, 1, 0, 0), (11, .bipush (-5), 2, 0, 0), (13, .invokevirtual 66, 3, 153, 0)],
  [(16, .ireturn, 1, 0, 0), (17, .aload_n 0, 1, 0, 0), (18, .getfield 12, 3, 8, 0), (21, .dup, 1, 0, 0), (22, .getfield 210, 3, 7, 7), (25, .iconst 1, 1, 0, 0), (26, .isub, 1, 0, 0), (27, .putfield 210, 3, 7, 7), (30, .aload_n 0, 1, 0, 0), (31, .getfield 24, 3, 8, 3)],
  [(34, .invokevirtual 180, 3, 60, 0), (37, .aload_n 0, 1, 0, 0), (38, .getfield 12, 3, 8, 0), (41, .getfield 210, 3, 7, 7), (44, .ireturn, 1, 0, 0)]]
def rX8_end : xM := (⟨"PulledSignals", "end", "()I"⟩, prog_1_method_22_code, tX8_end, 8, 1, (some Jvm.ClassFile.FieldType.int), 0, 0, 767, 765, 766, 1)
theorem ok_rX8_end : xMok rX8_end = true := by decide +kernel
def tX8_dispose : List (List xEnt) := [[(0, .aload_n 0, 1, 0, 0), (1, .getfield 12, 3, 8, 0), (4, .iload_n 1, 1, 0, 0), (5, .invokevirtual 105, 3, 87, 0), (8, .astore_n 2, 1, 0, 0), (9, .aload_n 2, 1, 0, 0), (10, .ifnonnull 10, 3, 0, 0), (13, .aload_n 0, 1, 0, 0), (14, .bipush (-2), 2, 0, 0)],
  [(16, .invokevirtual 66, 3, 153, 0), (19, .ireturn, 1, 0, 0), (20, .aload_n 2, 1, 0, 0), (21, .getfield 196, 3, 1, 2), (24, .ifCond .eq 10, 3, 0, 0), (27, .aload_n 0, 1, 0, 0), (28, .bipush (-5), 2, 0, 0), (30, .invokevirtual 66, 3, 153, 0)],
  [(33, .ireturn, 1, 0, 0), (34, .aload_n 0, 1, 0, 0), (35, .getfield 12, 3, 8, 0), (38, .invokevirtual 213, 3, 98, 0), (41, .istore_n 3, 1, 0, 0), (42, .aload_n 0, 1, 0, 0), (43, .getfield 24, 3, 8, 3), (46, .iload_n 1, 1, 0, 0), (47, .invokevirtual 216, 3, 63, 0)],
  [(50, .aload_n 0, 1, 0, 0), (51, .getfield 24, 3, 8, 3), (54, .invokevirtual 180, 3, 60, 0), (57, .aload_n 0, 1, 0, 0), (58, .getfield 12, 3, 8, 0), (61, .invokevirtual 213, 3, 98, 0)],
  [(64, .iload_n 3, 1, 0, 0), (65, .isub, 1, 0, 0), (66, .ireturn, 1, 0, 0)]]
def rX8_dispose : xM := (⟨"PulledSignals", "dispose", "(I)I"⟩, prog_1_method_23_code, tX8_dispose, 8, 4, (some Jvm.ClassFile.FieldType.int), 1, 0, 771, 769, 770, 1)
theorem ok_rX8_dispose : xMok rX8_dispose = true := by decide +kernel
def tX8_read : List (List xEnt) := [[(0, .aload_n 0, 1, 0, 0), (1, .getfield 12, 3, 8, 0), (4, .iload_n 1, 1, 0, 0), (5, .invokevirtual 105, 3, 87, 0), (8, .astore_n 2, 1, 0, 0), (9, .aload_n 2, 1, 0, 0), (10, .ifnull 11, 3, 0, 0), (13, .aload_n 2, 1, 0, 0), (14, .getfield 204, 3, 1, 0)],
  [(17, .iconst 5, 1, 0, 0), (18, .if_icmp .ne 10, 3, 0, 0), (21, .aload_n 0, 1, 0, 0), (22, .bipush (-2), 2, 0, 0), (24, .invokevirtual 219, 3, 154, 0), (27, .lreturn, 1, 0, 0), (28, .aload_n 2, 1, 0, 0), (29, .getfield 196, 3, 1, 2)],
  [(32, .ifCond .eq 10, 3, 0, 0), (35, .aload_n 0, 1, 0, 0), (36, .bipush (-5), 2, 0, 0), (38, .invokevirtual 219, 3, 154, 0), (41, .lreturn, 1, 0, 0), (42, .aload_n 2, 1, 0, 0), (43, .getfield 204, 3, 1, 0), (46, .iconst 3, 1, 0, 0), (47, .if_icmp .ne 11, 3, 0, 0)],
  [(50, .aload_n 0, 1, 0, 0), (51, .getfield 24, 3, 8, 3), (54, .iload_n 1, 1, 0, 0), (55, .invokevirtual 222, 3, 59, 0), (58, .aload_n 2, 1, 0, 0), (59, .getfield 225, 3, 1, 7), (62, .lstore_n 3, 1, 0, 0), (63, .aload_n 0, 1, 0, 0)],
  [(64, .getfield 24, 3, 8, 3), (67, .invokevirtual 180, 3, 60, 0), (70, .lload_n 3, 1, 0, 0), (71, .lreturn, 1, 0, 0)]]
def rX8_read : xM := (⟨"PulledSignals", "read", "(I)J"⟩, prog_1_method_24_code, tX8_read, 8, 5, (some Jvm.ClassFile.FieldType.long), 1, 0, 783, 781, 782, 1)
theorem ok_rX8_read : xMok rX8_read = true := by decide +kernel
def tX8_kept : List (List xEnt) := [[(0, .aload_n 0, 1, 0, 0), (1, .getfield 12, 3, 8, 0), (4, .iload_n 1, 1, 0, 0), (5, .invokevirtual 105, 3, 87, 0), (8, .astore_n 2, 1, 0, 0), (9, .aload_n 2, 1, 0, 0), (10, .ifnull 11, 3, 0, 0), (13, .aload_n 2, 1, 0, 0), (14, .getfield 204, 3, 1, 0)],
  [(17, .iconst 5, 1, 0, 0), (18, .if_icmp .ne 10, 3, 0, 0), (21, .aload_n 0, 1, 0, 0), (22, .bipush (-2), 2, 0, 0), (24, .invokevirtual 219, 3, 154, 0), (27, .lreturn, 1, 0, 0), (28, .aload_n 2, 1, 0, 0), (29, .getfield 225, 3, 1, 7)],
  [(32, .lreturn, 1, 0, 0)]]
def rX8_kept : xM := (⟨"PulledSignals", "kept", "(I)J"⟩, prog_1_method_25_code, tX8_kept, 8, 3, (some Jvm.ClassFile.FieldType.long), 1, 0, 796, 794, 795, 1)
theorem ok_rX8_kept : xMok rX8_kept = true := by decide +kernel
def tX8_cellOf : List (List xEnt) := [[(0, .aload_n 0, 1, 0, 0), (1, .getfield 12, 3, 8, 0), (4, .iload_n 1, 1, 0, 0), (5, .invokevirtual 105, 3, 87, 0), (8, .astore_n 3, 1, 0, 0), (9, .aload_n 3, 1, 0, 0), (10, .ifnonnull 10, 3, 0, 0), (13, .aload_n 0, 1, 0, 0), (14, .bipush (-2), 2, 0, 0)],
  [(16, .invokevirtual 66, 3, 153, 0), (19, .ireturn, 1, 0, 0), (20, .iload_n 2, 1, 0, 0), (21, .tableswitch 156 0 10 #[59, 64, 69, 82, 87, 93, 98, 106, 115, 124, 144], 59, 0, 0)],
  [],
  [],
  [],
  [(80, .aload_n 3, 1, 0, 0), (81, .getfield 204, 3, 1, 0), (84, .ireturn, 1, 0, 0), (85, .aload_n 3, 1, 0, 0), (86, .getfield 150, 3, 1, 1), (89, .ireturn, 1, 0, 0), (90, .aload_n 3, 1, 0, 0), (91, .getfield 196, 3, 1, 2), (94, .ifCond .eq 7, 3, 0, 0)],
  [(97, .iconst 1, 1, 0, 0), (98, .goto 4, 3, 0, 0), (101, .iconst 0, 1, 0, 0), (102, .ireturn, 1, 0, 0), (103, .aload_n 3, 1, 0, 0), (104, .getfield 228, 3, 1, 4), (107, .ireturn, 1, 0, 0), (108, .aload_n 3, 1, 0, 0), (109, .getfield 128, 3, 1, 5)],
  [(112, .l2i, 1, 0, 0), (113, .ireturn, 1, 0, 0), (114, .aload_n 3, 1, 0, 0), (115, .getfield 138, 3, 1, 6), (118, .ireturn, 1, 0, 0), (119, .aload_n 3, 1, 0, 0), (120, .getfield 132, 3, 1, 9), (123, .invokevirtual 135, 3, 44, 0), (126, .ireturn, 1, 0, 0), (127, .aload_n 0, 1, 0, 0)],
  [(128, .getfield 12, 3, 8, 0), (131, .iload_n 1, 1, 0, 0), (132, .invokevirtual 231, 3, 95, 0), (135, .ireturn, 1, 0, 0), (136, .aload_n 0, 1, 0, 0), (137, .getfield 12, 3, 8, 0), (140, .iload_n 1, 1, 0, 0), (141, .invokevirtual 142, 3, 92, 0)],
  [(144, .ireturn, 1, 0, 0), (145, .aload_n 0, 1, 0, 0), (146, .getfield 12, 3, 8, 0), (149, .getfield 177, 3, 7, 3), (152, .iload_n 1, 1, 0, 0), (153, .invokevirtual 234, 3, 49, 0), (156, .ifCond .eq 7, 3, 0, 0), (159, .iconst 1, 1, 0, 0)],
  [(160, .goto 4, 3, 0, 0), (163, .iconst 0, 1, 0, 0), (164, .ireturn, 1, 0, 0), (165, .aload_n 0, 1, 0, 0), (166, .getfield 12, 3, 8, 0), (169, .iload_n 1, 1, 0, 0), (170, .invokevirtual 237, 3, 97, 0), (173, .invokestatic 145, 3, 272, 2)],
  [(176, .ireturn, 1, 0, 0), (177, .aload_n 0, 1, 0, 0), (178, .bipush (-2), 2, 0, 0), (180, .invokevirtual 66, 3, 153, 0), (183, .ireturn, 1, 0, 0)]]
def rX8_cellOf : xM := (⟨"PulledSignals", "cellOf", "(II)I"⟩, prog_1_method_26_code, tX8_cellOf, 8, 4, (some Jvm.ClassFile.FieldType.int), 2, 0, 800, 798, 799, 1)
theorem ok_rX8_cellOf : xMok rX8_cellOf = true := by decide +kernel
def tX8_reads : List (List xEnt) := [[(0, .aload_n 0, 1, 0, 0), (1, .getfield 12, 3, 8, 0), (4, .iload_n 1, 1, 0, 0), (5, .invokevirtual 105, 3, 87, 0), (8, .astore_n 3, 1, 0, 0), (9, .aload_n 3, 1, 0, 0), (10, .ifnull 18, 3, 0, 0), (13, .iload_n 2, 1, 0, 0), (14, .ifCond .lt 14, 3, 0, 0)],
  [(17, .iload_n 2, 1, 0, 0), (18, .aload_n 3, 1, 0, 0), (19, .getfield 132, 3, 1, 9), (22, .invokevirtual 135, 3, 44, 0), (25, .if_icmp .lt 10, 3, 0, 0), (28, .aload_n 0, 1, 0, 0), (29, .bipush (-2), 2, 0, 0), (31, .invokevirtual 66, 3, 153, 0)],
  [(34, .ireturn, 1, 0, 0), (35, .aload_n 3, 1, 0, 0), (36, .getfield 132, 3, 1, 9), (39, .iload_n 2, 1, 0, 0), (40, .invokevirtual 240, 3, 46, 0), (43, .ireturn, 1, 0, 0)]]
def rX8_reads : xM := (⟨"PulledSignals", "reads", "(II)I"⟩, prog_1_method_27_code, tX8_reads, 8, 4, (some Jvm.ClassFile.FieldType.int), 2, 0, 813, 811, 812, 1)
theorem ok_rX8_reads : xMok rX8_reads = true := by decide +kernel
def tX8_spelled : List (List xEnt) := [[(0, .aload_n 0, 1, 0, 0), (1, .getfield 12, 3, 8, 0), (4, .iload_n 1, 1, 0, 0), (5, .invokevirtual 105, 3, 87, 0), (8, .astore_n 3, 1, 0, 0), (9, .aload_n 3, 1, 0, 0), (10, .ifnull 10, 3, 0, 0), (13, .aload_n 3, 1, 0, 0), (14, .getfield 243, 3, 1, 8)],
  [(17, .ifnonnull 10, 3, 0, 0), (20, .aload_n 0, 1, 0, 0), (21, .bipush (-2), 2, 0, 0), (23, .invokevirtual 66, 3, 153, 0), (26, .ireturn, 1, 0, 0), (27, .aload_n 3, 1, 0, 0), (28, .getfield 243, 3, 1, 8), (31, .iload_n 2, 1, 0, 0)],
  [(32, .invokevirtual 247, 3, 11, 0), (35, .ireturn, 1, 0, 0)]]
def rX8_spelled : xM := (⟨"PulledSignals", "spelled", "(II)I"⟩, prog_1_method_28_code, tX8_spelled, 8, 4, (some Jvm.ClassFile.FieldType.int), 2, 0, 818, 816, 817, 1)
theorem ok_rX8_spelled : xMok rX8_spelled = true := by decide +kernel
def tX8_plain : List (List xEnt) := [[(0, .aload_n 0, 1, 0, 0), (1, .iload_n 1, 1, 0, 0), (2, .invokevirtual 252, 3, 159, 0), (5, .ifCond .ne 10, 3, 0, 0), (8, .aload_n 0, 1, 0, 0), (9, .bipush (-2), 2, 0, 0), (11, .invokevirtual 219, 3, 154, 0), (14, .lreturn, 1, 0, 0), (15, .aload_n 0, 1, 0, 0)],
  [(16, .getfield 31, 3, 8, 4), (19, .iload_n 1, 1, 0, 0), (20, .invokevirtual 255, 3, 1, 0), (23, .lreturn, 1, 0, 0)]]
def rX8_plain : xM := (⟨"PulledSignals", "plain", "(I)J"⟩, prog_1_method_29_code, tX8_plain, 8, 2, (some Jvm.ClassFile.FieldType.long), 1, 0, 826, 824, 825, 1)
theorem ok_rX8_plain : xMok rX8_plain = true := by decide +kernel
def tX8_whatIf : List (List xEnt) := [[(0, .aload_n 0, 1, 0, 0), (1, .iload_n 1, 1, 0, 0), (2, .invokevirtual 258, 3, 158, 0), (5, .ifCond .eq 11, 3, 0, 0), (8, .aload_n 0, 1, 0, 0), (9, .iload_n 3, 1, 0, 0), (10, .invokevirtual 252, 3, 159, 0), (13, .ifCond .ne 10, 3, 0, 0)],
  [(16, .aload_n 0, 1, 0, 0), (17, .bipush (-2), 2, 0, 0), (19, .invokevirtual 219, 3, 154, 0), (22, .lreturn, 1, 0, 0), (23, .aload_n 0, 1, 0, 0), (24, .getfield 31, 3, 8, 4), (27, .iload_n 1, 1, 0, 0), (28, .iload_n 2, 1, 0, 0), (29, .iload_n 3, 1, 0, 0), (30, .invokevirtual 261, 3, 2, 0)],
  [(33, .lreturn, 1, 0, 0)]]
def rX8_whatIf : xM := (⟨"PulledSignals", "whatIf", "(III)J"⟩, prog_1_method_30_code, tX8_whatIf, 8, 4, (some Jvm.ClassFile.FieldType.long), 3, 0, 859, 857, 858, 1)
theorem ok_rX8_whatIf : xMok rX8_whatIf = true := by decide +kernel
def tX8_aim : List (List xEnt) := [[(0, .aload_n 0, 1, 0, 0), (1, .iload_n 1, 1, 0, 0), (2, .invokevirtual 258, 3, 158, 0), (5, .ifCond .eq 11, 3, 0, 0), (8, .aload_n 0, 1, 0, 0), (9, .iload_n 2, 1, 0, 0), (10, .invokevirtual 252, 3, 159, 0), (13, .ifCond .ne 10, 3, 0, 0)],
  [(16, .aload_n 0, 1, 0, 0), (17, .bipush (-2), 2, 0, 0), (19, .invokevirtual 66, 3, 153, 0), (22, .ireturn, 1, 0, 0), (23, .bipush (-20), 2, 0, 0), (25, .istore 4, 2, 0, 0), (27, .iload 4, 2, 0, 0), (29, .bipush 20, 2, 0, 0), (31, .if_icmp .gt 41, 3, 0, 0)],
  [(34, .aload_n 0, 1, 0, 0), (35, .getfield 31, 3, 8, 4), (38, .iload_n 1, 1, 0, 0), (39, .iload 4, 2, 0, 0), (41, .iload_n 2, 1, 0, 0), (42, .invokevirtual 261, 3, 2, 0), (45, .lstore 5, 2, 0, 0), (47, .lload 5, 2, 0, 0)],
  [(49, .invokestatic 265, 3, 160, 2), (52, .ifCond .ne 14, 3, 0, 0), (55, .lload 5, 2, 0, 0), (57, .iload_n 3, 1, 0, 0), (58, .i2l, 1, 0, 0), (59, .lcmp, 1, 0, 0), (60, .ifCond .lt 6, 3, 0, 0), (63, .iload 4, 2, 0, 0)],
  [(65, .ireturn, 1, 0, 0), (66, .iinc 4 1, 3, 0, 0), (69, .goto (-42), 3, 0, 0), (72, .bipush 100, 2, 0, 0), (74, .ireturn, 1, 0, 0)]]
def rX8_aim : xM := (⟨"PulledSignals", "aim", "(III)I"⟩, prog_1_method_31_code, tX8_aim, 8, 7, (some Jvm.ClassFile.FieldType.int), 3, 0, 868, 866, 867, 1)
theorem ok_rX8_aim : xMok rX8_aim = true := by decide +kernel
def tX8_news : List (List xEnt) := [[(0, .aload_n 0, 1, 0, 0), (1, .iload_n 1, 1, 0, 0), (2, .invokevirtual 258, 3, 158, 0), (5, .ifCond .ne 10, 3, 0, 0), (8, .aload_n 0, 1, 0, 0), (9, .bipush (-2), 2, 0, 0), (11, .invokevirtual 66, 3, 153, 0), (14, .ireturn, 1, 0, 0), (15, .iconst 0, 1, 0, 0)],
  [(16, .istore_n 3, 1, 0, 0), (17, .iconst 0, 1, 0, 0), (18, .istore 4, 2, 0, 0), (20, .iload 4, 2, 0, 0), (22, .aload_n 0, 1, 0, 0), (23, .getfield 12, 3, 8, 0), (26, .invokevirtual 183, 3, 85, 0), (29, .if_icmp .ge 73, 3, 0, 0)],
  [(32, .aload_n 0, 1, 0, 0), (33, .getfield 12, 3, 8, 0), (36, .iload 4, 2, 0, 0), (38, .invokevirtual 105, 3, 87, 0), (41, .astore 5, 2, 0, 0), (43, .aload 5, 2, 0, 0), (45, .ifnull 51, 3, 0, 0)],
  [(48, .aload 5, 2, 0, 0), (50, .getfield 196, 3, 1, 2), (53, .ifCond .ne 43, 3, 0, 0), (56, .aload 5, 2, 0, 0), (58, .iconst 2, 1, 0, 0), (59, .invokevirtual 118, 3, 8, 0), (62, .ifCond .eq 34, 3, 0, 0)],
  [(65, .aload_n 0, 1, 0, 0), (66, .getfield 31, 3, 8, 4), (69, .iload 4, 2, 0, 0), (71, .invokevirtual 255, 3, 1, 0), (74, .aload_n 0, 1, 0, 0), (75, .getfield 31, 3, 8, 4), (78, .iload_n 1, 1, 0, 0), (79, .iload_n 2, 1, 0, 0)],
  [(80, .iload 4, 2, 0, 0), (82, .invokevirtual 261, 3, 2, 0), (85, .lcmp, 1, 0, 0), (86, .ifCond .eq 10, 3, 0, 0), (89, .iload_n 3, 1, 0, 0), (90, .iconst 1, 1, 0, 0), (91, .iload 4, 2, 0, 0), (93, .ishl, 1, 0, 0), (94, .ior, 1, 0, 0), (95, .istore_n 3, 1, 0, 0)],
  [(96, .iinc 4 1, 3, 0, 0), (99, .goto (-79), 3, 0, 0), (102, .iload_n 3, 1, 0, 0), (103, .ireturn, 1, 0, 0)]]
def rX8_news : xM := (⟨"PulledSignals", "news", "(II)I"⟩, prog_1_method_32_code, tX8_news, 8, 6, (some Jvm.ClassFile.FieldType.int), 2, 0, 873, 871, 872, 1)
theorem ok_rX8_news : xMok rX8_news = true := by decide +kernel
def tX8_reaches : List (List xEnt) := [[(0, .aload_n 0, 1, 0, 0), (1, .getfield 12, 3, 8, 0), (4, .iload_n 1, 1, 0, 0), (5, .invokevirtual 105, 3, 87, 0), (8, .ifnull 14, 3, 0, 0), (11, .aload_n 0, 1, 0, 0), (12, .getfield 12, 3, 8, 0), (15, .iload_n 2, 1, 0, 0)],
  [(16, .invokevirtual 105, 3, 87, 0), (19, .ifnonnull 10, 3, 0, 0), (22, .aload_n 0, 1, 0, 0), (23, .bipush (-2), 2, 0, 0), (25, .invokevirtual 66, 3, 153, 0), (28, .ireturn, 1, 0, 0), (29, .aload_n 0, 1, 0, 0), (30, .getfield 12, 3, 8, 0)],
  [(33, .iload_n 1, 1, 0, 0), (34, .invokevirtual 237, 3, 97, 0), (37, .iload_n 2, 1, 0, 0), (38, .ishr, 1, 0, 0), (39, .iconst 1, 1, 0, 0), (40, .iand, 1, 0, 0), (41, .ireturn, 1, 0, 0)]]
def rX8_reaches : xM := (⟨"PulledSignals", "reaches", "(II)I"⟩, prog_1_method_33_code, tX8_reaches, 8, 3, (some Jvm.ClassFile.FieldType.int), 2, 0, 877, 875, 876, 1)
theorem ok_rX8_reaches : xMok rX8_reaches = true := by decide +kernel
def tX8_colours : List (List xEnt) := [[(0, .iload_n 1, 1, 0, 0), (1, .ifCond .lt 8, 3, 0, 0), (4, .iload_n 1, 1, 0, 0), (5, .iconst 2, 1, 0, 0), (6, .if_icmp .le 10, 3, 0, 0), (9, .aload_n 0, 1, 0, 0), (10, .bipush (-2), 2, 0, 0), (12, .invokevirtual 66, 3, 153, 0), (15, .ireturn, 1, 0, 0)],
  [(16, .aload_n 0, 1, 0, 0), (17, .getfield 12, 3, 8, 0), (20, .iload_n 1, 1, 0, 0), (21, .invokevirtual 269, 3, 99, 0), (24, .ireturn, 1, 0, 0)]]
def rX8_colours : xM := (⟨"PulledSignals", "colours", "(I)I"⟩, prog_1_method_34_code, tX8_colours, 8, 2, (some Jvm.ClassFile.FieldType.int), 1, 0, 881, 879, 880, 1)
theorem ok_rX8_colours : xMok rX8_colours = true := by decide +kernel
def tX8_signs : List (List xEnt) := [[(0, .iconst 0, 1, 0, 0), (1, .istore 4, 2, 0, 0), (3, .iconst 0, 1, 0, 0), (4, .istore 5, 2, 0, 0), (6, .iload 5, 2, 0, 0), (8, .bipush 8, 2, 0, 0), (10, .if_icmp .ge 57, 3, 0, 0), (13, .iload_n 2, 1, 0, 0), (14, .ifCond .ne 19, 3, 0, 0)],
  [(17, .iload 5, 2, 0, 0), (19, .iconst 3, 1, 0, 0), (20, .if_icmp .eq 9, 3, 0, 0), (23, .iload 5, 2, 0, 0), (25, .iconst 4, 1, 0, 0), (26, .if_icmp .ne 7, 3, 0, 0), (29, .iconst 1, 1, 0, 0), (30, .goto 4, 3, 0, 0)],
  [(33, .iconst 0, 1, 0, 0), (34, .istore 6, 2, 0, 0), (36, .iload 6, 2, 0, 0), (38, .ifCond .ne 23, 3, 0, 0), (41, .iload 5, 2, 0, 0), (43, .iload_n 1, 1, 0, 0), (44, .iload_n 2, 1, 0, 0), (45, .invokestatic 272, 3, 161, 2)],
  [(48, .iload_n 3, 1, 0, 0), (49, .if_icmp .ne 12, 3, 0, 0), (52, .iload 4, 2, 0, 0), (54, .iconst 1, 1, 0, 0), (55, .iload 5, 2, 0, 0), (57, .ishl, 1, 0, 0), (58, .ior, 1, 0, 0), (59, .istore 4, 2, 0, 0), (61, .iinc 5 1, 3, 0, 0)],
  [(64, .goto (-58), 3, 0, 0), (67, .iload 4, 2, 0, 0), (69, .ireturn, 1, 0, 0)]]
def rX8_signs : xM := (⟨"PulledSignals", "signs", "(III)I"⟩, prog_1_method_35_code, tX8_signs, 8, 7, (some Jvm.ClassFile.FieldType.int), 3, 0, 889, 887, 888, 1)
theorem ok_rX8_signs : xMok rX8_signs = true := by decide +kernel
def tX8_log : List (List xEnt) := [[(0, .aload_n 0, 1, 0, 0), (1, .getfield 12, 3, 8, 0), (4, .iload_n 1, 1, 0, 0), (5, .invokevirtual 275, 3, 102, 0), (8, .ifCond .ne 10, 3, 0, 0), (11, .aload_n 0, 1, 0, 0), (12, .bipush (-2), 2, 0, 0), (14, .invokevirtual 66, 3, 153, 0)],
  [(17, .ireturn, 1, 0, 0), (18, .aload_n 0, 1, 0, 0), (19, .getfield 12, 3, 8, 0), (22, .getfield 278, 3, 7, 4), (25, .iload_n 1, 1, 0, 0), (26, .invokevirtual 240, 3, 46, 0), (29, .ireturn, 1, 0, 0)]]
def rX8_log : xM := (⟨"PulledSignals", "log", "(I)I"⟩, prog_1_method_36_code, tX8_log, 8, 2, (some Jvm.ClassFile.FieldType.int), 1, 0, 894, 892, 893, 1)
theorem ok_rX8_log : xMok rX8_log = true := by decide +kernel
def tX8_logged : List (List xEnt) := [[(0, .aload_n 0, 1, 0, 0), (1, .getfield 12, 3, 8, 0), (4, .iload_n 1, 1, 0, 0), (5, .invokevirtual 275, 3, 102, 0), (8, .ifCond .ne 10, 3, 0, 0), (11, .aload_n 0, 1, 0, 0), (12, .bipush (-2), 2, 0, 0), (14, .invokevirtual 219, 3, 154, 0)],
  [(17, .lreturn, 1, 0, 0), (18, .aload_n 0, 1, 0, 0), (19, .getfield 12, 3, 8, 0), (22, .iload_n 1, 1, 0, 0), (23, .invokevirtual 281, 3, 103, 0), (26, .lreturn, 1, 0, 0)]]
def rX8_logged : xM := (⟨"PulledSignals", "logged", "(I)J"⟩, prog_1_method_37_code, tX8_logged, 8, 2, (some Jvm.ClassFile.FieldType.long), 1, 0, 902, 900, 901, 1)
theorem ok_rX8_logged : xMok rX8_logged = true := by decide +kernel
def tX8_disposed : List (List xEnt) := [[(0, .iload_n 1, 1, 0, 0), (1, .ifCond .lt 17, 3, 0, 0), (4, .iload_n 1, 1, 0, 0), (5, .aload_n 0, 1, 0, 0), (6, .getfield 12, 3, 8, 0), (9, .getfield 284, 3, 7, 6), (12, .invokevirtual 135, 3, 44, 0), (15, .if_icmp .lt 10, 3, 0, 0)],
  [(18, .aload_n 0, 1, 0, 0), (19, .bipush (-2), 2, 0, 0), (21, .invokevirtual 66, 3, 153, 0), (24, .ireturn, 1, 0, 0), (25, .aload_n 0, 1, 0, 0), (26, .getfield 12, 3, 8, 0), (29, .getfield 284, 3, 7, 6)],
  [(32, .iload_n 1, 1, 0, 0), (33, .invokevirtual 240, 3, 46, 0), (36, .ireturn, 1, 0, 0)]]
def rX8_disposed : xM := (⟨"PulledSignals", "disposed", "(I)I"⟩, prog_1_method_38_code, tX8_disposed, 8, 2, (some Jvm.ClassFile.FieldType.int), 1, 0, 910, 908, 909, 1)
theorem ok_rX8_disposed : xMok rX8_disposed = true := by decide +kernel
def tX8_queued : List (List xEnt) := [[(0, .iload_n 1, 1, 0, 0), (1, .ifCond .lt 17, 3, 0, 0), (4, .iload_n 1, 1, 0, 0), (5, .aload_n 0, 1, 0, 0), (6, .getfield 12, 3, 8, 0), (9, .getfield 177, 3, 7, 3), (12, .invokevirtual 135, 3, 44, 0), (15, .if_icmp .lt 10, 3, 0, 0)],
  [(18, .aload_n 0, 1, 0, 0), (19, .bipush (-2), 2, 0, 0), (21, .invokevirtual 66, 3, 153, 0), (24, .ireturn, 1, 0, 0), (25, .aload_n 0, 1, 0, 0), (26, .getfield 12, 3, 8, 0), (29, .getfield 177, 3, 7, 3)],
  [(32, .iload_n 1, 1, 0, 0), (33, .invokevirtual 240, 3, 46, 0), (36, .ireturn, 1, 0, 0)]]
def rX8_queued : xM := (⟨"PulledSignals", "queued", "(I)I"⟩, prog_1_method_39_code, tX8_queued, 8, 2, (some Jvm.ClassFile.FieldType.int), 1, 0, 914, 912, 913, 1)
theorem ok_rX8_queued : xMok rX8_queued = true := by decide +kernel
def tX8_judge : List (List xEnt) := [[(0, .aload_n 0, 1, 0, 0), (1, .iload_n 1, 1, 0, 0), (2, .invokevirtual 62, 3, 156, 0), (5, .astore_n 3, 1, 0, 0), (6, .aload_n 3, 1, 0, 0), (7, .ifnull 13, 3, 0, 0), (10, .iload_n 2, 1, 0, 0), (11, .ifCond .lt 9, 3, 0, 0), (14, .iload_n 2, 1, 0, 0), (15, .bipush 20, 2, 0, 0)],
  [(17, .if_icmp .le 10, 3, 0, 0), (20, .aload_n 0, 1, 0, 0), (21, .bipush (-2), 2, 0, 0), (23, .invokevirtual 66, 3, 153, 0), (26, .ireturn, 1, 0, 0), (27, .aload_n 3, 1, 0, 0), (28, .invokestatic 74, 3, 157, 2), (31, .istore 4, 2, 0, 0)],
  [(33, .iload 4, 2, 0, 0), (35, .ifCond .eq 10, 3, 0, 0), (38, .aload_n 0, 1, 0, 0), (39, .iload 4, 2, 0, 0), (41, .invokevirtual 66, 3, 153, 0), (44, .ireturn, 1, 0, 0), (45, .aload_n 3, 1, 0, 0), (46, .iconst 0, 1, 0, 0), (47, .iconst 2, 1, 0, 0)],
  [(48, .iload_n 2, 1, 0, 0), (49, .imul, 1, 0, 0), (50, .invokevirtual 78, 3, 79, 0), (53, .ifCond .ne 10, 3, 0, 0), (56, .aload_n 0, 1, 0, 0), (57, .bipush (-2), 2, 0, 0), (59, .invokevirtual 66, 3, 153, 0), (62, .ireturn, 1, 0, 0), (63, .iconst 0, 1, 0, 0)],
  [(64, .istore 5, 2, 0, 0), (66, .iload 5, 2, 0, 0), (68, .iload_n 2, 1, 0, 0), (69, .if_icmp .ge 42, 3, 0, 0), (72, .aload_n 0, 1, 0, 0), (73, .getfield 12, 3, 8, 0), (76, .iload 5, 2, 0, 0), (78, .aload_n 3, 1, 0, 0), (79, .iconst 2, 1, 0, 0)],
  [(80, .iload 5, 2, 0, 0), (82, .imul, 1, 0, 0), (83, .invokevirtual 101, 3, 80, 0), (86, .aload_n 3, 1, 0, 0), (87, .iconst 2, 1, 0, 0), (88, .iload 5, 2, 0, 0), (90, .imul, 1, 0, 0), (91, .iconst 1, 1, 0, 0), (92, .iadd, 1, 0, 0), (93, .invokevirtual 101, 3, 80, 0)],
  [(96, .invokevirtual 287, 3, 104, 0), (99, .ifCond .ne 6, 3, 0, 0), (102, .iload 5, 2, 0, 0), (104, .ireturn, 1, 0, 0), (105, .iinc 5 1, 3, 0, 0), (108, .goto (-42), 3, 0, 0), (111, .iconst (-1), 1, 0, 0)],
  [(112, .ireturn, 1, 0, 0)]]
def rX8_judge : xM := (⟨"PulledSignals", "judge", "(II)I"⟩, prog_1_method_40_code, tX8_judge, 8, 6, (some Jvm.ClassFile.FieldType.int), 2, 0, 918, 916, 917, 1)
theorem ok_rX8_judge : xMok rX8_judge = true := by decide +kernel
def tX8_days : List (List xEnt) := [[(0, .iload_n 1, 1, 0, 0), (1, .iconst 1, 1, 0, 0), (2, .if_icmp .lt 9, 3, 0, 0), (5, .iload_n 1, 1, 0, 0), (6, .bipush 60, 2, 0, 0), (8, .if_icmp .le 10, 3, 0, 0), (11, .aload_n 0, 1, 0, 0), (12, .bipush (-2), 2, 0, 0), (14, .invokevirtual 66, 3, 153, 0)],
  [(17, .ireturn, 1, 0, 0), (18, .aload_n 0, 1, 0, 0), (19, .getfield 12, 3, 8, 0), (22, .invokevirtual 183, 3, 85, 0), (25, .ifCond .ne 10, 3, 0, 0), (28, .aload_n 0, 1, 0, 0), (29, .bipush (-5), 2, 0, 0), (31, .invokevirtual 66, 3, 153, 0)],
  [(34, .ireturn, 1, 0, 0), (35, .iconst 0, 1, 0, 0), (36, .istore_n 2, 1, 0, 0), (37, .iconst 0, 1, 0, 0), (38, .istore_n 3, 1, 0, 0), (39, .iload_n 3, 1, 0, 0), (40, .iload_n 1, 1, 0, 0), (41, .if_icmp .ge 92, 3, 0, 0), (44, .aload_n 0, 1, 0, 0), (45, .getfield 12, 3, 8, 0)],
  [(48, .aload_n 0, 1, 0, 0), (49, .getfield 12, 3, 8, 0), (52, .invokevirtual 183, 3, 85, 0), (55, .invokevirtual 291, 3, 105, 0), (58, .istore 4, 2, 0, 0), (60, .aload_n 0, 1, 0, 0), (61, .getfield 12, 3, 8, 0)],
  [(64, .iload 4, 2, 0, 0), (66, .invokevirtual 105, 3, 87, 0), (69, .astore 5, 2, 0, 0), (71, .aload 5, 2, 0, 0), (73, .ifnull 47, 3, 0, 0), (76, .aload 5, 2, 0, 0), (78, .getfield 204, 3, 1, 0)],
  [(81, .iconst 1, 1, 0, 0), (82, .if_icmp .ne 38, 3, 0, 0), (85, .aload 5, 2, 0, 0), (87, .getfield 196, 3, 1, 2), (90, .ifCond .ne 30, 3, 0, 0), (93, .aload_n 0, 1, 0, 0), (94, .getfield 24, 3, 8, 3)],
  [(97, .iload 4, 2, 0, 0), (99, .aload_n 0, 1, 0, 0), (100, .getfield 12, 3, 8, 0), (103, .bipush 21, 2, 0, 0), (105, .invokevirtual 291, 3, 105, 0), (108, .bipush 10, 2, 0, 0), (110, .isub, 1, 0, 0), (111, .invokevirtual 207, 3, 61, 0)],
  [(114, .ifCond .eq 6, 3, 0, 0), (117, .iinc 2 1, 3, 0, 0), (120, .aload_n 0, 1, 0, 0), (121, .getfield 24, 3, 8, 3), (124, .invokevirtual 180, 3, 60, 0), (127, .iinc 3 1, 3, 0, 0)],
  [(130, .goto (-91), 3, 0, 0), (133, .iload_n 2, 1, 0, 0), (134, .ireturn, 1, 0, 0)]]
def rX8_days : xM := (⟨"PulledSignals", "days", "(I)I"⟩, prog_1_method_41_code, tX8_days, 8, 6, (some Jvm.ClassFile.FieldType.int), 1, 0, 929, 927, 928, 1)
theorem ok_rX8_days : xMok rX8_days = true := by decide +kernel
def tX8_seed : List (List xEnt) := [[(0, .aload_n 0, 1, 0, 0), (1, .getfield 12, 3, 8, 0), (4, .getfield 294, 3, 7, 8), (7, .istore_n 2, 1, 0, 0), (8, .aload_n 0, 1, 0, 0), (9, .getfield 12, 3, 8, 0), (12, .iload_n 1, 1, 0, 0), (13, .putfield 294, 3, 7, 8)],
  [(16, .iload_n 2, 1, 0, 0), (17, .ireturn, 1, 0, 0)]]
def rX8_seed : xM := (⟨"PulledSignals", "seed", "(I)I"⟩, prog_1_method_42_code, tX8_seed, 8, 3, (some Jvm.ClassFile.FieldType.int), 1, 0, 938, 936, 937, 1)
theorem ok_rX8_seed : xMok rX8_seed = true := by decide +kernel
def tX8_image : List (List xEnt) := [[(0, .aload_n 0, 1, 0, 0), (1, .getfield 16, 3, 8, 1), (4, .aload_n 0, 1, 0, 0), (5, .getfield 12, 3, 8, 0), (8, .invokevirtual 297, 3, 91, 0), (11, .aload_n 0, 1, 0, 0), (12, .iconst 1, 1, 0, 0), (13, .putfield 300, 3, 8, 2)],
  [(16, .iconst 1, 1, 0, 0), (17, .ireturn, 1, 0, 0)]]
def rX8_image : xM := (⟨"PulledSignals", "image", "()I"⟩, prog_1_method_43_code, tX8_image, 8, 1, (some Jvm.ClassFile.FieldType.int), 0, 0, 942, 940, 941, 1)
theorem ok_rX8_image : xMok rX8_image = true := by decide +kernel
def tX8_back : List (List xEnt) := [[(0, .aload_n 0, 1, 0, 0), (1, .getfield 300, 3, 8, 2), (4, .ifCond .ne 10, 3, 0, 0), (7, .aload_n 0, 1, 0, 0), (8, .bipush (-5), 2, 0, 0), (10, .invokevirtual 66, 3, 153, 0), (13, .ireturn, 1, 0, 0), (14, .aload_n 0, 1, 0, 0), (15, .getfield 12, 3, 8, 0)],
  [(18, .aload_n 0, 1, 0, 0), (19, .getfield 16, 3, 8, 1), (22, .invokevirtual 297, 3, 91, 0), (25, .iconst 0, 1, 0, 0), (26, .istore_n 1, 1, 0, 0), (27, .iload_n 1, 1, 0, 0), (28, .aload_n 0, 1, 0, 0), (29, .getfield 53, 3, 8, 7)],
  [(32, .arraylength, 1, 0, 0), (33, .if_icmp .ge 45, 3, 0, 0), (36, .aload_n 0, 1, 0, 0), (37, .getfield 53, 3, 8, 7), (40, .iload_n 1, 1, 0, 0), (41, .aaload, 1, 0, 0), (42, .astore_n 2, 1, 0, 0), (43, .aload_n 2, 1, 0, 0), (44, .ifnull 28, 3, 0, 0), (47, .aload_n 2, 1, 0, 0)],
  [(48, .invokevirtual 94, 3, 74, 0), (51, .ifCond .eq 21, 3, 0, 0), (54, .aload_n 0, 1, 0, 0), (55, .getfield 12, 3, 8, 0), (58, .aload_n 2, 1, 0, 0), (59, .invokevirtual 115, 3, 75, 0), (62, .invokevirtual 105, 3, 87, 0)],
  [(65, .ifnonnull 7, 3, 0, 0), (68, .aload_n 2, 1, 0, 0), (69, .invokevirtual 109, 3, 76, 0), (72, .iinc 1 1, 3, 0, 0), (75, .goto (-48), 3, 0, 0), (78, .iconst 1, 1, 0, 0), (79, .ireturn, 1, 0, 0)]]
def rX8_back : xM := (⟨"PulledSignals", "back", "()I"⟩, prog_1_method_44_code, tX8_back, 8, 3, (some Jvm.ClassFile.FieldType.int), 0, 0, 956, 954, 955, 1)
theorem ok_rX8_back : xMok rX8_back = true := by decide +kernel
def tX8_status : List (List xEnt) := [[(0, .iload_n 1, 1, 0, 0), (1, .tableswitch 141 0 9 #[55, 63, 71, 79, 90, 101, 112, 120, 128, 136], 55, 0, 0)],
  [],
  [],
  [(56, .aload_n 0, 1, 0, 0), (57, .getfield 12, 3, 8, 0), (60, .invokevirtual 183, 3, 85, 0), (63, .ireturn, 1, 0, 0)],
  [(64, .aload_n 0, 1, 0, 0), (65, .getfield 12, 3, 8, 0), (68, .invokevirtual 213, 3, 98, 0), (71, .ireturn, 1, 0, 0), (72, .aload_n 0, 1, 0, 0), (73, .getfield 12, 3, 8, 0), (76, .getfield 210, 3, 7, 7), (79, .ireturn, 1, 0, 0)],
  [(80, .aload_n 0, 1, 0, 0), (81, .getfield 12, 3, 8, 0), (84, .getfield 177, 3, 7, 3), (87, .invokevirtual 135, 3, 44, 0), (90, .ireturn, 1, 0, 0), (91, .aload_n 0, 1, 0, 0), (92, .getfield 12, 3, 8, 0), (95, .getfield 278, 3, 7, 4)],
  [(98, .invokevirtual 303, 3, 45, 0), (101, .ireturn, 1, 0, 0), (102, .aload_n 0, 1, 0, 0), (103, .getfield 12, 3, 8, 0), (106, .getfield 284, 3, 7, 6), (109, .invokevirtual 303, 3, 45, 0)],
  [(112, .ireturn, 1, 0, 0), (113, .aload_n 0, 1, 0, 0), (114, .getfield 12, 3, 8, 0), (117, .invokevirtual 306, 3, 100, 0), (120, .ireturn, 1, 0, 0), (121, .aload_n 0, 1, 0, 0), (122, .getfield 47, 3, 8, 6), (125, .invokevirtual 135, 3, 44, 0)],
  [(128, .ireturn, 1, 0, 0), (129, .aload_n 0, 1, 0, 0), (130, .getfield 12, 3, 8, 0), (133, .getfield 294, 3, 7, 8), (136, .ireturn, 1, 0, 0), (137, .aload_n 0, 1, 0, 0), (138, .invokevirtual 309, 3, 151, 0), (141, .ireturn, 1, 0, 0), (142, .aload_n 0, 1, 0, 0), (143, .iload_n 1, 1, 0, 0)],
  [(144, .bipush 12, 2, 0, 0), (146, .isub, 1, 0, 0), (147, .invokevirtual 312, 3, 152, 0), (150, .ireturn, 1, 0, 0)]]
def rX8_status : xM := (⟨"PulledSignals", "status", "(I)I"⟩, prog_1_method_45_code, tX8_status, 8, 2, (some Jvm.ClassFile.FieldType.int), 1, 0, 960, 958, 959, 1)
theorem ok_rX8_status : xMok rX8_status = true := by decide +kernel
def tX8_heldCount : List (List xEnt) := [[(0, .iconst 0, 1, 0, 0), (1, .istore_n 1, 1, 0, 0), (2, .iconst 0, 1, 0, 0), (3, .istore_n 2, 1, 0, 0), (4, .iload_n 2, 1, 0, 0), (5, .aload_n 0, 1, 0, 0), (6, .getfield 53, 3, 8, 7), (9, .arraylength, 1, 0, 0), (10, .if_icmp .ge 21, 3, 0, 0), (13, .aload_n 0, 1, 0, 0), (14, .iload_n 2, 1, 0, 0), (15, .invokevirtual 315, 3, 111, 0)],
  [(18, .iconst (-1), 1, 0, 0), (19, .if_icmp .eq 6, 3, 0, 0), (22, .iinc 1 1, 3, 0, 0), (25, .iinc 2 1, 3, 0, 0), (28, .goto (-24), 3, 0, 0), (31, .iload_n 1, 1, 0, 0)],
  [(32, .ireturn, 1, 0, 0)]]
def rX8_heldCount : xM := (⟨"PulledSignals", "heldCount", "()I"⟩, prog_1_method_46_code, tX8_heldCount, 8, 3, (some Jvm.ClassFile.FieldType.int), 0, 0, 972, 971, 100039, 1)
theorem ok_rX8_heldCount : xMok rX8_heldCount = true := by decide +kernel
def tX8_refusalCount : List (List xEnt) := [[(0, .iload_n 1, 1, 0, 0), (1, .ifCond .lt 21, 3, 0, 0), (4, .iload_n 1, 1, 0, 0), (5, .aload_n 0, 1, 0, 0), (6, .getfield 57, 3, 8, 8), (9, .arraylength, 1, 0, 0), (10, .if_icmp .ge 12, 3, 0, 0), (13, .aload_n 0, 1, 0, 0), (14, .getfield 57, 3, 8, 8)],
  [(17, .iload_n 1, 1, 0, 0), (18, .iaload, 1, 0, 0), (19, .goto 4, 3, 0, 0), (22, .iconst (-1), 1, 0, 0), (23, .ireturn, 1, 0, 0)]]
def rX8_refusalCount : xM := (⟨"PulledSignals", "refusalCount", "(I)I"⟩, prog_1_method_47_code, tX8_refusalCount, 8, 2, (some Jvm.ClassFile.FieldType.int), 1, 0, 977, 976, 100040, 1)
theorem ok_rX8_refusalCount : xMok rX8_refusalCount = true := by decide +kernel
def tX8_refuse : List (List xEnt) := [[(0, .bipush (-2), 2, 0, 0), (2, .iload_n 1, 1, 0, 0), (3, .isub, 1, 0, 0), (4, .istore_n 2, 1, 0, 0), (5, .iload_n 2, 1, 0, 0), (6, .ifCond .lt 22, 3, 0, 0), (9, .iload_n 2, 1, 0, 0), (10, .aload_n 0, 1, 0, 0), (11, .getfield 57, 3, 8, 8), (14, .arraylength, 1, 0, 0), (15, .if_icmp .ge 13, 3, 0, 0)],
  [(18, .aload_n 0, 1, 0, 0), (19, .getfield 57, 3, 8, 8), (22, .iload_n 2, 1, 0, 0), (23, .dup2, 1, 0, 0), (24, .iaload, 1, 0, 0), (25, .iconst 1, 1, 0, 0), (26, .iadd, 1, 0, 0), (27, .iastore, 1, 0, 0), (28, .iload_n 1, 1, 0, 0), (29, .ireturn, 1, 0, 0)]]
def rX8_refuse : xM := (⟨"PulledSignals", "refuse", "(I)I"⟩, prog_1_method_48_code, tX8_refuse, 8, 3, (some Jvm.ClassFile.FieldType.int), 1, 0, 225, 224, 100001, 1)
theorem ok_rX8_refuse : xMok rX8_refuse = true := by decide +kernel
def tX8_refuseLong : List (List xEnt) := [[(0, .ldc2_w 318, 3, 5, 0), (3, .aload_n 0, 1, 0, 0), (4, .iload_n 1, 1, 0, 0), (5, .invokevirtual 66, 3, 153, 0), (8, .i2l, 1, 0, 0), (9, .ladd, 1, 0, 0), (10, .lreturn, 1, 0, 0)]]
def rX8_refuseLong : xM := (⟨"PulledSignals", "refuseLong", "(I)J"⟩, prog_1_method_49_code, tX8_refuseLong, 8, 2, (some Jvm.ClassFile.FieldType.long), 1, 0, 787, 786, 100034, 1)
theorem ok_rX8_refuseLong : xMok rX8_refuseLong = true := by decide +kernel
def tX8_refuseFault : List (List xEnt) := [[(0, .aload_n 0, 1, 0, 0), (1, .bipush (-2), 2, 0, 0), (3, .invokevirtual 66, 3, 153, 0), (6, .pop, 1, 0, 0), (7, .sipush (-200), 3, 0, 0), (10, .aload_n 0, 1, 0, 0), (11, .getfield 38, 3, 8, 5), (14, .invokevirtual 320, 3, 21, 0)],
  [(17, .isub, 1, 0, 0), (18, .ireturn, 1, 0, 0)]]
def rX8_refuseFault : xM := (⟨"PulledSignals", "refuseFault", "()I"⟩, prog_1_method_50_code, tX8_refuseFault, 8, 1, (some Jvm.ClassFile.FieldType.int), 0, 0, 609, 608, 100023, 1)
theorem ok_rX8_refuseFault : xMok rX8_refuseFault = true := by decide +kernel
def tX8_shelfAt : List (List xEnt) := [[(0, .iload_n 1, 1, 0, 0), (1, .ifCond .lt 21, 3, 0, 0), (4, .iload_n 1, 1, 0, 0), (5, .aload_n 0, 1, 0, 0), (6, .getfield 53, 3, 8, 7), (9, .arraylength, 1, 0, 0), (10, .if_icmp .ge 12, 3, 0, 0), (13, .aload_n 0, 1, 0, 0), (14, .getfield 53, 3, 8, 7)],
  [(17, .iload_n 1, 1, 0, 0), (18, .aaload, 1, 0, 0), (19, .goto 4, 3, 0, 0), (22, .aconst_null, 1, 0, 0), (23, .areturn, 1, 0, 0)]]
def rX8_shelfAt : xM := (⟨"PulledSignals", "shelfAt", "(I)LPulledSignals$Shelf;"⟩, prog_1_method_51_code, tX8_shelfAt, 8, 2, (some (Jvm.ClassFile.FieldType.object "PulledSignals$Shelf")), 1, 0, 221, 220, 100000, 1)
theorem ok_rX8_shelfAt : xMok rX8_shelfAt = true := by decide +kernel
def tX8_rowRefusal : List (List xEnt) := [[(0, .aload_n 0, 1, 0, 0), (1, .ifnonnull 6, 3, 0, 0), (4, .bipush (-2), 2, 0, 0), (6, .ireturn, 1, 0, 0), (7, .aload_n 0, 1, 0, 0), (8, .invokevirtual 94, 3, 74, 0), (11, .ifCond .eq 6, 3, 0, 0), (14, .bipush (-3), 2, 0, 0)],
  [(16, .ireturn, 1, 0, 0), (17, .aload_n 0, 1, 0, 0), (18, .invokevirtual 86, 3, 73, 0), (21, .ifCond .eq 7, 3, 0, 0), (24, .iconst 0, 1, 0, 0), (25, .goto 5, 3, 0, 0), (28, .bipush (-4), 2, 0, 0), (30, .ireturn, 1, 0, 0)]]
def rX8_rowRefusal : xM := (⟨"PulledSignals", "rowRefusal", "(LPulledSignals$Shelf;)I"⟩, prog_1_method_52_code, tX8_rowRefusal, 8, 1, (some Jvm.ClassFile.FieldType.int), 1, 1, 236, 235, 200000, 1)
theorem ok_rX8_rowRefusal : xMok rX8_rowRefusal = true := by decide +kernel
def tX8_isSource : List (List xEnt) := [[(0, .aload_n 0, 1, 0, 0), (1, .getfield 12, 3, 8, 0), (4, .iload_n 1, 1, 0, 0), (5, .invokevirtual 105, 3, 87, 0), (8, .astore_n 2, 1, 0, 0), (9, .aload_n 2, 1, 0, 0), (10, .ifnull 15, 3, 0, 0), (13, .aload_n 2, 1, 0, 0), (14, .getfield 204, 3, 1, 0)],
  [(17, .iconst 1, 1, 0, 0), (18, .if_icmp .ne 7, 3, 0, 0), (21, .iconst 1, 1, 0, 0), (22, .goto 4, 3, 0, 0), (25, .iconst 0, 1, 0, 0), (26, .ireturn, 1, 0, 0)]]
def rX8_isSource : xM := (⟨"PulledSignals", "isSource", "(I)Z"⟩, prog_1_method_53_code, tX8_isSource, 8, 3, (some Jvm.ClassFile.FieldType.boolean), 1, 0, 863, 862, 100038, 1)
theorem ok_rX8_isSource : xMok rX8_isSource = true := by decide +kernel
def tX8_hasOutcome : List (List xEnt) := [[(0, .aload_n 0, 1, 0, 0), (1, .getfield 12, 3, 8, 0), (4, .iload_n 1, 1, 0, 0), (5, .invokevirtual 105, 3, 87, 0), (8, .astore_n 2, 1, 0, 0), (9, .aload_n 2, 1, 0, 0), (10, .ifnull 15, 3, 0, 0), (13, .aload_n 2, 1, 0, 0), (14, .getfield 204, 3, 1, 0)],
  [(17, .iconst 5, 1, 0, 0), (18, .if_icmp .eq 7, 3, 0, 0), (21, .iconst 1, 1, 0, 0), (22, .goto 4, 3, 0, 0), (25, .iconst 0, 1, 0, 0), (26, .ireturn, 1, 0, 0)]]
def rX8_hasOutcome : xM := (⟨"PulledSignals", "hasOutcome", "(I)Z"⟩, prog_1_method_54_code, tX8_hasOutcome, 8, 3, (some Jvm.ClassFile.FieldType.boolean), 1, 0, 830, 829, 100035, 1)
theorem ok_rX8_hasOutcome : xMok rX8_hasOutcome = true := by decide +kernel
def tX8_isFail : List (List xEnt) := [[(0, .lload_n 0, 1, 0, 0), (1, .ldc2_w 323, 3, 6, 0), (4, .lcmp, 1, 0, 0), (5, .ifCond .le 7, 3, 0, 0), (8, .iconst 1, 1, 0, 0), (9, .goto 4, 3, 0, 0), (12, .iconst 0, 1, 0, 0), (13, .ireturn, 1, 0, 0)]]
def rX8_isFail : xM := (⟨"PulledSignals", "isFail", "(J)Z"⟩, prog_1_method_55_code, tX8_isFail, 8, 2, (some Jvm.ClassFile.FieldType.boolean), 1, 1, 729, 728, 200000, 1)
theorem ok_rX8_isFail : xMok rX8_isFail = true := by decide +kernel
def tX8_joined : List (List xEnt) := [[(0, .iload_n 0, 1, 0, 0), (1, .tableswitch 116 0 7 #[47, 51, 55, 59, 71, 83, 94, 105], 47, 0, 0)],
  [],
  [],
  [(48, .iload_n 1, 1, 0, 0), (49, .iload_n 2, 1, 0, 0), (50, .iadd, 1, 0, 0), (51, .ireturn, 1, 0, 0), (52, .iload_n 1, 1, 0, 0), (53, .iload_n 2, 1, 0, 0), (54, .isub, 1, 0, 0), (55, .ireturn, 1, 0, 0), (56, .iload_n 1, 1, 0, 0), (57, .iload_n 2, 1, 0, 0), (58, .imul, 1, 0, 0), (59, .ireturn, 1, 0, 0), (60, .iload_n 2, 1, 0, 0), (61, .ifCond .ne 7, 3, 0, 0)],
  [(64, .iconst 0, 1, 0, 0), (65, .goto 6, 3, 0, 0), (68, .iload_n 1, 1, 0, 0), (69, .iload_n 2, 1, 0, 0), (70, .idiv, 1, 0, 0), (71, .ireturn, 1, 0, 0), (72, .iload_n 2, 1, 0, 0), (73, .ifCond .ne 7, 3, 0, 0), (76, .iconst 0, 1, 0, 0), (77, .goto 6, 3, 0, 0)],
  [(80, .iload_n 1, 1, 0, 0), (81, .iload_n 2, 1, 0, 0), (82, .irem, 1, 0, 0), (83, .ireturn, 1, 0, 0), (84, .iload_n 1, 1, 0, 0), (85, .iload_n 2, 1, 0, 0), (86, .if_icmp .ge 7, 3, 0, 0), (89, .iconst 1, 1, 0, 0), (90, .goto 4, 3, 0, 0), (93, .iconst 0, 1, 0, 0), (94, .ireturn, 1, 0, 0), (95, .iload_n 1, 1, 0, 0)],
  [(96, .iload_n 2, 1, 0, 0), (97, .if_icmp .ne 7, 3, 0, 0), (100, .iconst 1, 1, 0, 0), (101, .goto 4, 3, 0, 0), (104, .iconst 0, 1, 0, 0), (105, .ireturn, 1, 0, 0), (106, .iload_n 1, 1, 0, 0), (107, .iload_n 2, 1, 0, 0), (108, .if_icmp .le 7, 3, 0, 0), (111, .iconst 1, 1, 0, 0)],
  [(112, .goto 4, 3, 0, 0), (115, .iconst 0, 1, 0, 0), (116, .ireturn, 1, 0, 0), (117, .iload_n 1, 1, 0, 0), (118, .iload_n 2, 1, 0, 0), (119, .if_icmp .le 7, 3, 0, 0), (122, .iload_n 1, 1, 0, 0), (123, .goto 4, 3, 0, 0), (126, .iload_n 2, 1, 0, 0), (127, .ireturn, 1, 0, 0)]]
def rX8_joined : xM := (⟨"PulledSignals", "joined", "(III)I"⟩, prog_1_method_56_code, tX8_joined, 8, 3, (some Jvm.ClassFile.FieldType.int), 3, 1, 699, 698, 200000, 1)
theorem ok_rX8_joined : xMok rX8_joined = true := by decide +kernel
def tJ6_bitCount_0f7a4 : List (List xEnt) := [[(0, .iload_n 0, 1, 0, 0), (1, .iload_n 0, 1, 0, 0), (2, .iconst 1, 1, 0, 0), (3, .iushr, 1, 0, 0), (4, .ldc_w 265, 3, 2, 0), (7, .iand, 1, 0, 0), (8, .isub, 1, 0, 0), (9, .istore_n 0, 1, 0, 0), (10, .iload_n 0, 1, 0, 0), (11, .ldc_w 266, 3, 3, 0), (14, .iand, 1, 0, 0), (15, .iload_n 0, 1, 0, 0)],
  [(16, .iconst 2, 1, 0, 0), (17, .iushr, 1, 0, 0), (18, .ldc_w 266, 3, 3, 0), (21, .iand, 1, 0, 0), (22, .iadd, 1, 0, 0), (23, .istore_n 0, 1, 0, 0), (24, .iload_n 0, 1, 0, 0), (25, .iload_n 0, 1, 0, 0), (26, .iconst 4, 1, 0, 0), (27, .iushr, 1, 0, 0), (28, .iadd, 1, 0, 0), (29, .ldc_w 267, 3, 4, 0)],
  [(32, .iand, 1, 0, 0), (33, .istore_n 0, 1, 0, 0), (34, .iload_n 0, 1, 0, 0), (35, .iload_n 0, 1, 0, 0), (36, .bipush 8, 2, 0, 0), (38, .iushr, 1, 0, 0), (39, .iadd, 1, 0, 0), (40, .istore_n 0, 1, 0, 0), (41, .iload_n 0, 1, 0, 0), (42, .iload_n 0, 1, 0, 0), (43, .bipush 16, 2, 0, 0), (45, .iushr, 1, 0, 0), (46, .iadd, 1, 0, 0), (47, .istore_n 0, 1, 0, 0)],
  [(48, .iload_n 0, 1, 0, 0), (49, .bipush 63, 2, 0, 0), (51, .iand, 1, 0, 0), (52, .ireturn, 1, 0, 0)]]
def rJ6_bitCount_0f7a4 : xM := (⟨"java/lang/Integer", "bitCount", "(I)I"⟩, prog_12_method_49_code, tJ6_bitCount_0f7a4, 15, 1, (some Jvm.ClassFile.FieldType.int), 1, 1, 325, 324, 200000, 9)
theorem ok_rJ6_bitCount_0f7a4 : xMok rJ6_bitCount_0f7a4 = true := by decide +kernel
