def tX0_init : List (List xEnt) := [[(0, .aload_n 0, 1, 0, 0), (1, .invokespecial 3, 3, 0, 9), (4, .aload_n 0, 1, 0, 0), (5, .bipush 24, 2, 0, 0), (7, .newarray .long, 2, 1, 0), (9, .putfield 9, 3, 0, 1), (12, .aload_n 0, 1, 0, 0), (13, .bipush 24, 2, 0, 0), (15, .newarray .int, 2, 0, 0)],
  [(17, .putfield 15, 3, 0, 2), (20, .aload_n 0, 1, 0, 0), (21, .aload_n 1, 1, 0, 0), (22, .putfield 19, 3, 0, 0), (25, .return_, 1, 0, 0)]]
def rX0_init : xM := (⟨"PulledSignals$Beside", "<init>", "(LPulledSignals$Web;)V"⟩, prog_2_method_1_code, tX0_init, 0, 2, none, 1, 2, 700, 699, 200000, 5)
theorem ok_rX0_init : xMok rX0_init = true := by decide +kernel
def tX0_outcomeNow : List (List xEnt) := [[(0, .aload_n 0, 1, 0, 0), (1, .iconst (-1), 1, 0, 0), (2, .iconst 0, 1, 0, 0), (3, .iload_n 1, 1, 0, 0), (4, .invokevirtual 23, 3, 2, 0), (7, .lreturn, 1, 0, 0)]]
def rX0_outcomeNow : xM := (⟨"PulledSignals$Beside", "outcomeNow", "(I)J"⟩, prog_2_method_2_code, tX0_outcomeNow, 0, 2, (some Jvm.ClassFile.FieldType.long), 1, 0, 507, 505, 506, 5)
theorem ok_rX0_outcomeNow : xMok rX0_outcomeNow = true := by decide +kernel
def tX0_outcomeIf : List (List xEnt) := [[(0, .aload_n 0, 1, 0, 0), (1, .iload_n 1, 1, 0, 0), (2, .putfield 27, 3, 0, 3), (5, .aload_n 0, 1, 0, 0), (6, .iload_n 2, 1, 0, 0), (7, .putfield 31, 3, 0, 4), (10, .iconst 0, 1, 0, 0), (11, .istore 4, 2, 0, 0), (13, .iload 4, 2, 0, 0), (15, .aload_n 0, 1, 0, 0)],
  [(16, .getfield 15, 3, 0, 2), (19, .arraylength, 1, 0, 0), (20, .if_icmp .ge 17, 3, 0, 0), (23, .aload_n 0, 1, 0, 0), (24, .getfield 15, 3, 0, 2), (27, .iload 4, 2, 0, 0), (29, .iconst 0, 1, 0, 0), (30, .iastore, 1, 0, 0), (31, .iinc 4 1, 3, 0, 0)],
  [(34, .goto (-21), 3, 0, 0), (37, .aload_n 0, 1, 0, 0), (38, .iload_n 3, 1, 0, 0), (39, .iconst 0, 1, 0, 0), (40, .invokevirtual 34, 3, 3, 0), (43, .lreturn, 1, 0, 0)]]
def rX0_outcomeIf : xM := (⟨"PulledSignals$Beside", "outcomeIf", "(III)J"⟩, prog_2_method_3_code, tX0_outcomeIf, 0, 5, (some Jvm.ClassFile.FieldType.long), 3, 0, 511, 509, 510, 5)
theorem ok_rX0_outcomeIf : xMok rX0_outcomeIf = true := by decide +kernel
def tX0_outcomeOf : List (List xEnt) := [[(0, .aload_n 0, 1, 0, 0), (1, .getfield 19, 3, 0, 0), (4, .iload_n 1, 1, 0, 0), (5, .invokevirtual 38, 3, 71, 0), (8, .astore_n 3, 1, 0, 0), (9, .aload_n 3, 1, 0, 0), (10, .ifnull 9, 3, 0, 0), (13, .iload_n 2, 1, 0, 0), (14, .bipush 24, 2, 0, 0)],
  [(16, .if_icmp .le 7, 3, 0, 0), (19, .ldc2_w 44, 3, 0, 0), (22, .lreturn, 1, 0, 0), (23, .aload_n 3, 1, 0, 0), (24, .getfield 46, 3, 1, 0), (27, .iconst 1, 1, 0, 0), (28, .if_icmp .ne 24, 3, 0, 0), (31, .iload_n 1, 1, 0, 0)],
  [(32, .aload_n 0, 1, 0, 0), (33, .getfield 27, 3, 0, 3), (36, .if_icmp .ne 11, 3, 0, 0), (39, .aload_n 0, 1, 0, 0), (40, .getfield 31, 3, 0, 4), (43, .i2l, 1, 0, 0), (44, .goto 7, 3, 0, 0), (47, .aload_n 3, 1, 0, 0)],
  [(48, .getfield 51, 3, 1, 7), (51, .lreturn, 1, 0, 0), (52, .aload_n 3, 1, 0, 0), (53, .getfield 55, 3, 1, 8), (56, .astore 4, 2, 0, 0), (58, .aload 4, 2, 0, 0), (60, .ifnull 21, 3, 0, 0), (63, .iload_n 1, 1, 0, 0)],
  [(64, .aload_n 0, 1, 0, 0), (65, .getfield 15, 3, 0, 2), (68, .arraylength, 1, 0, 0), (69, .if_icmp .ge 12, 3, 0, 0), (72, .iload_n 1, 1, 0, 0), (73, .aload_n 0, 1, 0, 0), (74, .getfield 9, 3, 0, 1), (77, .arraylength, 1, 0, 0), (78, .if_icmp .lt 7, 3, 0, 0)],
  [(81, .ldc2_w 44, 3, 0, 0), (84, .lreturn, 1, 0, 0), (85, .aload_n 0, 1, 0, 0), (86, .getfield 15, 3, 0, 2), (89, .iload_n 1, 1, 0, 0), (90, .iaload, 1, 0, 0), (91, .iconst 1, 1, 0, 0), (92, .if_icmp .ne 7, 3, 0, 0), (95, .ldc2_w 59, 3, 1, 0)],
  [(98, .lreturn, 1, 0, 0), (99, .aload_n 0, 1, 0, 0), (100, .getfield 15, 3, 0, 2), (103, .iload_n 1, 1, 0, 0), (104, .iaload, 1, 0, 0), (105, .iconst 2, 1, 0, 0), (106, .if_icmp .ne 10, 3, 0, 0), (109, .aload_n 0, 1, 0, 0), (110, .getfield 9, 3, 0, 1)],
  [(113, .iload_n 1, 1, 0, 0), (114, .laload, 1, 0, 0), (115, .lreturn, 1, 0, 0), (116, .aload_n 0, 1, 0, 0), (117, .getfield 15, 3, 0, 2), (120, .iload_n 1, 1, 0, 0), (121, .iconst 1, 1, 0, 0), (122, .iastore, 1, 0, 0), (123, .aload 4, 2, 0, 0), (125, .invokevirtual 61, 3, 11, 0)],
  [(128, .iconst 0, 1, 0, 0), (129, .istore 5, 2, 0, 0), (131, .iload 5, 2, 0, 0), (133, .sipush 250, 3, 0, 0), (136, .if_icmp .ge 32, 3, 0, 0), (139, .aload 4, 2, 0, 0), (141, .invokevirtual 66, 3, 12, 0)],
  [(144, .ifCond .eq 24, 3, 0, 0), (147, .aload 4, 2, 0, 0), (149, .aload_n 0, 1, 0, 0), (150, .aload 4, 2, 0, 0), (152, .invokevirtual 70, 3, 9, 0), (155, .iload_n 2, 1, 0, 0), (156, .invokevirtual 74, 3, 4, 0), (159, .invokevirtual 77, 3, 13, 0)],
  [(162, .iinc 5 1, 3, 0, 0), (165, .goto (-34), 3, 0, 0), (168, .aload_n 0, 1, 0, 0), (169, .getfield 15, 3, 0, 2), (172, .iload_n 1, 1, 0, 0), (173, .iconst 2, 1, 0, 0), (174, .iastore, 1, 0, 0), (175, .aload_n 0, 1, 0, 0)],
  [(176, .getfield 9, 3, 0, 1), (179, .iload_n 1, 1, 0, 0), (180, .aload 4, 2, 0, 0), (182, .invokevirtual 81, 3, 14, 0), (185, .lastore, 1, 0, 0), (186, .aload_n 0, 1, 0, 0), (187, .getfield 9, 3, 0, 1), (190, .iload_n 1, 1, 0, 0), (191, .laload, 1, 0, 0)],
  [(192, .lreturn, 1, 0, 0)]]
def rX0_outcomeOf : xM := (⟨"PulledSignals$Beside", "outcomeOf", "(II)J"⟩, prog_2_method_4_code, tX0_outcomeOf, 0, 6, (some Jvm.ClassFile.FieldType.long), 2, 0, 516, 514, 100031, 5)
theorem ok_rX0_outcomeOf : xMok rX0_outcomeOf = true := by decide +kernel
def tX0_outcomeRead : List (List xEnt) := [[(0, .aload_n 0, 1, 0, 0), (1, .getfield 19, 3, 0, 0), (4, .iload_n 1, 1, 0, 0), (5, .invokevirtual 38, 3, 71, 0), (8, .astore_n 3, 1, 0, 0), (9, .aload_n 3, 1, 0, 0), (10, .ifnull 21, 3, 0, 0), (13, .aload_n 3, 1, 0, 0), (14, .invokevirtual 84, 3, 7, 0)],
  [(17, .ifCond .eq 14, 3, 0, 0), (20, .aload_n 0, 1, 0, 0), (21, .iload_n 1, 1, 0, 0), (22, .iload_n 2, 1, 0, 0), (23, .iconst 1, 1, 0, 0), (24, .iadd, 1, 0, 0), (25, .invokevirtual 34, 3, 3, 0), (28, .goto 6, 3, 0, 0), (31, .ldc2_w 44, 3, 0, 0)],
  [(34, .lreturn, 1, 0, 0)]]
def rX0_outcomeRead : xM := (⟨"PulledSignals$Beside", "outcomeRead", "(II)J"⟩, prog_2_method_5_code, tX0_outcomeRead, 0, 4, (some Jvm.ClassFile.FieldType.long), 2, 0, 526, 525, 100032, 5)
theorem ok_rX0_outcomeRead : xMok rX0_outcomeRead = true := by decide +kernel
def tX1_init : List (List xEnt) := [[(0, .aload_n 0, 1, 0, 0), (1, .invokespecial 3, 3, 0, 9), (4, .aload_n 0, 1, 0, 0), (5, .new 9, 3, 4, 0), (8, .dup, 1, 0, 0), (9, .bipush 24, 2, 0, 0), (11, .invokespecial 11, 3, 40, 4), (14, .putfield 14, 3, 1, 9)],
  [(17, .return_, 1, 0, 0)]]
def rX1_init : xM := (⟨"PulledSignals$Cell", "<init>", "()V"⟩, prog_3_method_1_code, tX1_init, 1, 1, none, 0, 2, 248, 247, 200000, 8)
theorem ok_rX1_init : xMok rX1_init = true := by decide +kernel
def tX1_become : List (List xEnt) := [[(0, .aload_n 0, 1, 0, 0), (1, .iload_n 1, 1, 0, 0), (2, .putfield 20, 3, 1, 0), (5, .aload_n 0, 1, 0, 0), (6, .iload_n 2, 1, 0, 0), (7, .putfield 24, 3, 1, 1), (10, .aload_n 0, 1, 0, 0), (11, .iconst 0, 1, 0, 0), (12, .putfield 27, 3, 1, 2), (15, .aload_n 0, 1, 0, 0)],
  [(16, .iconst 0, 1, 0, 0), (17, .putfield 31, 3, 1, 3), (20, .aload_n 0, 1, 0, 0), (21, .aload 5, 2, 0, 0), (23, .ifnonnull 7, 3, 0, 0), (26, .iconst 0, 1, 0, 0), (27, .goto 4, 3, 0, 0), (30, .iconst 2, 1, 0, 0), (31, .putfield 34, 3, 1, 4)],
  [(34, .aload_n 0, 1, 0, 0), (35, .lconst 0, 1, 0, 0), (36, .putfield 37, 3, 1, 5), (39, .aload_n 0, 1, 0, 0), (40, .iconst 0, 1, 0, 0), (41, .putfield 41, 3, 1, 6), (44, .aload_n 0, 1, 0, 0), (45, .lload_n 3, 1, 0, 0), (46, .putfield 44, 3, 1, 7)],
  [(49, .aload_n 0, 1, 0, 0), (50, .aload 5, 2, 0, 0), (52, .putfield 47, 3, 1, 8), (55, .aload_n 0, 1, 0, 0), (56, .getfield 14, 3, 1, 9), (59, .invokevirtual 51, 3, 52, 0), (62, .return_, 1, 0, 0)]]
def rX1_become : xM := (⟨"PulledSignals$Cell", "become", "(IIJLPulledSignals$Formula;)V"⟩, prog_3_method_2_code, tX1_become, 1, 6, none, 4, 0, 311, 309, 310, 8)
theorem ok_rX1_become : xMok rX1_become = true := by decide +kernel
def tX1_isReadable : List (List xEnt) := [[(0, .aload_n 0, 1, 0, 0), (1, .getfield 27, 3, 1, 2), (4, .ifCond .ne 23, 3, 0, 0), (7, .aload_n 0, 1, 0, 0), (8, .getfield 20, 3, 1, 0), (11, .iconst 1, 1, 0, 0), (12, .if_icmp .eq 11, 3, 0, 0), (15, .aload_n 0, 1, 0, 0)],
  [(16, .getfield 20, 3, 1, 0), (19, .iconst 3, 1, 0, 0), (20, .if_icmp .ne 7, 3, 0, 0), (23, .iconst 1, 1, 0, 0), (24, .goto 4, 3, 0, 0), (27, .iconst 0, 1, 0, 0), (28, .ireturn, 1, 0, 0)]]
def rX1_isReadable : xM := (⟨"PulledSignals$Cell", "isReadable", "()Z"⟩, prog_3_method_5_code, tX1_isReadable, 1, 1, (some Jvm.ClassFile.FieldType.boolean), 0, 0, 412, 410, 411, 8)
theorem ok_rX1_isReadable : xMok rX1_isReadable = true := by decide +kernel
def tX2_init : List (List xEnt) := [[(0, .aload_n 0, 1, 0, 0), (1, .invokespecial 3, 3, 0, 9), (4, .aload_n 0, 1, 0, 0), (5, .aload_n 1, 1, 0, 0), (6, .invokevirtual 9, 3, 54, 0), (9, .putfield 15, 3, 2, 0), (12, .aload_n 0, 1, 0, 0), (13, .aload_n 2, 1, 0, 0), (14, .invokevirtual 9, 3, 54, 0)],
  [(17, .putfield 21, 3, 2, 1), (20, .aload_n 0, 1, 0, 0), (21, .aload_n 3, 1, 0, 0), (22, .invokevirtual 9, 3, 54, 0), (25, .putfield 24, 3, 2, 2), (28, .aload_n 0, 1, 0, 0), (29, .new 10, 3, 4, 0)],
  [(32, .dup, 1, 0, 0), (33, .iload 4, 2, 0, 0), (35, .invokespecial 27, 3, 40, 4), (38, .putfield 30, 3, 2, 3), (41, .return_, 1, 0, 0)]]
def rX2_init : xM := (⟨"PulledSignals$Formula", "<init>", "(LPulledSignals$Numbers;LPulledSignals$Numbers;LPulledSignals$Numbers;I)V"⟩, prog_4_method_1_code, tX2_init, 2, 5, none, 4, 2, 166, 165, 200000, 20)
theorem ok_rX2_init : xMok rX2_init = true := by decide +kernel
def tX2_asked : List (List xEnt) := [[(0, .aload_n 0, 1, 0, 0), (1, .getfield 37, 3, 2, 6), (4, .ireturn, 1, 0, 0)]]
def rX2_asked : xM := (⟨"PulledSignals$Formula", "asked", "()I"⟩, prog_4_method_3_code, tX2_asked, 2, 1, (some Jvm.ClassFile.FieldType.int), 0, 0, 404, 402, 403, 20)
theorem ok_rX2_asked : xMok rX2_asked = true := by decide +kernel
def tX2_isTracked : List (List xEnt) := [[(0, .aload_n 0, 1, 0, 0), (1, .getfield 41, 3, 2, 7), (4, .ireturn, 1, 0, 0)]]
def rX2_isTracked : xM := (⟨"PulledSignals$Formula", "isTracked", "()Z"⟩, prog_4_method_4_code, tX2_isTracked, 2, 1, (some Jvm.ClassFile.FieldType.boolean), 0, 0, 417, 415, 416, 20)
theorem ok_rX2_isTracked : xMok rX2_isTracked = true := by decide +kernel
def tX2_start : List (List xEnt) := [[(0, .aload_n 0, 1, 0, 0), (1, .iconst 0, 1, 0, 0), (2, .putfield 45, 3, 2, 4), (5, .aload_n 0, 1, 0, 0), (6, .lconst 0, 1, 0, 0), (7, .putfield 48, 3, 2, 5), (10, .aload_n 0, 1, 0, 0), (11, .getfield 30, 3, 2, 3), (14, .invokevirtual 52, 3, 52, 0)],
  [(17, .return_, 1, 0, 0)]]
def rX2_start : xM := (⟨"PulledSignals$Formula", "start", "()V"⟩, prog_4_method_5_code, tX2_start, 2, 1, none, 0, 0, 376, 374, 375, 20)
theorem ok_rX2_start : xMok rX2_start = true := by decide +kernel
def tX2_goesOn : List (List xEnt) := [[(0, .iconst 0, 1, 0, 0), (1, .istore_n 1, 1, 0, 0), (2, .iload_n 1, 1, 0, 0), (3, .sipush 250, 3, 0, 0), (6, .if_icmp .ge 106, 3, 0, 0), (9, .aload_n 0, 1, 0, 0), (10, .getfield 45, 3, 2, 4), (13, .aload_n 0, 1, 0, 0), (14, .getfield 15, 3, 2, 0)],
  [(17, .invokevirtual 55, 3, 41, 0), (20, .if_icmp .ge 92, 3, 0, 0), (23, .aload_n 0, 1, 0, 0), (24, .getfield 48, 3, 2, 5), (27, .lconst 0, 1, 0, 0), (28, .lcmp, 1, 0, 0), (29, .ifCond .ne 83, 3, 0, 0)],
  [(32, .aload_n 0, 1, 0, 0), (33, .getfield 15, 3, 2, 0), (36, .aload_n 0, 1, 0, 0), (37, .getfield 45, 3, 2, 4), (40, .invokevirtual 33, 3, 43, 0), (43, .istore_n 2, 1, 0, 0), (44, .aload_n 0, 1, 0, 0), (45, .getfield 21, 3, 2, 1)],
  [(48, .aload_n 0, 1, 0, 0), (49, .getfield 45, 3, 2, 4), (52, .invokevirtual 33, 3, 43, 0), (55, .istore_n 3, 1, 0, 0), (56, .aload_n 0, 1, 0, 0), (57, .dup, 1, 0, 0), (58, .getfield 45, 3, 2, 4), (61, .iconst 1, 1, 0, 0), (62, .iadd, 1, 0, 0), (63, .putfield 45, 3, 2, 4)],
  [(66, .iload_n 2, 1, 0, 0), (67, .bipush 11, 2, 0, 0), (69, .if_icmp .eq 9, 3, 0, 0), (72, .iload_n 2, 1, 0, 0), (73, .bipush 12, 2, 0, 0), (75, .if_icmp .ne 25, 3, 0, 0), (78, .aload_n 0, 1, 0, 0), (79, .iload_n 3, 1, 0, 0)],
  [(80, .putfield 37, 3, 2, 6), (83, .aload_n 0, 1, 0, 0), (84, .iload_n 2, 1, 0, 0), (85, .bipush 11, 2, 0, 0), (87, .if_icmp .ne 7, 3, 0, 0), (90, .iconst 1, 1, 0, 0), (91, .goto 4, 3, 0, 0), (94, .iconst 0, 1, 0, 0), (95, .putfield 41, 3, 2, 7)],
  [(98, .iconst 1, 1, 0, 0), (99, .ireturn, 1, 0, 0), (100, .aload_n 0, 1, 0, 0), (101, .iload_n 2, 1, 0, 0), (102, .iload_n 3, 1, 0, 0), (103, .invokevirtual 59, 3, 15, 0), (106, .iinc 1 1, 3, 0, 0), (109, .goto (-107), 3, 0, 0)],
  [(112, .iconst 0, 1, 0, 0), (113, .ireturn, 1, 0, 0)]]
def rX2_goesOn : xM := (⟨"PulledSignals$Formula", "goesOn", "()Z"⟩, prog_4_method_6_code, tX2_goesOn, 2, 4, (some Jvm.ClassFile.FieldType.boolean), 0, 0, 381, 379, 380, 20)
theorem ok_rX2_goesOn : xMok rX2_goesOn = true := by decide +kernel
def tX2_give : List (List xEnt) := [[(0, .lload_n 1, 1, 0, 0), (1, .invokestatic 63, 3, 107, 3), (4, .ifCond .eq 11, 3, 0, 0), (7, .aload_n 0, 1, 0, 0), (8, .lload_n 1, 1, 0, 0), (9, .putfield 48, 3, 2, 5), (12, .goto 12, 3, 0, 0), (15, .aload_n 0, 1, 0, 0)],
  [(16, .getfield 30, 3, 2, 3), (19, .lload_n 1, 1, 0, 0), (20, .l2i, 1, 0, 0), (21, .invokevirtual 67, 3, 47, 0), (24, .return_, 1, 0, 0)]]
def rX2_give : xM := (⟨"PulledSignals$Formula", "give", "(J)V"⟩, prog_4_method_7_code, tX2_give, 2, 3, none, 1, 0, 427, 425, 426, 20)
theorem ok_rX2_give : xMok rX2_give = true := by decide +kernel
def tX2_outcome : List (List xEnt) := [[(0, .aload_n 0, 1, 0, 0), (1, .getfield 48, 3, 2, 5), (4, .lconst 0, 1, 0, 0), (5, .lcmp, 1, 0, 0), (6, .ifCond .eq 10, 3, 0, 0), (9, .aload_n 0, 1, 0, 0), (10, .getfield 48, 3, 2, 5), (13, .goto 11, 3, 0, 0)],
  [(16, .aload_n 0, 1, 0, 0), (17, .getfield 30, 3, 2, 3), (20, .invokevirtual 70, 3, 44, 0), (23, .i2l, 1, 0, 0), (24, .lreturn, 1, 0, 0)]]
def rX2_outcome : xM := (⟨"PulledSignals$Formula", "outcome", "()J"⟩, prog_4_method_8_code, tX2_outcome, 2, 1, (some Jvm.ClassFile.FieldType.long), 0, 0, 435, 433, 434, 20)
theorem ok_rX2_outcome : xMok rX2_outcome = true := by decide +kernel
def tX2_takeStep : List (List xEnt) := [[(0, .iload_n 1, 1, 0, 0), (1, .tableswitch 94 9 14 #[76, 39, 94, 94, 50, 58], 39, 0, 0)],
  [],
  [(40, .aload_n 0, 1, 0, 0), (41, .getfield 30, 3, 2, 3), (44, .iload_n 2, 1, 0, 0), (45, .invokevirtual 67, 3, 47, 0)],
  [(48, .goto 52, 3, 0, 0), (51, .aload_n 0, 1, 0, 0), (52, .iload_n 2, 1, 0, 0), (53, .putfield 45, 3, 2, 4), (56, .goto 44, 3, 0, 0), (59, .aload_n 0, 1, 0, 0), (60, .getfield 30, 3, 2, 3), (63, .invokevirtual 73, 3, 45, 0)],
  [(66, .ifCond .ne 34, 3, 0, 0), (69, .aload_n 0, 1, 0, 0), (70, .iload_n 2, 1, 0, 0), (71, .putfield 45, 3, 2, 4), (74, .goto 26, 3, 0, 0), (77, .aload_n 0, 1, 0, 0), (78, .getfield 30, 3, 2, 3)],
  [(81, .aload_n 0, 1, 0, 0), (82, .getfield 30, 3, 2, 3), (85, .invokevirtual 73, 3, 45, 0), (88, .ineg, 1, 0, 0), (89, .invokevirtual 67, 3, 47, 0), (92, .goto 8, 3, 0, 0), (95, .aload_n 0, 1, 0, 0)],
  [(96, .iload_n 1, 1, 0, 0), (97, .invokevirtual 76, 3, 16, 0), (100, .return_, 1, 0, 0)]]
def rX2_takeStep : xM := (⟨"PulledSignals$Formula", "takeStep", "(II)V"⟩, prog_4_method_9_code, tX2_takeStep, 2, 3, none, 2, 0, 387, 386, 100026, 20)
theorem ok_rX2_takeStep : xMok rX2_takeStep = true := by decide +kernel
def tX2_join : List (List xEnt) := [[(0, .aload_n 0, 1, 0, 0), (1, .getfield 30, 3, 2, 3), (4, .invokevirtual 73, 3, 45, 0), (7, .istore_n 2, 1, 0, 0), (8, .aload_n 0, 1, 0, 0), (9, .getfield 30, 3, 2, 3), (12, .invokevirtual 73, 3, 45, 0), (15, .istore_n 3, 1, 0, 0)],
  [(16, .iload_n 2, 1, 0, 0), (17, .ifCond .ne 23, 3, 0, 0), (20, .iload_n 1, 1, 0, 0), (21, .iconst 3, 1, 0, 0), (22, .if_icmp .eq 8, 3, 0, 0), (25, .iload_n 1, 1, 0, 0), (26, .iconst 4, 1, 0, 0), (27, .if_icmp .ne 13, 3, 0, 0), (30, .aload_n 0, 1, 0, 0), (31, .ldc2_w 79, 3, 2, 0)],
  [(34, .putfield 48, 3, 2, 5), (37, .goto 16, 3, 0, 0), (40, .aload_n 0, 1, 0, 0), (41, .getfield 30, 3, 2, 3), (44, .iload_n 1, 1, 0, 0), (45, .iload_n 3, 1, 0, 0), (46, .iload_n 2, 1, 0, 0), (47, .invokestatic 81, 3, 108, 3)],
  [(50, .invokevirtual 67, 3, 47, 0), (53, .return_, 1, 0, 0)]]
def rX2_join : xM := (⟨"PulledSignals$Formula", "join", "(I)V"⟩, prog_4_method_10_code, tX2_join, 2, 4, none, 1, 0, 396, 395, 100027, 20)
theorem ok_rX2_join : xMok rX2_join = true := by decide +kernel
def tX3_init : List (List xEnt) := [[(0, .aload_n 0, 1, 0, 0), (1, .invokespecial 3, 3, 0, 9), (4, .aload_n 0, 1, 0, 0), (5, .new 9, 3, 4, 0), (8, .dup, 1, 0, 0), (9, .sipush 250, 3, 0, 0), (12, .invokespecial 11, 3, 40, 4), (15, .putfield 14, 3, 3, 0)],
  [(18, .aload_n 0, 1, 0, 0), (19, .new 9, 3, 4, 0), (22, .dup, 1, 0, 0), (23, .sipush 250, 3, 0, 0), (26, .invokespecial 11, 3, 40, 4), (29, .putfield 20, 3, 3, 1)],
  [(32, .aload_n 0, 1, 0, 0), (33, .new 9, 3, 4, 0), (36, .dup, 1, 0, 0), (37, .sipush 750, 3, 0, 0), (40, .invokespecial 11, 3, 40, 4), (43, .putfield 23, 3, 3, 2), (46, .aload_n 0, 1, 0, 0), (47, .new 9, 3, 4, 0)],
  [(50, .dup, 1, 0, 0), (51, .sipush 250, 3, 0, 0), (54, .invokespecial 11, 3, 40, 4), (57, .putfield 26, 3, 3, 3), (60, .aload_n 0, 1, 0, 0), (61, .new 9, 3, 4, 0)],
  [(64, .dup, 1, 0, 0), (65, .sipush 250, 3, 0, 0), (68, .invokespecial 11, 3, 40, 4), (71, .putfield 29, 3, 3, 4), (74, .aload_n 0, 1, 0, 0), (75, .new 9, 3, 4, 0), (78, .dup, 1, 0, 0), (79, .sipush 250, 3, 0, 0)],
  [(82, .invokespecial 11, 3, 40, 4), (85, .putfield 32, 3, 3, 5), (88, .aload_n 0, 1, 0, 0), (89, .new 9, 3, 4, 0), (92, .dup, 1, 0, 0), (93, .sipush 250, 3, 0, 0)],
  [(96, .invokespecial 11, 3, 40, 4), (99, .putfield 35, 3, 3, 6), (102, .return_, 1, 0, 0)]]
def rX3_init : xM := (⟨"PulledSignals$FormulaReader", "<init>", "()V"⟩, prog_5_method_1_code, tX3_init, 3, 1, none, 0, 2, 721, 720, 200000, 6)
theorem ok_rX3_init : xMok rX3_init = true := by decide +kernel
def tX3_fault : List (List xEnt) := [[(0, .aload_n 0, 1, 0, 0), (1, .getfield 38, 3, 3, 10), (4, .ireturn, 1, 0, 0)]]
def rX3_fault : xM := (⟨"PulledSignals$FormulaReader", "fault", "()I"⟩, prog_5_method_2_code, tX3_fault, 3, 1, (some Jvm.ClassFile.FieldType.int), 0, 0, 230, 228, 229, 6)
theorem ok_rX3_fault : xMok rX3_fault = true := by decide +kernel
def tX3_take : List (List xEnt) := [[(0, .aload_n 0, 1, 0, 0), (1, .iload_n 2, 1, 0, 0), (2, .invokevirtual 42, 3, 20, 0), (5, .aload_n 1, 1, 0, 0), (6, .invokevirtual 45, 3, 41, 0), (9, .istore_n 3, 1, 0, 0), (10, .iconst 0, 1, 0, 0), (11, .istore 4, 2, 0, 0), (13, .iload 4, 2, 0, 0), (15, .iload_n 3, 1, 0, 0)],
  [(16, .if_icmp .ge 63, 3, 0, 0), (19, .aload_n 0, 1, 0, 0), (20, .getfield 49, 3, 3, 9), (23, .iload_n 3, 1, 0, 0), (24, .if_icmp .ge 55, 3, 0, 0), (27, .aload_n 0, 1, 0, 0), (28, .getfield 38, 3, 3, 10), (31, .iconst (-1), 1, 0, 0)],
  [(32, .if_icmp .ne 47, 3, 0, 0), (35, .aload_n 0, 1, 0, 0), (36, .getfield 52, 3, 3, 11), (39, .ifCond .eq 11, 3, 0, 0), (42, .aload_n 0, 1, 0, 0), (43, .aload_n 1, 1, 0, 0), (44, .invokevirtual 56, 3, 21, 0), (47, .goto 15, 3, 0, 0)],
  [(50, .aload_n 0, 1, 0, 0), (51, .aload_n 1, 1, 0, 0), (52, .aload_n 0, 1, 0, 0), (53, .getfield 49, 3, 3, 9), (56, .invokevirtual 60, 3, 43, 0), (59, .invokevirtual 63, 3, 29, 0), (62, .aload_n 0, 1, 0, 0), (63, .getfield 66, 3, 3, 12)],
  [(66, .ifCond .eq 7, 3, 0, 0), (69, .aload_n 0, 1, 0, 0), (70, .invokevirtual 69, 3, 28, 0), (73, .iinc 4 1, 3, 0, 0), (76, .goto (-63), 3, 0, 0), (79, .aload_n 0, 1, 0, 0)],
  [(80, .getfield 38, 3, 3, 10), (83, .iconst (-1), 1, 0, 0), (84, .if_icmp .eq 5, 3, 0, 0), (87, .aconst_null, 1, 0, 0), (88, .areturn, 1, 0, 0), (89, .aload_n 0, 1, 0, 0), (90, .iconst 1, 1, 0, 0), (91, .invokevirtual 72, 3, 30, 0), (94, .aload_n 0, 1, 0, 0), (95, .getfield 52, 3, 3, 11)],
  [(98, .ifCond .ne 13, 3, 0, 0), (101, .aload_n 0, 1, 0, 0), (102, .getfield 26, 3, 3, 3), (105, .invokevirtual 45, 3, 41, 0), (108, .ifCond .le 10, 3, 0, 0), (111, .aload_n 0, 1, 0, 0)],
  [(112, .iload_n 3, 1, 0, 0), (113, .putfield 38, 3, 3, 10), (116, .aconst_null, 1, 0, 0), (117, .areturn, 1, 0, 0), (118, .new 75, 3, 2, 0), (121, .dup, 1, 0, 0), (122, .aload_n 0, 1, 0, 0), (123, .getfield 14, 3, 3, 0), (126, .aload_n 0, 1, 0, 0), (127, .getfield 20, 3, 3, 1)],
  [(130, .aload_n 0, 1, 0, 0), (131, .getfield 23, 3, 3, 2), (134, .aload_n 0, 1, 0, 0), (135, .getfield 77, 3, 3, 7), (138, .invokespecial 80, 3, 8, 4), (141, .areturn, 1, 0, 0)]]
def rX3_take : xM := (⟨"PulledSignals$FormulaReader", "take", "(LPulledSignals$Numbers;I)LPulledSignals$Formula;"⟩, prog_5_method_3_code, tX3_take, 3, 5, (some (Jvm.ClassFile.FieldType.object "PulledSignals$Formula")), 2, 0, 49, 47, 48, 6)
theorem ok_rX3_take : xMok rX3_take = true := by decide +kernel
def tX3_start : List (List xEnt) := [[(0, .aload_n 0, 1, 0, 0), (1, .getfield 14, 3, 3, 0), (4, .invokevirtual 83, 3, 52, 0), (7, .aload_n 0, 1, 0, 0), (8, .getfield 20, 3, 3, 1), (11, .invokevirtual 83, 3, 52, 0), (14, .aload_n 0, 1, 0, 0), (15, .getfield 23, 3, 3, 2)],
  [(18, .invokevirtual 83, 3, 52, 0), (21, .aload_n 0, 1, 0, 0), (22, .getfield 26, 3, 3, 3), (25, .invokevirtual 83, 3, 52, 0), (28, .aload_n 0, 1, 0, 0), (29, .getfield 29, 3, 3, 4)],
  [(32, .invokevirtual 83, 3, 52, 0), (35, .aload_n 0, 1, 0, 0), (36, .getfield 32, 3, 3, 5), (39, .invokevirtual 83, 3, 52, 0), (42, .aload_n 0, 1, 0, 0), (43, .getfield 35, 3, 3, 6), (46, .invokevirtual 83, 3, 52, 0)],
  [(49, .aload_n 0, 1, 0, 0), (50, .iconst 0, 1, 0, 0), (51, .putfield 77, 3, 3, 7), (54, .aload_n 0, 1, 0, 0), (55, .iload_n 1, 1, 0, 0), (56, .putfield 86, 3, 3, 8), (59, .aload_n 0, 1, 0, 0), (60, .iconst 0, 1, 0, 0), (61, .putfield 49, 3, 3, 9)],
  [(64, .aload_n 0, 1, 0, 0), (65, .iconst (-1), 1, 0, 0), (66, .putfield 38, 3, 3, 10), (69, .aload_n 0, 1, 0, 0), (70, .iconst 1, 1, 0, 0), (71, .putfield 52, 3, 3, 11), (74, .aload_n 0, 1, 0, 0), (75, .iconst 0, 1, 0, 0), (76, .putfield 66, 3, 3, 12), (79, .return_, 1, 0, 0)]]
def rX3_start : xM := (⟨"PulledSignals$FormulaReader", "start", "(I)V"⟩, prog_5_method_4_code, tX3_start, 3, 2, none, 1, 0, 54, 52, 100002, 6)
theorem ok_rX3_start : xMok rX3_start = true := by decide +kernel
def tX3_readPart : List (List xEnt) := [[(0, .aload_n 1, 1, 0, 0), (1, .aload_n 0, 1, 0, 0), (2, .getfield 49, 3, 3, 9), (5, .invokevirtual 60, 3, 43, 0), (8, .istore_n 2, 1, 0, 0), (9, .iload_n 2, 1, 0, 0), (10, .lookupswitch 150 #[(40, 87), (45, 50), (91, 106), (94, 134), (126, 142)], 50, 0, 0)],
  [],
  [],
  [(60, .aload_n 0, 1, 0, 0), (61, .bipush 9, 2, 0, 0), (63, .invokevirtual 89, 3, 33, 0)],
  [(66, .aload_n 0, 1, 0, 0), (67, .getfield 23, 3, 3, 2), (70, .bipush 40, 2, 0, 0), (72, .invokevirtual 92, 3, 47, 0), (75, .aload_n 0, 1, 0, 0), (76, .getfield 23, 3, 3, 2), (79, .bipush 45, 2, 0, 0)],
  [(81, .invokevirtual 92, 3, 47, 0), (84, .aload_n 0, 1, 0, 0), (85, .dup, 1, 0, 0), (86, .getfield 49, 3, 3, 9), (89, .iconst 1, 1, 0, 0), (90, .iadd, 1, 0, 0), (91, .putfield 49, 3, 3, 9), (94, .goto 72, 3, 0, 0)],
  [(97, .aload_n 0, 1, 0, 0), (98, .bipush 20, 2, 0, 0), (100, .invokevirtual 89, 3, 33, 0), (103, .aload_n 0, 1, 0, 0), (104, .dup, 1, 0, 0), (105, .getfield 49, 3, 3, 9), (108, .iconst 1, 1, 0, 0), (109, .iadd, 1, 0, 0), (110, .putfield 49, 3, 3, 9)],
  [(113, .goto 53, 3, 0, 0), (116, .aload_n 0, 1, 0, 0), (117, .bipush 21, 2, 0, 0), (119, .invokevirtual 89, 3, 33, 0), (122, .aload_n 0, 1, 0, 0), (123, .getfield 23, 3, 3, 2), (126, .bipush 91, 2, 0, 0)],
  [(128, .invokevirtual 92, 3, 47, 0), (131, .aload_n 0, 1, 0, 0), (132, .dup, 1, 0, 0), (133, .getfield 49, 3, 3, 9), (136, .iconst 1, 1, 0, 0), (137, .iadd, 1, 0, 0), (138, .putfield 49, 3, 3, 9), (141, .goto 25, 3, 0, 0)],
  [(144, .aload_n 0, 1, 0, 0), (145, .aload_n 1, 1, 0, 0), (146, .invokevirtual 95, 3, 22, 0), (149, .goto 17, 3, 0, 0), (152, .aload_n 0, 1, 0, 0), (153, .aload_n 1, 1, 0, 0), (154, .invokevirtual 98, 3, 23, 0), (157, .goto 9, 3, 0, 0)],
  [(160, .aload_n 0, 1, 0, 0), (161, .aload_n 1, 1, 0, 0), (162, .iload_n 2, 1, 0, 0), (163, .invokevirtual 101, 3, 24, 0), (166, .return_, 1, 0, 0)]]
def rX3_readPart : xM := (⟨"PulledSignals$FormulaReader", "readPart", "(LPulledSignals$Numbers;)V"⟩, prog_5_method_5_code, tX3_readPart, 3, 3, none, 1, 0, 66, 65, 100003, 6)
theorem ok_rX3_readPart : xMok rX3_readPart = true := by decide +kernel
def tX3_readGreater : List (List xEnt) := [[(0, .aload_n 1, 1, 0, 0), (1, .aload_n 0, 1, 0, 0), (2, .getfield 49, 3, 3, 9), (5, .iconst 1, 1, 0, 0), (6, .iadd, 1, 0, 0), (7, .invokevirtual 60, 3, 43, 0), (10, .bipush 40, 2, 0, 0), (12, .if_icmp .eq 14, 3, 0, 0), (15, .aload_n 0, 1, 0, 0)],
  [(16, .aload_n 0, 1, 0, 0), (17, .getfield 49, 3, 3, 9), (20, .iconst 1, 1, 0, 0), (21, .iadd, 1, 0, 0), (22, .putfield 38, 3, 3, 10), (25, .return_, 1, 0, 0), (26, .aload_n 0, 1, 0, 0), (27, .bipush 24, 2, 0, 0), (29, .invokevirtual 89, 3, 33, 0)],
  [(32, .aload_n 0, 1, 0, 0), (33, .getfield 23, 3, 3, 2), (36, .bipush 94, 2, 0, 0), (38, .invokevirtual 92, 3, 47, 0), (41, .aload_n 0, 1, 0, 0), (42, .getfield 23, 3, 3, 2), (45, .bipush 40, 2, 0, 0), (47, .invokevirtual 92, 3, 47, 0)],
  [(50, .aload_n 0, 1, 0, 0), (51, .dup, 1, 0, 0), (52, .getfield 49, 3, 3, 9), (55, .iconst 2, 1, 0, 0), (56, .iadd, 1, 0, 0), (57, .putfield 49, 3, 3, 9), (60, .return_, 1, 0, 0)]]
def rX3_readGreater : xM := (⟨"PulledSignals$FormulaReader", "readGreater", "(LPulledSignals$Numbers;)V"⟩, prog_5_method_6_code, tX3_readGreater, 3, 2, none, 1, 0, 82, 81, 100005, 6)
theorem ok_rX3_readGreater : xMok rX3_readGreater = true := by decide +kernel
def tX3_readUntracked : List (List xEnt) := [[(0, .aload_n 1, 1, 0, 0), (1, .aload_n 0, 1, 0, 0), (2, .getfield 49, 3, 3, 9), (5, .iconst 1, 1, 0, 0), (6, .iadd, 1, 0, 0), (7, .invokevirtual 60, 3, 43, 0), (10, .istore_n 2, 1, 0, 0), (11, .aload_n 0, 1, 0, 0), (12, .iload_n 2, 1, 0, 0), (13, .invokevirtual 105, 3, 26, 0)],
  [(16, .ifCond .ne 14, 3, 0, 0), (19, .aload_n 0, 1, 0, 0), (20, .aload_n 0, 1, 0, 0), (21, .getfield 49, 3, 3, 9), (24, .iconst 1, 1, 0, 0), (25, .iadd, 1, 0, 0), (26, .putfield 38, 3, 3, 10), (29, .return_, 1, 0, 0), (30, .aload_n 0, 1, 0, 0), (31, .getfield 35, 3, 3, 6)],
  [(34, .aload_n 0, 1, 0, 0), (35, .getfield 23, 3, 3, 2), (38, .invokevirtual 45, 3, 41, 0), (41, .invokevirtual 92, 3, 47, 0), (44, .aload_n 0, 1, 0, 0), (45, .getfield 23, 3, 3, 2)],
  [(48, .bipush 126, 2, 0, 0), (50, .invokevirtual 92, 3, 47, 0), (53, .aload_n 0, 1, 0, 0), (54, .getfield 23, 3, 3, 2), (57, .iload_n 2, 1, 0, 0), (58, .invokevirtual 92, 3, 47, 0), (61, .aload_n 0, 1, 0, 0), (62, .dup, 1, 0, 0), (63, .getfield 49, 3, 3, 9)],
  [(66, .iconst 2, 1, 0, 0), (67, .iadd, 1, 0, 0), (68, .putfield 49, 3, 3, 9), (71, .aload_n 0, 1, 0, 0), (72, .bipush 12, 2, 0, 0), (74, .iload_n 2, 1, 0, 0), (75, .bipush 97, 2, 0, 0), (77, .isub, 1, 0, 0), (78, .invokevirtual 109, 3, 36, 0)],
  [(81, .aload_n 0, 1, 0, 0), (82, .iconst 1, 1, 0, 0), (83, .putfield 66, 3, 3, 12), (86, .return_, 1, 0, 0)]]
def rX3_readUntracked : xM := (⟨"PulledSignals$FormulaReader", "readUntracked", "(LPulledSignals$Numbers;)V"⟩, prog_5_method_7_code, tX3_readUntracked, 3, 3, none, 1, 0, 86, 85, 100006, 6)
theorem ok_rX3_readUntracked : xMok rX3_readUntracked = true := by decide +kernel
def tX3_readPlainPart : List (List xEnt) := [[(0, .aload_n 0, 1, 0, 0), (1, .iload_n 2, 1, 0, 0), (2, .invokevirtual 105, 3, 26, 0), (5, .ifCond .eq 53, 3, 0, 0), (8, .aload_n 0, 1, 0, 0), (9, .getfield 35, 3, 3, 6), (12, .aload_n 0, 1, 0, 0), (13, .getfield 23, 3, 3, 2)],
  [(16, .invokevirtual 45, 3, 41, 0), (19, .invokevirtual 92, 3, 47, 0), (22, .aload_n 0, 1, 0, 0), (23, .getfield 23, 3, 3, 2), (26, .iload_n 2, 1, 0, 0), (27, .invokevirtual 92, 3, 47, 0), (30, .aload_n 0, 1, 0, 0), (31, .dup, 1, 0, 0)],
  [(32, .getfield 49, 3, 3, 9), (35, .iconst 1, 1, 0, 0), (36, .iadd, 1, 0, 0), (37, .putfield 49, 3, 3, 9), (40, .aload_n 0, 1, 0, 0), (41, .bipush 11, 2, 0, 0), (43, .iload_n 2, 1, 0, 0), (44, .bipush 97, 2, 0, 0), (46, .isub, 1, 0, 0), (47, .invokevirtual 109, 3, 36, 0)],
  [(50, .aload_n 0, 1, 0, 0), (51, .iconst 1, 1, 0, 0), (52, .putfield 66, 3, 3, 12), (55, .goto 51, 3, 0, 0), (58, .iload_n 2, 1, 0, 0), (59, .invokestatic 113, 3, 27, 2), (62, .ifCond .eq 36, 3, 0, 0)],
  [(65, .aload_n 0, 1, 0, 0), (66, .getfield 35, 3, 3, 6), (69, .aload_n 0, 1, 0, 0), (70, .getfield 23, 3, 3, 2), (73, .invokevirtual 45, 3, 41, 0), (76, .invokevirtual 92, 3, 47, 0), (79, .aload_n 0, 1, 0, 0)],
  [(80, .bipush 10, 2, 0, 0), (82, .aload_n 0, 1, 0, 0), (83, .aload_n 1, 1, 0, 0), (84, .invokevirtual 116, 3, 25, 0), (87, .invokevirtual 109, 3, 36, 0), (90, .aload_n 0, 1, 0, 0), (91, .iconst 1, 1, 0, 0), (92, .putfield 66, 3, 3, 12), (95, .goto 11, 3, 0, 0)],
  [(98, .aload_n 0, 1, 0, 0), (99, .aload_n 0, 1, 0, 0), (100, .getfield 49, 3, 3, 9), (103, .putfield 38, 3, 3, 10), (106, .return_, 1, 0, 0)]]
def rX3_readPlainPart : xM := (⟨"PulledSignals$FormulaReader", "readPlainPart", "(LPulledSignals$Numbers;I)V"⟩, prog_5_method_8_code, tX3_readPlainPart, 3, 3, none, 2, 0, 98, 97, 100009, 6)
theorem ok_rX3_readPlainPart : xMok rX3_readPlainPart = true := by decide +kernel
def tX3_readNumber : List (List xEnt) := [[(0, .iconst 0, 1, 0, 0), (1, .istore_n 2, 1, 0, 0), (2, .iconst 0, 1, 0, 0), (3, .istore_n 3, 1, 0, 0), (4, .iload_n 3, 1, 0, 0), (5, .iconst 3, 1, 0, 0), (6, .if_icmp .ge 65, 3, 0, 0), (9, .aload_n 1, 1, 0, 0), (10, .aload_n 0, 1, 0, 0), (11, .getfield 49, 3, 3, 9), (14, .invokevirtual 60, 3, 43, 0)],
  [(17, .invokestatic 113, 3, 27, 2), (20, .ifCond .eq 51, 3, 0, 0), (23, .iload_n 2, 1, 0, 0), (24, .bipush 10, 2, 0, 0), (26, .imul, 1, 0, 0), (27, .aload_n 1, 1, 0, 0), (28, .aload_n 0, 1, 0, 0), (29, .getfield 49, 3, 3, 9)],
  [(32, .invokevirtual 60, 3, 43, 0), (35, .iadd, 1, 0, 0), (36, .bipush 48, 2, 0, 0), (38, .isub, 1, 0, 0), (39, .istore_n 2, 1, 0, 0), (40, .aload_n 0, 1, 0, 0), (41, .getfield 23, 3, 3, 2), (44, .aload_n 1, 1, 0, 0), (45, .aload_n 0, 1, 0, 0), (46, .getfield 49, 3, 3, 9)],
  [(49, .invokevirtual 60, 3, 43, 0), (52, .invokevirtual 92, 3, 47, 0), (55, .aload_n 0, 1, 0, 0), (56, .dup, 1, 0, 0), (57, .getfield 49, 3, 3, 9), (60, .iconst 1, 1, 0, 0), (61, .iadd, 1, 0, 0), (62, .putfield 49, 3, 3, 9)],
  [(65, .iinc 3 1, 3, 0, 0), (68, .goto (-64), 3, 0, 0), (71, .iload_n 2, 1, 0, 0), (72, .ireturn, 1, 0, 0)]]
def rX3_readNumber : xM := (⟨"PulledSignals$FormulaReader", "readNumber", "(LPulledSignals$Numbers;)I"⟩, prog_5_method_9_code, tX3_readNumber, 3, 4, (some Jvm.ClassFile.FieldType.int), 1, 0, 105, 104, 100010, 6)
theorem ok_rX3_readNumber : xMok rX3_readNumber = true := by decide +kernel
def tX3_isLetter : List (List xEnt) := [[(0, .iload_n 1, 1, 0, 0), (1, .bipush 97, 2, 0, 0), (3, .if_icmp .lt 18, 3, 0, 0), (6, .iload_n 1, 1, 0, 0), (7, .bipush 97, 2, 0, 0), (9, .aload_n 0, 1, 0, 0), (10, .getfield 86, 3, 3, 8), (13, .iadd, 1, 0, 0), (14, .if_icmp .ge 7, 3, 0, 0)],
  [(17, .iconst 1, 1, 0, 0), (18, .goto 4, 3, 0, 0), (21, .iconst 0, 1, 0, 0), (22, .ireturn, 1, 0, 0)]]
def rX3_isLetter : xM := (⟨"PulledSignals$FormulaReader", "isLetter", "(I)Z"⟩, prog_5_method_10_code, tX3_isLetter, 3, 2, (some Jvm.ClassFile.FieldType.boolean), 1, 0, 90, 89, 100007, 6)
theorem ok_rX3_isLetter : xMok rX3_isLetter = true := by decide +kernel
def tX3_isDigit : List (List xEnt) := [[(0, .iload_n 0, 1, 0, 0), (1, .bipush 48, 2, 0, 0), (3, .if_icmp .lt 13, 3, 0, 0), (6, .iload_n 0, 1, 0, 0), (7, .bipush 57, 2, 0, 0), (9, .if_icmp .gt 7, 3, 0, 0), (12, .iconst 1, 1, 0, 0), (13, .goto 4, 3, 0, 0)],
  [(16, .iconst 0, 1, 0, 0), (17, .ireturn, 1, 0, 0)]]
def rX3_isDigit : xM := (⟨"PulledSignals$FormulaReader", "isDigit", "(I)Z"⟩, prog_5_method_11_code, tX3_isDigit, 3, 1, (some Jvm.ClassFile.FieldType.boolean), 1, 1, 101, 100, 200000, 6)
theorem ok_rX3_isDigit : xMok rX3_isDigit = true := by decide +kernel
def tX3_endPart : List (List xEnt) := [[(0, .aload_n 0, 1, 0, 0), (1, .iconst 0, 1, 0, 0), (2, .putfield 66, 3, 3, 12), (5, .aload_n 0, 1, 0, 0), (6, .aload_n 0, 1, 0, 0), (7, .getfield 77, 3, 3, 7), (10, .aload_n 0, 1, 0, 0), (11, .getfield 35, 3, 3, 6), (14, .invokevirtual 45, 3, 41, 0)],
  [(17, .invokestatic 120, 3, 0, 7), (20, .putfield 77, 3, 3, 7), (23, .iconst 0, 1, 0, 0), (24, .istore_n 1, 1, 0, 0), (25, .iload_n 1, 1, 0, 0), (26, .sipush 250, 3, 0, 0), (29, .if_icmp .ge 41, 3, 0, 0)],
  [(32, .aload_n 0, 1, 0, 0), (33, .getfield 26, 3, 3, 3), (36, .invokevirtual 126, 3, 44, 0), (39, .bipush 9, 2, 0, 0), (41, .if_icmp .ne 29, 3, 0, 0), (44, .aload_n 0, 1, 0, 0), (45, .bipush 9, 2, 0, 0), (47, .iconst 0, 1, 0, 0)],
  [(48, .invokevirtual 109, 3, 36, 0), (51, .aload_n 0, 1, 0, 0), (52, .getfield 23, 3, 3, 2), (55, .bipush 41, 2, 0, 0), (57, .invokevirtual 92, 3, 47, 0), (60, .aload_n 0, 1, 0, 0), (61, .invokevirtual 129, 3, 35, 0)],
  [(64, .iinc 1 1, 3, 0, 0), (67, .goto (-42), 3, 0, 0), (70, .aload_n 0, 1, 0, 0), (71, .iconst 0, 1, 0, 0), (72, .putfield 52, 3, 3, 11), (75, .return_, 1, 0, 0)]]
def rX3_endPart : xM := (⟨"PulledSignals$FormulaReader", "endPart", "()V"⟩, prog_5_method_12_code, tX3_endPart, 3, 2, none, 0, 0, 161, 160, 100017, 6)
theorem ok_rX3_endPart : xMok rX3_endPart = true := by decide +kernel
def tX3_readSign : List (List xEnt) := [[(0, .iload_n 1, 1, 0, 0), (1, .invokestatic 132, 3, 37, 2), (4, .istore_n 2, 1, 0, 0), (5, .iload_n 2, 1, 0, 0), (6, .iconst (-1), 1, 0, 0), (7, .if_icmp .ne 14, 3, 0, 0), (10, .aload_n 0, 1, 0, 0), (11, .iconst 1, 1, 0, 0), (12, .invokevirtual 72, 3, 30, 0), (15, .aload_n 0, 1, 0, 0)],
  [(16, .iload_n 1, 1, 0, 0), (17, .invokevirtual 135, 3, 31, 0), (20, .return_, 1, 0, 0), (21, .iload_n 2, 1, 0, 0), (22, .invokestatic 138, 3, 38, 2), (25, .istore_n 3, 1, 0, 0), (26, .aload_n 0, 1, 0, 0), (27, .iload_n 3, 1, 0, 0), (28, .iconst 2, 1, 0, 0), (29, .invokestatic 120, 3, 0, 7)],
  [(32, .invokevirtual 72, 3, 30, 0), (35, .iload_n 3, 1, 0, 0), (36, .iconst 1, 1, 0, 0), (37, .if_icmp .ne 26, 3, 0, 0), (40, .aload_n 0, 1, 0, 0), (41, .getfield 26, 3, 3, 3), (44, .invokevirtual 126, 3, 44, 0), (47, .invokestatic 138, 3, 38, 2)],
  [(50, .iconst 1, 1, 0, 0), (51, .if_icmp .ne 12, 3, 0, 0), (54, .aload_n 0, 1, 0, 0), (55, .aload_n 0, 1, 0, 0), (56, .getfield 49, 3, 3, 9), (59, .putfield 38, 3, 3, 10), (62, .return_, 1, 0, 0), (63, .aload_n 0, 1, 0, 0)],
  [(64, .iload_n 2, 1, 0, 0), (65, .invokevirtual 89, 3, 33, 0), (68, .aload_n 0, 1, 0, 0), (69, .getfield 23, 3, 3, 2), (72, .iload_n 1, 1, 0, 0), (73, .invokevirtual 92, 3, 47, 0), (76, .aload_n 0, 1, 0, 0), (77, .dup, 1, 0, 0), (78, .getfield 49, 3, 3, 9)],
  [(81, .iconst 1, 1, 0, 0), (82, .iadd, 1, 0, 0), (83, .putfield 49, 3, 3, 9), (86, .aload_n 0, 1, 0, 0), (87, .iconst 1, 1, 0, 0), (88, .putfield 52, 3, 3, 11), (91, .return_, 1, 0, 0)]]
def rX3_readSign : xM := (⟨"PulledSignals$FormulaReader", "readSign", "(I)V"⟩, prog_5_method_13_code, tX3_readSign, 3, 4, none, 1, 0, 109, 108, 100011, 6)
theorem ok_rX3_readSign : xMok rX3_readSign = true := by decide +kernel
def tX3_gather : List (List xEnt) := [[(0, .iconst 0, 1, 0, 0), (1, .istore_n 2, 1, 0, 0), (2, .iload_n 2, 1, 0, 0), (3, .sipush 250, 3, 0, 0), (6, .if_icmp .ge 78, 3, 0, 0), (9, .aload_n 0, 1, 0, 0), (10, .getfield 26, 3, 3, 3), (13, .invokevirtual 126, 3, 44, 0)],
  [(16, .invokestatic 138, 3, 38, 2), (19, .iload_n 1, 1, 0, 0), (20, .if_icmp .lt 64, 3, 0, 0), (23, .aload_n 0, 1, 0, 0), (24, .getfield 52, 3, 3, 11), (27, .ifCond .ne 57, 3, 0, 0), (30, .aload_n 0, 1, 0, 0), (31, .aload_n 0, 1, 0, 0)],
  [(32, .getfield 26, 3, 3, 3), (35, .invokevirtual 126, 3, 44, 0), (38, .iconst 0, 1, 0, 0), (39, .invokevirtual 109, 3, 36, 0), (42, .aload_n 0, 1, 0, 0), (43, .invokevirtual 141, 3, 34, 0), (46, .aload_n 0, 1, 0, 0), (47, .getfield 35, 3, 3, 6)],
  [(50, .invokevirtual 144, 3, 50, 0), (53, .aload_n 0, 1, 0, 0), (54, .getfield 23, 3, 3, 2), (57, .aload_n 0, 1, 0, 0), (58, .getfield 35, 3, 3, 6), (61, .invokevirtual 126, 3, 44, 0)],
  [(64, .bipush 40, 2, 0, 0), (66, .invokevirtual 147, 3, 49, 0), (69, .aload_n 0, 1, 0, 0), (70, .getfield 23, 3, 3, 2), (73, .bipush 41, 2, 0, 0), (75, .invokevirtual 92, 3, 47, 0), (78, .iinc 2 1, 3, 0, 0)],
  [(81, .goto (-79), 3, 0, 0), (84, .return_, 1, 0, 0)]]
def rX3_gather : xM := (⟨"PulledSignals$FormulaReader", "gather", "(I)V"⟩, prog_5_method_14_code, tX3_gather, 3, 3, none, 1, 0, 116, 115, 100012, 6)
theorem ok_rX3_gather : xMok rX3_gather = true := by decide +kernel
def tX3_readBracketSign : List (List xEnt) := [[(0, .aload_n 0, 1, 0, 0), (1, .getfield 26, 3, 3, 3), (4, .invokevirtual 126, 3, 44, 0), (7, .istore_n 2, 1, 0, 0), (8, .iload_n 2, 1, 0, 0), (9, .iconst (-1), 1, 0, 0), (10, .if_icmp .eq 11, 3, 0, 0), (13, .iload_n 1, 1, 0, 0), (14, .iload_n 2, 1, 0, 0), (15, .invokestatic 150, 3, 39, 2)],
  [(18, .if_icmp .eq 12, 3, 0, 0), (21, .aload_n 0, 1, 0, 0), (22, .aload_n 0, 1, 0, 0), (23, .getfield 49, 3, 3, 9), (26, .putfield 38, 3, 3, 10), (29, .return_, 1, 0, 0), (30, .aload_n 0, 1, 0, 0), (31, .dup, 1, 0, 0)],
  [(32, .getfield 49, 3, 3, 9), (35, .iconst 1, 1, 0, 0), (36, .iadd, 1, 0, 0), (37, .putfield 49, 3, 3, 9), (40, .iload_n 2, 1, 0, 0), (41, .bipush 20, 2, 0, 0), (43, .if_icmp .eq 11, 3, 0, 0), (46, .aload_n 0, 1, 0, 0), (47, .getfield 23, 3, 3, 2)],
  [(50, .iload_n 1, 1, 0, 0), (51, .invokevirtual 92, 3, 47, 0), (54, .iload_n 2, 1, 0, 0), (55, .tableswitch 140 21 25 #[33, 44, 55, 88, 114], 33, 0, 0)],
  [],
  [(88, .aload_n 0, 1, 0, 0), (89, .bipush 14, 2, 0, 0), (91, .bipush 22, 2, 0, 0), (93, .invokevirtual 153, 3, 32, 0)],
  [(96, .goto 108, 3, 0, 0), (99, .aload_n 0, 1, 0, 0), (100, .bipush 13, 2, 0, 0), (102, .bipush 23, 2, 0, 0), (104, .invokevirtual 153, 3, 32, 0), (107, .goto 97, 3, 0, 0), (110, .aload_n 0, 1, 0, 0), (111, .getfield 20, 3, 3, 1)],
  [(114, .aload_n 0, 1, 0, 0), (115, .getfield 32, 3, 3, 5), (118, .invokevirtual 126, 3, 44, 0), (121, .aload_n 0, 1, 0, 0), (122, .getfield 14, 3, 3, 0), (125, .invokevirtual 45, 3, 41, 0)],
  [(128, .invokevirtual 156, 3, 48, 0), (131, .aload_n 0, 1, 0, 0), (132, .invokevirtual 129, 3, 35, 0), (135, .aload_n 0, 1, 0, 0), (136, .iconst 1, 1, 0, 0), (137, .putfield 66, 3, 3, 12), (140, .goto 64, 3, 0, 0), (143, .aload_n 0, 1, 0, 0)],
  [(144, .getfield 26, 3, 3, 3), (147, .aload_n 0, 1, 0, 0), (148, .getfield 26, 3, 3, 3), (151, .invokevirtual 45, 3, 41, 0), (154, .iconst 1, 1, 0, 0), (155, .isub, 1, 0, 0), (156, .bipush 25, 2, 0, 0), (158, .invokevirtual 156, 3, 48, 0)],
  [(161, .aload_n 0, 1, 0, 0), (162, .iconst 1, 1, 0, 0), (163, .putfield 52, 3, 3, 11), (166, .goto 38, 3, 0, 0), (169, .aload_n 0, 1, 0, 0), (170, .bipush 8, 2, 0, 0), (172, .iconst 0, 1, 0, 0), (173, .invokevirtual 109, 3, 36, 0)],
  [(176, .aload_n 0, 1, 0, 0), (177, .getfield 35, 3, 3, 6), (180, .invokevirtual 144, 3, 50, 0), (183, .aload_n 0, 1, 0, 0), (184, .invokevirtual 129, 3, 35, 0), (187, .aload_n 0, 1, 0, 0), (188, .iconst 1, 1, 0, 0), (189, .putfield 66, 3, 3, 12)],
  [(192, .goto 12, 3, 0, 0), (195, .aload_n 0, 1, 0, 0), (196, .invokevirtual 141, 3, 34, 0), (199, .aload_n 0, 1, 0, 0), (200, .iconst 1, 1, 0, 0), (201, .putfield 66, 3, 3, 12), (204, .return_, 1, 0, 0)]]
def rX3_readBracketSign : xM := (⟨"PulledSignals$FormulaReader", "readBracketSign", "(I)V"⟩, prog_5_method_15_code, tX3_readBracketSign, 3, 3, none, 1, 0, 139, 138, 100014, 6)
theorem ok_rX3_readBracketSign : xMok rX3_readBracketSign = true := by decide +kernel
def tX3_choose : List (List xEnt) := [[(0, .aload_n 0, 1, 0, 0), (1, .getfield 35, 3, 3, 6), (4, .invokevirtual 144, 3, 50, 0), (7, .aload_n 0, 1, 0, 0), (8, .iload_n 1, 1, 0, 0), (9, .iconst 0, 1, 0, 0), (10, .invokevirtual 109, 3, 36, 0), (13, .aload_n 0, 1, 0, 0), (14, .getfield 20, 3, 3, 1)],
  [(17, .aload_n 0, 1, 0, 0), (18, .getfield 32, 3, 3, 5), (21, .invokevirtual 126, 3, 44, 0), (24, .aload_n 0, 1, 0, 0), (25, .getfield 14, 3, 3, 0), (28, .invokevirtual 45, 3, 41, 0), (31, .invokevirtual 156, 3, 48, 0)],
  [(34, .aload_n 0, 1, 0, 0), (35, .getfield 32, 3, 3, 5), (38, .aload_n 0, 1, 0, 0), (39, .getfield 32, 3, 3, 5), (42, .invokevirtual 45, 3, 41, 0), (45, .iconst 1, 1, 0, 0), (46, .isub, 1, 0, 0), (47, .aload_n 0, 1, 0, 0)],
  [(48, .getfield 14, 3, 3, 0), (51, .invokevirtual 45, 3, 41, 0), (54, .iconst 1, 1, 0, 0), (55, .isub, 1, 0, 0), (56, .invokevirtual 156, 3, 48, 0), (59, .aload_n 0, 1, 0, 0), (60, .getfield 26, 3, 3, 3), (63, .aload_n 0, 1, 0, 0)],
  [(64, .getfield 26, 3, 3, 3), (67, .invokevirtual 45, 3, 41, 0), (70, .iconst 1, 1, 0, 0), (71, .isub, 1, 0, 0), (72, .iload_n 2, 1, 0, 0), (73, .invokevirtual 156, 3, 48, 0), (76, .aload_n 0, 1, 0, 0), (77, .iconst 1, 1, 0, 0), (78, .putfield 52, 3, 3, 11)],
  [(81, .return_, 1, 0, 0)]]
def rX3_choose : xM := (⟨"PulledSignals$FormulaReader", "choose", "(II)V"⟩, prog_5_method_16_code, tX3_choose, 3, 3, none, 2, 0, 146, 145, 100015, 6)
theorem ok_rX3_choose : xMok rX3_choose = true := by decide +kernel
def tX3_openUp : List (List xEnt) := [[(0, .aload_n 0, 1, 0, 0), (1, .getfield 26, 3, 3, 3), (4, .iload_n 1, 1, 0, 0), (5, .invokevirtual 92, 3, 47, 0), (8, .aload_n 0, 1, 0, 0), (9, .getfield 29, 3, 3, 4), (12, .aload_n 0, 1, 0, 0), (13, .getfield 23, 3, 3, 2)],
  [(16, .invokevirtual 45, 3, 41, 0), (19, .invokevirtual 92, 3, 47, 0), (22, .aload_n 0, 1, 0, 0), (23, .getfield 32, 3, 3, 5), (26, .iconst (-1), 1, 0, 0), (27, .invokevirtual 92, 3, 47, 0), (30, .return_, 1, 0, 0)]]
def rX3_openUp : xM := (⟨"PulledSignals$FormulaReader", "openUp", "(I)V"⟩, prog_5_method_17_code, tX3_openUp, 3, 2, none, 1, 0, 74, 73, 100004, 6)
theorem ok_rX3_openUp : xMok rX3_openUp = true := by decide +kernel
def tX3_closeDown : List (List xEnt) := [[(0, .aload_n 0, 1, 0, 0), (1, .getfield 26, 3, 3, 3), (4, .invokevirtual 144, 3, 50, 0), (7, .aload_n 0, 1, 0, 0), (8, .getfield 29, 3, 3, 4), (11, .invokevirtual 144, 3, 50, 0), (14, .aload_n 0, 1, 0, 0), (15, .getfield 32, 3, 3, 5)],
  [(18, .invokevirtual 144, 3, 50, 0), (21, .return_, 1, 0, 0)]]
def rX3_closeDown : xM := (⟨"PulledSignals$FormulaReader", "closeDown", "()V"⟩, prog_5_method_18_code, tX3_closeDown, 3, 1, none, 0, 0, 127, 126, 100013, 6)
theorem ok_rX3_closeDown : xMok rX3_closeDown = true := by decide +kernel
def tX3_closeWithPart : List (List xEnt) := [[(0, .aload_n 0, 1, 0, 0), (1, .getfield 35, 3, 3, 6), (4, .aload_n 0, 1, 0, 0), (5, .getfield 35, 3, 3, 6), (8, .invokevirtual 45, 3, 41, 0), (11, .iconst 1, 1, 0, 0), (12, .isub, 1, 0, 0), (13, .aload_n 0, 1, 0, 0), (14, .getfield 29, 3, 3, 4)],
  [(17, .invokevirtual 126, 3, 44, 0), (20, .invokevirtual 156, 3, 48, 0), (23, .aload_n 0, 1, 0, 0), (24, .invokevirtual 141, 3, 34, 0), (27, .return_, 1, 0, 0)]]
def rX3_closeWithPart : xM := (⟨"PulledSignals$FormulaReader", "closeWithPart", "()V"⟩, prog_5_method_19_code, tX3_closeWithPart, 3, 1, none, 0, 0, 154, 153, 100016, 6)
theorem ok_rX3_closeWithPart : xMok rX3_closeWithPart = true := by decide +kernel
def tX3_addStep : List (List xEnt) := [[(0, .aload_n 0, 1, 0, 0), (1, .getfield 14, 3, 3, 0), (4, .iload_n 1, 1, 0, 0), (5, .invokevirtual 92, 3, 47, 0), (8, .aload_n 0, 1, 0, 0), (9, .getfield 20, 3, 3, 1), (12, .iload_n 2, 1, 0, 0), (13, .invokevirtual 92, 3, 47, 0)],
  [(16, .return_, 1, 0, 0)]]
def rX3_addStep : xM := (⟨"PulledSignals$FormulaReader", "addStep", "(II)V"⟩, prog_5_method_20_code, tX3_addStep, 3, 3, none, 2, 0, 94, 93, 100008, 6)
theorem ok_rX3_addStep : xMok rX3_addStep = true := by decide +kernel
def tX3_joiningSign : List (List xEnt) := [[(0, .iload_n 0, 1, 0, 0), (1, .tableswitch 137 37 62 #[127, 137, 137, 137, 137, 123, 119, 137, 121, 137, 125, 137, 137, 137, 137, 137, 137, 137, 137, 137, 137, 137, 137, 129, 131, 134], 119, 0, 0)],
  [],
  [],
  [],
  [],
  [],
  [],
  [(120, .iconst 0, 1, 0, 0), (121, .ireturn, 1, 0, 0), (122, .iconst 1, 1, 0, 0), (123, .ireturn, 1, 0, 0), (124, .iconst 2, 1, 0, 0), (125, .ireturn, 1, 0, 0), (126, .iconst 3, 1, 0, 0), (127, .ireturn, 1, 0, 0)],
  [(128, .iconst 4, 1, 0, 0), (129, .ireturn, 1, 0, 0), (130, .iconst 5, 1, 0, 0), (131, .ireturn, 1, 0, 0), (132, .bipush 6, 2, 0, 0), (134, .ireturn, 1, 0, 0), (135, .bipush 7, 2, 0, 0), (137, .ireturn, 1, 0, 0), (138, .iconst (-1), 1, 0, 0), (139, .ireturn, 1, 0, 0)]]
def rX3_joiningSign : xM := (⟨"PulledSignals$FormulaReader", "joiningSign", "(I)I"⟩, prog_5_method_21_code, tX3_joiningSign, 3, 1, (some Jvm.ClassFile.FieldType.int), 1, 1, 112, 111, 200000, 6)
theorem ok_rX3_joiningSign : xMok rX3_joiningSign = true := by decide +kernel
def tX3_level : List (List xEnt) := [[(0, .iload_n 0, 1, 0, 0), (1, .tableswitch 53 0 7 #[49, 49, 47, 47, 47, 51, 51, 51], 47, 0, 0)],
  [],
  [],
  [(48, .iconst 3, 1, 0, 0), (49, .ireturn, 1, 0, 0), (50, .iconst 2, 1, 0, 0), (51, .ireturn, 1, 0, 0), (52, .iconst 1, 1, 0, 0), (53, .ireturn, 1, 0, 0), (54, .iconst 0, 1, 0, 0), (55, .ireturn, 1, 0, 0)]]
def rX3_level : xM := (⟨"PulledSignals$FormulaReader", "level", "(I)I"⟩, prog_5_method_22_code, tX3_level, 3, 1, (some Jvm.ClassFile.FieldType.int), 1, 1, 123, 122, 200000, 6)
theorem ok_rX3_level : xMok rX3_level = true := by decide +kernel
def tX3_awaited : List (List xEnt) := [[(0, .iload_n 0, 1, 0, 0), (1, .tableswitch 43 21 24 #[31, 34, 37, 40], 31, 0, 0)],
  [],
  [(32, .bipush 63, 2, 0, 0), (34, .ireturn, 1, 0, 0), (35, .bipush 58, 2, 0, 0), (37, .ireturn, 1, 0, 0), (38, .bipush 93, 2, 0, 0), (40, .ireturn, 1, 0, 0), (41, .bipush 44, 2, 0, 0), (43, .ireturn, 1, 0, 0), (44, .bipush 41, 2, 0, 0), (46, .ireturn, 1, 0, 0)]]
def rX3_awaited : xM := (⟨"PulledSignals$FormulaReader", "awaited", "(I)I"⟩, prog_5_method_23_code, tX3_awaited, 3, 1, (some Jvm.ClassFile.FieldType.int), 1, 1, 142, 141, 200000, 6)
theorem ok_rX3_awaited : xMok rX3_awaited = true := by decide +kernel
def tX4_init : List (List xEnt) := [[(0, .aload_n 0, 1, 0, 0), (1, .invokespecial 3, 3, 0, 9), (4, .aload_n 0, 1, 0, 0), (5, .iload_n 1, 1, 0, 0), (6, .ifCond .ge 7, 3, 0, 0), (9, .iconst 0, 1, 0, 0), (10, .goto 4, 3, 0, 0), (13, .iload_n 1, 1, 0, 0), (14, .newarray .int, 2, 0, 0)],
  [(16, .putfield 9, 3, 4, 0), (19, .return_, 1, 0, 0)]]
def rX4_init : xM := (⟨"PulledSignals$Numbers", "<init>", "(I)V"⟩, prog_6_method_1_code, tX4_init, 4, 2, none, 1, 2, 178, 177, 200000, 3)
theorem ok_rX4_init : xMok rX4_init = true := by decide +kernel
def tX4_size : List (List xEnt) := [[(0, .aload_n 0, 1, 0, 0), (1, .getfield 15, 3, 4, 1), (4, .ireturn, 1, 0, 0)]]
def rX4_size : xM := (⟨"PulledSignals$Numbers", "size", "()I"⟩, prog_6_method_2_code, tX4_size, 4, 1, (some Jvm.ClassFile.FieldType.int), 0, 0, 62, 60, 61, 3)
theorem ok_rX4_size : xMok rX4_size = true := by decide +kernel
def tX4_counted : List (List xEnt) := [[(0, .aload_n 0, 1, 0, 0), (1, .getfield 19, 3, 4, 2), (4, .ireturn, 1, 0, 0)]]
def rX4_counted : xM := (⟨"PulledSignals$Numbers", "counted", "()I"⟩, prog_6_method_3_code, tX4_counted, 4, 1, (some Jvm.ClassFile.FieldType.int), 0, 0, 541, 539, 540, 3)
theorem ok_rX4_counted : xMok rX4_counted = true := by decide +kernel
def tX4_at : List (List xEnt) := [[(0, .iload_n 1, 1, 0, 0), (1, .ifCond .lt 29, 3, 0, 0), (4, .iload_n 1, 1, 0, 0), (5, .aload_n 0, 1, 0, 0), (6, .getfield 15, 3, 4, 1), (9, .if_icmp .ge 21, 3, 0, 0), (12, .iload_n 1, 1, 0, 0), (13, .aload_n 0, 1, 0, 0), (14, .getfield 9, 3, 4, 0)],
  [(17, .arraylength, 1, 0, 0), (18, .if_icmp .ge 12, 3, 0, 0), (21, .aload_n 0, 1, 0, 0), (22, .getfield 9, 3, 4, 0), (25, .iload_n 1, 1, 0, 0), (26, .iaload, 1, 0, 0), (27, .goto 4, 3, 0, 0), (30, .iconst (-1), 1, 0, 0), (31, .ireturn, 1, 0, 0)]]
def rX4_at : xM := (⟨"PulledSignals$Numbers", "at", "(I)I"⟩, prog_6_method_4_code, tX4_at, 4, 2, (some Jvm.ClassFile.FieldType.int), 1, 0, 70, 68, 69, 3)
theorem ok_rX4_at : xMok rX4_at = true := by decide +kernel
def tX4_last : List (List xEnt) := [[(0, .aload_n 0, 1, 0, 0), (1, .getfield 15, 3, 4, 1), (4, .ifCond .le 29, 3, 0, 0), (7, .aload_n 0, 1, 0, 0), (8, .getfield 15, 3, 4, 1), (11, .aload_n 0, 1, 0, 0), (12, .getfield 9, 3, 4, 0), (15, .arraylength, 1, 0, 0)],
  [(16, .if_icmp .gt 17, 3, 0, 0), (19, .aload_n 0, 1, 0, 0), (20, .getfield 9, 3, 4, 0), (23, .aload_n 0, 1, 0, 0), (24, .getfield 15, 3, 4, 1), (27, .iconst 1, 1, 0, 0), (28, .isub, 1, 0, 0), (29, .iaload, 1, 0, 0), (30, .goto 4, 3, 0, 0)],
  [(33, .iconst (-1), 1, 0, 0), (34, .ireturn, 1, 0, 0)]]
def rX4_last : xM := (⟨"PulledSignals$Numbers", "last", "()I"⟩, prog_6_method_5_code, tX4_last, 4, 1, (some Jvm.ClassFile.FieldType.int), 0, 0, 120, 118, 119, 3)
theorem ok_rX4_last : xMok rX4_last = true := by decide +kernel
def tX4_take : List (List xEnt) := [[(0, .aload_n 0, 1, 0, 0), (1, .getfield 15, 3, 4, 1), (4, .ifCond .le 15, 3, 0, 0), (7, .aload_n 0, 1, 0, 0), (8, .getfield 15, 3, 4, 1), (11, .aload_n 0, 1, 0, 0), (12, .getfield 9, 3, 4, 0), (15, .arraylength, 1, 0, 0)],
  [(16, .if_icmp .le 5, 3, 0, 0), (19, .iconst (-1), 1, 0, 0), (20, .ireturn, 1, 0, 0), (21, .aload_n 0, 1, 0, 0), (22, .dup, 1, 0, 0), (23, .getfield 15, 3, 4, 1), (26, .iconst 1, 1, 0, 0), (27, .isub, 1, 0, 0), (28, .putfield 15, 3, 4, 1), (31, .aload_n 0, 1, 0, 0)],
  [(32, .getfield 9, 3, 4, 0), (35, .aload_n 0, 1, 0, 0), (36, .getfield 15, 3, 4, 1), (39, .iaload, 1, 0, 0), (40, .ireturn, 1, 0, 0)]]
def rX4_take : xM := (⟨"PulledSignals$Numbers", "take", "()I"⟩, prog_6_method_6_code, tX4_take, 4, 1, (some Jvm.ClassFile.FieldType.int), 0, 0, 392, 390, 391, 3)
theorem ok_rX4_take : xMok rX4_take = true := by decide +kernel
def tX4_has : List (List xEnt) := [[(0, .iconst 0, 1, 0, 0), (1, .istore_n 2, 1, 0, 0), (2, .iload_n 2, 1, 0, 0), (3, .aload_n 0, 1, 0, 0), (4, .getfield 15, 3, 4, 1), (7, .if_icmp .ge 30, 3, 0, 0), (10, .iload_n 2, 1, 0, 0), (11, .aload_n 0, 1, 0, 0), (12, .getfield 9, 3, 4, 0), (15, .arraylength, 1, 0, 0)],
  [(16, .if_icmp .ge 21, 3, 0, 0), (19, .aload_n 0, 1, 0, 0), (20, .getfield 9, 3, 4, 0), (23, .iload_n 2, 1, 0, 0), (24, .iaload, 1, 0, 0), (25, .iload_n 1, 1, 0, 0), (26, .if_icmp .ne 5, 3, 0, 0), (29, .iconst 1, 1, 0, 0), (30, .ireturn, 1, 0, 0), (31, .iinc 2 1, 3, 0, 0)],
  [(34, .goto (-32), 3, 0, 0), (37, .iconst 0, 1, 0, 0), (38, .ireturn, 1, 0, 0)]]
def rX4_has : xM := (⟨"PulledSignals$Numbers", "has", "(I)Z"⟩, prog_6_method_7_code, tX4_has, 4, 3, (some Jvm.ClassFile.FieldType.boolean), 1, 0, 485, 483, 484, 3)
theorem ok_rX4_has : xMok rX4_has = true := by decide +kernel
def tX4_add : List (List xEnt) := [[(0, .aload_n 0, 1, 0, 0), (1, .dup, 1, 0, 0), (2, .getfield 19, 3, 4, 2), (5, .iconst 1, 1, 0, 0), (6, .iadd, 1, 0, 0), (7, .putfield 19, 3, 4, 2), (10, .aload_n 0, 1, 0, 0), (11, .getfield 15, 3, 4, 1), (14, .ifCond .lt 35, 3, 0, 0)],
  [(17, .aload_n 0, 1, 0, 0), (18, .getfield 15, 3, 4, 1), (21, .aload_n 0, 1, 0, 0), (22, .getfield 9, 3, 4, 0), (25, .arraylength, 1, 0, 0), (26, .if_icmp .ge 23, 3, 0, 0), (29, .aload_n 0, 1, 0, 0), (30, .getfield 9, 3, 4, 0)],
  [(33, .aload_n 0, 1, 0, 0), (34, .getfield 15, 3, 4, 1), (37, .iload_n 1, 1, 0, 0), (38, .iastore, 1, 0, 0), (39, .aload_n 0, 1, 0, 0), (40, .dup, 1, 0, 0), (41, .getfield 15, 3, 4, 1), (44, .iconst 1, 1, 0, 0), (45, .iadd, 1, 0, 0), (46, .putfield 15, 3, 4, 1)],
  [(49, .return_, 1, 0, 0)]]
def rX4_add : xM := (⟨"PulledSignals$Numbers", "add", "(I)V"⟩, prog_6_method_8_code, tX4_add, 4, 2, none, 1, 0, 78, 76, 77, 3)
theorem ok_rX4_add : xMok rX4_add = true := by decide +kernel
def tX4_put : List (List xEnt) := [[(0, .iload_n 1, 1, 0, 0), (1, .ifCond .lt 27, 3, 0, 0), (4, .iload_n 1, 1, 0, 0), (5, .aload_n 0, 1, 0, 0), (6, .getfield 15, 3, 4, 1), (9, .if_icmp .ge 19, 3, 0, 0), (12, .iload_n 1, 1, 0, 0), (13, .aload_n 0, 1, 0, 0), (14, .getfield 9, 3, 4, 0)],
  [(17, .arraylength, 1, 0, 0), (18, .if_icmp .ge 10, 3, 0, 0), (21, .aload_n 0, 1, 0, 0), (22, .getfield 9, 3, 4, 0), (25, .iload_n 1, 1, 0, 0), (26, .iload_n 2, 1, 0, 0), (27, .iastore, 1, 0, 0), (28, .return_, 1, 0, 0)]]
def rX4_put : xM := (⟨"PulledSignals$Numbers", "put", "(II)V"⟩, prog_6_method_9_code, tX4_put, 4, 3, none, 2, 0, 150, 148, 149, 3)
theorem ok_rX4_put : xMok rX4_put = true := by decide +kernel
def tX4_insert : List (List xEnt) := [[(0, .iload_n 1, 1, 0, 0), (1, .ifCond .lt 23, 3, 0, 0), (4, .iload_n 1, 1, 0, 0), (5, .aload_n 0, 1, 0, 0), (6, .getfield 15, 3, 4, 1), (9, .if_icmp .gt 15, 3, 0, 0), (12, .aload_n 0, 1, 0, 0), (13, .getfield 15, 3, 4, 1)],
  [(16, .aload_n 0, 1, 0, 0), (17, .getfield 9, 3, 4, 0), (20, .arraylength, 1, 0, 0), (21, .if_icmp .lt 4, 3, 0, 0), (24, .return_, 1, 0, 0), (25, .aload_n 0, 1, 0, 0), (26, .getfield 15, 3, 4, 1), (29, .istore_n 3, 1, 0, 0), (30, .iload_n 3, 1, 0, 0), (31, .iload_n 1, 1, 0, 0)],
  [(32, .if_icmp .le 23, 3, 0, 0), (35, .aload_n 0, 1, 0, 0), (36, .getfield 9, 3, 4, 0), (39, .iload_n 3, 1, 0, 0), (40, .aload_n 0, 1, 0, 0), (41, .getfield 9, 3, 4, 0), (44, .iload_n 3, 1, 0, 0), (45, .iconst 1, 1, 0, 0), (46, .isub, 1, 0, 0), (47, .iaload, 1, 0, 0)],
  [(48, .iastore, 1, 0, 0), (49, .iinc 3 (-1), 3, 0, 0), (52, .goto (-22), 3, 0, 0), (55, .aload_n 0, 1, 0, 0), (56, .getfield 9, 3, 4, 0), (59, .iload_n 1, 1, 0, 0), (60, .iload_n 2, 1, 0, 0), (61, .iastore, 1, 0, 0), (62, .aload_n 0, 1, 0, 0), (63, .dup, 1, 0, 0)],
  [(64, .getfield 15, 3, 4, 1), (67, .iconst 1, 1, 0, 0), (68, .iadd, 1, 0, 0), (69, .putfield 15, 3, 4, 1), (72, .return_, 1, 0, 0)]]
def rX4_insert : xM := (⟨"PulledSignals$Numbers", "insert", "(II)V"⟩, prog_6_method_10_code, tX4_insert, 4, 4, none, 2, 0, 135, 133, 134, 3)
theorem ok_rX4_insert : xMok rX4_insert = true := by decide +kernel
def tX4_dropLast : List (List xEnt) := [[(0, .aload_n 0, 1, 0, 0), (1, .getfield 15, 3, 4, 1), (4, .ifCond .le 13, 3, 0, 0), (7, .aload_n 0, 1, 0, 0), (8, .dup, 1, 0, 0), (9, .getfield 15, 3, 4, 1), (12, .iconst 1, 1, 0, 0), (13, .isub, 1, 0, 0), (14, .putfield 15, 3, 4, 1)],
  [(17, .return_, 1, 0, 0)]]
def rX4_dropLast : xM := (⟨"PulledSignals$Numbers", "dropLast", "()V"⟩, prog_6_method_11_code, tX4_dropLast, 4, 1, none, 0, 0, 131, 129, 130, 3)
theorem ok_rX4_dropLast : xMok rX4_dropLast = true := by decide +kernel
def tX4_drop : List (List xEnt) := [[(0, .iconst 0, 1, 0, 0), (1, .istore_n 2, 1, 0, 0), (2, .iconst 0, 1, 0, 0), (3, .istore_n 3, 1, 0, 0), (4, .iload_n 3, 1, 0, 0), (5, .aload_n 0, 1, 0, 0), (6, .getfield 15, 3, 4, 1), (9, .if_icmp .ge 43, 3, 0, 0), (12, .iload_n 3, 1, 0, 0), (13, .aload_n 0, 1, 0, 0), (14, .getfield 9, 3, 4, 0)],
  [(17, .arraylength, 1, 0, 0), (18, .if_icmp .ge 34, 3, 0, 0), (21, .aload_n 0, 1, 0, 0), (22, .getfield 9, 3, 4, 0), (25, .iload_n 3, 1, 0, 0), (26, .iaload, 1, 0, 0), (27, .iload_n 1, 1, 0, 0), (28, .if_icmp .eq 18, 3, 0, 0), (31, .aload_n 0, 1, 0, 0)],
  [(32, .getfield 9, 3, 4, 0), (35, .iload_n 2, 1, 0, 0), (36, .aload_n 0, 1, 0, 0), (37, .getfield 9, 3, 4, 0), (40, .iload_n 3, 1, 0, 0), (41, .iaload, 1, 0, 0), (42, .iastore, 1, 0, 0), (43, .iinc 2 1, 3, 0, 0), (46, .iinc 3 1, 3, 0, 0)],
  [(49, .goto (-45), 3, 0, 0), (52, .aload_n 0, 1, 0, 0), (53, .iload_n 2, 1, 0, 0), (54, .putfield 15, 3, 4, 1), (57, .return_, 1, 0, 0)]]
def rX4_drop : xM := (⟨"PulledSignals$Numbers", "drop", "(I)V"⟩, prog_6_method_12_code, tX4_drop, 4, 4, none, 1, 0, 324, 322, 323, 3)
theorem ok_rX4_drop : xMok rX4_drop = true := by decide +kernel
def tX4_clear : List (List xEnt) := [[(0, .aload_n 0, 1, 0, 0), (1, .iconst 0, 1, 0, 0), (2, .putfield 15, 3, 4, 1), (5, .aload_n 0, 1, 0, 0), (6, .iconst 0, 1, 0, 0), (7, .putfield 19, 3, 4, 2), (10, .return_, 1, 0, 0)]]
def rX4_clear : xM := (⟨"PulledSignals$Numbers", "clear", "()V"⟩, prog_6_method_13_code, tX4_clear, 4, 1, none, 0, 0, 58, 56, 57, 3)
theorem ok_rX4_clear : xMok rX4_clear = true := by decide +kernel
def tX4_takeFrom : List (List xEnt) := [[(0, .aload_n 0, 1, 0, 0), (1, .invokevirtual 22, 3, 52, 0), (4, .iconst 0, 1, 0, 0), (5, .istore_n 2, 1, 0, 0), (6, .iload_n 2, 1, 0, 0), (7, .aload_n 1, 1, 0, 0), (8, .getfield 15, 3, 4, 1), (11, .if_icmp .ge 49, 3, 0, 0), (14, .iload_n 2, 1, 0, 0), (15, .aload_n 1, 1, 0, 0)],
  [(16, .getfield 9, 3, 4, 0), (19, .arraylength, 1, 0, 0), (20, .if_icmp .ge 40, 3, 0, 0), (23, .iload_n 2, 1, 0, 0), (24, .aload_n 0, 1, 0, 0), (25, .getfield 9, 3, 4, 0), (28, .arraylength, 1, 0, 0), (29, .if_icmp .ge 31, 3, 0, 0)],
  [(32, .aload_n 0, 1, 0, 0), (33, .getfield 9, 3, 4, 0), (36, .iload_n 2, 1, 0, 0), (37, .aload_n 1, 1, 0, 0), (38, .getfield 9, 3, 4, 0), (41, .iload_n 2, 1, 0, 0), (42, .iaload, 1, 0, 0), (43, .iastore, 1, 0, 0), (44, .aload_n 0, 1, 0, 0), (45, .dup, 1, 0, 0), (46, .getfield 15, 3, 4, 1)],
  [(49, .iconst 1, 1, 0, 0), (50, .iadd, 1, 0, 0), (51, .putfield 15, 3, 4, 1), (54, .iinc 2 1, 3, 0, 0), (57, .goto (-51), 3, 0, 0), (60, .aload_n 0, 1, 0, 0), (61, .aload_n 1, 1, 0, 0), (62, .getfield 19, 3, 4, 2)],
  [(65, .putfield 19, 3, 4, 2), (68, .return_, 1, 0, 0)]]
def rX4_takeFrom : xM := (⟨"PulledSignals$Numbers", "takeFrom", "(LPulledSignals$Numbers;)V"⟩, prog_6_method_14_code, tX4_takeFrom, 4, 3, none, 1, 0, 194, 192, 193, 3)
theorem ok_rX4_takeFrom : xMok rX4_takeFrom = true := by decide +kernel
def tX4_trimmed : List (List xEnt) := [[(0, .new 10, 3, 4, 0), (3, .dup, 1, 0, 0), (4, .aload_n 0, 1, 0, 0), (5, .getfield 15, 3, 4, 1), (8, .invokespecial 25, 3, 40, 4), (11, .astore_n 1, 1, 0, 0), (12, .aload_n 1, 1, 0, 0), (13, .aload_n 0, 1, 0, 0), (14, .invokevirtual 28, 3, 53, 0)],
  [(17, .aload_n 1, 1, 0, 0), (18, .areturn, 1, 0, 0)]]
def rX4_trimmed : xM := (⟨"PulledSignals$Numbers", "trimmed", "()LPulledSignals$Numbers;"⟩, prog_6_method_15_code, tX4_trimmed, 4, 2, (some (Jvm.ClassFile.FieldType.object "PulledSignals$Numbers")), 0, 0, 173, 171, 172, 3)
theorem ok_rX4_trimmed : xMok rX4_trimmed = true := by decide +kernel
def tX5_init : List (List xEnt) := [[(0, .aload_n 0, 1, 0, 0), (1, .invokespecial 3, 3, 0, 9), (4, .aload_n 0, 1, 0, 0), (5, .aload_n 1, 1, 0, 0), (6, .putfield 9, 3, 5, 0), (9, .return_, 1, 0, 0)]]
def rX5_init : xM := (⟨"PulledSignals$Puller", "<init>", "(LPulledSignals$Web;)V"⟩, prog_7_method_1_code, tX5_init, 5, 2, none, 1, 2, 691, 690, 200000, 4)
theorem ok_rX5_init : xMok rX5_init = true := by decide +kernel
def tX5_pull : List (List xEnt) := [[(0, .aload_n 0, 1, 0, 0), (1, .iload_n 1, 1, 0, 0), (2, .iconst 0, 1, 0, 0), (3, .invokevirtual 15, 3, 62, 0), (6, .return_, 1, 0, 0)]]
def rX5_pull : xM := (⟨"PulledSignals$Puller", "pull", "(I)V"⟩, prog_7_method_2_code, tX5_pull, 5, 2, none, 1, 0, 470, 468, 469, 4)
theorem ok_rX5_pull : xMok rX5_pull = true := by decide +kernel
def tX5_flushUnlessBatch : List (List xEnt) := [[(0, .aload_n 0, 1, 0, 0), (1, .getfield 9, 3, 5, 0), (4, .getfield 19, 3, 7, 7), (7, .ifCond .le 4, 3, 0, 0), (10, .return_, 1, 0, 0), (11, .iconst 0, 1, 0, 0), (12, .istore_n 1, 1, 0, 0), (13, .iload_n 1, 1, 0, 0), (14, .bipush 100, 2, 0, 0)],
  [(16, .if_icmp .ge 51, 3, 0, 0), (19, .aload_n 0, 1, 0, 0), (20, .getfield 9, 3, 5, 0), (23, .getfield 25, 3, 7, 3), (26, .invokevirtual 29, 3, 41, 0), (29, .ifCond .le 38, 3, 0, 0)],
  [(32, .aload_n 0, 1, 0, 0), (33, .getfield 9, 3, 5, 0), (36, .getfield 25, 3, 7, 3), (39, .iconst 0, 1, 0, 0), (40, .invokevirtual 35, 3, 43, 0), (43, .istore_n 2, 1, 0, 0), (44, .aload_n 0, 1, 0, 0), (45, .getfield 9, 3, 5, 0)],
  [(48, .getfield 25, 3, 7, 3), (51, .iload_n 2, 1, 0, 0), (52, .invokevirtual 39, 3, 51, 0), (55, .aload_n 0, 1, 0, 0), (56, .iload_n 2, 1, 0, 0), (57, .iconst 0, 1, 0, 0), (58, .invokevirtual 15, 3, 62, 0), (61, .iinc 1 1, 3, 0, 0)],
  [(64, .goto (-51), 3, 0, 0), (67, .return_, 1, 0, 0)]]
def rX5_flushUnlessBatch : xM := (⟨"PulledSignals$Puller", "flushUnlessBatch", "()V"⟩, prog_7_method_3_code, tX5_flushUnlessBatch, 5, 3, none, 0, 0, 318, 316, 317, 4)
theorem ok_rX5_flushUnlessBatch : xMok rX5_flushUnlessBatch = true := by decide +kernel
def tX5_writeTo : List (List xEnt) := [[(0, .aload_n 0, 1, 0, 0), (1, .getfield 9, 3, 5, 0), (4, .iload_n 1, 1, 0, 0), (5, .invokevirtual 43, 3, 71, 0), (8, .astore_n 3, 1, 0, 0), (9, .aload_n 3, 1, 0, 0), (10, .ifnull 13, 3, 0, 0), (13, .aload_n 3, 1, 0, 0), (14, .getfield 47, 3, 1, 7)],
  [(17, .iload_n 2, 1, 0, 0), (18, .i2l, 1, 0, 0), (19, .lcmp, 1, 0, 0), (20, .ifCond .ne 5, 3, 0, 0), (23, .iconst 0, 1, 0, 0), (24, .ireturn, 1, 0, 0), (25, .aload_n 3, 1, 0, 0), (26, .iload_n 2, 1, 0, 0), (27, .i2l, 1, 0, 0), (28, .putfield 47, 3, 1, 7), (31, .aload_n 3, 1, 0, 0)],
  [(32, .dup, 1, 0, 0), (33, .getfield 53, 3, 1, 5), (36, .lconst 1, 1, 0, 0), (37, .ladd, 1, 0, 0), (38, .putfield 53, 3, 1, 5), (41, .aload_n 0, 1, 0, 0), (42, .aload_n 0, 1, 0, 0), (43, .getfield 9, 3, 5, 0), (46, .iload_n 1, 1, 0, 0), (47, .invokevirtual 56, 3, 78, 0)],
  [(50, .aload_n 0, 1, 0, 0), (51, .getfield 9, 3, 5, 0), (54, .iload_n 1, 1, 0, 0), (55, .invokevirtual 59, 3, 79, 0), (58, .invokevirtual 62, 3, 61, 0), (61, .iconst 1, 1, 0, 0), (62, .ireturn, 1, 0, 0)]]
def rX5_writeTo : xM := (⟨"PulledSignals$Puller", "writeTo", "(II)Z"⟩, prog_7_method_4_code, tX5_writeTo, 5, 4, (some Jvm.ClassFile.FieldType.boolean), 2, 0, 449, 447, 448, 4)
theorem ok_rX5_writeTo : xMok rX5_writeTo = true := by decide +kernel
def tX5_disposeOwned : List (List xEnt) := [[(0, .iload_n 2, 1, 0, 0), (1, .bipush 24, 2, 0, 0), (3, .if_icmp .le 7, 3, 0, 0), (6, .iconst 0, 1, 0, 0), (7, .goto 11, 3, 0, 0), (10, .aload_n 0, 1, 0, 0), (11, .getfield 9, 3, 5, 0), (14, .iload_n 1, 1, 0, 0), (15, .invokevirtual 75, 3, 75, 0)],
  [(18, .istore_n 3, 1, 0, 0), (19, .bipush 23, 2, 0, 0), (21, .istore 4, 2, 0, 0), (23, .iload 4, 2, 0, 0), (25, .ifCond .lt 37, 3, 0, 0), (28, .iload_n 3, 1, 0, 0), (29, .ifCond .eq 33, 3, 0, 0)],
  [(32, .iload_n 3, 1, 0, 0), (33, .iload 4, 2, 0, 0), (35, .ishr, 1, 0, 0), (36, .iconst 1, 1, 0, 0), (37, .iand, 1, 0, 0), (38, .ifCond .eq 18, 3, 0, 0), (41, .aload_n 0, 1, 0, 0), (42, .iload 4, 2, 0, 0), (44, .iload_n 2, 1, 0, 0), (45, .iconst 1, 1, 0, 0), (46, .iadd, 1, 0, 0), (47, .invokevirtual 69, 3, 59, 0)],
  [(50, .aload_n 0, 1, 0, 0), (51, .iload 4, 2, 0, 0), (53, .invokevirtual 72, 3, 60, 0), (56, .iinc 4 (-1), 3, 0, 0), (59, .goto (-36), 3, 0, 0), (62, .return_, 1, 0, 0)]]
def rX5_disposeOwned : xM := (⟨"PulledSignals$Puller", "disposeOwned", "(II)V"⟩, prog_7_method_7_code, tX5_disposeOwned, 5, 5, none, 2, 0, 349, 348, 100023, 4)
theorem ok_rX5_disposeOwned : xMok rX5_disposeOwned = true := by decide +kernel
def tX5_letGo : List (List xEnt) := [[(0, .aload_n 0, 1, 0, 0), (1, .getfield 9, 3, 5, 0), (4, .iload_n 1, 1, 0, 0), (5, .invokevirtual 43, 3, 71, 0), (8, .astore_n 2, 1, 0, 0), (9, .aload_n 2, 1, 0, 0), (10, .ifnonnull 4, 3, 0, 0), (13, .return_, 1, 0, 0), (14, .aload_n 2, 1, 0, 0), (15, .iconst 1, 1, 0, 0)],
  [(16, .putfield 78, 3, 1, 2), (19, .aload_n 2, 1, 0, 0), (20, .iconst 0, 1, 0, 0), (21, .putfield 82, 3, 1, 4), (24, .aload_n 0, 1, 0, 0), (25, .getfield 9, 3, 5, 0), (28, .iload_n 1, 1, 0, 0), (29, .invokevirtual 84, 3, 77, 0)],
  [(32, .aload_n 0, 1, 0, 0), (33, .getfield 9, 3, 5, 0), (36, .getfield 25, 3, 7, 3), (39, .iload_n 1, 1, 0, 0), (40, .invokevirtual 39, 3, 51, 0), (43, .aload_n 0, 1, 0, 0), (44, .getfield 9, 3, 5, 0), (47, .getfield 87, 3, 7, 6)],
  [(50, .iload_n 1, 1, 0, 0), (51, .invokevirtual 90, 3, 47, 0), (54, .aload_n 0, 1, 0, 0), (55, .aload_n 0, 1, 0, 0), (56, .getfield 9, 3, 5, 0), (59, .iload_n 1, 1, 0, 0), (60, .invokevirtual 56, 3, 78, 0), (63, .aload_n 0, 1, 0, 0)],
  [(64, .getfield 9, 3, 5, 0), (67, .iload_n 1, 1, 0, 0), (68, .invokevirtual 59, 3, 79, 0), (71, .invokevirtual 62, 3, 61, 0), (74, .return_, 1, 0, 0)]]
def rX5_letGo : xM := (⟨"PulledSignals$Puller", "letGo", "(I)V"⟩, prog_7_method_8_code, tX5_letGo, 5, 3, none, 1, 0, 357, 356, 100024, 4)
theorem ok_rX5_letGo : xMok rX5_letGo = true := by decide +kernel
def tX5_colour : List (List xEnt) := [[(0, .iconst 0, 1, 0, 0), (1, .istore_n 3, 1, 0, 0), (2, .iload_n 1, 1, 0, 0), (3, .iload_n 2, 1, 0, 0), (4, .ior, 1, 0, 0), (5, .iload_n 3, 1, 0, 0), (6, .iushr, 1, 0, 0), (7, .ifCond .eq 122, 3, 0, 0), (10, .iload_n 3, 1, 0, 0), (11, .aload_n 0, 1, 0, 0), (12, .getfield 9, 3, 5, 0), (15, .invokevirtual 93, 3, 69, 0)],
  [(18, .if_icmp .ge 111, 3, 0, 0), (21, .aload_n 0, 1, 0, 0), (22, .getfield 9, 3, 5, 0), (25, .iload_n 3, 1, 0, 0), (26, .invokevirtual 43, 3, 71, 0), (29, .astore 4, 2, 0, 0), (31, .aload 4, 2, 0, 0)],
  [(33, .ifnonnull 6, 3, 0, 0), (36, .goto 87, 3, 0, 0), (39, .aload 4, 2, 0, 0), (41, .getfield 82, 3, 1, 4), (44, .ifCond .ne 7, 3, 0, 0), (47, .iconst 1, 1, 0, 0)],
  [(48, .goto 4, 3, 0, 0), (51, .iconst 0, 1, 0, 0), (52, .istore 5, 2, 0, 0), (54, .iload_n 1, 1, 0, 0), (55, .iload_n 3, 1, 0, 0), (56, .ishr, 1, 0, 0), (57, .iconst 1, 1, 0, 0), (58, .iand, 1, 0, 0), (59, .ifCond .eq 12, 3, 0, 0), (62, .aload 4, 2, 0, 0)],
  [(64, .iconst 2, 1, 0, 0), (65, .putfield 82, 3, 1, 4), (68, .goto 22, 3, 0, 0), (71, .iload 5, 2, 0, 0), (73, .ifCond .eq 17, 3, 0, 0), (76, .iload_n 2, 1, 0, 0), (77, .iload_n 3, 1, 0, 0), (78, .ishr, 1, 0, 0), (79, .iconst 1, 1, 0, 0)],
  [(80, .iand, 1, 0, 0), (81, .ifCond .eq 9, 3, 0, 0), (84, .aload 4, 2, 0, 0), (86, .iconst 1, 1, 0, 0), (87, .putfield 82, 3, 1, 4), (90, .aload 4, 2, 0, 0), (92, .getfield 96, 3, 1, 0), (95, .iconst 4, 1, 0, 0)],
  [(96, .if_icmp .ne 27, 3, 0, 0), (99, .iload 5, 2, 0, 0), (101, .ifCond .eq 22, 3, 0, 0), (104, .aload 4, 2, 0, 0), (106, .getfield 82, 3, 1, 4), (109, .ifCond .eq 14, 3, 0, 0)],
  [(112, .aload_n 0, 1, 0, 0), (113, .getfield 9, 3, 5, 0), (116, .getfield 25, 3, 7, 3), (119, .iload_n 3, 1, 0, 0), (120, .invokevirtual 90, 3, 47, 0), (123, .iinc 3 1, 3, 0, 0), (126, .goto (-124), 3, 0, 0)],
  [(129, .return_, 1, 0, 0)]]
def rX5_colour : xM := (⟨"PulledSignals$Puller", "colour", "(II)V"⟩, prog_7_method_9_code, tX5_colour, 5, 6, none, 2, 0, 371, 370, 100025, 4)
theorem ok_rX5_colour : xMok rX5_colour = true := by decide +kernel
def tX5_refresh : List (List xEnt) := [[(0, .aload_n 0, 1, 0, 0), (1, .getfield 9, 3, 5, 0), (4, .iload_n 1, 1, 0, 0), (5, .invokevirtual 43, 3, 71, 0), (8, .astore_n 3, 1, 0, 0), (9, .aload_n 3, 1, 0, 0), (10, .ifnull 23, 3, 0, 0), (13, .aload_n 3, 1, 0, 0), (14, .getfield 99, 3, 1, 3)],
  [(17, .ifCond .ne 16, 3, 0, 0), (20, .aload_n 3, 1, 0, 0), (21, .getfield 82, 3, 1, 4), (24, .ifCond .eq 9, 3, 0, 0), (27, .iload_n 2, 1, 0, 0), (28, .bipush 24, 2, 0, 0), (30, .if_icmp .le 4, 3, 0, 0)],
  [(33, .return_, 1, 0, 0), (34, .aload_n 3, 1, 0, 0), (35, .iconst 1, 1, 0, 0), (36, .putfield 99, 3, 1, 3), (39, .aload_n 3, 1, 0, 0), (40, .getfield 82, 3, 1, 4), (43, .iconst 1, 1, 0, 0), (44, .if_icmp .ne 9, 3, 0, 0), (47, .aload_n 0, 1, 0, 0)],
  [(48, .aload_n 3, 1, 0, 0), (49, .iload_n 2, 1, 0, 0), (50, .invokevirtual 102, 3, 63, 0), (53, .aload_n 3, 1, 0, 0), (54, .getfield 82, 3, 1, 4), (57, .iconst 2, 1, 0, 0), (58, .if_icmp .ne 10, 3, 0, 0), (61, .aload_n 0, 1, 0, 0), (62, .aload_n 3, 1, 0, 0), (63, .iload_n 1, 1, 0, 0)],
  [(64, .iload_n 2, 1, 0, 0), (65, .invokevirtual 106, 3, 64, 0), (68, .aload_n 3, 1, 0, 0), (69, .iconst 0, 1, 0, 0), (70, .putfield 99, 3, 1, 3), (73, .return_, 1, 0, 0)]]
def rX5_refresh : xM := (⟨"PulledSignals$Puller", "refresh", "(II)V"⟩, prog_7_method_10_code, tX5_refresh, 5, 4, none, 2, 0, 329, 327, 100020, 4)
theorem ok_rX5_refresh : xMok rX5_refresh = true := by decide +kernel
def tX5_checkReads : List (List xEnt) := [[(0, .iconst 0, 1, 0, 0), (1, .istore_n 3, 1, 0, 0), (2, .iload_n 3, 1, 0, 0), (3, .aload_n 1, 1, 0, 0), (4, .getfield 110, 3, 1, 9), (7, .invokevirtual 29, 3, 41, 0), (10, .if_icmp .ge 61, 3, 0, 0), (13, .aload_n 1, 1, 0, 0), (14, .getfield 82, 3, 1, 4)],
  [(17, .iconst 1, 1, 0, 0), (18, .if_icmp .ne 53, 3, 0, 0), (21, .aload_n 1, 1, 0, 0), (22, .getfield 110, 3, 1, 9), (25, .iload_n 3, 1, 0, 0), (26, .invokevirtual 35, 3, 43, 0), (29, .istore 4, 2, 0, 0), (31, .aload_n 0, 1, 0, 0)],
  [(32, .getfield 9, 3, 5, 0), (35, .iload 4, 2, 0, 0), (37, .invokevirtual 43, 3, 71, 0), (40, .astore 5, 2, 0, 0), (42, .aload 5, 2, 0, 0), (44, .ifnull 21, 3, 0, 0), (47, .aload 5, 2, 0, 0)],
  [(49, .getfield 96, 3, 1, 0), (52, .iconst 3, 1, 0, 0), (53, .if_icmp .ne 12, 3, 0, 0), (56, .aload_n 0, 1, 0, 0), (57, .iload 4, 2, 0, 0), (59, .iload_n 2, 1, 0, 0), (60, .iconst 1, 1, 0, 0), (61, .iadd, 1, 0, 0), (62, .invokevirtual 15, 3, 62, 0)],
  [(65, .iinc 3 1, 3, 0, 0), (68, .goto (-66), 3, 0, 0), (71, .aload_n 1, 1, 0, 0), (72, .getfield 82, 3, 1, 4), (75, .iconst 1, 1, 0, 0), (76, .if_icmp .ne 8, 3, 0, 0), (79, .aload_n 1, 1, 0, 0)],
  [(80, .iconst 0, 1, 0, 0), (81, .putfield 82, 3, 1, 4), (84, .return_, 1, 0, 0)]]
def rX5_checkReads : xM := (⟨"PulledSignals$Puller", "checkReads", "(LPulledSignals$Cell;I)V"⟩, prog_7_method_11_code, tX5_checkReads, 5, 6, none, 2, 0, 334, 333, 100021, 4)
theorem ok_rX5_checkReads : xMok rX5_checkReads = true := by decide +kernel
def tX5_runOnce : List (List xEnt) := [[(0, .aload_n 0, 1, 0, 0), (1, .getfield 9, 3, 5, 0), (4, .iload_n 2, 1, 0, 0), (5, .invokevirtual 84, 3, 77, 0), (8, .aload_n 1, 1, 0, 0), (9, .getfield 96, 3, 1, 0), (12, .iconst 4, 1, 0, 0), (13, .if_icmp .ne 9, 3, 0, 0)],
  [(16, .aload_n 0, 1, 0, 0), (17, .iload_n 2, 1, 0, 0), (18, .iconst 0, 1, 0, 0), (19, .invokevirtual 69, 3, 59, 0), (22, .aload_n 1, 1, 0, 0), (23, .getfield 65, 3, 1, 8), (26, .astore 4, 2, 0, 0), (28, .aload 4, 2, 0, 0), (30, .ifnonnull 4, 3, 0, 0)],
  [(33, .return_, 1, 0, 0), (34, .aload 4, 2, 0, 0), (36, .invokevirtual 113, 3, 11, 0), (39, .iconst 0, 1, 0, 0), (40, .istore 5, 2, 0, 0), (42, .iload 5, 2, 0, 0), (44, .sipush 250, 3, 0, 0), (47, .if_icmp .ge 34, 3, 0, 0)],
  [(50, .aload 4, 2, 0, 0), (52, .invokevirtual 118, 3, 12, 0), (55, .ifCond .eq 26, 3, 0, 0), (58, .aload 4, 2, 0, 0), (60, .aload_n 0, 1, 0, 0), (61, .aload_n 1, 1, 0, 0), (62, .iload_n 2, 1, 0, 0), (63, .aload 4, 2, 0, 0)],
  [(65, .invokevirtual 122, 3, 9, 0), (68, .iload_n 3, 1, 0, 0), (69, .invokevirtual 125, 3, 65, 0), (72, .invokevirtual 129, 3, 13, 0), (75, .iinc 5 1, 3, 0, 0), (78, .goto (-36), 3, 0, 0)],
  [(81, .aload 4, 2, 0, 0), (83, .invokevirtual 133, 3, 14, 0), (86, .lstore 5, 2, 0, 0), (88, .aload_n 1, 1, 0, 0), (89, .iconst 0, 1, 0, 0), (90, .putfield 82, 3, 1, 4), (93, .aload_n 1, 1, 0, 0), (94, .dup, 1, 0, 0), (95, .getfield 136, 3, 1, 6)],
  [(98, .iconst 1, 1, 0, 0), (99, .iadd, 1, 0, 0), (100, .putfield 136, 3, 1, 6), (103, .aload_n 1, 1, 0, 0), (104, .getfield 96, 3, 1, 0), (107, .iconst 4, 1, 0, 0), (108, .if_icmp .ne 13, 3, 0, 0), (111, .aload_n 0, 1, 0, 0)],
  [(112, .getfield 9, 3, 5, 0), (115, .iload_n 2, 1, 0, 0), (116, .lload 5, 2, 0, 0), (118, .invokevirtual 139, 3, 83, 0), (121, .lload 5, 2, 0, 0), (123, .aload_n 1, 1, 0, 0), (124, .getfield 47, 3, 1, 7), (127, .lcmp, 1, 0, 0)],
  [(128, .ifCond .ne 12, 3, 0, 0), (131, .aload_n 1, 1, 0, 0), (132, .getfield 53, 3, 1, 5), (135, .lconst 0, 1, 0, 0), (136, .lcmp, 1, 0, 0), (137, .ifCond .ne 32, 3, 0, 0), (140, .aload_n 1, 1, 0, 0), (141, .lload 5, 2, 0, 0), (143, .putfield 47, 3, 1, 7)],
  [(146, .aload_n 1, 1, 0, 0), (147, .dup, 1, 0, 0), (148, .getfield 53, 3, 1, 5), (151, .lconst 1, 1, 0, 0), (152, .ladd, 1, 0, 0), (153, .putfield 53, 3, 1, 5), (156, .aload_n 0, 1, 0, 0), (157, .aload_n 0, 1, 0, 0), (158, .getfield 9, 3, 5, 0)],
  [(161, .iload_n 2, 1, 0, 0), (162, .invokevirtual 56, 3, 78, 0), (165, .iconst 0, 1, 0, 0), (166, .invokevirtual 62, 3, 61, 0), (169, .return_, 1, 0, 0)]]
def rX5_runOnce : xM := (⟨"PulledSignals$Puller", "runOnce", "(LPulledSignals$Cell;II)V"⟩, prog_7_method_12_code, tX5_runOnce, 5, 7, none, 3, 0, 338, 337, 100022, 4)
theorem ok_rX5_runOnce : xMok rX5_runOnce = true := by decide +kernel
def tX5_outcomeRead : List (List xEnt) := [[(0, .aload_n 0, 1, 0, 0), (1, .getfield 9, 3, 5, 0), (4, .iload_n 3, 1, 0, 0), (5, .invokevirtual 43, 3, 71, 0), (8, .astore 5, 2, 0, 0), (10, .aload_n 1, 1, 0, 0), (11, .getfield 65, 3, 1, 8), (14, .astore 6, 2, 0, 0)],
  [(16, .aload 5, 2, 0, 0), (18, .ifnull 16, 3, 0, 0), (21, .aload 6, 2, 0, 0), (23, .ifnull 11, 3, 0, 0), (26, .aload 5, 2, 0, 0), (28, .invokevirtual 143, 3, 7, 0), (31, .ifCond .ne 7, 3, 0, 0)],
  [(34, .ldc2_w 146, 3, 3, 0), (37, .lreturn, 1, 0, 0), (38, .aload 6, 2, 0, 0), (40, .invokevirtual 148, 3, 10, 0), (43, .ifCond .eq 17, 3, 0, 0), (46, .iload_n 3, 1, 0, 0), (47, .iload_n 2, 1, 0, 0)],
  [(48, .if_icmp .eq 12, 3, 0, 0), (51, .aload_n 0, 1, 0, 0), (52, .getfield 9, 3, 5, 0), (55, .iload_n 2, 1, 0, 0), (56, .iload_n 3, 1, 0, 0), (57, .invokevirtual 151, 3, 76, 0), (60, .aload 5, 2, 0, 0), (62, .getfield 99, 3, 1, 3)],
  [(65, .ifCond .eq 7, 3, 0, 0), (68, .ldc2_w 154, 3, 4, 0), (71, .lreturn, 1, 0, 0), (72, .aload 5, 2, 0, 0), (74, .getfield 96, 3, 1, 0), (77, .iconst 3, 1, 0, 0), (78, .if_icmp .ne 12, 3, 0, 0)],
  [(81, .aload_n 0, 1, 0, 0), (82, .iload_n 3, 1, 0, 0), (83, .iload 4, 2, 0, 0), (85, .iconst 1, 1, 0, 0), (86, .iadd, 1, 0, 0), (87, .invokevirtual 15, 3, 62, 0), (90, .aload 5, 2, 0, 0), (92, .getfield 47, 3, 1, 7), (95, .lreturn, 1, 0, 0)]]
def rX5_outcomeRead : xM := (⟨"PulledSignals$Puller", "outcomeRead", "(LPulledSignals$Cell;III)J"⟩, prog_7_method_13_code, tX5_outcomeRead, 5, 7, (some Jvm.ClassFile.FieldType.long), 4, 0, 408, 407, 100028, 4)
theorem ok_rX5_outcomeRead : xMok rX5_outcomeRead = true := by decide +kernel
def tX6_init : List (List xEnt) := [[(0, .aload_n 0, 1, 0, 0), (1, .invokespecial 3, 3, 0, 9), (4, .aload_n 0, 1, 0, 0), (5, .bipush 40, 2, 0, 0), (7, .newarray .long, 2, 1, 0), (9, .putfield 9, 3, 6, 0), (12, .aload_n 0, 1, 0, 0), (13, .iconst (-1), 1, 0, 0), (14, .putfield 15, 3, 6, 2)],
  [(17, .return_, 1, 0, 0)]]
def rX6_init : xM := (⟨"PulledSignals$Shelf", "<init>", "()V"⟩, prog_8_method_1_code, tX6_init, 6, 1, none, 0, 2, 772, 771, 200000, 7)
theorem ok_rX6_init : xMok rX6_init = true := by decide +kernel
def tX6_holding : List (List xEnt) := [[(0, .aload_n 0, 1, 0, 0), (1, .getfield 15, 3, 6, 2), (4, .ireturn, 1, 0, 0)]]
def rX6_holding : xM := (⟨"PulledSignals$Shelf", "holding", "()I"⟩, prog_8_method_2_code, tX6_holding, 6, 1, (some Jvm.ClassFile.FieldType.int), 0, 0, 561, 559, 560, 7)
theorem ok_rX6_holding : xMok rX6_holding = true := by decide +kernel
def tJ6_bitCount_0f7a4 : List (List xEnt) := [[(0, .iload_n 0, 1, 0, 0), (1, .iload_n 0, 1, 0, 0), (2, .iconst 1, 1, 0, 0), (3, .iushr, 1, 0, 0), (4, .ldc_w 265, 3, 0, 0), (7, .iand, 1, 0, 0), (8, .isub, 1, 0, 0), (9, .istore_n 0, 1, 0, 0), (10, .iload_n 0, 1, 0, 0), (11, .ldc_w 266, 3, 1, 0), (14, .iand, 1, 0, 0), (15, .iload_n 0, 1, 0, 0)],
  [(16, .iconst 2, 1, 0, 0), (17, .iushr, 1, 0, 0), (18, .ldc_w 266, 3, 1, 0), (21, .iand, 1, 0, 0), (22, .iadd, 1, 0, 0), (23, .istore_n 0, 1, 0, 0), (24, .iload_n 0, 1, 0, 0), (25, .iload_n 0, 1, 0, 0), (26, .iconst 4, 1, 0, 0), (27, .iushr, 1, 0, 0), (28, .iadd, 1, 0, 0), (29, .ldc_w 267, 3, 2, 0)],
  [(32, .iand, 1, 0, 0), (33, .istore_n 0, 1, 0, 0), (34, .iload_n 0, 1, 0, 0), (35, .iload_n 0, 1, 0, 0), (36, .bipush 8, 2, 0, 0), (38, .iushr, 1, 0, 0), (39, .iadd, 1, 0, 0), (40, .istore_n 0, 1, 0, 0), (41, .iload_n 0, 1, 0, 0), (42, .iload_n 0, 1, 0, 0), (43, .bipush 16, 2, 0, 0), (45, .iushr, 1, 0, 0), (46, .iadd, 1, 0, 0), (47, .istore_n 0, 1, 0, 0)],
  [(48, .iload_n 0, 1, 0, 0), (49, .bipush 63, 2, 0, 0), (51, .iand, 1, 0, 0), (52, .ireturn, 1, 0, 0)]]
def rJ6_bitCount_0f7a4 : xM := (⟨"java/lang/Integer", "bitCount", "(I)I"⟩, prog_14_method_49_code, tJ6_bitCount_0f7a4, 17, 1, (some Jvm.ClassFile.FieldType.int), 1, 1, 492, 491, 200000, 19)
theorem ok_rJ6_bitCount_0f7a4 : xMok rJ6_bitCount_0f7a4 = true := by decide +kernel
