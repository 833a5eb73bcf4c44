def tX7_init : List (List xEnt) := [[(0, .aload_n 0, 1, 0, 0), (1, .invokespecial 3, 3, 0, 9), (4, .aload_n 0, 1, 0, 0), (5, .bipush 24, 2, 0, 0), (7, .anewarray 9, 3, 3, 0), (10, .putfield 11, 3, 7, 0), (13, .aload_n 0, 1, 0, 0), (14, .bipush 24, 2, 0, 0)],
  [(16, .newarray .int, 2, 0, 0), (18, .putfield 17, 3, 7, 1), (21, .aload_n 0, 1, 0, 0), (22, .new 21, 3, 4, 0), (25, .dup, 1, 0, 0), (26, .bipush 24, 2, 0, 0), (28, .invokespecial 23, 3, 40, 4), (31, .putfield 26, 3, 7, 3)],
  [(34, .aload_n 0, 1, 0, 0), (35, .new 21, 3, 4, 0), (38, .dup, 1, 0, 0), (39, .bipush 60, 2, 0, 0), (41, .invokespecial 23, 3, 40, 4), (44, .putfield 30, 3, 7, 4), (47, .aload_n 0, 1, 0, 0)],
  [(48, .bipush 60, 2, 0, 0), (50, .newarray .long, 2, 1, 0), (52, .putfield 33, 3, 7, 5), (55, .aload_n 0, 1, 0, 0), (56, .new 21, 3, 4, 0), (59, .dup, 1, 0, 0), (60, .bipush 60, 2, 0, 0), (62, .invokespecial 23, 3, 40, 4)],
  [(65, .putfield 37, 3, 7, 6), (68, .aload_n 0, 1, 0, 0), (69, .iconst 1, 1, 0, 0), (70, .putfield 40, 3, 7, 8), (73, .return_, 1, 0, 0)]]
def rX7_init : xM := (⟨"PulledSignals$Web", "<init>", "()V"⟩, prog_9_method_1_code, tX7_init, 7, 1, none, 0, 2, 647, 646, 200000, 2)
theorem ok_rX7_init : xMok rX7_init = true := by decide +kernel
def tX7_count : List (List xEnt) := [[(0, .aload_n 0, 1, 0, 0), (1, .getfield 44, 3, 7, 2), (4, .ireturn, 1, 0, 0)]]
def rX7_count : xM := (⟨"PulledSignals$Web", "count", "()I"⟩, prog_9_method_2_code, tX7_count, 7, 1, (some Jvm.ClassFile.FieldType.int), 0, 0, 45, 43, 44, 2)
theorem ok_rX7_count : xMok rX7_count = true := by decide +kernel
def tX7_isFull : List (List xEnt) := [[(0, .aload_n 0, 1, 0, 0), (1, .getfield 44, 3, 7, 2), (4, .aload_n 0, 1, 0, 0), (5, .getfield 11, 3, 7, 0), (8, .arraylength, 1, 0, 0), (9, .if_icmp .lt 7, 3, 0, 0), (12, .iconst 1, 1, 0, 0), (13, .goto 4, 3, 0, 0)],
  [(16, .iconst 0, 1, 0, 0), (17, .ireturn, 1, 0, 0)]]
def rX7_isFull : xM := (⟨"PulledSignals$Web", "isFull", "()Z"⟩, prog_9_method_3_code, tX7_isFull, 7, 1, (some Jvm.ClassFile.FieldType.boolean), 0, 0, 234, 232, 233, 2)
theorem ok_rX7_isFull : xMok rX7_isFull = true := by decide +kernel
def tX7_cell : List (List xEnt) := [[(0, .iload_n 1, 1, 0, 0), (1, .ifCond .lt 29, 3, 0, 0), (4, .iload_n 1, 1, 0, 0), (5, .aload_n 0, 1, 0, 0), (6, .getfield 44, 3, 7, 2), (9, .if_icmp .ge 21, 3, 0, 0), (12, .iload_n 1, 1, 0, 0), (13, .aload_n 0, 1, 0, 0), (14, .getfield 11, 3, 7, 0)],
  [(17, .arraylength, 1, 0, 0), (18, .if_icmp .ge 12, 3, 0, 0), (21, .aload_n 0, 1, 0, 0), (22, .getfield 11, 3, 7, 0), (25, .iload_n 1, 1, 0, 0), (26, .aaload, 1, 0, 0), (27, .goto 4, 3, 0, 0), (30, .aconst_null, 1, 0, 0), (31, .areturn, 1, 0, 0)]]
def rX7_cell : xM := (⟨"PulledSignals$Web", "cell", "(I)LPulledSignals$Cell;"⟩, prog_9_method_4_code, tX7_cell, 7, 2, (some (Jvm.ClassFile.FieldType.object "PulledSignals$Cell")), 1, 0, 37, 35, 36, 2)
theorem ok_rX7_cell : xMok rX7_cell = true := by decide +kernel
def tX7_mayOwn : List (List xEnt) := [[(0, .aload_n 0, 1, 0, 0), (1, .iload_n 1, 1, 0, 0), (2, .invokevirtual 47, 3, 71, 0), (5, .astore_n 2, 1, 0, 0), (6, .iload_n 1, 1, 0, 0), (7, .iconst (-1), 1, 0, 0), (8, .if_icmp .eq 30, 3, 0, 0), (11, .aload_n 2, 1, 0, 0), (12, .ifnull 30, 3, 0, 0), (15, .aload_n 2, 1, 0, 0)],
  [(16, .getfield 51, 3, 1, 2), (19, .ifCond .ne 23, 3, 0, 0), (22, .aload_n 2, 1, 0, 0), (23, .getfield 55, 3, 1, 0), (26, .iconst 5, 1, 0, 0), (27, .if_icmp .eq 11, 3, 0, 0), (30, .aload_n 2, 1, 0, 0), (31, .getfield 55, 3, 1, 0)],
  [(34, .iconst 4, 1, 0, 0), (35, .if_icmp .ne 7, 3, 0, 0), (38, .iconst 1, 1, 0, 0), (39, .goto 4, 3, 0, 0), (42, .iconst 0, 1, 0, 0), (43, .ireturn, 1, 0, 0)]]
def rX7_mayOwn : xM := (⟨"PulledSignals$Web", "mayOwn", "(I)Z"⟩, prog_9_method_5_code, tX7_mayOwn, 7, 3, (some Jvm.ClassFile.FieldType.boolean), 1, 0, 33, 31, 32, 2)
theorem ok_rX7_mayOwn : xMok rX7_mayOwn = true := by decide +kernel
def tX7_addCell : List (List xEnt) := [[(0, .aload_n 0, 1, 0, 0), (1, .getfield 44, 3, 7, 2), (4, .ifCond .lt 15, 3, 0, 0), (7, .aload_n 0, 1, 0, 0), (8, .getfield 44, 3, 7, 2), (11, .aload_n 0, 1, 0, 0), (12, .getfield 11, 3, 7, 0), (15, .arraylength, 1, 0, 0)],
  [(16, .if_icmp .lt 5, 3, 0, 0), (19, .iconst (-1), 1, 0, 0), (20, .ireturn, 1, 0, 0), (21, .aload_n 0, 1, 0, 0), (22, .aload_n 0, 1, 0, 0), (23, .getfield 44, 3, 7, 2), (26, .invokevirtual 58, 3, 74, 0), (29, .astore 6, 2, 0, 0), (31, .aload 6, 2, 0, 0)],
  [(33, .ifnull 13, 3, 0, 0), (36, .aload 6, 2, 0, 0), (38, .iload_n 1, 1, 0, 0), (39, .iload_n 2, 1, 0, 0), (40, .lload_n 3, 1, 0, 0), (41, .aload 5, 2, 0, 0), (43, .invokevirtual 61, 3, 6, 0), (46, .aload_n 0, 1, 0, 0), (47, .dup, 1, 0, 0)],
  [(48, .getfield 44, 3, 7, 2), (51, .iconst 1, 1, 0, 0), (52, .iadd, 1, 0, 0), (53, .putfield 44, 3, 7, 2), (56, .aload_n 0, 1, 0, 0), (57, .getfield 44, 3, 7, 2), (60, .iconst 1, 1, 0, 0), (61, .isub, 1, 0, 0), (62, .ireturn, 1, 0, 0)]]
def rX7_addCell : xM := (⟨"PulledSignals$Web", "addCell", "(IIJLPulledSignals$Formula;)I"⟩, prog_9_method_6_code, tX7_addCell, 7, 7, (some Jvm.ClassFile.FieldType.int), 4, 0, 238, 236, 237, 2)
theorem ok_rX7_addCell : xMok rX7_addCell = true := by decide +kernel
def tX7_roomFor : List (List xEnt) := [[(0, .iload_n 1, 1, 0, 0), (1, .ifCond .lt 12, 3, 0, 0), (4, .iload_n 1, 1, 0, 0), (5, .aload_n 0, 1, 0, 0), (6, .getfield 11, 3, 7, 0), (9, .arraylength, 1, 0, 0), (10, .if_icmp .lt 5, 3, 0, 0), (13, .aconst_null, 1, 0, 0), (14, .areturn, 1, 0, 0), (15, .aload_n 0, 1, 0, 0)],
  [(16, .getfield 11, 3, 7, 0), (19, .iload_n 1, 1, 0, 0), (20, .aaload, 1, 0, 0), (21, .ifnonnull 16, 3, 0, 0), (24, .aload_n 0, 1, 0, 0), (25, .getfield 11, 3, 7, 0), (28, .iload_n 1, 1, 0, 0), (29, .new 9, 3, 1, 0)],
  [(32, .dup, 1, 0, 0), (33, .invokespecial 65, 3, 5, 5), (36, .aastore, 1, 0, 0), (37, .aload_n 0, 1, 0, 0), (38, .getfield 11, 3, 7, 0), (41, .iload_n 1, 1, 0, 0), (42, .aaload, 1, 0, 0), (43, .areturn, 1, 0, 0)]]
def rX7_roomFor : xM := (⟨"PulledSignals$Web", "roomFor", "(I)LPulledSignals$Cell;"⟩, prog_9_method_7_code, tX7_roomFor, 7, 2, (some (Jvm.ClassFile.FieldType.object "PulledSignals$Cell")), 1, 0, 243, 241, 100019, 2)
theorem ok_rX7_roomFor : xMok rX7_roomFor = true := by decide +kernel
def tX7_ownedBy : List (List xEnt) := [[(0, .iconst 0, 1, 0, 0), (1, .istore_n 2, 1, 0, 0), (2, .iconst 0, 1, 0, 0), (3, .istore_n 3, 1, 0, 0), (4, .iload_n 3, 1, 0, 0), (5, .aload_n 0, 1, 0, 0), (6, .getfield 44, 3, 7, 2), (9, .if_icmp .ge 54, 3, 0, 0), (12, .iload_n 3, 1, 0, 0), (13, .aload_n 0, 1, 0, 0), (14, .getfield 11, 3, 7, 0)],
  [(17, .arraylength, 1, 0, 0), (18, .if_icmp .ge 45, 3, 0, 0), (21, .aload_n 0, 1, 0, 0), (22, .getfield 11, 3, 7, 0), (25, .iload_n 3, 1, 0, 0), (26, .aaload, 1, 0, 0), (27, .astore 4, 2, 0, 0), (29, .aload 4, 2, 0, 0), (31, .ifnull 26, 3, 0, 0)],
  [(34, .aload 4, 2, 0, 0), (36, .getfield 51, 3, 1, 2), (39, .ifCond .ne 18, 3, 0, 0), (42, .aload 4, 2, 0, 0), (44, .getfield 76, 3, 1, 1), (47, .iload_n 1, 1, 0, 0)],
  [(48, .if_icmp .ne 9, 3, 0, 0), (51, .iload_n 2, 1, 0, 0), (52, .iconst 1, 1, 0, 0), (53, .iload_n 3, 1, 0, 0), (54, .ishl, 1, 0, 0), (55, .ior, 1, 0, 0), (56, .istore_n 2, 1, 0, 0), (57, .iinc 3 1, 3, 0, 0), (60, .goto (-56), 3, 0, 0), (63, .iload_n 2, 1, 0, 0)],
  [(64, .ireturn, 1, 0, 0)]]
def rX7_ownedBy : xM := (⟨"PulledSignals$Web", "ownedBy", "(I)I"⟩, prog_9_method_9_code, tX7_ownedBy, 7, 5, (some Jvm.ClassFile.FieldType.int), 1, 0, 353, 351, 352, 2)
theorem ok_rX7_ownedBy : xMok rX7_ownedBy = true := by decide +kernel
def tX7_addRead : List (List xEnt) := [[(0, .aload_n 0, 1, 0, 0), (1, .iload_n 1, 1, 0, 0), (2, .invokevirtual 47, 3, 71, 0), (5, .astore_n 3, 1, 0, 0), (6, .aload_n 3, 1, 0, 0), (7, .ifnull 29, 3, 0, 0), (10, .iload_n 2, 1, 0, 0), (11, .ifCond .lt 25, 3, 0, 0), (14, .iload_n 2, 1, 0, 0), (15, .aload_n 0, 1, 0, 0)],
  [(16, .getfield 17, 3, 7, 1), (19, .arraylength, 1, 0, 0), (20, .if_icmp .ge 16, 3, 0, 0), (23, .aload_n 0, 1, 0, 0), (24, .getfield 17, 3, 7, 1), (27, .iload_n 2, 1, 0, 0), (28, .iaload, 1, 0, 0), (29, .iload_n 1, 1, 0, 0), (30, .ishr, 1, 0, 0), (31, .iconst 1, 1, 0, 0)],
  [(32, .iand, 1, 0, 0), (33, .ifCond .eq 4, 3, 0, 0), (36, .return_, 1, 0, 0), (37, .aload_n 3, 1, 0, 0), (38, .getfield 79, 3, 1, 9), (41, .iload_n 2, 1, 0, 0), (42, .invokevirtual 82, 3, 47, 0), (45, .aload_n 0, 1, 0, 0), (46, .getfield 17, 3, 7, 1)],
  [(49, .iload_n 2, 1, 0, 0), (50, .dup2, 1, 0, 0), (51, .iaload, 1, 0, 0), (52, .iconst 1, 1, 0, 0), (53, .iload_n 1, 1, 0, 0), (54, .ishl, 1, 0, 0), (55, .ior, 1, 0, 0), (56, .iastore, 1, 0, 0), (57, .return_, 1, 0, 0)]]
def rX7_addRead : xM := (⟨"PulledSignals$Web", "addRead", "(II)V"⟩, prog_9_method_10_code, tX7_addRead, 7, 4, none, 2, 0, 421, 419, 420, 2)
theorem ok_rX7_addRead : xMok rX7_addRead = true := by decide +kernel
def tX7_clearReads : List (List xEnt) := [[(0, .aload_n 0, 1, 0, 0), (1, .iload_n 1, 1, 0, 0), (2, .invokevirtual 47, 3, 71, 0), (5, .astore_n 2, 1, 0, 0), (6, .aload_n 2, 1, 0, 0), (7, .ifnonnull 4, 3, 0, 0), (10, .return_, 1, 0, 0), (11, .iconst 0, 1, 0, 0), (12, .istore_n 3, 1, 0, 0), (13, .iload_n 3, 1, 0, 0), (14, .aload_n 2, 1, 0, 0), (15, .getfield 79, 3, 1, 9)],
  [(18, .invokevirtual 85, 3, 41, 0), (21, .if_icmp .ge 49, 3, 0, 0), (24, .aload_n 2, 1, 0, 0), (25, .getfield 79, 3, 1, 9), (28, .iload_n 3, 1, 0, 0), (29, .invokevirtual 89, 3, 43, 0)],
  [(32, .istore 4, 2, 0, 0), (34, .iload 4, 2, 0, 0), (36, .ifCond .lt 28, 3, 0, 0), (39, .iload 4, 2, 0, 0), (41, .aload_n 0, 1, 0, 0), (42, .getfield 17, 3, 7, 1), (45, .arraylength, 1, 0, 0), (46, .if_icmp .ge 18, 3, 0, 0)],
  [(49, .aload_n 0, 1, 0, 0), (50, .getfield 17, 3, 7, 1), (53, .iload 4, 2, 0, 0), (55, .dup2, 1, 0, 0), (56, .iaload, 1, 0, 0), (57, .iconst 1, 1, 0, 0), (58, .iload_n 1, 1, 0, 0), (59, .ishl, 1, 0, 0), (60, .iconst (-1), 1, 0, 0), (61, .ixor, 1, 0, 0), (62, .iand, 1, 0, 0), (63, .iastore, 1, 0, 0)],
  [(64, .iinc 3 1, 3, 0, 0), (67, .goto (-54), 3, 0, 0), (70, .aload_n 2, 1, 0, 0), (71, .getfield 79, 3, 1, 9), (74, .invokevirtual 93, 3, 52, 0), (77, .return_, 1, 0, 0)]]
def rX7_clearReads : xM := (⟨"PulledSignals$Web", "clearReads", "(I)V"⟩, prog_9_method_11_code, tX7_clearReads, 7, 5, none, 1, 0, 342, 340, 341, 2)
theorem ok_rX7_clearReads : xMok rX7_clearReads = true := by decide +kernel
def tX7_readersOf : List (List xEnt) := [[(0, .iload_n 1, 1, 0, 0), (1, .ifCond .lt 21, 3, 0, 0), (4, .iload_n 1, 1, 0, 0), (5, .aload_n 0, 1, 0, 0), (6, .getfield 17, 3, 7, 1), (9, .arraylength, 1, 0, 0), (10, .if_icmp .ge 12, 3, 0, 0), (13, .aload_n 0, 1, 0, 0), (14, .getfield 17, 3, 7, 1)],
  [(17, .iload_n 1, 1, 0, 0), (18, .iaload, 1, 0, 0), (19, .goto 4, 3, 0, 0), (22, .iconst 0, 1, 0, 0), (23, .ireturn, 1, 0, 0)]]
def rX7_readersOf : xM := (⟨"PulledSignals$Web", "readersOf", "(I)I"⟩, prog_9_method_12_code, tX7_readersOf, 7, 2, (some Jvm.ClassFile.FieldType.int), 1, 0, 362, 360, 361, 2)
theorem ok_rX7_readersOf : xMok rX7_readersOf = true := by decide +kernel
def tX7_furtherReadersOf : List (List xEnt) := [[(0, .iconst 0, 1, 0, 0), (1, .istore_n 2, 1, 0, 0), (2, .aload_n 0, 1, 0, 0), (3, .iload_n 1, 1, 0, 0), (4, .invokevirtual 96, 3, 78, 0), (7, .istore_n 3, 1, 0, 0), (8, .iconst 0, 1, 0, 0), (9, .istore 4, 2, 0, 0), (11, .iload 4, 2, 0, 0), (13, .bipush 24, 2, 0, 0), (15, .if_icmp .gt 68, 3, 0, 0)],
  [(18, .iload_n 3, 1, 0, 0), (19, .ifCond .eq 64, 3, 0, 0), (22, .iconst 0, 1, 0, 0), (23, .istore 5, 2, 0, 0), (25, .iconst 0, 1, 0, 0), (26, .istore 6, 2, 0, 0), (28, .iload 6, 2, 0, 0), (30, .aload_n 0, 1, 0, 0), (31, .getfield 17, 3, 7, 1)],
  [(34, .arraylength, 1, 0, 0), (35, .if_icmp .ge 30, 3, 0, 0), (38, .iload_n 3, 1, 0, 0), (39, .iload 6, 2, 0, 0), (41, .ishr, 1, 0, 0), (42, .iconst 1, 1, 0, 0), (43, .iand, 1, 0, 0), (44, .ifCond .eq 15, 3, 0, 0), (47, .iload 5, 2, 0, 0)],
  [(49, .aload_n 0, 1, 0, 0), (50, .getfield 17, 3, 7, 1), (53, .iload 6, 2, 0, 0), (55, .iaload, 1, 0, 0), (56, .ior, 1, 0, 0), (57, .istore 5, 2, 0, 0), (59, .iinc 6 1, 3, 0, 0), (62, .goto (-34), 3, 0, 0)],
  [(65, .iload 5, 2, 0, 0), (67, .iload_n 2, 1, 0, 0), (68, .iconst (-1), 1, 0, 0), (69, .ixor, 1, 0, 0), (70, .iand, 1, 0, 0), (71, .istore_n 3, 1, 0, 0), (72, .iload_n 2, 1, 0, 0), (73, .iload 5, 2, 0, 0), (75, .ior, 1, 0, 0), (76, .istore_n 2, 1, 0, 0), (77, .iinc 4 1, 3, 0, 0)],
  [(80, .goto (-69), 3, 0, 0), (83, .iload_n 2, 1, 0, 0), (84, .ireturn, 1, 0, 0)]]
def rX7_furtherReadersOf : xM := (⟨"PulledSignals$Web", "furtherReadersOf", "(I)I"⟩, prog_9_method_13_code, tX7_furtherReadersOf, 7, 7, (some Jvm.ClassFile.FieldType.int), 1, 0, 366, 364, 365, 2)
theorem ok_rX7_furtherReadersOf : xMok rX7_furtherReadersOf = true := by decide +kernel
def tX7_reachedFrom : List (List xEnt) := [[(0, .iconst 0, 1, 0, 0), (1, .istore_n 2, 1, 0, 0), (2, .iconst 1, 1, 0, 0), (3, .iload_n 1, 1, 0, 0), (4, .ishl, 1, 0, 0), (5, .istore_n 3, 1, 0, 0), (6, .iconst 0, 1, 0, 0), (7, .istore 4, 2, 0, 0), (9, .iload 4, 2, 0, 0), (11, .bipush 24, 2, 0, 0), (13, .if_icmp .gt 68, 3, 0, 0)],
  [(16, .iload_n 3, 1, 0, 0), (17, .ifCond .eq 64, 3, 0, 0), (20, .iconst 0, 1, 0, 0), (21, .istore 5, 2, 0, 0), (23, .iconst 0, 1, 0, 0), (24, .istore 6, 2, 0, 0), (26, .iload 6, 2, 0, 0), (28, .aload_n 0, 1, 0, 0), (29, .getfield 17, 3, 7, 1)],
  [(32, .arraylength, 1, 0, 0), (33, .if_icmp .ge 30, 3, 0, 0), (36, .aload_n 0, 1, 0, 0), (37, .getfield 17, 3, 7, 1), (40, .iload 6, 2, 0, 0), (42, .iaload, 1, 0, 0), (43, .iload_n 3, 1, 0, 0), (44, .iand, 1, 0, 0), (45, .ifCond .eq 12, 3, 0, 0)],
  [(48, .iload 5, 2, 0, 0), (50, .iconst 1, 1, 0, 0), (51, .iload 6, 2, 0, 0), (53, .ishl, 1, 0, 0), (54, .ior, 1, 0, 0), (55, .istore 5, 2, 0, 0), (57, .iinc 6 1, 3, 0, 0), (60, .goto (-34), 3, 0, 0), (63, .iload 5, 2, 0, 0)],
  [(65, .iload_n 2, 1, 0, 0), (66, .iconst (-1), 1, 0, 0), (67, .ixor, 1, 0, 0), (68, .iand, 1, 0, 0), (69, .istore_n 3, 1, 0, 0), (70, .iload_n 2, 1, 0, 0), (71, .iload 5, 2, 0, 0), (73, .ior, 1, 0, 0), (74, .istore_n 2, 1, 0, 0), (75, .iinc 4 1, 3, 0, 0), (78, .goto (-69), 3, 0, 0)],
  [(81, .iload_n 2, 1, 0, 0), (82, .ireturn, 1, 0, 0)]]
def rX7_reachedFrom : xM := (⟨"PulledSignals$Web", "reachedFrom", "(I)I"⟩, prog_9_method_14_code, tX7_reachedFrom, 7, 7, (some Jvm.ClassFile.FieldType.int), 1, 0, 489, 487, 488, 2)
theorem ok_rX7_reachedFrom : xMok rX7_reachedFrom = true := by decide +kernel
def tX7_goneCount : List (List xEnt) := [[(0, .iconst 0, 1, 0, 0), (1, .istore_n 1, 1, 0, 0), (2, .iconst 0, 1, 0, 0), (3, .istore_n 2, 1, 0, 0), (4, .iload_n 2, 1, 0, 0), (5, .aload_n 0, 1, 0, 0), (6, .getfield 44, 3, 7, 2), (9, .if_icmp .ge 39, 3, 0, 0), (12, .iload_n 2, 1, 0, 0), (13, .aload_n 0, 1, 0, 0), (14, .getfield 11, 3, 7, 0)],
  [(17, .arraylength, 1, 0, 0), (18, .if_icmp .ge 30, 3, 0, 0), (21, .aload_n 0, 1, 0, 0), (22, .getfield 11, 3, 7, 0), (25, .iload_n 2, 1, 0, 0), (26, .aaload, 1, 0, 0), (27, .astore_n 3, 1, 0, 0), (28, .aload_n 3, 1, 0, 0), (29, .ifnull 13, 3, 0, 0)],
  [(32, .aload_n 3, 1, 0, 0), (33, .getfield 51, 3, 1, 2), (36, .ifCond .eq 6, 3, 0, 0), (39, .iinc 1 1, 3, 0, 0), (42, .iinc 2 1, 3, 0, 0), (45, .goto (-41), 3, 0, 0)],
  [(48, .iload_n 1, 1, 0, 0), (49, .ireturn, 1, 0, 0)]]
def rX7_goneCount : xM := (⟨"PulledSignals$Web", "goneCount", "()I"⟩, prog_9_method_15_code, tX7_goneCount, 7, 4, (some Jvm.ClassFile.FieldType.int), 0, 0, 537, 535, 536, 2)
theorem ok_rX7_goneCount : xMok rX7_goneCount = true := by decide +kernel
def tX7_allRuns : List (List xEnt) := [[(0, .iconst 0, 1, 0, 0), (1, .istore_n 1, 1, 0, 0), (2, .iconst 0, 1, 0, 0), (3, .istore_n 2, 1, 0, 0), (4, .iload_n 2, 1, 0, 0), (5, .aload_n 0, 1, 0, 0), (6, .getfield 44, 3, 7, 2), (9, .if_icmp .ge 36, 3, 0, 0), (12, .iload_n 2, 1, 0, 0), (13, .aload_n 0, 1, 0, 0), (14, .getfield 11, 3, 7, 0)],
  [(17, .arraylength, 1, 0, 0), (18, .if_icmp .ge 27, 3, 0, 0), (21, .aload_n 0, 1, 0, 0), (22, .getfield 11, 3, 7, 0), (25, .iload_n 2, 1, 0, 0), (26, .aaload, 1, 0, 0), (27, .astore_n 3, 1, 0, 0), (28, .aload_n 3, 1, 0, 0), (29, .ifnull 10, 3, 0, 0)],
  [(32, .iload_n 1, 1, 0, 0), (33, .aload_n 3, 1, 0, 0), (34, .getfield 102, 3, 1, 6), (37, .iadd, 1, 0, 0), (38, .istore_n 1, 1, 0, 0), (39, .iinc 2 1, 3, 0, 0), (42, .goto (-38), 3, 0, 0), (45, .iload_n 1, 1, 0, 0), (46, .ireturn, 1, 0, 0)]]
def rX7_allRuns : xM := (⟨"PulledSignals$Web", "allRuns", "()I"⟩, prog_9_method_17_code, tX7_allRuns, 7, 4, (some Jvm.ClassFile.FieldType.int), 0, 0, 545, 543, 544, 2)
theorem ok_rX7_allRuns : xMok rX7_allRuns = true := by decide +kernel
def tX7_addToLog : List (List xEnt) := [[(0, .aload_n 0, 1, 0, 0), (1, .getfield 30, 3, 7, 4), (4, .invokevirtual 85, 3, 41, 0), (7, .istore 4, 2, 0, 0), (9, .iload 4, 2, 0, 0), (11, .ifCond .lt 21, 3, 0, 0), (14, .iload 4, 2, 0, 0)],
  [(16, .aload_n 0, 1, 0, 0), (17, .getfield 33, 3, 7, 5), (20, .arraylength, 1, 0, 0), (21, .if_icmp .ge 11, 3, 0, 0), (24, .aload_n 0, 1, 0, 0), (25, .getfield 33, 3, 7, 5), (28, .iload 4, 2, 0, 0), (30, .lload_n 2, 1, 0, 0), (31, .lastore, 1, 0, 0)],
  [(32, .aload_n 0, 1, 0, 0), (33, .getfield 30, 3, 7, 4), (36, .iload_n 1, 1, 0, 0), (37, .invokevirtual 82, 3, 47, 0), (40, .return_, 1, 0, 0)]]
def rX7_addToLog : xM := (⟨"PulledSignals$Web", "addToLog", "(IJ)V"⟩, prog_9_method_18_code, tX7_addToLog, 7, 5, none, 2, 0, 440, 438, 439, 2)
theorem ok_rX7_addToLog : xMok rX7_addToLog = true := by decide +kernel
def tX8_init : List (List xEnt) := [[(0, .aload_n 0, 1, 0, 0), (1, .invokespecial 3, 3, 0, 9), (4, .aload_n 0, 1, 0, 0), (5, .new 9, 3, 7, 0), (8, .dup, 1, 0, 0), (9, .invokespecial 11, 3, 68, 5), (12, .putfield 12, 3, 8, 0), (15, .aload_n 0, 1, 0, 0)],
  [(16, .new 9, 3, 7, 0), (19, .dup, 1, 0, 0), (20, .invokespecial 11, 3, 68, 5), (23, .putfield 16, 3, 8, 1), (26, .aload_n 0, 1, 0, 0), (27, .new 19, 3, 5, 0), (30, .dup, 1, 0, 0), (31, .aload_n 0, 1, 0, 0)],
  [(32, .getfield 12, 3, 8, 0), (35, .invokespecial 21, 3, 55, 4), (38, .putfield 24, 3, 8, 3), (41, .aload_n 0, 1, 0, 0), (42, .new 28, 3, 0, 0), (45, .dup, 1, 0, 0), (46, .aload_n 0, 1, 0, 0), (47, .getfield 12, 3, 8, 0)],
  [(50, .invokespecial 30, 3, 0, 4), (53, .putfield 31, 3, 8, 4), (56, .aload_n 0, 1, 0, 0), (57, .new 35, 3, 3, 0), (60, .dup, 1, 0, 0), (61, .invokespecial 37, 3, 17, 5)],
  [(64, .putfield 38, 3, 8, 5), (67, .aload_n 0, 1, 0, 0), (68, .new 42, 3, 4, 0), (71, .dup, 1, 0, 0), (72, .sipush 250, 3, 0, 0), (75, .invokespecial 44, 3, 40, 4), (78, .putfield 47, 3, 8, 6)],
  [(81, .aload_n 0, 1, 0, 0), (82, .bipush 8, 2, 0, 0), (84, .anewarray 51, 3, 4, 0), (87, .putfield 53, 3, 8, 7), (90, .aload_n 0, 1, 0, 0), (91, .iconst 5, 1, 0, 0), (92, .newarray .int, 2, 0, 0), (94, .putfield 57, 3, 8, 8)],
  [(97, .iconst 0, 1, 0, 0), (98, .istore_n 1, 1, 0, 0), (99, .iload_n 1, 1, 0, 0), (100, .aload_n 0, 1, 0, 0), (101, .getfield 53, 3, 8, 7), (104, .arraylength, 1, 0, 0), (105, .if_icmp .ge 22, 3, 0, 0), (108, .aload_n 0, 1, 0, 0), (109, .getfield 53, 3, 8, 7)],
  [(112, .iload_n 1, 1, 0, 0), (113, .new 51, 3, 6, 0), (116, .dup, 1, 0, 0), (117, .invokespecial 61, 3, 66, 5), (120, .aastore, 1, 0, 0), (121, .iinc 1 1, 3, 0, 0), (124, .goto (-25), 3, 0, 0), (127, .return_, 1, 0, 0)]]
def rX8_init : xM := (⟨"PulledSignals", "<init>", "()V"⟩, prog_1_method_1_code, tX8_init, 8, 2, none, 0, 2, 642, 641, 200000, 1)
theorem ok_rX8_init : xMok rX8_init = true := by decide +kernel
def tX8_holds : List (List xEnt) := [[(0, .aload_n 0, 1, 0, 0), (1, .iload_n 1, 1, 0, 0), (2, .invokevirtual 62, 3, 105, 0), (5, .astore_n 2, 1, 0, 0), (6, .aload_n 2, 1, 0, 0), (7, .ifnonnull 7, 3, 0, 0), (10, .iconst (-1), 1, 0, 0), (11, .goto 7, 3, 0, 0), (14, .aload_n 2, 1, 0, 0), (15, .invokevirtual 90, 3, 67, 0)],
  [(18, .ireturn, 1, 0, 0)]]
def rX8_holds : xM := (⟨"PulledSignals", "holds", "(I)I"⟩, prog_1_method_6_code, tX8_holds, 8, 3, (some Jvm.ClassFile.FieldType.int), 1, 0, 553, 551, 552, 1)
theorem ok_rX8_holds : xMok rX8_holds = true := by decide +kernel
def tX8_feed : List (List xEnt) := [[(0, .iload_n 1, 1, 0, 0), (1, .ifCond .lt 10, 3, 0, 0), (4, .iload_n 1, 1, 0, 0), (5, .sipush 255, 3, 0, 0), (8, .if_icmp .le 10, 3, 0, 0), (11, .aload_n 0, 1, 0, 0), (12, .bipush (-2), 2, 0, 0), (14, .invokevirtual 66, 3, 102, 0)],
  [(17, .ireturn, 1, 0, 0), (18, .aload_n 0, 1, 0, 0), (19, .getfield 47, 3, 8, 6), (22, .invokevirtual 135, 3, 41, 0), (25, .sipush 250, 3, 0, 0), (28, .if_icmp .lt 10, 3, 0, 0), (31, .aload_n 0, 1, 0, 0)],
  [(32, .bipush (-6), 2, 0, 0), (34, .invokevirtual 66, 3, 102, 0), (37, .ireturn, 1, 0, 0), (38, .aload_n 0, 1, 0, 0), (39, .getfield 47, 3, 8, 6), (42, .iload_n 1, 1, 0, 0), (43, .invokevirtual 153, 3, 47, 0), (46, .aload_n 0, 1, 0, 0), (47, .getfield 47, 3, 8, 6)],
  [(50, .invokevirtual 135, 3, 41, 0), (53, .ireturn, 1, 0, 0)]]
def rX8_feed : xM := (⟨"PulledSignals", "feed", "(I)I"⟩, prog_1_method_10_code, tX8_feed, 8, 2, (some Jvm.ClassFile.FieldType.int), 1, 0, 635, 633, 634, 1)
theorem ok_rX8_feed : xMok rX8_feed = true := by decide +kernel
def tX8_source : List (List xEnt) := [[(0, .aload_n 0, 1, 0, 0), (1, .iconst 1, 1, 0, 0), (2, .iload_n 2, 1, 0, 0), (3, .iload_n 1, 1, 0, 0), (4, .invokevirtual 159, 3, 88, 0), (7, .ireturn, 1, 0, 0)]]
def rX8_source : xM := (⟨"PulledSignals", "source", "(II)I"⟩, prog_1_method_12_code, tX8_source, 8, 3, (some Jvm.ClassFile.FieldType.int), 2, 0, 816, 814, 815, 1)
theorem ok_rX8_source : xMok rX8_source = true := by decide +kernel
def tX8_newCell : List (List xEnt) := [[(0, .aload_n 0, 1, 0, 0), (1, .getfield 12, 3, 8, 0), (4, .iload_n 2, 1, 0, 0), (5, .invokevirtual 163, 3, 72, 0), (8, .ifCond .ne 10, 3, 0, 0), (11, .aload_n 0, 1, 0, 0), (12, .bipush (-2), 2, 0, 0), (14, .invokevirtual 66, 3, 102, 0)],
  [(17, .ireturn, 1, 0, 0), (18, .aload_n 0, 1, 0, 0), (19, .getfield 12, 3, 8, 0), (22, .invokevirtual 166, 3, 70, 0), (25, .ifCond .eq 10, 3, 0, 0), (28, .aload_n 0, 1, 0, 0), (29, .bipush (-6), 2, 0, 0), (31, .invokevirtual 66, 3, 102, 0)],
  [(34, .ireturn, 1, 0, 0), (35, .aload_n 0, 1, 0, 0), (36, .getfield 12, 3, 8, 0), (39, .iload_n 1, 1, 0, 0), (40, .iload_n 2, 1, 0, 0), (41, .iload_n 3, 1, 0, 0), (42, .i2l, 1, 0, 0), (43, .aconst_null, 1, 0, 0), (44, .invokevirtual 169, 3, 73, 0), (47, .ireturn, 1, 0, 0)]]
def rX8_newCell : xM := (⟨"PulledSignals", "newCell", "(III)I"⟩, prog_1_method_14_code, tX8_newCell, 8, 4, (some Jvm.ClassFile.FieldType.int), 3, 0, 820, 819, 100036, 1)
theorem ok_rX8_newCell : xMok rX8_newCell = true := by decide +kernel
def tX8_memo : List (List xEnt) := [[(0, .aload_n 0, 1, 0, 0), (1, .iconst 3, 1, 0, 0), (2, .iload_n 1, 1, 0, 0), (3, .invokevirtual 173, 3, 91, 0), (6, .istore_n 2, 1, 0, 0), (7, .aload_n 0, 1, 0, 0), (8, .getfield 47, 3, 8, 6), (11, .invokevirtual 156, 3, 52, 0), (14, .iload_n 2, 1, 0, 0), (15, .ireturn, 1, 0, 0)]]
def rX8_memo : xM := (⟨"PulledSignals", "memo", "(I)I"⟩, prog_1_method_15_code, tX8_memo, 8, 3, (some Jvm.ClassFile.FieldType.int), 1, 0, 1076, 1074, 1075, 1)
theorem ok_rX8_memo : xMok rX8_memo = true := by decide +kernel
def tX8_effect : List (List xEnt) := [[(0, .aload_n 0, 1, 0, 0), (1, .iconst 4, 1, 0, 0), (2, .iload_n 1, 1, 0, 0), (3, .invokevirtual 173, 3, 91, 0), (6, .istore_n 2, 1, 0, 0), (7, .aload_n 0, 1, 0, 0), (8, .getfield 47, 3, 8, 6), (11, .invokevirtual 156, 3, 52, 0), (14, .iload_n 2, 1, 0, 0), (15, .ifCond .lt 21, 3, 0, 0)],
  [(18, .aload_n 0, 1, 0, 0), (19, .getfield 12, 3, 8, 0), (22, .getfield 177, 3, 7, 3), (25, .iload_n 2, 1, 0, 0), (26, .invokevirtual 153, 3, 47, 0), (29, .aload_n 0, 1, 0, 0), (30, .getfield 24, 3, 8, 3)],
  [(33, .invokevirtual 180, 3, 57, 0), (36, .iload_n 2, 1, 0, 0), (37, .ireturn, 1, 0, 0)]]
def rX8_effect : xM := (⟨"PulledSignals", "effect", "(I)I"⟩, prog_1_method_16_code, tX8_effect, 8, 3, (some Jvm.ClassFile.FieldType.int), 1, 0, 24, 22, 23, 1)
theorem ok_rX8_effect : xMok rX8_effect = true := by decide +kernel
def tX8_newComputed : List (List xEnt) := [[(0, .aload_n 0, 1, 0, 0), (1, .getfield 12, 3, 8, 0), (4, .iload_n 2, 1, 0, 0), (5, .invokevirtual 163, 3, 72, 0), (8, .ifCond .ne 10, 3, 0, 0), (11, .aload_n 0, 1, 0, 0), (12, .bipush (-2), 2, 0, 0), (14, .invokevirtual 66, 3, 102, 0)],
  [(17, .ireturn, 1, 0, 0), (18, .aload_n 0, 1, 0, 0), (19, .getfield 38, 3, 8, 5), (22, .aload_n 0, 1, 0, 0), (23, .getfield 47, 3, 8, 6), (26, .aload_n 0, 1, 0, 0), (27, .getfield 12, 3, 8, 0), (30, .invokevirtual 183, 3, 69, 0)],
  [(33, .invokevirtual 186, 3, 19, 0), (36, .astore_n 3, 1, 0, 0), (37, .aload_n 3, 1, 0, 0), (38, .ifnonnull 8, 3, 0, 0), (41, .aload_n 0, 1, 0, 0), (42, .invokevirtual 190, 3, 104, 0), (45, .ireturn, 1, 0, 0), (46, .aload_n 0, 1, 0, 0), (47, .getfield 12, 3, 8, 0)],
  [(50, .invokevirtual 166, 3, 70, 0), (53, .ifCond .eq 10, 3, 0, 0), (56, .aload_n 0, 1, 0, 0), (57, .bipush (-6), 2, 0, 0), (59, .invokevirtual 66, 3, 102, 0), (62, .ireturn, 1, 0, 0), (63, .aload_n 0, 1, 0, 0)],
  [(64, .getfield 12, 3, 8, 0), (67, .iload_n 1, 1, 0, 0), (68, .iload_n 2, 1, 0, 0), (69, .lconst 0, 1, 0, 0), (70, .aload_n 3, 1, 0, 0), (71, .invokevirtual 169, 3, 73, 0), (74, .ireturn, 1, 0, 0)]]
def rX8_newComputed : xM := (⟨"PulledSignals", "newComputed", "(II)I"⟩, prog_1_method_17_code, tX8_newComputed, 8, 4, (some Jvm.ClassFile.FieldType.int), 2, 0, 29, 27, 100000, 1)
theorem ok_rX8_newComputed : xMok rX8_newComputed = true := by decide +kernel
def tX8_write : List (List xEnt) := [[(0, .aload_n 0, 1, 0, 0), (1, .getfield 12, 3, 8, 0), (4, .iload_n 1, 1, 0, 0), (5, .invokevirtual 105, 3, 71, 0), (8, .astore_n 3, 1, 0, 0), (9, .aload_n 3, 1, 0, 0), (10, .ifnull 11, 3, 0, 0), (13, .aload_n 3, 1, 0, 0), (14, .getfield 204, 3, 1, 0)],
  [(17, .iconst 1, 1, 0, 0), (18, .if_icmp .eq 10, 3, 0, 0), (21, .aload_n 0, 1, 0, 0), (22, .bipush (-2), 2, 0, 0), (24, .invokevirtual 66, 3, 102, 0), (27, .ireturn, 1, 0, 0), (28, .aload_n 3, 1, 0, 0), (29, .getfield 196, 3, 1, 2)],
  [(32, .ifCond .eq 10, 3, 0, 0), (35, .aload_n 0, 1, 0, 0), (36, .bipush (-5), 2, 0, 0), (38, .invokevirtual 66, 3, 102, 0), (41, .ireturn, 1, 0, 0), (42, .aload_n 0, 1, 0, 0), (43, .getfield 24, 3, 8, 3), (46, .iload_n 1, 1, 0, 0), (47, .iload_n 2, 1, 0, 0)],
  [(48, .invokevirtual 207, 3, 58, 0), (51, .pop, 1, 0, 0), (52, .aload_n 0, 1, 0, 0), (53, .getfield 24, 3, 8, 3), (56, .invokevirtual 180, 3, 57, 0), (59, .aload_n 3, 1, 0, 0), (60, .getfield 128, 3, 1, 5), (63, .l2i, 1, 0, 0)],
  [(64, .ireturn, 1, 0, 0)]]
def rX8_write : xM := (⟨"PulledSignals", "write", "(II)I"⟩, prog_1_method_20_code, tX8_write, 8, 4, (some Jvm.ClassFile.FieldType.int), 2, 0, 444, 442, 443, 1)
theorem ok_rX8_write : xMok rX8_write = true := by decide +kernel
def tX8_begin : List (List xEnt) := [[(0, .aload_n 0, 1, 0, 0), (1, .getfield 12, 3, 8, 0), (4, .dup, 1, 0, 0), (5, .getfield 210, 3, 7, 7), (8, .iconst 1, 1, 0, 0), (9, .iadd, 1, 0, 0), (10, .putfield 210, 3, 7, 7), (13, .aload_n 0, 1, 0, 0), (14, .getfield 12, 3, 8, 0)],
  [(17, .getfield 210, 3, 7, 7), (20, .ireturn, 1, 0, 0)]]
def rX8_begin : xM := (⟨"PulledSignals", "begin", "()I"⟩, prog_1_method_21_code, tX8_begin, 8, 1, (some Jvm.ClassFile.FieldType.int), 0, 0, 453, 451, 452, 1)
theorem ok_rX8_begin : xMok rX8_begin = true := by decide +kernel
def tX8_end : List (List xEnt) := [[(0, .aload_n 0, 1, 0, 0), (1, .getfield 12, 3, 8, 0), (4, .getfield 210, 3, 7, 7), (7, .ifCond .gt 10, 3, 0, 0), (10, .aload_n 0, 1, 0, 0), (11, .bipush (-5), 2, 0, 0), (13, .invokevirtual 66, 3, 102, 0)],
  [(16, .ireturn, 1, 0, 0), (17, .aload_n 0, 1, 0, 0), (18, .getfield 12, 3, 8, 0), (21, .dup, 1, 0, 0), (22, .getfield 210, 3, 7, 7), (25, .iconst 1, 1, 0, 0), (26, .isub, 1, 0, 0), (27, .putfield 210, 3, 7, 7), (30, .aload_n 0, 1, 0, 0), (31, .getfield 24, 3, 8, 3)],
  [(34, .invokevirtual 180, 3, 57, 0), (37, .aload_n 0, 1, 0, 0), (38, .getfield 12, 3, 8, 0), (41, .getfield 210, 3, 7, 7), (44, .ireturn, 1, 0, 0)]]
def rX8_end : xM := (⟨"PulledSignals", "end", "()I"⟩, prog_1_method_22_code, tX8_end, 8, 1, (some Jvm.ClassFile.FieldType.int), 0, 0, 457, 455, 456, 1)
theorem ok_rX8_end : xMok rX8_end = true := by decide +kernel
def tX8_read : List (List xEnt) := [[(0, .aload_n 0, 1, 0, 0), (1, .getfield 12, 3, 8, 0), (4, .iload_n 1, 1, 0, 0), (5, .invokevirtual 105, 3, 71, 0), (8, .astore_n 2, 1, 0, 0), (9, .aload_n 2, 1, 0, 0), (10, .ifnull 11, 3, 0, 0), (13, .aload_n 2, 1, 0, 0), (14, .getfield 204, 3, 1, 0)],
  [(17, .iconst 5, 1, 0, 0), (18, .if_icmp .ne 10, 3, 0, 0), (21, .aload_n 0, 1, 0, 0), (22, .bipush (-2), 2, 0, 0), (24, .invokevirtual 219, 3, 103, 0), (27, .lreturn, 1, 0, 0), (28, .aload_n 2, 1, 0, 0), (29, .getfield 196, 3, 1, 2)],
  [(32, .ifCond .eq 10, 3, 0, 0), (35, .aload_n 0, 1, 0, 0), (36, .bipush (-5), 2, 0, 0), (38, .invokevirtual 219, 3, 103, 0), (41, .lreturn, 1, 0, 0), (42, .aload_n 2, 1, 0, 0), (43, .getfield 204, 3, 1, 0), (46, .iconst 3, 1, 0, 0), (47, .if_icmp .ne 11, 3, 0, 0)],
  [(50, .aload_n 0, 1, 0, 0), (51, .getfield 24, 3, 8, 3), (54, .iload_n 1, 1, 0, 0), (55, .invokevirtual 222, 3, 56, 0), (58, .aload_n 2, 1, 0, 0), (59, .getfield 225, 3, 1, 7), (62, .lstore_n 3, 1, 0, 0), (63, .aload_n 0, 1, 0, 0)],
  [(64, .getfield 24, 3, 8, 3), (67, .invokevirtual 180, 3, 57, 0), (70, .lload_n 3, 1, 0, 0), (71, .lreturn, 1, 0, 0)]]
def rX8_read : xM := (⟨"PulledSignals", "read", "(I)J"⟩, prog_1_method_24_code, tX8_read, 8, 5, (some Jvm.ClassFile.FieldType.long), 1, 0, 461, 459, 460, 1)
theorem ok_rX8_read : xMok rX8_read = true := by decide +kernel
def tX8_kept : List (List xEnt) := [[(0, .aload_n 0, 1, 0, 0), (1, .getfield 12, 3, 8, 0), (4, .iload_n 1, 1, 0, 0), (5, .invokevirtual 105, 3, 71, 0), (8, .astore_n 2, 1, 0, 0), (9, .aload_n 2, 1, 0, 0), (10, .ifnull 11, 3, 0, 0), (13, .aload_n 2, 1, 0, 0), (14, .getfield 204, 3, 1, 0)],
  [(17, .iconst 5, 1, 0, 0), (18, .if_icmp .ne 10, 3, 0, 0), (21, .aload_n 0, 1, 0, 0), (22, .bipush (-2), 2, 0, 0), (24, .invokevirtual 219, 3, 103, 0), (27, .lreturn, 1, 0, 0), (28, .aload_n 2, 1, 0, 0), (29, .getfield 225, 3, 1, 7)],
  [(32, .lreturn, 1, 0, 0)]]
def rX8_kept : xM := (⟨"PulledSignals", "kept", "(I)J"⟩, prog_1_method_25_code, tX8_kept, 8, 3, (some Jvm.ClassFile.FieldType.long), 1, 0, 474, 472, 473, 1)
theorem ok_rX8_kept : xMok rX8_kept = true := by decide +kernel
def tX8_cellOf : List (List xEnt) := [[(0, .aload_n 0, 1, 0, 0), (1, .getfield 12, 3, 8, 0), (4, .iload_n 1, 1, 0, 0), (5, .invokevirtual 105, 3, 71, 0), (8, .astore_n 3, 1, 0, 0), (9, .aload_n 3, 1, 0, 0), (10, .ifnonnull 10, 3, 0, 0), (13, .aload_n 0, 1, 0, 0), (14, .bipush (-2), 2, 0, 0)],
  [(16, .invokevirtual 66, 3, 102, 0), (19, .ireturn, 1, 0, 0), (20, .iload_n 2, 1, 0, 0), (21, .tableswitch 156 0 10 #[59, 64, 69, 82, 87, 93, 98, 106, 115, 124, 144], 59, 0, 0)],
  [],
  [],
  [],
  [(80, .aload_n 3, 1, 0, 0), (81, .getfield 204, 3, 1, 0), (84, .ireturn, 1, 0, 0), (85, .aload_n 3, 1, 0, 0), (86, .getfield 150, 3, 1, 1), (89, .ireturn, 1, 0, 0), (90, .aload_n 3, 1, 0, 0), (91, .getfield 196, 3, 1, 2), (94, .ifCond .eq 7, 3, 0, 0)],
  [(97, .iconst 1, 1, 0, 0), (98, .goto 4, 3, 0, 0), (101, .iconst 0, 1, 0, 0), (102, .ireturn, 1, 0, 0), (103, .aload_n 3, 1, 0, 0), (104, .getfield 228, 3, 1, 4), (107, .ireturn, 1, 0, 0), (108, .aload_n 3, 1, 0, 0), (109, .getfield 128, 3, 1, 5)],
  [(112, .l2i, 1, 0, 0), (113, .ireturn, 1, 0, 0), (114, .aload_n 3, 1, 0, 0), (115, .getfield 138, 3, 1, 6), (118, .ireturn, 1, 0, 0), (119, .aload_n 3, 1, 0, 0), (120, .getfield 132, 3, 1, 9), (123, .invokevirtual 135, 3, 41, 0), (126, .ireturn, 1, 0, 0), (127, .aload_n 0, 1, 0, 0)],
  [(128, .getfield 12, 3, 8, 0), (131, .iload_n 1, 1, 0, 0), (132, .invokevirtual 231, 3, 78, 0), (135, .ireturn, 1, 0, 0), (136, .aload_n 0, 1, 0, 0), (137, .getfield 12, 3, 8, 0), (140, .iload_n 1, 1, 0, 0), (141, .invokevirtual 142, 3, 75, 0)],
  [(144, .ireturn, 1, 0, 0), (145, .aload_n 0, 1, 0, 0), (146, .getfield 12, 3, 8, 0), (149, .getfield 177, 3, 7, 3), (152, .iload_n 1, 1, 0, 0), (153, .invokevirtual 234, 3, 46, 0), (156, .ifCond .eq 7, 3, 0, 0), (159, .iconst 1, 1, 0, 0)],
  [(160, .goto 4, 3, 0, 0), (163, .iconst 0, 1, 0, 0), (164, .ireturn, 1, 0, 0), (165, .aload_n 0, 1, 0, 0), (166, .getfield 12, 3, 8, 0), (169, .iload_n 1, 1, 0, 0), (170, .invokevirtual 237, 3, 80, 0), (173, .invokestatic 145, 3, 124, 2)],
  [(176, .ireturn, 1, 0, 0), (177, .aload_n 0, 1, 0, 0), (178, .bipush (-2), 2, 0, 0), (180, .invokevirtual 66, 3, 102, 0), (183, .ireturn, 1, 0, 0)]]
def rX8_cellOf : xM := (⟨"PulledSignals", "cellOf", "(II)I"⟩, prog_1_method_26_code, tX8_cellOf, 8, 4, (some Jvm.ClassFile.FieldType.int), 2, 0, 478, 476, 477, 1)
theorem ok_rX8_cellOf : xMok rX8_cellOf = true := by decide +kernel
def tX8_plain : List (List xEnt) := [[(0, .aload_n 0, 1, 0, 0), (1, .iload_n 1, 1, 0, 0), (2, .invokevirtual 252, 3, 106, 0), (5, .ifCond .ne 10, 3, 0, 0), (8, .aload_n 0, 1, 0, 0), (9, .bipush (-2), 2, 0, 0), (11, .invokevirtual 219, 3, 103, 0), (14, .lreturn, 1, 0, 0), (15, .aload_n 0, 1, 0, 0)],
  [(16, .getfield 31, 3, 8, 4), (19, .iload_n 1, 1, 0, 0), (20, .invokevirtual 255, 3, 1, 0), (23, .lreturn, 1, 0, 0)]]
def rX8_plain : xM := (⟨"PulledSignals", "plain", "(I)J"⟩, prog_1_method_29_code, tX8_plain, 8, 2, (some Jvm.ClassFile.FieldType.long), 1, 0, 499, 497, 498, 1)
theorem ok_rX8_plain : xMok rX8_plain = true := by decide +kernel
def tX8_status : List (List xEnt) := [[(0, .iload_n 1, 1, 0, 0), (1, .tableswitch 141 0 9 #[55, 63, 71, 79, 90, 101, 112, 120, 128, 136], 55, 0, 0)],
  [],
  [],
  [(56, .aload_n 0, 1, 0, 0), (57, .getfield 12, 3, 8, 0), (60, .invokevirtual 183, 3, 69, 0), (63, .ireturn, 1, 0, 0)],
  [(64, .aload_n 0, 1, 0, 0), (65, .getfield 12, 3, 8, 0), (68, .invokevirtual 213, 3, 81, 0), (71, .ireturn, 1, 0, 0), (72, .aload_n 0, 1, 0, 0), (73, .getfield 12, 3, 8, 0), (76, .getfield 210, 3, 7, 7), (79, .ireturn, 1, 0, 0)],
  [(80, .aload_n 0, 1, 0, 0), (81, .getfield 12, 3, 8, 0), (84, .getfield 177, 3, 7, 3), (87, .invokevirtual 135, 3, 41, 0), (90, .ireturn, 1, 0, 0), (91, .aload_n 0, 1, 0, 0), (92, .getfield 12, 3, 8, 0), (95, .getfield 278, 3, 7, 4)],
  [(98, .invokevirtual 303, 3, 42, 0), (101, .ireturn, 1, 0, 0), (102, .aload_n 0, 1, 0, 0), (103, .getfield 12, 3, 8, 0), (106, .getfield 284, 3, 7, 6), (109, .invokevirtual 303, 3, 42, 0)],
  [(112, .ireturn, 1, 0, 0), (113, .aload_n 0, 1, 0, 0), (114, .getfield 12, 3, 8, 0), (117, .invokevirtual 306, 3, 82, 0), (120, .ireturn, 1, 0, 0), (121, .aload_n 0, 1, 0, 0), (122, .getfield 47, 3, 8, 6), (125, .invokevirtual 135, 3, 41, 0)],
  [(128, .ireturn, 1, 0, 0), (129, .aload_n 0, 1, 0, 0), (130, .getfield 12, 3, 8, 0), (133, .getfield 294, 3, 7, 8), (136, .ireturn, 1, 0, 0), (137, .aload_n 0, 1, 0, 0), (138, .invokevirtual 309, 3, 100, 0), (141, .ireturn, 1, 0, 0), (142, .aload_n 0, 1, 0, 0), (143, .iload_n 1, 1, 0, 0)],
  [(144, .bipush 12, 2, 0, 0), (146, .isub, 1, 0, 0), (147, .invokevirtual 312, 3, 101, 0), (150, .ireturn, 1, 0, 0)]]
def rX8_status : xM := (⟨"PulledSignals", "status", "(I)I"⟩, prog_1_method_45_code, tX8_status, 8, 2, (some Jvm.ClassFile.FieldType.int), 1, 0, 533, 531, 532, 1)
theorem ok_rX8_status : xMok rX8_status = true := by decide +kernel
def tX8_heldCount : List (List xEnt) := [[(0, .iconst 0, 1, 0, 0), (1, .istore_n 1, 1, 0, 0), (2, .iconst 0, 1, 0, 0), (3, .istore_n 2, 1, 0, 0), (4, .iload_n 2, 1, 0, 0), (5, .aload_n 0, 1, 0, 0), (6, .getfield 53, 3, 8, 7), (9, .arraylength, 1, 0, 0), (10, .if_icmp .ge 21, 3, 0, 0), (13, .aload_n 0, 1, 0, 0), (14, .iload_n 2, 1, 0, 0), (15, .invokevirtual 315, 3, 85, 0)],
  [(18, .iconst (-1), 1, 0, 0), (19, .if_icmp .eq 6, 3, 0, 0), (22, .iinc 1 1, 3, 0, 0), (25, .iinc 2 1, 3, 0, 0), (28, .goto (-24), 3, 0, 0), (31, .iload_n 1, 1, 0, 0)],
  [(32, .ireturn, 1, 0, 0)]]
def rX8_heldCount : xM := (⟨"PulledSignals", "heldCount", "()I"⟩, prog_1_method_46_code, tX8_heldCount, 8, 3, (some Jvm.ClassFile.FieldType.int), 0, 0, 549, 548, 100033, 1)
theorem ok_rX8_heldCount : xMok rX8_heldCount = true := by decide +kernel
def tX8_refusalCount : List (List xEnt) := [[(0, .iload_n 1, 1, 0, 0), (1, .ifCond .lt 21, 3, 0, 0), (4, .iload_n 1, 1, 0, 0), (5, .aload_n 0, 1, 0, 0), (6, .getfield 57, 3, 8, 8), (9, .arraylength, 1, 0, 0), (10, .if_icmp .ge 12, 3, 0, 0), (13, .aload_n 0, 1, 0, 0), (14, .getfield 57, 3, 8, 8)],
  [(17, .iload_n 1, 1, 0, 0), (18, .iaload, 1, 0, 0), (19, .goto 4, 3, 0, 0), (22, .iconst (-1), 1, 0, 0), (23, .ireturn, 1, 0, 0)]]
def rX8_refusalCount : xM := (⟨"PulledSignals", "refusalCount", "(I)I"⟩, prog_1_method_47_code, tX8_refusalCount, 8, 2, (some Jvm.ClassFile.FieldType.int), 1, 0, 565, 564, 100035, 1)
theorem ok_rX8_refusalCount : xMok rX8_refusalCount = true := by decide +kernel
def tX8_refuse : List (List xEnt) := [[(0, .bipush (-2), 2, 0, 0), (2, .iload_n 1, 1, 0, 0), (3, .isub, 1, 0, 0), (4, .istore_n 2, 1, 0, 0), (5, .iload_n 2, 1, 0, 0), (6, .ifCond .lt 22, 3, 0, 0), (9, .iload_n 2, 1, 0, 0), (10, .aload_n 0, 1, 0, 0), (11, .getfield 57, 3, 8, 8), (14, .arraylength, 1, 0, 0), (15, .if_icmp .ge 13, 3, 0, 0)],
  [(18, .aload_n 0, 1, 0, 0), (19, .getfield 57, 3, 8, 8), (22, .iload_n 2, 1, 0, 0), (23, .dup2, 1, 0, 0), (24, .iaload, 1, 0, 0), (25, .iconst 1, 1, 0, 0), (26, .iadd, 1, 0, 0), (27, .iastore, 1, 0, 0), (28, .iload_n 1, 1, 0, 0), (29, .ireturn, 1, 0, 0)]]
def rX8_refuse : xM := (⟨"PulledSignals", "refuse", "(I)I"⟩, prog_1_method_48_code, tX8_refuse, 8, 3, (some Jvm.ClassFile.FieldType.int), 1, 0, 41, 40, 100001, 1)
theorem ok_rX8_refuse : xMok rX8_refuse = true := by decide +kernel
def tX8_refuseLong : List (List xEnt) := [[(0, .ldc2_w 318, 3, 5, 0), (3, .aload_n 0, 1, 0, 0), (4, .iload_n 1, 1, 0, 0), (5, .invokevirtual 66, 3, 102, 0), (8, .i2l, 1, 0, 0), (9, .ladd, 1, 0, 0), (10, .lreturn, 1, 0, 0)]]
def rX8_refuseLong : xM := (⟨"PulledSignals", "refuseLong", "(I)J"⟩, prog_1_method_49_code, tX8_refuseLong, 8, 2, (some Jvm.ClassFile.FieldType.long), 1, 0, 465, 464, 100029, 1)
theorem ok_rX8_refuseLong : xMok rX8_refuseLong = true := by decide +kernel
def tX8_refuseFault : List (List xEnt) := [[(0, .aload_n 0, 1, 0, 0), (1, .bipush (-2), 2, 0, 0), (3, .invokevirtual 66, 3, 102, 0), (6, .pop, 1, 0, 0), (7, .sipush (-200), 3, 0, 0), (10, .aload_n 0, 1, 0, 0), (11, .getfield 38, 3, 8, 5), (14, .invokevirtual 320, 3, 18, 0)],
  [(17, .isub, 1, 0, 0), (18, .ireturn, 1, 0, 0)]]
def rX8_refuseFault : xM := (⟨"PulledSignals", "refuseFault", "()I"⟩, prog_1_method_50_code, tX8_refuseFault, 8, 1, (some Jvm.ClassFile.FieldType.int), 0, 0, 226, 225, 100018, 1)
theorem ok_rX8_refuseFault : xMok rX8_refuseFault = true := by decide +kernel
def tX8_shelfAt : List (List xEnt) := [[(0, .iload_n 1, 1, 0, 0), (1, .ifCond .lt 21, 3, 0, 0), (4, .iload_n 1, 1, 0, 0), (5, .aload_n 0, 1, 0, 0), (6, .getfield 53, 3, 8, 7), (9, .arraylength, 1, 0, 0), (10, .if_icmp .ge 12, 3, 0, 0), (13, .aload_n 0, 1, 0, 0), (14, .getfield 53, 3, 8, 7)],
  [(17, .iload_n 1, 1, 0, 0), (18, .aaload, 1, 0, 0), (19, .goto 4, 3, 0, 0), (22, .aconst_null, 1, 0, 0), (23, .areturn, 1, 0, 0)]]
def rX8_shelfAt : xM := (⟨"PulledSignals", "shelfAt", "(I)LPulledSignals$Shelf;"⟩, prog_1_method_51_code, tX8_shelfAt, 8, 2, (some (Jvm.ClassFile.FieldType.object "PulledSignals$Shelf")), 1, 0, 557, 556, 100034, 1)
theorem ok_rX8_shelfAt : xMok rX8_shelfAt = true := by decide +kernel
def tX8_hasOutcome : List (List xEnt) := [[(0, .aload_n 0, 1, 0, 0), (1, .getfield 12, 3, 8, 0), (4, .iload_n 1, 1, 0, 0), (5, .invokevirtual 105, 3, 71, 0), (8, .astore_n 2, 1, 0, 0), (9, .aload_n 2, 1, 0, 0), (10, .ifnull 15, 3, 0, 0), (13, .aload_n 2, 1, 0, 0), (14, .getfield 204, 3, 1, 0)],
  [(17, .iconst 5, 1, 0, 0), (18, .if_icmp .eq 7, 3, 0, 0), (21, .iconst 1, 1, 0, 0), (22, .goto 4, 3, 0, 0), (25, .iconst 0, 1, 0, 0), (26, .ireturn, 1, 0, 0)]]
def rX8_hasOutcome : xM := (⟨"PulledSignals", "hasOutcome", "(I)Z"⟩, prog_1_method_54_code, tX8_hasOutcome, 8, 3, (some Jvm.ClassFile.FieldType.boolean), 1, 0, 503, 502, 100030, 1)
theorem ok_rX8_hasOutcome : xMok rX8_hasOutcome = true := by decide +kernel
def tX8_isFail : List (List xEnt) := [[(0, .lload_n 0, 1, 0, 0), (1, .ldc2_w 323, 3, 6, 0), (4, .lcmp, 1, 0, 0), (5, .ifCond .le 7, 3, 0, 0), (8, .iconst 1, 1, 0, 0), (9, .goto 4, 3, 0, 0), (12, .iconst 0, 1, 0, 0), (13, .ireturn, 1, 0, 0)]]
def rX8_isFail : xM := (⟨"PulledSignals", "isFail", "(J)Z"⟩, prog_1_method_55_code, tX8_isFail, 8, 2, (some Jvm.ClassFile.FieldType.boolean), 1, 1, 430, 429, 200000, 1)
theorem ok_rX8_isFail : xMok rX8_isFail = true := by decide +kernel
def tX8_joined : List (List xEnt) := [[(0, .iload_n 0, 1, 0, 0), (1, .tableswitch 116 0 7 #[47, 51, 55, 59, 71, 83, 94, 105], 47, 0, 0)],
  [],
  [],
  [(48, .iload_n 1, 1, 0, 0), (49, .iload_n 2, 1, 0, 0), (50, .iadd, 1, 0, 0), (51, .ireturn, 1, 0, 0), (52, .iload_n 1, 1, 0, 0), (53, .iload_n 2, 1, 0, 0), (54, .isub, 1, 0, 0), (55, .ireturn, 1, 0, 0), (56, .iload_n 1, 1, 0, 0), (57, .iload_n 2, 1, 0, 0), (58, .imul, 1, 0, 0), (59, .ireturn, 1, 0, 0), (60, .iload_n 2, 1, 0, 0), (61, .ifCond .ne 7, 3, 0, 0)],
  [(64, .iconst 0, 1, 0, 0), (65, .goto 6, 3, 0, 0), (68, .iload_n 1, 1, 0, 0), (69, .iload_n 2, 1, 0, 0), (70, .idiv, 1, 0, 0), (71, .ireturn, 1, 0, 0), (72, .iload_n 2, 1, 0, 0), (73, .ifCond .ne 7, 3, 0, 0), (76, .iconst 0, 1, 0, 0), (77, .goto 6, 3, 0, 0)],
  [(80, .iload_n 1, 1, 0, 0), (81, .iload_n 2, 1, 0, 0), (82, .irem, 1, 0, 0), (83, .ireturn, 1, 0, 0), (84, .iload_n 1, 1, 0, 0), (85, .iload_n 2, 1, 0, 0), (86, .if_icmp .ge 7, 3, 0, 0), (89, .iconst 1, 1, 0, 0), (90, .goto 4, 3, 0, 0), (93, .iconst 0, 1, 0, 0), (94, .ireturn, 1, 0, 0), (95, .iload_n 1, 1, 0, 0)],
  [(96, .iload_n 2, 1, 0, 0), (97, .if_icmp .ne 7, 3, 0, 0), (100, .iconst 1, 1, 0, 0), (101, .goto 4, 3, 0, 0), (104, .iconst 0, 1, 0, 0), (105, .ireturn, 1, 0, 0), (106, .iload_n 1, 1, 0, 0), (107, .iload_n 2, 1, 0, 0), (108, .if_icmp .le 7, 3, 0, 0), (111, .iconst 1, 1, 0, 0)],
  [(112, .goto 4, 3, 0, 0), (115, .iconst 0, 1, 0, 0), (116, .ireturn, 1, 0, 0), (117, .iload_n 1, 1, 0, 0), (118, .iload_n 2, 1, 0, 0), (119, .if_icmp .le 7, 3, 0, 0), (122, .iload_n 1, 1, 0, 0), (123, .goto 4, 3, 0, 0), (126, .iload_n 2, 1, 0, 0), (127, .ireturn, 1, 0, 0)]]
def rX8_joined : xM := (⟨"PulledSignals", "joined", "(III)I"⟩, prog_1_method_56_code, tX8_joined, 8, 3, (some Jvm.ClassFile.FieldType.int), 3, 1, 400, 399, 200000, 1)
theorem ok_rX8_joined : xMok rX8_joined = true := by decide +kernel
def tL_at : List (List xEnt) := [[(0, .iload_n 1, 1, 0, 0), (1, .aload_n 0, 1, 0, 0), (2, .arraylength, 1, 0, 0), (3, .if_icmp .ge 9, 3, 0, 0), (6, .aload_n 0, 1, 0, 0), (7, .iload_n 1, 1, 0, 0), (8, .iaload, 1, 0, 0), (9, .goto 4, 3, 0, 0), (12, .iconst 0, 1, 0, 0), (13, .ireturn, 1, 0, 0)]]
def rL_at : xM := (⟨"PulledSignalsLaw", "at", "([II)I"⟩, method_2_code, tL_at, 11, 2, (some Jvm.ClassFile.FieldType.int), 2, 1, 568, 567, 200000, 0)
theorem ok_rL_at : xMok rL_at = true := by decide +kernel
def tL_sources : List (List xEnt) := [[(0, .iconst 2, 1, 0, 0), (1, .aload_n 0, 1, 0, 0), (2, .iconst 0, 1, 0, 0), (3, .invokestatic 7, 3, 172, 2), (6, .iconst 1, 1, 0, 0), (7, .iand, 1, 0, 0), (8, .iadd, 1, 0, 0), (9, .ireturn, 1, 0, 0)]]
def rL_sources : xM := (⟨"PulledSignalsLaw", "sources", "([I)I"⟩, method_3_code, tL_sources, 11, 1, (some Jvm.ClassFile.FieldType.int), 1, 1, 571, 570, 200000, 0)
theorem ok_rL_sources : xMok rL_sources = true := by decide +kernel
def tL_memos : List (List xEnt) := [[(0, .iconst 2, 1, 0, 0), (1, .aload_n 0, 1, 0, 0), (2, .iconst 0, 1, 0, 0), (3, .invokestatic 7, 3, 172, 2), (6, .iconst 1, 1, 0, 0), (7, .ishr, 1, 0, 0), (8, .iconst 3, 1, 0, 0), (9, .iand, 1, 0, 0), (10, .iadd, 1, 0, 0), (11, .ireturn, 1, 0, 0)]]
def rL_memos : xM := (⟨"PulledSignalsLaw", "memos", "([I)I"⟩, method_4_code, tL_memos, 11, 1, (some Jvm.ClassFile.FieldType.int), 1, 1, 574, 573, 200000, 0)
theorem ok_rL_memos : xMok rL_memos = true := by decide +kernel
def tL_many : List (List xEnt) := [[(0, .aload_n 0, 1, 0, 0), (1, .invokestatic 13, 3, 173, 2), (4, .aload_n 0, 1, 0, 0), (5, .invokestatic 17, 3, 174, 2), (8, .iadd, 1, 0, 0), (9, .ireturn, 1, 0, 0)]]
def rL_many : xM := (⟨"PulledSignalsLaw", "many", "([I)I"⟩, method_5_code, tL_many, 11, 1, (some Jvm.ClassFile.FieldType.int), 1, 1, 577, 576, 200000, 0)
theorem ok_rL_many : xMok rL_many = true := by decide +kernel
def tL_value : List (List xEnt) := [[(0, .aload_n 0, 1, 0, 0), (1, .iconst 1, 1, 0, 0), (2, .iload_n 1, 1, 0, 0), (3, .iadd, 1, 0, 0), (4, .invokestatic 7, 3, 172, 2), (7, .bipush 12, 2, 0, 0), (9, .irem, 1, 0, 0), (10, .ireturn, 1, 0, 0)]]
def rL_value : xM := (⟨"PulledSignalsLaw", "value", "([II)I"⟩, method_6_code, tL_value, 11, 2, (some Jvm.ClassFile.FieldType.int), 2, 1, 812, 811, 200000, 0)
theorem ok_rL_value : xMok rL_value = true := by decide +kernel
def tL_form : List (List xEnt) := [[(0, .aload_n 0, 1, 0, 0), (1, .iconst 4, 1, 0, 0), (2, .iload_n 1, 1, 0, 0), (3, .iadd, 1, 0, 0), (4, .invokestatic 7, 3, 172, 2), (7, .bipush 7, 2, 0, 0), (9, .iand, 1, 0, 0), (10, .bipush 6, 2, 0, 0), (12, .irem, 1, 0, 0), (13, .ireturn, 1, 0, 0)]]
def rL_form : xM := (⟨"PulledSignalsLaw", "form", "([II)I"⟩, method_7_code, tL_form, 11, 2, (some Jvm.ClassFile.FieldType.int), 2, 1, 832, 831, 200000, 0)
theorem ok_rL_form : xMok rL_form = true := by decide +kernel
def tL_operand : List (List xEnt) := [[(0, .aload_n 0, 1, 0, 0), (1, .iconst 4, 1, 0, 0), (2, .iload_n 1, 1, 0, 0), (3, .iadd, 1, 0, 0), (4, .invokestatic 7, 3, 172, 2), (7, .iconst 3, 1, 0, 0), (8, .iconst 4, 1, 0, 0), (9, .iload_n 2, 1, 0, 0), (10, .imul, 1, 0, 0), (11, .iadd, 1, 0, 0), (12, .ishr, 1, 0, 0), (13, .bipush 15, 2, 0, 0), (15, .iand, 1, 0, 0)],
  [(16, .iload_n 1, 1, 0, 0), (17, .irem, 1, 0, 0), (18, .ireturn, 1, 0, 0)]]
def rL_operand : xM := (⟨"PulledSignalsLaw", "operand", "([III)I"⟩, method_8_code, tL_operand, 11, 3, (some Jvm.ClassFile.FieldType.int), 3, 1, 826, 825, 200000, 0)
theorem ok_rL_operand : xMok rL_operand = true := by decide +kernel
def tL_number : List (List xEnt) := [[(0, .aload_n 0, 1, 0, 0), (1, .iconst 4, 1, 0, 0), (2, .iload_n 1, 1, 0, 0), (3, .iadd, 1, 0, 0), (4, .invokestatic 7, 3, 172, 2), (7, .bipush 15, 2, 0, 0), (9, .ishr, 1, 0, 0), (10, .bipush 15, 2, 0, 0), (12, .iand, 1, 0, 0), (13, .bipush 10, 2, 0, 0), (15, .irem, 1, 0, 0)],
  [(16, .ireturn, 1, 0, 0)]]
def rL_number : xM := (⟨"PulledSignalsLaw", "number", "([II)I"⟩, method_9_code, tL_number, 11, 2, (some Jvm.ClassFile.FieldType.int), 2, 1, 829, 828, 200000, 0)
theorem ok_rL_number : xMok rL_number = true := by decide +kernel
def tL_letter : List (List xEnt) := [[(0, .bipush 97, 2, 0, 0), (2, .iload_n 0, 1, 0, 0), (3, .iadd, 1, 0, 0), (4, .i2c, 1, 0, 0), (5, .ireturn, 1, 0, 0)]]
def rL_letter : xM := (⟨"PulledSignalsLaw", "letter", "(I)C"⟩, method_10_code, tL_letter, 11, 1, (some Jvm.ClassFile.FieldType.char), 1, 1, 580, 579, 200000, 0)
theorem ok_rL_letter : xMok rL_letter = true := by decide +kernel
