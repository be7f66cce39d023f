set_option maxRecDepth 100000 in
def dT328 : List (Nat × Instr × Nat) := [(0, .iload_n 0, 1), (1, .bipush 48, 2), (3, .if_icmp .lt 13, 3), (6, .iload_n 0, 1), (7, .bipush 57, 2), (9, .if_icmp .gt 7, 3), (12, .iconst 1, 1), (13, .goto 4, 3), (16, .iconst 0, 1), (17, .ireturn, 1)]
theorem dT328_ok : dT328.all (dck 328) = true := by decide +kernel
set_option maxRecDepth 100000 in
def dT333 : List (Nat × Instr × Nat) := [(0, .aload_n 0, 1), (1, .getfield 34, 3), (4, .aload_n 0, 1), (5, .getfield 371, 3), (8, .aload_n 0, 1), (9, .getfield 374, 3), (12, .iastore, 1), (13, .aload_n 0, 1), (14, .aload_n 0, 1), (15, .getfield 371, 3), (18, .iconst 1, 1), (19, .iadd, 1), (20, .putfield 371, 3), (23, .aload_n 0, 1), (24, .getfield 371, 3), (27, .iconst 1, 1), (28, .isub, 1), (29, .ireturn, 1)]
theorem dT333_ok : dT333.all (dck 333) = true := by decide +kernel
set_option maxRecDepth 100000 in
def dT334 : List (Nat × Instr × Nat) := [(0, .aload_n 0, 1), (1, .getfield 31, 3), (4, .aload_n 0, 1), (5, .getfield 374, 3), (8, .iload_n 1, 1), (9, .iastore, 1), (10, .aload_n 0, 1), (11, .aload_n 0, 1), (12, .getfield 374, 3), (15, .iconst 1, 1), (16, .iadd, 1), (17, .putfield 374, 3), (20, .return_, 1)]
theorem dT334_ok : dT334.all (dck 334) = true := by decide +kernel
set_option maxRecDepth 100000 in
def dT335 : List (Nat × Instr × Nat) := [(0, .aload_n 0, 1), (1, .getfield 37, 3), (4, .iload_n 1, 1), (5, .aload_n 0, 1), (6, .getfield 374, 3), (9, .aload_n 0, 1), (10, .getfield 34, 3), (13, .iload_n 1, 1), (14, .iaload, 1), (15, .isub, 1), (16, .iastore, 1), (17, .iload_n 1, 1), (18, .ireturn, 1)]
theorem dT335_ok : dT335.all (dck 335) = true := by decide +kernel
set_option maxRecDepth 100000 in
def dT336 : List (Nat × Instr × Nat) := [(0, .aload_n 0, 1), (1, .invokevirtual 337, 3), (4, .ifCond .eq 5, 3), (7, .iconst (-1), 1), (8, .ireturn, 1), (9, .aload_n 0, 1), (10, .iconst 2, 1), (11, .invokevirtual 350, 3), (14, .ifCond .eq 8, 3), (17, .aload_n 0, 1), (18, .invokevirtual 445, 3), (21, .ireturn, 1), (22, .aload_n 0, 1), (23, .iconst 3, 1), (24, .invokevirtual 350, 3), (27, .ifCond .eq 8, 3), (30, .aload_n 0, 1), (31, .invokevirtual 448, 3), (34, .ireturn, 1), (35, .aload_n 0, 1), (36, .iconst 4, 1), (37, .invokevirtual 350, 3), (40, .ifCond .eq 8, 3), (43, .aload_n 0, 1), (44, .invokevirtual 451, 3), (47, .ireturn, 1), (48, .aload_n 0, 1), (49, .iconst 5, 1), (50, .invokevirtual 350, 3), (53, .ifCond .eq 8, 3), (56, .aload_n 0, 1), (57, .invokevirtual 454, 3), (60, .ireturn, 1), (61, .aload_n 0, 1), (62, .invokevirtual 457, 3), (65, .ireturn, 1)]
theorem dT336_ok : dT336.all (dck 336) = true := by decide +kernel
set_option maxRecDepth 100000 in
def dT337 : List (Nat × Instr × Nat) := [(0, .aload_n 0, 1), (1, .getfield 319, 3), (4, .ifCond .eq 7, 3), (7, .iconst 1, 1), (8, .goto 4, 3), (11, .iconst 0, 1), (12, .ireturn, 1)]
theorem dT337_ok : dT337.all (dck 337) = true := by decide +kernel
set_option maxRecDepth 100000 in
def dT338 : List (Nat × Instr × Nat) := [(0, .aload_n 0, 1), (1, .getfield 273, 3), (4, .iconst 4, 1), (5, .if_icmp .ne 15, 3), (8, .aload_n 0, 1), (9, .getfield 270, 3), (12, .iload_n 1, 1), (13, .if_icmp .ne 7, 3), (16, .iconst 1, 1), (17, .goto 4, 3), (20, .iconst 0, 1), (21, .ireturn, 1)]
theorem dT338_ok : dT338.all (dck 338) = true := by decide +kernel
set_option maxRecDepth 100000 in
def dT340 : List (Nat × Instr × Nat) := [(0, .aload_n 0, 1), (1, .invokevirtual 337, 3), (4, .ifCond .eq 4, 3), (7, .return_, 1), (8, .aload_n 0, 1), (9, .getfield 353, 3), (12, .aload_n 0, 1), (13, .getfield 299, 3), (16, .ifCond .eq 8, 3), (19, .bipush 30, 2), (21, .goto 5, 3), (24, .bipush 20, 2), (26, .if_icmp .ne 12, 3), (29, .aload_n 0, 1), (30, .iconst 2, 1), (31, .aload_n 0, 1), (32, .getfield 257, 3), (35, .invokevirtual 260, 3), (38, .aload_n 0, 1), (39, .aload_n 0, 1), (40, .getfield 353, 3), (43, .iconst 1, 1), (44, .iadd, 1), (45, .putfield 353, 3), (48, .aload_n 0, 1), (49, .invokevirtual 337, 3), (52, .ifCond .ne 7, 3), (55, .aload_n 0, 1), (56, .invokevirtual 344, 3), (59, .return_, 1)]
theorem dT340_ok : dT340.all (dck 340) = true := by decide +kernel
set_option maxRecDepth 100000 in
def dT341 : List (Nat × Instr × Nat) := [(0, .aload_n 0, 1), (1, .aload_n 0, 1), (2, .getfield 292, 3), (5, .putfield 362, 3), (8, .aload_n 0, 1), (9, .aload_n 0, 1), (10, .getfield 296, 3), (13, .putfield 365, 3), (16, .aload_n 0, 1), (17, .aload_n 0, 1), (18, .getfield 257, 3), (21, .putfield 368, 3), (24, .aload_n 0, 1), (25, .invokevirtual 337, 3), (28, .ifCond .eq 4, 3), (31, .return_, 1), (32, .aload_n 0, 1), (33, .getfield 273, 3), (36, .iconst 1, 1), (37, .if_icmp .ne 10, 3), (40, .aload_n 0, 1), (41, .invokevirtual 344, 3), (44, .goto 7, 3), (47, .aload_n 0, 1), (48, .invokevirtual 347, 3), (51, .return_, 1)]
theorem dT341_ok : dT341.all (dck 341) = true := by decide +kernel
set_option maxRecDepth 100000 in
def dT342 : List (Nat × Instr × Nat) := [(0, .aload_n 0, 1), (1, .iconst 1, 1), (2, .aload_n 0, 1), (3, .getfield 257, 3), (6, .invokevirtual 260, 3), (9, .return_, 1)]
theorem dT342_ok : dT342.all (dck 342) = true := by decide +kernel
set_option maxRecDepth 100000 in
def dT343 : List (Nat × Instr × Nat) := [(0, .aload_n 0, 1), (1, .invokevirtual 337, 3), (4, .ifCond .eq 4, 3), (7, .return_, 1), (8, .aload_n 0, 1), (9, .iload_n 1, 1), (10, .invokevirtual 341, 3), (13, .ifCond .eq 10, 3), (16, .aload_n 0, 1), (17, .invokevirtual 344, 3), (20, .goto 7, 3), (23, .aload_n 0, 1), (24, .invokevirtual 347, 3), (27, .return_, 1)]
theorem dT343_ok : dT343.all (dck 343) = true := by decide +kernel
set_option maxRecDepth 100000 in
def dT344 : List (Nat × Instr × Nat) := [(0, .aload_n 0, 1), (1, .getfield 273, 3), (4, .iconst 3, 1), (5, .if_icmp .ne 15, 3), (8, .aload_n 0, 1), (9, .getfield 270, 3), (12, .iload_n 1, 1), (13, .if_icmp .ne 7, 3), (16, .iconst 1, 1), (17, .goto 4, 3), (20, .iconst 0, 1), (21, .ireturn, 1)]
theorem dT344_ok : dT344.all (dck 344) = true := by decide +kernel
set_option maxRecDepth 100000 in
def dT351 : List (Nat × Instr × Nat) := [(0, .aload_n 0, 1), (1, .aload_n 0, 1), (2, .getfield 353, 3), (5, .iconst 1, 1), (6, .isub, 1), (7, .putfield 353, 3), (10, .return_, 1)]
theorem dT351_ok : dT351.all (dck 351) = true := by decide +kernel
set_option maxRecDepth 100000 in
def dT352 : List (Nat × Instr × Nat) := [(0, .aload_n 0, 1), (1, .invokevirtual 337, 3), (4, .ifCond .ne 11, 3), (7, .aload_n 0, 1), (8, .iload_n 1, 1), (9, .invokevirtual 341, 3), (12, .ifCond .ne 5, 3), (15, .iconst 0, 1), (16, .ireturn, 1), (17, .aload_n 0, 1), (18, .invokevirtual 344, 3), (21, .iconst 1, 1), (22, .ireturn, 1)]
theorem dT352_ok : dT352.all (dck 352) = true := by decide +kernel
set_option maxRecDepth 100000 in
def dT353 : List (Nat × Instr × Nat) := [(0, .aload_n 0, 1), (1, .aload_n 0, 1), (2, .getfield 353, 3), (5, .iconst 1, 1), (6, .isub, 1), (7, .putfield 353, 3), (10, .aload_n 0, 1), (11, .iload_n 1, 1), (12, .invokevirtual 359, 3), (15, .return_, 1)]
theorem dT353_ok : dT353.all (dck 353) = true := by decide +kernel
set_option maxRecDepth 100000 in
def dT355 : List (Nat × Instr × Nat) := [(0, .aload_n 0, 1), (1, .getfield 53, 3), (4, .aload_n 0, 1), (5, .getfield 430, 3), (8, .iload_n 1, 1), (9, .iastore, 1), (10, .aload_n 0, 1), (11, .getfield 56, 3), (14, .aload_n 0, 1), (15, .getfield 430, 3), (18, .iload_n 2, 1), (19, .iastore, 1), (20, .aload_n 0, 1), (21, .getfield 59, 3), (24, .aload_n 0, 1), (25, .getfield 430, 3), (28, .iconst (-1), 1), (29, .iastore, 1), (30, .aload_n 0, 1), (31, .getfield 62, 3), (34, .aload_n 0, 1), (35, .getfield 430, 3), (38, .aload_n 0, 1), (39, .getfield 433, 3), (42, .iastore, 1), (43, .aload_n 0, 1), (44, .aload_n 0, 1), (45, .getfield 430, 3), (48, .iconst 1, 1), (49, .iadd, 1), (50, .putfield 430, 3), (53, .aload_n 0, 1), (54, .getfield 430, 3), (57, .iconst 1, 1), (58, .isub, 1), (59, .ireturn, 1)]
theorem dT355_ok : dT355.all (dck 355) = true := by decide +kernel
set_option maxRecDepth 100000 in
def dT366 : List (Nat × Instr × Nat) := [(0, .aload_n 0, 1), (1, .invokevirtual 337, 3), (4, .ifCond .eq 4, 3), (7, .return_, 1), (8, .aload_n 0, 1), (9, .iload_n 1, 1), (10, .invokevirtual 341, 3), (13, .ifCond .eq 10, 3), (16, .aload_n 0, 1), (17, .invokevirtual 356, 3), (20, .goto 7, 3), (23, .aload_n 0, 1), (24, .invokevirtual 347, 3), (27, .return_, 1)]
theorem dT366_ok : dT366.all (dck 366) = true := by decide +kernel
set_option maxRecDepth 100000 in
def dT372 : List (Nat × Instr × Nat) := [(0, .aload_n 0, 1), (1, .invokevirtual 337, 3), (4, .ifCond .eq 4, 3), (7, .return_, 1), (8, .aload_n 0, 1), (9, .iload_n 1, 1), (10, .invokevirtual 350, 3), (13, .ifCond .eq 10, 3), (16, .aload_n 0, 1), (17, .invokevirtual 344, 3), (20, .goto 7, 3), (23, .aload_n 0, 1), (24, .invokevirtual 347, 3), (27, .return_, 1)]
theorem dT372_ok : dT372.all (dck 372) = true := by decide +kernel
set_option maxRecDepth 100000 in
def dT373 : List (Nat × Instr × Nat) := [(0, .aload_n 0, 1), (1, .getfield 257, 3), (4, .istore_n 1, 1), (5, .aload_n 0, 1), (6, .invokevirtual 502, 3), (9, .istore_n 2, 1), (10, .aload_n 0, 1), (11, .invokevirtual 337, 3), (14, .ifCond .ne 104, 3), (17, .aload_n 0, 1), (18, .bipush 43, 2), (20, .invokevirtual 341, 3), (23, .ifCond .ne 12, 3), (26, .aload_n 0, 1), (27, .bipush 45, 2), (29, .invokevirtual 341, 3), (32, .ifCond .eq 86, 3), (35, .aload_n 0, 1), (36, .getfield 270, 3), (39, .bipush 43, 2), (41, .if_icmp .ne 7, 3), (44, .iconst 5, 1), (45, .goto 5, 3), (48, .bipush 6, 2), (50, .istore_n 3, 1), (51, .aload_n 0, 1), (52, .iload_n 2, 1), (53, .iload_n 1, 1), (54, .invokevirtual 505, 3), (57, .istore 4, 2), (59, .aload_n 0, 1), (60, .invokevirtual 344, 3), (63, .aload_n 0, 1), (64, .getfield 257, 3), (67, .istore 5, 2), (69, .aload_n 0, 1), (70, .aload_n 0, 1), (71, .invokevirtual 502, 3), (74, .iload 5, 2), (76, .invokevirtual 505, 3), (79, .ifCond .eq 12, 3), (82, .iload 4, 2), (84, .ifCond .eq 7, 3), (87, .iconst 1, 1), (88, .goto 4, 3), (91, .iconst 0, 1), (92, .istore 4, 2), (94, .aload_n 0, 1), (95, .iload_n 3, 1), (96, .iconst 0, 1), (97, .invokevirtual 496, 3), (100, .pop, 1), (101, .iload 4, 2), (103, .ifCond .eq 10, 3), (106, .aload_n 0, 1), (107, .getfield 508, 3), (110, .goto 4, 3), (113, .iconst (-1), 1), (114, .istore_n 2, 1), (115, .goto (-105), 3), (118, .iload_n 2, 1), (119, .ireturn, 1)]
theorem dT373_ok : dT373.all (dck 373) = true := by decide +kernel
