set_option maxRecDepth 100000 in
def dT188 : List (Nat × Instr × Nat) := [(0, .aload_n 0, 1), (1, .getfield 13, 3), (4, .iconst 4, 1), (5, .invokevirtual 51, 3), (8, .aload_n 0, 1), (9, .getfield 13, 3), (12, .bipush 14, 2), (14, .invokevirtual 71, 3), (17, .aload_n 0, 1), (18, .getfield 13, 3), (21, .aload_n 0, 1), (22, .getfield 13, 3), (25, .aload_n 0, 1), (26, .getfield 13, 3), (29, .invokevirtual 48, 3), (32, .invokevirtual 104, 3), (35, .bipush 7, 2), (37, .if_icmp .le 7, 3), (40, .iconst 1, 1), (41, .goto 4, 3), (44, .iconst 0, 1), (45, .invokevirtual 27, 3), (48, .aload_n 0, 1), (49, .getfield 13, 3), (52, .iconst 3, 1), (53, .invokevirtual 51, 3), (56, .aload_n 0, 1), (57, .getfield 13, 3), (60, .bipush 15, 2), (62, .invokevirtual 68, 3), (65, .return_, 1)]
theorem dT188_ok : dT188.all (dck 188) = true := by decide +kernel
set_option maxRecDepth 100000 in
def dT192 : List (Nat × Instr × Nat) := [(0, .aload_n 0, 1), (1, .getfield 17, 3), (4, .ireturn, 1)]
theorem dT192_ok : dT192.all (dck 192) = true := by decide +kernel
set_option maxRecDepth 100000 in
def dT193 : List (Nat × Instr × Nat) := [(0, .iload_n 1, 1), (1, .ifCond .lt 20, 3), (4, .iload_n 1, 1), (5, .aload_n 0, 1), (6, .getfield 17, 3), (9, .if_icmp .ge 12, 3), (12, .aload_n 0, 1), (13, .getfield 9, 3), (16, .iload_n 1, 1), (17, .iaload, 1), (18, .goto 4, 3), (21, .iconst 0, 1), (22, .ireturn, 1)]
theorem dT193_ok : dT193.all (dck 193) = true := by decide +kernel
set_option maxRecDepth 100000 in
def dT250 : List (Nat × Instr × Nat) := [(0, .aload_n 0, 1), (1, .getfield 16, 3), (4, .invokevirtual 137, 3), (7, .ireturn, 1)]
theorem dT250_ok : dT250.all (dck 250) = true := by decide +kernel
set_option maxRecDepth 100000 in
def dT251 : List (Nat × Instr × Nat) := [(0, .aload_n 0, 1), (1, .getfield 42, 3), (4, .ireturn, 1)]
theorem dT251_ok : dT251.all (dck 251) = true := by decide +kernel
set_option maxRecDepth 100000 in
def dT252 : List (Nat × Instr × Nat) := [(0, .aload_n 0, 1), (1, .getfield 125, 3), (4, .iconst 1, 1), (5, .if_icmp .ne 14, 3), (8, .aload_n 0, 1), (9, .getfield 23, 3), (12, .iload_n 1, 1), (13, .invokevirtual 140, 3), (16, .goto 4, 3), (19, .iconst (-1), 1), (20, .ireturn, 1)]
theorem dT252_ok : dT252.all (dck 252) = true := by decide +kernel
set_option maxRecDepth 100000 in
def dT254 : List (Nat × Instr × Nat) := [(0, .aload_n 0, 1), (1, .getfield 125, 3), (4, .iconst 2, 1), (5, .if_icmp .ne 14, 3), (8, .aload_n 0, 1), (9, .getfield 74, 3), (12, .iload_n 1, 1), (13, .invokevirtual 144, 3), (16, .goto 4, 3), (19, .iconst (-1), 1), (20, .ireturn, 1)]
theorem dT254_ok : dT254.all (dck 254) = true := by decide +kernel
set_option maxRecDepth 100000 in
def dT256 : List (Nat × Instr × Nat) := [(0, .aload_n 0, 1), (1, .getfield 125, 3), (4, .iconst 2, 1), (5, .if_icmp .ne 14, 3), (8, .aload_n 0, 1), (9, .getfield 74, 3), (12, .iload_n 1, 1), (13, .invokevirtual 147, 3), (16, .goto 4, 3), (19, .iconst (-1), 1), (20, .ireturn, 1)]
theorem dT256_ok : dT256.all (dck 256) = true := by decide +kernel
set_option maxRecDepth 100000 in
def dT257 : List (Nat × Instr × Nat) := [(0, .iload_n 1, 1), (1, .ifCond .lt 28, 3), (4, .iload_n 1, 1), (5, .sipush 20000, 3), (8, .if_icmp .gt 21, 3), (11, .iload_n 2, 1), (12, .ifCond .lt 17, 3), (15, .iload_n 2, 1), (16, .sipush 20000, 3), (19, .if_icmp .gt 10, 3), (22, .aload_n 0, 1), (23, .invokevirtual 150, 3), (26, .ifCond .ne 5, 3), (29, .iconst (-1), 1), (30, .ireturn, 1), (31, .aload_n 0, 1), (32, .getfield 30, 3), (35, .iload_n 2, 1), (36, .invokevirtual 153, 3), (39, .aload_n 0, 1), (40, .getfield 125, 3), (43, .iconst 1, 1), (44, .if_icmp .ne 14, 3), (47, .aload_n 0, 1), (48, .getfield 60, 3), (51, .iload_n 1, 1), (52, .invokevirtual 156, 3), (55, .goto 11, 3), (58, .aload_n 0, 1), (59, .getfield 92, 3), (62, .iload_n 1, 1), (63, .invokevirtual 159, 3), (66, .istore_n 3, 1), (67, .aload_n 0, 1), (68, .iconst 1, 1), (69, .putfield 160, 3), (72, .aload_n 0, 1), (73, .iload_n 3, 1), (74, .ifCond .ne 7, 3), (77, .iconst 1, 1), (78, .goto 4, 3), (81, .iconst 0, 1), (82, .putfield 164, 3), (85, .iload_n 3, 1), (86, .ireturn, 1)]
theorem dT257_ok : dT257.all (dck 257) = true := by decide +kernel
set_option maxRecDepth 100000 in
def dT258 : List (Nat × Instr × Nat) := [(0, .aload_n 0, 1), (1, .getfield 125, 3), (4, .iconst 2, 1), (5, .if_icmp .eq 25, 3), (8, .aload_n 0, 1), (9, .getfield 125, 3), (12, .iconst 1, 1), (13, .if_icmp .ne 21, 3), (16, .aload_n 0, 1), (17, .getfield 119, 3), (20, .aload_n 0, 1), (21, .getfield 23, 3), (24, .invokevirtual 195, 3), (27, .if_icmp .ne 7, 3), (30, .iconst 1, 1), (31, .goto 4, 3), (34, .iconst 0, 1), (35, .ireturn, 1)]
theorem dT258_ok : dT258.all (dck 258) = true := by decide +kernel
set_option maxRecDepth 100000 in
def dT300 : List (Nat × Instr × Nat) := [(0, .aload_n 0, 1), (1, .getfield 160, 3), (4, .ifCond .eq 10, 3), (7, .aload_n 0, 1), (8, .getfield 164, 3), (11, .ifCond .ne 5, 3), (14, .iconst 0, 1), (15, .ireturn, 1), (16, .aload_n 0, 1), (17, .getfield 125, 3), (20, .iconst 1, 1), (21, .if_icmp .ne 13, 3), (24, .aload_n 0, 1), (25, .getfield 60, 3), (28, .invokevirtual 167, 3), (31, .goto 11, 3), (34, .aload_n 0, 1), (35, .getfield 92, 3), (38, .iconst 1, 1), (39, .invokevirtual 170, 3), (42, .ireturn, 1)]
theorem dT300_ok : dT300.all (dck 300) = true := by decide +kernel
set_option maxRecDepth 100000 in
def dT302 : List (Nat × Instr × Nat) := [(0, .iload_n 1, 1), (1, .tableswitch 151 0 6 #[43, 62, 78, 105, 121, 126, 131], 43), (44, .aload_n 0, 1), (45, .getfield 160, 3), (48, .ifCond .eq 13, 3), (51, .aload_n 0, 1), (52, .getfield 30, 3), (55, .invokevirtual 173, 3), (58, .goto 4, 3), (61, .iconst 0, 1), (62, .ireturn, 1), (63, .aload_n 0, 1), (64, .getfield 160, 3), (67, .ifCond .eq 10, 3), (70, .aload_n 0, 1), (71, .invokevirtual 176, 3), (74, .goto 4, 3), (77, .iconst 0, 1), (78, .ireturn, 1), (79, .aload_n 0, 1), (80, .getfield 160, 3), (83, .ifCond .eq 21, 3), (86, .aload_n 0, 1), (87, .getfield 125, 3), (90, .iconst 1, 1), (91, .if_icmp .ne 13, 3), (94, .aload_n 0, 1), (95, .getfield 60, 3), (98, .invokevirtual 179, 3), (101, .goto 4, 3), (104, .iconst 0, 1), (105, .ireturn, 1), (106, .aload_n 0, 1), (107, .getfield 160, 3), (110, .ifCond .eq 10, 3), (113, .aload_n 0, 1), (114, .invokevirtual 182, 3), (117, .goto 4, 3), (120, .iconst 0, 1), (121, .ireturn, 1), (122, .aload_n 0, 1), (123, .getfield 125, 3), (126, .ireturn, 1), (127, .aload_n 0, 1), (128, .getfield 96, 3), (131, .ireturn, 1), (132, .aload_n 0, 1), (133, .getfield 125, 3), (136, .iconst 2, 1), (137, .if_icmp .ne 13, 3), (140, .aload_n 0, 1), (141, .getfield 74, 3), (144, .invokevirtual 185, 3), (147, .goto 4, 3), (150, .iconst 0, 1), (151, .ireturn, 1), (152, .iconst (-1), 1), (153, .ireturn, 1)]
theorem dT302_ok : dT302.all (dck 302) = true := by decide +kernel
set_option maxRecDepth 100000 in
def dT304 : List (Nat × Instr × Nat) := [(0, .aload_n 0, 1), (1, .getfield 125, 3), (4, .iconst 1, 1), (5, .if_icmp .ne 13, 3), (8, .aload_n 0, 1), (9, .getfield 60, 3), (12, .invokevirtual 198, 3), (15, .goto 10, 3), (18, .aload_n 0, 1), (19, .getfield 92, 3), (22, .invokevirtual 201, 3), (25, .ireturn, 1)]
theorem dT304_ok : dT304.all (dck 304) = true := by decide +kernel
set_option maxRecDepth 100000 in
def dT308 : List (Nat × Instr × Nat) := [(0, .aload_n 0, 1), (1, .getfield 125, 3), (4, .iconst 1, 1), (5, .if_icmp .ne 13, 3), (8, .aload_n 0, 1), (9, .getfield 60, 3), (12, .invokevirtual 204, 3), (15, .goto 10, 3), (18, .aload_n 0, 1), (19, .getfield 92, 3), (22, .invokevirtual 207, 3), (25, .ireturn, 1)]
theorem dT308_ok : dT308.all (dck 308) = true := by decide +kernel
set_option maxRecDepth 100000 in
def dT312 : List (Nat × Instr × Nat) := [(0, .aload_n 0, 1), (1, .getfield 160, 3), (4, .ifCond .eq 22, 3), (7, .aload_n 0, 1), (8, .getfield 125, 3), (11, .iconst 2, 1), (12, .if_icmp .ne 14, 3), (15, .aload_n 0, 1), (16, .getfield 92, 3), (19, .iload_n 1, 1), (20, .invokevirtual 170, 3), (23, .goto 4, 3), (26, .iconst 0, 1), (27, .ireturn, 1)]
theorem dT312_ok : dT312.all (dck 312) = true := by decide +kernel
set_option maxRecDepth 100000 in
def dT313 : List (Nat × Instr × Nat) := [(0, .aload_n 0, 1), (1, .getfield 160, 3), (4, .ifCond .eq 22, 3), (7, .aload_n 0, 1), (8, .getfield 125, 3), (11, .iconst 2, 1), (12, .if_icmp .ne 14, 3), (15, .aload_n 0, 1), (16, .getfield 30, 3), (19, .iload_n 1, 1), (20, .invokevirtual 188, 3), (23, .goto 4, 3), (26, .iconst 0, 1), (27, .ireturn, 1)]
theorem dT313_ok : dT313.all (dck 313) = true := by decide +kernel
set_option maxRecDepth 100000 in
def dT315 : List (Nat × Instr × Nat) := [(0, .aload_n 0, 1), (1, .getfield 237, 3), (4, .bipush 20, 2), (6, .iadd, 1), (7, .sipush 6000, 3), (10, .if_icmp .le 5, 3), (13, .iconst 0, 1), (14, .ireturn, 1), (15, .aload_n 0, 1), (16, .iload_n 1, 1), (17, .invokevirtual 240, 3), (20, .aload_n 0, 1), (21, .iload_n 2, 1), (22, .invokevirtual 240, 3), (25, .aload_n 0, 1), (26, .iload_n 3, 1), (27, .invokevirtual 240, 3), (30, .aload_n 0, 1), (31, .iload 4, 2), (33, .invokevirtual 240, 3), (36, .aload_n 0, 1), (37, .iload 5, 2), (39, .invokevirtual 240, 3), (42, .iconst 1, 1), (43, .ireturn, 1)]
theorem dT315_ok : dT315.all (dck 315) = true := by decide +kernel
set_option maxRecDepth 100000 in
def dT316 : List (Nat × Instr × Nat) := [(0, .iconst 3, 1), (1, .istore_n 2, 1), (2, .iload_n 2, 1), (3, .ifCond .lt 38, 3), (6, .aload_n 0, 1), (7, .getfield 7, 3), (10, .aload_n 0, 1), (11, .getfield 237, 3), (14, .iload_n 1, 1), (15, .bipush 8, 2), (17, .iload_n 2, 1), (18, .imul, 1), (19, .ishr, 1), (20, .sipush 255, 3), (23, .iand, 1), (24, .iastore, 1), (25, .aload_n 0, 1), (26, .aload_n 0, 1), (27, .getfield 237, 3), (30, .iconst 1, 1), (31, .iadd, 1), (32, .putfield 237, 3), (35, .iinc 2 (-1), 3), (38, .goto (-36), 3), (41, .return_, 1)]
theorem dT316_ok : dT316.all (dck 316) = true := by decide +kernel
