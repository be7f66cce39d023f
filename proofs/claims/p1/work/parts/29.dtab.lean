set_option maxRecDepth 100000 in
def dT61 : List (Nat × Instr × Nat) := [(0, .aload_n 0, 1), (1, .getfield 7, 3), (4, .invokevirtual 35, 3), (7, .aload_n 0, 1), (8, .getfield 7, 3), (11, .iconst 2, 1), (12, .invokevirtual 38, 3), (15, .aload_n 0, 1), (16, .getfield 7, 3), (19, .bipush 11, 2), (21, .invokevirtual 38, 3), (24, .aload_n 0, 1), (25, .invokevirtual 51, 3), (28, .aload_n 0, 1), (29, .getfield 7, 3), (32, .bipush 10, 2), (34, .invokevirtual 38, 3), (37, .aload_n 0, 1), (38, .invokevirtual 19, 3), (41, .aload_n 0, 1), (42, .getfield 7, 3), (45, .invokevirtual 42, 3), (48, .return_, 1)]
theorem dT61_ok : dT61.all (dck 61) = true := by decide +kernel
set_option maxRecDepth 100000 in
def dT62 : List (Nat × Instr × Nat) := [(0, .aload_n 0, 1), (1, .getfield 151, 3), (4, .istore_n 1, 1), (5, .aload_n 0, 1), (6, .invokevirtual 164, 3), (9, .aload_n 0, 1), (10, .dup, 1), (11, .getfield 145, 3), (14, .iconst 1, 1), (15, .iadd, 1), (16, .putfield 145, 3), (19, .aload_n 0, 1), (20, .getfield 145, 3), (23, .aload_n 0, 1), (24, .getfield 142, 3), (27, .if_icmp .le 10, 3), (30, .aload_n 0, 1), (31, .iconst 2, 1), (32, .iload_n 1, 1), (33, .invokevirtual 158, 3), (36, .pop, 1), (37, .return_, 1)]
theorem dT62_ok : dT62.all (dck 62) = true := by decide +kernel
set_option maxRecDepth 100000 in
def dT63 : List (Nat × Instr × Nat) := [(0, .aload_n 0, 1), (1, .getfield 148, 3), (4, .ifCond .ne 14, 3), (7, .aload_n 0, 1), (8, .getfield 151, 3), (11, .aload_n 0, 1), (12, .getfield 139, 3), (15, .if_icmp .lt 13, 3), (18, .aload_n 0, 1), (19, .iconst 2, 1), (20, .aload_n 0, 1), (21, .getfield 151, 3), (24, .invokevirtual 158, 3), (27, .pop, 1), (28, .aload_n 0, 1), (29, .getfield 151, 3), (32, .aload_n 0, 1), (33, .getfield 66, 3), (36, .iconst 1, 1), (37, .isub, 1), (38, .if_icmp .ge 13, 3), (41, .aload_n 0, 1), (42, .dup, 1), (43, .getfield 151, 3), (46, .iconst 1, 1), (47, .iadd, 1), (48, .putfield 151, 3), (51, .return_, 1)]
theorem dT63_ok : dT63.all (dck 63) = true := by decide +kernel
set_option maxRecDepth 100000 in
def dT64 : List (Nat × Instr × Nat) := [(0, .aload_n 0, 1), (1, .getfield 80, 3), (4, .ifCond .ne 37, 3), (7, .aload_n 0, 1), (8, .iload_n 1, 1), (9, .putfield 80, 3), (12, .aload_n 0, 1), (13, .iload_n 2, 1), (14, .ifCond .lt 20, 3), (17, .iload_n 2, 1), (18, .aload_n 0, 1), (19, .getfield 66, 3), (22, .if_icmp .ge 12, 3), (25, .aload_n 0, 1), (26, .getfield 13, 3), (29, .iload_n 2, 1), (30, .iaload, 1), (31, .goto 7, 3), (34, .aload_n 0, 1), (35, .getfield 59, 3), (38, .putfield 42, 3), (41, .iconst 0, 1), (42, .ireturn, 1)]
theorem dT64_ok : dT64.all (dck 64) = true := by decide +kernel
set_option maxRecDepth 100000 in
def dT65 : List (Nat × Instr × Nat) := [(0, .aload_n 0, 1), (1, .invokevirtual 161, 3), (4, .iload_n 1, 1), (5, .if_icmp .ne 10, 3), (8, .aload_n 0, 1), (9, .invokevirtual 164, 3), (12, .goto 7, 3), (15, .aload_n 0, 1), (16, .invokevirtual 167, 3), (19, .return_, 1)]
theorem dT65_ok : dT65.all (dck 65) = true := by decide +kernel
set_option maxRecDepth 100000 in
def dT66 : List (Nat × Instr × Nat) := [(0, .aload_n 0, 1), (1, .iconst 1, 1), (2, .aload_n 0, 1), (3, .getfield 151, 3), (6, .invokevirtual 158, 3), (9, .pop, 1), (10, .return_, 1)]
theorem dT66_ok : dT66.all (dck 66) = true := by decide +kernel
set_option maxRecDepth 100000 in
def dT67 : List (Nat × Instr × Nat) := [(0, .aload_n 0, 1), (1, .invokevirtual 105, 3), (4, .aload_n 0, 1), (5, .getfield 7, 3), (8, .bipush 28, 2), (10, .invokevirtual 73, 3), (13, .ifCond .eq 14, 3), (16, .aload_n 0, 1), (17, .invokevirtual 51, 3), (20, .aload_n 0, 1), (21, .getfield 7, 3), (24, .invokevirtual 42, 3), (27, .return_, 1)]
theorem dT67_ok : dT67.all (dck 67) = true := by decide +kernel
set_option maxRecDepth 100000 in
def dT68 : List (Nat × Instr × Nat) := [(0, .aload_n 0, 1), (1, .getfield 7, 3), (4, .invokevirtual 25, 3), (7, .lookupswitch 128 #[(2, 49), (14, 105), (20, 97), (40, 49), (41, 59)], 49), (56, .aload_n 0, 1), (57, .getfield 7, 3), (60, .invokevirtual 79, 3), (63, .goto 79, 3), (66, .aload_n 0, 1), (67, .getfield 7, 3), (70, .invokevirtual 35, 3), (73, .aload_n 0, 1), (74, .getfield 7, 3), (77, .iconst 2, 1), (78, .invokevirtual 38, 3), (81, .aload_n 0, 1), (82, .getfield 7, 3), (85, .bipush 10, 2), (87, .invokevirtual 38, 3), (90, .aload_n 0, 1), (91, .invokevirtual 51, 3), (94, .aload_n 0, 1), (95, .getfield 7, 3), (98, .invokevirtual 42, 3), (101, .goto 41, 3), (104, .aload_n 0, 1), (105, .iconst 1, 1), (106, .invokevirtual 82, 3), (109, .goto 33, 3), (112, .aload_n 0, 1), (113, .getfield 7, 3), (116, .invokevirtual 35, 3), (119, .aload_n 0, 1), (120, .invokevirtual 51, 3), (123, .aload_n 0, 1), (124, .getfield 7, 3), (127, .bipush 15, 2), (129, .invokevirtual 57, 3), (132, .goto 10, 3), (135, .aload_n 0, 1), (136, .getfield 7, 3), (139, .invokevirtual 92, 3), (142, .return_, 1)]
theorem dT68_ok : dT68.all (dck 68) = true := by decide +kernel
set_option maxRecDepth 100000 in
def dT69 : List (Nat × Instr × Nat) := [(0, .aload_n 0, 1), (1, .dup, 1), (2, .getfield 145, 3), (5, .iconst 1, 1), (6, .isub, 1), (7, .putfield 145, 3), (10, .return_, 1)]
theorem dT69_ok : dT69.all (dck 69) = true := by decide +kernel
set_option maxRecDepth 100000 in
def dT70 : List (Nat × Instr × Nat) := [(0, .aload_n 0, 1), (1, .getfield 7, 3), (4, .invokevirtual 35, 3), (7, .aload_n 0, 1), (8, .getfield 7, 3), (11, .invokevirtual 25, 3), (14, .bipush 21, 2), (16, .if_icmp .eq 65, 3), (19, .iconst 1, 1), (20, .istore_n 2, 1), (21, .iload_n 2, 1), (22, .bipush 9, 2), (24, .if_icmp .gt 57, 3), (27, .aload_n 0, 1), (28, .getfield 7, 3), (31, .iload_n 2, 1), (32, .bipush 8, 2), (34, .if_icmp .le 7, 3), (37, .iconst 1, 1), (38, .goto 4, 3), (41, .iconst 0, 1), (42, .invokevirtual 95, 3), (45, .iload_n 1, 1), (46, .ifCond .eq 10, 3), (49, .aload_n 0, 1), (50, .invokevirtual 51, 3), (53, .goto 7, 3), (56, .aload_n 0, 1), (57, .invokevirtual 19, 3), (60, .aload_n 0, 1), (61, .getfield 7, 3), (64, .bipush 12, 2), (66, .invokevirtual 63, 3), (69, .ifCond .ne 6, 3), (72, .goto 9, 3), (75, .iinc 2 1, 3), (78, .goto (-57), 3), (81, .aload_n 0, 1), (82, .getfield 7, 3), (85, .bipush 21, 2), (87, .invokevirtual 57, 3), (90, .return_, 1)]
theorem dT70_ok : dT70.all (dck 70) = true := by decide +kernel
set_option maxRecDepth 100000 in
def dT71 : List (Nat × Instr × Nat) := [(0, .aload_n 0, 1), (1, .iload_n 1, 1), (2, .putfield 148, 3), (5, .return_, 1)]
theorem dT71_ok : dT71.all (dck 71) = true := by decide +kernel
set_option maxRecDepth 100000 in
def dT72 : List (Nat × Instr × Nat) := [(0, .aload_n 0, 1), (1, .invokevirtual 161, 3), (4, .iload_n 1, 1), (5, .if_icmp .eq 5, 3), (8, .iconst 0, 1), (9, .ireturn, 1), (10, .aload_n 0, 1), (11, .invokevirtual 164, 3), (14, .iconst 1, 1), (15, .ireturn, 1)]
theorem dT72_ok : dT72.all (dck 72) = true := by decide +kernel
set_option maxRecDepth 100000 in
def dT73 : List (Nat × Instr × Nat) := [(0, .aload_n 0, 1), (1, .iload_n 1, 1), (2, .invokevirtual 173, 3), (5, .aload_n 0, 1), (6, .invokevirtual 176, 3), (9, .return_, 1)]
theorem dT73_ok : dT73.all (dck 73) = true := by decide +kernel
set_option maxRecDepth 100000 in
def dT74 : List (Nat × Instr × Nat) := [(0, .aload_n 0, 1), (1, .invokevirtual 161, 3), (4, .iload_n 1, 1), (5, .if_icmp .eq 5, 3), (8, .iconst 0, 1), (9, .ireturn, 1), (10, .aload_n 0, 1), (11, .invokevirtual 170, 3), (14, .iconst 1, 1), (15, .ireturn, 1)]
theorem dT74_ok : dT74.all (dck 74) = true := by decide +kernel
set_option maxRecDepth 100000 in
def dT75 : List (Nat × Instr × Nat) := [(0, .aload_n 0, 1), (1, .getfield 7, 3), (4, .invokevirtual 35, 3), (7, .aload_n 0, 1), (8, .getfield 7, 3), (11, .iconst 2, 1), (12, .invokevirtual 38, 3), (15, .aload_n 0, 1), (16, .getfield 7, 3), (19, .bipush 14, 2), (21, .invokevirtual 54, 3), (24, .aload_n 0, 1), (25, .getfield 7, 3), (28, .iconst 2, 1), (29, .invokevirtual 38, 3), (32, .aload_n 0, 1), (33, .getfield 7, 3), (36, .bipush 11, 2), (38, .invokevirtual 38, 3), (41, .aload_n 0, 1), (42, .invokevirtual 51, 3), (45, .aload_n 0, 1), (46, .getfield 7, 3), (49, .bipush 15, 2), (51, .invokevirtual 57, 3), (54, .aload_n 0, 1), (55, .getfield 7, 3), (58, .bipush 11, 2), (60, .invokevirtual 38, 3), (63, .aload_n 0, 1), (64, .invokevirtual 51, 3), (67, .aload_n 0, 1), (68, .getfield 7, 3), (71, .bipush 10, 2), (73, .invokevirtual 38, 3), (76, .aload_n 0, 1), (77, .invokevirtual 19, 3), (80, .aload_n 0, 1), (81, .getfield 7, 3), (84, .invokevirtual 42, 3), (87, .return_, 1)]
theorem dT75_ok : dT75.all (dck 75) = true := by decide +kernel
set_option maxRecDepth 100000 in
def dT76 : List (Nat × Instr × Nat) := [(0, .aload_n 0, 1), (1, .invokevirtual 161, 3), (4, .iload_n 1, 1), (5, .if_icmp .ne 10, 3), (8, .aload_n 0, 1), (9, .invokevirtual 170, 3), (12, .goto 7, 3), (15, .aload_n 0, 1), (16, .invokevirtual 167, 3), (19, .return_, 1)]
theorem dT76_ok : dT76.all (dck 76) = true := by decide +kernel
set_option maxRecDepth 100000 in
def dT77 : List (Nat × Instr × Nat) := [(0, .aload_n 0, 1), (1, .getfield 7, 3), (4, .invokevirtual 35, 3), (7, .aload_n 0, 1), (8, .getfield 7, 3), (11, .iconst 2, 1), (12, .invokevirtual 38, 3), (15, .aload_n 0, 1), (16, .getfield 7, 3), (19, .bipush 26, 2), (21, .invokevirtual 38, 3), (24, .aload_n 0, 1), (25, .invokevirtual 19, 3), (28, .aload_n 0, 1), (29, .getfield 7, 3), (32, .bipush 46, 2), (34, .invokevirtual 38, 3), (37, .aload_n 0, 1), (38, .invokevirtual 19, 3), (41, .aload_n 0, 1), (42, .getfield 7, 3), (45, .invokevirtual 42, 3), (48, .return_, 1)]
theorem dT77_ok : dT77.all (dck 77) = true := by decide +kernel
set_option maxRecDepth 100000 in
def dT78 : List (Nat × Instr × Nat) := [(0, .aload_n 0, 1), (1, .invokevirtual 60, 3), (4, .iconst 0, 1), (5, .istore_n 1, 1), (6, .iload_n 1, 1), (7, .sipush 1202, 3), (10, .if_icmp .ge 37, 3), (13, .aload_n 0, 1), (14, .getfield 7, 3), (17, .bipush 23, 2), (19, .invokevirtual 63, 3), (22, .ifCond .ne 15, 3), (25, .aload_n 0, 1), (26, .getfield 7, 3), (29, .bipush 24, 2), (31, .invokevirtual 63, 3), (34, .ifCond .eq 13, 3), (37, .aload_n 0, 1), (38, .invokevirtual 60, 3), (41, .iinc 1 1, 3), (44, .goto (-38), 3), (47, .return_, 1)]
theorem dT78_ok : dT78.all (dck 78) = true := by decide +kernel
