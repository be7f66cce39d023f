set_option maxRecDepth 100000 in
def dT463 : List (Nat × Instr × Nat) := [(0, .aload_n 0, 1), (1, .getfield 878, 3), (4, .ifCond .eq 23, 3), (7, .iload_n 1, 1), (8, .iconst 1, 1), (9, .if_icmp .lt 18, 3), (12, .iload_n 1, 1), (13, .bipush 15, 2), (15, .if_icmp .gt 12, 3), (18, .aload_n 0, 1), (19, .getfield 231, 3), (22, .iload_n 1, 1), (23, .iaload, 1), (24, .goto 4, 3), (27, .iconst 0, 1), (28, .ireturn, 1)]
theorem dT463_ok : dT463.all (dck 463) = true := by decide +kernel
set_option maxRecDepth 100000 in
def dT464 : List (Nat × Instr × Nat) := [(0, .aload_n 0, 1), (1, .getfield 878, 3), (4, .ifCond .eq 24, 3), (7, .iload_n 1, 1), (8, .ifCond .lt 20, 3), (11, .iload_n 1, 1), (12, .aload_n 0, 1), (13, .getfield 593, 3), (16, .if_icmp .ge 12, 3), (19, .aload_n 0, 1), (20, .getfield 234, 3), (23, .iload_n 1, 1), (24, .iaload, 1), (25, .goto 4, 3), (28, .iconst 0, 1), (29, .ireturn, 1)]
theorem dT464_ok : dT464.all (dck 464) = true := by decide +kernel
