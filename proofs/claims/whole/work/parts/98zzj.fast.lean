/-! THE CONSTRUCTORS' METHODS, read ahead (printed by wip/whole/gen_fast.py) -/
def fr_t0 : List (Nat × Instr × Nat × Nat × Nat × Nat) := [(0, .aload_n 0, 1, 0, 0, 0), (1, .invokespecial 1, 3, 0, 0, 0), (4, .aload_n 0, 1, 0, 0, 0), (5, .sipush (400), 3, 0, 0, 0), (8, .newarray .int, 2, 0, 0, 7), (10, .putfield 9, 3, 7, 0, 0), (13, .aload_n 0, 1, 0, 0, 0), (14, .iconst (0), 1, 0, 0, 0), (15, .putfield 13, 3, 7, 1, 0), (18, .aload_n 0, 1, 0, 0, 0), (19, .iconst (-1), 1, 0, 0, 0), (20, .putfield 17, 3, 7, 2, 0), (23, .aload_n 0, 1, 0, 0, 0), (24, .new 20, 3, 0, 0, 7), (27, .dup, 1, 0, 0, 0), (28, .invokespecial 22, 3, 0, 0, 0), (31, .putfield 23, 3, 7, 3, 0), (34, .aload_n 0, 1, 0, 0, 0), (35, .new 27, 3, 0, 0, 7), (38, .dup, 1, 0, 0, 0), (39, .invokespecial 29, 3, 0, 0, 0), (42, .putfield 30, 3, 7, 4, 0), (45, .aload_n 0, 1, 0, 0, 0), (46, .bipush (40), 2, 0, 0, 0), (48, .anewarray 34, 3, 0, 0, 7), (51, .putfield 36, 3, 7, 5, 0), (54, .aload_n 0, 1, 0, 0, 0), (55, .iconst (1), 1, 0, 0, 0), (56, .putfield 40, 3, 7, 6, 0), (59, .aload_n 0, 1, 0, 0, 0), (60, .iconst (0), 1, 0, 0, 0), (61, .putfield 43, 3, 7, 7, 0), (64, .aload_n 0, 1, 0, 0, 0), (65, .new 46, 3, 0, 0, 7), (68, .dup, 1, 0, 0, 0), (69, .invokespecial 48, 3, 0, 0, 0), (72, .putfield 49, 3, 7, 8, 0), (75, .aload_n 0, 1, 0, 0, 0), (76, .new 53, 3, 0, 0, 7), (79, .dup, 1, 0, 0, 0), (80, .invokespecial 55, 3, 0, 0, 0), (83, .putfield 56, 3, 7, 9, 0), (86, .aload_n 0, 1, 0, 0, 0), (87, .new 60, 3, 0, 0, 7), (90, .dup, 1, 0, 0, 0), (91, .invokespecial 62, 3, 0, 0, 0), (94, .putfield 63, 3, 7, 10, 0), (97, .iconst (0), 1, 0, 0, 0), (98, .istore_n 1, 1, 0, 0, 0), (99, .iload_n 1, 1, 0, 0, 0), (100, .bipush (40), 2, 0, 0, 0), (102, .if_icmp .ge (22), 3, 0, 0, 0), (105, .aload_n 0, 1, 0, 0, 0), (106, .getfield 36, 3, 7, 5, 0), (109, .iload_n 1, 1, 0, 0, 0), (110, .new 34, 3, 0, 0, 7), (113, .dup, 1, 0, 0, 0), (114, .invokespecial 67, 3, 0, 0, 0), (117, .aastore, 1, 0, 0, 0), (118, .iinc 1 (1), 3, 0, 0, 0), (121, .goto (-22), 3, 0, 0, 0), (124, .aload_n 0, 1, 0, 0, 0), (125, .invokevirtual 68, 3, 0, 0, 0), (128, .return_, 1, 0, 0, 0)]
def fr_t1 : List (Nat × Instr × Nat × Nat × Nat × Nat) := [(0, .aload_n 0, 1, 0, 0, 0), (1, .invokespecial 3, 3, 0, 0, 0), (4, .aload_n 0, 1, 0, 0, 0), (5, .new 9, 3, 0, 0, 7), (8, .dup, 1, 0, 0, 0), (9, .invokespecial 11, 3, 0, 0, 0), (12, .putfield 12, 3, 4, 0, 0), (15, .aload_n 0, 1, 0, 0, 0), (16, .iconst (0), 1, 0, 0, 0), (17, .newarray .int, 2, 0, 0, 7), (19, .putfield 18, 3, 4, 1, 0), (22, .aload_n 0, 1, 0, 0, 0), (23, .new 22, 3, 0, 0, 7), (26, .dup, 1, 0, 0, 0), (27, .invokespecial 24, 3, 0, 0, 0), (30, .putfield 25, 3, 4, 2, 0), (33, .return_, 1, 0, 0, 0)]
def fr_t2 : List (Nat × Instr × Nat × Nat × Nat × Nat) := [(0, .aload_n 0, 1, 0, 0, 0), (1, .invokespecial 1, 3, 0, 0, 0), (4, .aload_n 0, 1, 0, 0, 0), (5, .sipush (160), 3, 0, 0, 0), (8, .newarray .long, 2, 0, 0, 7), (10, .putfield 9, 3, 5, 0, 0), (13, .aload_n 0, 1, 0, 0, 0), (14, .bipush (10), 2, 0, 0, 0), (16, .newarray .long, 2, 0, 0, 7), (18, .putfield 13, 3, 5, 1, 0), (21, .return_, 1, 0, 0, 0)]
def fr_t3 : List (Nat × Instr × Nat × Nat × Nat × Nat) := [(0, .aload_n 0, 1, 0, 0, 0), (1, .invokespecial 3, 3, 0, 0, 0), (4, .aload_n 0, 1, 0, 0, 0), (5, .bipush (48), 2, 0, 0, 0), (7, .newarray .int, 2, 0, 0, 7), (9, .putfield 9, 3, 6, 0, 0), (12, .aload_n 0, 1, 0, 0, 0), (13, .bipush (8), 2, 0, 0, 0), (15, .newarray .int, 2, 0, 0, 7), (17, .putfield 15, 3, 6, 1, 0), (20, .aload_n 0, 1, 0, 0, 0), (21, .bipush (8), 2, 0, 0, 0), (23, .newarray .int, 2, 0, 0, 7), (25, .putfield 18, 3, 6, 2, 0), (28, .aload_n 0, 1, 0, 0, 0), (29, .bipush (8), 2, 0, 0, 0), (31, .newarray .int, 2, 0, 0, 7), (33, .putfield 21, 3, 6, 3, 0), (36, .aload_n 0, 1, 0, 0, 0), (37, .bipush (6), 2, 0, 0, 0), (39, .newarray .int, 2, 0, 0, 7), (41, .putfield 24, 3, 6, 4, 0), (44, .aload_n 0, 1, 0, 0, 0), (45, .iconst (4), 1, 0, 0, 0), (46, .newarray .long, 2, 0, 0, 7), (48, .putfield 29, 3, 6, 5, 0), (51, .aload_n 0, 1, 0, 0, 0), (52, .invokevirtual 33, 3, 0, 0, 0), (55, .return_, 1, 0, 0, 0)]
def fr_t4 : List (Nat × Instr × Nat × Nat × Nat × Nat) := [(0, .iconst (0), 1, 0, 0, 0), (1, .istore_n 1, 1, 0, 0, 0), (2, .iload_n 1, 1, 0, 0, 0), (3, .bipush (48), 2, 0, 0, 0), (5, .if_icmp .ge (16), 3, 0, 0, 0), (8, .aload_n 0, 1, 0, 0, 0), (9, .getfield 9, 3, 6, 0, 0), (12, .iload_n 1, 1, 0, 0, 0), (13, .iconst (0), 1, 0, 0, 0), (14, .iastore, 1, 0, 0, 0), (15, .iinc 1 (1), 3, 0, 0, 0), (18, .goto (-16), 3, 0, 0, 0), (21, .iconst (0), 1, 0, 0, 0), (22, .istore_n 1, 1, 0, 0, 0), (23, .iload_n 1, 1, 0, 0, 0), (24, .bipush (6), 2, 0, 0, 0), (26, .if_icmp .ge (22), 3, 0, 0, 0), (29, .aload_n 0, 1, 0, 0, 0), (30, .getfield 24, 3, 6, 4, 0), (33, .iload_n 1, 1, 0, 0, 0), (34, .iconst (1), 1, 0, 0, 0), (35, .iload_n 1, 1, 0, 0, 0), (36, .iconst (3), 1, 0, 0, 0), (37, .irem, 1, 0, 0, 0), (38, .iconst (3), 1, 0, 0, 0), (39, .imul, 1, 0, 0, 0), (40, .iadd, 1, 0, 0, 0), (41, .iastore, 1, 0, 0, 0), (42, .iinc 1 (1), 3, 0, 0, 0), (45, .goto (-22), 3, 0, 0, 0), (48, .iconst (0), 1, 0, 0, 0), (49, .istore_n 1, 1, 0, 0, 0), (50, .iload_n 1, 1, 0, 0, 0), (51, .iconst (4), 1, 0, 0, 0), (52, .if_icmp .ge (16), 3, 0, 0, 0), (55, .aload_n 0, 1, 0, 0, 0), (56, .getfield 29, 3, 6, 5, 0), (59, .iload_n 1, 1, 0, 0, 0), (60, .lconst 0, 1, 0, 0, 0), (61, .lastore, 1, 0, 0, 0), (62, .iinc 1 (1), 3, 0, 0, 0), (65, .goto (-15), 3, 0, 0, 0), (68, .aload_n 0, 1, 0, 0, 0), (69, .iconst (0), 1, 0, 0, 0), (70, .putfield 36, 3, 6, 6, 0), (73, .aload_n 0, 1, 0, 0, 0), (74, .iconst (0), 1, 0, 0, 0), (75, .putfield 40, 3, 6, 7, 0), (78, .aload_n 0, 1, 0, 0, 0), (79, .iconst (0), 1, 0, 0, 0), (80, .putfield 43, 3, 6, 8, 0), (83, .return_, 1, 0, 0, 0)]
def fr_t5 : List (Nat × Instr × Nat × Nat × Nat × Nat) := [(0, .aload_n 0, 1, 0, 0, 0), (1, .invokespecial 3, 3, 0, 0, 0), (4, .aload_n 0, 1, 0, 0, 0), (5, .new 9, 3, 0, 0, 7), (8, .dup, 1, 0, 0, 0), (9, .invokespecial 11, 3, 0, 0, 0), (12, .putfield 12, 3, 0, 0, 0), (15, .aload_n 0, 1, 0, 0, 0), (16, .new 18, 3, 0, 0, 7), (19, .dup, 1, 0, 0, 0), (20, .invokespecial 20, 3, 0, 0, 0), (23, .putfield 21, 3, 0, 1, 0), (26, .aload_n 0, 1, 0, 0, 0), (27, .aload_n 0, 1, 0, 0, 0), (28, .getfield 21, 3, 0, 1, 0), (31, .putfield 25, 3, 0, 2, 0), (34, .aload_n 0, 1, 0, 0, 0), (35, .iconst (1), 1, 0, 0, 0), (36, .putfield 28, 3, 0, 3, 0), (39, .aload_n 0, 1, 0, 0, 0), (40, .iconst (0), 1, 0, 0, 0), (41, .putfield 32, 3, 0, 4, 0), (44, .aload_n 0, 1, 0, 0, 0), (45, .iconst (0), 1, 0, 0, 0), (46, .putfield 35, 3, 0, 5, 0), (49, .aload_n 0, 1, 0, 0, 0), (50, .iconst (2), 1, 0, 0, 0), (51, .newarray .int, 2, 0, 0, 7), (53, .putfield 38, 3, 0, 6, 0), (56, .aload_n 0, 1, 0, 0, 0), (57, .iconst (2), 1, 0, 0, 0), (58, .newarray .int, 2, 0, 0, 7), (60, .putfield 42, 3, 0, 7, 0), (63, .aload_n 0, 1, 0, 0, 0), (64, .iconst (2), 1, 0, 0, 0), (65, .newarray .int, 2, 0, 0, 7), (67, .putfield 45, 3, 0, 13, 0), (70, .return_, 1, 0, 0, 0)]
def fr_t6 : List (Nat × Instr × Nat × Nat × Nat × Nat) := [(0, .aload_n 0, 1, 0, 0, 0), (1, .invokespecial 3, 3, 0, 0, 0), (4, .aload_n 0, 1, 0, 0, 0), (5, .iconst (2), 1, 0, 0, 0), (6, .newarray .int, 2, 0, 0, 7), (8, .putfield 9, 3, 1, 12, 0), (11, .aload_n 0, 1, 0, 0, 0), (12, .iconst (2), 1, 0, 0, 0), (13, .newarray .int, 2, 0, 0, 7), (15, .putfield 15, 3, 1, 13, 0), (18, .aload_n 0, 1, 0, 0, 0), (19, .bipush (8), 2, 0, 0, 0), (21, .newarray .int, 2, 0, 0, 7), (23, .putfield 18, 3, 1, 14, 0), (26, .aload_n 0, 1, 0, 0, 0), (27, .bipush (8), 2, 0, 0, 0), (29, .newarray .int, 2, 0, 0, 7), (31, .putfield 21, 3, 1, 15, 0), (34, .return_, 1, 0, 0, 0)]
def fr_t7 : List (Nat × Instr × Nat × Nat × Nat × Nat) := [(0, .aload_n 0, 1, 0, 0, 0), (1, .invokespecial 3, 3, 0, 0, 0), (4, .aload_n 0, 1, 0, 0, 0), (5, .new 9, 3, 0, 0, 7), (8, .dup, 1, 0, 0, 0), (9, .invokespecial 11, 3, 0, 0, 0), (12, .putfield 12, 3, 3, 0, 0), (15, .aload_n 0, 1, 0, 0, 0), (16, .new 18, 3, 0, 0, 7), (19, .dup, 1, 0, 0, 0), (20, .invokespecial 20, 3, 0, 0, 0), (23, .putfield 21, 3, 3, 1, 0), (26, .aload_n 0, 1, 0, 0, 0), (27, .sipush (256), 3, 0, 0, 0), (30, .newarray .int, 2, 0, 0, 7), (32, .putfield 25, 3, 3, 2, 0), (35, .return_, 1, 0, 0, 0)]
def fr_t8 : List (Nat × Instr × Nat × Nat × Nat × Nat) := [(0, .aload_n 0, 1, 0, 0, 0), (1, .invokespecial 1, 3, 0, 0, 0), (4, .aload_n 0, 1, 0, 0, 0), (5, .sipush (256), 3, 0, 0, 0), (8, .newarray .int, 2, 0, 0, 7), (10, .putfield 9, 3, 2, 0, 0), (13, .return_, 1, 0, 0, 0)]
def fr_t9 : List (Nat × Instr × Nat × Nat × Nat × Nat) := [(0, .aload_n 0, 1, 0, 0, 0), (1, .getfield 36, 3, 7, 5, 0), (4, .iconst (0), 1, 0, 0, 0), (5, .aaload, 1, 0, 0, 0), (6, .aload_n 0, 1, 0, 0, 0), (7, .getfield 30, 3, 7, 4, 0), (10, .invokevirtual 71, 3, 0, 0, 0), (13, .invokevirtual 75, 3, 0, 0, 0), (16, .aload_n 0, 1, 0, 0, 0), (17, .iconst (1), 1, 0, 0, 0), (18, .putfield 40, 3, 7, 6, 0), (21, .aload_n 0, 1, 0, 0, 0), (22, .iconst (0), 1, 0, 0, 0), (23, .putfield 43, 3, 7, 7, 0), (26, .return_, 1, 0, 0, 0)]
def fr_t10 : List (Nat × Instr × Nat × Nat × Nat × Nat) := [(0, .iconst (1), 1, 0, 0, 0), (1, .aload_n 0, 1, 0, 0, 0), (2, .getfield 36, 3, 6, 6, 0), (5, .ishl, 1, 0, 0, 0), (6, .iconst (1), 1, 0, 0, 0), (7, .isub, 1, 0, 0, 0), (8, .ireturn, 1, 0, 0, 0)]
def fr_t11 : List (Nat × Instr × Nat × Nat × Nat × Nat) := [(0, .aload_n 0, 1, 0, 0, 0), (1, .iconst (-1), 1, 0, 0, 0), (2, .iload_n 1, 1, 0, 0, 0), (3, .invokevirtual 24, 3, 0, 0, 0), (6, .aload_n 0, 1, 0, 0, 0), (7, .iconst (0), 1, 0, 0, 0), (8, .putfield 28, 3, 1, 4, 0), (11, .aload_n 0, 1, 0, 0, 0), (12, .iconst (0), 1, 0, 0, 0), (13, .putfield 32, 3, 1, 5, 0), (16, .aload_n 0, 1, 0, 0, 0), (17, .iload_n 1, 1, 0, 0, 0), (18, .putfield 35, 3, 1, 6, 0), (21, .aload_n 0, 1, 0, 0, 0), (22, .iconst (0), 1, 0, 0, 0), (23, .putfield 38, 3, 1, 7, 0), (26, .aload_n 0, 1, 0, 0, 0), (27, .iconst (0), 1, 0, 0, 0), (28, .putfield 41, 3, 1, 8, 0), (31, .aload_n 0, 1, 0, 0, 0), (32, .getfield 15, 3, 1, 13, 0), (35, .iconst (0), 1, 0, 0, 0), (36, .iconst (0), 1, 0, 0, 0), (37, .iastore, 1, 0, 0, 0), (38, .aload_n 0, 1, 0, 0, 0), (39, .getfield 15, 3, 1, 13, 0), (42, .iconst (1), 1, 0, 0, 0), (43, .iconst (0), 1, 0, 0, 0), (44, .iastore, 1, 0, 0, 0), (45, .aload_n 0, 1, 0, 0, 0), (46, .iconst (1), 1, 0, 0, 0), (47, .putfield 44, 3, 1, 11, 0), (50, .return_, 1, 0, 0, 0)]
def fr_t12 : List (Nat × Instr × Nat × Nat × Nat × Nat) := [(0, .aload_n 0, 1, 0, 0, 0), (1, .iconst (0), 1, 0, 0, 0), (2, .putfield 51, 3, 1, 0, 0), (5, .aload_n 0, 1, 0, 0, 0), (6, .iload_n 1, 1, 0, 0, 0), (7, .putfield 54, 3, 1, 1, 0), (10, .aload_n 0, 1, 0, 0, 0), (11, .iconst (-1), 1, 0, 0, 0), (12, .putfield 57, 3, 1, 2, 0), (15, .aload_n 0, 1, 0, 0, 0), (16, .iload_n 2, 1, 0, 0, 0), (17, .putfield 60, 3, 1, 3, 0), (20, .aload_n 0, 1, 0, 0, 0), (21, .iconst (-1), 1, 0, 0, 0), (22, .putfield 63, 3, 1, 9, 0), (25, .aload_n 0, 1, 0, 0, 0), (26, .iconst (0), 1, 0, 0, 0), (27, .putfield 66, 3, 1, 10, 0), (30, .aload_n 0, 1, 0, 0, 0), (31, .getfield 9, 3, 1, 12, 0), (34, .iconst (0), 1, 0, 0, 0), (35, .iconst (0), 1, 0, 0, 0), (36, .iastore, 1, 0, 0, 0), (37, .aload_n 0, 1, 0, 0, 0), (38, .getfield 9, 3, 1, 12, 0), (41, .iconst (1), 1, 0, 0, 0), (42, .iconst (0), 1, 0, 0, 0), (43, .iastore, 1, 0, 0, 0), (44, .return_, 1, 0, 0, 0)]
def fr_t183 : List (Nat × Instr × Nat × Nat × Nat × Nat) := [(0, .aload_n 0, 1, 0, 0, 0), (1, .invokespecial 1, 3, 0, 0, 0), (4, .aload_n 0, 1, 0, 0, 0), (5, .sipush (400), 3, 0, 0, 0), (8, .newarray .int, 2, 0, 0, 7), (10, .putfield 7, 3, 8, 1, 0), (13, .aload_n 0, 1, 0, 0, 0), (14, .iconst (-1), 1, 0, 0, 0), (15, .putfield 13, 3, 8, 5, 0), (18, .aload_n 0, 1, 0, 0, 0), (19, .bipush (8), 2, 0, 0, 0), (21, .newarray .long, 2, 0, 0, 7), (23, .putfield 17, 3, 8, 10, 0), (26, .aload_n 0, 1, 0, 0, 0), (27, .bipush (8), 2, 0, 0, 0), (29, .newarray .int, 2, 0, 0, 7), (31, .putfield 21, 3, 8, 11, 0), (34, .aload_n 0, 1, 0, 0, 0), (35, .bipush (8), 2, 0, 0, 0), (37, .newarray .int, 2, 0, 0, 7), (39, .putfield 24, 3, 8, 12, 0), (42, .aload_n 0, 1, 0, 0, 0), (43, .bipush (6), 2, 0, 0, 0), (45, .newarray .int, 2, 0, 0, 7), (47, .putfield 27, 3, 8, 13, 0), (50, .aload_n 0, 1, 0, 0, 0), (51, .sipush (420), 3, 0, 0, 0), (54, .newarray .int, 2, 0, 0, 7), (56, .putfield 30, 3, 8, 14, 0), (59, .aload_n 0, 1, 0, 0, 0), (60, .sipush (420), 3, 0, 0, 0), (63, .newarray .int, 2, 0, 0, 7), (65, .putfield 33, 3, 8, 15, 0), (68, .aload_n 0, 1, 0, 0, 0), (69, .sipush (420), 3, 0, 0, 0), (72, .newarray .int, 2, 0, 0, 7), (74, .putfield 36, 3, 8, 16, 0), (77, .aload_n 0, 1, 0, 0, 0), (78, .bipush (8), 2, 0, 0, 0), (80, .newarray .long, 2, 0, 0, 7), (82, .putfield 39, 3, 8, 20, 0), (85, .aload_n 0, 1, 0, 0, 0), (86, .bipush (8), 2, 0, 0, 0), (88, .newarray .int, 2, 0, 0, 7), (90, .putfield 42, 3, 8, 21, 0), (93, .aload_n 0, 1, 0, 0, 0), (94, .bipush (8), 2, 0, 0, 0), (96, .newarray .int, 2, 0, 0, 7), (98, .putfield 45, 3, 8, 22, 0), (101, .aload_n 0, 1, 0, 0, 0), (102, .bipush (6), 2, 0, 0, 0), (104, .newarray .int, 2, 0, 0, 7), (106, .dup, 1, 0, 0, 0), (107, .iconst (0), 1, 0, 0, 0), (108, .iconst (1), 1, 0, 0, 0), (109, .iastore, 1, 0, 0, 0), (110, .dup, 1, 0, 0, 0), (111, .iconst (1), 1, 0, 0, 0), (112, .iconst (4), 1, 0, 0, 0), (113, .iastore, 1, 0, 0, 0), (114, .dup, 1, 0, 0, 0), (115, .iconst (2), 1, 0, 0, 0), (116, .bipush (7), 2, 0, 0, 0), (118, .iastore, 1, 0, 0, 0), (119, .dup, 1, 0, 0, 0), (120, .iconst (3), 1, 0, 0, 0), (121, .iconst (1), 1, 0, 0, 0), (122, .iastore, 1, 0, 0, 0), (123, .dup, 1, 0, 0, 0), (124, .iconst (4), 1, 0, 0, 0), (125, .iconst (4), 1, 0, 0, 0), (126, .iastore, 1, 0, 0, 0), (127, .dup, 1, 0, 0, 0), (128, .iconst (5), 1, 0, 0, 0), (129, .bipush (7), 2, 0, 0, 0), (131, .iastore, 1, 0, 0, 0), (132, .putfield 48, 3, 8, 23, 0), (135, .aload_n 0, 1, 0, 0, 0), (136, .sipush (420), 3, 0, 0, 0), (139, .newarray .int, 2, 0, 0, 7), (141, .putfield 51, 3, 8, 24, 0), (144, .aload_n 0, 1, 0, 0, 0), (145, .sipush (420), 3, 0, 0, 0), (148, .newarray .int, 2, 0, 0, 7), (150, .putfield 54, 3, 8, 25, 0), (153, .aload_n 0, 1, 0, 0, 0), (154, .sipush (420), 3, 0, 0, 0), (157, .newarray .int, 2, 0, 0, 7), (159, .putfield 57, 3, 8, 26, 0), (162, .aload_n 0, 1, 0, 0, 0), (163, .bipush (10), 2, 0, 0, 0), (165, .newarray .int, 2, 0, 0, 7), (167, .putfield 60, 3, 8, 27, 0), (170, .aload_n 0, 1, 0, 0, 0), (171, .bipush (10), 2, 0, 0, 0), (173, .newarray .int, 2, 0, 0, 7), (175, .putfield 63, 3, 8, 28, 0), (178, .aload_n 0, 1, 0, 0, 0), (179, .bipush (10), 2, 0, 0, 0), (181, .newarray .int, 2, 0, 0, 7), (183, .putfield 66, 3, 8, 29, 0), (186, .aload_n 0, 1, 0, 0, 0), (187, .bipush (10), 2, 0, 0, 0), (189, .newarray .int, 2, 0, 0, 7), (191, .putfield 69, 3, 8, 30, 0), (194, .aload_n 0, 1, 0, 0, 0), (195, .bipush (10), 2, 0, 0, 0), (197, .newarray .boolean, 2, 0, 0, 7), (199, .putfield 72, 3, 8, 31, 0), (202, .aload_n 0, 1, 0, 0, 0), (203, .bipush (10), 2, 0, 0, 0), (205, .newarray .boolean, 2, 0, 0, 7), (207, .putfield 76, 3, 8, 32, 0), (210, .aload_n 0, 1, 0, 0, 0), (211, .sipush (256), 3, 0, 0, 0), (214, .newarray .int, 2, 0, 0, 7), (216, .putfield 79, 3, 8, 35, 0), (219, .aload_n 0, 1, 0, 0, 0), (220, .sipush (420), 3, 0, 0, 0), (223, .newarray .boolean, 2, 0, 0, 7), (225, .putfield 82, 3, 8, 36, 0), (228, .aload_n 0, 1, 0, 0, 0), (229, .bipush (40), 2, 0, 0, 0), (231, .newarray .int, 2, 0, 0, 7), (233, .putfield 85, 3, 8, 39, 0), (236, .aload_n 0, 1, 0, 0, 0), (237, .bipush (40), 2, 0, 0, 0), (239, .newarray .int, 2, 0, 0, 7), (241, .putfield 88, 3, 8, 40, 0), (244, .aload_n 0, 1, 0, 0, 0), (245, .bipush (40), 2, 0, 0, 0), (247, .newarray .int, 2, 0, 0, 7), (249, .putfield 91, 3, 8, 41, 0), (252, .aload_n 0, 1, 0, 0, 0), (253, .bipush (40), 2, 0, 0, 0), (255, .newarray .int, 2, 0, 0, 7), (257, .putfield 94, 3, 8, 42, 0), (260, .aload_n 0, 1, 0, 0, 0), (261, .bipush (40), 2, 0, 0, 0), (263, .newarray .int, 2, 0, 0, 7), (265, .putfield 97, 3, 8, 43, 0), (268, .aload_n 0, 1, 0, 0, 0), (269, .bipush (40), 2, 0, 0, 0), (271, .newarray .int, 2, 0, 0, 7), (273, .putfield 100, 3, 8, 44, 0), (276, .aload_n 0, 1, 0, 0, 0), (277, .bipush (40), 2, 0, 0, 0), (279, .newarray .int, 2, 0, 0, 7), (281, .putfield 103, 3, 8, 45, 0), (284, .aload_n 0, 1, 0, 0, 0), (285, .bipush (40), 2, 0, 0, 0), (287, .newarray .int, 2, 0, 0, 7), (289, .putfield 106, 3, 8, 46, 0), (292, .aload_n 0, 1, 0, 0, 0), (293, .bipush (40), 2, 0, 0, 0), (295, .newarray .int, 2, 0, 0, 7), (297, .putfield 109, 3, 8, 47, 0), (300, .aload_n 0, 1, 0, 0, 0), (301, .bipush (40), 2, 0, 0, 0), (303, .newarray .int, 2, 0, 0, 7), (305, .putfield 112, 3, 8, 48, 0), (308, .aload_n 0, 1, 0, 0, 0), (309, .bipush (40), 2, 0, 0, 0), (311, .newarray .int, 2, 0, 0, 7), (313, .putfield 115, 3, 8, 49, 0), (316, .aload_n 0, 1, 0, 0, 0), (317, .bipush (80), 2, 0, 0, 0), (319, .newarray .int, 2, 0, 0, 7), (321, .putfield 118, 3, 8, 50, 0), (324, .aload_n 0, 1, 0, 0, 0), (325, .bipush (80), 2, 0, 0, 0), (327, .newarray .int, 2, 0, 0, 7), (329, .putfield 121, 3, 8, 51, 0), (332, .aload_n 0, 1, 0, 0, 0), (333, .sipush (320), 3, 0, 0, 0), (336, .newarray .int, 2, 0, 0, 7), (338, .putfield 124, 3, 8, 52, 0), (341, .aload_n 0, 1, 0, 0, 0), (342, .sipush (320), 3, 0, 0, 0), (345, .newarray .int, 2, 0, 0, 7), (347, .putfield 127, 3, 8, 53, 0), (350, .aload_n 0, 1, 0, 0, 0), (351, .sipush (320), 3, 0, 0, 0), (354, .newarray .int, 2, 0, 0, 7), (356, .putfield 130, 3, 8, 54, 0), (359, .aload_n 0, 1, 0, 0, 0), (360, .sipush (256), 3, 0, 0, 0), (363, .newarray .int, 2, 0, 0, 7), (365, .putfield 133, 3, 8, 64, 0), (368, .aload_n 0, 1, 0, 0, 0), (369, .sipush (400), 3, 0, 0, 0), (372, .newarray .int, 2, 0, 0, 7), (374, .putfield 136, 3, 8, 69, 0), (377, .aload_n 0, 1, 0, 0, 0), (378, .invokevirtual 139, 3, 0, 0, 0), (381, .return_, 1, 0, 0, 0)]
def fr_t184 : List (Nat × Instr × Nat × Nat × Nat × Nat) := [(0, .iconst (0), 1, 0, 0, 0), (1, .istore_n 1, 1, 0, 0, 0), (2, .iload_n 1, 1, 0, 0, 0), (3, .sipush (256), 3, 0, 0, 0), (6, .if_icmp .ge (28), 3, 0, 0, 0), (9, .aload_n 0, 1, 0, 0, 0), (10, .getfield 79, 3, 8, 35, 0), (13, .iload_n 1, 1, 0, 0, 0), (14, .aload_n 0, 1, 0, 0, 0), (15, .iload_n 1, 1, 0, 0, 0), (16, .invokevirtual 300, 3, 0, 0, 0), (19, .ifCond .eq (7), 3, 0, 0, 0), (22, .iconst (0), 1, 0, 0, 0), (23, .goto (4), 3, 0, 0, 0), (26, .iconst (1), 1, 0, 0, 0), (27, .iastore, 1, 0, 0, 0), (28, .iinc 1 (1), 3, 0, 0, 0), (31, .goto (-29), 3, 0, 0, 0), (34, .aload_n 0, 1, 0, 0, 0), (35, .iconst (1), 1, 0, 0, 0), (36, .putfield 303, 3, 8, 37, 0), (39, .aload_n 0, 1, 0, 0, 0), (40, .iconst (0), 1, 0, 0, 0), (41, .putfield 306, 3, 8, 38, 0), (44, .aload_n 0, 1, 0, 0, 0), (45, .getfield 85, 3, 8, 39, 0), (48, .iconst (0), 1, 0, 0, 0), (49, .iconst (0), 1, 0, 0, 0), (50, .iastore, 1, 0, 0, 0), (51, .aload_n 0, 1, 0, 0, 0), (52, .getfield 88, 3, 8, 40, 0), (55, .iconst (0), 1, 0, 0, 0), (56, .iconst (-1), 1, 0, 0, 0), (57, .iastore, 1, 0, 0, 0), (58, .aload_n 0, 1, 0, 0, 0), (59, .getfield 91, 3, 8, 41, 0), (62, .iconst (0), 1, 0, 0, 0), (63, .iconst (-1), 1, 0, 0, 0), (64, .iastore, 1, 0, 0, 0), (65, .aload_n 0, 1, 0, 0, 0), (66, .getfield 94, 3, 8, 42, 0), (69, .iconst (0), 1, 0, 0, 0), (70, .aload_n 0, 1, 0, 0, 0), (71, .invokevirtual 309, 3, 0, 0, 0), (74, .iastore, 1, 0, 0, 0), (75, .aload_n 0, 1, 0, 0, 0), (76, .getfield 97, 3, 8, 43, 0), (79, .iconst (0), 1, 0, 0, 0), (80, .aload_n 0, 1, 0, 0, 0), (81, .invokevirtual 309, 3, 0, 0, 0), (84, .iastore, 1, 0, 0, 0), (85, .aload_n 0, 1, 0, 0, 0), (86, .getfield 100, 3, 8, 44, 0), (89, .iconst (0), 1, 0, 0, 0), (90, .iconst (0), 1, 0, 0, 0), (91, .iastore, 1, 0, 0, 0), (92, .aload_n 0, 1, 0, 0, 0), (93, .getfield 103, 3, 8, 45, 0), (96, .iconst (0), 1, 0, 0, 0), (97, .iconst (0), 1, 0, 0, 0), (98, .iastore, 1, 0, 0, 0), (99, .aload_n 0, 1, 0, 0, 0), (100, .getfield 106, 3, 8, 46, 0), (103, .iconst (0), 1, 0, 0, 0), (104, .iconst (0), 1, 0, 0, 0), (105, .iastore, 1, 0, 0, 0), (106, .aload_n 0, 1, 0, 0, 0), (107, .getfield 109, 3, 8, 47, 0), (110, .iconst (0), 1, 0, 0, 0), (111, .iconst (-1), 1, 0, 0, 0), (112, .iastore, 1, 0, 0, 0), (113, .aload_n 0, 1, 0, 0, 0), (114, .getfield 112, 3, 8, 48, 0), (117, .iconst (0), 1, 0, 0, 0), (118, .iconst (0), 1, 0, 0, 0), (119, .iastore, 1, 0, 0, 0), (120, .aload_n 0, 1, 0, 0, 0), (121, .getfield 115, 3, 8, 49, 0), (124, .iconst (0), 1, 0, 0, 0), (125, .iconst (0), 1, 0, 0, 0), (126, .iastore, 1, 0, 0, 0), (127, .iconst (0), 1, 0, 0, 0), (128, .istore_n 1, 1, 0, 0, 0), (129, .iload_n 1, 1, 0, 0, 0), (130, .iconst (2), 1, 0, 0, 0), (131, .if_icmp .ge (23), 3, 0, 0, 0), (134, .aload_n 0, 1, 0, 0, 0), (135, .getfield 118, 3, 8, 50, 0), (138, .iload_n 1, 1, 0, 0, 0), (139, .iconst (0), 1, 0, 0, 0), (140, .iastore, 1, 0, 0, 0), (141, .aload_n 0, 1, 0, 0, 0), (142, .getfield 121, 3, 8, 51, 0), (145, .iload_n 1, 1, 0, 0, 0), (146, .iconst (0), 1, 0, 0, 0), (147, .iastore, 1, 0, 0, 0), (148, .iinc 1 (1), 3, 0, 0, 0), (151, .goto (-22), 3, 0, 0, 0), (154, .iconst (0), 1, 0, 0, 0), (155, .istore_n 1, 1, 0, 0, 0), (156, .iload_n 1, 1, 0, 0, 0), (157, .bipush (8), 2, 0, 0, 0), (159, .if_icmp .ge (15), 3, 0, 0, 0), (162, .aload_n 0, 1, 0, 0, 0), (163, .iconst (0), 1, 0, 0, 0), (164, .iload_n 1, 1, 0, 0, 0), (165, .invokevirtual 312, 3, 0, 0, 0), (168, .iinc 1 (1), 3, 0, 0, 0), (171, .goto (-15), 3, 0, 0, 0), (174, .return_, 1, 0, 0, 0)]
def fr_t185 : List (Nat × Instr × Nat × Nat × Nat × Nat) := [(0, .iconst (0), 1, 0, 0, 0), (1, .istore_n 2, 1, 0, 0, 0), (2, .iconst (0), 1, 0, 0, 0), (3, .istore_n 3, 1, 0, 0, 0), (4, .iload_n 3, 1, 0, 0, 0), (5, .aload_n 0, 1, 0, 0, 0), (6, .getfield 297, 3, 8, 19, 0), (9, .if_icmp .ge (243), 3, 0, 0, 0), (12, .aload_n 0, 1, 0, 0, 0), (13, .getfield 51, 3, 8, 24, 0), (16, .iload_n 3, 1, 0, 0, 0), (17, .iaload, 1, 0, 0, 0), (18, .ifCond .ne (25), 3, 0, 0, 0), (21, .aload_n 0, 1, 0, 0, 0), (22, .getfield 82, 3, 8, 36, 0), (25, .iload_n 2, 1, 0, 0, 0), (26, .iload_n 1, 1, 0, 0, 0), (27, .aload_n 0, 1, 0, 0, 0), (28, .getfield 54, 3, 8, 25, 0), (31, .iload_n 3, 1, 0, 0, 0), (32, .iaload, 1, 0, 0, 0), (33, .invokestatic 234, 3, 0, 0, 0), (36, .bastore, 1, 0, 0, 0), (37, .iinc 2 (1), 3, 0, 0, 0), (40, .goto (206), 3, 0, 0, 0), (43, .aload_n 0, 1, 0, 0, 0), (44, .getfield 51, 3, 8, 24, 0), (47, .iload_n 3, 1, 0, 0, 0), (48, .iaload, 1, 0, 0, 0), (49, .iconst (1), 1, 0, 0, 0), (50, .if_icmp .ne (30), 3, 0, 0, 0), (53, .aload_n 0, 1, 0, 0, 0), (54, .getfield 82, 3, 8, 36, 0), (57, .iload_n 2, 1, 0, 0, 0), (58, .iconst (1), 1, 0, 0, 0), (59, .isub, 1, 0, 0, 0), (60, .aload_n 0, 1, 0, 0, 0), (61, .getfield 82, 3, 8, 36, 0), (64, .iload_n 2, 1, 0, 0, 0), (65, .iconst (1), 1, 0, 0, 0), (66, .isub, 1, 0, 0, 0), (67, .baload, 1, 0, 0, 0), (68, .ifCond .ne (7), 3, 0, 0, 0), (71, .iconst (1), 1, 0, 0, 0), (72, .goto (4), 3, 0, 0, 0), (75, .iconst (0), 1, 0, 0, 0), (76, .bastore, 1, 0, 0, 0), (77, .goto (169), 3, 0, 0, 0), (80, .aload_n 0, 1, 0, 0, 0), (81, .getfield 51, 3, 8, 24, 0), (84, .iload_n 3, 1, 0, 0, 0), (85, .iaload, 1, 0, 0, 0), (86, .iconst (4), 1, 0, 0, 0), (87, .if_icmp .ne (85), 3, 0, 0, 0), (90, .iconst (0), 1, 0, 0, 0), (91, .istore 4, 2, 0, 0, 0), (93, .iload_n 2, 1, 0, 0, 0), (94, .aload_n 0, 1, 0, 0, 0), (95, .getfield 57, 3, 8, 26, 0), (98, .iload_n 3, 1, 0, 0, 0), (99, .iaload, 1, 0, 0, 0), (100, .isub, 1, 0, 0, 0), (101, .istore 5, 2, 0, 0, 0), (103, .iload 5, 2, 0, 0, 0), (105, .iload_n 2, 1, 0, 0, 0), (106, .if_icmp .ge (29), 3, 0, 0, 0), (109, .iload 4, 2, 0, 0, 0), (111, .aload_n 0, 1, 0, 0, 0), (112, .getfield 82, 3, 8, 36, 0), (115, .iload 5, 2, 0, 0, 0), (117, .baload, 1, 0, 0, 0), (118, .ifCond .eq (7), 3, 0, 0, 0), (121, .iconst (1), 1, 0, 0, 0), (122, .goto (4), 3, 0, 0, 0), (125, .iconst (0), 1, 0, 0, 0), (126, .iadd, 1, 0, 0, 0), (127, .istore 4, 2, 0, 0, 0), (129, .iinc 5 (1), 3, 0, 0, 0), (132, .goto (-29), 3, 0, 0, 0), (135, .iload_n 2, 1, 0, 0, 0), (136, .aload_n 0, 1, 0, 0, 0), (137, .getfield 57, 3, 8, 26, 0), (140, .iload_n 3, 1, 0, 0, 0), (141, .iaload, 1, 0, 0, 0), (142, .isub, 1, 0, 0, 0), (143, .istore_n 2, 1, 0, 0, 0), (144, .aload_n 0, 1, 0, 0, 0), (145, .getfield 82, 3, 8, 36, 0), (148, .iload_n 2, 1, 0, 0, 0), (149, .iload 4, 2, 0, 0, 0), (151, .aload_n 0, 1, 0, 0, 0), (152, .getfield 54, 3, 8, 25, 0), (155, .iload_n 3, 1, 0, 0, 0), (156, .iaload, 1, 0, 0, 0), (157, .if_icmp .lt (7), 3, 0, 0, 0), (160, .iconst (1), 1, 0, 0, 0), (161, .goto (4), 3, 0, 0, 0), (164, .iconst (0), 1, 0, 0, 0), (165, .bastore, 1, 0, 0, 0), (166, .iinc 2 (1), 3, 0, 0, 0), (169, .goto (77), 3, 0, 0, 0), (172, .iinc 2 (-1), 3, 0, 0, 0), (175, .aload_n 0, 1, 0, 0, 0), (176, .getfield 82, 3, 8, 36, 0), (179, .iload_n 2, 1, 0, 0, 0), (180, .iconst (1), 1, 0, 0, 0), (181, .isub, 1, 0, 0, 0), (182, .aload_n 0, 1, 0, 0, 0), (183, .getfield 51, 3, 8, 24, 0), (186, .iload_n 3, 1, 0, 0, 0), (187, .iaload, 1, 0, 0, 0), (188, .iconst (2), 1, 0, 0, 0), (189, .if_icmp .ne (31), 3, 0, 0, 0), (192, .aload_n 0, 1, 0, 0, 0), (193, .getfield 82, 3, 8, 36, 0), (196, .iload_n 2, 1, 0, 0, 0), (197, .iconst (1), 1, 0, 0, 0), (198, .isub, 1, 0, 0, 0), (199, .baload, 1, 0, 0, 0), (200, .ifCond .eq (16), 3, 0, 0, 0), (203, .aload_n 0, 1, 0, 0, 0), (204, .getfield 82, 3, 8, 36, 0), (207, .iload_n 2, 1, 0, 0, 0), (208, .baload, 1, 0, 0, 0), (209, .ifCond .eq (7), 3, 0, 0, 0), (212, .iconst (1), 1, 0, 0, 0), (213, .goto (32), 3, 0, 0, 0), (216, .iconst (0), 1, 0, 0, 0), (217, .goto (28), 3, 0, 0, 0), (220, .aload_n 0, 1, 0, 0, 0), (221, .getfield 82, 3, 8, 36, 0), (224, .iload_n 2, 1, 0, 0, 0), (225, .iconst (1), 1, 0, 0, 0), (226, .isub, 1, 0, 0, 0), (227, .baload, 1, 0, 0, 0), (228, .ifCond .ne (12), 3, 0, 0, 0), (231, .aload_n 0, 1, 0, 0, 0), (232, .getfield 82, 3, 8, 36, 0), (235, .iload_n 2, 1, 0, 0, 0), (236, .baload, 1, 0, 0, 0), (237, .ifCond .eq (7), 3, 0, 0, 0), (240, .iconst (1), 1, 0, 0, 0), (241, .goto (4), 3, 0, 0, 0), (244, .iconst (0), 1, 0, 0, 0), (245, .bastore, 1, 0, 0, 0), (246, .iinc 3 (1), 3, 0, 0, 0), (249, .goto (-245), 3, 0, 0, 0), (252, .aload_n 0, 1, 0, 0, 0), (253, .getfield 297, 3, 8, 19, 0), (256, .ifCond .le (16), 3, 0, 0, 0), (259, .aload_n 0, 1, 0, 0, 0), (260, .getfield 82, 3, 8, 36, 0), (263, .iconst (0), 1, 0, 0, 0), (264, .baload, 1, 0, 0, 0), (265, .ifCond .eq (7), 3, 0, 0, 0), (268, .iconst (1), 1, 0, 0, 0), (269, .goto (4), 3, 0, 0, 0), (272, .iconst (0), 1, 0, 0, 0), (273, .ireturn, 1, 0, 0, 0)]
def fr_t186 : List (Nat × Instr × Nat × Nat × Nat × Nat) := [(0, .iload_n 0, 1, 0, 0, 0), (1, .iload_n 1, 1, 0, 0, 0), (2, .ishr, 1, 0, 0, 0), (3, .iconst (1), 1, 0, 0, 0), (4, .iand, 1, 0, 0, 0), (5, .iconst (1), 1, 0, 0, 0), (6, .if_icmp .ne (7), 3, 0, 0, 0), (9, .iconst (1), 1, 0, 0, 0), (10, .goto (4), 3, 0, 0, 0), (13, .iconst (0), 1, 0, 0, 0), (14, .ireturn, 1, 0, 0, 0)]
def fr_t187 : List (Nat × Instr × Nat × Nat × Nat × Nat) := [(0, .iconst (1), 1, 0, 0, 0), (1, .aload_n 0, 1, 0, 0, 0), (2, .getfield 291, 3, 8, 17, 0), (5, .ishl, 1, 0, 0, 0), (6, .iconst (1), 1, 0, 0, 0), (7, .isub, 1, 0, 0, 0), (8, .ireturn, 1, 0, 0, 0)]
def fr_t188 : List (Nat × Instr × Nat × Nat × Nat × Nat) := [(0, .aload_n 0, 1, 0, 0, 0), (1, .getfield 124, 3, 8, 52, 0), (4, .bipush (8), 2, 0, 0, 0), (6, .iload_n 1, 1, 0, 0, 0), (7, .imul, 1, 0, 0, 0), (8, .iload_n 2, 1, 0, 0, 0), (9, .iadd, 1, 0, 0, 0), (10, .iconst (-1), 1, 0, 0, 0), (11, .iastore, 1, 0, 0, 0), (12, .aload_n 0, 1, 0, 0, 0), (13, .getfield 127, 3, 8, 53, 0), (16, .bipush (8), 2, 0, 0, 0), (18, .iload_n 1, 1, 0, 0, 0), (19, .imul, 1, 0, 0, 0), (20, .iload_n 2, 1, 0, 0, 0), (21, .iadd, 1, 0, 0, 0), (22, .iconst (-1), 1, 0, 0, 0), (23, .iastore, 1, 0, 0, 0), (24, .aload_n 0, 1, 0, 0, 0), (25, .getfield 130, 3, 8, 54, 0), (28, .bipush (8), 2, 0, 0, 0), (30, .iload_n 1, 1, 0, 0, 0), (31, .imul, 1, 0, 0, 0), (32, .iload_n 2, 1, 0, 0, 0), (33, .iadd, 1, 0, 0, 0), (34, .iconst (-1), 1, 0, 0, 0), (35, .iastore, 1, 0, 0, 0), (36, .return_, 1, 0, 0, 0)]
def fr_T : List (Nat × List (Nat × Instr × Nat × Nat × Nat × Nat)) := [(185, fr_t185), (184, fr_t184), (188, fr_t188), (187, fr_t187), (4, fr_t4), (6, fr_t6), (0, fr_t0), (183, fr_t183), (1, fr_t1), (2, fr_t2), (3, fr_t3), (5, fr_t5), (7, fr_t7), (8, fr_t8), (9, fr_t9), (10, fr_t10), (11, fr_t11), (12, fr_t12), (186, fr_t186)]
def fr_eok (m : Nat) (e : Nat × Instr × Nat × Nat × Nat × Nat) : Bool := okD m e.1 e.2.1 e.2.2.1 && (match e.2.1 with
  | .getfield x => decide (ip_fld (ip_own m) x = some (e.2.2.2.1, e.2.2.2.2.1)) && decide (e.2.2.1 = 3)
  | .putfield x => decide (ip_fld (ip_own m) x = some (e.2.2.2.1, e.2.2.2.2.1)) && decide (e.2.2.1 = 3) && decide ((ip_T e.2.2.2.1 e.2.2.2.2.1).2.2.2 = true → (ip_y m).name = "<init>" ∧ e.2.2.2.1 = ip_own m)
  | _ => true)
def fr_m (m : Nat) : List (Nat × List (Nat × Instr × Nat × Nat × Nat × Nat)) → List (Nat × Instr × Nat × Nat × Nat × Nat)
  | [] => []
  | e :: r => bif Nat.beq e.1 m then e.2 else fr_m m r
def fr_p (pc : Nat) : List (Nat × Instr × Nat × Nat × Nat × Nat) → Option (Nat × Instr × Nat × Nat × Nat × Nat)
  | [] => none
  | e :: r => bif Nat.beq e.1 pc then some e else fr_p pc r
theorem fr_p_mem {pc : Nat} {e : Nat × Instr × Nat × Nat × Nat × Nat} : ∀ l, fr_p pc l = some e → e ∈ l ∧ e.1 = pc := by
  intro l
  induction l with
  | nil => intro h; cases h
  | cons a r ih =>
    intro h
    unfold fr_p at h
    cases q : Nat.beq a.1 pc with
    | true =>
      rw [q] at h
      cases h
      exact ⟨List.mem_cons_self, Nat.eq_of_beq_eq_true q⟩
    | false =>
      rw [q] at h
      obtain ⟨h1, h2⟩ := ih h
      exact ⟨List.mem_cons_of_mem _ h1, h2⟩
theorem fr_m_mem {m : Nat} : ∀ l, fr_m m l = [] ∨ (m, fr_m m l) ∈ l := by
  intro l
  induction l with
  | nil => exact Or.inl rfl
  | cons a r ih =>
    unfold fr_m
    cases q : Nat.beq a.1 m with
    | true =>
      have e : a.1 = m := Nat.eq_of_beq_eq_true q
      refine Or.inr ?_
      show (m, a.2) ∈ a :: r
      rw [← e]
      exact List.mem_cons_self
    | false =>
      rcases ih with h | h
      · exact Or.inl h
      · exact Or.inr (List.mem_cons_of_mem _ h)
theorem fr_Tok : (fr_T.all (fun q => q.2.all (fun e => fr_eok q.1 e))) = true := by decide +kernel
theorem fr_e {m pc : Nat} {e : Nat × Instr × Nat × Nat × Nat × Nat} (h : fr_p pc (fr_m m fr_T) = some e) : e.1 = pc ∧ fr_eok m e = true := by
  obtain ⟨h1, h2⟩ := fr_p_mem _ h
  rcases fr_m_mem (m := m) fr_T with q | q
  · rw [q] at h1; cases h1
  · exact ⟨h2, List.all_eq_true.mp (List.all_eq_true.mp fr_Tok _ q) _ h1⟩
def fr_force {α : Type} : List (Nat × Nat) → (List (Nat × Nat) → α) → α
  | [], k => k []
  | (a, b) :: r, k => fr_force r (fun r' => k ((a, b) :: r'))
theorem fr_force_eq {α : Type} : ∀ (l : List (Nat × Nat)) (k : List (Nat × Nat) → α), fr_force l k = k l := by
  intro l
  induction l with
  | nil => intro k; rfl
  | cons a r ih => intro k; unfold fr_force; rw [ih]
def fr_getf (ci k : Nat) (st : List Value) (h : ip_H) : ip_K := match st with
  | .ref a :: r => match h.1[a]? with
    | some (t, _) => if t = ci ∧ 2 ≤ a then some (ip_rd h ci a k :: r, h) else none
    | none => none
  | _ => none
def fr_putf (ci k : Nat) (st : List Value) (h : ip_H) : ip_K := match st with
  | v :: .ref a :: r => match h.1[a]? with
    | some (t, _) => if t = ci ∧ 2 ≤ a then (ip_wr h ci a k v).map (fun h' => (r, h')) else none
    | none => none
  | _ => none
def fr_heap (m : Nat) (i : Instr) (len ci k : Nat) (st : List Value) (h : ip_H) : ip_K := match i with
  | .getfield _ => fr_getf ci k st h
  | .putfield _ => fr_putf ci k st h
  | _ => ip_heap m i len st h
theorem fr_heap_eq {m len ci k pc t : Nat} {i : Instr} {st : List Value} {h : ip_H} (e : fr_eok m (pc, i, len, ci, k, t) = true) : fr_heap m i len ci k st h = ip_heap m i len st h := by
  unfold fr_eok at e
  rw [Bool.and_eq_true] at e
  obtain ⟨-, e⟩ := e
  unfold fr_heap
  split
  · rename_i x
    dsimp only at e
    rw [Bool.and_eq_true] at e
    have e1 := of_decide_eq_true e.1
    have e2 := of_decide_eq_true e.2
    show _ = if len = 3 then ip_getf (ip_own m) x st h else none
    rw [if_pos e2]
    unfold ip_getf fr_getf
    rw [e1]
    rcases st with _ | ⟨v, r⟩
    · rfl
    · cases v <;> rfl
  · rename_i x
    dsimp only at e
    rw [Bool.and_eq_true, Bool.and_eq_true] at e
    have e1 := of_decide_eq_true e.1.1
    have e2 := of_decide_eq_true e.1.2
    have e3 := of_decide_eq_true e.2
    show _ = if len = 3 then ip_putf m (ip_own m) x st h else none
    rw [if_pos e2]
    unfold ip_putf fr_putf
    rw [e1]
    rcases st with _ | ⟨v, _ | ⟨w, r⟩⟩
    · rfl
    · cases v <;> rfl
    · cases w with
      | ref a =>
        dsimp only
        cases h.1[a]? with
        | none => rfl
        | some q =>
          dsimp only
          by_cases c : q.1 = ci ∧ 2 ≤ a
          · rw [if_pos c, if_pos ⟨c.1, c.2, e3⟩]
          · rw [if_neg c, if_neg (fun z => c ⟨z.1, z.2.1⟩)]
      | _ => rfl
  · rfl
/-- the machine over what was read ahead; where a cell is made the list of cells is laid out at once -/
def fr_run : Nat → Nat → Nat → Nat → List (Option Value) → List Value → ip_H → Option (ip_O × ip_H)
  | 0, _, _, _, _, _, _ => none
  | n + 1, d, m, pc, ls, st, h => match fr_p pc (fr_m m fr_T) with
    | none => none
    | some (p, i, len, ci, k, t) => match ip_pure p i len ls st with
      | some (pc', ls', st') => fr_run n d m pc' ls' st' h
      | none => match fr_heap m i len ci k st h with
        | some (st', h') => bif Nat.beq t 7 then fr_force h'.1 (fun s => fr_run n d m (p + len) ls st' (s, h'.2)) else fr_run n d m (p + len) ls st' h'
        | none => match ip_end m i len st with
          | some v => some (.inl v, h)
          | none => match ip_thr m p i len st with
            | some _ => none
            | none => match d with
              | 0 => none
              | d + 1 => match ip_inv m i len st h with
                | none => none
                | some (m', as, rest) => match fr_run n d m' 0 (ip_entry m' as) [] h with
                  | none => none
                  | some (.inl none, h') => fr_run n (d + 1) m (p + 3) ls rest h'
                  | some (.inl (some v), h') => fr_run n (d + 1) m (p + 3) ls (v :: rest) h'
                  | some (.inr _, _) => none
theorem fr_ok : ∀ (f d m pc : Nat) (ls : List (Option Value)) (st : List Value) (h : ip_H) (r : ip_O × ip_H), fr_run f d m pc ls st h = some r → ip_run f d m pc ls st h = some r := by
  intro f
  induction f with
  | zero => intro d m pc ls st h r e; cases e
  | succ f ih =>
    intro d m pc ls st h r e
    rw [fr_run] at e
    rw [ip_run]
    cases hp : fr_p pc (fr_m m fr_T) with
    | none => simp only [hp] at e; cases e
    | some y =>
      obtain ⟨p, i, len, ci, k, t⟩ := y
      obtain ⟨y1, y2⟩ := fr_e hp
      have y1 : p = pc := y1
      subst y1
      have hd : decode (ip_code m) p = .ok (i, len) := by
        unfold fr_eok at y2
        rw [Bool.and_eq_true] at y2
        exact okD_ok y2.1
      simp only [hp] at e
      simp only [hd]
      cases hq : ip_pure p i len ls st with
      | some y =>
        obtain ⟨pc1, ls1, st1⟩ := y
        simp only [hq] at e ⊢
        exact ih _ _ _ _ _ _ _ e
      | none =>
        simp only [hq] at e ⊢
        rw [fr_heap_eq y2] at e
        cases hh : ip_heap m i len st h with
        | some y =>
          obtain ⟨st1, h1⟩ := y
          simp only [hh] at e ⊢
          cases ht : Nat.beq t 7 with
          | true => rw [ht, cond_true, fr_force_eq] at e; exact ih _ _ _ _ _ _ _ e
          | false => rw [ht, cond_false] at e; exact ih _ _ _ _ _ _ _ e
        | none =>
          simp only [hh] at e ⊢
          cases he : ip_end m i len st with
          | some v => simp only [he] at e ⊢; exact e
          | none =>
            simp only [he] at e ⊢
            cases hx : ip_thr m p i len st with
            | some E => simp only [hx] at e; cases e
            | none =>
              simp only [hx] at e ⊢
              cases d with
              | zero => cases e
              | succ d =>
                dsimp only at e ⊢
                cases hi : ip_inv m i len st h with
                | none => simp only [hi] at e; cases e
                | some y =>
                  obtain ⟨m1, as, rest⟩ := y
                  simp only [hi] at e ⊢
                  cases h1 : fr_run f d m1 0 (ip_entry m1 as) [] h with
                  | none => simp only [h1] at e; cases e
                  | some y =>
                    obtain ⟨o, h2⟩ := y
                    have h3 := ih _ _ _ _ _ _ _ h1
                    match o, h1, h3, e with
                    | .inl none, h1, h3, e => simp only [h1] at e; simp only [h3]; exact ih _ _ _ _ _ _ _ e
                    | .inl (some v), h1, h3, e => simp only [h1] at e; simp only [h3]; exact ih _ _ _ _ _ _ _ e
                    | .inr E, h1, h3, e => simp only [h1] at e; cases e
