-- the abstract machine's tables, by program
def B_J6_bitCount_0 : List Ent := [(0, .iload 0, 0, 0, 0), (1, .iload 0, 0, 0, 0), (2, .iconst 0, 0, 0, 1), (3, .iushr, 0, 0, 0), (4, .iconst 0, 0, 0, 1431655765), (7, .iand, 0, 0, 0), (8, .isub, 0, 0, 0), (9, .istore 0, 0, 0, 0), (10, .iload 0, 0, 0, 0), (11, .iconst 0, 0, 0, 858993459), (14, .iand, 0, 0, 0), (15, .iload 0, 0, 0, 0), (16, .iconst 0, 0, 0, 2), (17, .iushr, 0, 0, 0), (18, .iconst 0, 0, 0, 858993459), (21, .iand, 0, 0, 0), (22, .iadd, 0, 0, 0), (23, .istore 0, 0, 0, 0), (24, .iload 0, 0, 0, 0), (25, .iload 0, 0, 0, 0), (26, .iconst 0, 0, 0, 4), (27, .iushr, 0, 0, 0), (28, .iadd, 0, 0, 0), (29, .iconst 0, 0, 0, 252645135), (32, .iand, 0, 0, 0), (33, .istore 0, 0, 0, 0), (34, .iload 0, 0, 0, 0), (35, .iload 0, 0, 0, 0), (36, .iconst 0, 0, 0, 8), (38, .iushr, 0, 0, 0), (39, .iadd, 0, 0, 0), (40, .istore 0, 0, 0, 0), (41, .iload 0, 0, 0, 0), (42, .iload 0, 0, 0, 0), (43, .iconst 0, 0, 0, 16), (45, .iushr, 0, 0, 0), (46, .iadd, 0, 0, 0), (47, .istore 0, 0, 0, 0), (48, .iload 0, 0, 0, 0), (49, .iconst 0, 0, 0, 63), (51, .iand, 0, 0, 0), (52, .ireturn, 0, 0, 0)]
def lb_J6_bitCount : List (Nat × List Ent) := [(0, B_J6_bitCount_0)]
def B_J0_length_0 : List Ent := [(0, .aload 0, 0, 0, 0), (1, .getfield 0, 22, 1, 0), (4, .arraylength, 0, 0, 0), (5, .aload 0, 0, 0, 0), (6, .invokevirtual 0, 3, 1, 22), (9, .ishr, 0, 0, 0), (10, .ireturn, 0, 0, 0)]
def lb_J0_length : List (Nat × List Ent) := [(0, B_J0_length_0)]
def B_J0_charAt_0 : List Ent := [(0, .aload 0, 0, 0, 0), (1, .invokevirtual 0, 4, 1, 22), (4, .ifCond .eq 0, 16, 0, 0), (7, .aload 0, 0, 0, 0), (8, .getfield 0, 22, 1, 0), (11, .iload 0, 1, 0, 0), (12, .invokestatic 0, 6, 2, 0), (15, .ireturn, 0, 3, 0)]
def B_J0_charAt_16 : List Ent := [(16, .aload 0, 0, 0, 0), (17, .getfield 0, 22, 1, 0), (20, .iload 0, 1, 0, 0), (21, .nop, 0, 0, 0), (24, .ireturn, 0, 3, 0)]
def lb_J0_charAt : List (Nat × List Ent) := [(0, B_J0_charAt_0), (16, B_J0_charAt_16)]
def B_J0_coder_0 : List Ent := [(0, .iconst 0, 0, 0, 1), (3, .ifCond .eq 0, 13, 0, 0), (6, .aload 0, 0, 0, 0), (7, .getfield 0, 22, 0, 1), (10, .goto 0, 14, 0, 0)]
def B_J0_coder_13 : List Ent := [(13, .iconst 0, 0, 0, 1), (14, .goto_w 0, 14, 0, 0)]
def B_J0_coder_14 : List Ent := [(14, .ireturn, 0, 2, 0)]
def lb_J0_coder : List (Nat × List Ent) := [(0, B_J0_coder_0), (13, B_J0_coder_13), (14, B_J0_coder_14)]
def B_J0_isLatin1_0 : List Ent := [(0, .iconst 0, 0, 0, 1), (3, .ifCond .eq 0, 17, 0, 0), (6, .aload 0, 0, 0, 0), (7, .getfield 0, 22, 0, 1), (10, .ifCond .ne 0, 17, 0, 0), (13, .iconst 0, 0, 0, 1), (14, .goto 0, 18, 0, 0)]
def B_J0_isLatin1_17 : List Ent := [(17, .iconst 0, 0, 0, 0), (18, .goto_w 0, 18, 0, 0)]
def B_J0_isLatin1_18 : List Ent := [(18, .ireturn, 0, 1, 0)]
def lb_J0_isLatin1 : List (Nat × List Ent) := [(0, B_J0_isLatin1_0), (17, B_J0_isLatin1_17), (18, B_J0_isLatin1_18)]
def B_J0_checkIndex_0 : List Ent := [(0, .iload 0, 0, 0, 0), (1, .iload 0, 1, 0, 0), (2, .aconst_null, 0, 0, 0), (5, .invokestatic 0, 8, 3, 0), (8, .pop, 0, 0, 0), (9, .return_, 0, 0, 0)]
def lb_J0_checkIndex : List (Nat × List Ent) := [(0, B_J0_checkIndex_0)]
def B_J1_charAt_0 : List Ent := [(0, .iload 0, 1, 0, 0), (1, .aload 0, 0, 0, 0), (2, .arraylength, 0, 0, 0), (3, .invokestatic 0, 5, 2, 0), (6, .aload 0, 0, 0, 0), (7, .iload 0, 1, 0, 0), (8, .baload, 0, 0, 0), (9, .iconst 0, 0, 0, 255), (12, .iand, 0, 0, 0), (13, .i2c, 0, 0, 0), (14, .ireturn, 0, 3, 0)]
def lb_J1_charAt : List (Nat × List Ent) := [(0, B_J1_charAt_0)]
def B_J7_fill_0 : List Ent := [(0, .iconst 0, 0, 0, 0), (1, .istore 0, 2, 0, 0), (2, .aload 0, 0, 0, 0), (3, .arraylength, 0, 0, 0), (4, .istore 0, 3, 0, 0), (5, .goto_w 0, 5, 0, 0)]
def B_J7_fill_5 : List Ent := [(5, .iload 0, 2, 0, 0), (6, .iload 0, 3, 0, 0), (7, .if_icmp .ge 0, 20, 0, 0), (10, .aload 0, 0, 0, 0), (11, .iload 0, 2, 0, 0), (12, .iload 0, 1, 0, 0), (13, .iastore, 0, 0, 0), (14, .iinc 0 0, 2, 0, 1), (17, .goto 0, 5, 0, 0)]
def B_J7_fill_20 : List Ent := [(20, .return_, 0, 0, 0)]
def lb_J7_fill : List (Nat × List Ent) := [(0, B_J7_fill_0), (5, B_J7_fill_5), (20, B_J7_fill_20)]
def B_J3_checkIndex_0 : List Ent := [(0, .iload 0, 0, 0, 0), (1, .ifCond .lt 0, 9, 0, 0), (4, .iload 0, 0, 0, 0), (5, .iload 0, 1, 0, 0), (6, .if_icmp .lt 0, 16, 0, 0), (9, .goto_w 0, 9, 0, 0)]
def B_J3_checkIndex_9 : List Ent := [(9, .aload 0, 2, 0, 0), (10, .iload 0, 0, 0, 0), (11, .iload 0, 1, 0, 0), (12, .nop, 0, 0, 0)]
def B_J3_checkIndex_16 : List Ent := [(16, .iload 0, 0, 0, 0), (17, .ireturn, 0, 0, 0)]
def lb_J3_checkIndex : List (Nat × List Ent) := [(0, B_J3_checkIndex_0), (9, B_J3_checkIndex_9), (16, B_J3_checkIndex_16)]
def B_Or_init_0 : List Ent := [(0, .aload 0, 0, 0, 0), (1, .checkcast 0, 0, 0, 0), (4, .aload 0, 0, 0, 0), (5, .iconst 0, 0, 0, 10), (7, .newarray .int, 0, 0, 0), (9, .putfield 0, 10, 1, 0), (12, .aload 0, 0, 0, 0), (13, .iconst 0, 0, 0, 252), (16, .newarray .int, 0, 0, 0), (18, .putfield 0, 10, 1, 1), (21, .aload 0, 0, 0, 0), (22, .iconst 0, 0, 0, 1024), (25, .newarray .int, 0, 0, 0), (27, .putfield 0, 10, 1, 2), (30, .aload 0, 0, 0, 0), (31, .iconst 0, 0, 0, 0), (32, .putfield 0, 10, 0, 3), (35, .aload 0, 0, 0, 0), (36, .iconst 0, 0, 0, 0), (37, .putfield 0, 10, 0, 4), (40, .aload 0, 0, 0, 0), (41, .iconst 0, 0, 0, 0), (42, .putfield 0, 10, 0, 5), (45, .return_, 0, 0, 0)]
def lb_Or_init : List (Nat × List Ent) := [(0, B_Or_init_0)]
def B_Or_clear_0 : List Ent := [(0, .aload 0, 0, 0, 0), (1, .iconst 0, 0, 0, 0), (2, .putfield 0, 10, 0, 3), (5, .aload 0, 0, 0, 0), (6, .iconst 0, 0, 0, 0), (7, .putfield 0, 10, 0, 4), (10, .aload 0, 0, 0, 0), (11, .iconst 0, 0, 0, 0), (12, .putfield 0, 10, 0, 5), (15, .return_, 0, 0, 0)]
def lb_Or_clear : List (Nat × List Ent) := [(0, B_Or_clear_0)]
def B_Or_addThing_0 : List Ent := [(0, .aload 0, 0, 0, 0), (1, .getfield 0, 10, 0, 3), (4, .iconst 0, 0, 0, 10), (6, .if_icmp .ge 0, 29, 0, 0), (9, .aload 0, 0, 0, 0), (10, .getfield 0, 10, 1, 0), (13, .aload 0, 0, 0, 0), (14, .getfield 0, 10, 0, 3), (17, .iload 0, 1, 0, 0), (18, .iastore, 0, 0, 0), (19, .aload 0, 0, 0, 0), (20, .dup, 0, 0, 0), (21, .getfield 0, 10, 0, 3), (24, .iconst 0, 0, 0, 1), (25, .iadd, 0, 0, 0), (26, .putfield 0, 10, 0, 3), (29, .goto_w 0, 29, 0, 0)]
def B_Or_addThing_29 : List Ent := [(29, .return_, 0, 0, 0)]
def lb_Or_addThing : List (Nat × List Ent) := [(0, B_Or_addThing_0), (29, B_Or_addThing_29)]
def B_Or_thingOf_0 : List Ent := [(0, .iconst 0, 0, 0, 0), (1, .istore 0, 2, 0, 0), (2, .goto_w 0, 2, 0, 0)]
def B_Or_thingOf_2 : List Ent := [(2, .iload 0, 2, 0, 0), (3, .aload 0, 0, 0, 0), (4, .getfield 0, 10, 0, 3), (7, .if_icmp .ge 0, 28, 0, 0), (10, .aload 0, 0, 0, 0), (11, .getfield 0, 10, 1, 0), (14, .iload 0, 2, 0, 0), (15, .iaload, 0, 0, 0), (16, .iload 0, 1, 0, 0), (17, .if_icmp .ne 0, 22, 0, 0), (20, .iload 0, 2, 0, 0), (21, .ireturn, 0, 0, 0)]
def B_Or_thingOf_22 : List Ent := [(22, .iinc 0 0, 2, 0, 1), (25, .goto 0, 2, 0, 0)]
def B_Or_thingOf_28 : List Ent := [(28, .iconst 0, 0, 0, (-1)), (29, .ireturn, 0, 0, 0)]
def lb_Or_thingOf : List (Nat × List Ent) := [(0, B_Or_thingOf_0), (2, B_Or_thingOf_2), (22, B_Or_thingOf_22), (28, B_Or_thingOf_28)]
def B_Or_lay_0 : List Ent := [(0, .aload 0, 0, 0, 0), (1, .iconst 0, 0, 0, 0), (2, .putfield 0, 10, 0, 5), (5, .aload 0, 0, 0, 0), (6, .getfield 0, 10, 1, 2), (9, .iconst 0, 0, 0, (-1)), (10, .invokestatic 0, 7, 2, 0), (13, .aload 0, 0, 0, 0), (14, .aload 0, 0, 0, 0), (15, .getfield 0, 10, 0, 3), (18, .aload 0, 0, 0, 0), (19, .getfield 0, 10, 0, 4), (22, .iconst 0, 0, 0, 0), (23, .iconst 0, 0, 0, 0), (24, .invokestatic 0, 14, 5, 0), (27, .return_, 0, 0, 0)]
def lb_Or_lay : List (Nat × List Ent) := [(0, B_Or_lay_0)]
def B_Or_list_0 : List Ent := [(0, .iload 0, 2, 0, 0), (1, .ifCond .lt 0, 15, 0, 0), (4, .iload 0, 2, 0, 0), (5, .iload 0, 1, 0, 0), (6, .if_icmp .gt 0, 15, 0, 0), (9, .iload 0, 1, 0, 0), (10, .iconst 0, 0, 0, 10), (12, .if_icmp .le 0, 16, 0, 0), (15, .goto_w 0, 15, 0, 0)]
def B_Or_list_15 : List Ent := [(15, .return_, 0, 0, 0)]
def B_Or_list_16 : List Ent := [(16, .iload 0, 2, 0, 0), (17, .ifCond .eq 0, 25, 0, 0), (20, .iload 0, 2, 0, 0), (21, .iload 0, 1, 0, 0), (22, .if_icmp .ne 0, 37, 0, 0), (25, .goto_w 0, 25, 0, 0)]
def B_Or_list_25 : List Ent := [(25, .aload 0, 0, 0, 0), (26, .iload 0, 3, 0, 0), (27, .iconst 0, 0, 0, 1), (28, .iload 0, 2, 0, 0), (29, .ishl, 0, 0, 0), (30, .iconst 0, 0, 0, 1), (31, .isub, 0, 0, 0), (32, .ior, 0, 0, 0), (33, .invokevirtual 0, 15, 2, 10), (36, .return_, 0, 0, 0)]
def B_Or_list_37 : List Ent := [(37, .iload 0, 3, 0, 0), (38, .iconst 0, 0, 0, 1), (39, .iload 0, 1, 0, 0), (40, .iconst 0, 0, 0, 1), (41, .isub, 0, 0, 0), (42, .ishl, 0, 0, 0), (43, .ior, 0, 0, 0), (44, .istore 0, 5, 0, 0), (46, .iload 0, 4, 0, 0), (48, .ifCond .eq 0, 77, 0, 0), (51, .aload 0, 0, 0, 0), (52, .iload 0, 1, 0, 0), (53, .iconst 0, 0, 0, 1), (54, .isub, 0, 0, 0), (55, .iload 0, 2, 0, 0), (56, .iconst 0, 0, 0, 1), (57, .isub, 0, 0, 0), (58, .iload 0, 5, 0, 0), (60, .iconst 0, 0, 0, 0), (61, .invokestatic 0, 14, 5, 0), (64, .aload 0, 0, 0, 0), (65, .iload 0, 1, 0, 0), (66, .iconst 0, 0, 0, 1), (67, .isub, 0, 0, 0), (68, .iload 0, 2, 0, 0), (69, .iload 0, 3, 0, 0), (70, .iconst 0, 0, 0, 1), (71, .invokestatic 0, 14, 5, 0), (74, .goto 0, 100, 0, 0)]
def B_Or_list_77 : List Ent := [(77, .aload 0, 0, 0, 0), (78, .iload 0, 1, 0, 0), (79, .iconst 0, 0, 0, 1), (80, .isub, 0, 0, 0), (81, .iload 0, 2, 0, 0), (82, .iload 0, 3, 0, 0), (83, .iconst 0, 0, 0, 0), (84, .invokestatic 0, 14, 5, 0), (87, .aload 0, 0, 0, 0), (88, .iload 0, 1, 0, 0), (89, .iconst 0, 0, 0, 1), (90, .isub, 0, 0, 0), (91, .iload 0, 2, 0, 0), (92, .iconst 0, 0, 0, 1), (93, .isub, 0, 0, 0), (94, .iload 0, 5, 0, 0), (96, .iconst 0, 0, 0, 1), (97, .invokestatic 0, 14, 5, 0), (100, .goto_w 0, 100, 0, 0)]
def B_Or_list_100 : List Ent := [(100, .return_, 0, 0, 0)]
def lb_Or_list : List (Nat × List Ent) := [(0, B_Or_list_0), (15, B_Or_list_15), (16, B_Or_list_16), (25, B_Or_list_25), (37, B_Or_list_37), (77, B_Or_list_77), (100, B_Or_list_100)]
def B_Or_put_0 : List Ent := [(0, .aload 0, 0, 0, 0), (1, .getfield 0, 10, 0, 5), (4, .aload 0, 0, 0, 0), (5, .getfield 0, 10, 1, 1), (8, .arraylength, 0, 0, 0), (9, .if_icmp .ge 0, 55, 0, 0), (12, .iload 0, 1, 0, 0), (13, .ifCond .lt 0, 55, 0, 0), (16, .iload 0, 1, 0, 0), (17, .aload 0, 0, 0, 0), (18, .getfield 0, 10, 1, 2), (21, .arraylength, 0, 0, 0), (22, .if_icmp .ge 0, 55, 0, 0), (25, .aload 0, 0, 0, 0), (26, .getfield 0, 10, 1, 1), (29, .aload 0, 0, 0, 0), (30, .getfield 0, 10, 0, 5), (33, .iload 0, 1, 0, 0), (34, .iastore, 0, 0, 0), (35, .aload 0, 0, 0, 0), (36, .getfield 0, 10, 1, 2), (39, .iload 0, 1, 0, 0), (40, .aload 0, 0, 0, 0), (41, .getfield 0, 10, 0, 5), (44, .iastore, 0, 0, 0), (45, .aload 0, 0, 0, 0), (46, .dup, 0, 0, 0), (47, .getfield 0, 10, 0, 5), (50, .iconst 0, 0, 0, 1), (51, .iadd, 0, 0, 0), (52, .putfield 0, 10, 0, 5), (55, .goto_w 0, 55, 0, 0)]
def B_Or_put_55 : List Ent := [(55, .return_, 0, 0, 0)]
def lb_Or_put : List (Nat × List Ent) := [(0, B_Or_put_0), (55, B_Or_put_55)]
def B_Or_numberAt_0 : List Ent := [(0, .iload 0, 1, 0, 0), (1, .ifCond .lt 0, 13, 0, 0), (4, .iload 0, 1, 0, 0), (5, .aload 0, 0, 0, 0), (6, .getfield 0, 10, 1, 2), (9, .arraylength, 0, 0, 0), (10, .if_icmp .lt 0, 15, 0, 0), (13, .goto_w 0, 13, 0, 0)]
def B_Or_numberAt_13 : List Ent := [(13, .iconst 0, 0, 0, (-1)), (14, .ireturn, 0, 0, 0)]
def B_Or_numberAt_15 : List Ent := [(15, .aload 0, 0, 0, 0), (16, .getfield 0, 10, 1, 2), (19, .iload 0, 1, 0, 0), (20, .iaload, 0, 0, 0), (21, .ireturn, 0, 0, 0)]
def lb_Or_numberAt : List (Nat × List Ent) := [(0, B_Or_numberAt_0), (13, B_Or_numberAt_13), (15, B_Or_numberAt_15)]
def B_Or_apart_0 : List Ent := [(0, .aload 0, 0, 0, 0), (1, .getfield 0, 10, 1, 1), (4, .iload 0, 1, 0, 0), (5, .iaload, 0, 0, 0), (6, .aload 0, 0, 0, 0), (7, .getfield 0, 10, 1, 1), (10, .iload 0, 2, 0, 0), (11, .iaload, 0, 0, 0), (12, .iconst 0, 0, 0, (-1)), (13, .ixor, 0, 0, 0), (14, .iand, 0, 0, 0), (15, .invokestatic 0, 0, 1, 0), (18, .ireturn, 0, 0, 0)]
def lb_Or_apart : List (Nat × List Ent) := [(0, B_Or_apart_0)]
def B_Or_before_0 : List Ent := [(0, .iload 0, 1, 0, 0), (1, .ifCond .ne 0, 13, 0, 0), (4, .aload 0, 0, 0, 0), (5, .getfield 0, 10, 0, 5), (8, .iconst 0, 0, 0, 1), (9, .isub, 0, 0, 0), (10, .goto 0, 16, 0, 0)]
def B_Or_before_13 : List Ent := [(13, .iload 0, 1, 0, 0), (14, .iconst 0, 0, 0, 1), (15, .isub, 0, 0, 0), (16, .goto_w 0, 16, 0, 0)]
def B_Or_before_16 : List Ent := [(16, .ireturn, 0, 0, 0)]
def lb_Or_before : List (Nat × List Ent) := [(0, B_Or_before_0), (13, B_Or_before_13), (16, B_Or_before_16)]
def B_Or_after_0 : List Ent := [(0, .aload 0, 0, 0, 0), (1, .getfield 0, 10, 1, 1), (4, .iload 0, 1, 0, 0), (5, .iaload, 0, 0, 0), (6, .istore 0, 4, 0, 0), (8, .iload 0, 4, 0, 0), (10, .iload 0, 2, 0, 0), (11, .ishr, 0, 0, 0), (12, .iconst 0, 0, 0, 1), (13, .iand, 0, 0, 0), (14, .ifCond .eq 0, 26, 0, 0), (17, .iload 0, 4, 0, 0), (19, .iload 0, 3, 0, 0), (20, .ishr, 0, 0, 0), (21, .iconst 0, 0, 0, 1), (22, .iand, 0, 0, 0), (23, .ifCond .eq 0, 28, 0, 0), (26, .goto_w 0, 26, 0, 0)]
def B_Or_after_26 : List Ent := [(26, .iconst 0, 0, 0, (-1)), (27, .ireturn, 0, 0, 0)]
def B_Or_after_28 : List Ent := [(28, .aload 0, 0, 0, 0), (29, .iload 0, 4, 0, 0), (31, .iconst 0, 0, 0, 1), (32, .iload 0, 2, 0, 0), (33, .ishl, 0, 0, 0), (34, .ixor, 0, 0, 0), (35, .iconst 0, 0, 0, 1), (36, .iload 0, 3, 0, 0), (37, .ishl, 0, 0, 0), (38, .ixor, 0, 0, 0), (39, .invokevirtual 0, 16, 2, 10), (42, .ireturn, 0, 0, 0)]
def lb_Or_after : List (Nat × List Ent) := [(0, B_Or_after_0), (26, B_Or_after_26), (28, B_Or_after_28)]
def B_Or_lowestOnlyIn_0 : List Ent := [(0, .aload 0, 0, 0, 0), (1, .getfield 0, 10, 1, 1), (4, .iload 0, 1, 0, 0), (5, .iaload, 0, 0, 0), (6, .aload 0, 0, 0, 0), (7, .getfield 0, 10, 1, 1), (10, .iload 0, 2, 0, 0), (11, .iaload, 0, 0, 0), (12, .iconst 0, 0, 0, (-1)), (13, .ixor, 0, 0, 0), (14, .iand, 0, 0, 0), (15, .istore 0, 3, 0, 0), (16, .iconst 0, 0, 0, 0), (17, .istore 0, 4, 0, 0), (19, .goto_w 0, 19, 0, 0)]
def B_Or_lowestOnlyIn_19 : List Ent := [(19, .iload 0, 4, 0, 0), (21, .aload 0, 0, 0, 0), (22, .getfield 0, 10, 0, 3), (25, .if_icmp .ge 0, 46, 0, 0), (28, .iload 0, 3, 0, 0), (29, .iload 0, 4, 0, 0), (31, .ishr, 0, 0, 0), (32, .iconst 0, 0, 0, 1), (33, .iand, 0, 0, 0), (34, .ifCond .eq 0, 40, 0, 0), (37, .iload 0, 4, 0, 0), (39, .ireturn, 0, 0, 0)]
def B_Or_lowestOnlyIn_40 : List Ent := [(40, .iinc 0 0, 4, 0, 1), (43, .goto 0, 19, 0, 0)]
def B_Or_lowestOnlyIn_46 : List Ent := [(46, .iconst 0, 0, 0, (-1)), (47, .ireturn, 0, 0, 0)]
def lb_Or_lowestOnlyIn : List (Nat × List Ent) := [(0, B_Or_lowestOnlyIn_0), (19, B_Or_lowestOnlyIn_19), (40, B_Or_lowestOnlyIn_40), (46, B_Or_lowestOnlyIn_46)]
def B_Or_copyFrom_0 : List Ent := [(0, .aload 0, 0, 0, 0), (1, .aload 0, 1, 0, 0), (2, .getfield 0, 10, 0, 3), (5, .putfield 0, 10, 0, 3), (8, .aload 0, 0, 0, 0), (9, .aload 0, 1, 0, 0), (10, .getfield 0, 10, 0, 4), (13, .putfield 0, 10, 0, 4), (16, .aload 0, 0, 0, 0), (17, .aload 0, 1, 0, 0), (18, .getfield 0, 10, 0, 5), (21, .putfield 0, 10, 0, 5), (24, .aload 0, 1, 0, 0), (25, .getfield 0, 10, 1, 0), (28, .iconst 0, 0, 0, 0), (29, .aload 0, 0, 0, 0), (30, .getfield 0, 10, 1, 0), (33, .iconst 0, 0, 0, 0), (34, .aload 0, 0, 0, 0), (35, .getfield 0, 10, 1, 0), (38, .arraylength, 0, 0, 0), (39, .invokedynamic 0, 0, 0, 0), (42, .aload 0, 1, 0, 0), (43, .getfield 0, 10, 1, 1), (46, .iconst 0, 0, 0, 0), (47, .aload 0, 0, 0, 0), (48, .getfield 0, 10, 1, 1), (51, .iconst 0, 0, 0, 0), (52, .aload 0, 0, 0, 0), (53, .getfield 0, 10, 1, 1), (56, .arraylength, 0, 0, 0), (57, .invokedynamic 0, 0, 0, 0), (60, .aload 0, 1, 0, 0), (61, .getfield 0, 10, 1, 2), (64, .iconst 0, 0, 0, 0), (65, .aload 0, 0, 0, 0), (66, .getfield 0, 10, 1, 2), (69, .iconst 0, 0, 0, 0), (70, .aload 0, 0, 0, 0), (71, .getfield 0, 10, 1, 2), (74, .arraylength, 0, 0, 0), (75, .invokedynamic 0, 0, 0, 0), (78, .return_, 0, 0, 0)]
def lb_Or_copyFrom : List (Nat × List Ent) := [(0, B_Or_copyFrom_0)]
def B_Pa_init_0 : List Ent := [(0, .aload 0, 0, 0, 0), (1, .checkcast 0, 0, 0, 0), (4, .aload 0, 0, 0, 0), (5, .iconst 0, 0, 0, 10), (7, .anewarray 0, 8, 0, 0), (10, .putfield 0, 11, 1, 0), (13, .aload 0, 0, 0, 0), (14, .new 0, 13, 8, 0), (17, .dup, 0, 0, 0), (18, .invokespecial 0, 38, 1, 13), (21, .putfield 0, 11, 1, 1), (24, .aload 0, 0, 0, 0), (25, .iconst 0, 0, 0, 0), (26, .putfield 0, 11, 2, 2), (29, .aload 0, 0, 0, 0), (30, .iconst 0, 0, 0, 0), (31, .putfield 0, 11, 0, 3), (34, .aload 0, 0, 0, 0), (35, .iconst 0, 0, 0, 0), (36, .putfield 0, 11, 0, 4), (39, .iconst 0, 0, 0, 0), (40, .istore 0, 1, 0, 0), (41, .goto_w 0, 41, 0, 0)]
def B_Pa_init_41 : List Ent := [(41, .iload 0, 1, 0, 0), (42, .aload 0, 0, 0, 0), (43, .getfield 0, 11, 1, 0), (46, .arraylength, 0, 0, 0), (47, .if_icmp .ge 0, 69, 0, 0), (50, .aload 0, 0, 0, 0), (51, .getfield 0, 11, 1, 0), (54, .iload 0, 1, 0, 0), (55, .new 0, 13, 8, 0), (58, .dup, 0, 0, 0), (59, .invokespecial 0, 38, 1, 13), (62, .aastore, 0, 0, 0), (63, .iinc 0 0, 1, 0, 1), (66, .goto 0, 41, 0, 0)]
def B_Pa_init_69 : List Ent := [(69, .return_, 0, 0, 0)]
def lb_Pa_init : List (Nat × List Ent) := [(0, B_Pa_init_0), (41, B_Pa_init_41), (69, B_Pa_init_69)]
def B_Pa_keep_0 : List Ent := [(0, .aload 0, 0, 0, 0), (1, .aload 0, 0, 0, 0), (2, .getfield 0, 11, 0, 4), (5, .iconst 0, 0, 0, 1), (6, .iadd, 0, 0, 0), (7, .iconst 0, 0, 0, 10), (9, .irem, 0, 0, 0), (10, .putfield 0, 11, 0, 4), (13, .aload 0, 0, 0, 0), (14, .getfield 0, 11, 1, 0), (17, .aload 0, 0, 0, 0), (18, .getfield 0, 11, 0, 4), (21, .aaload, 0, 0, 0), (22, .aload 0, 1, 0, 0), (23, .invokevirtual 0, 47, 2, 13), (26, .aload 0, 0, 0, 0), (27, .aload 0, 0, 0, 0), (28, .getfield 0, 11, 0, 3), (31, .iconst 0, 0, 0, 1), (32, .iadd, 0, 0, 0), (33, .iconst 0, 0, 0, 10), (35, .ladd, 0, 0, 0), (38, .putfield 0, 11, 0, 3), (41, .return_, 0, 0, 0)]
def lb_Pa_keep : List (Nat × List Ent) := [(0, B_Pa_keep_0)]
def B_Pa_takeBack_0 : List Ent := [(0, .aload 0, 0, 0, 0), (1, .getfield 0, 11, 0, 3), (4, .ifCond .le 0, 46, 0, 0), (7, .aload 0, 1, 0, 0), (8, .aload 0, 0, 0, 0), (9, .getfield 0, 11, 1, 0), (12, .aload 0, 0, 0, 0), (13, .getfield 0, 11, 0, 4), (16, .aaload, 0, 0, 0), (17, .invokevirtual 0, 47, 2, 13), (20, .aload 0, 0, 0, 0), (21, .aload 0, 0, 0, 0), (22, .getfield 0, 11, 0, 4), (25, .iconst 0, 0, 0, 10), (27, .iadd, 0, 0, 0), (28, .iconst 0, 0, 0, 1), (29, .isub, 0, 0, 0), (30, .iconst 0, 0, 0, 10), (32, .irem, 0, 0, 0), (33, .putfield 0, 11, 0, 4), (36, .aload 0, 0, 0, 0), (37, .dup, 0, 0, 0), (38, .getfield 0, 11, 0, 3), (41, .iconst 0, 0, 0, 1), (42, .isub, 0, 0, 0), (43, .putfield 0, 11, 0, 3), (46, .goto_w 0, 46, 0, 0)]
def B_Pa_takeBack_46 : List Ent := [(46, .return_, 0, 0, 0)]
def lb_Pa_takeBack : List (Nat × List Ent) := [(0, B_Pa_takeBack_0), (46, B_Pa_takeBack_46)]
def B_Pa_saveAll_0 : List Ent := [(0, .aload 0, 0, 0, 0), (1, .getfield 0, 11, 1, 1), (4, .aload 0, 1, 0, 0), (5, .invokevirtual 0, 47, 2, 13), (8, .aload 0, 0, 0, 0), (9, .iconst 0, 0, 0, 1), (10, .putfield 0, 11, 2, 2), (13, .return_, 0, 0, 0)]
def lb_Pa_saveAll : List (Nat × List Ent) := [(0, B_Pa_saveAll_0)]
def B_Pa_restoreAll_0 : List Ent := [(0, .aload 0, 1, 0, 0), (1, .aload 0, 0, 0, 0), (2, .getfield 0, 11, 1, 1), (5, .invokevirtual 0, 47, 2, 13), (8, .aload 0, 0, 0, 0), (9, .iconst 0, 0, 0, 0), (10, .putfield 0, 11, 0, 3), (13, .return_, 0, 0, 0)]
def lb_Pa_restoreAll : List (Nat × List Ent) := [(0, B_Pa_restoreAll_0)]
def B_Pa_forget_0 : List Ent := [(0, .aload 0, 0, 0, 0), (1, .iconst 0, 0, 0, 0), (2, .putfield 0, 11, 0, 3), (5, .aload 0, 0, 0, 0), (6, .iconst 0, 0, 0, 0), (7, .putfield 0, 11, 2, 2), (10, .return_, 0, 0, 0)]
def lb_Pa_forget : List (Nat × List Ent) := [(0, B_Pa_forget_0)]
def B_Ro_init_0 : List Ent := [(0, .aload 0, 0, 0, 0), (1, .checkcast 0, 0, 0, 0), (4, .aload 0, 0, 0, 0), (5, .iconst 0, 0, 0, 252), (8, .newarray .int, 0, 0, 0), (10, .putfield 0, 12, 1, 0), (13, .aload 0, 0, 0, 0), (14, .iconst 0, 0, 0, 252), (17, .newarray .int, 0, 0, 0), (19, .putfield 0, 12, 1, 1), (22, .aload 0, 0, 0, 0), (23, .iconst 0, 0, 0, 252), (26, .newarray .int, 0, 0, 0), (28, .putfield 0, 12, 1, 2), (31, .aload 0, 0, 0, 0), (32, .iconst 0, 0, 0, 252), (35, .newarray .boolean, 0, 0, 0), (37, .putfield 0, 12, 1, 3), (40, .aload 0, 0, 0, 0), (41, .iconst 0, 0, 0, 0), (42, .putfield 0, 12, 0, 4), (45, .aload 0, 0, 0, 0), (46, .iconst 0, 0, 0, 0), (47, .putfield 0, 12, 2, 7), (50, .aload 0, 0, 0, 0), (51, .iconst 0, 0, 0, 0), (52, .putfield 0, 12, 2, 8), (55, .aload 0, 0, 0, 0), (56, .aload 0, 1, 0, 0), (57, .putfield 0, 12, 1, 5), (60, .aload 0, 0, 0, 0), (61, .aload 0, 2, 0, 0), (62, .putfield 0, 12, 1, 6), (65, .return_, 0, 0, 0)]
def lb_Ro_init : List (Nat × List Ent) := [(0, B_Ro_init_0)]
def B_Ro_forgetTests_0 : List Ent := [(0, .aload 0, 0, 0, 0), (1, .iconst 0, 0, 0, 0), (2, .putfield 0, 12, 2, 7), (5, .aload 0, 0, 0, 0), (6, .iconst 0, 0, 0, 0), (7, .putfield 0, 12, 2, 8), (10, .return_, 0, 0, 0)]
def lb_Ro_forgetTests : List (Nat × List Ent) := [(0, B_Ro_forgetTests_0)]
def B_Ro_forgetLooks_0 : List Ent := [(0, .aload 0, 0, 0, 0), (1, .iconst 0, 0, 0, 0), (2, .putfield 0, 12, 2, 8), (5, .return_, 0, 0, 0)]
def lb_Ro_forgetLooks : List (Nat × List Ent) := [(0, B_Ro_forgetLooks_0)]
def B_Ro_look_0 : List Ent := [(0, .aload 0, 0, 0, 0), (1, .getfield 0, 12, 2, 7), (4, .ifCond .ne 0, 16, 0, 0), (7, .aload 0, 0, 0, 0), (8, .invokevirtual 0, 32, 1, 12), (11, .aload 0, 0, 0, 0), (12, .iconst 0, 0, 0, 1), (13, .putfield 0, 12, 2, 7), (16, .goto_w 0, 16, 0, 0)]
def B_Ro_look_16 : List Ent := [(16, .aload 0, 0, 0, 0), (17, .getfield 0, 12, 2, 8), (20, .ifCond .ne 0, 104, 0, 0), (23, .aload 0, 0, 0, 0), (24, .aload 0, 0, 0, 0), (25, .aload 0, 0, 0, 0), (26, .getfield 0, 12, 1, 6), (29, .getfield 0, 13, 0, 5), (32, .aload 0, 0, 0, 0), (33, .getfield 0, 12, 1, 3), (36, .invokevirtual 0, 33, 3, 12), (39, .putfield 0, 12, 0, 4), (42, .aload 0, 0, 0, 0), (43, .getfield 0, 12, 1, 2), (46, .iconst 0, 0, 0, (-1)), (47, .invokestatic 0, 7, 2, 0), (50, .iconst 0, 0, 0, 0), (51, .istore 0, 1, 0, 0), (52, .goto_w 0, 52, 0, 0)]
def B_Ro_look_52 : List Ent := [(52, .iload 0, 1, 0, 0), (53, .aload 0, 0, 0, 0), (54, .getfield 0, 12, 1, 6), (57, .getfield 0, 13, 0, 7), (60, .if_icmp .ge 0, 99, 0, 0), (63, .aload 0, 0, 0, 0), (64, .getfield 0, 12, 1, 6), (67, .getfield 0, 13, 1, 3), (70, .iload 0, 1, 0, 0), (71, .iaload, 0, 0, 0), (72, .istore 0, 2, 0, 0), (73, .iload 0, 2, 0, 0), (74, .ifCond .lt 0, 93, 0, 0), (77, .iload 0, 2, 0, 0), (78, .aload 0, 0, 0, 0), (79, .getfield 0, 12, 1, 2), (82, .arraylength, 0, 0, 0), (83, .if_icmp .ge 0, 93, 0, 0), (86, .aload 0, 0, 0, 0), (87, .getfield 0, 12, 1, 2), (90, .iload 0, 2, 0, 0), (91, .iload 0, 1, 0, 0), (92, .iastore, 0, 0, 0), (93, .goto_w 0, 93, 0, 0)]
def B_Ro_look_93 : List Ent := [(93, .iinc 0 0, 1, 0, 1), (96, .goto 0, 52, 0, 0)]
def B_Ro_look_99 : List Ent := [(99, .aload 0, 0, 0, 0), (100, .iconst 0, 0, 0, 1), (101, .putfield 0, 12, 2, 8), (104, .goto_w 0, 104, 0, 0)]
def B_Ro_look_104 : List Ent := [(104, .return_, 0, 0, 0)]
def lb_Ro_look : List (Nat × List Ent) := [(0, B_Ro_look_0), (16, B_Ro_look_16), (52, B_Ro_look_52), (93, B_Ro_look_93), (99, B_Ro_look_99), (104, B_Ro_look_104)]
def B_Ro_tryTests_0 : List Ent := [(0, .iconst 0, 0, 0, 0), (1, .istore 0, 1, 0, 0), (2, .goto_w 0, 2, 0, 0)]
def B_Ro_tryTests_2 : List Ent := [(2, .iload 0, 1, 0, 0), (3, .aload 0, 0, 0, 0), (4, .getfield 0, 12, 1, 5), (7, .getfield 0, 10, 0, 5), (10, .if_icmp .ge 0, 95, 0, 0), (13, .aload 0, 0, 0, 0), (14, .getfield 0, 12, 1, 5), (17, .getfield 0, 10, 1, 1), (20, .iload 0, 1, 0, 0), (21, .iaload, 0, 0, 0), (22, .istore 0, 2, 0, 0), (23, .iconst 0, 0, 0, 0), (24, .istore 0, 3, 0, 0), (25, .iconst 0, 0, 0, 0), (26, .istore 0, 4, 0, 0), (28, .goto_w 0, 28, 0, 0)]
def B_Ro_tryTests_28 : List Ent := [(28, .iload 0, 4, 0, 0), (30, .aload 0, 0, 0, 0), (31, .getfield 0, 12, 1, 5), (34, .getfield 0, 10, 0, 3), (37, .if_icmp .ge 0, 66, 0, 0), (40, .iload 0, 3, 0, 0), (41, .iload 0, 2, 0, 0), (42, .iload 0, 4, 0, 0), (44, .ishr, 0, 0, 0), (45, .iconst 0, 0, 0, 1), (46, .iand, 0, 0, 0), (47, .aload 0, 0, 0, 0), (48, .getfield 0, 12, 1, 6), (51, .getfield 0, 13, 1, 0), (54, .iload 0, 4, 0, 0), (56, .iaload, 0, 0, 0), (57, .imul, 0, 0, 0), (58, .iadd, 0, 0, 0), (59, .istore 0, 3, 0, 0), (60, .iinc 0 0, 4, 0, 1), (63, .goto 0, 28, 0, 0)]
def B_Ro_tryTests_66 : List Ent := [(66, .aload 0, 0, 0, 0), (67, .getfield 0, 12, 1, 0), (70, .iload 0, 1, 0, 0), (71, .iload 0, 3, 0, 0), (72, .iastore, 0, 0, 0), (73, .aload 0, 0, 0, 0), (74, .getfield 0, 12, 1, 1), (77, .iload 0, 1, 0, 0), (78, .aload 0, 0, 0, 0), (79, .getfield 0, 12, 1, 6), (82, .iload 0, 2, 0, 0), (83, .iload 0, 3, 0, 0), (84, .iload 0, 1, 0, 0), (85, .invokevirtual 0, 46, 4, 13), (88, .iastore, 0, 0, 0), (89, .iinc 0 0, 1, 0, 1), (92, .goto 0, 2, 0, 0)]
def B_Ro_tryTests_95 : List Ent := [(95, .return_, 0, 0, 0)]
def lb_Ro_tryTests : List (Nat × List Ent) := [(0, B_Ro_tryTests_0), (2, B_Ro_tryTests_2), (28, B_Ro_tryTests_28), (66, B_Ro_tryTests_66), (95, B_Ro_tryTests_95)]
def B_Ro_openBy_0 : List Ent := [(0, .iconst 0, 0, 0, 0), (1, .istore 0, 3, 0, 0), (2, .iconst 0, 0, 0, 0), (3, .istore 0, 4, 0, 0), (5, .goto_w 0, 5, 0, 0)]
def B_Ro_openBy_5 : List Ent := [(5, .iload 0, 4, 0, 0), (7, .aload 0, 0, 0, 0), (8, .getfield 0, 12, 1, 5), (11, .getfield 0, 10, 0, 5), (14, .if_icmp .ge 0, 74, 0, 0), (17, .iload 0, 4, 0, 0), (19, .aload 0, 2, 0, 0), (20, .arraylength, 0, 0, 0), (21, .if_icmp .ge 0, 74, 0, 0), (24, .aload 0, 2, 0, 0), (25, .iload 0, 4, 0, 0), (27, .aload 0, 0, 0, 0), (28, .getfield 0, 12, 1, 6), (31, .getfield 0, 13, 1, 1), (34, .iload 0, 4, 0, 0), (36, .baload, 0, 0, 0), (37, .ifCond .ne 0, 56, 0, 0), (40, .aload 0, 0, 0, 0), (41, .getfield 0, 12, 1, 1), (44, .iload 0, 4, 0, 0), (46, .iaload, 0, 0, 0), (47, .iload 0, 1, 0, 0), (48, .iand, 0, 0, 0), (49, .ifCond .ne 0, 56, 0, 0), (52, .iconst 0, 0, 0, 1), (53, .goto 0, 57, 0, 0)]
def B_Ro_openBy_56 : List Ent := [(56, .iconst 0, 0, 0, 0), (57, .goto_w 0, 57, 0, 0)]
def B_Ro_openBy_57 : List Ent := [(57, .bastore, 0, 0, 0), (58, .aload 0, 2, 0, 0), (59, .iload 0, 4, 0, 0), (61, .baload, 0, 0, 0), (62, .ifCond .eq 0, 68, 0, 0), (65, .iinc 0 0, 3, 0, 1), (68, .goto_w 0, 68, 0, 0)]
def B_Ro_openBy_68 : List Ent := [(68, .iinc 0 0, 4, 0, 1), (71, .goto 0, 5, 0, 0)]
def B_Ro_openBy_74 : List Ent := [(74, .iload 0, 3, 0, 0), (75, .ireturn, 0, 0, 0)]
def lb_Ro_openBy : List (Nat × List Ent) := [(0, B_Ro_openBy_0), (5, B_Ro_openBy_5), (56, B_Ro_openBy_56), (57, B_Ro_openBy_57), (68, B_Ro_openBy_68), (74, B_Ro_openBy_74)]
def B_Ro_countLeft_0 : List Ent := [(0, .iconst 0, 0, 0, 0), (1, .istore 0, 1, 0, 0), (2, .iconst 0, 0, 0, 0), (3, .istore 0, 2, 0, 0), (4, .goto_w 0, 4, 0, 0)]
def B_Ro_countLeft_4 : List Ent := [(4, .iload 0, 2, 0, 0), (5, .aload 0, 0, 0, 0), (6, .getfield 0, 12, 1, 5), (9, .getfield 0, 10, 0, 5), (12, .if_icmp .ge 0, 43, 0, 0), (15, .aload 0, 0, 0, 0), (16, .getfield 0, 12, 1, 3), (19, .iload 0, 2, 0, 0), (20, .baload, 0, 0, 0), (21, .ifCond .eq 0, 37, 0, 0), (24, .aload 0, 0, 0, 0), (25, .getfield 0, 12, 1, 2), (28, .iload 0, 2, 0, 0), (29, .iaload, 0, 0, 0), (30, .iconst 0, 0, 0, (-1)), (31, .if_icmp .ne 0, 37, 0, 0), (34, .iinc 0 0, 1, 0, 1), (37, .goto_w 0, 37, 0, 0)]
def B_Ro_countLeft_37 : List Ent := [(37, .iinc 0 0, 2, 0, 1), (40, .goto 0, 4, 0, 0)]
def B_Ro_countLeft_43 : List Ent := [(43, .iload 0, 1, 0, 0), (44, .ireturn, 0, 0, 0)]
def lb_Ro_countLeft : List (Nat × List Ent) := [(0, B_Ro_countLeft_0), (4, B_Ro_countLeft_4), (37, B_Ro_countLeft_37), (43, B_Ro_countLeft_43)]
def B_Ro_countHeld_0 : List Ent := [(0, .iconst 0, 0, 0, 0), (1, .istore 0, 2, 0, 0), (2, .iconst 0, 0, 0, 0), (3, .istore 0, 3, 0, 0), (4, .goto_w 0, 4, 0, 0)]
def B_Ro_countHeld_4 : List Ent := [(4, .iload 0, 3, 0, 0), (5, .aload 0, 0, 0, 0), (6, .getfield 0, 12, 1, 5), (9, .getfield 0, 10, 0, 5), (12, .if_icmp .ge 0, 37, 0, 0), (15, .aload 0, 0, 0, 0), (16, .getfield 0, 12, 1, 1), (19, .iload 0, 3, 0, 0), (20, .iaload, 0, 0, 0), (21, .iload 0, 1, 0, 0), (22, .ishr, 0, 0, 0), (23, .iconst 0, 0, 0, 1), (24, .iand, 0, 0, 0), (25, .ifCond .ne 0, 31, 0, 0), (28, .iinc 0 0, 2, 0, 1), (31, .goto_w 0, 31, 0, 0)]
def B_Ro_countHeld_31 : List Ent := [(31, .iinc 0 0, 3, 0, 1), (34, .goto 0, 4, 0, 0)]
def B_Ro_countHeld_37 : List Ent := [(37, .iload 0, 2, 0, 0), (38, .ireturn, 0, 0, 0)]
def lb_Ro_countHeld : List (Nat × List Ent) := [(0, B_Ro_countHeld_0), (4, B_Ro_countHeld_4), (31, B_Ro_countHeld_31), (37, B_Ro_countHeld_37)]
def B_Ro_countLeftOutBy_0 : List Ent := [(0, .iconst 0, 0, 0, 0), (1, .istore 0, 2, 0, 0), (2, .iconst 0, 0, 0, 0), (3, .istore 0, 3, 0, 0), (4, .goto_w 0, 4, 0, 0)]
def B_Ro_countLeftOutBy_4 : List Ent := [(4, .iload 0, 3, 0, 0), (5, .aload 0, 0, 0, 0), (6, .getfield 0, 12, 1, 5), (9, .getfield 0, 10, 0, 5), (12, .if_icmp .ge 0, 56, 0, 0), (15, .aload 0, 0, 0, 0), (16, .getfield 0, 12, 1, 6), (19, .getfield 0, 13, 1, 1), (22, .iload 0, 3, 0, 0), (23, .baload, 0, 0, 0), (24, .ifCond .ne 0, 50, 0, 0), (27, .aload 0, 0, 0, 0), (28, .getfield 0, 12, 1, 1), (31, .iload 0, 3, 0, 0), (32, .iaload, 0, 0, 0), (33, .aload 0, 0, 0, 0), (34, .getfield 0, 12, 1, 6), (37, .getfield 0, 13, 0, 5), (40, .iand, 0, 0, 0), (41, .iconst 0, 0, 0, 1), (42, .iload 0, 1, 0, 0), (43, .ishl, 0, 0, 0), (44, .if_icmp .ne 0, 50, 0, 0), (47, .iinc 0 0, 2, 0, 1), (50, .goto_w 0, 50, 0, 0)]
def B_Ro_countLeftOutBy_50 : List Ent := [(50, .iinc 0 0, 3, 0, 1), (53, .goto 0, 4, 0, 0)]
def B_Ro_countLeftOutBy_56 : List Ent := [(56, .iload 0, 2, 0, 0), (57, .ireturn, 0, 0, 0)]
def lb_Ro_countLeftOutBy : List (Nat × List Ent) := [(0, B_Ro_countLeftOutBy_0), (4, B_Ro_countLeftOutBy_4), (50, B_Ro_countLeftOutBy_50), (56, B_Ro_countLeftOutBy_56)]
def B_Ro_countTrue_0 : List Ent := [(0, .iconst 0, 0, 0, 0), (1, .istore 0, 3, 0, 0), (2, .iconst 0, 0, 0, 0), (3, .istore 0, 4, 0, 0), (5, .goto_w 0, 5, 0, 0)]
def B_Ro_countTrue_5 : List Ent := [(5, .iload 0, 4, 0, 0), (7, .aload 0, 0, 0, 0), (8, .getfield 0, 12, 1, 5), (11, .getfield 0, 10, 0, 5), (14, .if_icmp .ge 0, 66, 0, 0), (17, .aload 0, 0, 0, 0), (18, .getfield 0, 12, 1, 3), (21, .iload 0, 4, 0, 0), (23, .baload, 0, 0, 0), (24, .ifCond .ne 0, 31, 0, 0), (27, .iload 0, 2, 0, 0), (28, .ifCond .ne 0, 60, 0, 0), (31, .goto_w 0, 31, 0, 0)]
def B_Ro_countTrue_31 : List Ent := [(31, .aload 0, 1, 0, 0), (32, .aload 0, 0, 0, 0), (33, .getfield 0, 12, 1, 5), (36, .getfield 0, 10, 1, 1), (39, .iload 0, 4, 0, 0), (41, .iaload, 0, 0, 0), (42, .aload 0, 0, 0, 0), (43, .getfield 0, 12, 1, 0), (46, .iload 0, 4, 0, 0), (48, .iaload, 0, 0, 0), (49, .iload 0, 4, 0, 0), (51, .invokevirtual 0, 52, 4, 14), (54, .ifCond .eq 0, 60, 0, 0), (57, .iinc 0 0, 3, 0, 1), (60, .goto_w 0, 60, 0, 0)]
def B_Ro_countTrue_60 : List Ent := [(60, .iinc 0 0, 4, 0, 1), (63, .goto 0, 5, 0, 0)]
def B_Ro_countTrue_66 : List Ent := [(66, .iload 0, 3, 0, 0), (67, .ireturn, 0, 0, 0)]
def lb_Ro_countTrue : List (Nat × List Ent) := [(0, B_Ro_countTrue_0), (5, B_Ro_countTrue_5), (31, B_Ro_countTrue_31), (60, B_Ro_countTrue_60), (66, B_Ro_countTrue_66)]
def B_St_init_0 : List Ent := [(0, .aload 0, 0, 0, 0), (1, .checkcast 0, 0, 0, 0), (4, .aload 0, 0, 0, 0), (5, .iconst 0, 0, 0, 10), (7, .newarray .int, 0, 0, 0), (9, .putfield 0, 13, 1, 0), (12, .aload 0, 0, 0, 0), (13, .iconst 0, 0, 0, 252), (16, .newarray .boolean, 0, 0, 0), (18, .putfield 0, 13, 1, 1), (21, .aload 0, 0, 0, 0), (22, .iconst 0, 0, 0, 10), (24, .anewarray 0, 7, 0, 0), (27, .putfield 0, 13, 1, 2), (30, .aload 0, 0, 0, 0), (31, .iconst 0, 0, 0, 252), (34, .newarray .int, 0, 0, 0), (36, .putfield 0, 13, 1, 3), (39, .aload 0, 0, 0, 0), (40, .iconst 0, 0, 0, 0), (41, .putfield 0, 13, 0, 4), (44, .aload 0, 0, 0, 0), (45, .iconst 0, 0, 0, 0), (46, .putfield 0, 13, 0, 5), (49, .aload 0, 0, 0, 0), (50, .iconst 0, 0, 0, 0), (51, .putfield 0, 13, 0, 6), (54, .aload 0, 0, 0, 0), (55, .iconst 0, 0, 0, 0), (56, .putfield 0, 13, 0, 7), (59, .return_, 0, 0, 0)]
def lb_St_init : List (Nat × List Ent) := [(0, B_St_init_0)]
def B_St_clear_0 : List Ent := [(0, .iconst 0, 0, 0, 0), (1, .istore 0, 1, 0, 0), (2, .goto_w 0, 2, 0, 0)]
def B_St_clear_2 : List Ent := [(2, .iload 0, 1, 0, 0), (3, .aload 0, 0, 0, 0), (4, .getfield 0, 13, 1, 1), (7, .arraylength, 0, 0, 0), (8, .if_icmp .ge 0, 24, 0, 0), (11, .aload 0, 0, 0, 0), (12, .getfield 0, 13, 1, 1), (15, .iload 0, 1, 0, 0), (16, .iconst 0, 0, 0, 0), (17, .bastore, 0, 0, 0), (18, .iinc 0 0, 1, 0, 1), (21, .goto 0, 2, 0, 0)]
def B_St_clear_24 : List Ent := [(24, .aload 0, 0, 0, 0), (25, .iconst 0, 0, 0, 0), (26, .putfield 0, 13, 0, 4), (29, .aload 0, 0, 0, 0), (30, .iconst 0, 0, 0, 0), (31, .putfield 0, 13, 0, 5), (34, .aload 0, 0, 0, 0), (35, .iconst 0, 0, 0, 0), (36, .putfield 0, 13, 0, 6), (39, .aload 0, 0, 0, 0), (40, .iconst 0, 0, 0, 0), (41, .putfield 0, 13, 0, 7), (44, .return_, 0, 0, 0)]
def lb_St_clear : List (Nat × List Ent) := [(0, B_St_clear_0), (2, B_St_clear_2), (24, B_St_clear_24)]
def B_St_now_0 : List Ent := [(0, .aload 0, 0, 0, 0), (1, .getfield 0, 13, 0, 7), (4, .ifCond .le 0, 33, 0, 0), (7, .aload 0, 0, 0, 0), (8, .getfield 0, 13, 0, 7), (11, .aload 0, 0, 0, 0), (12, .getfield 0, 13, 1, 3), (15, .arraylength, 0, 0, 0), (16, .if_icmp .gt 0, 33, 0, 0), (19, .aload 0, 0, 0, 0), (20, .getfield 0, 13, 1, 3), (23, .aload 0, 0, 0, 0), (24, .getfield 0, 13, 0, 7), (27, .iconst 0, 0, 0, 1), (28, .isub, 0, 0, 0), (29, .iaload, 0, 0, 0), (30, .goto 0, 34, 0, 0)]
def B_St_now_33 : List Ent := [(33, .iconst 0, 0, 0, (-1)), (34, .goto_w 0, 34, 0, 0)]
def B_St_now_34 : List Ent := [(34, .ireturn, 0, 0, 0)]
def lb_St_now : List (Nat × List Ent) := [(0, B_St_now_0), (33, B_St_now_33), (34, B_St_now_34)]
def B_St_walkTo_0 : List Ent := [(0, .aload 0, 0, 0, 0), (1, .getfield 0, 13, 0, 7), (4, .aload 0, 0, 0, 0), (5, .getfield 0, 13, 1, 3), (8, .arraylength, 0, 0, 0), (9, .if_icmp .ge 0, 32, 0, 0), (12, .aload 0, 0, 0, 0), (13, .getfield 0, 13, 1, 3), (16, .aload 0, 0, 0, 0), (17, .getfield 0, 13, 0, 7), (20, .iload 0, 1, 0, 0), (21, .iastore, 0, 0, 0), (22, .aload 0, 0, 0, 0), (23, .dup, 0, 0, 0), (24, .getfield 0, 13, 0, 7), (27, .iconst 0, 0, 0, 1), (28, .iadd, 0, 0, 0), (29, .putfield 0, 13, 0, 7), (32, .goto_w 0, 32, 0, 0)]
def B_St_walkTo_32 : List Ent := [(32, .return_, 0, 0, 0)]
def lb_St_walkTo : List (Nat × List Ent) := [(0, B_St_walkTo_0), (32, B_St_walkTo_32)]
def B_St_countStruck_0 : List Ent := [(0, .iconst 0, 0, 0, 0), (1, .istore 0, 1, 0, 0), (2, .iconst 0, 0, 0, 0), (3, .istore 0, 2, 0, 0), (4, .goto_w 0, 4, 0, 0)]
def B_St_countStruck_4 : List Ent := [(4, .iload 0, 2, 0, 0), (5, .aload 0, 0, 0, 0), (6, .getfield 0, 13, 1, 1), (9, .arraylength, 0, 0, 0), (10, .if_icmp .ge 0, 31, 0, 0), (13, .aload 0, 0, 0, 0), (14, .getfield 0, 13, 1, 1), (17, .iload 0, 2, 0, 0), (18, .baload, 0, 0, 0), (19, .ifCond .eq 0, 25, 0, 0), (22, .iinc 0 0, 1, 0, 1), (25, .goto_w 0, 25, 0, 0)]
def B_St_countStruck_25 : List Ent := [(25, .iinc 0 0, 2, 0, 1), (28, .goto 0, 4, 0, 0)]
def B_St_countStruck_31 : List Ent := [(31, .iload 0, 1, 0, 0), (32, .ireturn, 0, 0, 0)]
def lb_St_countStruck : List (Nat × List Ent) := [(0, B_St_countStruck_0), (4, B_St_countStruck_4), (25, B_St_countStruck_25), (31, B_St_countStruck_31)]
def B_St_addTest_0 : List Ent := [(0, .aload 0, 0, 0, 0), (1, .getfield 0, 13, 0, 4), (4, .aload 0, 0, 0, 0), (5, .getfield 0, 13, 1, 2), (8, .arraylength, 0, 0, 0), (9, .if_icmp .ge 0, 47, 0, 0), (12, .aload 0, 0, 0, 0), (13, .getfield 0, 13, 1, 2), (16, .aload 0, 0, 0, 0), (17, .getfield 0, 13, 0, 4), (20, .aload 0, 1, 0, 0), (21, .aastore, 0, 0, 0), (22, .aload 0, 0, 0, 0), (23, .dup, 0, 0, 0), (24, .getfield 0, 13, 0, 5), (27, .iconst 0, 0, 0, 1), (28, .aload 0, 0, 0, 0), (29, .getfield 0, 13, 0, 4), (32, .ishl, 0, 0, 0), (33, .ior, 0, 0, 0), (34, .putfield 0, 13, 0, 5), (37, .aload 0, 0, 0, 0), (38, .dup, 0, 0, 0), (39, .getfield 0, 13, 0, 4), (42, .iconst 0, 0, 0, 1), (43, .iadd, 0, 0, 0), (44, .putfield 0, 13, 0, 4), (47, .goto_w 0, 47, 0, 0)]
def B_St_addTest_47 : List Ent := [(47, .return_, 0, 0, 0)]
def lb_St_addTest : List (Nat × List Ent) := [(0, B_St_addTest_0), (47, B_St_addTest_47)]
def B_St_dropTest_0 : List Ent := [(0, .aload 0, 0, 0, 0), (1, .getfield 0, 13, 0, 5), (4, .iconst 0, 0, 0, 1), (5, .iload 0, 1, 0, 0), (6, .ishl, 0, 0, 0), (7, .iconst 0, 0, 0, 1), (8, .isub, 0, 0, 0), (9, .iand, 0, 0, 0), (10, .istore 0, 2, 0, 0), (11, .aload 0, 0, 0, 0), (12, .getfield 0, 13, 0, 5), (15, .iload 0, 1, 0, 0), (16, .iconst 0, 0, 0, 1), (17, .iadd, 0, 0, 0), (18, .ishr, 0, 0, 0), (19, .istore 0, 3, 0, 0), (20, .aload 0, 0, 0, 0), (21, .iload 0, 2, 0, 0), (22, .iload 0, 3, 0, 0), (23, .iload 0, 1, 0, 0), (24, .ishl, 0, 0, 0), (25, .ior, 0, 0, 0), (26, .putfield 0, 13, 0, 5), (29, .iload 0, 1, 0, 0), (30, .istore 0, 4, 0, 0), (32, .goto_w 0, 32, 0, 0)]
def B_St_dropTest_32 : List Ent := [(32, .iload 0, 4, 0, 0), (34, .iconst 0, 0, 0, 1), (35, .iadd, 0, 0, 0), (36, .aload 0, 0, 0, 0), (37, .getfield 0, 13, 0, 4), (40, .if_icmp .ge 0, 65, 0, 0), (43, .aload 0, 0, 0, 0), (44, .getfield 0, 13, 1, 2), (47, .iload 0, 4, 0, 0), (49, .aload 0, 0, 0, 0), (50, .getfield 0, 13, 1, 2), (53, .iload 0, 4, 0, 0), (55, .iconst 0, 0, 0, 1), (56, .iadd, 0, 0, 0), (57, .aaload, 0, 0, 0), (58, .aastore, 0, 0, 0), (59, .iinc 0 0, 4, 0, 1), (62, .goto 0, 32, 0, 0)]
def B_St_dropTest_65 : List Ent := [(65, .aload 0, 0, 0, 0), (66, .dup, 0, 0, 0), (67, .getfield 0, 13, 0, 4), (70, .iconst 0, 0, 0, 1), (71, .isub, 0, 0, 0), (72, .putfield 0, 13, 0, 4), (75, .return_, 0, 0, 0)]
def lb_St_dropTest : List (Nat × List Ent) := [(0, B_St_dropTest_0), (32, B_St_dropTest_32), (65, B_St_dropTest_65)]
def B_St_tokensOf_0 : List Ent := [(0, .aload 0, 0, 0, 0), (1, .getfield 0, 13, 1, 2), (4, .iload 0, 1, 0, 0), (5, .aaload, 0, 0, 0), (6, .astore 0, 2, 0, 0), (7, .aload 0, 2, 0, 0), (8, .ifnonnull 0, 15, 0, 0), (11, .iconst 0, 0, 0, 0), (12, .goto 0, 19, 0, 0)]
def B_St_tokensOf_15 : List Ent := [(15, .aload 0, 2, 0, 0), (16, .getfield 0, 14, 0, 4), (19, .goto_w 0, 19, 0, 0)]
def B_St_tokensOf_19 : List Ent := [(19, .ireturn, 0, 0, 0)]
def lb_St_tokensOf : List (Nat × List Ent) := [(0, B_St_tokensOf_0), (15, B_St_tokensOf_15), (19, B_St_tokensOf_19)]
def B_St_failing_0 : List Ent := [(0, .iconst 0, 0, 0, 0), (1, .istore 0, 4, 0, 0), (3, .iconst 0, 0, 0, 0), (4, .istore 0, 5, 0, 0), (6, .goto_w 0, 6, 0, 0)]
def B_St_failing_6 : List Ent := [(6, .iload 0, 5, 0, 0), (8, .aload 0, 0, 0, 0), (9, .getfield 0, 13, 0, 4), (12, .if_icmp .ge 0, 55, 0, 0), (15, .aload 0, 0, 0, 0), (16, .getfield 0, 13, 1, 2), (19, .iload 0, 5, 0, 0), (21, .aaload, 0, 0, 0), (22, .astore 0, 6, 0, 0), (24, .aload 0, 6, 0, 0), (26, .ifnull 0, 49, 0, 0), (29, .aload 0, 6, 0, 0), (31, .iload 0, 1, 0, 0), (32, .iload 0, 2, 0, 0), (33, .iload 0, 3, 0, 0), (34, .invokevirtual 0, 52, 4, 14), (37, .ifCond .ne 0, 49, 0, 0), (40, .iload 0, 4, 0, 0), (42, .iconst 0, 0, 0, 1), (43, .iload 0, 5, 0, 0), (45, .ishl, 0, 0, 0), (46, .ior, 0, 0, 0), (47, .istore 0, 4, 0, 0), (49, .goto_w 0, 49, 0, 0)]
def B_St_failing_49 : List Ent := [(49, .iinc 0 0, 5, 0, 1), (52, .goto 0, 6, 0, 0)]
def B_St_failing_55 : List Ent := [(55, .iload 0, 4, 0, 0), (57, .ireturn, 0, 0, 0)]
def lb_St_failing : List (Nat × List Ent) := [(0, B_St_failing_0), (6, B_St_failing_6), (49, B_St_failing_49), (55, B_St_failing_55)]
def B_St_copyFrom_0 : List Ent := [(0, .aload 0, 0, 0, 0), (1, .aload 0, 1, 0, 0), (2, .getfield 0, 13, 0, 4), (5, .putfield 0, 13, 0, 4), (8, .aload 0, 0, 0, 0), (9, .aload 0, 1, 0, 0), (10, .getfield 0, 13, 0, 5), (13, .putfield 0, 13, 0, 5), (16, .aload 0, 0, 0, 0), (17, .aload 0, 1, 0, 0), (18, .getfield 0, 13, 0, 6), (21, .putfield 0, 13, 0, 6), (24, .aload 0, 0, 0, 0), (25, .aload 0, 1, 0, 0), (26, .getfield 0, 13, 0, 7), (29, .putfield 0, 13, 0, 7), (32, .aload 0, 1, 0, 0), (33, .getfield 0, 13, 1, 0), (36, .iconst 0, 0, 0, 0), (37, .aload 0, 0, 0, 0), (38, .getfield 0, 13, 1, 0), (41, .iconst 0, 0, 0, 0), (42, .aload 0, 0, 0, 0), (43, .getfield 0, 13, 1, 0), (46, .arraylength, 0, 0, 0), (47, .invokedynamic 0, 0, 0, 0), (50, .aload 0, 1, 0, 0), (51, .getfield 0, 13, 1, 1), (54, .iconst 0, 0, 0, 0), (55, .aload 0, 0, 0, 0), (56, .getfield 0, 13, 1, 1), (59, .iconst 0, 0, 0, 0), (60, .aload 0, 0, 0, 0), (61, .getfield 0, 13, 1, 1), (64, .arraylength, 0, 0, 0), (65, .invokedynamic 0, 0, 0, 0), (68, .aload 0, 1, 0, 0), (69, .getfield 0, 13, 1, 3), (72, .iconst 0, 0, 0, 0), (73, .aload 0, 0, 0, 0), (74, .getfield 0, 13, 1, 3), (77, .iconst 0, 0, 0, 0), (78, .aload 0, 0, 0, 0), (79, .getfield 0, 13, 1, 3), (82, .arraylength, 0, 0, 0), (83, .invokedynamic 0, 0, 0, 0), (86, .iconst 0, 0, 0, 0), (87, .istore 0, 2, 0, 0), (88, .goto_w 0, 88, 0, 0)]
def B_St_copyFrom_88 : List Ent := [(88, .iload 0, 2, 0, 0), (89, .aload 0, 0, 0, 0), (90, .getfield 0, 13, 1, 2), (93, .arraylength, 0, 0, 0), (94, .if_icmp .ge 0, 115, 0, 0), (97, .aload 0, 0, 0, 0), (98, .getfield 0, 13, 1, 2), (101, .iload 0, 2, 0, 0), (102, .aload 0, 1, 0, 0), (103, .getfield 0, 13, 1, 2), (106, .iload 0, 2, 0, 0), (107, .aaload, 0, 0, 0), (108, .aastore, 0, 0, 0), (109, .iinc 0 0, 2, 0, 1), (112, .goto 0, 88, 0, 0)]
def B_St_copyFrom_115 : List Ent := [(115, .return_, 0, 0, 0)]
def lb_St_copyFrom : List (Nat × List Ent) := [(0, B_St_copyFrom_0), (88, B_St_copyFrom_88), (115, B_St_copyFrom_115)]
def B_Te_init_0 : List Ent := [(0, .aload 0, 0, 0, 0), (1, .checkcast 0, 0, 0, 0), (4, .aload 0, 0, 0, 0), (5, .iconst 0, 0, 0, 0), (6, .putfield 0, 14, 0, 3), (9, .aload 0, 0, 0, 0), (10, .iconst 0, 0, 0, 0), (11, .putfield 0, 14, 0, 4), (14, .iconst 0, 0, 0, 0), (15, .iload 0, 1, 0, 0), (16, .land, 0, 0, 0), (19, .istore 0, 2, 0, 0), (20, .aload 0, 0, 0, 0), (21, .iload 0, 2, 0, 0), (22, .newarray .int, 0, 0, 0), (24, .putfield 0, 14, 1, 0), (27, .aload 0, 0, 0, 0), (28, .iload 0, 2, 0, 0), (29, .newarray .int, 0, 0, 0), (31, .putfield 0, 14, 1, 1), (34, .aload 0, 0, 0, 0), (35, .iload 0, 2, 0, 0), (36, .newarray .int, 0, 0, 0), (38, .putfield 0, 14, 1, 2), (41, .return_, 0, 0, 0)]
def lb_Te_init : List (Nat × List Ent) := [(0, B_Te_init_0)]
def B_Te_clear_0 : List Ent := [(0, .aload 0, 0, 0, 0), (1, .iconst 0, 0, 0, 0), (2, .putfield 0, 14, 0, 3), (5, .aload 0, 0, 0, 0), (6, .iconst 0, 0, 0, 0), (7, .putfield 0, 14, 0, 4), (10, .return_, 0, 0, 0)]
def lb_Te_clear : List (Nat × List Ent) := [(0, B_Te_clear_0)]
def B_Te_add_0 : List Ent := [(0, .aload 0, 0, 0, 0), (1, .getfield 0, 14, 0, 3), (4, .aload 0, 0, 0, 0), (5, .getfield 0, 14, 1, 0), (8, .arraylength, 0, 0, 0), (9, .if_icmp .ge 0, 52, 0, 0), (12, .aload 0, 0, 0, 0), (13, .getfield 0, 14, 1, 0), (16, .aload 0, 0, 0, 0), (17, .getfield 0, 14, 0, 3), (20, .iload 0, 1, 0, 0), (21, .iastore, 0, 0, 0), (22, .aload 0, 0, 0, 0), (23, .getfield 0, 14, 1, 1), (26, .aload 0, 0, 0, 0), (27, .getfield 0, 14, 0, 3), (30, .iload 0, 2, 0, 0), (31, .iastore, 0, 0, 0), (32, .aload 0, 0, 0, 0), (33, .getfield 0, 14, 1, 2), (36, .aload 0, 0, 0, 0), (37, .getfield 0, 14, 0, 3), (40, .iload 0, 3, 0, 0), (41, .iastore, 0, 0, 0), (42, .aload 0, 0, 0, 0), (43, .dup, 0, 0, 0), (44, .getfield 0, 14, 0, 3), (47, .iconst 0, 0, 0, 1), (48, .iadd, 0, 0, 0), (49, .putfield 0, 14, 0, 3), (52, .goto_w 0, 52, 0, 0)]
def B_Te_add_52 : List Ent := [(52, .return_, 0, 0, 0)]
def lb_Te_add : List (Nat × List Ent) := [(0, B_Te_add_0), (52, B_Te_add_52)]
def B_Te_copied_0 : List Ent := [(0, .new 0, 14, 5, 0), (3, .dup, 0, 0, 0), (4, .aload 0, 0, 0, 0), (5, .getfield 0, 14, 0, 3), (8, .invokespecial 0, 48, 2, 14), (11, .astore 0, 1, 0, 0), (12, .iconst 0, 0, 0, 0), (13, .istore 0, 2, 0, 0), (14, .goto_w 0, 14, 0, 0)]
def B_Te_copied_14 : List Ent := [(14, .iload 0, 2, 0, 0), (15, .aload 0, 0, 0, 0), (16, .getfield 0, 14, 0, 3), (19, .if_icmp .ge 0, 50, 0, 0), (22, .aload 0, 1, 0, 0), (23, .aload 0, 0, 0, 0), (24, .getfield 0, 14, 1, 0), (27, .iload 0, 2, 0, 0), (28, .iaload, 0, 0, 0), (29, .aload 0, 0, 0, 0), (30, .getfield 0, 14, 1, 1), (33, .iload 0, 2, 0, 0), (34, .iaload, 0, 0, 0), (35, .aload 0, 0, 0, 0), (36, .getfield 0, 14, 1, 2), (39, .iload 0, 2, 0, 0), (40, .iaload, 0, 0, 0), (41, .invokevirtual 0, 50, 4, 14), (44, .iinc 0 0, 2, 0, 1), (47, .goto 0, 14, 0, 0)]
def B_Te_copied_50 : List Ent := [(50, .aload 0, 1, 0, 0), (51, .aload 0, 0, 0, 0), (52, .getfield 0, 14, 0, 4), (55, .putfield 0, 14, 0, 4), (58, .aload 0, 1, 0, 0), (59, .ireturn, 0, 9, 0)]
def lb_Te_copied : List (Nat × List Ent) := [(0, B_Te_copied_0), (14, B_Te_copied_14), (50, B_Te_copied_50)]
def B_Te_isTrue_0 : List Ent := [(0, .iconst 0, 0, 0, 0), (1, .istore 0, 4, 0, 0), (3, .iconst 0, 0, 0, 0), (4, .istore 0, 5, 0, 0), (6, .goto_w 0, 6, 0, 0)]
def B_Te_isTrue_6 : List Ent := [(6, .iload 0, 5, 0, 0), (8, .aload 0, 0, 0, 0), (9, .getfield 0, 14, 0, 3), (12, .if_icmp .ge 0, 122, 0, 0), (15, .iload 0, 4, 0, 0), (17, .iconst 0, 0, 0, 1), (18, .iand, 0, 0, 0), (19, .istore 0, 6, 0, 0), (21, .aload 0, 0, 0, 0), (22, .getfield 0, 14, 1, 0), (25, .iload 0, 5, 0, 0), (27, .iaload, 0, 0, 0), (28, .tableswitch 64 4 6 #[28, 37, 52], 0, 0, 0)]
def B_Te_isTrue_56 : List Ent := [(56, .iload 0, 4, 0, 0), (58, .iconst 0, 0, 0, 1), (59, .ixor, 0, 0, 0), (60, .istore 0, 4, 0, 0), (62, .goto 0, 116, 0, 0)]
def B_Te_isTrue_65 : List Ent := [(65, .iload 0, 4, 0, 0), (67, .iconst 0, 0, 0, 1), (68, .ishr, 0, 0, 0), (69, .iconst 0, 0, 0, (-2)), (71, .iload 0, 6, 0, 0), (73, .ior, 0, 0, 0), (74, .iand, 0, 0, 0), (75, .istore 0, 4, 0, 0), (77, .goto 0, 116, 0, 0)]
def B_Te_isTrue_80 : List Ent := [(80, .iload 0, 4, 0, 0), (82, .iconst 0, 0, 0, 1), (83, .ishr, 0, 0, 0), (84, .iload 0, 6, 0, 0), (86, .ior, 0, 0, 0), (87, .istore 0, 4, 0, 0), (89, .goto 0, 116, 0, 0)]
def B_Te_isTrue_92 : List Ent := [(92, .iload 0, 4, 0, 0), (94, .iconst 0, 0, 0, 1), (95, .ishl, 0, 0, 0), (96, .aload 0, 0, 0, 0), (97, .iload 0, 5, 0, 0), (99, .iload 0, 1, 0, 0), (100, .iload 0, 2, 0, 0), (101, .iload 0, 3, 0, 0), (102, .invokevirtual 0, 53, 5, 14), (105, .ifCond .eq 0, 112, 0, 0), (108, .iconst 0, 0, 0, 1), (109, .goto 0, 113, 0, 0)]
def B_Te_isTrue_112 : List Ent := [(112, .iconst 0, 0, 0, 0), (113, .goto_w 0, 113, 0, 0)]
def B_Te_isTrue_113 : List Ent := [(113, .ior, 0, 0, 0), (114, .istore 0, 4, 0, 0), (116, .goto_w 0, 116, 0, 0)]
def B_Te_isTrue_116 : List Ent := [(116, .iinc 0 0, 5, 0, 1), (119, .goto 0, 6, 0, 0)]
def B_Te_isTrue_122 : List Ent := [(122, .iload 0, 4, 0, 0), (124, .iconst 0, 0, 0, 1), (125, .iand, 0, 0, 0), (126, .ifCond .eq 0, 133, 0, 0), (129, .iconst 0, 0, 0, 1), (130, .goto 0, 134, 0, 0)]
def B_Te_isTrue_133 : List Ent := [(133, .iconst 0, 0, 0, 0), (134, .goto_w 0, 134, 0, 0)]
def B_Te_isTrue_134 : List Ent := [(134, .ireturn, 0, 1, 0)]
def lb_Te_isTrue : List (Nat × List Ent) := [(0, B_Te_isTrue_0), (6, B_Te_isTrue_6), (56, B_Te_isTrue_56), (65, B_Te_isTrue_65), (80, B_Te_isTrue_80), (92, B_Te_isTrue_92), (112, B_Te_isTrue_112), (113, B_Te_isTrue_113), (116, B_Te_isTrue_116), (122, B_Te_isTrue_122), (133, B_Te_isTrue_133), (134, B_Te_isTrue_134)]
def B_Te_isLeafTrue_0 : List Ent := [(0, .aload 0, 0, 0, 0), (1, .getfield 0, 14, 1, 0), (4, .iload 0, 1, 0, 0), (5, .iaload, 0, 0, 0), (6, .tableswitch 95 0 2 #[26, 52, 78], 0, 0, 0)]
def B_Te_isLeafTrue_32 : List Ent := [(32, .iload 0, 2, 0, 0), (33, .aload 0, 0, 0, 0), (34, .getfield 0, 14, 1, 1), (37, .iload 0, 1, 0, 0), (38, .iaload, 0, 0, 0), (39, .iand, 0, 0, 0), (40, .invokestatic 0, 0, 1, 0), (43, .aload 0, 0, 0, 0), (44, .getfield 0, 14, 1, 2), (47, .iload 0, 1, 0, 0), (48, .iaload, 0, 0, 0), (49, .if_icmp .lt 0, 56, 0, 0), (52, .iconst 0, 0, 0, 1), (53, .goto 0, 57, 0, 0)]
def B_Te_isLeafTrue_56 : List Ent := [(56, .iconst 0, 0, 0, 0), (57, .goto_w 0, 57, 0, 0)]
def B_Te_isLeafTrue_57 : List Ent := [(57, .ireturn, 0, 1, 0)]
def B_Te_isLeafTrue_58 : List Ent := [(58, .iload 0, 2, 0, 0), (59, .aload 0, 0, 0, 0), (60, .getfield 0, 14, 1, 1), (63, .iload 0, 1, 0, 0), (64, .iaload, 0, 0, 0), (65, .iand, 0, 0, 0), (66, .invokestatic 0, 0, 1, 0), (69, .aload 0, 0, 0, 0), (70, .getfield 0, 14, 1, 2), (73, .iload 0, 1, 0, 0), (74, .iaload, 0, 0, 0), (75, .if_icmp .gt 0, 82, 0, 0), (78, .iconst 0, 0, 0, 1), (79, .goto 0, 83, 0, 0)]
def B_Te_isLeafTrue_82 : List Ent := [(82, .iconst 0, 0, 0, 0), (83, .goto_w 0, 83, 0, 0)]
def B_Te_isLeafTrue_83 : List Ent := [(83, .ireturn, 0, 1, 0)]
def B_Te_isLeafTrue_84 : List Ent := [(84, .iload 0, 3, 0, 0), (85, .aload 0, 0, 0, 0), (86, .getfield 0, 14, 1, 1), (89, .iload 0, 1, 0, 0), (90, .iaload, 0, 0, 0), (91, .aload 0, 0, 0, 0), (92, .getfield 0, 14, 1, 2), (95, .iload 0, 1, 0, 0), (96, .iaload, 0, 0, 0), (97, .invokestatic 0, 54, 3, 0), (100, .ireturn, 0, 1, 0)]
def B_Te_isLeafTrue_101 : List Ent := [(101, .iload 0, 4, 0, 0), (103, .aload 0, 0, 0, 0), (104, .getfield 0, 14, 1, 1), (107, .iload 0, 1, 0, 0), (108, .iaload, 0, 0, 0), (109, .aload 0, 0, 0, 0), (110, .getfield 0, 14, 1, 2), (113, .iload 0, 1, 0, 0), (114, .iaload, 0, 0, 0), (115, .invokestatic 0, 54, 3, 0), (118, .ireturn, 0, 1, 0)]
def lb_Te_isLeafTrue : List (Nat × List Ent) := [(0, B_Te_isLeafTrue_0), (32, B_Te_isLeafTrue_32), (56, B_Te_isLeafTrue_56), (57, B_Te_isLeafTrue_57), (58, B_Te_isLeafTrue_58), (82, B_Te_isLeafTrue_82), (83, B_Te_isLeafTrue_83), (84, B_Te_isLeafTrue_84), (101, B_Te_isLeafTrue_101)]
def B_Te_isSo_0 : List Ent := [(0, .iload 0, 1, 0, 0), (1, .iconst 0, 0, 0, 60), (3, .if_icmp .ne 0, 17, 0, 0), (6, .iload 0, 0, 0, 0), (7, .iload 0, 2, 0, 0), (8, .if_icmp .ge 0, 15, 0, 0), (11, .iconst 0, 0, 0, 1), (12, .goto 0, 16, 0, 0)]
def B_Te_isSo_15 : List Ent := [(15, .iconst 0, 0, 0, 0), (16, .goto_w 0, 16, 0, 0)]
def B_Te_isSo_16 : List Ent := [(16, .ireturn, 0, 1, 0)]
def B_Te_isSo_17 : List Ent := [(17, .iload 0, 1, 0, 0), (18, .iconst 0, 0, 0, 62), (20, .if_icmp .ne 0, 36, 0, 0), (23, .iload 0, 0, 0, 0), (24, .iload 0, 2, 0, 0), (25, .if_icmp .le 0, 32, 0, 0), (28, .iconst 0, 0, 0, 1), (29, .goto 0, 46, 0, 0)]
def B_Te_isSo_32 : List Ent := [(32, .iconst 0, 0, 0, 0), (33, .goto 0, 46, 0, 0)]
def B_Te_isSo_36 : List Ent := [(36, .iload 0, 0, 0, 0), (37, .iload 0, 2, 0, 0), (38, .if_icmp .ne 0, 45, 0, 0), (41, .iconst 0, 0, 0, 1), (42, .goto 0, 46, 0, 0)]
def B_Te_isSo_45 : List Ent := [(45, .iconst 0, 0, 0, 0), (46, .goto_w 0, 46, 0, 0)]
def B_Te_isSo_46 : List Ent := [(46, .ireturn, 0, 1, 0)]
def lb_Te_isSo : List (Nat × List Ent) := [(0, B_Te_isSo_0), (15, B_Te_isSo_15), (16, B_Te_isSo_16), (17, B_Te_isSo_17), (32, B_Te_isSo_32), (36, B_Te_isSo_36), (45, B_Te_isSo_45), (46, B_Te_isSo_46)]
def B_TR_init_0 : List Ent := [(0, .aload 0, 0, 0, 0), (1, .checkcast 0, 0, 0, 0), (4, .aload 0, 0, 0, 0), (5, .new 0, 14, 5, 0), (8, .dup, 0, 0, 0), (9, .iconst 0, 0, 0, 800), (12, .invokespecial 0, 48, 2, 14), (15, .putfield 0, 15, 1, 0), (18, .aload 0, 0, 0, 0), (19, .iconst 0, 0, 0, 0), (20, .putfield 0, 15, 0, 3), (23, .aload 0, 0, 0, 0), (24, .aload 0, 1, 0, 0), (25, .putfield 0, 15, 1, 1), (28, .aload 0, 0, 0, 0), (29, .aload 0, 2, 0, 0), (30, .putfield 0, 15, 1, 2), (33, .return_, 0, 0, 0)]
def lb_TR_init : List (Nat × List Ent) := [(0, B_TR_init_0)]
def B_TR_begin_0 : List Ent := [(0, .aload 0, 0, 0, 0), (1, .aload 0, 1, 0, 0), (2, .putfield 0, 15, 1, 2), (5, .aload 0, 0, 0, 0), (6, .aload 0, 0, 0, 0), (7, .getfield 0, 15, 1, 1), (10, .getfield 0, 17, 0, 2), (13, .putfield 0, 15, 0, 3), (16, .aload 0, 0, 0, 0), (17, .getfield 0, 15, 1, 0), (20, .invokevirtual 0, 49, 1, 14), (23, .return_, 0, 0, 0)]
def lb_TR_begin : List (Nat × List Ent) := [(0, B_TR_begin_0)]
def B_TR_readWhole_0 : List Ent := [(0, .aload 0, 0, 0, 0), (1, .aload 0, 1, 0, 0), (2, .invokevirtual 0, 56, 2, 15), (5, .aload 0, 0, 0, 0), (6, .iconst 0, 0, 0, 0), (7, .invokevirtual 0, 58, 2, 15), (10, .ifCond .eq 0, 40, 0, 0), (13, .aload 0, 0, 0, 0), (14, .getfield 0, 15, 1, 1), (17, .getfield 0, 17, 0, 3), (20, .iconst 0, 0, 0, 6), (22, .if_icmp .eq 0, 36, 0, 0), (25, .aload 0, 0, 0, 0), (26, .getfield 0, 15, 1, 1), (29, .iconst 0, 0, 0, 1), (30, .invokevirtual 0, 79, 2, 17), (33, .ifCond .eq 0, 40, 0, 0), (36, .goto_w 0, 36, 0, 0)]
def B_TR_readWhole_36 : List Ent := [(36, .iconst 0, 0, 0, 1), (37, .goto 0, 41, 0, 0)]
def B_TR_readWhole_40 : List Ent := [(40, .iconst 0, 0, 0, 0), (41, .goto_w 0, 41, 0, 0)]
def B_TR_readWhole_41 : List Ent := [(41, .ireturn, 0, 1, 0)]
def lb_TR_readWhole : List (Nat × List Ent) := [(0, B_TR_readWhole_0), (36, B_TR_readWhole_36), (40, B_TR_readWhole_40), (41, B_TR_readWhole_41)]
def B_TR_readTest_0 : List Ent := [(0, .iconst 0, 0, 0, 0), (1, .istore 0, 2, 0, 0), (2, .goto_w 0, 2, 0, 0)]
def B_TR_readTest_2 : List Ent := [(2, .iload 0, 2, 0, 0), (3, .iconst 0, 0, 0, 800), (6, .if_icmp .ge 0, 101, 0, 0), (9, .iconst 0, 0, 0, 0), (10, .istore 0, 3, 0, 0), (11, .goto_w 0, 11, 0, 0)]
def B_TR_readTest_11 : List Ent := [(11, .iload 0, 3, 0, 0), (12, .iconst 0, 0, 0, 800), (15, .if_icmp .ge 0, 64, 0, 0), (18, .aload 0, 0, 0, 0), (19, .iload 0, 1, 0, 0), (20, .invokevirtual 0, 59, 2, 15), (23, .ifCond .ne 0, 28, 0, 0), (26, .iconst 0, 0, 0, 0), (27, .ireturn, 0, 1, 0)]
def B_TR_readTest_28 : List Ent := [(28, .iload 0, 3, 0, 0), (29, .ifCond .le 0, 42, 0, 0), (32, .aload 0, 0, 0, 0), (33, .getfield 0, 15, 1, 0), (36, .iconst 0, 0, 0, 5), (37, .iconst 0, 0, 0, 0), (38, .iconst 0, 0, 0, 0), (39, .invokevirtual 0, 50, 4, 14), (42, .goto_w 0, 42, 0, 0)]
def B_TR_readTest_42 : List Ent := [(42, .aload 0, 0, 0, 0), (43, .getfield 0, 15, 1, 1), (46, .ldc 0, 6, 0, 0), (49, .invokevirtual 0, 82, 2, 17), (52, .ifCond .ne 0, 58, 0, 0), (55, .goto 0, 64, 0, 0)]
def B_TR_readTest_58 : List Ent := [(58, .iinc 0 0, 3, 0, 1), (61, .goto 0, 11, 0, 0)]
def B_TR_readTest_64 : List Ent := [(64, .iload 0, 2, 0, 0), (65, .ifCond .le 0, 79, 0, 0), (68, .aload 0, 0, 0, 0), (69, .getfield 0, 15, 1, 0), (72, .iconst 0, 0, 0, 6), (74, .iconst 0, 0, 0, 0), (75, .iconst 0, 0, 0, 0), (76, .invokevirtual 0, 50, 4, 14), (79, .goto_w 0, 79, 0, 0)]
def B_TR_readTest_79 : List Ent := [(79, .aload 0, 0, 0, 0), (80, .getfield 0, 15, 1, 1), (83, .ldc 0, 5, 0, 0), (86, .invokevirtual 0, 82, 2, 17), (89, .ifCond .ne 0, 95, 0, 0), (92, .goto 0, 101, 0, 0)]
def B_TR_readTest_95 : List Ent := [(95, .iinc 0 0, 2, 0, 1), (98, .goto 0, 2, 0, 0)]
def B_TR_readTest_101 : List Ent := [(101, .aload 0, 0, 0, 0), (102, .getfield 0, 15, 1, 0), (105, .aload 0, 0, 0, 0), (106, .getfield 0, 15, 1, 1), (109, .getfield 0, 17, 0, 2), (112, .aload 0, 0, 0, 0), (113, .getfield 0, 15, 0, 3), (116, .isub, 0, 0, 0), (117, .putfield 0, 14, 0, 4), (120, .iconst 0, 0, 0, 1), (121, .ireturn, 0, 1, 0)]
def lb_TR_readTest : List (Nat × List Ent) := [(0, B_TR_readTest_0), (2, B_TR_readTest_2), (11, B_TR_readTest_11), (28, B_TR_readTest_28), (42, B_TR_readTest_42), (58, B_TR_readTest_58), (64, B_TR_readTest_64), (79, B_TR_readTest_79), (95, B_TR_readTest_95), (101, B_TR_readTest_101)]
def B_TR_readFactor_0 : List Ent := [(0, .aload 0, 0, 0, 0), (1, .getfield 0, 15, 1, 1), (4, .ldc 0, 7, 0, 0), (7, .invokevirtual 0, 80, 2, 17), (10, .istore 0, 2, 0, 0), (11, .iload 0, 2, 0, 0), (12, .ifCond .ne 0, 27, 0, 0), (15, .aload 0, 0, 0, 0), (16, .getfield 0, 15, 1, 1), (19, .iconst 0, 0, 0, 40), (21, .invokevirtual 0, 81, 2, 17), (24, .ifCond .eq 0, 92, 0, 0), (27, .goto_w 0, 27, 0, 0)]
def B_TR_readFactor_27 : List Ent := [(27, .iload 0, 1, 0, 0), (28, .iconst 0, 0, 0, 6), (30, .if_icmp .lt 0, 43, 0, 0), (33, .aload 0, 0, 0, 0), (34, .getfield 0, 15, 1, 1), (37, .iconst 0, 0, 0, 7), (39, .invokevirtual 0, 79, 2, 17), (42, .ireturn, 0, 1, 0)]
def B_TR_readFactor_43 : List Ent := [(43, .aload 0, 0, 0, 0), (44, .getfield 0, 15, 1, 1), (47, .invokevirtual 0, 78, 1, 17), (50, .iload 0, 2, 0, 0), (51, .ifCond .eq 0, 64, 0, 0), (54, .aload 0, 0, 0, 0), (55, .iload 0, 1, 0, 0), (56, .iconst 0, 0, 0, 1), (57, .iadd, 0, 0, 0), (58, .invokevirtual 0, 60, 2, 15), (61, .goto 0, 91, 0, 0)]
def B_TR_readFactor_64 : List Ent := [(64, .aload 0, 0, 0, 0), (65, .iload 0, 1, 0, 0), (66, .iconst 0, 0, 0, 1), (67, .iadd, 0, 0, 0), (68, .invokevirtual 0, 58, 2, 15), (71, .ifCond .eq 0, 90, 0, 0), (74, .aload 0, 0, 0, 0), (75, .getfield 0, 15, 1, 1), (78, .iconst 0, 0, 0, 41), (80, .invokevirtual 0, 83, 2, 17), (83, .ifCond .eq 0, 90, 0, 0), (86, .iconst 0, 0, 0, 1), (87, .goto 0, 91, 0, 0)]
def B_TR_readFactor_90 : List Ent := [(90, .iconst 0, 0, 0, 0), (91, .goto_w 0, 91, 0, 0)]
def B_TR_readFactor_91 : List Ent := [(91, .ireturn, 0, 1, 0)]
def B_TR_readFactor_92 : List Ent := [(92, .aload 0, 0, 0, 0), (93, .getfield 0, 15, 1, 1), (96, .getfield 0, 17, 0, 3), (99, .iconst 0, 0, 0, 2), (100, .if_icmp .eq 0, 108, 0, 0), (103, .aload 0, 0, 0, 0), (104, .invokevirtual 0, 61, 1, 15), (107, .ireturn, 0, 1, 0)]
def B_TR_readFactor_108 : List Ent := [(108, .aload 0, 0, 0, 0), (109, .getfield 0, 15, 1, 1), (112, .ldc 0, 13, 0, 0), (115, .invokevirtual 0, 80, 2, 17), (118, .ifCond .ne 0, 134, 0, 0), (121, .aload 0, 0, 0, 0), (122, .getfield 0, 15, 1, 1), (125, .ldc 0, 14, 0, 0), (128, .invokevirtual 0, 80, 2, 17), (131, .ifCond .eq 0, 139, 0, 0), (134, .goto_w 0, 134, 0, 0)]
def B_TR_readFactor_134 : List Ent := [(134, .aload 0, 0, 0, 0), (135, .invokevirtual 0, 62, 1, 15), (138, .ireturn, 0, 1, 0)]
def B_TR_readFactor_139 : List Ent := [(139, .aload 0, 0, 0, 0), (140, .invokevirtual 0, 63, 1, 15), (143, .ireturn, 0, 1, 0)]
def lb_TR_readFactor : List (Nat × List Ent) := [(0, B_TR_readFactor_0), (27, B_TR_readFactor_27), (43, B_TR_readFactor_43), (64, B_TR_readFactor_64), (90, B_TR_readFactor_90), (91, B_TR_readFactor_91), (92, B_TR_readFactor_92), (108, B_TR_readFactor_108), (134, B_TR_readFactor_134), (139, B_TR_readFactor_139)]
def B_TR_readNegated_0 : List Ent := [(0, .aload 0, 0, 0, 0), (1, .iload 0, 1, 0, 0), (2, .invokevirtual 0, 59, 2, 15), (5, .ifCond .ne 0, 10, 0, 0), (8, .iconst 0, 0, 0, 0), (9, .ireturn, 0, 1, 0)]
def B_TR_readNegated_10 : List Ent := [(10, .aload 0, 0, 0, 0), (11, .getfield 0, 15, 1, 0), (14, .iconst 0, 0, 0, 4), (15, .iconst 0, 0, 0, 0), (16, .iconst 0, 0, 0, 0), (17, .invokevirtual 0, 50, 4, 14), (20, .iconst 0, 0, 0, 1), (21, .ireturn, 0, 1, 0)]
def lb_TR_readNegated : List (Nat × List Ent) := [(0, B_TR_readNegated_0), (10, B_TR_readNegated_10)]
def B_TR_readName_0 : List Ent := [(0, .aload 0, 0, 0, 0), (1, .invokevirtual 0, 64, 1, 15), (4, .istore 0, 1, 0, 0), (5, .iload 0, 1, 0, 0), (6, .iconst 0, 0, 0, (-1)), (7, .if_icmp .ne 0, 12, 0, 0), (10, .iconst 0, 0, 0, 0), (11, .ireturn, 0, 1, 0)]
def B_TR_readName_12 : List Ent := [(12, .aload 0, 0, 0, 0), (13, .getfield 0, 15, 1, 0), (16, .iconst 0, 0, 0, 0), (17, .iconst 0, 0, 0, 1), (18, .iload 0, 1, 0, 0), (19, .ishl, 0, 0, 0), (20, .iconst 0, 0, 0, 1), (21, .invokevirtual 0, 50, 4, 14), (24, .iconst 0, 0, 0, 1), (25, .ireturn, 0, 1, 0)]
def lb_TR_readName : List (Nat × List Ent) := [(0, B_TR_readName_0), (12, B_TR_readName_12)]
def B_TR_readComparison_0 : List Ent := [(0, .aload 0, 0, 0, 0), (1, .getfield 0, 15, 1, 1), (4, .ldc 0, 13, 0, 0), (7, .invokevirtual 0, 80, 2, 17), (10, .ifCond .eq 0, 17, 0, 0), (13, .iconst 0, 0, 0, 2), (14, .goto 0, 18, 0, 0)]
def B_TR_readComparison_17 : List Ent := [(17, .iconst 0, 0, 0, 3), (18, .goto_w 0, 18, 0, 0)]
def B_TR_readComparison_18 : List Ent := [(18, .istore 0, 1, 0, 0), (19, .aload 0, 0, 0, 0), (20, .getfield 0, 15, 1, 1), (23, .invokevirtual 0, 78, 1, 17), (26, .aload 0, 0, 0, 0), (27, .getfield 0, 15, 1, 1), (30, .getfield 0, 17, 0, 4), (33, .istore 0, 2, 0, 0), (34, .aload 0, 0, 0, 0), (35, .getfield 0, 15, 1, 1), (38, .iconst 0, 0, 0, 60), (40, .invokevirtual 0, 81, 2, 17), (43, .ifCond .ne 0, 79, 0, 0), (46, .aload 0, 0, 0, 0), (47, .getfield 0, 15, 1, 1), (50, .iconst 0, 0, 0, 61), (52, .invokevirtual 0, 81, 2, 17), (55, .ifCond .ne 0, 79, 0, 0), (58, .aload 0, 0, 0, 0), (59, .getfield 0, 15, 1, 1), (62, .iconst 0, 0, 0, 62), (64, .invokevirtual 0, 81, 2, 17), (67, .ifCond .ne 0, 79, 0, 0), (70, .aload 0, 0, 0, 0), (71, .getfield 0, 15, 1, 1), (74, .iconst 0, 0, 0, 1), (75, .invokevirtual 0, 79, 2, 17), (78, .ireturn, 0, 1, 0)]
def B_TR_readComparison_79 : List Ent := [(79, .aload 0, 0, 0, 0), (80, .getfield 0, 15, 1, 1), (83, .invokevirtual 0, 78, 1, 17), (86, .aload 0, 0, 0, 0), (87, .getfield 0, 15, 1, 1), (90, .iconst 0, 0, 0, 0), (91, .iconst 0, 0, 0, 9999), (94, .invokevirtual 0, 84, 3, 17), (97, .istore 0, 3, 0, 0), (98, .iload 0, 3, 0, 0), (99, .iconst 0, 0, 0, (-1)), (100, .if_icmp .ne 0, 105, 0, 0), (103, .iconst 0, 0, 0, 0), (104, .ireturn, 0, 1, 0)]
def B_TR_readComparison_105 : List Ent := [(105, .aload 0, 0, 0, 0), (106, .getfield 0, 15, 1, 0), (109, .iload 0, 1, 0, 0), (110, .iload 0, 2, 0, 0), (111, .iload 0, 3, 0, 0), (112, .invokevirtual 0, 50, 4, 14), (115, .iconst 0, 0, 0, 1), (116, .ireturn, 0, 1, 0)]
def lb_TR_readComparison : List (Nat × List Ent) := [(0, B_TR_readComparison_0), (17, B_TR_readComparison_17), (18, B_TR_readComparison_18), (79, B_TR_readComparison_79), (105, B_TR_readComparison_105)]
def B_TR_readList_0 : List Ent := [(0, .aload 0, 0, 0, 0), (1, .getfield 0, 15, 1, 1), (4, .ldc 0, 8, 0, 0), (7, .invokevirtual 0, 80, 2, 17), (10, .istore 0, 1, 0, 0), (11, .aload 0, 0, 0, 0), (12, .getfield 0, 15, 1, 1), (15, .ldc 0, 11, 0, 0), (18, .invokevirtual 0, 80, 2, 17), (21, .istore 0, 2, 0, 0), (22, .aload 0, 0, 0, 0), (23, .getfield 0, 15, 1, 1), (26, .ldc 0, 10, 0, 0), (29, .invokevirtual 0, 80, 2, 17), (32, .istore 0, 3, 0, 0), (33, .aload 0, 0, 0, 0), (34, .getfield 0, 15, 1, 1), (37, .ldc 0, 12, 0, 0), (40, .invokevirtual 0, 80, 2, 17), (43, .istore 0, 4, 0, 0), (45, .iload 0, 1, 0, 0), (46, .ifCond .ne 0, 84, 0, 0), (49, .iload 0, 2, 0, 0), (50, .ifCond .ne 0, 84, 0, 0), (53, .iload 0, 3, 0, 0), (54, .ifCond .ne 0, 84, 0, 0), (57, .iload 0, 4, 0, 0), (59, .ifCond .ne 0, 84, 0, 0), (62, .aload 0, 0, 0, 0), (63, .getfield 0, 15, 1, 1), (66, .ldc 0, 9, 0, 0), (69, .invokevirtual 0, 80, 2, 17), (72, .ifCond .ne 0, 84, 0, 0), (75, .aload 0, 0, 0, 0), (76, .getfield 0, 15, 1, 1), (79, .iconst 0, 0, 0, 1), (80, .invokevirtual 0, 79, 2, 17), (83, .ireturn, 0, 1, 0)]
def B_TR_readList_84 : List Ent := [(84, .aload 0, 0, 0, 0), (85, .getfield 0, 15, 1, 1), (88, .invokevirtual 0, 78, 1, 17), (91, .iload 0, 3, 0, 0), (92, .ifCond .eq 0, 99, 0, 0), (95, .iconst 0, 0, 0, 0), (96, .goto 0, 100, 0, 0)]
def B_TR_readList_99 : List Ent := [(99, .iconst 0, 0, 0, 1), (100, .goto_w 0, 100, 0, 0)]
def B_TR_readList_100 : List Ent := [(100, .istore 0, 5, 0, 0), (102, .iload 0, 2, 0, 0), (103, .ifCond .ne 0, 111, 0, 0), (106, .iload 0, 4, 0, 0), (108, .ifCond .eq 0, 123, 0, 0), (111, .goto_w 0, 111, 0, 0)]
def B_TR_readList_111 : List Ent := [(111, .aload 0, 0, 0, 0), (112, .getfield 0, 15, 1, 1), (115, .iconst 0, 0, 0, 0), (116, .iconst 0, 0, 0, 10), (118, .invokevirtual 0, 84, 3, 17), (121, .istore 0, 5, 0, 0), (123, .goto_w 0, 123, 0, 0)]
def B_TR_readList_123 : List Ent := [(123, .iload 0, 5, 0, 0), (125, .iconst 0, 0, 0, (-1)), (126, .if_icmp .eq 0, 141, 0, 0), (129, .aload 0, 0, 0, 0), (130, .getfield 0, 15, 1, 1), (133, .iconst 0, 0, 0, 40), (135, .invokevirtual 0, 83, 2, 17), (138, .ifCond .ne 0, 143, 0, 0), (141, .goto_w 0, 141, 0, 0)]
def B_TR_readList_141 : List Ent := [(141, .iconst 0, 0, 0, 0), (142, .ireturn, 0, 1, 0)]
def B_TR_readList_143 : List Ent := [(143, .iconst 0, 0, 0, 0), (144, .istore 0, 6, 0, 0), (146, .iconst 0, 0, 0, 0), (147, .istore 0, 7, 0, 0), (149, .goto_w 0, 149, 0, 0)]
def B_TR_readList_149 : List Ent := [(149, .iload 0, 7, 0, 0), (151, .iconst 0, 0, 0, 800), (154, .if_icmp .ge 0, 203, 0, 0), (157, .iload 0, 7, 0, 0), (159, .ifCond .eq 0, 174, 0, 0), (162, .aload 0, 0, 0, 0), (163, .getfield 0, 15, 1, 1), (166, .iconst 0, 0, 0, 41), (168, .invokevirtual 0, 81, 2, 17), (171, .ifCond .ne 0, 203, 0, 0), (174, .goto_w 0, 174, 0, 0)]
def B_TR_readList_174 : List Ent := [(174, .aload 0, 0, 0, 0), (175, .invokevirtual 0, 64, 1, 15), (178, .istore 0, 8, 0, 0), (180, .iload 0, 8, 0, 0), (182, .iconst 0, 0, 0, (-1)), (183, .if_icmp .ne 0, 188, 0, 0), (186, .iconst 0, 0, 0, 0), (187, .ireturn, 0, 1, 0)]
def B_TR_readList_188 : List Ent := [(188, .iload 0, 6, 0, 0), (190, .iconst 0, 0, 0, 1), (191, .iload 0, 8, 0, 0), (193, .ishl, 0, 0, 0), (194, .ior, 0, 0, 0), (195, .istore 0, 6, 0, 0), (197, .iinc 0 0, 7, 0, 1), (200, .goto 0, 149, 0, 0)]
def B_TR_readList_203 : List Ent := [(203, .aload 0, 0, 0, 0), (204, .getfield 0, 15, 1, 0), (207, .iload 0, 2, 0, 0), (208, .ifCond .ne 0, 215, 0, 0), (211, .iload 0, 3, 0, 0), (212, .ifCond .eq 0, 219, 0, 0), (215, .goto_w 0, 215, 0, 0)]
def B_TR_readList_215 : List Ent := [(215, .iconst 0, 0, 0, 1), (216, .goto 0, 220, 0, 0)]
def B_TR_readList_219 : List Ent := [(219, .iconst 0, 0, 0, 0), (220, .goto_w 0, 220, 0, 0)]
def B_TR_readList_220 : List Ent := [(220, .iload 0, 6, 0, 0), (222, .iload 0, 1, 0, 0), (223, .ifCond .eq 0, 234, 0, 0), (226, .iload 0, 6, 0, 0), (228, .invokestatic 0, 0, 1, 0), (231, .goto 0, 236, 0, 0)]
def B_TR_readList_234 : List Ent := [(234, .iload 0, 5, 0, 0), (236, .goto_w 0, 236, 0, 0)]
def B_TR_readList_236 : List Ent := [(236, .invokevirtual 0, 50, 4, 14), (239, .aload 0, 0, 0, 0), (240, .getfield 0, 15, 1, 1), (243, .iconst 0, 0, 0, 41), (245, .invokevirtual 0, 83, 2, 17), (248, .ireturn, 0, 1, 0)]
def lb_TR_readList : List (Nat × List Ent) := [(0, B_TR_readList_0), (84, B_TR_readList_84), (99, B_TR_readList_99), (100, B_TR_readList_100), (111, B_TR_readList_111), (123, B_TR_readList_123), (141, B_TR_readList_141), (143, B_TR_readList_143), (149, B_TR_readList_149), (174, B_TR_readList_174), (188, B_TR_readList_188), (203, B_TR_readList_203), (215, B_TR_readList_215), (219, B_TR_readList_219), (220, B_TR_readList_220), (234, B_TR_readList_234), (236, B_TR_readList_236)]
def B_TR_takeThing_0 : List Ent := [(0, .aload 0, 0, 0, 0), (1, .getfield 0, 15, 1, 1), (4, .getfield 0, 17, 0, 3), (7, .iconst 0, 0, 0, 1), (8, .if_icmp .eq 0, 22, 0, 0), (11, .aload 0, 0, 0, 0), (12, .getfield 0, 15, 1, 1), (15, .iconst 0, 0, 0, 1), (16, .invokevirtual 0, 79, 2, 17), (19, .pop, 0, 0, 0), (20, .iconst 0, 0, 0, (-1)), (21, .ireturn, 0, 0, 0)]
def B_TR_takeThing_22 : List Ent := [(22, .aload 0, 0, 0, 0), (23, .getfield 0, 15, 1, 2), (26, .aload 0, 0, 0, 0), (27, .getfield 0, 15, 1, 1), (30, .getfield 0, 17, 0, 4), (33, .invokevirtual 0, 12, 2, 10), (36, .istore 0, 1, 0, 0), (37, .iload 0, 1, 0, 0), (38, .iconst 0, 0, 0, (-1)), (39, .if_icmp .ne 0, 53, 0, 0), (42, .aload 0, 0, 0, 0), (43, .getfield 0, 15, 1, 1), (46, .iconst 0, 0, 0, 4), (47, .invokevirtual 0, 79, 2, 17), (50, .pop, 0, 0, 0), (51, .iconst 0, 0, 0, (-1)), (52, .ireturn, 0, 0, 0)]
def B_TR_takeThing_53 : List Ent := [(53, .aload 0, 0, 0, 0), (54, .getfield 0, 15, 1, 1), (57, .invokevirtual 0, 78, 1, 17), (60, .iload 0, 1, 0, 0), (61, .ireturn, 0, 0, 0)]
def lb_TR_takeThing : List (Nat × List Ent) := [(0, B_TR_takeThing_0), (22, B_TR_takeThing_22), (53, B_TR_takeThing_53)]
def B_XR_init_0 : List Ent := [(0, .aload 0, 0, 0, 0), (1, .checkcast 0, 0, 0, 0), (4, .aload 0, 0, 0, 0), (5, .new 0, 10, 6, 0), (8, .dup, 0, 0, 0), (9, .invokespecial 0, 9, 1, 10), (12, .putfield 0, 16, 1, 0), (15, .aload 0, 0, 0, 0), (16, .new 0, 13, 8, 0), (19, .dup, 0, 0, 0), (20, .invokespecial 0, 38, 1, 13), (23, .putfield 0, 16, 1, 1), (26, .aload 0, 0, 0, 0), (27, .aload 0, 1, 0, 0), (28, .putfield 0, 16, 1, 2), (31, .aload 0, 0, 0, 0), (32, .aload 0, 2, 0, 0), (33, .putfield 0, 16, 1, 3), (36, .return_, 0, 0, 0)]
def lb_XR_init : List (Nat × List Ent) := [(0, B_XR_init_0)]
def B_XR_read_0 : List Ent := [(0, .aload 0, 0, 0, 0), (1, .getfield 0, 16, 1, 0), (4, .invokevirtual 0, 10, 1, 10), (7, .aload 0, 0, 0, 0), (8, .getfield 0, 16, 1, 1), (11, .invokevirtual 0, 39, 1, 13), (14, .aload 0, 0, 0, 0), (15, .invokevirtual 0, 67, 1, 16), (18, .ifCond .eq 0, 28, 0, 0), (21, .aload 0, 0, 0, 0), (22, .invokevirtual 0, 68, 1, 16), (25, .ifCond .ne 0, 30, 0, 0), (28, .goto_w 0, 28, 0, 0)]
def B_XR_read_28 : List Ent := [(28, .iconst 0, 0, 0, 0), (29, .ireturn, 0, 1, 0)]
def B_XR_read_30 : List Ent := [(30, .iconst 0, 0, 0, 0), (31, .istore 0, 1, 0, 0), (32, .goto_w 0, 32, 0, 0)]
def B_XR_read_32 : List Ent := [(32, .iload 0, 1, 0, 0), (33, .iconst 0, 0, 0, 800), (36, .if_icmp .ge 0, 135, 0, 0), (39, .aload 0, 0, 0, 0), (40, .getfield 0, 16, 1, 2), (43, .getfield 0, 17, 0, 3), (46, .iconst 0, 0, 0, 6), (48, .if_icmp .eq 0, 135, 0, 0), (51, .aload 0, 0, 0, 0), (52, .getfield 0, 16, 1, 2), (55, .ldc 0, 3, 0, 0), (58, .invokevirtual 0, 80, 2, 17), (61, .istore 0, 2, 0, 0), (62, .iload 0, 2, 0, 0), (63, .ifCond .eq 0, 97, 0, 0), (66, .aload 0, 0, 0, 0), (67, .invokevirtual 0, 70, 1, 16), (70, .ifCond .eq 0, 93, 0, 0), (73, .aload 0, 0, 0, 0), (74, .getfield 0, 16, 1, 3), (77, .iconst 0, 0, 0, 59), (79, .aload 0, 0, 0, 0), (80, .getfield 0, 16, 1, 0), (83, .invokevirtual 0, 322, 3, 15), (86, .ifCond .eq 0, 93, 0, 0), (89, .iconst 0, 0, 0, 1), (90, .goto 0, 101, 0, 0)]
def B_XR_read_93 : List Ent := [(93, .iconst 0, 0, 0, 0), (94, .goto 0, 101, 0, 0)]
def B_XR_read_97 : List Ent := [(97, .aload 0, 0, 0, 0), (98, .invokevirtual 0, 71, 1, 16), (101, .goto_w 0, 101, 0, 0)]
def B_XR_read_101 : List Ent := [(101, .istore 0, 3, 0, 0), (102, .iload 0, 3, 0, 0), (103, .ifCond .ne 0, 108, 0, 0), (106, .iconst 0, 0, 0, 0), (107, .ireturn, 0, 1, 0)]
def B_XR_read_108 : List Ent := [(108, .iload 0, 2, 0, 0), (109, .ifCond .eq 0, 129, 0, 0), (112, .aload 0, 0, 0, 0), (113, .getfield 0, 16, 1, 1), (116, .aload 0, 0, 0, 0), (117, .getfield 0, 16, 1, 3), (120, .getfield 0, 15, 1, 0), (123, .invokevirtual 0, 51, 1, 14), (126, .invokevirtual 0, 43, 2, 13), (129, .goto_w 0, 129, 0, 0)]
def B_XR_read_129 : List Ent := [(129, .iinc 0 0, 1, 0, 1), (132, .goto 0, 32, 0, 0)]
def B_XR_read_135 : List Ent := [(135, .iconst 0, 0, 0, 1), (136, .ireturn, 0, 1, 0)]
def lb_XR_read : List (Nat × List Ent) := [(0, B_XR_read_0), (28, B_XR_read_28), (30, B_XR_read_30), (32, B_XR_read_32), (93, B_XR_read_93), (97, B_XR_read_97), (101, B_XR_read_101), (108, B_XR_read_108), (129, B_XR_read_129), (135, B_XR_read_135)]
def B_XR_readHead_0 : List Ent := [(0, .aload 0, 0, 0, 0), (1, .getfield 0, 16, 1, 2), (4, .ldc 0, 0, 0, 0), (7, .invokevirtual 0, 82, 2, 17), (10, .ifCond .ne 0, 22, 0, 0), (13, .aload 0, 0, 0, 0), (14, .getfield 0, 16, 1, 2), (17, .iconst 0, 0, 0, 1), (18, .invokevirtual 0, 79, 2, 17), (21, .ireturn, 0, 1, 0)]
def B_XR_readHead_22 : List Ent := [(22, .aload 0, 0, 0, 0), (23, .getfield 0, 16, 1, 0), (26, .aload 0, 0, 0, 0), (27, .getfield 0, 16, 1, 2), (30, .iconst 0, 0, 0, 1), (31, .iconst 0, 0, 0, 9), (33, .invokevirtual 0, 84, 3, 17), (36, .putfield 0, 10, 0, 4), (39, .aload 0, 0, 0, 0), (40, .getfield 0, 16, 1, 0), (43, .getfield 0, 10, 0, 4), (46, .iconst 0, 0, 0, (-1)), (47, .if_icmp .ne 0, 52, 0, 0), (50, .iconst 0, 0, 0, 0), (51, .ireturn, 0, 1, 0)]
def B_XR_readHead_52 : List Ent := [(52, .aload 0, 0, 0, 0), (53, .getfield 0, 16, 1, 2), (56, .ldc 0, 1, 0, 0), (59, .invokevirtual 0, 82, 2, 17), (62, .ifCond .eq 0, 94, 0, 0), (65, .aload 0, 0, 0, 0), (66, .getfield 0, 16, 1, 1), (69, .aload 0, 0, 0, 0), (70, .getfield 0, 16, 1, 2), (73, .iconst 0, 0, 0, 0), (74, .iconst 0, 0, 0, 2), (75, .invokevirtual 0, 84, 3, 17), (78, .putfield 0, 13, 0, 6), (81, .aload 0, 0, 0, 0), (82, .getfield 0, 16, 1, 1), (85, .getfield 0, 13, 0, 6), (88, .iconst 0, 0, 0, (-1)), (89, .if_icmp .ne 0, 94, 0, 0), (92, .iconst 0, 0, 0, 0), (93, .ireturn, 0, 1, 0)]
def B_XR_readHead_94 : List Ent := [(94, .aload 0, 0, 0, 0), (95, .getfield 0, 16, 1, 2), (98, .iconst 0, 0, 0, 59), (100, .invokevirtual 0, 83, 2, 17), (103, .ireturn, 0, 1, 0)]
def lb_XR_readHead : List (Nat × List Ent) := [(0, B_XR_readHead_0), (22, B_XR_readHead_22), (52, B_XR_readHead_52), (94, B_XR_readHead_94)]
def B_XR_readThings_0 : List Ent := [(0, .aload 0, 0, 0, 0), (1, .getfield 0, 16, 1, 2), (4, .ldc 0, 2, 0, 0), (7, .invokevirtual 0, 80, 2, 17), (10, .ifCond .ne 0, 22, 0, 0), (13, .aload 0, 0, 0, 0), (14, .getfield 0, 16, 1, 2), (17, .iconst 0, 0, 0, 1), (18, .invokevirtual 0, 79, 2, 17), (21, .ireturn, 0, 1, 0)]
def B_XR_readThings_22 : List Ent := [(22, .iconst 0, 0, 0, 0), (23, .istore 0, 1, 0, 0), (24, .goto_w 0, 24, 0, 0)]
def B_XR_readThings_24 : List Ent := [(24, .iload 0, 1, 0, 0), (25, .iconst 0, 0, 0, 10), (27, .if_icmp .ge 0, 58, 0, 0), (30, .aload 0, 0, 0, 0), (31, .getfield 0, 16, 1, 2), (34, .ldc 0, 2, 0, 0), (37, .invokevirtual 0, 80, 2, 17), (40, .ifCond .eq 0, 58, 0, 0), (43, .aload 0, 0, 0, 0), (44, .invokevirtual 0, 69, 1, 16), (47, .ifCond .ne 0, 52, 0, 0), (50, .iconst 0, 0, 0, 0), (51, .ireturn, 0, 1, 0)]
def B_XR_readThings_52 : List Ent := [(52, .iinc 0 0, 1, 0, 1), (55, .goto 0, 24, 0, 0)]
def B_XR_readThings_58 : List Ent := [(58, .aload 0, 0, 0, 0), (59, .getfield 0, 16, 1, 2), (62, .ldc 0, 2, 0, 0), (65, .invokevirtual 0, 80, 2, 17), (68, .ifCond .eq 0, 80, 0, 0), (71, .aload 0, 0, 0, 0), (72, .getfield 0, 16, 1, 2), (75, .iconst 0, 0, 0, 5), (76, .invokevirtual 0, 79, 2, 17), (79, .ireturn, 0, 1, 0)]
def B_XR_readThings_80 : List Ent := [(80, .aload 0, 0, 0, 0), (81, .getfield 0, 16, 1, 2), (84, .getfield 0, 17, 0, 3), (87, .iconst 0, 0, 0, 6), (89, .if_icmp .eq 0, 127, 0, 0), (92, .aload 0, 0, 0, 0), (93, .getfield 0, 16, 1, 2), (96, .ldc 0, 3, 0, 0), (99, .invokevirtual 0, 80, 2, 17), (102, .ifCond .ne 0, 127, 0, 0), (105, .aload 0, 0, 0, 0), (106, .getfield 0, 16, 1, 2), (109, .ldc 0, 4, 0, 0), (112, .invokevirtual 0, 80, 2, 17), (115, .ifCond .ne 0, 127, 0, 0), (118, .aload 0, 0, 0, 0), (119, .getfield 0, 16, 1, 2), (122, .iconst 0, 0, 0, 1), (123, .invokevirtual 0, 79, 2, 17), (126, .ireturn, 0, 1, 0)]
def B_XR_readThings_127 : List Ent := [(127, .aload 0, 0, 0, 0), (128, .getfield 0, 16, 1, 0), (131, .getfield 0, 10, 0, 3), (134, .aload 0, 0, 0, 0), (135, .getfield 0, 16, 1, 0), (138, .getfield 0, 10, 0, 4), (141, .if_icmp .gt 0, 154, 0, 0), (144, .aload 0, 0, 0, 0), (145, .getfield 0, 16, 1, 2), (148, .iconst 0, 0, 0, 6), (150, .invokevirtual 0, 79, 2, 17), (153, .ireturn, 0, 1, 0)]
def B_XR_readThings_154 : List Ent := [(154, .aload 0, 0, 0, 0), (155, .getfield 0, 16, 1, 0), (158, .invokevirtual 0, 13, 1, 10), (161, .iconst 0, 0, 0, 1), (162, .ireturn, 0, 1, 0)]
def lb_XR_readThings : List (Nat × List Ent) := [(0, B_XR_readThings_0), (22, B_XR_readThings_22), (24, B_XR_readThings_24), (52, B_XR_readThings_52), (58, B_XR_readThings_58), (80, B_XR_readThings_80), (127, B_XR_readThings_127), (154, B_XR_readThings_154)]
def B_XR_readThing_0 : List Ent := [(0, .aload 0, 0, 0, 0), (1, .getfield 0, 16, 1, 2), (4, .invokevirtual 0, 78, 1, 17), (7, .aload 0, 0, 0, 0), (8, .getfield 0, 16, 1, 2), (11, .getfield 0, 17, 0, 3), (14, .istore 0, 1, 0, 0), (15, .aload 0, 0, 0, 0), (16, .getfield 0, 16, 1, 2), (19, .getfield 0, 17, 0, 4), (22, .istore 0, 2, 0, 0), (23, .iload 0, 1, 0, 0), (24, .iconst 0, 0, 0, 1), (25, .if_icmp .eq 0, 42, 0, 0), (28, .iload 0, 1, 0, 0), (29, .iconst 0, 0, 0, 2), (30, .if_icmp .eq 0, 42, 0, 0), (33, .aload 0, 0, 0, 0), (34, .getfield 0, 16, 1, 2), (37, .iconst 0, 0, 0, 1), (38, .invokevirtual 0, 79, 2, 17), (41, .ireturn, 0, 1, 0)]
def B_XR_readThing_42 : List Ent := [(42, .iload 0, 1, 0, 0), (43, .iconst 0, 0, 0, 2), (44, .if_icmp .eq 0, 65, 0, 0), (47, .iload 0, 2, 0, 0), (48, .iconst 0, 0, 0, 1073741824), (50, .if_icmp .eq 0, 65, 0, 0), (53, .aload 0, 0, 0, 0), (54, .getfield 0, 16, 1, 0), (57, .iload 0, 2, 0, 0), (58, .invokevirtual 0, 12, 2, 10), (61, .iconst 0, 0, 0, (-1)), (62, .if_icmp .eq 0, 74, 0, 0), (65, .goto_w 0, 65, 0, 0)]
def B_XR_readThing_65 : List Ent := [(65, .aload 0, 0, 0, 0), (66, .getfield 0, 16, 1, 2), (69, .iconst 0, 0, 0, 3), (70, .invokevirtual 0, 79, 2, 17), (73, .ireturn, 0, 1, 0)]
def B_XR_readThing_74 : List Ent := [(74, .aload 0, 0, 0, 0), (75, .getfield 0, 16, 1, 2), (78, .invokevirtual 0, 78, 1, 17), (81, .aload 0, 0, 0, 0), (82, .getfield 0, 16, 1, 2), (85, .iconst 0, 0, 0, 0), (86, .iconst 0, 0, 0, 99), (88, .invokevirtual 0, 84, 3, 17), (91, .istore 0, 3, 0, 0), (92, .iload 0, 3, 0, 0), (93, .iconst 0, 0, 0, (-1)), (94, .if_icmp .eq 0, 109, 0, 0), (97, .aload 0, 0, 0, 0), (98, .getfield 0, 16, 1, 0), (101, .getfield 0, 10, 0, 3), (104, .iconst 0, 0, 0, 10), (106, .if_icmp .lt 0, 111, 0, 0), (109, .goto_w 0, 109, 0, 0)]
def B_XR_readThing_109 : List Ent := [(109, .iconst 0, 0, 0, 0), (110, .ireturn, 0, 1, 0)]
def B_XR_readThing_111 : List Ent := [(111, .aload 0, 0, 0, 0), (112, .getfield 0, 16, 1, 1), (115, .getfield 0, 13, 1, 0), (118, .aload 0, 0, 0, 0), (119, .getfield 0, 16, 1, 0), (122, .getfield 0, 10, 0, 3), (125, .iload 0, 3, 0, 0), (126, .iastore, 0, 0, 0), (127, .aload 0, 0, 0, 0), (128, .getfield 0, 16, 1, 0), (131, .iload 0, 2, 0, 0), (132, .invokevirtual 0, 11, 2, 10), (135, .aload 0, 0, 0, 0), (136, .getfield 0, 16, 1, 2), (139, .iconst 0, 0, 0, 59), (141, .invokevirtual 0, 83, 2, 17), (144, .ireturn, 0, 1, 0)]
def lb_XR_readThing : List (Nat × List Ent) := [(0, B_XR_readThing_0), (42, B_XR_readThing_42), (65, B_XR_readThing_65), (74, B_XR_readThing_74), (109, B_XR_readThing_109), (111, B_XR_readThing_111)]
def B_XR_opensRule_0 : List Ent := [(0, .aload 0, 0, 0, 0), (1, .getfield 0, 16, 1, 1), (4, .getfield 0, 13, 0, 4), (7, .iconst 0, 0, 0, 10), (9, .if_icmp .lt 0, 21, 0, 0), (12, .aload 0, 0, 0, 0), (13, .getfield 0, 16, 1, 2), (16, .iconst 0, 0, 0, 5), (17, .invokevirtual 0, 79, 2, 17), (20, .ireturn, 0, 1, 0)]
def B_XR_opensRule_21 : List Ent := [(21, .aload 0, 0, 0, 0), (22, .getfield 0, 16, 1, 2), (25, .invokevirtual 0, 78, 1, 17), (28, .iconst 0, 0, 0, 1), (29, .ireturn, 0, 1, 0)]
def lb_XR_opensRule : List (Nat × List Ent) := [(0, B_XR_opensRule_0), (21, B_XR_opensRule_21)]
def B_XR_readStrike_0 : List Ent := [(0, .aload 0, 0, 0, 0), (1, .getfield 0, 16, 1, 2), (4, .ldc 0, 4, 0, 0), (7, .invokevirtual 0, 82, 2, 17), (10, .ifCond .ne 0, 22, 0, 0), (13, .aload 0, 0, 0, 0), (14, .getfield 0, 16, 1, 2), (17, .iconst 0, 0, 0, 1), (18, .invokevirtual 0, 79, 2, 17), (21, .ireturn, 0, 1, 0)]
def B_XR_readStrike_22 : List Ent := [(22, .iconst 0, 0, 0, 0), (23, .istore 0, 1, 0, 0), (24, .iconst 0, 0, 0, 0), (25, .istore 0, 2, 0, 0), (26, .goto_w 0, 26, 0, 0)]
def B_XR_readStrike_26 : List Ent := [(26, .iload 0, 2, 0, 0), (27, .iconst 0, 0, 0, 10), (29, .if_icmp .gt 0, 76, 0, 0), (32, .iload 0, 2, 0, 0), (33, .ifCond .le 0, 51, 0, 0), (36, .aload 0, 0, 0, 0), (37, .getfield 0, 16, 1, 2), (40, .iconst 0, 0, 0, 59), (42, .invokevirtual 0, 81, 2, 17), (45, .ifCond .eq 0, 51, 0, 0), (48, .goto 0, 76, 0, 0)]
def B_XR_readStrike_51 : List Ent := [(51, .aload 0, 0, 0, 0), (52, .iload 0, 1, 0, 0), (53, .invokevirtual 0, 72, 2, 16), (56, .istore 0, 3, 0, 0), (57, .iload 0, 3, 0, 0), (58, .iconst 0, 0, 0, (-1)), (59, .if_icmp .ne 0, 64, 0, 0), (62, .iconst 0, 0, 0, 0), (63, .ireturn, 0, 1, 0)]
def B_XR_readStrike_64 : List Ent := [(64, .iload 0, 1, 0, 0), (65, .iconst 0, 0, 0, 1), (66, .iload 0, 3, 0, 0), (67, .ishl, 0, 0, 0), (68, .ior, 0, 0, 0), (69, .istore 0, 1, 0, 0), (70, .iinc 0 0, 2, 0, 1), (73, .goto 0, 26, 0, 0)]
def B_XR_readStrike_76 : List Ent := [(76, .aload 0, 0, 0, 0), (77, .getfield 0, 16, 1, 0), (80, .iload 0, 1, 0, 0), (81, .invokevirtual 0, 16, 2, 10), (84, .istore 0, 2, 0, 0), (85, .iload 0, 2, 0, 0), (86, .iconst 0, 0, 0, (-1)), (87, .if_icmp .eq 0, 102, 0, 0), (90, .aload 0, 0, 0, 0), (91, .getfield 0, 16, 1, 1), (94, .getfield 0, 13, 1, 1), (97, .iload 0, 2, 0, 0), (98, .baload, 0, 0, 0), (99, .ifCond .eq 0, 112, 0, 0), (102, .goto_w 0, 102, 0, 0)]
def B_XR_readStrike_102 : List Ent := [(102, .aload 0, 0, 0, 0), (103, .getfield 0, 16, 1, 2), (106, .iconst 0, 0, 0, 6), (108, .invokevirtual 0, 79, 2, 17), (111, .ireturn, 0, 1, 0)]
def B_XR_readStrike_112 : List Ent := [(112, .aload 0, 0, 0, 0), (113, .getfield 0, 16, 1, 1), (116, .getfield 0, 13, 1, 1), (119, .iload 0, 2, 0, 0), (120, .iconst 0, 0, 0, 1), (121, .bastore, 0, 0, 0), (122, .aload 0, 0, 0, 0), (123, .getfield 0, 16, 1, 2), (126, .iconst 0, 0, 0, 59), (128, .invokevirtual 0, 83, 2, 17), (131, .ireturn, 0, 1, 0)]
def lb_XR_readStrike : List (Nat × List Ent) := [(0, B_XR_readStrike_0), (22, B_XR_readStrike_22), (26, B_XR_readStrike_26), (51, B_XR_readStrike_51), (64, B_XR_readStrike_64), (76, B_XR_readStrike_76), (102, B_XR_readStrike_102), (112, B_XR_readStrike_112)]
def B_XR_takeStruck_0 : List Ent := [(0, .aload 0, 0, 0, 0), (1, .getfield 0, 16, 1, 2), (4, .getfield 0, 17, 0, 3), (7, .istore 0, 2, 0, 0), (8, .iload 0, 2, 0, 0), (9, .iconst 0, 0, 0, 1), (10, .if_icmp .eq 0, 29, 0, 0), (13, .iload 0, 2, 0, 0), (14, .iconst 0, 0, 0, 2), (15, .if_icmp .eq 0, 29, 0, 0), (18, .aload 0, 0, 0, 0), (19, .getfield 0, 16, 1, 2), (22, .iconst 0, 0, 0, 1), (23, .invokevirtual 0, 79, 2, 17), (26, .pop, 0, 0, 0), (27, .iconst 0, 0, 0, (-1)), (28, .ireturn, 0, 0, 0)]
def B_XR_takeStruck_29 : List Ent := [(29, .aload 0, 0, 0, 0), (30, .getfield 0, 16, 1, 0), (33, .aload 0, 0, 0, 0), (34, .getfield 0, 16, 1, 2), (37, .getfield 0, 17, 0, 4), (40, .invokevirtual 0, 12, 2, 10), (43, .istore 0, 3, 0, 0), (44, .iload 0, 3, 0, 0), (45, .iconst 0, 0, 0, (-1)), (46, .if_icmp .eq 0, 57, 0, 0), (49, .iload 0, 1, 0, 0), (50, .iload 0, 3, 0, 0), (51, .ishr, 0, 0, 0), (52, .iconst 0, 0, 0, 1), (53, .iand, 0, 0, 0), (54, .ifCond .eq 0, 68, 0, 0), (57, .goto_w 0, 57, 0, 0)]
def B_XR_takeStruck_57 : List Ent := [(57, .aload 0, 0, 0, 0), (58, .getfield 0, 16, 1, 2), (61, .iconst 0, 0, 0, 4), (62, .invokevirtual 0, 79, 2, 17), (65, .pop, 0, 0, 0), (66, .iconst 0, 0, 0, (-1)), (67, .ireturn, 0, 0, 0)]
def B_XR_takeStruck_68 : List Ent := [(68, .iload 0, 1, 0, 0), (69, .invokestatic 0, 0, 1, 0), (72, .aload 0, 0, 0, 0), (73, .getfield 0, 16, 1, 0), (76, .getfield 0, 10, 0, 4), (79, .if_icmp .lt 0, 93, 0, 0), (82, .aload 0, 0, 0, 0), (83, .getfield 0, 16, 1, 2), (86, .iconst 0, 0, 0, 5), (87, .invokevirtual 0, 79, 2, 17), (90, .pop, 0, 0, 0), (91, .iconst 0, 0, 0, (-1)), (92, .ireturn, 0, 0, 0)]
def B_XR_takeStruck_93 : List Ent := [(93, .aload 0, 0, 0, 0), (94, .getfield 0, 16, 1, 2), (97, .invokevirtual 0, 78, 1, 17), (100, .iload 0, 3, 0, 0), (101, .ireturn, 0, 0, 0)]
def lb_XR_takeStruck : List (Nat × List Ent) := [(0, B_XR_takeStruck_0), (29, B_XR_takeStruck_29), (57, B_XR_takeStruck_57), (68, B_XR_takeStruck_68), (93, B_XR_takeStruck_93)]
def B_Tk_init_0 : List Ent := [(0, .aload 0, 0, 0, 0), (1, .checkcast 0, 0, 0, 0), (4, .aload 0, 0, 0, 0), (5, .iconst 0, 0, 0, 0), (6, .putfield 0, 17, 0, 0), (9, .aload 0, 0, 0, 0), (10, .iconst 0, 0, 0, (-1)), (11, .putfield 0, 17, 0, 1), (14, .aload 0, 0, 0, 0), (15, .iconst 0, 0, 0, 0), (16, .putfield 0, 17, 0, 2), (19, .aload 0, 0, 0, 0), (20, .iconst 0, 0, 0, 6), (22, .putfield 0, 17, 0, 3), (25, .aload 0, 0, 0, 0), (26, .iconst 0, 0, 0, 0), (27, .putfield 0, 17, 0, 4), (30, .aload 0, 0, 0, 0), (31, .iconst 0, 0, 0, 801), (34, .newarray .int, 0, 0, 0), (36, .putfield 0, 17, 1, 5), (39, .aload 0, 0, 0, 0), (40, .iconst 0, 0, 0, 801), (43, .newarray .int, 0, 0, 0), (45, .putfield 0, 17, 1, 6), (48, .aload 0, 0, 0, 0), (49, .iconst 0, 0, 0, 801), (52, .newarray .int, 0, 0, 0), (54, .putfield 0, 17, 1, 7), (57, .aload 0, 0, 0, 0), (58, .iconst 0, 0, 0, 0), (59, .putfield 0, 17, 0, 8), (62, .return_, 0, 0, 0)]
def lb_Tk_init : List (Nat × List Ent) := [(0, B_Tk_init_0)]
def B_Tk_split_0 : List Ent := [(0, .aload 0, 0, 0, 0), (1, .iconst 0, 0, 0, 0), (2, .putfield 0, 17, 0, 0), (5, .aload 0, 0, 0, 0), (6, .iconst 0, 0, 0, (-1)), (7, .putfield 0, 17, 0, 1), (10, .aload 0, 0, 0, 0), (11, .iconst 0, 0, 0, (-1)), (12, .putfield 0, 17, 0, 2), (15, .aload 0, 0, 0, 0), (16, .iconst 0, 0, 0, 0), (17, .putfield 0, 17, 0, 8), (20, .iconst 0, 0, 0, 0), (21, .istore 0, 3, 0, 0), (22, .iconst 0, 0, 0, 0), (23, .istore 0, 4, 0, 0), (25, .goto_w 0, 25, 0, 0)]
def B_Tk_split_25 : List Ent := [(25, .iload 0, 4, 0, 0), (27, .iload 0, 2, 0, 0), (28, .if_icmp .ge 0, 108, 0, 0), (31, .iload 0, 4, 0, 0), (33, .iconst 0, 0, 0, 800), (36, .if_icmp .ge 0, 108, 0, 0), (39, .iload 0, 4, 0, 0), (41, .aload 0, 1, 0, 0), (42, .arraylength, 0, 0, 0), (43, .if_icmp .ge 0, 108, 0, 0), (46, .aload 0, 1, 0, 0), (47, .iload 0, 4, 0, 0), (49, .baload, 0, 0, 0), (50, .invokestatic 0, 75, 1, 0), (53, .istore 0, 5, 0, 0), (55, .iload 0, 5, 0, 0), (57, .iload 0, 3, 0, 0), (58, .if_icmp .ne 0, 77, 0, 0), (61, .iload 0, 5, 0, 0), (63, .iconst 0, 0, 0, 1), (64, .if_icmp .eq 0, 73, 0, 0), (67, .iload 0, 5, 0, 0), (69, .iconst 0, 0, 0, 3), (70, .if_icmp .ne 0, 77, 0, 0), (73, .goto_w 0, 73, 0, 0)]
def B_Tk_split_73 : List Ent := [(73, .iconst 0, 0, 0, 1), (74, .goto 0, 78, 0, 0)]
def B_Tk_split_77 : List Ent := [(77, .iconst 0, 0, 0, 0), (78, .goto_w 0, 78, 0, 0)]
def B_Tk_split_78 : List Ent := [(78, .istore 0, 6, 0, 0), (80, .iload 0, 5, 0, 0), (82, .ifCond .eq 0, 99, 0, 0), (85, .aload 0, 0, 0, 0), (86, .iload 0, 5, 0, 0), (88, .iload 0, 4, 0, 0), (90, .aload 0, 1, 0, 0), (91, .iload 0, 4, 0, 0), (93, .baload, 0, 0, 0), (94, .iload 0, 6, 0, 0), (96, .invokevirtual 0, 76, 5, 17), (99, .goto_w 0, 99, 0, 0)]
def B_Tk_split_99 : List Ent := [(99, .iload 0, 5, 0, 0), (101, .istore 0, 3, 0, 0), (102, .iinc 0 0, 4, 0, 1), (105, .goto 0, 25, 0, 0)]
def B_Tk_split_108 : List Ent := [(108, .aload 0, 0, 0, 0), (109, .iconst 0, 0, 0, 6), (111, .iload 0, 2, 0, 0), (112, .iconst 0, 0, 0, 0), (113, .iconst 0, 0, 0, 0), (114, .invokevirtual 0, 76, 5, 17), (117, .aload 0, 0, 0, 0), (118, .invokevirtual 0, 77, 1, 17), (121, .aload 0, 0, 0, 0), (122, .invokevirtual 0, 78, 1, 17), (125, .return_, 0, 0, 0)]
def lb_Tk_split : List (Nat × List Ent) := [(0, B_Tk_split_0), (25, B_Tk_split_25), (73, B_Tk_split_73), (77, B_Tk_split_77), (78, B_Tk_split_78), (99, B_Tk_split_99), (108, B_Tk_split_108)]
def B_Tk_kindOf_0 : List Ent := [(0, .iload 0, 0, 0, 0), (1, .iconst 0, 0, 0, 32), (3, .if_icmp .eq 0, 12, 0, 0), (6, .iload 0, 0, 0, 0), (7, .iconst 0, 0, 0, 10), (9, .if_icmp .ne 0, 14, 0, 0), (12, .goto_w 0, 12, 0, 0)]
def B_Tk_kindOf_12 : List Ent := [(12, .iconst 0, 0, 0, 0), (13, .ireturn, 0, 0, 0)]
def B_Tk_kindOf_14 : List Ent := [(14, .iload 0, 0, 0, 0), (15, .iconst 0, 0, 0, 97), (17, .if_icmp .lt 0, 28, 0, 0), (20, .iload 0, 0, 0, 0), (21, .iconst 0, 0, 0, 122), (23, .if_icmp .gt 0, 28, 0, 0), (26, .iconst 0, 0, 0, 1), (27, .ireturn, 0, 0, 0)]
def B_Tk_kindOf_28 : List Ent := [(28, .iload 0, 0, 0, 0), (29, .iconst 0, 0, 0, 48), (31, .if_icmp .lt 0, 42, 0, 0), (34, .iload 0, 0, 0, 0), (35, .iconst 0, 0, 0, 57), (37, .if_icmp .gt 0, 42, 0, 0), (40, .iconst 0, 0, 0, 3), (41, .ireturn, 0, 0, 0)]
def B_Tk_kindOf_42 : List Ent := [(42, .iload 0, 0, 0, 0), (43, .iconst 0, 0, 0, 59), (45, .if_icmp .eq 0, 78, 0, 0), (48, .iload 0, 0, 0, 0), (49, .iconst 0, 0, 0, 40), (51, .if_icmp .eq 0, 78, 0, 0), (54, .iload 0, 0, 0, 0), (55, .iconst 0, 0, 0, 41), (57, .if_icmp .eq 0, 78, 0, 0), (60, .iload 0, 0, 0, 0), (61, .iconst 0, 0, 0, 60), (63, .if_icmp .eq 0, 78, 0, 0), (66, .iload 0, 0, 0, 0), (67, .iconst 0, 0, 0, 61), (69, .if_icmp .eq 0, 78, 0, 0), (72, .iload 0, 0, 0, 0), (73, .iconst 0, 0, 0, 62), (75, .if_icmp .ne 0, 82, 0, 0), (78, .goto_w 0, 78, 0, 0)]
def B_Tk_kindOf_78 : List Ent := [(78, .iconst 0, 0, 0, 1), (79, .goto 0, 83, 0, 0)]
def B_Tk_kindOf_82 : List Ent := [(82, .iconst 0, 0, 0, 0), (83, .goto_w 0, 83, 0, 0)]
def B_Tk_kindOf_83 : List Ent := [(83, .istore 0, 1, 0, 0), (84, .iload 0, 1, 0, 0), (85, .ifCond .eq 0, 92, 0, 0), (88, .iconst 0, 0, 0, 4), (89, .goto 0, 93, 0, 0)]
def B_Tk_kindOf_92 : List Ent := [(92, .iconst 0, 0, 0, 5), (93, .goto_w 0, 93, 0, 0)]
def B_Tk_kindOf_93 : List Ent := [(93, .ireturn, 0, 0, 0)]
def lb_Tk_kindOf : List (Nat × List Ent) := [(0, B_Tk_kindOf_0), (12, B_Tk_kindOf_12), (14, B_Tk_kindOf_14), (28, B_Tk_kindOf_28), (42, B_Tk_kindOf_42), (78, B_Tk_kindOf_78), (82, B_Tk_kindOf_82), (83, B_Tk_kindOf_83), (92, B_Tk_kindOf_92), (93, B_Tk_kindOf_93)]
def B_Tk_put_0 : List Ent := [(0, .iload 0, 4, 0, 0), (2, .ifCond .ne 0, 66, 0, 0), (5, .aload 0, 0, 0, 0), (6, .getfield 0, 17, 0, 8), (9, .aload 0, 0, 0, 0), (10, .getfield 0, 17, 1, 5), (13, .arraylength, 0, 0, 0), (14, .if_icmp .ge 0, 66, 0, 0), (17, .aload 0, 0, 0, 0), (18, .getfield 0, 17, 1, 5), (21, .aload 0, 0, 0, 0), (22, .getfield 0, 17, 0, 8), (25, .iload 0, 1, 0, 0), (26, .iastore, 0, 0, 0), (27, .aload 0, 0, 0, 0), (28, .getfield 0, 17, 1, 6), (31, .aload 0, 0, 0, 0), (32, .getfield 0, 17, 0, 8), (35, .iload 0, 2, 0, 0), (36, .iastore, 0, 0, 0), (37, .aload 0, 0, 0, 0), (38, .getfield 0, 17, 1, 7), (41, .aload 0, 0, 0, 0), (42, .getfield 0, 17, 0, 8), (45, .iload 0, 1, 0, 0), (46, .iconst 0, 0, 0, 4), (47, .if_icmp .ne 0, 54, 0, 0), (50, .iload 0, 3, 0, 0), (51, .goto 0, 55, 0, 0)]
def B_Tk_put_54 : List Ent := [(54, .iconst 0, 0, 0, 0), (55, .goto_w 0, 55, 0, 0)]
def B_Tk_put_55 : List Ent := [(55, .iastore, 0, 0, 0), (56, .aload 0, 0, 0, 0), (57, .dup, 0, 0, 0), (58, .getfield 0, 17, 0, 8), (61, .iconst 0, 0, 0, 1), (62, .iadd, 0, 0, 0), (63, .putfield 0, 17, 0, 8), (66, .goto_w 0, 66, 0, 0)]
def B_Tk_put_66 : List Ent := [(66, .aload 0, 0, 0, 0), (67, .getfield 0, 17, 0, 8), (70, .iconst 0, 0, 0, 1), (71, .isub, 0, 0, 0), (72, .istore 0, 5, 0, 0), (74, .iload 0, 5, 0, 0), (76, .ifCond .ge 0, 80, 0, 0), (79, .return_, 0, 0, 0)]
def B_Tk_put_80 : List Ent := [(80, .iload 0, 1, 0, 0), (81, .iconst 0, 0, 0, 1), (82, .if_icmp .ne 0, 106, 0, 0), (85, .aload 0, 0, 0, 0), (86, .getfield 0, 17, 1, 7), (89, .iload 0, 5, 0, 0), (91, .aload 0, 0, 0, 0), (92, .getfield 0, 17, 1, 7), (95, .iload 0, 5, 0, 0), (97, .iaload, 0, 0, 0), (98, .iload 0, 3, 0, 0), (99, .invokestatic 0, 112, 2, 0), (102, .iastore, 0, 0, 0), (103, .goto 0, 139, 0, 0)]
def B_Tk_put_106 : List Ent := [(106, .iload 0, 1, 0, 0), (107, .iconst 0, 0, 0, 3), (108, .if_icmp .ne 0, 139, 0, 0), (111, .aload 0, 0, 0, 0), (112, .getfield 0, 17, 1, 7), (115, .iload 0, 5, 0, 0), (117, .aload 0, 0, 0, 0), (118, .getfield 0, 17, 1, 7), (121, .iload 0, 5, 0, 0), (123, .iaload, 0, 0, 0), (124, .iconst 0, 0, 0, 10), (126, .imul, 0, 0, 0), (127, .iload 0, 3, 0, 0), (128, .iadd, 0, 0, 0), (129, .iconst 0, 0, 0, 48), (131, .isub, 0, 0, 0), (132, .iconst 0, 0, 0, 10000), (135, .ladd, 0, 0, 0), (138, .iastore, 0, 0, 0), (139, .goto_w 0, 139, 0, 0)]
def B_Tk_put_139 : List Ent := [(139, .return_, 0, 0, 0)]
def lb_Tk_put : List (Nat × List Ent) := [(0, B_Tk_put_0), (54, B_Tk_put_54), (55, B_Tk_put_55), (66, B_Tk_put_66), (80, B_Tk_put_80), (106, B_Tk_put_106), (139, B_Tk_put_139)]
def B_Tk_markKeywords_0 : List Ent := [(0, .iconst 0, 0, 0, 0), (1, .istore 0, 1, 0, 0), (2, .goto_w 0, 2, 0, 0)]
def B_Tk_markKeywords_2 : List Ent := [(2, .iload 0, 1, 0, 0), (3, .aload 0, 0, 0, 0), (4, .getfield 0, 17, 0, 8), (7, .if_icmp .ge 0, 45, 0, 0), (10, .aload 0, 0, 0, 0), (11, .getfield 0, 17, 1, 5), (14, .iload 0, 1, 0, 0), (15, .iaload, 0, 0, 0), (16, .iconst 0, 0, 0, 1), (17, .if_icmp .ne 0, 39, 0, 0), (20, .aload 0, 0, 0, 0), (21, .getfield 0, 17, 1, 7), (24, .iload 0, 1, 0, 0), (25, .iaload, 0, 0, 0), (26, .invokestatic 0, 113, 1, 0), (29, .ifCond .eq 0, 39, 0, 0), (32, .aload 0, 0, 0, 0), (33, .getfield 0, 17, 1, 5), (36, .iload 0, 1, 0, 0), (37, .iconst 0, 0, 0, 2), (38, .iastore, 0, 0, 0), (39, .goto_w 0, 39, 0, 0)]
def B_Tk_markKeywords_39 : List Ent := [(39, .iinc 0 0, 1, 0, 1), (42, .goto 0, 2, 0, 0)]
def B_Tk_markKeywords_45 : List Ent := [(45, .return_, 0, 0, 0)]
def lb_Tk_markKeywords : List (Nat × List Ent) := [(0, B_Tk_markKeywords_0), (2, B_Tk_markKeywords_2), (39, B_Tk_markKeywords_39), (45, B_Tk_markKeywords_45)]
def B_Tk_pass_0 : List Ent := [(0, .aload 0, 0, 0, 0), (1, .dup, 0, 0, 0), (2, .getfield 0, 17, 0, 2), (5, .iconst 0, 0, 0, 1), (6, .iadd, 0, 0, 0), (7, .putfield 0, 17, 0, 2), (10, .aload 0, 0, 0, 0), (11, .getfield 0, 17, 0, 2), (14, .ifCond .lt 0, 32, 0, 0), (17, .aload 0, 0, 0, 0), (18, .getfield 0, 17, 0, 2), (21, .aload 0, 0, 0, 0), (22, .getfield 0, 17, 0, 8), (25, .if_icmp .ge 0, 32, 0, 0), (28, .iconst 0, 0, 0, 1), (29, .goto 0, 33, 0, 0)]
def B_Tk_pass_32 : List Ent := [(32, .iconst 0, 0, 0, 0), (33, .goto_w 0, 33, 0, 0)]
def B_Tk_pass_33 : List Ent := [(33, .istore 0, 1, 0, 0), (34, .aload 0, 0, 0, 0), (35, .iload 0, 1, 0, 0), (36, .ifCond .eq 0, 51, 0, 0), (39, .aload 0, 0, 0, 0), (40, .getfield 0, 17, 1, 5), (43, .aload 0, 0, 0, 0), (44, .getfield 0, 17, 0, 2), (47, .iaload, 0, 0, 0), (48, .goto 0, 53, 0, 0)]
def B_Tk_pass_51 : List Ent := [(51, .iconst 0, 0, 0, 6), (53, .goto_w 0, 53, 0, 0)]
def B_Tk_pass_53 : List Ent := [(53, .putfield 0, 17, 0, 3), (56, .aload 0, 0, 0, 0), (57, .iload 0, 1, 0, 0), (58, .ifCond .eq 0, 73, 0, 0), (61, .aload 0, 0, 0, 0), (62, .getfield 0, 17, 1, 7), (65, .aload 0, 0, 0, 0), (66, .getfield 0, 17, 0, 2), (69, .iaload, 0, 0, 0), (70, .goto 0, 74, 0, 0)]
def B_Tk_pass_73 : List Ent := [(73, .iconst 0, 0, 0, 0), (74, .goto_w 0, 74, 0, 0)]
def B_Tk_pass_74 : List Ent := [(74, .putfield 0, 17, 0, 4), (77, .return_, 0, 0, 0)]
def lb_Tk_pass : List (Nat × List Ent) := [(0, B_Tk_pass_0), (32, B_Tk_pass_32), (33, B_Tk_pass_33), (51, B_Tk_pass_51), (53, B_Tk_pass_53), (73, B_Tk_pass_73), (74, B_Tk_pass_74)]
def B_Tk_fail_0 : List Ent := [(0, .aload 0, 0, 0, 0), (1, .iload 0, 1, 0, 0), (2, .putfield 0, 17, 0, 0), (5, .aload 0, 0, 0, 0), (6, .aload 0, 0, 0, 0), (7, .getfield 0, 17, 0, 2), (10, .ifCond .lt 0, 36, 0, 0), (13, .aload 0, 0, 0, 0), (14, .getfield 0, 17, 0, 2), (17, .aload 0, 0, 0, 0), (18, .getfield 0, 17, 0, 8), (21, .if_icmp .ge 0, 36, 0, 0), (24, .aload 0, 0, 0, 0), (25, .getfield 0, 17, 1, 6), (28, .aload 0, 0, 0, 0), (29, .getfield 0, 17, 0, 2), (32, .iaload, 0, 0, 0), (33, .goto 0, 37, 0, 0)]
def B_Tk_fail_36 : List Ent := [(36, .iconst 0, 0, 0, 0), (37, .goto_w 0, 37, 0, 0)]
def B_Tk_fail_37 : List Ent := [(37, .putfield 0, 17, 0, 1), (40, .iconst 0, 0, 0, 0), (41, .ireturn, 0, 1, 0)]
def lb_Tk_fail : List (Nat × List Ent) := [(0, B_Tk_fail_0), (36, B_Tk_fail_36), (37, B_Tk_fail_37)]
def B_Tk_isWord_0 : List Ent := [(0, .aload 0, 0, 0, 0), (1, .getfield 0, 17, 0, 3), (4, .iconst 0, 0, 0, 2), (5, .if_icmp .ne 0, 23, 0, 0), (8, .aload 0, 0, 0, 0), (9, .getfield 0, 17, 0, 4), (12, .aload 0, 1, 0, 0), (13, .getfield 0, 23, 0, 0), (16, .if_icmp .ne 0, 23, 0, 0), (19, .iconst 0, 0, 0, 1), (20, .goto 0, 24, 0, 0)]
def B_Tk_isWord_23 : List Ent := [(23, .iconst 0, 0, 0, 0), (24, .goto_w 0, 24, 0, 0)]
def B_Tk_isWord_24 : List Ent := [(24, .ireturn, 0, 1, 0)]
def lb_Tk_isWord : List (Nat × List Ent) := [(0, B_Tk_isWord_0), (23, B_Tk_isWord_23), (24, B_Tk_isWord_24)]
def B_Tk_isSign_0 : List Ent := [(0, .aload 0, 0, 0, 0), (1, .getfield 0, 17, 0, 3), (4, .iconst 0, 0, 0, 4), (5, .if_icmp .ne 0, 20, 0, 0), (8, .aload 0, 0, 0, 0), (9, .getfield 0, 17, 0, 4), (12, .iload 0, 1, 0, 0), (13, .if_icmp .ne 0, 20, 0, 0), (16, .iconst 0, 0, 0, 1), (17, .goto 0, 21, 0, 0)]
def B_Tk_isSign_20 : List Ent := [(20, .iconst 0, 0, 0, 0), (21, .goto_w 0, 21, 0, 0)]
def B_Tk_isSign_21 : List Ent := [(21, .ireturn, 0, 1, 0)]
def lb_Tk_isSign : List (Nat × List Ent) := [(0, B_Tk_isSign_0), (20, B_Tk_isSign_20), (21, B_Tk_isSign_21)]
def B_Tk_skipsWord_0 : List Ent := [(0, .aload 0, 0, 0, 0), (1, .aload 0, 1, 0, 0), (2, .invokevirtual 0, 80, 2, 17), (5, .ifCond .ne 0, 10, 0, 0), (8, .iconst 0, 0, 0, 0), (9, .ireturn, 0, 1, 0)]
def B_Tk_skipsWord_10 : List Ent := [(10, .aload 0, 0, 0, 0), (11, .invokevirtual 0, 78, 1, 17), (14, .iconst 0, 0, 0, 1), (15, .ireturn, 0, 1, 0)]
def lb_Tk_skipsWord : List (Nat × List Ent) := [(0, B_Tk_skipsWord_0), (10, B_Tk_skipsWord_10)]
def B_Tk_needsSign_0 : List Ent := [(0, .aload 0, 0, 0, 0), (1, .iload 0, 1, 0, 0), (2, .invokevirtual 0, 81, 2, 17), (5, .ifCond .ne 0, 14, 0, 0), (8, .aload 0, 0, 0, 0), (9, .iconst 0, 0, 0, 1), (10, .invokevirtual 0, 79, 2, 17), (13, .ireturn, 0, 1, 0)]
def B_Tk_needsSign_14 : List Ent := [(14, .aload 0, 0, 0, 0), (15, .invokevirtual 0, 78, 1, 17), (18, .iconst 0, 0, 0, 1), (19, .ireturn, 0, 1, 0)]
def lb_Tk_needsSign : List (Nat × List Ent) := [(0, B_Tk_needsSign_0), (14, B_Tk_needsSign_14)]
def B_Tk_takeNumber_0 : List Ent := [(0, .aload 0, 0, 0, 0), (1, .getfield 0, 17, 0, 4), (4, .istore 0, 3, 0, 0), (5, .aload 0, 0, 0, 0), (6, .getfield 0, 17, 0, 3), (9, .iconst 0, 0, 0, 3), (10, .if_icmp .eq 0, 21, 0, 0), (13, .aload 0, 0, 0, 0), (14, .iconst 0, 0, 0, 1), (15, .invokevirtual 0, 79, 2, 17), (18, .pop, 0, 0, 0), (19, .iconst 0, 0, 0, (-1)), (20, .ireturn, 0, 0, 0)]
def B_Tk_takeNumber_21 : List Ent := [(21, .iload 0, 3, 0, 0), (22, .iload 0, 1, 0, 0), (23, .if_icmp .lt 0, 31, 0, 0), (26, .iload 0, 3, 0, 0), (27, .iload 0, 2, 0, 0), (28, .if_icmp .le 0, 39, 0, 0), (31, .goto_w 0, 31, 0, 0)]
def B_Tk_takeNumber_31 : List Ent := [(31, .aload 0, 0, 0, 0), (32, .iconst 0, 0, 0, 2), (33, .invokevirtual 0, 79, 2, 17), (36, .pop, 0, 0, 0), (37, .iconst 0, 0, 0, (-1)), (38, .ireturn, 0, 0, 0)]
def B_Tk_takeNumber_39 : List Ent := [(39, .aload 0, 0, 0, 0), (40, .invokevirtual 0, 78, 1, 17), (43, .iload 0, 3, 0, 0), (44, .ireturn, 0, 0, 0)]
def lb_Tk_takeNumber : List (Nat × List Ent) := [(0, B_Tk_takeNumber_0), (21, B_Tk_takeNumber_21), (31, B_Tk_takeNumber_31), (39, B_Tk_takeNumber_39)]
def B_Wk_init_0 : List Ent := [(0, .aload 0, 0, 0, 0), (1, .checkcast 0, 0, 0, 0), (4, .aload 0, 0, 0, 0), (5, .iconst 0, 0, 0, 252), (8, .newarray .int, 0, 0, 0), (10, .putfield 0, 18, 1, 0), (13, .aload 0, 0, 0, 0), (14, .iconst 0, 0, 0, 0), (15, .putfield 0, 18, 0, 1), (18, .aload 0, 0, 0, 0), (19, .iconst 0, 0, 0, (-1)), (20, .putfield 0, 18, 0, 2), (23, .aload 0, 0, 0, 0), (24, .iconst 0, 0, 0, 0), (25, .putfield 0, 18, 0, 3), (28, .aload 0, 0, 0, 0), (29, .aload 0, 1, 0, 0), (30, .putfield 0, 18, 1, 4), (33, .aload 0, 0, 0, 0), (34, .aload 0, 2, 0, 0), (35, .putfield 0, 18, 1, 5), (38, .aload 0, 0, 0, 0), (39, .aload 0, 3, 0, 0), (40, .putfield 0, 18, 1, 6), (43, .return_, 0, 0, 0)]
def lb_Wk_init : List (Nat × List Ent) := [(0, B_Wk_init_0)]
def B_Wk_begin_0 : List Ent := [(0, .aload 0, 0, 0, 0), (1, .aload 0, 0, 0, 0), (2, .getfield 0, 18, 1, 5), (5, .invokevirtual 0, 40, 1, 13), (8, .putfield 0, 18, 0, 2), (11, .aload 0, 0, 0, 0), (12, .iconst 0, 0, 0, 0), (13, .putfield 0, 18, 0, 3), (16, .aload 0, 0, 0, 0), (17, .iconst 0, 0, 0, 0), (18, .putfield 0, 18, 0, 1), (21, .iconst 0, 0, 0, 0), (22, .istore 0, 1, 0, 0), (23, .goto_w 0, 23, 0, 0)]
def B_Wk_begin_23 : List Ent := [(23, .iload 0, 1, 0, 0), (24, .aload 0, 0, 0, 0), (25, .getfield 0, 18, 1, 4), (28, .getfield 0, 10, 0, 5), (31, .if_icmp .ge 0, 85, 0, 0), (34, .aload 0, 0, 0, 0), (35, .getfield 0, 18, 1, 6), (38, .getfield 0, 12, 1, 3), (41, .iload 0, 1, 0, 0), (42, .baload, 0, 0, 0), (43, .ifCond .eq 0, 79, 0, 0), (46, .aload 0, 0, 0, 0), (47, .getfield 0, 18, 1, 6), (50, .getfield 0, 12, 1, 2), (53, .iload 0, 1, 0, 0), (54, .iaload, 0, 0, 0), (55, .iconst 0, 0, 0, (-1)), (56, .if_icmp .ne 0, 79, 0, 0), (59, .aload 0, 0, 0, 0), (60, .getfield 0, 18, 1, 0), (63, .aload 0, 0, 0, 0), (64, .getfield 0, 18, 0, 1), (67, .iload 0, 1, 0, 0), (68, .iastore, 0, 0, 0), (69, .aload 0, 0, 0, 0), (70, .dup, 0, 0, 0), (71, .getfield 0, 18, 0, 1), (74, .iconst 0, 0, 0, 1), (75, .iadd, 0, 0, 0), (76, .putfield 0, 18, 0, 1), (79, .goto_w 0, 79, 0, 0)]
def B_Wk_begin_79 : List Ent := [(79, .iinc 0 0, 1, 0, 1), (82, .goto 0, 23, 0, 0)]
def B_Wk_begin_85 : List Ent := [(85, .return_, 0, 0, 0)]
def lb_Wk_begin : List (Nat × List Ent) := [(0, B_Wk_begin_0), (23, B_Wk_begin_23), (79, B_Wk_begin_79), (85, B_Wk_begin_85)]
def B_Wk_comes_0 : List Ent := [(0, .aload 0, 0, 0, 0), (1, .invokevirtual 0, 86, 1, 18), (4, .aload 0, 0, 0, 0), (5, .iload 0, 1, 0, 0), (6, .invokevirtual 0, 90, 2, 18), (9, .ireturn, 0, 0, 0)]
def lb_Wk_comes : List (Nat × List Ent) := [(0, B_Wk_comes_0)]
def B_Wk_swapsBy_0 : List Ent := [(0, .aload 0, 0, 0, 0), (1, .invokevirtual 0, 86, 1, 18), (4, .aload 0, 0, 0, 0), (5, .iload 0, 1, 0, 0), (6, .aload 0, 0, 0, 0), (7, .getfield 0, 18, 0, 1), (10, .invokevirtual 0, 89, 3, 18), (13, .aload 0, 0, 0, 0), (14, .getfield 0, 18, 0, 3), (17, .ireturn, 0, 0, 0)]
def lb_Wk_swapsBy : List (Nat × List Ent) := [(0, B_Wk_swapsBy_0)]
def B_Wk_go_0 : List Ent := [(0, .iconst 0, 0, 0, 0), (1, .istore 0, 3, 0, 0), (2, .goto_w 0, 2, 0, 0)]
def B_Wk_go_2 : List Ent := [(2, .iload 0, 3, 0, 0), (3, .iload 0, 2, 0, 0), (4, .if_icmp .ge 0, 30, 0, 0), (7, .aload 0, 0, 0, 0), (8, .getfield 0, 18, 0, 1), (11, .ifCond .le 0, 30, 0, 0), (14, .aload 0, 0, 0, 0), (15, .aload 0, 0, 0, 0), (16, .iload 0, 1, 0, 0), (17, .invokevirtual 0, 91, 2, 18), (20, .invokevirtual 0, 95, 2, 18), (23, .pop, 0, 0, 0), (24, .iinc 0 0, 3, 0, 1), (27, .goto 0, 2, 0, 0)]
def B_Wk_go_30 : List Ent := [(30, .return_, 0, 0, 0)]
def lb_Wk_go : List (Nat × List Ent) := [(0, B_Wk_go_0), (2, B_Wk_go_2), (30, B_Wk_go_30)]
def B_Wk_found_0 : List Ent := [(0, .aload 0, 0, 0, 0), (1, .getfield 0, 18, 0, 1), (4, .ifCond .ne 0, 11, 0, 0), (7, .iconst 0, 0, 0, (-1)), (8, .goto 0, 21, 0, 0)]
def B_Wk_found_11 : List Ent := [(11, .aload 0, 0, 0, 0), (12, .getfield 0, 18, 1, 0), (15, .aload 0, 0, 0, 0), (16, .iload 0, 1, 0, 0), (17, .invokevirtual 0, 91, 2, 18), (20, .iaload, 0, 0, 0), (21, .goto_w 0, 21, 0, 0)]
def B_Wk_found_21 : List Ent := [(21, .ireturn, 0, 0, 0)]
def lb_Wk_found : List (Nat × List Ent) := [(0, B_Wk_found_0), (11, B_Wk_found_11), (21, B_Wk_found_21)]
def B_Wk_find_0 : List Ent := [(0, .iload 0, 1, 0, 0), (1, .ifCond .ne 0, 11, 0, 0), (4, .aload 0, 0, 0, 0), (5, .invokevirtual 0, 92, 1, 18), (8, .goto 0, 16, 0, 0)]
def B_Wk_find_11 : List Ent := [(11, .aload 0, 0, 0, 0), (12, .iload 0, 1, 0, 0), (13, .invokevirtual 0, 93, 2, 18), (16, .goto_w 0, 16, 0, 0)]
def B_Wk_find_16 : List Ent := [(16, .ireturn, 0, 0, 0)]
def lb_Wk_find : List (Nat × List Ent) := [(0, B_Wk_find_0), (11, B_Wk_find_11), (16, B_Wk_find_16)]
def B_Wk_findAbove_0 : List Ent := [(0, .iconst 0, 0, 0, 0), (1, .istore 0, 1, 0, 0), (2, .goto_w 0, 2, 0, 0)]
def B_Wk_findAbove_2 : List Ent := [(2, .iload 0, 1, 0, 0), (3, .aload 0, 0, 0, 0), (4, .getfield 0, 18, 0, 1), (7, .if_icmp .ge 0, 31, 0, 0), (10, .aload 0, 0, 0, 0), (11, .getfield 0, 18, 1, 0), (14, .iload 0, 1, 0, 0), (15, .iaload, 0, 0, 0), (16, .aload 0, 0, 0, 0), (17, .getfield 0, 18, 0, 2), (20, .if_icmp .le 0, 25, 0, 0), (23, .iload 0, 1, 0, 0), (24, .ireturn, 0, 0, 0)]
def B_Wk_findAbove_25 : List Ent := [(25, .iinc 0 0, 1, 0, 1), (28, .goto 0, 2, 0, 0)]
def B_Wk_findAbove_31 : List Ent := [(31, .iconst 0, 0, 0, 0), (32, .ireturn, 0, 0, 0)]
def lb_Wk_findAbove : List (Nat × List Ent) := [(0, B_Wk_findAbove_0), (2, B_Wk_findAbove_2), (25, B_Wk_findAbove_25), (31, B_Wk_findAbove_31)]
def B_Wk_findNear_0 : List Ent := [(0, .iconst 0, 0, 0, 0), (1, .istore 0, 2, 0, 0), (2, .iconst 0, 0, 0, 0), (3, .istore 0, 3, 0, 0), (4, .iconst 0, 0, 0, 0), (5, .istore 0, 4, 0, 0), (7, .goto_w 0, 7, 0, 0)]
def B_Wk_findNear_7 : List Ent := [(7, .iload 0, 4, 0, 0), (9, .aload 0, 0, 0, 0), (10, .getfield 0, 18, 0, 1), (13, .if_icmp .ge 0, 85, 0, 0), (16, .aload 0, 0, 0, 0), (17, .aload 0, 0, 0, 0), (18, .getfield 0, 18, 1, 0), (21, .iload 0, 4, 0, 0), (23, .iaload, 0, 0, 0), (24, .invokevirtual 0, 94, 2, 18), (27, .istore 0, 5, 0, 0), (29, .iload 0, 1, 0, 0), (30, .iconst 0, 0, 0, 2), (31, .if_icmp .ne 0, 58, 0, 0), (34, .aload 0, 0, 0, 0), (35, .getfield 0, 18, 1, 6), (38, .getfield 0, 12, 1, 0), (41, .aload 0, 0, 0, 0), (42, .getfield 0, 18, 1, 0), (45, .iload 0, 4, 0, 0), (47, .iaload, 0, 0, 0), (48, .iaload, 0, 0, 0), (49, .iconst 0, 0, 0, 16), (51, .imul, 0, 0, 0), (52, .iload 0, 5, 0, 0), (54, .iadd, 0, 0, 0), (55, .goto 0, 60, 0, 0)]
def B_Wk_findNear_58 : List Ent := [(58, .iload 0, 5, 0, 0), (60, .goto_w 0, 60, 0, 0)]
def B_Wk_findNear_60 : List Ent := [(60, .istore 0, 6, 0, 0), (62, .iload 0, 4, 0, 0), (64, .ifCond .eq 0, 73, 0, 0), (67, .iload 0, 6, 0, 0), (69, .iload 0, 3, 0, 0), (70, .if_icmp .ge 0, 79, 0, 0), (73, .goto_w 0, 73, 0, 0)]
def B_Wk_findNear_73 : List Ent := [(73, .iload 0, 4, 0, 0), (75, .istore 0, 2, 0, 0), (76, .iload 0, 6, 0, 0), (78, .istore 0, 3, 0, 0), (79, .goto_w 0, 79, 0, 0)]
def B_Wk_findNear_79 : List Ent := [(79, .iinc 0 0, 4, 0, 1), (82, .goto 0, 7, 0, 0)]
def B_Wk_findNear_85 : List Ent := [(85, .iload 0, 2, 0, 0), (86, .ireturn, 0, 0, 0)]
def lb_Wk_findNear : List (Nat × List Ent) := [(0, B_Wk_findNear_0), (7, B_Wk_findNear_7), (58, B_Wk_findNear_58), (60, B_Wk_findNear_60), (73, B_Wk_findNear_73), (79, B_Wk_findNear_79), (85, B_Wk_findNear_85)]
def B_Wk_distanceTo_0 : List Ent := [(0, .aload 0, 0, 0, 0), (1, .getfield 0, 18, 0, 2), (4, .iconst 0, 0, 0, (-1)), (5, .if_icmp .ne 0, 12, 0, 0), (8, .iconst 0, 0, 0, 0), (9, .goto 0, 24, 0, 0)]
def B_Wk_distanceTo_12 : List Ent := [(12, .aload 0, 0, 0, 0), (13, .getfield 0, 18, 1, 4), (16, .aload 0, 0, 0, 0), (17, .getfield 0, 18, 0, 2), (20, .iload 0, 1, 0, 0), (21, .invokevirtual 0, 17, 3, 10), (24, .goto_w 0, 24, 0, 0)]
def B_Wk_distanceTo_24 : List Ent := [(24, .ireturn, 0, 0, 0)]
def lb_Wk_distanceTo : List (Nat × List Ent) := [(0, B_Wk_distanceTo_0), (12, B_Wk_distanceTo_12), (24, B_Wk_distanceTo_24)]
def B_Wk_take_0 : List Ent := [(0, .iload 0, 1, 0, 0), (1, .ifCond .lt 0, 12, 0, 0), (4, .iload 0, 1, 0, 0), (5, .aload 0, 0, 0, 0), (6, .getfield 0, 18, 0, 1), (9, .if_icmp .lt 0, 14, 0, 0), (12, .goto_w 0, 12, 0, 0)]
def B_Wk_take_12 : List Ent := [(12, .iconst 0, 0, 0, (-1)), (13, .ireturn, 0, 0, 0)]
def B_Wk_take_14 : List Ent := [(14, .aload 0, 0, 0, 0), (15, .getfield 0, 18, 1, 0), (18, .iload 0, 1, 0, 0), (19, .iaload, 0, 0, 0), (20, .istore 0, 2, 0, 0), (21, .aload 0, 0, 0, 0), (22, .dup, 0, 0, 0), (23, .getfield 0, 18, 0, 3), (26, .aload 0, 0, 0, 0), (27, .iload 0, 2, 0, 0), (28, .invokevirtual 0, 94, 2, 18), (31, .iadd, 0, 0, 0), (32, .putfield 0, 18, 0, 3), (35, .aload 0, 0, 0, 0), (36, .iload 0, 2, 0, 0), (37, .putfield 0, 18, 0, 2), (40, .aload 0, 0, 0, 0), (41, .dup, 0, 0, 0), (42, .getfield 0, 18, 0, 1), (45, .iconst 0, 0, 0, 1), (46, .isub, 0, 0, 0), (47, .putfield 0, 18, 0, 1), (50, .aload 0, 0, 0, 0), (51, .getfield 0, 18, 1, 0), (54, .iload 0, 1, 0, 0), (55, .iconst 0, 0, 0, 1), (56, .iadd, 0, 0, 0), (57, .aload 0, 0, 0, 0), (58, .getfield 0, 18, 1, 0), (61, .iload 0, 1, 0, 0), (62, .aload 0, 0, 0, 0), (63, .getfield 0, 18, 0, 1), (66, .iload 0, 1, 0, 0), (67, .isub, 0, 0, 0), (68, .invokedynamic 0, 0, 0, 0), (71, .iload 0, 2, 0, 0), (72, .ireturn, 0, 0, 0)]
def lb_Wk_take : List (Nat × List Ent) := [(0, B_Wk_take_0), (12, B_Wk_take_12), (14, B_Wk_take_14)]
def B_Wy_init_0 : List Ent := [(0, .aload 0, 0, 0, 0), (1, .checkcast 0, 0, 0, 0), (4, .aload 0, 0, 0, 0), (5, .iconst 0, 0, 0, 252), (8, .newarray .int, 0, 0, 0), (10, .putfield 0, 19, 1, 0), (13, .aload 0, 0, 0, 0), (14, .iconst 0, 0, 0, 252), (17, .newarray .int, 0, 0, 0), (19, .putfield 0, 19, 1, 1), (22, .aload 0, 0, 0, 0), (23, .iconst 0, 0, 0, 252), (26, .newarray .int, 0, 0, 0), (28, .putfield 0, 19, 1, 2), (31, .aload 0, 0, 0, 0), (32, .iconst 0, 0, 0, 6300), (35, .newarray .int, 0, 0, 0), (37, .putfield 0, 19, 1, 3), (40, .aload 0, 0, 0, 0), (41, .iconst 0, 0, 0, 252), (44, .newarray .int, 0, 0, 0), (46, .putfield 0, 19, 1, 4), (49, .aload 0, 0, 0, 0), (50, .iconst 0, 0, 0, 252), (53, .newarray .int, 0, 0, 0), (55, .putfield 0, 19, 1, 5), (58, .aload 0, 0, 0, 0), (59, .iconst 0, 0, 0, 252), (62, .newarray .int, 0, 0, 0), (64, .putfield 0, 19, 1, 6), (67, .aload 0, 0, 0, 0), (68, .iconst 0, 0, 0, 252), (71, .newarray .int, 0, 0, 0), (73, .putfield 0, 19, 1, 7), (76, .aload 0, 0, 0, 0), (77, .iconst 0, 0, 0, 252), (80, .newarray .int, 0, 0, 0), (82, .putfield 0, 19, 1, 8), (85, .aload 0, 0, 0, 0), (86, .iconst 0, 0, 0, 0), (87, .putfield 0, 19, 0, 10), (90, .aload 0, 0, 0, 0), (91, .iconst 0, 0, 0, 0), (92, .putfield 0, 19, 0, 11), (95, .aload 0, 0, 0, 0), (96, .iconst 0, 0, 0, 0), (97, .putfield 0, 19, 2, 12), (100, .aload 0, 0, 0, 0), (101, .aload 0, 1, 0, 0), (102, .putfield 0, 19, 1, 9), (105, .return_, 0, 0, 0)]
def lb_Wy_init : List (Nat × List Ent) := [(0, B_Wy_init_0)]
def B_Wy_forget_0 : List Ent := [(0, .aload 0, 0, 0, 0), (1, .iconst 0, 0, 0, 0), (2, .putfield 0, 19, 2, 12), (5, .return_, 0, 0, 0)]
def lb_Wy_forget : List (Nat × List Ent) := [(0, B_Wy_forget_0)]
def B_Wy_learn_0 : List Ent := [(0, .aload 0, 0, 0, 0), (1, .getfield 0, 19, 2, 12), (4, .ifCond .eq 0, 8, 0, 0), (7, .return_, 0, 0, 0)]
def B_Wy_learn_8 : List Ent := [(8, .aload 0, 0, 0, 0), (9, .aload 0, 0, 0, 0), (10, .getfield 0, 19, 1, 9), (13, .getfield 0, 10, 0, 4), (16, .aload 0, 0, 0, 0), (17, .getfield 0, 19, 1, 9), (20, .getfield 0, 10, 0, 3), (23, .aload 0, 0, 0, 0), (24, .getfield 0, 19, 1, 9), (27, .getfield 0, 10, 0, 4), (30, .isub, 0, 0, 0), (31, .imul, 0, 0, 0), (32, .putfield 0, 19, 0, 10), (35, .iconst 0, 0, 0, 0), (36, .istore 0, 1, 0, 0), (37, .goto_w 0, 37, 0, 0)]
def B_Wy_learn_37 : List Ent := [(37, .iload 0, 1, 0, 0), (38, .aload 0, 0, 0, 0), (39, .getfield 0, 19, 1, 9), (42, .getfield 0, 10, 0, 5), (45, .if_icmp .ge 0, 59, 0, 0), (48, .aload 0, 0, 0, 0), (49, .iload 0, 1, 0, 0), (50, .invokevirtual 0, 99, 2, 19), (53, .iinc 0 0, 1, 0, 1), (56, .goto 0, 37, 0, 0)]
def B_Wy_learn_59 : List Ent := [(59, .aload 0, 0, 0, 0), (60, .iconst 0, 0, 0, 1), (61, .putfield 0, 19, 2, 12), (64, .return_, 0, 0, 0)]
def lb_Wy_learn : List (Nat × List Ent) := [(0, B_Wy_learn_0), (8, B_Wy_learn_8), (37, B_Wy_learn_37), (59, B_Wy_learn_59)]
def B_Wy_learnFrom_0 : List Ent := [(0, .iload 0, 1, 0, 0), (1, .aload 0, 0, 0, 0), (2, .getfield 0, 19, 0, 10), (5, .imul, 0, 0, 0), (6, .istore 0, 2, 0, 0), (7, .iconst 0, 0, 0, 0), (8, .istore 0, 3, 0, 0), (9, .goto_w 0, 9, 0, 0)]
def B_Wy_learnFrom_9 : List Ent := [(9, .iload 0, 3, 0, 0), (10, .aload 0, 0, 0, 0), (11, .getfield 0, 19, 1, 9), (14, .getfield 0, 10, 0, 3), (17, .if_icmp .ge 0, 86, 0, 0), (20, .iconst 0, 0, 0, 0), (21, .istore 0, 4, 0, 0), (23, .goto_w 0, 23, 0, 0)]
def B_Wy_learnFrom_23 : List Ent := [(23, .iload 0, 4, 0, 0), (25, .aload 0, 0, 0, 0), (26, .getfield 0, 19, 1, 9), (29, .getfield 0, 10, 0, 3), (32, .if_icmp .ge 0, 80, 0, 0), (35, .aload 0, 0, 0, 0), (36, .getfield 0, 19, 1, 9), (39, .iload 0, 1, 0, 0), (40, .iload 0, 3, 0, 0), (41, .iload 0, 4, 0, 0), (43, .invokevirtual 0, 19, 4, 10), (46, .istore 0, 5, 0, 0), (48, .iload 0, 5, 0, 0), (50, .iconst 0, 0, 0, (-1)), (51, .if_icmp .eq 0, 74, 0, 0), (54, .iload 0, 2, 0, 0), (55, .aload 0, 0, 0, 0), (56, .getfield 0, 19, 1, 3), (59, .arraylength, 0, 0, 0), (60, .if_icmp .ge 0, 74, 0, 0), (63, .aload 0, 0, 0, 0), (64, .getfield 0, 19, 1, 3), (67, .iload 0, 2, 0, 0), (68, .iload 0, 5, 0, 0), (70, .iastore, 0, 0, 0), (71, .iinc 0 0, 2, 0, 1), (74, .goto_w 0, 74, 0, 0)]
def B_Wy_learnFrom_74 : List Ent := [(74, .iinc 0 0, 4, 0, 1), (77, .goto 0, 23, 0, 0)]
def B_Wy_learnFrom_80 : List Ent := [(80, .iinc 0 0, 3, 0, 1), (83, .goto 0, 9, 0, 0)]
def B_Wy_learnFrom_86 : List Ent := [(86, .return_, 0, 0, 0)]
def lb_Wy_learnFrom : List (Nat × List Ent) := [(0, B_Wy_learnFrom_0), (9, B_Wy_learnFrom_9), (23, B_Wy_learnFrom_23), (74, B_Wy_learnFrom_74), (80, B_Wy_learnFrom_80), (86, B_Wy_learnFrom_86)]
def B_Wy_countNeighbours_0 : List Ent := [(0, .aload 0, 2, 0, 0), (1, .iload 0, 1, 0, 0), (2, .baload, 0, 0, 0), (3, .ifCond .ne 0, 8, 0, 0), (6, .iconst 0, 0, 0, 0), (7, .ireturn, 0, 0, 0)]
def B_Wy_countNeighbours_8 : List Ent := [(8, .aload 0, 0, 0, 0), (9, .invokevirtual 0, 98, 1, 19), (12, .iconst 0, 0, 0, 0), (13, .istore 0, 3, 0, 0), (14, .iconst 0, 0, 0, 0), (15, .istore 0, 4, 0, 0), (17, .goto_w 0, 17, 0, 0)]
def B_Wy_countNeighbours_17 : List Ent := [(17, .iload 0, 4, 0, 0), (19, .aload 0, 0, 0, 0), (20, .getfield 0, 19, 0, 10), (23, .if_icmp .ge 0, 54, 0, 0), (26, .aload 0, 2, 0, 0), (27, .aload 0, 0, 0, 0), (28, .getfield 0, 19, 1, 3), (31, .iload 0, 1, 0, 0), (32, .aload 0, 0, 0, 0), (33, .getfield 0, 19, 0, 10), (36, .imul, 0, 0, 0), (37, .iload 0, 4, 0, 0), (39, .iadd, 0, 0, 0), (40, .iaload, 0, 0, 0), (41, .baload, 0, 0, 0), (42, .ifCond .eq 0, 48, 0, 0), (45, .iinc 0 0, 3, 0, 1), (48, .goto_w 0, 48, 0, 0)]
def B_Wy_countNeighbours_48 : List Ent := [(48, .iinc 0 0, 4, 0, 1), (51, .goto 0, 17, 0, 0)]
def B_Wy_countNeighbours_54 : List Ent := [(54, .iload 0, 3, 0, 0), (55, .ireturn, 0, 0, 0)]
def lb_Wy_countNeighbours : List (Nat × List Ent) := [(0, B_Wy_countNeighbours_0), (8, B_Wy_countNeighbours_8), (17, B_Wy_countNeighbours_17), (48, B_Wy_countNeighbours_48), (54, B_Wy_countNeighbours_54)]
def B_Wy_markParts_0 : List Ent := [(0, .aload 0, 0, 0, 0), (1, .invokevirtual 0, 98, 1, 19), (4, .aload 0, 0, 0, 0), (5, .getfield 0, 19, 1, 0), (8, .iconst 0, 0, 0, (-1)), (9, .invokestatic 0, 7, 2, 0), (12, .aload 0, 0, 0, 0), (13, .getfield 0, 19, 1, 1), (16, .iconst 0, 0, 0, (-1)), (17, .invokestatic 0, 7, 2, 0), (20, .iconst 0, 0, 0, 0), (21, .istore 0, 2, 0, 0), (22, .iconst 0, 0, 0, 0), (23, .istore 0, 3, 0, 0), (24, .goto_w 0, 24, 0, 0)]
def B_Wy_markParts_24 : List Ent := [(24, .iload 0, 3, 0, 0), (25, .aload 0, 0, 0, 0), (26, .getfield 0, 19, 1, 9), (29, .getfield 0, 10, 0, 5), (32, .if_icmp .ge 0, 67, 0, 0), (35, .aload 0, 1, 0, 0), (36, .iload 0, 3, 0, 0), (37, .baload, 0, 0, 0), (38, .ifCond .eq 0, 61, 0, 0), (41, .aload 0, 0, 0, 0), (42, .getfield 0, 19, 1, 0), (45, .iload 0, 3, 0, 0), (46, .iaload, 0, 0, 0), (47, .iconst 0, 0, 0, (-1)), (48, .if_icmp .ne 0, 61, 0, 0), (51, .aload 0, 0, 0, 0), (52, .iload 0, 3, 0, 0), (53, .iload 0, 2, 0, 0), (54, .aload 0, 1, 0, 0), (55, .invokevirtual 0, 103, 4, 19), (58, .iinc 0 0, 2, 0, 1), (61, .goto_w 0, 61, 0, 0)]
def B_Wy_markParts_61 : List Ent := [(61, .iinc 0 0, 3, 0, 1), (64, .goto 0, 24, 0, 0)]
def B_Wy_markParts_67 : List Ent := [(67, .iload 0, 2, 0, 0), (68, .ireturn, 0, 0, 0)]
def lb_Wy_markParts : List (Nat × List Ent) := [(0, B_Wy_markParts_0), (24, B_Wy_markParts_24), (61, B_Wy_markParts_61), (67, B_Wy_markParts_67)]
def B_Wy_measureFrom_0 : List Ent := [(0, .aload 0, 0, 0, 0), (1, .invokevirtual 0, 98, 1, 19), (4, .aload 0, 0, 0, 0), (5, .getfield 0, 19, 1, 1), (8, .iconst 0, 0, 0, (-1)), (9, .invokestatic 0, 7, 2, 0), (12, .aload 0, 0, 0, 0), (13, .iload 0, 1, 0, 0), (14, .iconst 0, 0, 0, 0), (15, .aload 0, 2, 0, 0), (16, .invokevirtual 0, 103, 4, 19), (19, .return_, 0, 0, 0)]
def lb_Wy_measureFrom : List (Nat × List Ent) := [(0, B_Wy_measureFrom_0)]
def B_Wy_spread_0 : List Ent := [(0, .iconst 0, 0, 0, 1), (1, .istore 0, 4, 0, 0), (3, .aload 0, 0, 0, 0), (4, .getfield 0, 19, 1, 4), (7, .iconst 0, 0, 0, 0), (8, .iload 0, 1, 0, 0), (9, .iastore, 0, 0, 0), (10, .aload 0, 0, 0, 0), (11, .getfield 0, 19, 1, 1), (14, .iload 0, 1, 0, 0), (15, .iconst 0, 0, 0, 0), (16, .iastore, 0, 0, 0), (17, .aload 0, 0, 0, 0), (18, .getfield 0, 19, 1, 0), (21, .iload 0, 1, 0, 0), (22, .iload 0, 2, 0, 0), (23, .iastore, 0, 0, 0), (24, .iconst 0, 0, 0, 0), (25, .istore 0, 5, 0, 0), (27, .goto_w 0, 27, 0, 0)]
def B_Wy_spread_27 : List Ent := [(27, .iload 0, 5, 0, 0), (29, .iload 0, 4, 0, 0), (31, .if_icmp .ge 0, 148, 0, 0), (34, .aload 0, 0, 0, 0), (35, .getfield 0, 19, 1, 4), (38, .iload 0, 5, 0, 0), (40, .iaload, 0, 0, 0), (41, .istore 0, 6, 0, 0), (43, .iconst 0, 0, 0, 0), (44, .istore 0, 7, 0, 0), (46, .goto_w 0, 46, 0, 0)]
def B_Wy_spread_46 : List Ent := [(46, .iload 0, 7, 0, 0), (48, .aload 0, 0, 0, 0), (49, .getfield 0, 19, 0, 10), (52, .if_icmp .ge 0, 142, 0, 0), (55, .aload 0, 0, 0, 0), (56, .getfield 0, 19, 1, 3), (59, .iload 0, 6, 0, 0), (61, .aload 0, 0, 0, 0), (62, .getfield 0, 19, 0, 10), (65, .imul, 0, 0, 0), (66, .iload 0, 7, 0, 0), (68, .iadd, 0, 0, 0), (69, .iaload, 0, 0, 0), (70, .istore 0, 8, 0, 0), (72, .aload 0, 3, 0, 0), (73, .iload 0, 8, 0, 0), (75, .baload, 0, 0, 0), (76, .ifCond .eq 0, 136, 0, 0), (79, .aload 0, 0, 0, 0), (80, .getfield 0, 19, 1, 1), (83, .iload 0, 8, 0, 0), (85, .iaload, 0, 0, 0), (86, .iconst 0, 0, 0, (-1)), (87, .if_icmp .ne 0, 136, 0, 0), (90, .iload 0, 4, 0, 0), (92, .aload 0, 0, 0, 0), (93, .getfield 0, 19, 1, 4), (96, .arraylength, 0, 0, 0), (97, .if_icmp .ge 0, 136, 0, 0), (100, .aload 0, 0, 0, 0), (101, .getfield 0, 19, 1, 1), (104, .iload 0, 8, 0, 0), (106, .aload 0, 0, 0, 0), (107, .getfield 0, 19, 1, 1), (110, .iload 0, 6, 0, 0), (112, .iaload, 0, 0, 0), (113, .iconst 0, 0, 0, 1), (114, .iadd, 0, 0, 0), (115, .iastore, 0, 0, 0), (116, .aload 0, 0, 0, 0), (117, .getfield 0, 19, 1, 0), (120, .iload 0, 8, 0, 0), (122, .iload 0, 2, 0, 0), (123, .iastore, 0, 0, 0), (124, .aload 0, 0, 0, 0), (125, .getfield 0, 19, 1, 4), (128, .iload 0, 4, 0, 0), (130, .iload 0, 8, 0, 0), (132, .iastore, 0, 0, 0), (133, .iinc 0 0, 4, 0, 1), (136, .goto_w 0, 136, 0, 0)]
def B_Wy_spread_136 : List Ent := [(136, .iinc 0 0, 7, 0, 1), (139, .goto 0, 46, 0, 0)]
def B_Wy_spread_142 : List Ent := [(142, .iinc 0 0, 5, 0, 1), (145, .goto 0, 27, 0, 0)]
def B_Wy_spread_148 : List Ent := [(148, .return_, 0, 0, 0)]
def lb_Wy_spread : List (Nat × List Ent) := [(0, B_Wy_spread_0), (27, B_Wy_spread_27), (46, B_Wy_spread_46), (136, B_Wy_spread_136), (142, B_Wy_spread_142), (148, B_Wy_spread_148)]
def B_Wy_nearerThan_0 : List Ent := [(0, .iconst 0, 0, 0, (-1)), (1, .istore 0, 2, 0, 0), (2, .iconst 0, 0, 0, 0), (3, .istore 0, 3, 0, 0), (4, .goto_w 0, 4, 0, 0)]
def B_Wy_nearerThan_4 : List Ent := [(4, .iload 0, 3, 0, 0), (5, .aload 0, 0, 0, 0), (6, .getfield 0, 19, 0, 10), (9, .if_icmp .ge 0, 86, 0, 0), (12, .aload 0, 0, 0, 0), (13, .getfield 0, 19, 1, 3), (16, .iload 0, 1, 0, 0), (17, .aload 0, 0, 0, 0), (18, .getfield 0, 19, 0, 10), (21, .imul, 0, 0, 0), (22, .iload 0, 3, 0, 0), (23, .iadd, 0, 0, 0), (24, .iaload, 0, 0, 0), (25, .istore 0, 4, 0, 0), (27, .aload 0, 0, 0, 0), (28, .getfield 0, 19, 1, 1), (31, .iload 0, 4, 0, 0), (33, .iaload, 0, 0, 0), (34, .iconst 0, 0, 0, (-1)), (35, .if_icmp .eq 0, 58, 0, 0), (38, .aload 0, 0, 0, 0), (39, .getfield 0, 19, 1, 1), (42, .iload 0, 4, 0, 0), (44, .iaload, 0, 0, 0), (45, .aload 0, 0, 0, 0), (46, .getfield 0, 19, 1, 1), (49, .iload 0, 1, 0, 0), (50, .iaload, 0, 0, 0), (51, .if_icmp .ge 0, 58, 0, 0), (54, .iconst 0, 0, 0, 1), (55, .goto 0, 59, 0, 0)]
def B_Wy_nearerThan_58 : List Ent := [(58, .iconst 0, 0, 0, 0), (59, .goto_w 0, 59, 0, 0)]
def B_Wy_nearerThan_59 : List Ent := [(59, .istore 0, 5, 0, 0), (61, .iload 0, 5, 0, 0), (63, .ifCond .eq 0, 80, 0, 0), (66, .iload 0, 2, 0, 0), (67, .iconst 0, 0, 0, (-1)), (68, .if_icmp .eq 0, 77, 0, 0), (71, .iload 0, 4, 0, 0), (73, .iload 0, 2, 0, 0), (74, .if_icmp .ge 0, 80, 0, 0), (77, .goto_w 0, 77, 0, 0)]
def B_Wy_nearerThan_77 : List Ent := [(77, .iload 0, 4, 0, 0), (79, .istore 0, 2, 0, 0), (80, .goto_w 0, 80, 0, 0)]
def B_Wy_nearerThan_80 : List Ent := [(80, .iinc 0 0, 3, 0, 1), (83, .goto 0, 4, 0, 0)]
def B_Wy_nearerThan_86 : List Ent := [(86, .iload 0, 2, 0, 0), (87, .ireturn, 0, 0, 0)]
def lb_Wy_nearerThan : List (Nat × List Ent) := [(0, B_Wy_nearerThan_0), (4, B_Wy_nearerThan_4), (58, B_Wy_nearerThan_58), (59, B_Wy_nearerThan_59), (77, B_Wy_nearerThan_77), (80, B_Wy_nearerThan_80), (86, B_Wy_nearerThan_86)]
def B_Wy_smallestOf_0 : List Ent := [(0, .iconst 0, 0, 0, 0), (1, .istore 0, 2, 0, 0), (2, .goto_w 0, 2, 0, 0)]
def B_Wy_smallestOf_2 : List Ent := [(2, .iload 0, 2, 0, 0), (3, .aload 0, 0, 0, 0), (4, .getfield 0, 19, 1, 9), (7, .getfield 0, 10, 0, 5), (10, .if_icmp .ge 0, 31, 0, 0), (13, .aload 0, 0, 0, 0), (14, .getfield 0, 19, 1, 0), (17, .iload 0, 2, 0, 0), (18, .iaload, 0, 0, 0), (19, .iload 0, 1, 0, 0), (20, .if_icmp .ne 0, 25, 0, 0), (23, .iload 0, 2, 0, 0), (24, .ireturn, 0, 0, 0)]
def B_Wy_smallestOf_25 : List Ent := [(25, .iinc 0 0, 2, 0, 1), (28, .goto 0, 2, 0, 0)]
def B_Wy_smallestOf_31 : List Ent := [(31, .iconst 0, 0, 0, (-1)), (32, .ireturn, 0, 0, 0)]
def lb_Wy_smallestOf : List (Nat × List Ent) := [(0, B_Wy_smallestOf_0), (2, B_Wy_smallestOf_2), (25, B_Wy_smallestOf_25), (31, B_Wy_smallestOf_31)]
def B_Wy_sizeOf_0 : List Ent := [(0, .iconst 0, 0, 0, 0), (1, .istore 0, 2, 0, 0), (2, .iconst 0, 0, 0, 0), (3, .istore 0, 3, 0, 0), (4, .goto_w 0, 4, 0, 0)]
def B_Wy_sizeOf_4 : List Ent := [(4, .iload 0, 3, 0, 0), (5, .aload 0, 0, 0, 0), (6, .getfield 0, 19, 1, 9), (9, .getfield 0, 10, 0, 5), (12, .if_icmp .ge 0, 34, 0, 0), (15, .aload 0, 0, 0, 0), (16, .getfield 0, 19, 1, 0), (19, .iload 0, 3, 0, 0), (20, .iaload, 0, 0, 0), (21, .iload 0, 1, 0, 0), (22, .if_icmp .ne 0, 28, 0, 0), (25, .iinc 0 0, 2, 0, 1), (28, .goto_w 0, 28, 0, 0)]
def B_Wy_sizeOf_28 : List Ent := [(28, .iinc 0 0, 3, 0, 1), (31, .goto 0, 4, 0, 0)]
def B_Wy_sizeOf_34 : List Ent := [(34, .iload 0, 2, 0, 0), (35, .ireturn, 0, 0, 0)]
def lb_Wy_sizeOf : List (Nat × List Ent) := [(0, B_Wy_sizeOf_0), (4, B_Wy_sizeOf_4), (28, B_Wy_sizeOf_28), (34, B_Wy_sizeOf_34)]
def B_Wy_reachOf_0 : List Ent := [(0, .iconst 0, 0, 0, 0), (1, .istore 0, 2, 0, 0), (2, .iconst 0, 0, 0, 0), (3, .istore 0, 3, 0, 0), (4, .goto_w 0, 4, 0, 0)]
def B_Wy_reachOf_4 : List Ent := [(4, .iload 0, 3, 0, 0), (5, .aload 0, 0, 0, 0), (6, .getfield 0, 19, 1, 9), (9, .getfield 0, 10, 0, 5), (12, .if_icmp .ge 0, 42, 0, 0), (15, .aload 0, 0, 0, 0), (16, .getfield 0, 19, 1, 0), (19, .iload 0, 3, 0, 0), (20, .iaload, 0, 0, 0), (21, .iload 0, 1, 0, 0), (22, .if_icmp .ne 0, 36, 0, 0), (25, .iload 0, 2, 0, 0), (26, .aload 0, 0, 0, 0), (27, .getfield 0, 19, 1, 1), (30, .iload 0, 3, 0, 0), (31, .iaload, 0, 0, 0), (32, .land, 0, 0, 0), (35, .istore 0, 2, 0, 0), (36, .goto_w 0, 36, 0, 0)]
def B_Wy_reachOf_36 : List Ent := [(36, .iinc 0 0, 3, 0, 1), (39, .goto 0, 4, 0, 0)]
def B_Wy_reachOf_42 : List Ent := [(42, .iload 0, 2, 0, 0), (43, .ireturn, 0, 0, 0)]
def lb_Wy_reachOf : List (Nat × List Ent) := [(0, B_Wy_reachOf_0), (4, B_Wy_reachOf_4), (36, B_Wy_reachOf_36), (42, B_Wy_reachOf_42)]
def B_Wy_cut_0 : List Ent := [(0, .aload 0, 0, 0, 0), (1, .invokevirtual 0, 98, 1, 19), (4, .aload 0, 0, 0, 0), (5, .getfield 0, 19, 1, 5), (8, .iconst 0, 0, 0, (-1)), (9, .invokestatic 0, 7, 2, 0), (12, .aload 0, 0, 0, 0), (13, .iconst 0, 0, 0, 0), (14, .putfield 0, 19, 0, 11), (17, .iconst 0, 0, 0, 0), (18, .istore 0, 2, 0, 0), (19, .goto_w 0, 19, 0, 0)]
def B_Wy_cut_19 : List Ent := [(19, .iload 0, 2, 0, 0), (20, .aload 0, 0, 0, 0), (21, .getfield 0, 19, 1, 9), (24, .getfield 0, 10, 0, 5), (27, .if_icmp .ge 0, 58, 0, 0), (30, .aload 0, 1, 0, 0), (31, .iload 0, 2, 0, 0), (32, .baload, 0, 0, 0), (33, .ifCond .eq 0, 52, 0, 0), (36, .aload 0, 0, 0, 0), (37, .getfield 0, 19, 1, 5), (40, .iload 0, 2, 0, 0), (41, .iaload, 0, 0, 0), (42, .iconst 0, 0, 0, (-1)), (43, .if_icmp .ne 0, 52, 0, 0), (46, .aload 0, 0, 0, 0), (47, .iload 0, 2, 0, 0), (48, .aload 0, 1, 0, 0), (49, .invokevirtual 0, 109, 3, 19), (52, .goto_w 0, 52, 0, 0)]
def B_Wy_cut_52 : List Ent := [(52, .iinc 0 0, 2, 0, 1), (55, .goto 0, 19, 0, 0)]
def B_Wy_cut_58 : List Ent := [(58, .return_, 0, 0, 0)]
def lb_Wy_cut : List (Nat × List Ent) := [(0, B_Wy_cut_0), (19, B_Wy_cut_19), (52, B_Wy_cut_52), (58, B_Wy_cut_58)]
def B_Wy_cutPart_0 : List Ent := [(0, .aload 0, 0, 0, 0), (1, .iload 0, 1, 0, 0), (2, .iconst 0, 0, 0, (-1)), (3, .invokevirtual 0, 110, 3, 19), (6, .iload 0, 1, 0, 0), (7, .istore 0, 3, 0, 0), (8, .iconst 0, 0, 0, 6552), (11, .istore 0, 4, 0, 0), (13, .iconst 0, 0, 0, 0), (14, .istore 0, 5, 0, 0), (16, .goto_w 0, 16, 0, 0)]
def B_Wy_cutPart_16 : List Ent := [(16, .iload 0, 5, 0, 0), (18, .iload 0, 4, 0, 0), (20, .if_icmp .ge 0, 152, 0, 0), (23, .iload 0, 3, 0, 0), (24, .iconst 0, 0, 0, (-1)), (25, .if_icmp .eq 0, 152, 0, 0), (28, .aload 0, 0, 0, 0), (29, .getfield 0, 19, 1, 8), (32, .iload 0, 3, 0, 0), (33, .iaload, 0, 0, 0), (34, .aload 0, 0, 0, 0), (35, .getfield 0, 19, 0, 10), (38, .if_icmp .lt 0, 56, 0, 0), (41, .aload 0, 0, 0, 0), (42, .iload 0, 3, 0, 0), (43, .invokevirtual 0, 111, 2, 19), (46, .aload 0, 0, 0, 0), (47, .getfield 0, 19, 1, 7), (50, .iload 0, 3, 0, 0), (51, .iaload, 0, 0, 0), (52, .istore 0, 3, 0, 0), (53, .goto 0, 146, 0, 0)]
def B_Wy_cutPart_56 : List Ent := [(56, .aload 0, 0, 0, 0), (57, .getfield 0, 19, 1, 3), (60, .iload 0, 3, 0, 0), (61, .aload 0, 0, 0, 0), (62, .getfield 0, 19, 0, 10), (65, .imul, 0, 0, 0), (66, .aload 0, 0, 0, 0), (67, .getfield 0, 19, 1, 8), (70, .iload 0, 3, 0, 0), (71, .iaload, 0, 0, 0), (72, .iadd, 0, 0, 0), (73, .iaload, 0, 0, 0), (74, .istore 0, 6, 0, 0), (76, .aload 0, 0, 0, 0), (77, .getfield 0, 19, 1, 8), (80, .iload 0, 3, 0, 0), (81, .dup2, 0, 0, 0), (82, .iaload, 0, 0, 0), (83, .iconst 0, 0, 0, 1), (84, .iadd, 0, 0, 0), (85, .iastore, 0, 0, 0), (86, .aload 0, 2, 0, 0), (87, .iload 0, 6, 0, 0), (89, .baload, 0, 0, 0), (90, .ifCond .eq 0, 117, 0, 0), (93, .aload 0, 0, 0, 0), (94, .getfield 0, 19, 1, 5), (97, .iload 0, 6, 0, 0), (99, .iaload, 0, 0, 0), (100, .iconst 0, 0, 0, (-1)), (101, .if_icmp .ne 0, 117, 0, 0), (104, .aload 0, 0, 0, 0), (105, .iload 0, 6, 0, 0), (107, .iload 0, 3, 0, 0), (108, .invokevirtual 0, 110, 3, 19), (111, .iload 0, 6, 0, 0), (113, .istore 0, 3, 0, 0), (114, .goto 0, 146, 0, 0)]
def B_Wy_cutPart_117 : List Ent := [(117, .aload 0, 2, 0, 0), (118, .iload 0, 6, 0, 0), (120, .baload, 0, 0, 0), (121, .ifCond .eq 0, 146, 0, 0), (124, .aload 0, 0, 0, 0), (125, .getfield 0, 19, 1, 6), (128, .iload 0, 3, 0, 0), (129, .aload 0, 0, 0, 0), (130, .getfield 0, 19, 1, 6), (133, .iload 0, 3, 0, 0), (134, .iaload, 0, 0, 0), (135, .aload 0, 0, 0, 0), (136, .getfield 0, 19, 1, 5), (139, .iload 0, 6, 0, 0), (141, .iaload, 0, 0, 0), (142, .ladd, 0, 0, 0), (145, .iastore, 0, 0, 0), (146, .goto_w 0, 146, 0, 0)]
def B_Wy_cutPart_146 : List Ent := [(146, .iinc 0 0, 5, 0, 1), (149, .goto 0, 16, 0, 0)]
def B_Wy_cutPart_152 : List Ent := [(152, .return_, 0, 0, 0)]
def lb_Wy_cutPart : List (Nat × List Ent) := [(0, B_Wy_cutPart_0), (16, B_Wy_cutPart_16), (56, B_Wy_cutPart_56), (117, B_Wy_cutPart_117), (146, B_Wy_cutPart_146), (152, B_Wy_cutPart_152)]
def B_Wy_enter_0 : List Ent := [(0, .aload 0, 0, 0, 0), (1, .getfield 0, 19, 1, 5), (4, .iload 0, 1, 0, 0), (5, .aload 0, 0, 0, 0), (6, .getfield 0, 19, 0, 11), (9, .iastore, 0, 0, 0), (10, .aload 0, 0, 0, 0), (11, .getfield 0, 19, 1, 6), (14, .iload 0, 1, 0, 0), (15, .aload 0, 0, 0, 0), (16, .getfield 0, 19, 0, 11), (19, .iastore, 0, 0, 0), (20, .aload 0, 0, 0, 0), (21, .getfield 0, 19, 1, 7), (24, .iload 0, 1, 0, 0), (25, .iload 0, 2, 0, 0), (26, .iastore, 0, 0, 0), (27, .aload 0, 0, 0, 0), (28, .getfield 0, 19, 1, 8), (31, .iload 0, 1, 0, 0), (32, .iconst 0, 0, 0, 0), (33, .iastore, 0, 0, 0), (34, .aload 0, 0, 0, 0), (35, .getfield 0, 19, 1, 2), (38, .iload 0, 1, 0, 0), (39, .iload 0, 2, 0, 0), (40, .iconst 0, 0, 0, (-1)), (41, .if_icmp .ne 0, 48, 0, 0), (44, .iconst 0, 0, 0, 0), (45, .goto 0, 49, 0, 0)]
def B_Wy_enter_48 : List Ent := [(48, .iconst 0, 0, 0, 1), (49, .goto_w 0, 49, 0, 0)]
def B_Wy_enter_49 : List Ent := [(49, .iastore, 0, 0, 0), (50, .aload 0, 0, 0, 0), (51, .dup, 0, 0, 0), (52, .getfield 0, 19, 0, 11), (55, .iconst 0, 0, 0, 1), (56, .iadd, 0, 0, 0), (57, .putfield 0, 19, 0, 11), (60, .return_, 0, 0, 0)]
def lb_Wy_enter : List (Nat × List Ent) := [(0, B_Wy_enter_0), (48, B_Wy_enter_48), (49, B_Wy_enter_49)]
def B_Wy_leave_0 : List Ent := [(0, .aload 0, 0, 0, 0), (1, .getfield 0, 19, 1, 7), (4, .iload 0, 1, 0, 0), (5, .iaload, 0, 0, 0), (6, .istore 0, 2, 0, 0), (7, .iload 0, 2, 0, 0), (8, .iconst 0, 0, 0, (-1)), (9, .if_icmp .ne 0, 13, 0, 0), (12, .return_, 0, 0, 0)]
def B_Wy_leave_13 : List Ent := [(13, .aload 0, 0, 0, 0), (14, .getfield 0, 19, 1, 6), (17, .iload 0, 2, 0, 0), (18, .aload 0, 0, 0, 0), (19, .getfield 0, 19, 1, 6), (22, .iload 0, 2, 0, 0), (23, .iaload, 0, 0, 0), (24, .aload 0, 0, 0, 0), (25, .getfield 0, 19, 1, 6), (28, .iload 0, 1, 0, 0), (29, .iaload, 0, 0, 0), (30, .ladd, 0, 0, 0), (33, .iastore, 0, 0, 0), (34, .aload 0, 0, 0, 0), (35, .getfield 0, 19, 1, 6), (38, .iload 0, 1, 0, 0), (39, .iaload, 0, 0, 0), (40, .aload 0, 0, 0, 0), (41, .getfield 0, 19, 1, 5), (44, .iload 0, 2, 0, 0), (45, .iaload, 0, 0, 0), (46, .if_icmp .lt 0, 59, 0, 0), (49, .aload 0, 0, 0, 0), (50, .getfield 0, 19, 1, 2), (53, .iload 0, 2, 0, 0), (54, .dup2, 0, 0, 0), (55, .iaload, 0, 0, 0), (56, .iconst 0, 0, 0, 1), (57, .iadd, 0, 0, 0), (58, .iastore, 0, 0, 0), (59, .goto_w 0, 59, 0, 0)]
def B_Wy_leave_59 : List Ent := [(59, .return_, 0, 0, 0)]
def lb_Wy_leave : List (Nat × List Ent) := [(0, B_Wy_leave_0), (13, B_Wy_leave_13), (59, B_Wy_leave_59)]
def B_Wd_longer_0 : List Ent := [(0, .iload 0, 0, 0, 0), (1, .iconst 0, 0, 0, 25), (3, .ishr, 0, 0, 0), (4, .ifCond .eq 0, 10, 0, 0), (7, .iconst 0, 0, 0, 1073741824), (9, .ireturn, 0, 0, 0)]
def B_Wd_longer_10 : List Ent := [(10, .iload 0, 0, 0, 0), (11, .iconst 0, 0, 0, 5), (12, .ishl, 0, 0, 0), (13, .iload 0, 1, 0, 0), (14, .iconst 0, 0, 0, 96), (16, .isub, 0, 0, 0), (17, .ior, 0, 0, 0), (18, .ireturn, 0, 0, 0)]
def lb_Wd_longer : List (Nat × List Ent) := [(0, B_Wd_longer_0), (10, B_Wd_longer_10)]
def B_Wd_isQuoted_0 : List Ent := [(0, .iconst 0, 0, 0, 0), (1, .istore 0, 1, 0, 0), (2, .goto_w 0, 2, 0, 0)]
def B_Wd_isQuoted_2 : List Ent := [(2, .iload 0, 1, 0, 0), (3, .ldc 0, 15, 0, 0), (6, .arraylength, 0, 0, 0), (7, .if_icmp .ge 0, 30, 0, 0), (10, .ldc 0, 15, 0, 0), (13, .iload 0, 1, 0, 0), (14, .aaload, 0, 0, 0), (15, .getfield 0, 23, 0, 0), (18, .iload 0, 0, 0, 0), (19, .if_icmp .ne 0, 24, 0, 0), (22, .iconst 0, 0, 0, 1), (23, .ireturn, 0, 1, 0)]
def B_Wd_isQuoted_24 : List Ent := [(24, .iinc 0 0, 1, 0, 1), (27, .goto 0, 2, 0, 0)]
def B_Wd_isQuoted_30 : List Ent := [(30, .iconst 0, 0, 0, 0), (31, .ireturn, 0, 1, 0)]
def lb_Wd_isQuoted : List (Nat × List Ent) := [(0, B_Wd_isQuoted_0), (2, B_Wd_isQuoted_2), (24, B_Wd_isQuoted_24), (30, B_Wd_isQuoted_30)]
def B_SC_init_0 : List Ent := [(0, .aload 0, 0, 0, 0), (1, .checkcast 0, 0, 0, 0), (4, .aload 0, 0, 0, 0), (5, .iconst 0, 0, 0, 800), (8, .newarray .byte, 0, 0, 0), (10, .putfield 0, 20, 1, 0), (13, .aload 0, 0, 0, 0), (14, .iconst 0, 0, 0, 0), (15, .putfield 0, 20, 0, 1), (18, .aload 0, 0, 0, 0), (19, .iconst 0, 0, 0, (-1)), (20, .putfield 0, 20, 0, 2), (23, .aload 0, 0, 0, 0), (24, .new 0, 10, 6, 0), (27, .dup, 0, 0, 0), (28, .invokespecial 0, 9, 1, 10), (31, .putfield 0, 20, 1, 3), (34, .aload 0, 0, 0, 0), (35, .new 0, 13, 8, 0), (38, .dup, 0, 0, 0), (39, .invokespecial 0, 38, 1, 13), (42, .putfield 0, 20, 1, 4), (45, .aload 0, 0, 0, 0), (46, .new 0, 12, 9, 0), (49, .dup, 0, 0, 0), (50, .aload 0, 0, 0, 0), (51, .getfield 0, 20, 1, 3), (54, .aload 0, 0, 0, 0), (55, .getfield 0, 20, 1, 4), (58, .invokespecial 0, 28, 3, 12), (61, .putfield 0, 20, 1, 5), (64, .aload 0, 0, 0, 0), (65, .new 0, 18, 7, 0), (68, .dup, 0, 0, 0), (69, .aload 0, 0, 0, 0), (70, .getfield 0, 20, 1, 3), (73, .aload 0, 0, 0, 0), (74, .getfield 0, 20, 1, 4), (77, .aload 0, 0, 0, 0), (78, .getfield 0, 20, 1, 5), (81, .invokespecial 0, 85, 4, 18), (84, .putfield 0, 20, 1, 6), (87, .aload 0, 0, 0, 0), (88, .new 0, 19, 13, 0), (91, .dup, 0, 0, 0), (92, .aload 0, 0, 0, 0), (93, .getfield 0, 20, 1, 3), (96, .invokespecial 0, 96, 2, 19), (99, .putfield 0, 20, 1, 7), (102, .aload 0, 0, 0, 0), (103, .new 0, 11, 5, 0), (106, .dup, 0, 0, 0), (107, .invokespecial 0, 22, 1, 11), (110, .putfield 0, 20, 1, 8), (113, .aload 0, 0, 0, 0), (114, .new 0, 17, 9, 0), (117, .dup, 0, 0, 0), (118, .invokespecial 0, 73, 1, 17), (121, .putfield 0, 20, 1, 9), (124, .aload 0, 0, 0, 0), (125, .new 0, 15, 4, 0), (128, .dup, 0, 0, 0), (129, .aload 0, 0, 0, 0), (130, .getfield 0, 20, 1, 9), (133, .aload 0, 0, 0, 0), (134, .getfield 0, 20, 1, 3), (137, .invokespecial 0, 55, 3, 15), (140, .putfield 0, 20, 1, 10), (143, .aload 0, 0, 0, 0), (144, .new 0, 16, 4, 0), (147, .dup, 0, 0, 0), (148, .aload 0, 0, 0, 0), (149, .getfield 0, 20, 1, 9), (152, .aload 0, 0, 0, 0), (153, .getfield 0, 20, 1, 10), (156, .invokespecial 0, 65, 3, 16), (159, .putfield 0, 20, 1, 11), (162, .aload 0, 0, 0, 0), (163, .iconst 0, 0, 0, 252), (166, .newarray .boolean, 0, 0, 0), (168, .putfield 0, 20, 1, 12), (171, .aload 0, 0, 0, 0), (172, .iconst 0, 0, 0, 65), (174, .newarray .int, 0, 0, 0), (176, .putfield 0, 20, 1, 13), (179, .aload 0, 0, 0, 0), (180, .iconst 0, 0, 0, 0), (181, .putfield 0, 20, 0, 14), (184, .aload 0, 0, 0, 0), (185, .getfield 0, 20, 1, 3), (188, .iconst 0, 0, 0, 2), (189, .putfield 0, 10, 0, 4), (192, .iconst 0, 0, 0, 0), (193, .istore 0, 1, 0, 0), (194, .goto_w 0, 194, 0, 0)]
def B_SC_init_194 : List Ent := [(194, .iload 0, 1, 0, 0), (195, .iconst 0, 0, 0, 4), (196, .if_icmp .ge 0, 227, 0, 0), (199, .aload 0, 0, 0, 0), (200, .getfield 0, 20, 1, 3), (203, .iload 0, 1, 0, 0), (204, .iconst 0, 0, 0, 1), (205, .iadd, 0, 0, 0), (206, .invokevirtual 0, 11, 2, 10), (209, .aload 0, 0, 0, 0), (210, .getfield 0, 20, 1, 4), (213, .getfield 0, 13, 1, 0), (216, .iload 0, 1, 0, 0), (217, .iload 0, 1, 0, 0), (218, .iconst 0, 0, 0, 1), (219, .iadd, 0, 0, 0), (220, .iastore, 0, 0, 0), (221, .iinc 0 0, 1, 0, 1), (224, .goto 0, 194, 0, 0)]
def B_SC_init_227 : List Ent := [(227, .aload 0, 0, 0, 0), (228, .getfield 0, 20, 1, 3), (231, .invokevirtual 0, 13, 1, 10), (234, .return_, 0, 0, 0)]
def lb_SC_init : List (Nat × List Ent) := [(0, B_SC_init_0), (194, B_SC_init_194), (227, B_SC_init_227)]
def B_SC_feed_0 : List Ent := [(0, .aload 0, 0, 0, 0), (1, .getfield 0, 20, 0, 1), (4, .iconst 0, 0, 0, 20), (6, .iadd, 0, 0, 0), (7, .iconst 0, 0, 0, 800), (10, .if_icmp .le 0, 15, 0, 0), (13, .iconst 0, 0, 0, (-1)), (14, .ireturn, 0, 0, 0)]
def B_SC_feed_15 : List Ent := [(15, .aload 0, 0, 0, 0), (16, .iload 0, 1, 0, 0), (17, .invokevirtual 0, 116, 2, 20), (20, .aload 0, 0, 0, 0), (21, .iload 0, 2, 0, 0), (22, .invokevirtual 0, 116, 2, 20), (25, .aload 0, 0, 0, 0), (26, .iload 0, 3, 0, 0), (27, .invokevirtual 0, 116, 2, 20), (30, .aload 0, 0, 0, 0), (31, .iload 0, 4, 0, 0), (33, .invokevirtual 0, 116, 2, 20), (36, .aload 0, 0, 0, 0), (37, .iload 0, 5, 0, 0), (39, .invokevirtual 0, 116, 2, 20), (42, .aload 0, 0, 0, 0), (43, .getfield 0, 20, 0, 1), (46, .ireturn, 0, 0, 0)]
def lb_SC_feed : List (Nat × List Ent) := [(0, B_SC_feed_0), (15, B_SC_feed_15)]
def B_SC_append_0 : List Ent := [(0, .iconst 0, 0, 0, 24), (2, .istore 0, 2, 0, 0), (3, .goto_w 0, 3, 0, 0)]
def B_SC_append_3 : List Ent := [(3, .iload 0, 2, 0, 0), (4, .ifCond .lt 0, 48, 0, 0), (7, .aload 0, 0, 0, 0), (8, .getfield 0, 20, 0, 1), (11, .aload 0, 0, 0, 0), (12, .getfield 0, 20, 1, 0), (15, .arraylength, 0, 0, 0), (16, .if_icmp .ge 0, 42, 0, 0), (19, .aload 0, 0, 0, 0), (20, .getfield 0, 20, 1, 0), (23, .aload 0, 0, 0, 0), (24, .getfield 0, 20, 0, 1), (27, .iload 0, 1, 0, 0), (28, .iload 0, 2, 0, 0), (29, .ishr, 0, 0, 0), (30, .i2b, 0, 0, 0), (31, .bastore, 0, 0, 0), (32, .aload 0, 0, 0, 0), (33, .dup, 0, 0, 0), (34, .getfield 0, 20, 0, 1), (37, .iconst 0, 0, 0, 1), (38, .iadd, 0, 0, 0), (39, .putfield 0, 20, 0, 1), (42, .goto_w 0, 42, 0, 0)]
def B_SC_append_42 : List Ent := [(42, .iinc 0 0, 2, 0, (-8)), (45, .goto 0, 3, 0, 0)]
def B_SC_append_48 : List Ent := [(48, .return_, 0, 0, 0)]
def lb_SC_append : List (Nat × List Ent) := [(0, B_SC_append_0), (3, B_SC_append_3), (42, B_SC_append_42), (48, B_SC_append_48)]
def B_SC_load_0 : List Ent := [(0, .iload 0, 1, 0, 0), (1, .ifCond .lt 0, 12, 0, 0), (4, .iload 0, 1, 0, 0), (5, .aload 0, 0, 0, 0), (6, .getfield 0, 20, 0, 1), (9, .if_icmp .le 0, 20, 0, 0), (12, .goto_w 0, 12, 0, 0)]
def B_SC_load_12 : List Ent := [(12, .athrow, 0, 0, 0)]
def B_SC_load_20 : List Ent := [(20, .aload 0, 0, 0, 0), (21, .iload 0, 1, 0, 0), (22, .invokevirtual 0, 118, 2, 20), (25, .aload 0, 0, 0, 0), (26, .getfield 0, 20, 1, 11), (29, .invokevirtual 0, 66, 1, 16), (32, .istore 0, 2, 0, 0), (33, .aload 0, 0, 0, 0), (34, .aload 0, 0, 0, 0), (35, .getfield 0, 20, 1, 9), (38, .getfield 0, 17, 0, 1), (41, .putfield 0, 20, 0, 2), (44, .iload 0, 2, 0, 0), (45, .ifCond .ne 0, 59, 0, 0), (48, .iconst 0, 0, 0, (-10)), (50, .aload 0, 0, 0, 0), (51, .getfield 0, 20, 1, 9), (54, .getfield 0, 17, 0, 0), (57, .isub, 0, 0, 0), (58, .ireturn, 0, 0, 0)]
def B_SC_load_59 : List Ent := [(59, .aload 0, 0, 0, 0), (60, .getfield 0, 20, 1, 3), (63, .aload 0, 0, 0, 0), (64, .getfield 0, 20, 1, 11), (67, .getfield 0, 16, 1, 0), (70, .invokevirtual 0, 21, 2, 10), (73, .aload 0, 0, 0, 0), (74, .getfield 0, 20, 1, 4), (77, .aload 0, 0, 0, 0), (78, .getfield 0, 20, 1, 11), (81, .getfield 0, 16, 1, 1), (84, .invokevirtual 0, 47, 2, 13), (87, .aload 0, 0, 0, 0), (88, .getfield 0, 20, 1, 8), (91, .invokevirtual 0, 27, 1, 11), (94, .aload 0, 0, 0, 0), (95, .getfield 0, 20, 1, 5), (98, .invokevirtual 0, 29, 1, 12), (101, .aload 0, 0, 0, 0), (102, .getfield 0, 20, 1, 7), (105, .invokevirtual 0, 97, 1, 19), (108, .aload 0, 0, 0, 0), (109, .getfield 0, 20, 1, 5), (112, .invokevirtual 0, 31, 1, 12), (115, .aload 0, 0, 0, 0), (116, .getfield 0, 20, 1, 5), (119, .getfield 0, 12, 0, 4), (122, .ireturn, 0, 0, 0)]
def lb_SC_load : List (Nat × List Ent) := [(0, B_SC_load_0), (12, B_SC_load_12), (20, B_SC_load_20), (59, B_SC_load_59)]
def B_SC_takeBuffer_0 : List Ent := [(0, .aload 0, 0, 0, 0), (1, .getfield 0, 20, 1, 9), (4, .aload 0, 0, 0, 0), (5, .getfield 0, 20, 1, 0), (8, .iload 0, 1, 0, 0), (9, .invokevirtual 0, 74, 3, 17), (12, .aload 0, 0, 0, 0), (13, .iconst 0, 0, 0, 0), (14, .putfield 0, 20, 0, 1), (17, .return_, 0, 0, 0)]
def lb_SC_takeBuffer : List (Nat × List Ent) := [(0, B_SC_takeBuffer_0)]
def B_SC_errorPosition_0 : List Ent := [(0, .aload 0, 0, 0, 0), (1, .getfield 0, 20, 0, 2), (4, .ireturn, 0, 0, 0)]
def lb_SC_errorPosition : List (Nat × List Ent) := [(0, B_SC_errorPosition_0)]
def B_SC_size_0 : List Ent := [(0, .aload 0, 0, 0, 0), (1, .getfield 0, 20, 1, 5), (4, .invokevirtual 0, 31, 1, 12), (7, .iload 0, 1, 0, 0), (8, .tableswitch 191 0 13 #[72, 80, 88, 96, 104, 112, 120, 128, 139, 147, 155, 163, 168, 183], 0, 0, 0)]
def B_SC_size_80 : List Ent := [(80, .aload 0, 0, 0, 0), (81, .getfield 0, 20, 1, 3), (84, .getfield 0, 10, 0, 3), (87, .ireturn, 0, 0, 0)]
def B_SC_size_88 : List Ent := [(88, .aload 0, 0, 0, 0), (89, .getfield 0, 20, 1, 3), (92, .getfield 0, 10, 0, 4), (95, .ireturn, 0, 0, 0)]
def B_SC_size_96 : List Ent := [(96, .aload 0, 0, 0, 0), (97, .getfield 0, 20, 1, 3), (100, .getfield 0, 10, 0, 5), (103, .ireturn, 0, 0, 0)]
def B_SC_size_104 : List Ent := [(104, .aload 0, 0, 0, 0), (105, .getfield 0, 20, 1, 5), (108, .getfield 0, 12, 0, 4), (111, .ireturn, 0, 0, 0)]
def B_SC_size_112 : List Ent := [(112, .aload 0, 0, 0, 0), (113, .getfield 0, 20, 1, 4), (116, .getfield 0, 13, 0, 7), (119, .ireturn, 0, 0, 0)]
def B_SC_size_120 : List Ent := [(120, .aload 0, 0, 0, 0), (121, .getfield 0, 20, 1, 4), (124, .invokevirtual 0, 42, 1, 13), (127, .ireturn, 0, 0, 0)]
def B_SC_size_128 : List Ent := [(128, .aload 0, 0, 0, 0), (129, .getfield 0, 20, 1, 4), (132, .getfield 0, 13, 0, 4), (135, .ireturn, 0, 0, 0)]
def B_SC_size_136 : List Ent := [(136, .aload 0, 0, 0, 0), (137, .getfield 0, 20, 1, 4), (140, .getfield 0, 13, 0, 5), (143, .invokestatic 0, 0, 1, 0), (146, .ireturn, 0, 0, 0)]
def B_SC_size_147 : List Ent := [(147, .aload 0, 0, 0, 0), (148, .getfield 0, 20, 1, 4), (151, .getfield 0, 13, 0, 6), (154, .ireturn, 0, 0, 0)]
def B_SC_size_155 : List Ent := [(155, .aload 0, 0, 0, 0), (156, .getfield 0, 20, 1, 4), (159, .invokevirtual 0, 40, 1, 13), (162, .ireturn, 0, 0, 0)]
def B_SC_size_163 : List Ent := [(163, .aload 0, 0, 0, 0), (164, .getfield 0, 20, 1, 4), (167, .getfield 0, 13, 0, 7), (170, .ireturn, 0, 0, 0)]
def B_SC_size_171 : List Ent := [(171, .aload 0, 0, 0, 0), (172, .invokevirtual 0, 121, 1, 20), (175, .ireturn, 0, 0, 0)]
def B_SC_size_176 : List Ent := [(176, .aload 0, 0, 0, 0), (177, .getfield 0, 20, 1, 7), (180, .aload 0, 0, 0, 0), (181, .getfield 0, 20, 1, 5), (184, .getfield 0, 12, 1, 3), (187, .invokevirtual 0, 101, 2, 19), (190, .ireturn, 0, 0, 0)]
def B_SC_size_191 : List Ent := [(191, .aload 0, 0, 0, 0), (192, .getfield 0, 20, 1, 5), (195, .invokevirtual 0, 34, 1, 12), (198, .ireturn, 0, 0, 0)]
def B_SC_size_199 : List Ent := [(199, .athrow, 0, 0, 0)]
def lb_SC_size : List (Nat × List Ent) := [(0, B_SC_size_0), (80, B_SC_size_80), (88, B_SC_size_88), (96, B_SC_size_96), (104, B_SC_size_104), (112, B_SC_size_112), (120, B_SC_size_120), (128, B_SC_size_128), (136, B_SC_size_136), (147, B_SC_size_147), (155, B_SC_size_155), (163, B_SC_size_163), (171, B_SC_size_171), (176, B_SC_size_176), (191, B_SC_size_191), (199, B_SC_size_199)]
def B_SC_trailSwaps_0 : List Ent := [(0, .iconst 0, 0, 0, 0), (1, .istore 0, 1, 0, 0), (2, .iconst 0, 0, 0, 1), (3, .istore 0, 2, 0, 0), (4, .goto_w 0, 4, 0, 0)]
def B_SC_trailSwaps_4 : List Ent := [(4, .iload 0, 2, 0, 0), (5, .aload 0, 0, 0, 0), (6, .getfield 0, 20, 1, 4), (9, .getfield 0, 13, 0, 7), (12, .if_icmp .ge 0, 51, 0, 0), (15, .iload 0, 1, 0, 0), (16, .aload 0, 0, 0, 0), (17, .getfield 0, 20, 1, 3), (20, .aload 0, 0, 0, 0), (21, .getfield 0, 20, 1, 4), (24, .getfield 0, 13, 1, 3), (27, .iload 0, 2, 0, 0), (28, .iconst 0, 0, 0, 1), (29, .isub, 0, 0, 0), (30, .iaload, 0, 0, 0), (31, .aload 0, 0, 0, 0), (32, .getfield 0, 20, 1, 4), (35, .getfield 0, 13, 1, 3), (38, .iload 0, 2, 0, 0), (39, .iaload, 0, 0, 0), (40, .invokevirtual 0, 17, 3, 10), (43, .iadd, 0, 0, 0), (44, .istore 0, 1, 0, 0), (45, .iinc 0 0, 2, 0, 1), (48, .goto 0, 4, 0, 0)]
def B_SC_trailSwaps_51 : List Ent := [(51, .iload 0, 1, 0, 0), (52, .ireturn, 0, 0, 0)]
def lb_SC_trailSwaps : List (Nat × List Ent) := [(0, B_SC_trailSwaps_0), (4, B_SC_trailSwaps_4), (51, B_SC_trailSwaps_51)]
def B_SC_weight_0 : List Ent := [(0, .aload 0, 0, 0, 0), (1, .iload 0, 1, 0, 0), (2, .invokevirtual 0, 126, 2, 20), (5, .aload 0, 0, 0, 0), (6, .getfield 0, 20, 1, 4), (9, .getfield 0, 13, 1, 0), (12, .iload 0, 1, 0, 0), (13, .iaload, 0, 0, 0), (14, .ireturn, 0, 0, 0)]
def lb_SC_weight : List (Nat × List Ent) := [(0, B_SC_weight_0)]
def B_SC_nameByte_0 : List Ent := [(0, .aload 0, 0, 0, 0), (1, .iload 0, 1, 0, 0), (2, .invokevirtual 0, 126, 2, 20), (5, .aload 0, 0, 0, 0), (6, .getfield 0, 20, 1, 3), (9, .getfield 0, 10, 1, 0), (12, .iload 0, 1, 0, 0), (13, .iaload, 0, 0, 0), (14, .istore 0, 3, 0, 0), (15, .iload 0, 2, 0, 0), (16, .ifCond .lt 0, 27, 0, 0), (19, .iload 0, 2, 0, 0), (20, .iload 0, 3, 0, 0), (21, .invokestatic 0, 124, 1, 0), (24, .if_icmp .lt 0, 29, 0, 0), (27, .goto_w 0, 27, 0, 0)]
def B_SC_nameByte_27 : List Ent := [(27, .iconst 0, 0, 0, (-1)), (28, .ireturn, 0, 0, 0)]
def B_SC_nameByte_29 : List Ent := [(29, .iload 0, 3, 0, 0), (30, .iload 0, 2, 0, 0), (31, .invokestatic 0, 125, 2, 0), (34, .ireturn, 0, 0, 0)]
def lb_SC_nameByte : List (Nat × List Ent) := [(0, B_SC_nameByte_0), (27, B_SC_nameByte_27), (29, B_SC_nameByte_29)]
def B_SC_lettersOf_0 : List Ent := [(0, .iconst 0, 0, 0, 0), (1, .istore 0, 1, 0, 0), (2, .iconst 0, 0, 0, 0), (3, .istore 0, 2, 0, 0), (4, .goto_w 0, 4, 0, 0)]
def B_SC_lettersOf_4 : List Ent := [(4, .iload 0, 2, 0, 0), (5, .iconst 0, 0, 0, 6), (7, .if_icmp .ge 0, 27, 0, 0), (10, .iload 0, 0, 0, 0), (11, .iload 0, 2, 0, 0), (12, .iconst 0, 0, 0, 5), (13, .imul, 0, 0, 0), (14, .ishr, 0, 0, 0), (15, .ifCond .eq 0, 21, 0, 0), (18, .iinc 0 0, 1, 0, 1), (21, .goto_w 0, 21, 0, 0)]
def B_SC_lettersOf_21 : List Ent := [(21, .iinc 0 0, 2, 0, 1), (24, .goto 0, 4, 0, 0)]
def B_SC_lettersOf_27 : List Ent := [(27, .iload 0, 1, 0, 0), (28, .ireturn, 0, 0, 0)]
def lb_SC_lettersOf : List (Nat × List Ent) := [(0, B_SC_lettersOf_0), (4, B_SC_lettersOf_4), (21, B_SC_lettersOf_21), (27, B_SC_lettersOf_27)]
def B_SC_letterAt_0 : List Ent := [(0, .iload 0, 0, 0, 0), (1, .invokestatic 0, 124, 1, 0), (4, .iconst 0, 0, 0, 1), (5, .isub, 0, 0, 0), (6, .iload 0, 1, 0, 0), (7, .isub, 0, 0, 0), (8, .istore 0, 2, 0, 0), (9, .iconst 0, 0, 0, 96), (11, .iload 0, 0, 0, 0), (12, .iload 0, 2, 0, 0), (13, .iconst 0, 0, 0, 5), (14, .imul, 0, 0, 0), (15, .ishr, 0, 0, 0), (16, .iconst 0, 0, 0, 31), (18, .iand, 0, 0, 0), (19, .iadd, 0, 0, 0), (20, .ireturn, 0, 0, 0)]
def lb_SC_letterAt : List (Nat × List Ent) := [(0, B_SC_letterAt_0)]
def B_SC_needThing_0 : List Ent := [(0, .iload 0, 1, 0, 0), (1, .ifCond .lt 0, 15, 0, 0), (4, .iload 0, 1, 0, 0), (5, .aload 0, 0, 0, 0), (6, .getfield 0, 20, 1, 3), (9, .getfield 0, 10, 0, 3), (12, .if_icmp .lt 0, 23, 0, 0), (15, .goto_w 0, 15, 0, 0)]
def B_SC_needThing_15 : List Ent := [(15, .athrow, 1, 0, 0)]
def B_SC_needThing_23 : List Ent := [(23, .return_, 0, 0, 0)]
def lb_SC_needThing : List (Nat × List Ent) := [(0, B_SC_needThing_0), (15, B_SC_needThing_15), (23, B_SC_needThing_23)]
def B_SC_needChoice_0 : List Ent := [(0, .iload 0, 1, 0, 0), (1, .ifCond .lt 0, 15, 0, 0), (4, .iload 0, 1, 0, 0), (5, .aload 0, 0, 0, 0), (6, .getfield 0, 20, 1, 3), (9, .getfield 0, 10, 0, 5), (12, .if_icmp .lt 0, 23, 0, 0), (15, .goto_w 0, 15, 0, 0)]
def B_SC_needChoice_15 : List Ent := [(15, .athrow, 1, 0, 0)]
def B_SC_needChoice_23 : List Ent := [(23, .return_, 0, 0, 0)]
def lb_SC_needChoice : List (Nat × List Ent) := [(0, B_SC_needChoice_0), (15, B_SC_needChoice_15), (23, B_SC_needChoice_23)]
def B_SC_needRule_0 : List Ent := [(0, .iload 0, 1, 0, 0), (1, .ifCond .lt 0, 15, 0, 0), (4, .iload 0, 1, 0, 0), (5, .aload 0, 0, 0, 0), (6, .getfield 0, 20, 1, 4), (9, .getfield 0, 13, 0, 4), (12, .if_icmp .lt 0, 23, 0, 0), (15, .goto_w 0, 15, 0, 0)]
def B_SC_needRule_15 : List Ent := [(15, .athrow, 1, 0, 0)]
def B_SC_needRule_23 : List Ent := [(23, .return_, 0, 0, 0)]
def lb_SC_needRule : List (Nat × List Ent) := [(0, B_SC_needRule_0), (15, B_SC_needRule_15), (23, B_SC_needRule_23)]
def B_SC_choice_0 : List Ent := [(0, .aload 0, 0, 0, 0), (1, .iload 0, 1, 0, 0), (2, .invokevirtual 0, 127, 2, 20), (5, .aload 0, 0, 0, 0), (6, .getfield 0, 20, 1, 5), (9, .invokevirtual 0, 31, 1, 12), (12, .iload 0, 2, 0, 0), (13, .tableswitch 215 0 9 #[55, 65, 75, 93, 112, 130, 147, 164, 189, 205], 0, 0, 0)]
def B_SC_choice_68 : List Ent := [(68, .aload 0, 0, 0, 0), (69, .getfield 0, 20, 1, 3), (72, .getfield 0, 10, 1, 1), (75, .iload 0, 1, 0, 0), (76, .iaload, 0, 0, 0), (77, .ireturn, 0, 0, 0)]
def B_SC_choice_78 : List Ent := [(78, .aload 0, 0, 0, 0), (79, .getfield 0, 20, 1, 5), (82, .getfield 0, 12, 1, 0), (85, .iload 0, 1, 0, 0), (86, .iaload, 0, 0, 0), (87, .ireturn, 0, 0, 0)]
def B_SC_choice_88 : List Ent := [(88, .aload 0, 0, 0, 0), (89, .getfield 0, 20, 1, 5), (92, .getfield 0, 12, 1, 3), (95, .iload 0, 1, 0, 0), (96, .baload, 0, 0, 0), (97, .ifCond .eq 0, 104, 0, 0), (100, .iconst 0, 0, 0, 1), (101, .goto 0, 105, 0, 0)]
def B_SC_choice_104 : List Ent := [(104, .iconst 0, 0, 0, 0), (105, .goto_w 0, 105, 0, 0)]
def B_SC_choice_105 : List Ent := [(105, .ireturn, 0, 0, 0)]
def B_SC_choice_106 : List Ent := [(106, .aload 0, 0, 0, 0), (107, .getfield 0, 20, 1, 5), (110, .getfield 0, 12, 1, 2), (113, .iload 0, 1, 0, 0), (114, .iaload, 0, 0, 0), (115, .iconst 0, 0, 0, (-1)), (116, .if_icmp .eq 0, 123, 0, 0), (119, .iconst 0, 0, 0, 1), (120, .goto 0, 124, 0, 0)]
def B_SC_choice_123 : List Ent := [(123, .iconst 0, 0, 0, 0), (124, .goto_w 0, 124, 0, 0)]
def B_SC_choice_124 : List Ent := [(124, .ireturn, 0, 0, 0)]
def B_SC_choice_125 : List Ent := [(125, .aload 0, 0, 0, 0), (126, .getfield 0, 20, 1, 4), (129, .getfield 0, 13, 1, 1), (132, .iload 0, 1, 0, 0), (133, .baload, 0, 0, 0), (134, .ifCond .eq 0, 141, 0, 0), (137, .iconst 0, 0, 0, 1), (138, .goto 0, 142, 0, 0)]
def B_SC_choice_141 : List Ent := [(141, .iconst 0, 0, 0, 0), (142, .goto_w 0, 142, 0, 0)]
def B_SC_choice_142 : List Ent := [(142, .ireturn, 0, 0, 0)]
def B_SC_choice_143 : List Ent := [(143, .aload 0, 0, 0, 0), (144, .getfield 0, 20, 1, 3), (147, .aload 0, 0, 0, 0), (148, .getfield 0, 20, 1, 3), (151, .iload 0, 1, 0, 0), (152, .invokevirtual 0, 18, 2, 10), (155, .iload 0, 1, 0, 0), (156, .invokevirtual 0, 20, 3, 10), (159, .ireturn, 0, 0, 0)]
def B_SC_choice_160 : List Ent := [(160, .aload 0, 0, 0, 0), (161, .getfield 0, 20, 1, 3), (164, .iload 0, 1, 0, 0), (165, .aload 0, 0, 0, 0), (166, .getfield 0, 20, 1, 3), (169, .iload 0, 1, 0, 0), (170, .invokevirtual 0, 18, 2, 10), (173, .invokevirtual 0, 20, 3, 10), (176, .ireturn, 0, 0, 0)]
def B_SC_choice_177 : List Ent := [(177, .aload 0, 0, 0, 0), (178, .getfield 0, 20, 1, 7), (181, .aload 0, 0, 0, 0), (182, .getfield 0, 20, 1, 5), (185, .getfield 0, 12, 1, 3), (188, .invokevirtual 0, 101, 2, 19), (191, .pop, 0, 0, 0), (192, .aload 0, 0, 0, 0), (193, .getfield 0, 20, 1, 7), (196, .getfield 0, 19, 1, 0), (199, .iload 0, 1, 0, 0), (200, .iaload, 0, 0, 0), (201, .ireturn, 0, 0, 0)]
def B_SC_choice_202 : List Ent := [(202, .aload 0, 0, 0, 0), (203, .getfield 0, 20, 1, 7), (206, .iload 0, 1, 0, 0), (207, .aload 0, 0, 0, 0), (208, .getfield 0, 20, 1, 5), (211, .getfield 0, 12, 1, 3), (214, .invokevirtual 0, 100, 3, 19), (217, .ireturn, 0, 0, 0)]
def B_SC_choice_218 : List Ent := [(218, .aload 0, 0, 0, 0), (219, .getfield 0, 20, 1, 5), (222, .getfield 0, 12, 1, 2), (225, .iload 0, 1, 0, 0), (226, .iaload, 0, 0, 0), (227, .ireturn, 0, 0, 0)]
def B_SC_choice_228 : List Ent := [(228, .athrow, 0, 0, 0)]
def lb_SC_choice : List (Nat × List Ent) := [(0, B_SC_choice_0), (68, B_SC_choice_68), (78, B_SC_choice_78), (88, B_SC_choice_88), (104, B_SC_choice_104), (105, B_SC_choice_105), (106, B_SC_choice_106), (123, B_SC_choice_123), (124, B_SC_choice_124), (125, B_SC_choice_125), (141, B_SC_choice_141), (142, B_SC_choice_142), (143, B_SC_choice_143), (160, B_SC_choice_160), (177, B_SC_choice_177), (202, B_SC_choice_202), (218, B_SC_choice_218), (228, B_SC_choice_228)]
def B_SC_numberOf_0 : List Ent := [(0, .aload 0, 0, 0, 0), (1, .getfield 0, 20, 1, 3), (4, .iload 0, 1, 0, 0), (5, .invokevirtual 0, 16, 2, 10), (8, .ireturn, 0, 0, 0)]
def lb_SC_numberOf : List (Nat × List Ent) := [(0, B_SC_numberOf_0)]
def B_SC_distance_0 : List Ent := [(0, .aload 0, 0, 0, 0), (1, .iload 0, 1, 0, 0), (2, .invokevirtual 0, 127, 2, 20), (5, .aload 0, 0, 0, 0), (6, .iload 0, 2, 0, 0), (7, .invokevirtual 0, 127, 2, 20), (10, .aload 0, 0, 0, 0), (11, .getfield 0, 20, 1, 3), (14, .iload 0, 1, 0, 0), (15, .iload 0, 2, 0, 0), (16, .invokevirtual 0, 17, 3, 10), (19, .ireturn, 0, 0, 0)]
def lb_SC_distance : List (Nat × List Ent) := [(0, B_SC_distance_0)]
def B_SC_swapped_0 : List Ent := [(0, .aload 0, 0, 0, 0), (1, .iload 0, 1, 0, 0), (2, .invokevirtual 0, 127, 2, 20), (5, .aload 0, 0, 0, 0), (6, .iload 0, 2, 0, 0), (7, .invokevirtual 0, 126, 2, 20), (10, .aload 0, 0, 0, 0), (11, .iload 0, 3, 0, 0), (12, .invokevirtual 0, 126, 2, 20), (15, .aload 0, 0, 0, 0), (16, .getfield 0, 20, 1, 3), (19, .iload 0, 1, 0, 0), (20, .iload 0, 2, 0, 0), (21, .iload 0, 3, 0, 0), (22, .invokevirtual 0, 19, 4, 10), (25, .ireturn, 0, 0, 0)]
def lb_SC_swapped : List (Nat × List Ent) := [(0, B_SC_swapped_0)]
def B_SC_nearest_0 : List Ent := [(0, .aload 0, 0, 0, 0), (1, .iload 0, 1, 0, 0), (2, .invokevirtual 0, 127, 2, 20), (5, .aload 0, 0, 0, 0), (6, .getfield 0, 20, 1, 5), (9, .invokevirtual 0, 31, 1, 12), (12, .iload 0, 2, 0, 0), (13, .ifCond .eq 0, 53, 0, 0), (16, .iload 0, 1, 0, 0), (17, .iconst 0, 0, 0, 1), (18, .iadd, 0, 0, 0), (19, .istore 0, 3, 0, 0), (20, .goto_w 0, 20, 0, 0)]
def B_SC_nearest_20 : List Ent := [(20, .iload 0, 3, 0, 0), (21, .aload 0, 0, 0, 0), (22, .getfield 0, 20, 1, 3), (25, .getfield 0, 10, 0, 5), (28, .if_icmp .ge 0, 51, 0, 0), (31, .aload 0, 0, 0, 0), (32, .getfield 0, 20, 1, 5), (35, .getfield 0, 12, 1, 3), (38, .iload 0, 3, 0, 0), (39, .baload, 0, 0, 0), (40, .ifCond .eq 0, 45, 0, 0), (43, .iload 0, 3, 0, 0), (44, .ireturn, 0, 0, 0)]
def B_SC_nearest_45 : List Ent := [(45, .iinc 0 0, 3, 0, 1), (48, .goto 0, 20, 0, 0)]
def B_SC_nearest_51 : List Ent := [(51, .iconst 0, 0, 0, (-1)), (52, .ireturn, 0, 0, 0)]
def B_SC_nearest_53 : List Ent := [(53, .iload 0, 1, 0, 0), (54, .iconst 0, 0, 0, 1), (55, .isub, 0, 0, 0), (56, .istore 0, 3, 0, 0), (57, .goto_w 0, 57, 0, 0)]
def B_SC_nearest_57 : List Ent := [(57, .iload 0, 3, 0, 0), (58, .ifCond .lt 0, 81, 0, 0), (61, .aload 0, 0, 0, 0), (62, .getfield 0, 20, 1, 5), (65, .getfield 0, 12, 1, 3), (68, .iload 0, 3, 0, 0), (69, .baload, 0, 0, 0), (70, .ifCond .eq 0, 75, 0, 0), (73, .iload 0, 3, 0, 0), (74, .ireturn, 0, 0, 0)]
def B_SC_nearest_75 : List Ent := [(75, .iinc 0 0, 3, 0, (-1)), (78, .goto 0, 57, 0, 0)]
def B_SC_nearest_81 : List Ent := [(81, .iconst 0, 0, 0, (-1)), (82, .ireturn, 0, 0, 0)]
def lb_SC_nearest : List (Nat × List Ent) := [(0, B_SC_nearest_0), (20, B_SC_nearest_20), (45, B_SC_nearest_45), (51, B_SC_nearest_51), (53, B_SC_nearest_53), (57, B_SC_nearest_57), (75, B_SC_nearest_75), (81, B_SC_nearest_81)]
def B_SC_with_0 : List Ent := [(0, .aload 0, 0, 0, 0), (1, .iload 0, 1, 0, 0), (2, .invokevirtual 0, 126, 2, 20), (5, .aload 0, 0, 0, 0), (6, .getfield 0, 20, 1, 5), (9, .invokevirtual 0, 31, 1, 12), (12, .iconst 0, 0, 0, 0), (13, .istore 0, 2, 0, 0), (14, .iconst 0, 0, 0, 0), (15, .istore 0, 3, 0, 0), (16, .goto_w 0, 16, 0, 0)]
def B_SC_with_16 : List Ent := [(16, .iload 0, 3, 0, 0), (17, .aload 0, 0, 0, 0), (18, .getfield 0, 20, 1, 3), (21, .getfield 0, 10, 0, 5), (24, .if_icmp .ge 0, 64, 0, 0), (27, .aload 0, 0, 0, 0), (28, .getfield 0, 20, 1, 5), (31, .getfield 0, 12, 1, 3), (34, .iload 0, 3, 0, 0), (35, .baload, 0, 0, 0), (36, .ifCond .eq 0, 58, 0, 0), (39, .aload 0, 0, 0, 0), (40, .getfield 0, 20, 1, 3), (43, .getfield 0, 10, 1, 1), (46, .iload 0, 3, 0, 0), (47, .iaload, 0, 0, 0), (48, .iload 0, 1, 0, 0), (49, .ishr, 0, 0, 0), (50, .iconst 0, 0, 0, 1), (51, .iand, 0, 0, 0), (52, .ifCond .eq 0, 58, 0, 0), (55, .iinc 0 0, 2, 0, 1), (58, .goto_w 0, 58, 0, 0)]
def B_SC_with_58 : List Ent := [(58, .iinc 0 0, 3, 0, 1), (61, .goto 0, 16, 0, 0)]
def B_SC_with_64 : List Ent := [(64, .iload 0, 2, 0, 0), (65, .ireturn, 0, 0, 0)]
def lb_SC_with : List (Nat × List Ent) := [(0, B_SC_with_0), (16, B_SC_with_16), (58, B_SC_with_58), (64, B_SC_with_64)]
def B_SC_heaviest_0 : List Ent := [(0, .aload 0, 0, 0, 0), (1, .getfield 0, 20, 1, 5), (4, .invokevirtual 0, 31, 1, 12), (7, .iconst 0, 0, 0, (-1)), (8, .istore 0, 1, 0, 0), (9, .iconst 0, 0, 0, (-1)), (10, .istore 0, 2, 0, 0), (11, .iconst 0, 0, 0, 0), (12, .istore 0, 3, 0, 0), (13, .goto_w 0, 13, 0, 0)]
def B_SC_heaviest_13 : List Ent := [(13, .iload 0, 3, 0, 0), (14, .aload 0, 0, 0, 0), (15, .getfield 0, 20, 1, 3), (18, .getfield 0, 10, 0, 5), (21, .if_icmp .ge 0, 67, 0, 0), (24, .aload 0, 0, 0, 0), (25, .getfield 0, 20, 1, 5), (28, .getfield 0, 12, 1, 3), (31, .iload 0, 3, 0, 0), (32, .baload, 0, 0, 0), (33, .ifCond .eq 0, 61, 0, 0), (36, .aload 0, 0, 0, 0), (37, .getfield 0, 20, 1, 5), (40, .getfield 0, 12, 1, 0), (43, .iload 0, 3, 0, 0), (44, .iaload, 0, 0, 0), (45, .iload 0, 2, 0, 0), (46, .if_icmp .le 0, 61, 0, 0), (49, .iload 0, 3, 0, 0), (50, .istore 0, 1, 0, 0), (51, .aload 0, 0, 0, 0), (52, .getfield 0, 20, 1, 5), (55, .getfield 0, 12, 1, 0), (58, .iload 0, 3, 0, 0), (59, .iaload, 0, 0, 0), (60, .istore 0, 2, 0, 0), (61, .goto_w 0, 61, 0, 0)]
def B_SC_heaviest_61 : List Ent := [(61, .iinc 0 0, 3, 0, 1), (64, .goto 0, 13, 0, 0)]
def B_SC_heaviest_67 : List Ent := [(67, .iload 0, 1, 0, 0), (68, .ireturn, 0, 0, 0)]
def lb_SC_heaviest : List (Nat × List Ent) := [(0, B_SC_heaviest_0), (13, B_SC_heaviest_13), (61, B_SC_heaviest_61), (67, B_SC_heaviest_67)]
def B_SC_holds_0 : List Ent := [(0, .aload 0, 0, 0, 0), (1, .iload 0, 1, 0, 0), (2, .invokevirtual 0, 128, 2, 20), (5, .aload 0, 0, 0, 0), (6, .iload 0, 2, 0, 0), (7, .invokevirtual 0, 127, 2, 20), (10, .aload 0, 0, 0, 0), (11, .getfield 0, 20, 1, 5), (14, .invokevirtual 0, 31, 1, 12), (17, .aload 0, 0, 0, 0), (18, .getfield 0, 20, 1, 5), (21, .getfield 0, 12, 1, 1), (24, .iload 0, 2, 0, 0), (25, .iaload, 0, 0, 0), (26, .iload 0, 1, 0, 0), (27, .ishr, 0, 0, 0), (28, .iconst 0, 0, 0, 1), (29, .iand, 0, 0, 0), (30, .ifCond .ne 0, 37, 0, 0), (33, .iconst 0, 0, 0, 1), (34, .goto 0, 38, 0, 0)]
def B_SC_holds_37 : List Ent := [(37, .iconst 0, 0, 0, 0), (38, .goto_w 0, 38, 0, 0)]
def B_SC_holds_38 : List Ent := [(38, .ireturn, 0, 1, 0)]
def lb_SC_holds : List (Nat × List Ent) := [(0, B_SC_holds_0), (37, B_SC_holds_37), (38, B_SC_holds_38)]
def B_SC_rule_0 : List Ent := [(0, .aload 0, 0, 0, 0), (1, .iload 0, 1, 0, 0), (2, .invokevirtual 0, 128, 2, 20), (5, .aload 0, 0, 0, 0), (6, .getfield 0, 20, 1, 5), (9, .invokevirtual 0, 31, 1, 12), (12, .iload 0, 2, 0, 0), (13, .tableswitch 70 0 3 #[31, 43, 52, 61], 0, 0, 0)]
def B_SC_rule_44 : List Ent := [(44, .aload 0, 0, 0, 0), (45, .getfield 0, 20, 1, 4), (48, .getfield 0, 13, 0, 5), (51, .iload 0, 1, 0, 0), (52, .ishr, 0, 0, 0), (53, .iconst 0, 0, 0, 1), (54, .iand, 0, 0, 0), (55, .ireturn, 0, 0, 0)]
def B_SC_rule_56 : List Ent := [(56, .aload 0, 0, 0, 0), (57, .getfield 0, 20, 1, 5), (60, .iload 0, 1, 0, 0), (61, .invokevirtual 0, 35, 2, 12), (64, .ireturn, 0, 0, 0)]
def B_SC_rule_65 : List Ent := [(65, .aload 0, 0, 0, 0), (66, .getfield 0, 20, 1, 5), (69, .iload 0, 1, 0, 0), (70, .invokevirtual 0, 36, 2, 12), (73, .ireturn, 0, 0, 0)]
def B_SC_rule_74 : List Ent := [(74, .aload 0, 0, 0, 0), (75, .getfield 0, 20, 1, 4), (78, .iload 0, 1, 0, 0), (79, .invokevirtual 0, 45, 2, 13), (82, .ireturn, 0, 0, 0)]
def B_SC_rule_83 : List Ent := [(83, .athrow, 0, 0, 0)]
def lb_SC_rule : List (Nat × List Ent) := [(0, B_SC_rule_0), (44, B_SC_rule_44), (56, B_SC_rule_56), (65, B_SC_rule_65), (74, B_SC_rule_74), (83, B_SC_rule_83)]
def B_SC_why_0 : List Ent := [(0, .aload 0, 0, 0, 0), (1, .iload 0, 1, 0, 0), (2, .invokevirtual 0, 127, 2, 20), (5, .aload 0, 0, 0, 0), (6, .getfield 0, 20, 1, 5), (9, .invokevirtual 0, 31, 1, 12), (12, .aload 0, 0, 0, 0), (13, .getfield 0, 20, 1, 4), (16, .getfield 0, 13, 1, 1), (19, .iload 0, 1, 0, 0), (20, .baload, 0, 0, 0), (21, .ifCond .eq 0, 26, 0, 0), (24, .iconst 0, 0, 0, 1), (25, .ireturn, 0, 0, 0)]
def B_SC_why_26 : List Ent := [(26, .aload 0, 0, 0, 0), (27, .getfield 0, 20, 1, 5), (30, .getfield 0, 12, 1, 1), (33, .iload 0, 1, 0, 0), (34, .iaload, 0, 0, 0), (35, .aload 0, 0, 0, 0), (36, .getfield 0, 20, 1, 4), (39, .getfield 0, 13, 0, 5), (42, .iand, 0, 0, 0), (43, .istore 0, 2, 0, 0), (44, .iconst 0, 0, 0, 0), (45, .istore 0, 3, 0, 0), (46, .goto_w 0, 46, 0, 0)]
def B_SC_why_46 : List Ent := [(46, .iload 0, 3, 0, 0), (47, .aload 0, 0, 0, 0), (48, .getfield 0, 20, 1, 4), (51, .getfield 0, 13, 0, 4), (54, .if_icmp .ge 0, 76, 0, 0), (57, .iload 0, 2, 0, 0), (58, .iload 0, 3, 0, 0), (59, .ishr, 0, 0, 0), (60, .iconst 0, 0, 0, 1), (61, .iand, 0, 0, 0), (62, .ifCond .eq 0, 70, 0, 0), (65, .iconst 0, 0, 0, 100), (67, .iload 0, 3, 0, 0), (68, .iadd, 0, 0, 0), (69, .ireturn, 0, 0, 0)]
def B_SC_why_70 : List Ent := [(70, .iinc 0 0, 3, 0, 1), (73, .goto 0, 46, 0, 0)]
def B_SC_why_76 : List Ent := [(76, .aload 0, 0, 0, 0), (77, .getfield 0, 20, 1, 5), (80, .getfield 0, 12, 1, 2), (83, .iload 0, 1, 0, 0), (84, .iaload, 0, 0, 0), (85, .iconst 0, 0, 0, (-1)), (86, .if_icmp .eq 0, 91, 0, 0), (89, .iconst 0, 0, 0, 2), (90, .ireturn, 0, 0, 0)]
def B_SC_why_91 : List Ent := [(91, .aload 0, 0, 0, 0), (92, .getfield 0, 20, 1, 6), (95, .aload 0, 0, 0, 0), (96, .getfield 0, 20, 1, 4), (99, .getfield 0, 13, 0, 6), (102, .invokevirtual 0, 87, 2, 18), (105, .iload 0, 1, 0, 0), (106, .if_icmp .ne 0, 113, 0, 0), (109, .iconst 0, 0, 0, 0), (110, .goto 0, 114, 0, 0)]
def B_SC_why_113 : List Ent := [(113, .iconst 0, 0, 0, 3), (114, .goto_w 0, 114, 0, 0)]
def B_SC_why_114 : List Ent := [(114, .ireturn, 0, 0, 0)]
def lb_SC_why : List (Nat × List Ent) := [(0, B_SC_why_0), (26, B_SC_why_26), (46, B_SC_why_46), (70, B_SC_why_70), (76, B_SC_why_76), (91, B_SC_why_91), (113, B_SC_why_113), (114, B_SC_why_114)]
def B_SC_against_0 : List Ent := [(0, .aload 0, 0, 0, 0), (1, .iload 0, 1, 0, 0), (2, .invokevirtual 0, 127, 2, 20), (5, .aload 0, 0, 0, 0), (6, .getfield 0, 20, 1, 5), (9, .invokevirtual 0, 31, 1, 12), (12, .aload 0, 0, 0, 0), (13, .getfield 0, 20, 1, 5), (16, .getfield 0, 12, 1, 1), (19, .iload 0, 1, 0, 0), (20, .iaload, 0, 0, 0), (21, .aload 0, 0, 0, 0), (22, .getfield 0, 20, 1, 4), (25, .getfield 0, 13, 0, 5), (28, .iand, 0, 0, 0), (29, .invokestatic 0, 0, 1, 0), (32, .ireturn, 0, 0, 0)]
def lb_SC_against : List (Nat × List Ent) := [(0, B_SC_against_0)]
def B_SC_next_0 : List Ent := [(0, .aload 0, 0, 0, 0), (1, .getfield 0, 20, 1, 5), (4, .invokevirtual 0, 31, 1, 12), (7, .aload 0, 0, 0, 0), (8, .getfield 0, 20, 1, 6), (11, .aload 0, 0, 0, 0), (12, .getfield 0, 20, 1, 4), (15, .getfield 0, 13, 0, 6), (18, .invokevirtual 0, 87, 2, 18), (21, .ireturn, 0, 0, 0)]
def lb_SC_next : List (Nat × List Ent) := [(0, B_SC_next_0)]
def B_SC_trail_0 : List Ent := [(0, .iload 0, 1, 0, 0), (1, .ifCond .lt 0, 15, 0, 0), (4, .iload 0, 1, 0, 0), (5, .aload 0, 0, 0, 0), (6, .getfield 0, 20, 1, 4), (9, .getfield 0, 13, 0, 7), (12, .if_icmp .lt 0, 17, 0, 0), (15, .goto_w 0, 15, 0, 0)]
def B_SC_trail_15 : List Ent := [(15, .iconst 0, 0, 0, (-1)), (16, .ireturn, 0, 0, 0)]
def B_SC_trail_17 : List Ent := [(17, .aload 0, 0, 0, 0), (18, .getfield 0, 20, 1, 4), (21, .getfield 0, 13, 1, 3), (24, .iload 0, 1, 0, 0), (25, .iaload, 0, 0, 0), (26, .ireturn, 0, 0, 0)]
def lb_SC_trail : List (Nat × List Ent) := [(0, B_SC_trail_0), (15, B_SC_trail_15), (17, B_SC_trail_17)]
def B_SC_swapsToEnd_0 : List Ent := [(0, .iload 0, 1, 0, 0), (1, .invokestatic 0, 143, 1, 0), (4, .aload 0, 0, 0, 0), (5, .getfield 0, 20, 1, 5), (8, .invokevirtual 0, 31, 1, 12), (11, .aload 0, 0, 0, 0), (12, .getfield 0, 20, 1, 6), (15, .iload 0, 1, 0, 0), (16, .invokevirtual 0, 88, 2, 18), (19, .ireturn, 0, 0, 0)]
def lb_SC_swapsToEnd : List (Nat × List Ent) := [(0, B_SC_swapsToEnd_0)]
def B_SC_needMode_0 : List Ent := [(0, .iload 0, 0, 0, 0), (1, .ifCond .lt 0, 9, 0, 0), (4, .iload 0, 0, 0, 0), (5, .iconst 0, 0, 0, 2), (6, .if_icmp .le 0, 17, 0, 0), (9, .goto_w 0, 9, 0, 0)]
def B_SC_needMode_9 : List Ent := [(9, .athrow, 0, 0, 0)]
def B_SC_needMode_17 : List Ent := [(17, .return_, 0, 0, 0)]
def lb_SC_needMode : List (Nat × List Ent) := [(0, B_SC_needMode_0), (9, B_SC_needMode_9), (17, B_SC_needMode_17)]
def B_SC_bestMode_0 : List Ent := [(0, .aload 0, 0, 0, 0), (1, .getfield 0, 20, 1, 5), (4, .invokevirtual 0, 31, 1, 12), (7, .iconst 0, 0, 0, 0), (8, .istore 0, 1, 0, 0), (9, .aload 0, 0, 0, 0), (10, .getfield 0, 20, 1, 6), (13, .iconst 0, 0, 0, 0), (14, .invokevirtual 0, 88, 2, 18), (17, .istore 0, 2, 0, 0), (18, .iconst 0, 0, 0, 1), (19, .istore 0, 3, 0, 0), (20, .goto_w 0, 20, 0, 0)]
def B_SC_bestMode_20 : List Ent := [(20, .iload 0, 3, 0, 0), (21, .iconst 0, 0, 0, 2), (22, .if_icmp .gt 0, 52, 0, 0), (25, .aload 0, 0, 0, 0), (26, .getfield 0, 20, 1, 6), (29, .iload 0, 3, 0, 0), (30, .invokevirtual 0, 88, 2, 18), (33, .istore 0, 4, 0, 0), (35, .iload 0, 4, 0, 0), (37, .iload 0, 2, 0, 0), (38, .if_icmp .ge 0, 46, 0, 0), (41, .iload 0, 3, 0, 0), (42, .istore 0, 1, 0, 0), (43, .iload 0, 4, 0, 0), (45, .istore 0, 2, 0, 0), (46, .goto_w 0, 46, 0, 0)]
def B_SC_bestMode_46 : List Ent := [(46, .iinc 0 0, 3, 0, 1), (49, .goto 0, 20, 0, 0)]
def B_SC_bestMode_52 : List Ent := [(52, .iload 0, 1, 0, 0), (53, .ireturn, 0, 0, 0)]
def lb_SC_bestMode : List (Nat × List Ent) := [(0, B_SC_bestMode_0), (20, B_SC_bestMode_20), (46, B_SC_bestMode_46), (52, B_SC_bestMode_52)]
def B_SC_ahead_0 : List Ent := [(0, .iload 0, 1, 0, 0), (1, .ifCond .ge 0, 12, 0, 0), (4, .athrow, 0, 0, 0)]
def B_SC_ahead_12 : List Ent := [(12, .aload 0, 0, 0, 0), (13, .getfield 0, 20, 1, 5), (16, .invokevirtual 0, 31, 1, 12), (19, .aload 0, 0, 0, 0), (20, .getfield 0, 20, 1, 6), (23, .invokevirtual 0, 86, 1, 18), (26, .iload 0, 1, 0, 0), (27, .aload 0, 0, 0, 0), (28, .getfield 0, 20, 1, 6), (31, .getfield 0, 18, 0, 1), (34, .if_icmp .lt 0, 39, 0, 0), (37, .iconst 0, 0, 0, (-1)), (38, .ireturn, 0, 0, 0)]
def B_SC_ahead_39 : List Ent := [(39, .aload 0, 0, 0, 0), (40, .getfield 0, 20, 1, 6), (43, .aload 0, 0, 0, 0), (44, .getfield 0, 20, 1, 4), (47, .getfield 0, 13, 0, 6), (50, .iload 0, 1, 0, 0), (51, .invokevirtual 0, 89, 3, 18), (54, .aload 0, 0, 0, 0), (55, .getfield 0, 20, 1, 6), (58, .aload 0, 0, 0, 0), (59, .getfield 0, 20, 1, 4), (62, .getfield 0, 13, 0, 6), (65, .invokevirtual 0, 90, 2, 18), (68, .ireturn, 0, 0, 0)]
def lb_SC_ahead : List (Nat × List Ent) := [(0, B_SC_ahead_0), (12, B_SC_ahead_12), (39, B_SC_ahead_39)]
def B_SC_far_0 : List Ent := [(0, .aload 0, 0, 0, 0), (1, .iload 0, 1, 0, 0), (2, .invokevirtual 0, 127, 2, 20), (5, .aload 0, 0, 0, 0), (6, .iload 0, 2, 0, 0), (7, .invokevirtual 0, 127, 2, 20), (10, .aload 0, 0, 0, 0), (11, .getfield 0, 20, 1, 5), (14, .invokevirtual 0, 31, 1, 12), (17, .aload 0, 0, 0, 0), (18, .getfield 0, 20, 1, 5), (21, .getfield 0, 12, 1, 3), (24, .iload 0, 1, 0, 0), (25, .baload, 0, 0, 0), (26, .ifCond .eq 0, 41, 0, 0), (29, .aload 0, 0, 0, 0), (30, .getfield 0, 20, 1, 5), (33, .getfield 0, 12, 1, 3), (36, .iload 0, 2, 0, 0), (37, .baload, 0, 0, 0), (38, .ifCond .ne 0, 43, 0, 0), (41, .goto_w 0, 41, 0, 0)]
def B_SC_far_41 : List Ent := [(41, .iconst 0, 0, 0, (-1)), (42, .ireturn, 0, 0, 0)]
def B_SC_far_43 : List Ent := [(43, .aload 0, 0, 0, 0), (44, .getfield 0, 20, 1, 7), (47, .iload 0, 2, 0, 0), (48, .aload 0, 0, 0, 0), (49, .getfield 0, 20, 1, 5), (52, .getfield 0, 12, 1, 3), (55, .invokevirtual 0, 102, 3, 19), (58, .aload 0, 0, 0, 0), (59, .getfield 0, 20, 1, 7), (62, .getfield 0, 19, 1, 1), (65, .iload 0, 1, 0, 0), (66, .iaload, 0, 0, 0), (67, .ireturn, 0, 0, 0)]
def lb_SC_far : List (Nat × List Ent) := [(0, B_SC_far_0), (41, B_SC_far_41), (43, B_SC_far_43)]
def B_SC_toward_0 : List Ent := [(0, .aload 0, 0, 0, 0), (1, .iload 0, 1, 0, 0), (2, .invokevirtual 0, 127, 2, 20), (5, .aload 0, 0, 0, 0), (6, .iload 0, 2, 0, 0), (7, .invokevirtual 0, 127, 2, 20), (10, .aload 0, 0, 0, 0), (11, .getfield 0, 20, 1, 5), (14, .invokevirtual 0, 31, 1, 12), (17, .iload 0, 1, 0, 0), (18, .iload 0, 2, 0, 0), (19, .if_icmp .eq 0, 46, 0, 0), (22, .aload 0, 0, 0, 0), (23, .getfield 0, 20, 1, 5), (26, .getfield 0, 12, 1, 3), (29, .iload 0, 1, 0, 0), (30, .baload, 0, 0, 0), (31, .ifCond .eq 0, 46, 0, 0), (34, .aload 0, 0, 0, 0), (35, .getfield 0, 20, 1, 5), (38, .getfield 0, 12, 1, 3), (41, .iload 0, 2, 0, 0), (42, .baload, 0, 0, 0), (43, .ifCond .ne 0, 48, 0, 0), (46, .goto_w 0, 46, 0, 0)]
def B_SC_toward_46 : List Ent := [(46, .iconst 0, 0, 0, (-1)), (47, .ireturn, 0, 0, 0)]
def B_SC_toward_48 : List Ent := [(48, .aload 0, 0, 0, 0), (49, .getfield 0, 20, 1, 7), (52, .iload 0, 2, 0, 0), (53, .aload 0, 0, 0, 0), (54, .getfield 0, 20, 1, 5), (57, .getfield 0, 12, 1, 3), (60, .invokevirtual 0, 102, 3, 19), (63, .aload 0, 0, 0, 0), (64, .getfield 0, 20, 1, 7), (67, .iload 0, 1, 0, 0), (68, .invokevirtual 0, 104, 2, 19), (71, .ireturn, 0, 0, 0)]
def lb_SC_toward : List (Nat × List Ent) := [(0, B_SC_toward_0), (46, B_SC_toward_46), (48, B_SC_toward_48)]
def B_SC_part_0 : List Ent := [(0, .aload 0, 0, 0, 0), (1, .getfield 0, 20, 1, 5), (4, .invokevirtual 0, 31, 1, 12), (7, .aload 0, 0, 0, 0), (8, .getfield 0, 20, 1, 7), (11, .aload 0, 0, 0, 0), (12, .getfield 0, 20, 1, 5), (15, .getfield 0, 12, 1, 3), (18, .invokevirtual 0, 101, 2, 19), (21, .istore 0, 3, 0, 0), (22, .iload 0, 1, 0, 0), (23, .ifCond .lt 0, 31, 0, 0), (26, .iload 0, 1, 0, 0), (27, .iload 0, 3, 0, 0), (28, .if_icmp .lt 0, 39, 0, 0), (31, .goto_w 0, 31, 0, 0)]
def B_SC_part_31 : List Ent := [(31, .athrow, 1, 0, 0)]
def B_SC_part_39 : List Ent := [(39, .iload 0, 2, 0, 0), (40, .tableswitch 55 0 2 #[28, 37, 46], 0, 0, 0)]
def B_SC_part_68 : List Ent := [(68, .aload 0, 0, 0, 0), (69, .getfield 0, 20, 1, 7), (72, .iload 0, 1, 0, 0), (73, .invokevirtual 0, 105, 2, 19), (76, .ireturn, 0, 0, 0)]
def B_SC_part_77 : List Ent := [(77, .aload 0, 0, 0, 0), (78, .getfield 0, 20, 1, 7), (81, .iload 0, 1, 0, 0), (82, .invokevirtual 0, 106, 2, 19), (85, .ireturn, 0, 0, 0)]
def B_SC_part_86 : List Ent := [(86, .aload 0, 0, 0, 0), (87, .getfield 0, 20, 1, 7), (90, .iload 0, 1, 0, 0), (91, .invokevirtual 0, 107, 2, 19), (94, .ireturn, 0, 0, 0)]
def B_SC_part_95 : List Ent := [(95, .athrow, 0, 0, 0)]
def lb_SC_part : List (Nat × List Ent) := [(0, B_SC_part_0), (31, B_SC_part_31), (39, B_SC_part_39), (68, B_SC_part_68), (77, B_SC_part_77), (86, B_SC_part_86), (95, B_SC_part_95)]
def B_SC_allowedIf_0 : List Ent := [(0, .aload 0, 0, 0, 0), (1, .iload 0, 1, 0, 0), (2, .invokevirtual 0, 128, 2, 20), (5, .aload 0, 0, 0, 0), (6, .getfield 0, 20, 1, 5), (9, .invokevirtual 0, 31, 1, 12), (12, .aload 0, 0, 0, 0), (13, .getfield 0, 20, 1, 5), (16, .aload 0, 0, 0, 0), (17, .getfield 0, 20, 1, 4), (20, .getfield 0, 13, 0, 5), (23, .iconst 0, 0, 0, 1), (24, .iload 0, 1, 0, 0), (25, .ishl, 0, 0, 0), (26, .ixor, 0, 0, 0), (27, .aload 0, 0, 0, 0), (28, .getfield 0, 20, 1, 12), (31, .invokevirtual 0, 33, 3, 12), (34, .ireturn, 0, 0, 0)]
def lb_SC_allowedIf : List (Nat × List Ent) := [(0, B_SC_allowedIf_0)]
def B_SC_partsIf_0 : List Ent := [(0, .aload 0, 0, 0, 0), (1, .iload 0, 1, 0, 0), (2, .invokevirtual 0, 128, 2, 20), (5, .aload 0, 0, 0, 0), (6, .getfield 0, 20, 1, 5), (9, .invokevirtual 0, 31, 1, 12), (12, .aload 0, 0, 0, 0), (13, .getfield 0, 20, 1, 5), (16, .aload 0, 0, 0, 0), (17, .getfield 0, 20, 1, 4), (20, .getfield 0, 13, 0, 5), (23, .iconst 0, 0, 0, 1), (24, .iload 0, 1, 0, 0), (25, .ishl, 0, 0, 0), (26, .ixor, 0, 0, 0), (27, .aload 0, 0, 0, 0), (28, .getfield 0, 20, 1, 12), (31, .invokevirtual 0, 33, 3, 12), (34, .pop, 0, 0, 0), (35, .aload 0, 0, 0, 0), (36, .getfield 0, 20, 1, 7), (39, .aload 0, 0, 0, 0), (40, .getfield 0, 20, 1, 12), (43, .invokevirtual 0, 101, 2, 19), (46, .ireturn, 0, 0, 0)]
def lb_SC_partsIf : List (Nat × List Ent) := [(0, B_SC_partsIf_0)]
def B_SC_strictest_0 : List Ent := [(0, .aload 0, 0, 0, 0), (1, .getfield 0, 20, 1, 5), (4, .invokevirtual 0, 31, 1, 12), (7, .iconst 0, 0, 0, (-1)), (8, .istore 0, 1, 0, 0), (9, .iconst 0, 0, 0, (-1)), (10, .istore 0, 2, 0, 0), (11, .iconst 0, 0, 0, 0), (12, .istore 0, 3, 0, 0), (13, .goto_w 0, 13, 0, 0)]
def B_SC_strictest_13 : List Ent := [(13, .iload 0, 3, 0, 0), (14, .aload 0, 0, 0, 0), (15, .getfield 0, 20, 1, 4), (18, .getfield 0, 13, 0, 4), (21, .if_icmp .ge 0, 79, 0, 0), (24, .aload 0, 0, 0, 0), (25, .getfield 0, 20, 1, 4), (28, .getfield 0, 13, 0, 5), (31, .iload 0, 3, 0, 0), (32, .ishr, 0, 0, 0), (33, .iconst 0, 0, 0, 1), (34, .iand, 0, 0, 0), (35, .ifCond .eq 0, 73, 0, 0), (38, .aload 0, 0, 0, 0), (39, .getfield 0, 20, 1, 5), (42, .aload 0, 0, 0, 0), (43, .getfield 0, 20, 1, 4), (46, .getfield 0, 13, 0, 5), (49, .iconst 0, 0, 0, 1), (50, .iload 0, 3, 0, 0), (51, .ishl, 0, 0, 0), (52, .ixor, 0, 0, 0), (53, .aload 0, 0, 0, 0), (54, .getfield 0, 20, 1, 12), (57, .invokevirtual 0, 33, 3, 12), (60, .istore 0, 4, 0, 0), (62, .iload 0, 4, 0, 0), (64, .iload 0, 2, 0, 0), (65, .if_icmp .le 0, 73, 0, 0), (68, .iload 0, 3, 0, 0), (69, .istore 0, 1, 0, 0), (70, .iload 0, 4, 0, 0), (72, .istore 0, 2, 0, 0), (73, .goto_w 0, 73, 0, 0)]
def B_SC_strictest_73 : List Ent := [(73, .iinc 0 0, 3, 0, 1), (76, .goto 0, 13, 0, 0)]
def B_SC_strictest_79 : List Ent := [(79, .iload 0, 1, 0, 0), (80, .ireturn, 0, 0, 0)]
def lb_SC_strictest : List (Nat × List Ent) := [(0, B_SC_strictest_0), (13, B_SC_strictest_13), (73, B_SC_strictest_73), (79, B_SC_strictest_79)]
def B_SC_bridge_0 : List Ent := [(0, .aload 0, 0, 0, 0), (1, .getfield 0, 20, 1, 5), (4, .invokevirtual 0, 31, 1, 12), (7, .aload 0, 0, 0, 0), (8, .getfield 0, 20, 1, 7), (11, .aload 0, 0, 0, 0), (12, .getfield 0, 20, 1, 5), (15, .getfield 0, 12, 1, 3), (18, .invokevirtual 0, 108, 2, 19), (21, .iconst 0, 0, 0, (-1)), (22, .istore 0, 1, 0, 0), (23, .iconst 0, 0, 0, (-1)), (24, .istore 0, 2, 0, 0), (25, .iconst 0, 0, 0, 0), (26, .istore 0, 3, 0, 0), (27, .goto_w 0, 27, 0, 0)]
def B_SC_bridge_27 : List Ent := [(27, .iload 0, 3, 0, 0), (28, .aload 0, 0, 0, 0), (29, .getfield 0, 20, 1, 3), (32, .getfield 0, 10, 0, 5), (35, .if_icmp .ge 0, 81, 0, 0), (38, .aload 0, 0, 0, 0), (39, .getfield 0, 20, 1, 5), (42, .getfield 0, 12, 1, 3), (45, .iload 0, 3, 0, 0), (46, .baload, 0, 0, 0), (47, .ifCond .eq 0, 75, 0, 0), (50, .aload 0, 0, 0, 0), (51, .getfield 0, 20, 1, 7), (54, .getfield 0, 19, 1, 2), (57, .iload 0, 3, 0, 0), (58, .iaload, 0, 0, 0), (59, .iload 0, 2, 0, 0), (60, .if_icmp .le 0, 75, 0, 0), (63, .iload 0, 3, 0, 0), (64, .istore 0, 1, 0, 0), (65, .aload 0, 0, 0, 0), (66, .getfield 0, 20, 1, 7), (69, .getfield 0, 19, 1, 2), (72, .iload 0, 3, 0, 0), (73, .iaload, 0, 0, 0), (74, .istore 0, 2, 0, 0), (75, .goto_w 0, 75, 0, 0)]
def B_SC_bridge_75 : List Ent := [(75, .iinc 0 0, 3, 0, 1), (78, .goto 0, 27, 0, 0)]
def B_SC_bridge_81 : List Ent := [(81, .iload 0, 1, 0, 0), (82, .ireturn, 0, 0, 0)]
def lb_SC_bridge : List (Nat × List Ent) := [(0, B_SC_bridge_0), (27, B_SC_bridge_27), (75, B_SC_bridge_75), (81, B_SC_bridge_81)]
def B_SC_meanWeight_0 : List Ent := [(0, .aload 0, 0, 0, 0), (1, .getfield 0, 20, 1, 5), (4, .invokevirtual 0, 31, 1, 12), (7, .iconst 0, 0, 0, 0), (8, .istore 0, 1, 0, 0), (9, .iconst 0, 0, 0, 0), (10, .istore 0, 2, 0, 0), (11, .goto_w 0, 11, 0, 0)]
def B_SC_meanWeight_11 : List Ent := [(11, .iload 0, 2, 0, 0), (12, .aload 0, 0, 0, 0), (13, .getfield 0, 20, 1, 3), (16, .getfield 0, 10, 0, 5), (19, .if_icmp .ge 0, 52, 0, 0), (22, .aload 0, 0, 0, 0), (23, .getfield 0, 20, 1, 5), (26, .getfield 0, 12, 1, 3), (29, .iload 0, 2, 0, 0), (30, .baload, 0, 0, 0), (31, .ifCond .eq 0, 46, 0, 0), (34, .iload 0, 1, 0, 0), (35, .aload 0, 0, 0, 0), (36, .getfield 0, 20, 1, 5), (39, .getfield 0, 12, 1, 0), (42, .iload 0, 2, 0, 0), (43, .iaload, 0, 0, 0), (44, .iadd, 0, 0, 0), (45, .istore 0, 1, 0, 0), (46, .goto_w 0, 46, 0, 0)]
def B_SC_meanWeight_46 : List Ent := [(46, .iinc 0 0, 2, 0, 1), (49, .goto 0, 11, 0, 0)]
def B_SC_meanWeight_52 : List Ent := [(52, .aload 0, 0, 0, 0), (53, .getfield 0, 20, 1, 5), (56, .getfield 0, 12, 0, 4), (59, .ifCond .ne 0, 66, 0, 0), (62, .dconst 0, 0, 0, 0), (63, .goto 0, 77, 0, 0)]
def B_SC_meanWeight_66 : List Ent := [(66, .iload 0, 1, 0, 0), (67, .i2d, 0, 0, 0), (68, .aload 0, 0, 0, 0), (69, .getfield 0, 20, 1, 5), (72, .getfield 0, 12, 0, 4), (75, .i2d, 0, 0, 0), (76, .ddiv, 0, 0, 0), (77, .goto_w 0, 77, 0, 0)]
def B_SC_meanWeight_77 : List Ent := [(77, .ireturn, 0, 7, 0)]
def lb_SC_meanWeight : List (Nat × List Ent) := [(0, B_SC_meanWeight_0), (11, B_SC_meanWeight_11), (46, B_SC_meanWeight_46), (52, B_SC_meanWeight_52), (66, B_SC_meanWeight_66), (77, B_SC_meanWeight_77)]
def B_SC_visitedShare_0 : List Ent := [(0, .aload 0, 0, 0, 0), (1, .getfield 0, 20, 1, 5), (4, .invokevirtual 0, 31, 1, 12), (7, .aload 0, 0, 0, 0), (8, .getfield 0, 20, 1, 5), (11, .getfield 0, 12, 0, 4), (14, .aload 0, 0, 0, 0), (15, .getfield 0, 20, 1, 5), (18, .invokevirtual 0, 34, 1, 12), (21, .isub, 0, 0, 0), (22, .istore 0, 1, 0, 0), (23, .aload 0, 0, 0, 0), (24, .getfield 0, 20, 1, 5), (27, .getfield 0, 12, 0, 4), (30, .ifCond .ne 0, 37, 0, 0), (33, .fconst 1, 0, 0, 0), (34, .goto 0, 48, 0, 0)]
def B_SC_visitedShare_37 : List Ent := [(37, .iload 0, 1, 0, 0), (38, .i2f, 0, 0, 0), (39, .aload 0, 0, 0, 0), (40, .getfield 0, 20, 1, 5), (43, .getfield 0, 12, 0, 4), (46, .i2f, 0, 0, 0), (47, .fdiv, 0, 0, 0), (48, .goto_w 0, 48, 0, 0)]
def B_SC_visitedShare_48 : List Ent := [(48, .ireturn, 0, 8, 0)]
def lb_SC_visitedShare : List (Nat × List Ent) := [(0, B_SC_visitedShare_0), (37, B_SC_visitedShare_37), (48, B_SC_visitedShare_48)]
def B_SC_step_0 : List Ent := [(0, .aload 0, 0, 0, 0), (1, .getfield 0, 20, 1, 5), (4, .invokevirtual 0, 31, 1, 12), (7, .aload 0, 0, 0, 0), (8, .getfield 0, 20, 1, 6), (11, .aload 0, 0, 0, 0), (12, .getfield 0, 20, 1, 4), (15, .getfield 0, 13, 0, 6), (18, .invokevirtual 0, 87, 2, 18), (21, .istore 0, 1, 0, 0), (22, .iload 0, 1, 0, 0), (23, .iconst 0, 0, 0, (-1)), (24, .if_icmp .ne 0, 30, 0, 0), (27, .iconst 0, 0, 0, (-2)), (29, .ireturn, 0, 0, 0)]
def B_SC_step_30 : List Ent := [(30, .aload 0, 0, 0, 0), (31, .getfield 0, 20, 1, 8), (34, .aload 0, 0, 0, 0), (35, .getfield 0, 20, 1, 4), (38, .invokevirtual 0, 23, 2, 11), (41, .aload 0, 0, 0, 0), (42, .iload 0, 1, 0, 0), (43, .invokevirtual 0, 156, 2, 20), (46, .iload 0, 1, 0, 0), (47, .ireturn, 0, 0, 0)]
def lb_SC_step : List (Nat × List Ent) := [(0, B_SC_step_0), (30, B_SC_step_30)]
def B_SC_goTo_0 : List Ent := [(0, .aload 0, 0, 0, 0), (1, .getfield 0, 20, 1, 4), (4, .iload 0, 1, 0, 0), (5, .invokevirtual 0, 41, 2, 13), (8, .aload 0, 0, 0, 0), (9, .getfield 0, 20, 1, 5), (12, .invokevirtual 0, 30, 1, 12), (15, .return_, 0, 0, 0)]
def lb_SC_goTo : List (Nat × List Ent) := [(0, B_SC_goTo_0)]
def B_SC_steps_0 : List Ent := [(0, .iload 0, 1, 0, 0), (1, .iconst 0, 0, 0, 1), (2, .if_icmp .lt 0, 12, 0, 0), (5, .iload 0, 1, 0, 0), (6, .iconst 0, 0, 0, 200), (9, .if_icmp .le 0, 20, 0, 0), (12, .goto_w 0, 12, 0, 0)]
def B_SC_steps_12 : List Ent := [(12, .athrow, 0, 0, 0)]
def B_SC_steps_20 : List Ent := [(20, .aload 0, 0, 0, 0), (21, .getfield 0, 20, 1, 5), (24, .invokevirtual 0, 31, 1, 12), (27, .aload 0, 0, 0, 0), (28, .getfield 0, 20, 1, 8), (31, .aload 0, 0, 0, 0), (32, .getfield 0, 20, 1, 4), (35, .invokevirtual 0, 23, 2, 11), (38, .aload 0, 0, 0, 0), (39, .getfield 0, 20, 1, 6), (42, .invokevirtual 0, 86, 1, 18), (45, .iconst 0, 0, 0, 0), (46, .istore 0, 2, 0, 0), (47, .iconst 0, 0, 0, 0), (48, .istore 0, 3, 0, 0), (49, .goto_w 0, 49, 0, 0)]
def B_SC_steps_49 : List Ent := [(49, .iload 0, 3, 0, 0), (50, .iload 0, 1, 0, 0), (51, .if_icmp .ge 0, 98, 0, 0), (54, .aload 0, 0, 0, 0), (55, .getfield 0, 20, 1, 6), (58, .getfield 0, 18, 0, 1), (61, .ifCond .le 0, 98, 0, 0), (64, .aload 0, 0, 0, 0), (65, .aload 0, 0, 0, 0), (66, .getfield 0, 20, 1, 6), (69, .aload 0, 0, 0, 0), (70, .getfield 0, 20, 1, 6), (73, .aload 0, 0, 0, 0), (74, .getfield 0, 20, 1, 4), (77, .getfield 0, 13, 0, 6), (80, .invokevirtual 0, 91, 2, 18), (83, .invokevirtual 0, 95, 2, 18), (86, .invokevirtual 0, 156, 2, 20), (89, .iinc 0 0, 2, 0, 1), (92, .iinc 0 0, 3, 0, 1), (95, .goto 0, 49, 0, 0)]
def B_SC_steps_98 : List Ent := [(98, .iload 0, 2, 0, 0), (99, .ireturn, 0, 0, 0)]
def lb_SC_steps : List (Nat × List Ent) := [(0, B_SC_steps_0), (12, B_SC_steps_12), (20, B_SC_steps_20), (49, B_SC_steps_49), (98, B_SC_steps_98)]
def B_SC_swap_0 : List Ent := [(0, .aload 0, 0, 0, 0), (1, .iload 0, 1, 0, 0), (2, .invokevirtual 0, 126, 2, 20), (5, .aload 0, 0, 0, 0), (6, .iload 0, 2, 0, 0), (7, .invokevirtual 0, 126, 2, 20), (10, .aload 0, 0, 0, 0), (11, .getfield 0, 20, 1, 4), (14, .getfield 0, 13, 0, 7), (17, .ifCond .ne 0, 23, 0, 0), (20, .iconst 0, 0, 0, (-2)), (22, .ireturn, 0, 0, 0)]
def B_SC_swap_23 : List Ent := [(23, .aload 0, 0, 0, 0), (24, .getfield 0, 20, 1, 3), (27, .aload 0, 0, 0, 0), (28, .getfield 0, 20, 1, 4), (31, .invokevirtual 0, 40, 1, 13), (34, .iload 0, 1, 0, 0), (35, .iload 0, 2, 0, 0), (36, .invokevirtual 0, 19, 4, 10), (39, .istore 0, 3, 0, 0), (40, .iload 0, 3, 0, 0), (41, .iconst 0, 0, 0, (-1)), (42, .if_icmp .ne 0, 48, 0, 0), (45, .iconst 0, 0, 0, (-3)), (47, .ireturn, 0, 0, 0)]
def B_SC_swap_48 : List Ent := [(48, .aload 0, 0, 0, 0), (49, .getfield 0, 20, 1, 5), (52, .invokevirtual 0, 31, 1, 12), (55, .aload 0, 0, 0, 0), (56, .getfield 0, 20, 1, 5), (59, .getfield 0, 12, 1, 3), (62, .iload 0, 3, 0, 0), (63, .baload, 0, 0, 0), (64, .ifCond .ne 0, 70, 0, 0), (67, .iconst 0, 0, 0, (-4)), (69, .ireturn, 0, 0, 0)]
def B_SC_swap_70 : List Ent := [(70, .aload 0, 0, 0, 0), (71, .getfield 0, 20, 1, 5), (74, .getfield 0, 12, 1, 2), (77, .iload 0, 3, 0, 0), (78, .iaload, 0, 0, 0), (79, .iconst 0, 0, 0, (-1)), (80, .if_icmp .eq 0, 86, 0, 0), (83, .iconst 0, 0, 0, (-5)), (85, .ireturn, 0, 0, 0)]
def B_SC_swap_86 : List Ent := [(86, .aload 0, 0, 0, 0), (87, .getfield 0, 20, 1, 8), (90, .aload 0, 0, 0, 0), (91, .getfield 0, 20, 1, 4), (94, .invokevirtual 0, 23, 2, 11), (97, .aload 0, 0, 0, 0), (98, .iload 0, 3, 0, 0), (99, .invokevirtual 0, 156, 2, 20), (102, .iload 0, 3, 0, 0), (103, .ireturn, 0, 0, 0)]
def lb_SC_swap : List (Nat × List Ent) := [(0, B_SC_swap_0), (23, B_SC_swap_23), (48, B_SC_swap_48), (70, B_SC_swap_70), (86, B_SC_swap_86)]
def B_SC_back_0 : List Ent := [(0, .aload 0, 0, 0, 0), (1, .getfield 0, 20, 1, 4), (4, .getfield 0, 13, 0, 7), (7, .ifCond .ne 0, 13, 0, 0), (10, .iconst 0, 0, 0, (-2)), (12, .ireturn, 0, 0, 0)]
def B_SC_back_13 : List Ent := [(13, .aload 0, 0, 0, 0), (14, .getfield 0, 20, 1, 8), (17, .aload 0, 0, 0, 0), (18, .getfield 0, 20, 1, 4), (21, .invokevirtual 0, 23, 2, 11), (24, .aload 0, 0, 0, 0), (25, .getfield 0, 20, 1, 4), (28, .dup, 0, 0, 0), (29, .getfield 0, 13, 0, 7), (32, .iconst 0, 0, 0, 1), (33, .isub, 0, 0, 0), (34, .putfield 0, 13, 0, 7), (37, .aload 0, 0, 0, 0), (38, .getfield 0, 20, 1, 5), (41, .invokevirtual 0, 30, 1, 12), (44, .aload 0, 0, 0, 0), (45, .getfield 0, 20, 1, 4), (48, .invokevirtual 0, 40, 1, 13), (51, .iconst 0, 0, 0, 1), (52, .iadd, 0, 0, 0), (53, .ireturn, 0, 0, 0)]
def lb_SC_back : List (Nat × List Ent) := [(0, B_SC_back_0), (13, B_SC_back_13)]
def B_SC_reset_0 : List Ent := [(0, .aload 0, 0, 0, 0), (1, .getfield 0, 20, 1, 8), (4, .aload 0, 0, 0, 0), (5, .getfield 0, 20, 1, 4), (8, .invokevirtual 0, 23, 2, 11), (11, .aload 0, 0, 0, 0), (12, .getfield 0, 20, 1, 4), (15, .getfield 0, 13, 0, 7), (18, .istore 0, 1, 0, 0), (19, .aload 0, 0, 0, 0), (20, .getfield 0, 20, 1, 4), (23, .iconst 0, 0, 0, 0), (24, .putfield 0, 13, 0, 7), (27, .aload 0, 0, 0, 0), (28, .getfield 0, 20, 1, 5), (31, .invokevirtual 0, 30, 1, 12), (34, .iload 0, 1, 0, 0), (35, .ireturn, 0, 0, 0)]
def lb_SC_reset : List (Nat × List Ent) := [(0, B_SC_reset_0)]
def B_SC_setMode_0 : List Ent := [(0, .iload 0, 1, 0, 0), (1, .invokestatic 0, 143, 1, 0), (4, .aload 0, 0, 0, 0), (5, .getfield 0, 20, 1, 8), (8, .aload 0, 0, 0, 0), (9, .getfield 0, 20, 1, 4), (12, .invokevirtual 0, 23, 2, 11), (15, .aload 0, 0, 0, 0), (16, .getfield 0, 20, 1, 4), (19, .getfield 0, 13, 0, 6), (22, .istore 0, 2, 0, 0), (23, .aload 0, 0, 0, 0), (24, .getfield 0, 20, 1, 4), (27, .iload 0, 1, 0, 0), (28, .putfield 0, 13, 0, 6), (31, .iload 0, 2, 0, 0), (32, .ireturn, 0, 0, 0)]
def lb_SC_setMode : List (Nat × List Ent) := [(0, B_SC_setMode_0)]
def B_SC_setWeight_0 : List Ent := [(0, .aload 0, 0, 0, 0), (1, .iload 0, 1, 0, 0), (2, .invokevirtual 0, 126, 2, 20), (5, .iload 0, 2, 0, 0), (6, .ifCond .lt 0, 15, 0, 0), (9, .iload 0, 2, 0, 0), (10, .iconst 0, 0, 0, 99), (12, .if_icmp .le 0, 23, 0, 0), (15, .goto_w 0, 15, 0, 0)]
def B_SC_setWeight_15 : List Ent := [(15, .athrow, 0, 0, 0)]
def B_SC_setWeight_23 : List Ent := [(23, .aload 0, 0, 0, 0), (24, .getfield 0, 20, 1, 8), (27, .aload 0, 0, 0, 0), (28, .getfield 0, 20, 1, 4), (31, .invokevirtual 0, 23, 2, 11), (34, .aload 0, 0, 0, 0), (35, .getfield 0, 20, 1, 4), (38, .getfield 0, 13, 1, 0), (41, .iload 0, 1, 0, 0), (42, .iaload, 0, 0, 0), (43, .istore 0, 3, 0, 0), (44, .aload 0, 0, 0, 0), (45, .getfield 0, 20, 1, 4), (48, .getfield 0, 13, 1, 0), (51, .iload 0, 1, 0, 0), (52, .iload 0, 2, 0, 0), (53, .iastore, 0, 0, 0), (54, .aload 0, 0, 0, 0), (55, .getfield 0, 20, 1, 5), (58, .invokevirtual 0, 29, 1, 12), (61, .iload 0, 3, 0, 0), (62, .ireturn, 0, 0, 0)]
def lb_SC_setWeight : List (Nat × List Ent) := [(0, B_SC_setWeight_0), (15, B_SC_setWeight_15), (23, B_SC_setWeight_23)]
def B_SC_addRule_0 : List Ent := [(0, .iload 0, 1, 0, 0), (1, .ifCond .lt 0, 12, 0, 0), (4, .iload 0, 1, 0, 0), (5, .aload 0, 0, 0, 0), (6, .getfield 0, 20, 0, 1), (9, .if_icmp .le 0, 20, 0, 0), (12, .goto_w 0, 12, 0, 0)]
def B_SC_addRule_12 : List Ent := [(12, .athrow, 0, 0, 0)]
def B_SC_addRule_20 : List Ent := [(20, .aload 0, 0, 0, 0), (21, .getfield 0, 20, 1, 4), (24, .getfield 0, 13, 0, 4), (27, .iconst 0, 0, 0, 10), (29, .if_icmp .lt 0, 35, 0, 0), (32, .iconst 0, 0, 0, (-2)), (34, .ireturn, 0, 0, 0)]
def B_SC_addRule_35 : List Ent := [(35, .aload 0, 0, 0, 0), (36, .iload 0, 1, 0, 0), (37, .invokevirtual 0, 118, 2, 20), (40, .aload 0, 0, 0, 0), (41, .getfield 0, 20, 1, 10), (44, .aload 0, 0, 0, 0), (45, .getfield 0, 20, 1, 3), (48, .invokevirtual 0, 57, 2, 15), (51, .istore 0, 2, 0, 0), (52, .aload 0, 0, 0, 0), (53, .aload 0, 0, 0, 0), (54, .getfield 0, 20, 1, 9), (57, .getfield 0, 17, 0, 1), (60, .putfield 0, 20, 0, 2), (63, .iload 0, 2, 0, 0), (64, .ifCond .ne 0, 78, 0, 0), (67, .iconst 0, 0, 0, (-10)), (69, .aload 0, 0, 0, 0), (70, .getfield 0, 20, 1, 9), (73, .getfield 0, 17, 0, 0), (76, .isub, 0, 0, 0), (77, .ireturn, 0, 0, 0)]
def B_SC_addRule_78 : List Ent := [(78, .aload 0, 0, 0, 0), (79, .getfield 0, 20, 1, 8), (82, .aload 0, 0, 0, 0), (83, .getfield 0, 20, 1, 4), (86, .invokevirtual 0, 23, 2, 11), (89, .aload 0, 0, 0, 0), (90, .getfield 0, 20, 1, 4), (93, .aload 0, 0, 0, 0), (94, .getfield 0, 20, 1, 10), (97, .getfield 0, 15, 1, 0), (100, .invokevirtual 0, 51, 1, 14), (103, .invokevirtual 0, 43, 2, 13), (106, .aload 0, 0, 0, 0), (107, .getfield 0, 20, 1, 5), (110, .invokevirtual 0, 29, 1, 12), (113, .aload 0, 0, 0, 0), (114, .getfield 0, 20, 1, 4), (117, .getfield 0, 13, 0, 4), (120, .iconst 0, 0, 0, 1), (121, .isub, 0, 0, 0), (122, .ireturn, 0, 0, 0)]
def lb_SC_addRule : List (Nat × List Ent) := [(0, B_SC_addRule_0), (12, B_SC_addRule_12), (20, B_SC_addRule_20), (35, B_SC_addRule_35), (78, B_SC_addRule_78)]
def B_SC_dropRule_0 : List Ent := [(0, .aload 0, 0, 0, 0), (1, .iload 0, 1, 0, 0), (2, .invokevirtual 0, 128, 2, 20), (5, .aload 0, 0, 0, 0), (6, .getfield 0, 20, 1, 8), (9, .aload 0, 0, 0, 0), (10, .getfield 0, 20, 1, 4), (13, .invokevirtual 0, 23, 2, 11), (16, .aload 0, 0, 0, 0), (17, .getfield 0, 20, 1, 4), (20, .iload 0, 1, 0, 0), (21, .invokevirtual 0, 44, 2, 13), (24, .aload 0, 0, 0, 0), (25, .getfield 0, 20, 1, 5), (28, .invokevirtual 0, 29, 1, 12), (31, .aload 0, 0, 0, 0), (32, .getfield 0, 20, 1, 4), (35, .getfield 0, 13, 0, 4), (38, .ireturn, 0, 0, 0)]
def lb_SC_dropRule : List (Nat × List Ent) := [(0, B_SC_dropRule_0)]
def B_SC_switchRule_0 : List Ent := [(0, .aload 0, 0, 0, 0), (1, .iload 0, 1, 0, 0), (2, .invokevirtual 0, 128, 2, 20), (5, .aload 0, 0, 0, 0), (6, .getfield 0, 20, 1, 8), (9, .aload 0, 0, 0, 0), (10, .getfield 0, 20, 1, 4), (13, .invokevirtual 0, 23, 2, 11), (16, .aload 0, 0, 0, 0), (17, .getfield 0, 20, 1, 4), (20, .dup, 0, 0, 0), (21, .getfield 0, 13, 0, 5), (24, .iconst 0, 0, 0, 1), (25, .iload 0, 1, 0, 0), (26, .ishl, 0, 0, 0), (27, .ixor, 0, 0, 0), (28, .putfield 0, 13, 0, 5), (31, .aload 0, 0, 0, 0), (32, .getfield 0, 20, 1, 5), (35, .invokevirtual 0, 30, 1, 12), (38, .aload 0, 0, 0, 0), (39, .getfield 0, 20, 1, 5), (42, .invokevirtual 0, 31, 1, 12), (45, .aload 0, 0, 0, 0), (46, .getfield 0, 20, 1, 5), (49, .getfield 0, 12, 0, 4), (52, .ireturn, 0, 0, 0)]
def lb_SC_switchRule : List (Nat × List Ent) := [(0, B_SC_switchRule_0)]
def B_SC_strike_0 : List Ent := [(0, .aload 0, 0, 0, 0), (1, .iload 0, 1, 0, 0), (2, .invokevirtual 0, 127, 2, 20), (5, .aload 0, 0, 0, 0), (6, .getfield 0, 20, 1, 8), (9, .aload 0, 0, 0, 0), (10, .getfield 0, 20, 1, 4), (13, .invokevirtual 0, 23, 2, 11), (16, .aload 0, 0, 0, 0), (17, .getfield 0, 20, 1, 4), (20, .getfield 0, 13, 1, 1), (23, .iload 0, 1, 0, 0), (24, .baload, 0, 0, 0), (25, .iload 0, 2, 0, 0), (26, .if_icmp .eq 0, 33, 0, 0), (29, .iconst 0, 0, 0, 1), (30, .goto 0, 34, 0, 0)]
def B_SC_strike_33 : List Ent := [(33, .iconst 0, 0, 0, 0), (34, .goto_w 0, 34, 0, 0)]
def B_SC_strike_34 : List Ent := [(34, .istore 0, 3, 0, 0), (35, .aload 0, 0, 0, 0), (36, .getfield 0, 20, 1, 4), (39, .getfield 0, 13, 1, 1), (42, .iload 0, 1, 0, 0), (43, .iload 0, 2, 0, 0), (44, .bastore, 0, 0, 0), (45, .aload 0, 0, 0, 0), (46, .getfield 0, 20, 1, 5), (49, .invokevirtual 0, 30, 1, 12), (52, .iload 0, 3, 0, 0), (53, .ireturn, 0, 1, 0)]
def lb_SC_strike : List (Nat × List Ent) := [(0, B_SC_strike_0), (33, B_SC_strike_33), (34, B_SC_strike_34)]
def B_SC_many_0 : List Ent := [(0, .iload 0, 1, 0, 0), (1, .ifCond .lt 0, 19, 0, 0), (4, .iload 0, 1, 0, 0), (5, .iconst 0, 0, 0, 200), (8, .if_icmp .gt 0, 19, 0, 0), (11, .iload 0, 1, 0, 0), (12, .aload 0, 0, 0, 0), (13, .getfield 0, 20, 0, 1), (16, .if_icmp .le 0, 27, 0, 0), (19, .goto_w 0, 19, 0, 0)]
def B_SC_many_19 : List Ent := [(19, .athrow, 0, 0, 0)]
def B_SC_many_27 : List Ent := [(27, .aload 0, 0, 0, 0), (28, .iload 0, 1, 0, 0), (29, .invokevirtual 0, 118, 2, 20), (32, .aload 0, 0, 0, 0), (33, .getfield 0, 20, 1, 10), (36, .aload 0, 0, 0, 0), (37, .getfield 0, 20, 1, 3), (40, .invokevirtual 0, 57, 2, 15), (43, .istore 0, 3, 0, 0), (44, .aload 0, 0, 0, 0), (45, .aload 0, 0, 0, 0), (46, .getfield 0, 20, 1, 9), (49, .getfield 0, 17, 0, 1), (52, .putfield 0, 20, 0, 2), (55, .iload 0, 3, 0, 0), (56, .ifCond .ne 0, 71, 0, 0), (59, .iconst 0, 0, 0, (-1000000)), (62, .aload 0, 0, 0, 0), (63, .getfield 0, 20, 1, 9), (66, .getfield 0, 17, 0, 0), (69, .isub, 0, 0, 0), (70, .ireturn, 0, 0, 0)]
def B_SC_many_71 : List Ent := [(71, .aload 0, 0, 0, 0), (72, .getfield 0, 20, 1, 5), (75, .invokevirtual 0, 31, 1, 12), (78, .aload 0, 0, 0, 0), (79, .getfield 0, 20, 1, 5), (82, .aload 0, 0, 0, 0), (83, .getfield 0, 20, 1, 10), (86, .getfield 0, 15, 1, 0), (89, .iload 0, 2, 0, 0), (90, .invokevirtual 0, 37, 3, 12), (93, .ireturn, 0, 0, 0)]
def lb_SC_many : List (Nat × List Ent) := [(0, B_SC_many_0), (19, B_SC_many_19), (27, B_SC_many_27), (71, B_SC_many_71)]
def B_SC_format_0 : List Ent := [(0, .aload 0, 0, 0, 0), (1, .iload 0, 1, 0, 0), (2, .invokevirtual 0, 127, 2, 20), (5, .aload 0, 0, 0, 0), (6, .getfield 0, 20, 1, 5), (9, .invokevirtual 0, 31, 1, 12), (12, .aload 0, 0, 0, 0), (13, .iconst 0, 0, 0, 0), (14, .putfield 0, 20, 0, 14), (17, .aload 0, 0, 0, 0), (18, .getfield 0, 20, 1, 3), (21, .getfield 0, 10, 1, 1), (24, .iload 0, 1, 0, 0), (25, .iaload, 0, 0, 0), (26, .istore 0, 2, 0, 0), (27, .iconst 0, 0, 0, 0), (28, .istore 0, 3, 0, 0), (29, .goto_w 0, 29, 0, 0)]
def B_SC_format_29 : List Ent := [(29, .iload 0, 3, 0, 0), (30, .aload 0, 0, 0, 0), (31, .getfield 0, 20, 1, 3), (34, .getfield 0, 10, 0, 3), (37, .if_icmp .ge 0, 67, 0, 0), (40, .iload 0, 2, 0, 0), (41, .iload 0, 3, 0, 0), (42, .ishr, 0, 0, 0), (43, .iconst 0, 0, 0, 1), (44, .iand, 0, 0, 0), (45, .ifCond .eq 0, 61, 0, 0), (48, .aload 0, 0, 0, 0), (49, .aload 0, 0, 0, 0), (50, .getfield 0, 20, 1, 3), (53, .getfield 0, 10, 1, 0), (56, .iload 0, 3, 0, 0), (57, .iaload, 0, 0, 0), (58, .invokevirtual 0, 169, 2, 20), (61, .goto_w 0, 61, 0, 0)]
def B_SC_format_61 : List Ent := [(61, .iinc 0 0, 3, 0, 1), (64, .goto 0, 29, 0, 0)]
def B_SC_format_67 : List Ent := [(67, .aload 0, 0, 0, 0), (68, .getfield 0, 20, 1, 4), (71, .invokevirtual 0, 40, 1, 13), (74, .iload 0, 1, 0, 0), (75, .if_icmp .ne 0, 84, 0, 0), (78, .aload 0, 0, 0, 0), (79, .iconst 0, 0, 0, 42), (81, .invokevirtual 0, 170, 2, 20), (84, .goto_w 0, 84, 0, 0)]
def B_SC_format_84 : List Ent := [(84, .aload 0, 0, 0, 0), (85, .getfield 0, 20, 1, 5), (88, .getfield 0, 12, 1, 2), (91, .iload 0, 1, 0, 0), (92, .iaload, 0, 0, 0), (93, .iconst 0, 0, 0, (-1)), (94, .if_icmp .eq 0, 103, 0, 0), (97, .aload 0, 0, 0, 0), (98, .iconst 0, 0, 0, 33), (100, .invokevirtual 0, 170, 2, 20), (103, .goto_w 0, 103, 0, 0)]
def B_SC_format_103 : List Ent := [(103, .aload 0, 0, 0, 0), (104, .getfield 0, 20, 1, 5), (107, .getfield 0, 12, 1, 3), (110, .iload 0, 1, 0, 0), (111, .baload, 0, 0, 0), (112, .ifCond .ne 0, 121, 0, 0), (115, .aload 0, 0, 0, 0), (116, .iconst 0, 0, 0, 45), (118, .invokevirtual 0, 170, 2, 20), (121, .goto_w 0, 121, 0, 0)]
def B_SC_format_121 : List Ent := [(121, .aload 0, 0, 0, 0), (122, .getfield 0, 20, 0, 14), (125, .ireturn, 0, 0, 0)]
def lb_SC_format : List (Nat × List Ent) := [(0, B_SC_format_0), (29, B_SC_format_29), (61, B_SC_format_61), (67, B_SC_format_67), (84, B_SC_format_84), (103, B_SC_format_103), (121, B_SC_format_121)]
def B_SC_showName_0 : List Ent := [(0, .aload 0, 0, 0, 0), (1, .getfield 0, 20, 0, 14), (4, .ifCond .le 0, 13, 0, 0), (7, .aload 0, 0, 0, 0), (8, .iconst 0, 0, 0, 32), (10, .invokevirtual 0, 170, 2, 20), (13, .goto_w 0, 13, 0, 0)]
def B_SC_showName_13 : List Ent := [(13, .iload 0, 1, 0, 0), (14, .invokestatic 0, 124, 1, 0), (17, .istore 0, 2, 0, 0), (18, .iconst 0, 0, 0, 0), (19, .istore 0, 3, 0, 0), (20, .goto_w 0, 20, 0, 0)]
def B_SC_showName_20 : List Ent := [(20, .iload 0, 3, 0, 0), (21, .iload 0, 2, 0, 0), (22, .if_icmp .ge 0, 40, 0, 0), (25, .aload 0, 0, 0, 0), (26, .iload 0, 1, 0, 0), (27, .iload 0, 3, 0, 0), (28, .invokestatic 0, 125, 2, 0), (31, .invokevirtual 0, 170, 2, 20), (34, .iinc 0 0, 3, 0, 1), (37, .goto 0, 20, 0, 0)]
def B_SC_showName_40 : List Ent := [(40, .return_, 0, 0, 0)]
def lb_SC_showName : List (Nat × List Ent) := [(0, B_SC_showName_0), (13, B_SC_showName_13), (20, B_SC_showName_20), (40, B_SC_showName_40)]
def B_SC_show_0 : List Ent := [(0, .aload 0, 0, 0, 0), (1, .getfield 0, 20, 0, 14), (4, .aload 0, 0, 0, 0), (5, .getfield 0, 20, 1, 13), (8, .arraylength, 0, 0, 0), (9, .if_icmp .ge 0, 32, 0, 0), (12, .aload 0, 0, 0, 0), (13, .getfield 0, 20, 1, 13), (16, .aload 0, 0, 0, 0), (17, .getfield 0, 20, 0, 14), (20, .iload 0, 1, 0, 0), (21, .iastore, 0, 0, 0), (22, .aload 0, 0, 0, 0), (23, .dup, 0, 0, 0), (24, .getfield 0, 20, 0, 14), (27, .iconst 0, 0, 0, 1), (28, .iadd, 0, 0, 0), (29, .putfield 0, 20, 0, 14), (32, .goto_w 0, 32, 0, 0)]
def B_SC_show_32 : List Ent := [(32, .return_, 0, 0, 0)]
def lb_SC_show : List (Nat × List Ent) := [(0, B_SC_show_0), (32, B_SC_show_32)]
def B_SC_formattedByte_0 : List Ent := [(0, .iload 0, 1, 0, 0), (1, .ifCond .lt 0, 12, 0, 0), (4, .iload 0, 1, 0, 0), (5, .aload 0, 0, 0, 0), (6, .getfield 0, 20, 0, 14), (9, .if_icmp .lt 0, 14, 0, 0), (12, .goto_w 0, 12, 0, 0)]
def B_SC_formattedByte_12 : List Ent := [(12, .iconst 0, 0, 0, (-1)), (13, .ireturn, 0, 0, 0)]
def B_SC_formattedByte_14 : List Ent := [(14, .aload 0, 0, 0, 0), (15, .getfield 0, 20, 1, 13), (18, .iload 0, 1, 0, 0), (19, .iaload, 0, 0, 0), (20, .ireturn, 0, 0, 0)]
def lb_SC_formattedByte : List (Nat × List Ent) := [(0, B_SC_formattedByte_0), (12, B_SC_formattedByte_12), (14, B_SC_formattedByte_14)]
def B_SC_undoCount_0 : List Ent := [(0, .aload 0, 0, 0, 0), (1, .getfield 0, 20, 1, 8), (4, .getfield 0, 11, 0, 3), (7, .ireturn, 0, 0, 0)]
def lb_SC_undoCount : List (Nat × List Ent) := [(0, B_SC_undoCount_0)]
def B_SC_undo_0 : List Ent := [(0, .aload 0, 0, 0, 0), (1, .getfield 0, 20, 1, 8), (4, .getfield 0, 11, 0, 3), (7, .ifCond .ne 0, 12, 0, 0), (10, .iconst 0, 0, 0, (-1)), (11, .ireturn, 0, 0, 0)]
def B_SC_undo_12 : List Ent := [(12, .aload 0, 0, 0, 0), (13, .getfield 0, 20, 1, 8), (16, .aload 0, 0, 0, 0), (17, .getfield 0, 20, 1, 4), (20, .invokevirtual 0, 24, 2, 11), (23, .aload 0, 0, 0, 0), (24, .getfield 0, 20, 1, 5), (27, .invokevirtual 0, 29, 1, 12), (30, .aload 0, 0, 0, 0), (31, .getfield 0, 20, 1, 8), (34, .getfield 0, 11, 0, 3), (37, .ireturn, 0, 0, 0)]
def lb_SC_undo : List (Nat × List Ent) := [(0, B_SC_undo_0), (12, B_SC_undo_12)]
def B_SC_saveSnapshot_0 : List Ent := [(0, .aload 0, 0, 0, 0), (1, .getfield 0, 20, 1, 8), (4, .aload 0, 0, 0, 0), (5, .getfield 0, 20, 1, 4), (8, .invokevirtual 0, 25, 2, 11), (11, .return_, 0, 0, 0)]
def lb_SC_saveSnapshot : List (Nat × List Ent) := [(0, B_SC_saveSnapshot_0)]
def B_SC_restoreSnapshot_0 : List Ent := [(0, .aload 0, 0, 0, 0), (1, .getfield 0, 20, 1, 8), (4, .getfield 0, 11, 2, 2), (7, .ifCond .ne 0, 12, 0, 0), (10, .iconst 0, 0, 0, 0), (11, .ireturn, 0, 1, 0)]
def B_SC_restoreSnapshot_12 : List Ent := [(12, .aload 0, 0, 0, 0), (13, .getfield 0, 20, 1, 8), (16, .aload 0, 0, 0, 0), (17, .getfield 0, 20, 1, 4), (20, .invokevirtual 0, 26, 2, 11), (23, .aload 0, 0, 0, 0), (24, .getfield 0, 20, 1, 5), (27, .invokevirtual 0, 29, 1, 12), (30, .iconst 0, 0, 0, 1), (31, .ireturn, 0, 1, 0)]
def lb_SC_restoreSnapshot : List (Nat × List Ent) := [(0, B_SC_restoreSnapshot_0), (12, B_SC_restoreSnapshot_12)]
def B_Mo_init_0 : List Ent := [(0, .aload 0, 0, 0, 0), (1, .checkcast 0, 0, 0, 0), (4, .aload 0, 0, 0, 0), (5, .iconst 0, 0, 0, 4104), (8, .newarray .int, 0, 0, 0), (10, .putfield 0, 21, 1, 0), (13, .aload 0, 0, 0, 0), (14, .iconst 0, 0, 0, 4104), (17, .newarray .int, 0, 0, 0), (19, .putfield 0, 21, 1, 1), (22, .aload 0, 0, 0, 0), (23, .iconst 0, 0, 0, 4104), (26, .newarray .int, 0, 0, 0), (28, .putfield 0, 21, 1, 2), (31, .aload 0, 0, 0, 0), (32, .iconst 0, 0, 0, 41040), (34, .newarray .int, 0, 0, 0), (36, .putfield 0, 21, 1, 3), (39, .aload 0, 0, 0, 0), (40, .iconst 0, 0, 0, 60), (42, .newarray .int, 0, 0, 0), (44, .putfield 0, 21, 1, 4), (47, .aload 0, 0, 0, 0), (48, .iconst 0, 0, 0, 60), (50, .newarray .int, 0, 0, 0), (52, .putfield 0, 21, 1, 5), (55, .aload 0, 0, 0, 0), (56, .aload 0, 0, 0, 0), (57, .getfield 0, 21, 1, 0), (60, .putfield 0, 21, 1, 6), (63, .aload 0, 0, 0, 0), (64, .aload 0, 0, 0, 0), (65, .getfield 0, 21, 1, 4), (68, .putfield 0, 21, 1, 7), (71, .aload 0, 0, 0, 0), (72, .iconst 0, 0, 0, 252), (75, .newarray .int, 0, 0, 0), (77, .putfield 0, 21, 1, 11), (80, .aload 0, 0, 0, 0), (81, .iconst 0, 0, 0, 1024), (84, .newarray .int, 0, 0, 0), (86, .putfield 0, 21, 1, 12), (89, .aload 0, 0, 0, 0), (90, .iconst 0, 0, 0, 330), (93, .newarray .int, 0, 0, 0), (95, .putfield 0, 21, 1, 14), (98, .aload 0, 0, 0, 0), (99, .iconst 0, 0, 0, 252), (102, .newarray .boolean, 0, 0, 0), (104, .putfield 0, 21, 1, 15), (107, .aload 0, 0, 0, 0), (108, .iconst 0, 0, 0, 252), (111, .newarray .int, 0, 0, 0), (113, .putfield 0, 21, 1, 16), (116, .aload 0, 0, 0, 0), (117, .iconst 0, 0, 0, 252), (120, .newarray .int, 0, 0, 0), (122, .putfield 0, 21, 1, 17), (125, .aload 0, 0, 0, 0), (126, .iconst 0, 0, 0, 252), (129, .newarray .int, 0, 0, 0), (131, .putfield 0, 21, 1, 18), (134, .aload 0, 0, 0, 0), (135, .iconst 0, 0, 0, 100), (137, .newarray .int, 0, 0, 0), (139, .putfield 0, 21, 1, 20), (142, .aload 0, 0, 0, 0), (143, .iconst 0, 0, 0, 800), (146, .newarray .int, 0, 0, 0), (148, .putfield 0, 21, 1, 22), (151, .aload 0, 0, 0, 0), (152, .iconst 0, 0, 0, (-1)), (153, .putfield 0, 21, 0, 30), (156, .aload 0, 0, 0, 0), (157, .iconst 0, 0, 0, 15), (159, .anewarray 0, 5, 0, 0), (162, .dup, 0, 0, 0), (163, .iconst 0, 0, 0, 0), (164, .ldc 0, 16, 0, 0), (166, .aastore, 0, 0, 0), (167, .dup, 0, 0, 0), (168, .iconst 0, 0, 0, 1), (169, .ldc 0, 17, 0, 0), (171, .aastore, 0, 0, 0), (172, .dup, 0, 0, 0), (173, .iconst 0, 0, 0, 2), (174, .ldc 0, 18, 0, 0), (176, .aastore, 0, 0, 0), (177, .dup, 0, 0, 0), (178, .iconst 0, 0, 0, 3), (179, .ldc 0, 19, 0, 0), (181, .aastore, 0, 0, 0), (182, .dup, 0, 0, 0), (183, .iconst 0, 0, 0, 4), (184, .ldc 0, 20, 0, 0), (186, .aastore, 0, 0, 0), (187, .dup, 0, 0, 0), (188, .iconst 0, 0, 0, 5), (189, .ldc 0, 21, 0, 0), (191, .aastore, 0, 0, 0), (192, .dup, 0, 0, 0), (193, .iconst 0, 0, 0, 6), (195, .ldc 0, 22, 0, 0), (197, .aastore, 0, 0, 0), (198, .dup, 0, 0, 0), (199, .iconst 0, 0, 0, 7), (201, .ldc 0, 23, 0, 0), (203, .aastore, 0, 0, 0), (204, .dup, 0, 0, 0), (205, .iconst 0, 0, 0, 8), (207, .ldc 0, 24, 0, 0), (209, .aastore, 0, 0, 0), (210, .dup, 0, 0, 0), (211, .iconst 0, 0, 0, 9), (213, .ldc 0, 25, 0, 0), (215, .aastore, 0, 0, 0), (216, .dup, 0, 0, 0), (217, .iconst 0, 0, 0, 10), (219, .ldc 0, 26, 0, 0), (221, .aastore, 0, 0, 0), (222, .dup, 0, 0, 0), (223, .iconst 0, 0, 0, 11), (225, .ldc 0, 27, 0, 0), (227, .aastore, 0, 0, 0), (228, .dup, 0, 0, 0), (229, .iconst 0, 0, 0, 12), (231, .ldc 0, 28, 0, 0), (233, .aastore, 0, 0, 0), (234, .dup, 0, 0, 0), (235, .iconst 0, 0, 0, 13), (237, .ldc 0, 29, 0, 0), (239, .aastore, 0, 0, 0), (240, .dup, 0, 0, 0), (241, .iconst 0, 0, 0, 14), (243, .ldc 0, 30, 0, 0), (245, .aastore, 0, 0, 0), (246, .putfield 0, 21, 1, 33), (249, .aload 0, 0, 0, 0), (250, .iconst 0, 0, 0, 330), (253, .newarray .int, 0, 0, 0), (255, .putfield 0, 21, 1, 34), (258, .aload 0, 0, 0, 0), (259, .iconst 0, 0, 0, 2), (260, .invokevirtual 0, 185, 2, 21), (263, .iconst 0, 0, 0, 0), (264, .istore 0, 1, 0, 0), (265, .goto_w 0, 265, 0, 0)]
def B_Mo_init_265 : List Ent := [(265, .iload 0, 1, 0, 0), (266, .iconst 0, 0, 0, 4), (267, .if_icmp .ge 0, 301, 0, 0), (270, .aload 0, 0, 0, 0), (271, .getfield 0, 21, 1, 7), (274, .iconst 0, 0, 0, 6), (276, .iload 0, 1, 0, 0), (277, .imul, 0, 0, 0), (278, .iconst 0, 0, 0, 97), (280, .iload 0, 1, 0, 0), (281, .iadd, 0, 0, 0), (282, .iastore, 0, 0, 0), (283, .aload 0, 0, 0, 0), (284, .getfield 0, 21, 1, 6), (287, .iconst 0, 0, 0, 8), (289, .iload 0, 1, 0, 0), (290, .iadd, 0, 0, 0), (291, .iload 0, 1, 0, 0), (292, .iconst 0, 0, 0, 1), (293, .iadd, 0, 0, 0), (294, .iastore, 0, 0, 0), (295, .iinc 0 0, 1, 0, 1), (298, .goto 0, 265, 0, 0)]
def B_Mo_init_301 : List Ent := [(301, .aload 0, 0, 0, 0), (302, .getfield 0, 21, 1, 6), (305, .iconst 0, 0, 0, 0), (306, .iconst 0, 0, 0, 4), (307, .iastore, 0, 0, 0), (308, .aload 0, 0, 0, 0), (309, .invokevirtual 0, 188, 1, 21), (312, .return_, 0, 0, 0)]
def lb_Mo_init : List (Nat × List Ent) := [(0, B_Mo_init_0), (265, B_Mo_init_265), (301, B_Mo_init_301)]
def B_Mo_thrown_0 : List Ent := [(0, .aload 0, 0, 0, 0), (1, .getfield 0, 21, 0, 9), (4, .ireturn, 0, 0, 0)]
def lb_Mo_thrown : List (Nat × List Ent) := [(0, B_Mo_thrown_0)]
def B_Mo_raise_0 : List Ent := [(0, .aload 0, 0, 0, 0), (1, .iload 0, 1, 0, 0), (2, .putfield 0, 21, 0, 9), (5, .iconst 0, 0, 0, 0), (6, .ireturn, 0, 0, 0)]
def lb_Mo_raise : List (Nat × List Ent) := [(0, B_Mo_raise_0)]
def B_Mo_inRange_0 : List Ent := [(0, .iload 0, 0, 0, 0), (1, .iload 0, 1, 0, 0), (2, .if_icmp .lt 0, 14, 0, 0), (5, .iload 0, 0, 0, 0), (6, .iload 0, 2, 0, 0), (7, .if_icmp .gt 0, 14, 0, 0), (10, .iconst 0, 0, 0, 1), (11, .goto 0, 15, 0, 0)]
def B_Mo_inRange_14 : List Ent := [(14, .iconst 0, 0, 0, 0), (15, .goto_w 0, 15, 0, 0)]
def B_Mo_inRange_15 : List Ent := [(15, .ireturn, 0, 1, 0)]
def lb_Mo_inRange : List (Nat × List Ent) := [(0, B_Mo_inRange_0), (14, B_Mo_inRange_14), (15, B_Mo_inRange_15)]
def B_Mo_lacks_0 : List Ent := [(0, .aload 0, 0, 0, 0), (1, .iload 0, 1, 0, 0), (2, .ifCond .eq 0, 9, 0, 0), (5, .iconst 0, 0, 0, 0), (6, .goto 0, 10, 0, 0)]
def B_Mo_lacks_9 : List Ent := [(9, .iconst 0, 0, 0, 1), (10, .goto_w 0, 10, 0, 0)]
def B_Mo_lacks_10 : List Ent := [(10, .putfield 0, 21, 0, 9), (13, .iload 0, 1, 0, 0), (14, .ifCond .ne 0, 21, 0, 0), (17, .iconst 0, 0, 0, 1), (18, .goto 0, 22, 0, 0)]
def B_Mo_lacks_21 : List Ent := [(21, .iconst 0, 0, 0, 0), (22, .goto_w 0, 22, 0, 0)]
def B_Mo_lacks_22 : List Ent := [(22, .ireturn, 0, 1, 0)]
def lb_Mo_lacks : List (Nat × List Ent) := [(0, B_Mo_lacks_0), (9, B_Mo_lacks_9), (10, B_Mo_lacks_10), (21, B_Mo_lacks_21), (22, B_Mo_lacks_22)]
def B_Mo_least_0 : List Ent := [(0, .iload 0, 0, 0, 0), (1, .iload 0, 1, 0, 0), (2, .if_icmp .ge 0, 9, 0, 0), (5, .iload 0, 0, 0, 0), (6, .goto 0, 10, 0, 0)]
def B_Mo_least_9 : List Ent := [(9, .iload 0, 1, 0, 0), (10, .goto_w 0, 10, 0, 0)]
def B_Mo_least_10 : List Ent := [(10, .ireturn, 0, 0, 0)]
def lb_Mo_least : List (Nat × List Ent) := [(0, B_Mo_least_0), (9, B_Mo_least_9), (10, B_Mo_least_10)]
def B_Mo_greatest_0 : List Ent := [(0, .iload 0, 0, 0, 0), (1, .iload 0, 1, 0, 0), (2, .if_icmp .le 0, 9, 0, 0), (5, .iload 0, 0, 0, 0), (6, .goto 0, 10, 0, 0)]
def B_Mo_greatest_9 : List Ent := [(9, .iload 0, 1, 0, 0), (10, .goto_w 0, 10, 0, 0)]
def B_Mo_greatest_10 : List Ent := [(10, .ireturn, 0, 0, 0)]
def lb_Mo_greatest : List (Nat × List Ent) := [(0, B_Mo_greatest_0), (9, B_Mo_greatest_9), (10, B_Mo_greatest_10)]
def B_Mo_has_0 : List Ent := [(0, .iload 0, 0, 0, 0), (1, .iload 0, 1, 0, 0), (2, .ishr, 0, 0, 0), (3, .iconst 0, 0, 0, 1), (4, .iand, 0, 0, 0), (5, .iconst 0, 0, 0, 1), (6, .if_icmp .ne 0, 13, 0, 0), (9, .iconst 0, 0, 0, 1), (10, .goto 0, 14, 0, 0)]
def B_Mo_has_13 : List Ent := [(13, .iconst 0, 0, 0, 0), (14, .goto_w 0, 14, 0, 0)]
def B_Mo_has_14 : List Ent := [(14, .ireturn, 0, 1, 0)]
def lb_Mo_has : List (Nat × List Ent) := [(0, B_Mo_has_0), (13, B_Mo_has_13), (14, B_Mo_has_14)]
def B_Mo_bits_0 : List Ent := [(0, .iconst 0, 0, 0, 0), (1, .istore 0, 1, 0, 0), (2, .iload 0, 0, 0, 0), (3, .istore 0, 2, 0, 0), (4, .goto_w 0, 4, 0, 0)]
def B_Mo_bits_4 : List Ent := [(4, .iload 0, 2, 0, 0), (5, .ifCond .eq 0, 21, 0, 0), (8, .iload 0, 1, 0, 0), (9, .iload 0, 2, 0, 0), (10, .iconst 0, 0, 0, 1), (11, .iand, 0, 0, 0), (12, .iadd, 0, 0, 0), (13, .istore 0, 1, 0, 0), (14, .iload 0, 2, 0, 0), (15, .iconst 0, 0, 0, 1), (16, .ishr, 0, 0, 0), (17, .istore 0, 2, 0, 0), (18, .goto 0, 4, 0, 0)]
def B_Mo_bits_21 : List Ent := [(21, .iload 0, 1, 0, 0), (22, .ireturn, 0, 0, 0)]
def lb_Mo_bits : List (Nat × List Ent) := [(0, B_Mo_bits_0), (4, B_Mo_bits_4), (21, B_Mo_bits_21)]
def B_Mo_begin_0 : List Ent := [(0, .iconst 0, 0, 0, 0), (1, .istore 0, 2, 0, 0), (2, .goto_w 0, 2, 0, 0)]
def B_Mo_begin_2 : List Ent := [(2, .iload 0, 2, 0, 0), (3, .iconst 0, 0, 0, 4104), (6, .if_icmp .ge 0, 22, 0, 0), (9, .aload 0, 0, 0, 0), (10, .getfield 0, 21, 1, 6), (13, .iload 0, 2, 0, 0), (14, .iconst 0, 0, 0, 0), (15, .iastore, 0, 0, 0), (16, .iinc 0 0, 2, 0, 1), (19, .goto 0, 2, 0, 0)]
def B_Mo_begin_22 : List Ent := [(22, .iconst 0, 0, 0, 0), (23, .istore 0, 2, 0, 0), (24, .goto_w 0, 24, 0, 0)]
def B_Mo_begin_24 : List Ent := [(24, .iload 0, 2, 0, 0), (25, .aload 0, 0, 0, 0), (26, .getfield 0, 21, 1, 7), (29, .arraylength, 0, 0, 0), (30, .if_icmp .ge 0, 46, 0, 0), (33, .aload 0, 0, 0, 0), (34, .getfield 0, 21, 1, 7), (37, .iload 0, 2, 0, 0), (38, .iconst 0, 0, 0, 0), (39, .iastore, 0, 0, 0), (40, .iinc 0 0, 2, 0, 1), (43, .goto 0, 24, 0, 0)]
def B_Mo_begin_46 : List Ent := [(46, .aload 0, 0, 0, 0), (47, .getfield 0, 21, 1, 6), (50, .iconst 0, 0, 0, 1), (51, .iload 0, 1, 0, 0), (52, .iastore, 0, 0, 0), (53, .aload 0, 0, 0, 0), (54, .getfield 0, 21, 1, 6), (57, .iconst 0, 0, 0, 3), (58, .iconst 0, 0, 0, (-1)), (59, .iastore, 0, 0, 0), (60, .return_, 0, 0, 0)]
def lb_Mo_begin : List (Nat × List Ent) := [(0, B_Mo_begin_0), (2, B_Mo_begin_2), (22, B_Mo_begin_22), (24, B_Mo_begin_24), (46, B_Mo_begin_46)]
def B_Mo_chosen_0 : List Ent := [(0, .iconst 0, 0, 0, 1), (1, .istore 0, 2, 0, 0), (2, .iconst 0, 0, 0, 1), (3, .istore 0, 3, 0, 0), (4, .goto_w 0, 4, 0, 0)]
def B_Mo_chosen_4 : List Ent := [(4, .iload 0, 3, 0, 0), (5, .iload 0, 1, 0, 0), (6, .if_icmp .gt 0, 25, 0, 0), (9, .iload 0, 2, 0, 0), (10, .iload 0, 0, 0, 0), (11, .iload 0, 1, 0, 0), (12, .isub, 0, 0, 0), (13, .iload 0, 3, 0, 0), (14, .iadd, 0, 0, 0), (15, .imul, 0, 0, 0), (16, .iload 0, 3, 0, 0), (17, .idiv, 0, 0, 0), (18, .istore 0, 2, 0, 0), (19, .iinc 0 0, 3, 0, 1), (22, .goto 0, 4, 0, 0)]
def B_Mo_chosen_25 : List Ent := [(25, .iload 0, 2, 0, 0), (26, .ireturn, 0, 0, 0)]
def lb_Mo_chosen : List (Nat × List Ent) := [(0, B_Mo_chosen_0), (4, B_Mo_chosen_4), (25, B_Mo_chosen_25)]
def B_Mo_unrank_0 : List Ent := [(0, .iconst 0, 0, 0, 0), (1, .istore 0, 2, 0, 0), (2, .iload 0, 1, 0, 0), (3, .istore 0, 3, 0, 0), (4, .aload 0, 0, 0, 0), (5, .getfield 0, 21, 1, 6), (8, .iconst 0, 0, 0, 1), (9, .iaload, 0, 0, 0), (10, .istore 0, 4, 0, 0), (12, .aload 0, 0, 0, 0), (13, .getfield 0, 21, 1, 6), (16, .iconst 0, 0, 0, 0), (17, .iaload, 0, 0, 0), (18, .iconst 0, 0, 0, 1), (19, .isub, 0, 0, 0), (20, .istore 0, 5, 0, 0), (22, .goto_w 0, 22, 0, 0)]
def B_Mo_unrank_22 : List Ent := [(22, .iload 0, 5, 0, 0), (24, .ifCond .lt 0, 89, 0, 0), (27, .iload 0, 4, 0, 0), (29, .ifCond .le 0, 89, 0, 0), (32, .iload 0, 4, 0, 0), (34, .iload 0, 5, 0, 0), (36, .if_icmp .le 0, 43, 0, 0), (39, .iconst 0, 0, 0, 0), (40, .goto 0, 50, 0, 0)]
def B_Mo_unrank_43 : List Ent := [(43, .iload 0, 5, 0, 0), (45, .iload 0, 4, 0, 0), (47, .invokestatic 0, 186, 2, 0), (50, .goto_w 0, 50, 0, 0)]
def B_Mo_unrank_50 : List Ent := [(50, .istore 0, 6, 0, 0), (52, .iload 0, 3, 0, 0), (53, .iload 0, 6, 0, 0), (55, .if_icmp .lt 0, 83, 0, 0), (58, .iload 0, 2, 0, 0), (59, .iconst 0, 0, 0, 1), (60, .iload 0, 5, 0, 0), (62, .ishl, 0, 0, 0), (63, .ior, 0, 0, 0), (64, .istore 0, 2, 0, 0), (65, .iinc 0 0, 4, 0, (-1)), (68, .iload 0, 5, 0, 0), (70, .iload 0, 4, 0, 0), (72, .invokestatic 0, 186, 2, 0), (75, .iconst 0, 0, 0, 1), (76, .isub, 0, 0, 0), (77, .iload 0, 3, 0, 0), (78, .iload 0, 6, 0, 0), (80, .isub, 0, 0, 0), (81, .isub, 0, 0, 0), (82, .istore 0, 3, 0, 0), (83, .goto_w 0, 83, 0, 0)]
def B_Mo_unrank_83 : List Ent := [(83, .iinc 0 0, 5, 0, (-1)), (86, .goto 0, 22, 0, 0)]
def B_Mo_unrank_89 : List Ent := [(89, .iload 0, 2, 0, 0), (90, .ireturn, 0, 0, 0)]
def lb_Mo_unrank : List (Nat × List Ent) := [(0, B_Mo_unrank_0), (22, B_Mo_unrank_22), (43, B_Mo_unrank_43), (50, B_Mo_unrank_50), (83, B_Mo_unrank_83), (89, B_Mo_unrank_89)]
def B_Mo_layChoices_0 : List Ent := [(0, .aload 0, 0, 0, 0), (1, .aload 0, 0, 0, 0), (2, .getfield 0, 21, 1, 6), (5, .iconst 0, 0, 0, 0), (6, .iaload, 0, 0, 0), (7, .aload 0, 0, 0, 0), (8, .getfield 0, 21, 1, 6), (11, .iconst 0, 0, 0, 1), (12, .iaload, 0, 0, 0), (13, .invokestatic 0, 186, 2, 0), (16, .putfield 0, 21, 0, 13), (19, .iconst 0, 0, 0, 0), (20, .istore 0, 1, 0, 0), (21, .goto_w 0, 21, 0, 0)]
def B_Mo_layChoices_21 : List Ent := [(21, .iload 0, 1, 0, 0), (22, .iconst 0, 0, 0, 1024), (25, .if_icmp .ge 0, 41, 0, 0), (28, .aload 0, 0, 0, 0), (29, .getfield 0, 21, 1, 12), (32, .iload 0, 1, 0, 0), (33, .iconst 0, 0, 0, (-1)), (34, .iastore, 0, 0, 0), (35, .iinc 0 0, 1, 0, 1), (38, .goto 0, 21, 0, 0)]
def B_Mo_layChoices_41 : List Ent := [(41, .iconst 0, 0, 0, 0), (42, .istore 0, 1, 0, 0), (43, .goto_w 0, 43, 0, 0)]
def B_Mo_layChoices_43 : List Ent := [(43, .iload 0, 1, 0, 0), (44, .aload 0, 0, 0, 0), (45, .getfield 0, 21, 0, 13), (48, .if_icmp .ge 0, 80, 0, 0), (51, .aload 0, 0, 0, 0), (52, .getfield 0, 21, 1, 11), (55, .iload 0, 1, 0, 0), (56, .aload 0, 0, 0, 0), (57, .iload 0, 1, 0, 0), (58, .invokevirtual 0, 187, 2, 21), (61, .iastore, 0, 0, 0), (62, .aload 0, 0, 0, 0), (63, .getfield 0, 21, 1, 12), (66, .aload 0, 0, 0, 0), (67, .getfield 0, 21, 1, 11), (70, .iload 0, 1, 0, 0), (71, .iaload, 0, 0, 0), (72, .iload 0, 1, 0, 0), (73, .iastore, 0, 0, 0), (74, .iinc 0 0, 1, 0, 1), (77, .goto 0, 43, 0, 0)]
def B_Mo_layChoices_80 : List Ent := [(80, .return_, 0, 0, 0)]
def lb_Mo_layChoices : List (Nat × List Ent) := [(0, B_Mo_layChoices_0), (21, B_Mo_layChoices_21), (41, B_Mo_layChoices_41), (43, B_Mo_layChoices_43), (80, B_Mo_layChoices_80)]
def B_Mo_isChoice_0 : List Ent := [(0, .iload 0, 1, 0, 0), (1, .iconst 0, 0, 0, 0), (2, .aload 0, 0, 0, 0), (3, .getfield 0, 21, 0, 13), (6, .iconst 0, 0, 0, 1), (7, .isub, 0, 0, 0), (8, .invokestatic 0, 179, 3, 0), (11, .ireturn, 0, 1, 0)]
def lb_Mo_isChoice : List (Nat × List Ent) := [(0, B_Mo_isChoice_0)]
def B_Mo_areChoices_0 : List Ent := [(0, .aload 0, 0, 0, 0), (1, .iload 0, 1, 0, 0), (2, .invokevirtual 0, 189, 2, 21), (5, .ifCond .eq 0, 20, 0, 0), (8, .aload 0, 0, 0, 0), (9, .iload 0, 2, 0, 0), (10, .invokevirtual 0, 189, 2, 21), (13, .ifCond .eq 0, 20, 0, 0), (16, .iconst 0, 0, 0, 1), (17, .goto 0, 21, 0, 0)]
def B_Mo_areChoices_20 : List Ent := [(20, .iconst 0, 0, 0, 0), (21, .goto_w 0, 21, 0, 0)]
def B_Mo_areChoices_21 : List Ent := [(21, .ireturn, 0, 1, 0)]
def lb_Mo_areChoices : List (Nat × List Ent) := [(0, B_Mo_areChoices_0), (20, B_Mo_areChoices_20), (21, B_Mo_areChoices_21)]
def B_Mo_isThing_0 : List Ent := [(0, .iload 0, 1, 0, 0), (1, .iconst 0, 0, 0, 0), (2, .aload 0, 0, 0, 0), (3, .getfield 0, 21, 1, 6), (6, .iconst 0, 0, 0, 0), (7, .iaload, 0, 0, 0), (8, .iconst 0, 0, 0, 1), (9, .isub, 0, 0, 0), (10, .invokestatic 0, 179, 3, 0), (13, .ireturn, 0, 1, 0)]
def lb_Mo_isThing : List (Nat × List Ent) := [(0, B_Mo_isThing_0)]
def B_Mo_weightOf_0 : List Ent := [(0, .iconst 0, 0, 0, 0), (1, .istore 0, 2, 0, 0), (2, .iconst 0, 0, 0, 0), (3, .istore 0, 3, 0, 0), (4, .goto_w 0, 4, 0, 0)]
def B_Mo_weightOf_4 : List Ent := [(4, .iload 0, 3, 0, 0), (5, .aload 0, 0, 0, 0), (6, .getfield 0, 21, 1, 6), (9, .iconst 0, 0, 0, 0), (10, .iaload, 0, 0, 0), (11, .if_icmp .ge 0, 49, 0, 0), (14, .iload 0, 2, 0, 0), (15, .aload 0, 0, 0, 0), (16, .getfield 0, 21, 1, 11), (19, .iload 0, 1, 0, 0), (20, .iaload, 0, 0, 0), (21, .iload 0, 3, 0, 0), (22, .invokestatic 0, 183, 2, 0), (25, .ifCond .eq 0, 40, 0, 0), (28, .aload 0, 0, 0, 0), (29, .getfield 0, 21, 1, 6), (32, .iconst 0, 0, 0, 8), (34, .iload 0, 3, 0, 0), (35, .iadd, 0, 0, 0), (36, .iaload, 0, 0, 0), (37, .goto 0, 41, 0, 0)]
def B_Mo_weightOf_40 : List Ent := [(40, .iconst 0, 0, 0, 0), (41, .goto_w 0, 41, 0, 0)]
def B_Mo_weightOf_41 : List Ent := [(41, .iadd, 0, 0, 0), (42, .istore 0, 2, 0, 0), (43, .iinc 0 0, 3, 0, 1), (46, .goto 0, 4, 0, 0)]
def B_Mo_weightOf_49 : List Ent := [(49, .iload 0, 2, 0, 0), (50, .ireturn, 0, 0, 0)]
def lb_Mo_weightOf : List (Nat × List Ent) := [(0, B_Mo_weightOf_0), (4, B_Mo_weightOf_4), (40, B_Mo_weightOf_40), (41, B_Mo_weightOf_41), (49, B_Mo_weightOf_49)]
def B_Mo_apart_0 : List Ent := [(0, .aload 0, 0, 0, 0), (1, .getfield 0, 21, 1, 11), (4, .iload 0, 1, 0, 0), (5, .iaload, 0, 0, 0), (6, .aload 0, 0, 0, 0), (7, .getfield 0, 21, 1, 11), (10, .iload 0, 2, 0, 0), (11, .iaload, 0, 0, 0), (12, .iconst 0, 0, 0, (-1)), (13, .ixor, 0, 0, 0), (14, .iand, 0, 0, 0), (15, .invokestatic 0, 184, 1, 0), (18, .ireturn, 0, 0, 0)]
def lb_Mo_apart : List (Nat × List Ent) := [(0, B_Mo_apart_0)]
def B_Mo_bySwap_0 : List Ent := [(0, .aload 0, 0, 0, 0), (1, .getfield 0, 21, 1, 11), (4, .iload 0, 1, 0, 0), (5, .iaload, 0, 0, 0), (6, .iload 0, 2, 0, 0), (7, .invokestatic 0, 183, 2, 0), (10, .ifCond .eq 0, 26, 0, 0), (13, .aload 0, 0, 0, 0), (14, .getfield 0, 21, 1, 11), (17, .iload 0, 1, 0, 0), (18, .iaload, 0, 0, 0), (19, .iload 0, 3, 0, 0), (20, .invokestatic 0, 183, 2, 0), (23, .ifCond .eq 0, 28, 0, 0), (26, .goto_w 0, 26, 0, 0)]
def B_Mo_bySwap_26 : List Ent := [(26, .iconst 0, 0, 0, (-1)), (27, .ireturn, 0, 0, 0)]
def B_Mo_bySwap_28 : List Ent := [(28, .aload 0, 0, 0, 0), (29, .getfield 0, 21, 1, 12), (32, .aload 0, 0, 0, 0), (33, .getfield 0, 21, 1, 11), (36, .iload 0, 1, 0, 0), (37, .iaload, 0, 0, 0), (38, .iconst 0, 0, 0, 1), (39, .iload 0, 2, 0, 0), (40, .ishl, 0, 0, 0), (41, .iconst 0, 0, 0, (-1)), (42, .ixor, 0, 0, 0), (43, .iand, 0, 0, 0), (44, .iconst 0, 0, 0, 1), (45, .iload 0, 3, 0, 0), (46, .ishl, 0, 0, 0), (47, .ior, 0, 0, 0), (48, .iaload, 0, 0, 0), (49, .ireturn, 0, 0, 0)]
def lb_Mo_bySwap : List (Nat × List Ent) := [(0, B_Mo_bySwap_0), (26, B_Mo_bySwap_26), (28, B_Mo_bySwap_28)]
def B_Mo_compares_0 : List Ent := [(0, .iload 0, 0, 0, 0), (1, .iconst 0, 0, 0, 5), (2, .if_icmp .ne 0, 18, 0, 0), (5, .iload 0, 1, 0, 0), (6, .iload 0, 2, 0, 0), (7, .if_icmp .ge 0, 14, 0, 0), (10, .iconst 0, 0, 0, 1), (11, .goto 0, 47, 0, 0)]
def B_Mo_compares_14 : List Ent := [(14, .iconst 0, 0, 0, 0), (15, .goto 0, 47, 0, 0)]
def B_Mo_compares_18 : List Ent := [(18, .iload 0, 0, 0, 0), (19, .iconst 0, 0, 0, 6), (21, .if_icmp .ne 0, 37, 0, 0), (24, .iload 0, 1, 0, 0), (25, .iload 0, 2, 0, 0), (26, .if_icmp .ne 0, 33, 0, 0), (29, .iconst 0, 0, 0, 1), (30, .goto 0, 47, 0, 0)]
def B_Mo_compares_33 : List Ent := [(33, .iconst 0, 0, 0, 0), (34, .goto 0, 47, 0, 0)]
def B_Mo_compares_37 : List Ent := [(37, .iload 0, 1, 0, 0), (38, .iload 0, 2, 0, 0), (39, .if_icmp .le 0, 46, 0, 0), (42, .iconst 0, 0, 0, 1), (43, .goto 0, 47, 0, 0)]
def B_Mo_compares_46 : List Ent := [(46, .iconst 0, 0, 0, 0), (47, .goto_w 0, 47, 0, 0)]
def B_Mo_compares_47 : List Ent := [(47, .ireturn, 0, 1, 0)]
def lb_Mo_compares : List (Nat × List Ent) := [(0, B_Mo_compares_0), (14, B_Mo_compares_14), (18, B_Mo_compares_18), (33, B_Mo_compares_33), (37, B_Mo_compares_37), (46, B_Mo_compares_46), (47, B_Mo_compares_47)]
def B_Mo_asks_0 : List Ent := [(0, .iload 0, 1, 0, 0), (1, .iconst 0, 0, 0, 1048576), (3, .idiv, 0, 0, 0), (4, .istore 0, 3, 0, 0), (5, .iload 0, 1, 0, 0), (6, .iconst 0, 0, 0, 1048576), (8, .irem, 0, 0, 0), (9, .istore 0, 4, 0, 0), (11, .iload 0, 3, 0, 0), (12, .iconst 0, 0, 0, 7), (14, .if_icmp .le 0, 27, 0, 0), (17, .iload 0, 3, 0, 0), (18, .iconst 0, 0, 0, 3), (19, .isub, 0, 0, 0), (20, .iload 0, 2, 0, 0), (21, .iload 0, 4, 0, 0), (23, .invokestatic 0, 195, 3, 0), (26, .ireturn, 0, 1, 0)]
def B_Mo_asks_27 : List Ent := [(27, .iload 0, 3, 0, 0), (28, .iconst 0, 0, 0, 5), (29, .if_icmp .lt 0, 44, 0, 0), (32, .iload 0, 3, 0, 0), (33, .aload 0, 0, 0, 0), (34, .iload 0, 2, 0, 0), (35, .invokevirtual 0, 192, 2, 21), (38, .iload 0, 4, 0, 0), (40, .invokestatic 0, 195, 3, 0), (43, .ireturn, 0, 1, 0)]
def B_Mo_asks_44 : List Ent := [(44, .iload 0, 4, 0, 0), (46, .iconst 0, 0, 0, 1024), (49, .irem, 0, 0, 0), (50, .istore 0, 5, 0, 0), (52, .aload 0, 0, 0, 0), (53, .getfield 0, 21, 1, 11), (56, .iload 0, 2, 0, 0), (57, .iaload, 0, 0, 0), (58, .iload 0, 5, 0, 0), (60, .iand, 0, 0, 0), (61, .invokestatic 0, 184, 1, 0), (64, .istore 0, 6, 0, 0), (66, .iload 0, 3, 0, 0), (67, .tableswitch 84 0 3 #[29, 45, 56, 67], 0, 0, 0)]
def B_Mo_asks_96 : List Ent := [(96, .iload 0, 6, 0, 0), (98, .iload 0, 5, 0, 0), (100, .invokestatic 0, 184, 1, 0), (103, .if_icmp .ne 0, 110, 0, 0), (106, .iconst 0, 0, 0, 1), (107, .goto 0, 111, 0, 0)]
def B_Mo_asks_110 : List Ent := [(110, .iconst 0, 0, 0, 0), (111, .goto_w 0, 111, 0, 0)]
def B_Mo_asks_111 : List Ent := [(111, .ireturn, 0, 1, 0)]
def B_Mo_asks_112 : List Ent := [(112, .iload 0, 6, 0, 0), (114, .ifCond .le 0, 121, 0, 0), (117, .iconst 0, 0, 0, 1), (118, .goto 0, 122, 0, 0)]
def B_Mo_asks_121 : List Ent := [(121, .iconst 0, 0, 0, 0), (122, .goto_w 0, 122, 0, 0)]
def B_Mo_asks_122 : List Ent := [(122, .ireturn, 0, 1, 0)]
def B_Mo_asks_123 : List Ent := [(123, .iload 0, 6, 0, 0), (125, .ifCond .ne 0, 132, 0, 0), (128, .iconst 0, 0, 0, 1), (129, .goto 0, 133, 0, 0)]
def B_Mo_asks_132 : List Ent := [(132, .iconst 0, 0, 0, 0), (133, .goto_w 0, 133, 0, 0)]
def B_Mo_asks_133 : List Ent := [(133, .ireturn, 0, 1, 0)]
def B_Mo_asks_134 : List Ent := [(134, .iload 0, 6, 0, 0), (136, .iload 0, 4, 0, 0), (138, .iconst 0, 0, 0, 1024), (141, .idiv, 0, 0, 0), (142, .if_icmp .gt 0, 149, 0, 0), (145, .iconst 0, 0, 0, 1), (146, .goto 0, 150, 0, 0)]
def B_Mo_asks_149 : List Ent := [(149, .iconst 0, 0, 0, 0), (150, .goto_w 0, 150, 0, 0)]
def B_Mo_asks_150 : List Ent := [(150, .ireturn, 0, 1, 0)]
def B_Mo_asks_151 : List Ent := [(151, .iload 0, 6, 0, 0), (153, .iload 0, 4, 0, 0), (155, .iconst 0, 0, 0, 1024), (158, .idiv, 0, 0, 0), (159, .if_icmp .lt 0, 166, 0, 0), (162, .iconst 0, 0, 0, 1), (163, .goto 0, 167, 0, 0)]
def B_Mo_asks_166 : List Ent := [(166, .iconst 0, 0, 0, 0), (167, .goto_w 0, 167, 0, 0)]
def B_Mo_asks_167 : List Ent := [(167, .ireturn, 0, 1, 0)]
def lb_Mo_asks : List (Nat × List Ent) := [(0, B_Mo_asks_0), (27, B_Mo_asks_27), (44, B_Mo_asks_44), (96, B_Mo_asks_96), (110, B_Mo_asks_110), (111, B_Mo_asks_111), (112, B_Mo_asks_112), (121, B_Mo_asks_121), (122, B_Mo_asks_122), (123, B_Mo_asks_123), (132, B_Mo_asks_132), (133, B_Mo_asks_133), (134, B_Mo_asks_134), (149, B_Mo_asks_149), (150, B_Mo_asks_150), (151, B_Mo_asks_151), (166, B_Mo_asks_166), (167, B_Mo_asks_167)]
def B_Mo_passes_0 : List Ent := [(0, .iconst 0, 0, 0, 0), (1, .istore 0, 5, 0, 0), (3, .iload 0, 2, 0, 0), (4, .istore 0, 6, 0, 0), (6, .goto_w 0, 6, 0, 0)]
def B_Mo_passes_6 : List Ent := [(6, .iload 0, 6, 0, 0), (8, .iload 0, 2, 0, 0), (9, .iload 0, 3, 0, 0), (10, .iadd, 0, 0, 0), (11, .if_icmp .ge 0, 147, 0, 0), (14, .aload 0, 1, 0, 0), (15, .iload 0, 6, 0, 0), (17, .iaload, 0, 0, 0), (18, .iconst 0, 0, 0, (-1)), (19, .if_icmp .ne 0, 45, 0, 0), (22, .aload 0, 0, 0, 0), (23, .getfield 0, 21, 1, 14), (26, .iload 0, 5, 0, 0), (28, .iconst 0, 0, 0, 1), (29, .isub, 0, 0, 0), (30, .iconst 0, 0, 0, 1), (31, .aload 0, 0, 0, 0), (32, .getfield 0, 21, 1, 14), (35, .iload 0, 5, 0, 0), (37, .iconst 0, 0, 0, 1), (38, .isub, 0, 0, 0), (39, .iaload, 0, 0, 0), (40, .isub, 0, 0, 0), (41, .iastore, 0, 0, 0), (42, .goto 0, 141, 0, 0)]
def B_Mo_passes_45 : List Ent := [(45, .aload 0, 1, 0, 0), (46, .iload 0, 6, 0, 0), (48, .iaload, 0, 0, 0), (49, .ifCond .lt 0, 83, 0, 0), (52, .aload 0, 0, 0, 0), (53, .getfield 0, 21, 1, 14), (56, .iload 0, 5, 0, 0), (58, .aload 0, 0, 0, 0), (59, .aload 0, 1, 0, 0), (60, .iload 0, 6, 0, 0), (62, .iaload, 0, 0, 0), (63, .iload 0, 4, 0, 0), (65, .invokevirtual 0, 196, 3, 21), (68, .ifCond .eq 0, 75, 0, 0), (71, .iconst 0, 0, 0, 1), (72, .goto 0, 76, 0, 0)]
def B_Mo_passes_75 : List Ent := [(75, .iconst 0, 0, 0, 0), (76, .goto_w 0, 76, 0, 0)]
def B_Mo_passes_76 : List Ent := [(76, .iastore, 0, 0, 0), (77, .iinc 0 0, 5, 0, 1), (80, .goto 0, 141, 0, 0)]
def B_Mo_passes_83 : List Ent := [(83, .iinc 0 0, 5, 0, (-1)), (86, .aload 0, 0, 0, 0), (87, .getfield 0, 21, 1, 14), (90, .iload 0, 5, 0, 0), (92, .iconst 0, 0, 0, 1), (93, .isub, 0, 0, 0), (94, .aload 0, 1, 0, 0), (95, .iload 0, 6, 0, 0), (97, .iaload, 0, 0, 0), (98, .iconst 0, 0, 0, (-2)), (100, .if_icmp .ne 0, 123, 0, 0), (103, .aload 0, 0, 0, 0), (104, .getfield 0, 21, 1, 14), (107, .iload 0, 5, 0, 0), (109, .iconst 0, 0, 0, 1), (110, .isub, 0, 0, 0), (111, .iaload, 0, 0, 0), (112, .aload 0, 0, 0, 0), (113, .getfield 0, 21, 1, 14), (116, .iload 0, 5, 0, 0), (118, .iaload, 0, 0, 0), (119, .iand, 0, 0, 0), (120, .goto 0, 140, 0, 0)]
def B_Mo_passes_123 : List Ent := [(123, .aload 0, 0, 0, 0), (124, .getfield 0, 21, 1, 14), (127, .iload 0, 5, 0, 0), (129, .iconst 0, 0, 0, 1), (130, .isub, 0, 0, 0), (131, .iaload, 0, 0, 0), (132, .aload 0, 0, 0, 0), (133, .getfield 0, 21, 1, 14), (136, .iload 0, 5, 0, 0), (138, .iaload, 0, 0, 0), (139, .ior, 0, 0, 0), (140, .goto_w 0, 140, 0, 0)]
def B_Mo_passes_140 : List Ent := [(140, .iastore, 0, 0, 0), (141, .goto_w 0, 141, 0, 0)]
def B_Mo_passes_141 : List Ent := [(141, .iinc 0 0, 6, 0, 1), (144, .goto 0, 6, 0, 0)]
def B_Mo_passes_147 : List Ent := [(147, .aload 0, 0, 0, 0), (148, .getfield 0, 21, 1, 14), (151, .iconst 0, 0, 0, 0), (152, .iaload, 0, 0, 0), (153, .iconst 0, 0, 0, 1), (154, .if_icmp .ne 0, 161, 0, 0), (157, .iconst 0, 0, 0, 1), (158, .goto 0, 162, 0, 0)]
def B_Mo_passes_161 : List Ent := [(161, .iconst 0, 0, 0, 0), (162, .goto_w 0, 162, 0, 0)]
def B_Mo_passes_162 : List Ent := [(162, .ireturn, 0, 1, 0)]
def lb_Mo_passes : List (Nat × List Ent) := [(0, B_Mo_passes_0), (6, B_Mo_passes_6), (45, B_Mo_passes_45), (75, B_Mo_passes_75), (76, B_Mo_passes_76), (83, B_Mo_passes_83), (123, B_Mo_passes_123), (140, B_Mo_passes_140), (141, B_Mo_passes_141), (147, B_Mo_passes_147), (161, B_Mo_passes_161), (162, B_Mo_passes_162)]
def B_Mo_ofRule_0 : List Ent := [(0, .aload 0, 0, 0, 0), (1, .getfield 0, 21, 1, 6), (4, .iconst 0, 0, 0, 774), (7, .iconst 0, 0, 0, 333), (10, .iload 0, 1, 0, 0), (11, .imul, 0, 0, 0), (12, .iadd, 0, 0, 0), (13, .iload 0, 2, 0, 0), (14, .iadd, 0, 0, 0), (15, .iaload, 0, 0, 0), (16, .ireturn, 0, 0, 0)]
def lb_Mo_ofRule : List (Nat × List Ent) := [(0, B_Mo_ofRule_0)]
def B_Mo_setRule_0 : List Ent := [(0, .aload 0, 0, 0, 0), (1, .getfield 0, 21, 1, 6), (4, .iconst 0, 0, 0, 774), (7, .iconst 0, 0, 0, 333), (10, .iload 0, 1, 0, 0), (11, .imul, 0, 0, 0), (12, .iadd, 0, 0, 0), (13, .iload 0, 2, 0, 0), (14, .iadd, 0, 0, 0), (15, .iload 0, 3, 0, 0), (16, .iastore, 0, 0, 0), (17, .return_, 0, 0, 0)]
def lb_Mo_setRule : List (Nat × List Ent) := [(0, B_Mo_setRule_0)]
def B_Mo_isRule_0 : List Ent := [(0, .iload 0, 1, 0, 0), (1, .iconst 0, 0, 0, 0), (2, .aload 0, 0, 0, 0), (3, .getfield 0, 21, 1, 6), (6, .iconst 0, 0, 0, 6), (8, .iaload, 0, 0, 0), (9, .iconst 0, 0, 0, 1), (10, .isub, 0, 0, 0), (11, .invokestatic 0, 179, 3, 0), (14, .ireturn, 0, 1, 0)]
def lb_Mo_isRule : List (Nat × List Ent) := [(0, B_Mo_isRule_0)]
def B_Mo_isOn_0 : List Ent := [(0, .aload 0, 0, 0, 0), (1, .iload 0, 1, 0, 0), (2, .iconst 0, 0, 0, 0), (3, .invokevirtual 0, 198, 3, 21), (6, .iconst 0, 0, 0, 1), (7, .if_icmp .ne 0, 14, 0, 0), (10, .iconst 0, 0, 0, 1), (11, .goto 0, 15, 0, 0)]
def B_Mo_isOn_14 : List Ent := [(14, .iconst 0, 0, 0, 0), (15, .goto_w 0, 15, 0, 0)]
def B_Mo_isOn_15 : List Ent := [(15, .ireturn, 0, 1, 0)]
def lb_Mo_isOn : List (Nat × List Ent) := [(0, B_Mo_isOn_0), (14, B_Mo_isOn_14), (15, B_Mo_isOn_15)]
def B_Mo_holdsFor_0 : List Ent := [(0, .aload 0, 0, 0, 0), (1, .aload 0, 0, 0, 0), (2, .getfield 0, 21, 1, 6), (5, .iconst 0, 0, 0, 774), (8, .iconst 0, 0, 0, 333), (11, .iload 0, 1, 0, 0), (12, .imul, 0, 0, 0), (13, .iadd, 0, 0, 0), (14, .iconst 0, 0, 0, 3), (15, .iadd, 0, 0, 0), (16, .aload 0, 0, 0, 0), (17, .iload 0, 1, 0, 0), (18, .iconst 0, 0, 0, 2), (19, .invokevirtual 0, 198, 3, 21), (22, .iload 0, 2, 0, 0), (23, .invokevirtual 0, 197, 5, 21), (26, .ireturn, 0, 1, 0)]
def lb_Mo_holdsFor : List (Nat × List Ent) := [(0, B_Mo_holdsFor_0)]
def B_Mo_isStruck_0 : List Ent := [(0, .aload 0, 0, 0, 0), (1, .getfield 0, 21, 1, 6), (4, .iconst 0, 0, 0, 18), (6, .iload 0, 1, 0, 0), (7, .iadd, 0, 0, 0), (8, .iaload, 0, 0, 0), (9, .iconst 0, 0, 0, 1), (10, .if_icmp .ne 0, 17, 0, 0), (13, .iconst 0, 0, 0, 1), (14, .goto 0, 18, 0, 0)]
def B_Mo_isStruck_17 : List Ent := [(17, .iconst 0, 0, 0, 0), (18, .goto_w 0, 18, 0, 0)]
def B_Mo_isStruck_18 : List Ent := [(18, .ireturn, 0, 1, 0)]
def lb_Mo_isStruck : List (Nat × List Ent) := [(0, B_Mo_isStruck_0), (17, B_Mo_isStruck_17), (18, B_Mo_isStruck_18)]
def B_Mo_barring_0 : List Ent := [(0, .iconst 0, 0, 0, 0), (1, .istore 0, 2, 0, 0), (2, .goto_w 0, 2, 0, 0)]
def B_Mo_barring_2 : List Ent := [(2, .iload 0, 2, 0, 0), (3, .aload 0, 0, 0, 0), (4, .getfield 0, 21, 1, 6), (7, .iconst 0, 0, 0, 6), (9, .iaload, 0, 0, 0), (10, .if_icmp .ge 0, 38, 0, 0), (13, .aload 0, 0, 0, 0), (14, .iload 0, 2, 0, 0), (15, .invokevirtual 0, 201, 2, 21), (18, .ifCond .eq 0, 32, 0, 0), (21, .aload 0, 0, 0, 0), (22, .iload 0, 2, 0, 0), (23, .iload 0, 1, 0, 0), (24, .invokevirtual 0, 202, 3, 21), (27, .ifCond .ne 0, 32, 0, 0), (30, .iload 0, 2, 0, 0), (31, .ireturn, 0, 0, 0)]
def B_Mo_barring_32 : List Ent := [(32, .iinc 0 0, 2, 0, 1), (35, .goto 0, 2, 0, 0)]
def B_Mo_barring_38 : List Ent := [(38, .iconst 0, 0, 0, (-1)), (39, .ireturn, 0, 0, 0)]
def lb_Mo_barring : List (Nat × List Ent) := [(0, B_Mo_barring_0), (2, B_Mo_barring_2), (32, B_Mo_barring_32), (38, B_Mo_barring_38)]
def B_Mo_layAllowed_0 : List Ent := [(0, .iconst 0, 0, 0, 0), (1, .istore 0, 1, 0, 0), (2, .iconst 0, 0, 0, 0), (3, .istore 0, 2, 0, 0), (4, .goto_w 0, 4, 0, 0)]
def B_Mo_layAllowed_4 : List Ent := [(4, .iload 0, 2, 0, 0), (5, .aload 0, 0, 0, 0), (6, .getfield 0, 21, 0, 13), (9, .if_icmp .ge 0, 63, 0, 0), (12, .aload 0, 0, 0, 0), (13, .getfield 0, 21, 1, 15), (16, .iload 0, 2, 0, 0), (17, .aload 0, 0, 0, 0), (18, .iload 0, 2, 0, 0), (19, .invokevirtual 0, 203, 2, 21), (22, .ifCond .ne 0, 38, 0, 0), (25, .aload 0, 0, 0, 0), (26, .iload 0, 2, 0, 0), (27, .invokevirtual 0, 204, 2, 21), (30, .iconst 0, 0, 0, (-1)), (31, .if_icmp .ne 0, 38, 0, 0), (34, .iconst 0, 0, 0, 1), (35, .goto 0, 39, 0, 0)]
def B_Mo_layAllowed_38 : List Ent := [(38, .iconst 0, 0, 0, 0), (39, .goto_w 0, 39, 0, 0)]
def B_Mo_layAllowed_39 : List Ent := [(39, .bastore, 0, 0, 0), (40, .iload 0, 1, 0, 0), (41, .aload 0, 0, 0, 0), (42, .getfield 0, 21, 1, 15), (45, .iload 0, 2, 0, 0), (46, .baload, 0, 0, 0), (47, .ifCond .eq 0, 54, 0, 0), (50, .iconst 0, 0, 0, 1), (51, .goto 0, 55, 0, 0)]
def B_Mo_layAllowed_54 : List Ent := [(54, .iconst 0, 0, 0, 0), (55, .goto_w 0, 55, 0, 0)]
def B_Mo_layAllowed_55 : List Ent := [(55, .iadd, 0, 0, 0), (56, .istore 0, 1, 0, 0), (57, .iinc 0 0, 2, 0, 1), (60, .goto 0, 4, 0, 0)]
def B_Mo_layAllowed_63 : List Ent := [(63, .iload 0, 1, 0, 0), (64, .ireturn, 0, 0, 0)]
def lb_Mo_layAllowed : List (Nat × List Ent) := [(0, B_Mo_layAllowed_0), (4, B_Mo_layAllowed_4), (38, B_Mo_layAllowed_38), (39, B_Mo_layAllowed_39), (54, B_Mo_layAllowed_54), (55, B_Mo_layAllowed_55), (63, B_Mo_layAllowed_63)]
def B_Mo_turn_0 : List Ent := [(0, .aload 0, 0, 0, 0), (1, .iload 0, 1, 0, 0), (2, .iconst 0, 0, 0, 0), (3, .iconst 0, 0, 0, 1), (4, .aload 0, 0, 0, 0), (5, .iload 0, 1, 0, 0), (6, .iconst 0, 0, 0, 0), (7, .invokevirtual 0, 198, 3, 21), (10, .isub, 0, 0, 0), (11, .invokevirtual 0, 199, 4, 21), (14, .return_, 0, 0, 0)]
def lb_Mo_turn : List (Nat × List Ent) := [(0, B_Mo_turn_0)]
def B_Mo_allowedBy_0 : List Ent := [(0, .aload 0, 0, 0, 0), (1, .iload 0, 1, 0, 0), (2, .invokevirtual 0, 206, 2, 21), (5, .aload 0, 0, 0, 0), (6, .invokevirtual 0, 205, 1, 21), (9, .istore 0, 2, 0, 0), (10, .aload 0, 0, 0, 0), (11, .iload 0, 1, 0, 0), (12, .invokevirtual 0, 206, 2, 21), (15, .iload 0, 2, 0, 0), (16, .ireturn, 0, 0, 0)]
def lb_Mo_allowedBy : List (Nat × List Ent) := [(0, B_Mo_allowedBy_0)]
def B_Mo_spread_0 : List Ent := [(0, .iconst 0, 0, 0, 0), (1, .istore 0, 2, 0, 0), (2, .goto_w 0, 2, 0, 0)]
def B_Mo_spread_2 : List Ent := [(2, .iload 0, 2, 0, 0), (3, .aload 0, 0, 0, 0), (4, .getfield 0, 21, 1, 6), (7, .iconst 0, 0, 0, 0), (8, .iaload, 0, 0, 0), (9, .if_icmp .ge 0, 110, 0, 0), (12, .iconst 0, 0, 0, 0), (13, .istore 0, 3, 0, 0), (14, .goto_w 0, 14, 0, 0)]
def B_Mo_spread_14 : List Ent := [(14, .iload 0, 3, 0, 0), (15, .aload 0, 0, 0, 0), (16, .getfield 0, 21, 1, 6), (19, .iconst 0, 0, 0, 0), (20, .iaload, 0, 0, 0), (21, .if_icmp .ge 0, 104, 0, 0), (24, .aload 0, 0, 0, 0), (25, .iload 0, 1, 0, 0), (26, .iload 0, 2, 0, 0), (27, .iload 0, 3, 0, 0), (28, .invokevirtual 0, 194, 4, 21), (31, .istore 0, 4, 0, 0), (33, .iload 0, 4, 0, 0), (35, .iconst 0, 0, 0, (-1)), (36, .if_icmp .eq 0, 98, 0, 0), (39, .aload 0, 0, 0, 0), (40, .getfield 0, 21, 1, 15), (43, .iload 0, 4, 0, 0), (45, .baload, 0, 0, 0), (46, .ifCond .eq 0, 98, 0, 0), (49, .aload 0, 0, 0, 0), (50, .getfield 0, 21, 1, 16), (53, .iload 0, 4, 0, 0), (55, .iaload, 0, 0, 0), (56, .iconst 0, 0, 0, 1000), (59, .if_icmp .ne 0, 98, 0, 0), (62, .aload 0, 0, 0, 0), (63, .getfield 0, 21, 1, 16), (66, .iload 0, 4, 0, 0), (68, .aload 0, 0, 0, 0), (69, .getfield 0, 21, 1, 16), (72, .iload 0, 1, 0, 0), (73, .iaload, 0, 0, 0), (74, .iconst 0, 0, 0, 1), (75, .iadd, 0, 0, 0), (76, .iastore, 0, 0, 0), (77, .aload 0, 0, 0, 0), (78, .getfield 0, 21, 1, 17), (81, .aload 0, 0, 0, 0), (82, .getfield 0, 21, 0, 19), (85, .iload 0, 4, 0, 0), (87, .iastore, 0, 0, 0), (88, .aload 0, 0, 0, 0), (89, .dup, 0, 0, 0), (90, .getfield 0, 21, 0, 19), (93, .iconst 0, 0, 0, 1), (94, .iadd, 0, 0, 0), (95, .putfield 0, 21, 0, 19), (98, .goto_w 0, 98, 0, 0)]
def B_Mo_spread_98 : List Ent := [(98, .iinc 0 0, 3, 0, 1), (101, .goto 0, 14, 0, 0)]
def B_Mo_spread_104 : List Ent := [(104, .iinc 0 0, 2, 0, 1), (107, .goto 0, 2, 0, 0)]
def B_Mo_spread_110 : List Ent := [(110, .return_, 0, 0, 0)]
def lb_Mo_spread : List (Nat × List Ent) := [(0, B_Mo_spread_0), (2, B_Mo_spread_2), (14, B_Mo_spread_14), (98, B_Mo_spread_98), (104, B_Mo_spread_104), (110, B_Mo_spread_110)]
def B_Mo_clearWays_0 : List Ent := [(0, .iconst 0, 0, 0, 0), (1, .istore 0, 1, 0, 0), (2, .goto_w 0, 2, 0, 0)]
def B_Mo_clearWays_2 : List Ent := [(2, .iload 0, 1, 0, 0), (3, .aload 0, 0, 0, 0), (4, .getfield 0, 21, 0, 13), (7, .if_icmp .ge 0, 25, 0, 0), (10, .aload 0, 0, 0, 0), (11, .getfield 0, 21, 1, 16), (14, .iload 0, 1, 0, 0), (15, .iconst 0, 0, 0, 1000), (18, .iastore, 0, 0, 0), (19, .iinc 0 0, 1, 0, 1), (22, .goto 0, 2, 0, 0)]
def B_Mo_clearWays_25 : List Ent := [(25, .return_, 0, 0, 0)]
def lb_Mo_clearWays : List (Nat × List Ent) := [(0, B_Mo_clearWays_0), (2, B_Mo_clearWays_2), (25, B_Mo_clearWays_25)]
def B_Mo_layWays_0 : List Ent := [(0, .aload 0, 0, 0, 0), (1, .getfield 0, 21, 1, 17), (4, .iconst 0, 0, 0, 0), (5, .iload 0, 1, 0, 0), (6, .iastore, 0, 0, 0), (7, .aload 0, 0, 0, 0), (8, .iconst 0, 0, 0, 1), (9, .putfield 0, 21, 0, 19), (12, .aload 0, 0, 0, 0), (13, .getfield 0, 21, 1, 16), (16, .iload 0, 1, 0, 0), (17, .iconst 0, 0, 0, 0), (18, .iastore, 0, 0, 0), (19, .iconst 0, 0, 0, 0), (20, .istore 0, 2, 0, 0), (21, .goto_w 0, 21, 0, 0)]
def B_Mo_layWays_21 : List Ent := [(21, .iload 0, 2, 0, 0), (22, .aload 0, 0, 0, 0), (23, .getfield 0, 21, 0, 19), (26, .if_icmp .ge 0, 45, 0, 0), (29, .aload 0, 0, 0, 0), (30, .aload 0, 0, 0, 0), (31, .getfield 0, 21, 1, 17), (34, .iload 0, 2, 0, 0), (35, .iaload, 0, 0, 0), (36, .invokevirtual 0, 208, 2, 21), (39, .iinc 0 0, 2, 0, 1), (42, .goto 0, 21, 0, 0)]
def B_Mo_layWays_45 : List Ent := [(45, .return_, 0, 0, 0)]
def lb_Mo_layWays : List (Nat × List Ent) := [(0, B_Mo_layWays_0), (21, B_Mo_layWays_21), (45, B_Mo_layWays_45)]
def B_Mo_layParts_0 : List Ent := [(0, .aload 0, 0, 0, 0), (1, .invokevirtual 0, 209, 1, 21), (4, .iconst 0, 0, 0, 0), (5, .istore 0, 1, 0, 0), (6, .iconst 0, 0, 0, 0), (7, .istore 0, 2, 0, 0), (8, .goto_w 0, 8, 0, 0)]
def B_Mo_layParts_8 : List Ent := [(8, .iload 0, 2, 0, 0), (9, .aload 0, 0, 0, 0), (10, .getfield 0, 21, 0, 13), (13, .if_icmp .ge 0, 89, 0, 0), (16, .aload 0, 0, 0, 0), (17, .getfield 0, 21, 1, 15), (20, .iload 0, 2, 0, 0), (21, .baload, 0, 0, 0), (22, .ifCond .ne 0, 35, 0, 0), (25, .aload 0, 0, 0, 0), (26, .getfield 0, 21, 1, 18), (29, .iload 0, 2, 0, 0), (30, .iconst 0, 0, 0, (-1)), (31, .iastore, 0, 0, 0), (32, .goto 0, 83, 0, 0)]
def B_Mo_layParts_35 : List Ent := [(35, .aload 0, 0, 0, 0), (36, .getfield 0, 21, 1, 16), (39, .iload 0, 2, 0, 0), (40, .iaload, 0, 0, 0), (41, .iconst 0, 0, 0, 1000), (44, .if_icmp .ne 0, 83, 0, 0), (47, .aload 0, 0, 0, 0), (48, .iload 0, 2, 0, 0), (49, .invokevirtual 0, 210, 2, 21), (52, .iconst 0, 0, 0, 0), (53, .istore 0, 3, 0, 0), (54, .goto_w 0, 54, 0, 0)]
def B_Mo_layParts_54 : List Ent := [(54, .iload 0, 3, 0, 0), (55, .aload 0, 0, 0, 0), (56, .getfield 0, 21, 0, 19), (59, .if_icmp .ge 0, 80, 0, 0), (62, .aload 0, 0, 0, 0), (63, .getfield 0, 21, 1, 18), (66, .aload 0, 0, 0, 0), (67, .getfield 0, 21, 1, 17), (70, .iload 0, 3, 0, 0), (71, .iaload, 0, 0, 0), (72, .iload 0, 1, 0, 0), (73, .iastore, 0, 0, 0), (74, .iinc 0 0, 3, 0, 1), (77, .goto 0, 54, 0, 0)]
def B_Mo_layParts_80 : List Ent := [(80, .iinc 0 0, 1, 0, 1), (83, .goto_w 0, 83, 0, 0)]
def B_Mo_layParts_83 : List Ent := [(83, .iinc 0 0, 2, 0, 1), (86, .goto 0, 8, 0, 0)]
def B_Mo_layParts_89 : List Ent := [(89, .iload 0, 1, 0, 0), (90, .ireturn, 0, 0, 0)]
def lb_Mo_layParts : List (Nat × List Ent) := [(0, B_Mo_layParts_0), (8, B_Mo_layParts_8), (35, B_Mo_layParts_35), (54, B_Mo_layParts_54), (80, B_Mo_layParts_80), (83, B_Mo_layParts_83), (89, B_Mo_layParts_89)]
def B_Mo_partsNow_0 : List Ent := [(0, .aload 0, 0, 0, 0), (1, .invokevirtual 0, 205, 1, 21), (4, .istore 0, 1, 0, 0), (5, .aload 0, 0, 0, 0), (6, .invokevirtual 0, 211, 1, 21), (9, .ireturn, 0, 0, 0)]
def lb_Mo_partsNow : List (Nat × List Ent) := [(0, B_Mo_partsNow_0)]
def B_Mo_trailAt_0 : List Ent := [(0, .aload 0, 0, 0, 0), (1, .getfield 0, 21, 1, 6), (4, .iconst 0, 0, 0, 270), (7, .iconst 0, 0, 0, 2), (8, .iload 0, 1, 0, 0), (9, .imul, 0, 0, 0), (10, .iadd, 0, 0, 0), (11, .iaload, 0, 0, 0), (12, .ireturn, 0, 0, 0)]
def lb_Mo_trailAt : List (Nat × List Ent) := [(0, B_Mo_trailAt_0)]
def B_Mo_placeOf_0 : List Ent := [(0, .iconst 0, 0, 0, 0), (1, .istore 0, 2, 0, 0), (2, .goto_w 0, 2, 0, 0)]
def B_Mo_placeOf_2 : List Ent := [(2, .iload 0, 2, 0, 0), (3, .aload 0, 0, 0, 0), (4, .getfield 0, 21, 1, 6), (7, .iconst 0, 0, 0, 7), (9, .iaload, 0, 0, 0), (10, .if_icmp .ge 0, 30, 0, 0), (13, .aload 0, 0, 0, 0), (14, .iload 0, 2, 0, 0), (15, .invokevirtual 0, 213, 2, 21), (18, .iload 0, 1, 0, 0), (19, .if_icmp .ne 0, 24, 0, 0), (22, .iload 0, 2, 0, 0), (23, .ireturn, 0, 0, 0)]
def B_Mo_placeOf_24 : List Ent := [(24, .iinc 0 0, 2, 0, 1), (27, .goto 0, 2, 0, 0)]
def B_Mo_placeOf_30 : List Ent := [(30, .iconst 0, 0, 0, (-1)), (31, .ireturn, 0, 0, 0)]
def lb_Mo_placeOf : List (Nat × List Ent) := [(0, B_Mo_placeOf_0), (2, B_Mo_placeOf_2), (24, B_Mo_placeOf_24), (30, B_Mo_placeOf_30)]
def B_Mo_isVisited_0 : List Ent := [(0, .aload 0, 0, 0, 0), (1, .iload 0, 1, 0, 0), (2, .invokevirtual 0, 214, 2, 21), (5, .iconst 0, 0, 0, (-1)), (6, .if_icmp .eq 0, 13, 0, 0), (9, .iconst 0, 0, 0, 1), (10, .goto 0, 14, 0, 0)]
def B_Mo_isVisited_13 : List Ent := [(13, .iconst 0, 0, 0, 0), (14, .goto_w 0, 14, 0, 0)]
def B_Mo_isVisited_14 : List Ent := [(14, .ireturn, 0, 1, 0)]
def lb_Mo_isVisited : List (Nat × List Ent) := [(0, B_Mo_isVisited_0), (13, B_Mo_isVisited_13), (14, B_Mo_isVisited_14)]
def B_Mo_swapsTo_0 : List Ent := [(0, .aload 0, 0, 0, 0), (1, .getfield 0, 21, 1, 6), (4, .iconst 0, 0, 0, 3), (5, .iaload, 0, 0, 0), (6, .iconst 0, 0, 0, (-1)), (7, .if_icmp .ne 0, 14, 0, 0), (10, .iconst 0, 0, 0, 0), (11, .goto 0, 25, 0, 0)]
def B_Mo_swapsTo_14 : List Ent := [(14, .aload 0, 0, 0, 0), (15, .aload 0, 0, 0, 0), (16, .getfield 0, 21, 1, 6), (19, .iconst 0, 0, 0, 3), (20, .iaload, 0, 0, 0), (21, .iload 0, 1, 0, 0), (22, .invokevirtual 0, 193, 3, 21), (25, .goto_w 0, 25, 0, 0)]
def B_Mo_swapsTo_25 : List Ent := [(25, .ireturn, 0, 0, 0)]
def lb_Mo_swapsTo : List (Nat × List Ent) := [(0, B_Mo_swapsTo_0), (14, B_Mo_swapsTo_14), (25, B_Mo_swapsTo_25)]
def B_Mo_rank_0 : List Ent := [(0, .aload 0, 0, 0, 0), (1, .getfield 0, 21, 1, 6), (4, .iconst 0, 0, 0, 2), (5, .iaload, 0, 0, 0), (6, .ifCond .ne 0, 29, 0, 0), (9, .iload 0, 1, 0, 0), (10, .aload 0, 0, 0, 0), (11, .getfield 0, 21, 1, 6), (14, .iconst 0, 0, 0, 3), (15, .iaload, 0, 0, 0), (16, .if_icmp .le 0, 27, 0, 0), (19, .iload 0, 1, 0, 0), (20, .iconst 0, 0, 0, 1024), (23, .isub, 0, 0, 0), (24, .goto 0, 28, 0, 0)]
def B_Mo_rank_27 : List Ent := [(27, .iload 0, 1, 0, 0), (28, .goto_w 0, 28, 0, 0)]
def B_Mo_rank_28 : List Ent := [(28, .ireturn, 0, 0, 0)]
def B_Mo_rank_29 : List Ent := [(29, .aload 0, 0, 0, 0), (30, .iload 0, 1, 0, 0), (31, .invokevirtual 0, 216, 2, 21), (34, .iconst 0, 0, 0, 1024), (37, .imul, 0, 0, 0), (38, .iload 0, 1, 0, 0), (39, .iadd, 0, 0, 0), (40, .istore 0, 2, 0, 0), (41, .aload 0, 0, 0, 0), (42, .getfield 0, 21, 1, 6), (45, .iconst 0, 0, 0, 2), (46, .iaload, 0, 0, 0), (47, .iconst 0, 0, 0, 1), (48, .if_icmp .ne 0, 55, 0, 0), (51, .iload 0, 2, 0, 0), (52, .goto 0, 70, 0, 0)]
def B_Mo_rank_55 : List Ent := [(55, .aload 0, 0, 0, 0), (56, .iload 0, 1, 0, 0), (57, .invokevirtual 0, 192, 2, 21), (60, .iconst 0, 0, 0, 1024), (63, .imul, 0, 0, 0), (64, .iconst 0, 0, 0, 1024), (67, .imul, 0, 0, 0), (68, .iload 0, 2, 0, 0), (69, .iadd, 0, 0, 0), (70, .goto_w 0, 70, 0, 0)]
def B_Mo_rank_70 : List Ent := [(70, .ireturn, 0, 0, 0)]
def lb_Mo_rank : List (Nat × List Ent) := [(0, B_Mo_rank_0), (27, B_Mo_rank_27), (28, B_Mo_rank_28), (29, B_Mo_rank_29), (55, B_Mo_rank_55), (70, B_Mo_rank_70)]
def B_Mo_nextOf_0 : List Ent := [(0, .iconst 0, 0, 0, (-1)), (1, .istore 0, 1, 0, 0), (2, .iconst 0, 0, 0, 0), (3, .istore 0, 2, 0, 0), (4, .goto_w 0, 4, 0, 0)]
def B_Mo_nextOf_4 : List Ent := [(4, .iload 0, 2, 0, 0), (5, .aload 0, 0, 0, 0), (6, .getfield 0, 21, 0, 13), (9, .if_icmp .ge 0, 55, 0, 0), (12, .aload 0, 0, 0, 0), (13, .getfield 0, 21, 1, 15), (16, .iload 0, 2, 0, 0), (17, .baload, 0, 0, 0), (18, .ifCond .eq 0, 49, 0, 0), (21, .aload 0, 0, 0, 0), (22, .iload 0, 2, 0, 0), (23, .invokevirtual 0, 215, 2, 21), (26, .ifCond .ne 0, 49, 0, 0), (29, .iload 0, 1, 0, 0), (30, .iconst 0, 0, 0, (-1)), (31, .if_icmp .eq 0, 47, 0, 0), (34, .aload 0, 0, 0, 0), (35, .iload 0, 2, 0, 0), (36, .invokevirtual 0, 217, 2, 21), (39, .aload 0, 0, 0, 0), (40, .iload 0, 1, 0, 0), (41, .invokevirtual 0, 217, 2, 21), (44, .if_icmp .ge 0, 49, 0, 0), (47, .goto_w 0, 47, 0, 0)]
def B_Mo_nextOf_47 : List Ent := [(47, .iload 0, 2, 0, 0), (48, .istore 0, 1, 0, 0), (49, .goto_w 0, 49, 0, 0)]
def B_Mo_nextOf_49 : List Ent := [(49, .iinc 0 0, 2, 0, 1), (52, .goto 0, 4, 0, 0)]
def B_Mo_nextOf_55 : List Ent := [(55, .iload 0, 1, 0, 0), (56, .ireturn, 0, 0, 0)]
def lb_Mo_nextOf : List (Nat × List Ent) := [(0, B_Mo_nextOf_0), (4, B_Mo_nextOf_4), (47, B_Mo_nextOf_47), (49, B_Mo_nextOf_49), (55, B_Mo_nextOf_55)]
def B_Mo_go_0 : List Ent := [(0, .iconst 0, 0, 0, 270), (3, .iconst 0, 0, 0, 2), (4, .aload 0, 0, 0, 0), (5, .getfield 0, 21, 1, 6), (8, .iconst 0, 0, 0, 7), (10, .iaload, 0, 0, 0), (11, .imul, 0, 0, 0), (12, .iadd, 0, 0, 0), (13, .istore 0, 2, 0, 0), (14, .aload 0, 0, 0, 0), (15, .getfield 0, 21, 1, 6), (18, .iload 0, 2, 0, 0), (19, .iload 0, 1, 0, 0), (20, .iastore, 0, 0, 0), (21, .aload 0, 0, 0, 0), (22, .getfield 0, 21, 1, 6), (25, .iload 0, 2, 0, 0), (26, .iconst 0, 0, 0, 1), (27, .iadd, 0, 0, 0), (28, .aload 0, 0, 0, 0), (29, .getfield 0, 21, 1, 6), (32, .iconst 0, 0, 0, 5), (33, .iaload, 0, 0, 0), (34, .iastore, 0, 0, 0), (35, .aload 0, 0, 0, 0), (36, .getfield 0, 21, 1, 6), (39, .iconst 0, 0, 0, 7), (41, .dup2, 0, 0, 0), (42, .iaload, 0, 0, 0), (43, .iconst 0, 0, 0, 1), (44, .iadd, 0, 0, 0), (45, .iastore, 0, 0, 0), (46, .aload 0, 0, 0, 0), (47, .getfield 0, 21, 1, 6), (50, .iconst 0, 0, 0, 5), (51, .dup2, 0, 0, 0), (52, .iaload, 0, 0, 0), (53, .aload 0, 0, 0, 0), (54, .iload 0, 1, 0, 0), (55, .invokevirtual 0, 216, 2, 21), (58, .iadd, 0, 0, 0), (59, .iastore, 0, 0, 0), (60, .aload 0, 0, 0, 0), (61, .getfield 0, 21, 1, 6), (64, .iconst 0, 0, 0, 4), (65, .dup2, 0, 0, 0), (66, .iaload, 0, 0, 0), (67, .iconst 0, 0, 0, 1), (68, .iadd, 0, 0, 0), (69, .iastore, 0, 0, 0), (70, .aload 0, 0, 0, 0), (71, .getfield 0, 21, 1, 6), (74, .iconst 0, 0, 0, 3), (75, .iload 0, 1, 0, 0), (76, .iastore, 0, 0, 0), (77, .return_, 0, 0, 0)]
def lb_Mo_go : List (Nat × List Ent) := [(0, B_Mo_go_0)]
def B_Mo_walk_0 : List Ent := [(0, .iconst 0, 0, 0, 0), (1, .istore 0, 2, 0, 0), (2, .aload 0, 0, 0, 0), (3, .invokevirtual 0, 205, 1, 21), (6, .istore 0, 3, 0, 0), (7, .aload 0, 0, 0, 0), (8, .invokevirtual 0, 218, 1, 21), (11, .istore 0, 4, 0, 0), (13, .goto_w 0, 13, 0, 0)]
def B_Mo_walk_13 : List Ent := [(13, .iload 0, 4, 0, 0), (15, .iconst 0, 0, 0, (-1)), (16, .if_icmp .eq 0, 42, 0, 0), (19, .iload 0, 2, 0, 0), (20, .iload 0, 1, 0, 0), (21, .if_icmp .ge 0, 42, 0, 0), (24, .aload 0, 0, 0, 0), (25, .iload 0, 4, 0, 0), (27, .invokevirtual 0, 219, 2, 21), (30, .iinc 0 0, 2, 0, 1), (33, .aload 0, 0, 0, 0), (34, .invokevirtual 0, 218, 1, 21), (37, .istore 0, 4, 0, 0), (39, .goto 0, 13, 0, 0)]
def B_Mo_walk_42 : List Ent := [(42, .iload 0, 2, 0, 0), (43, .ireturn, 0, 0, 0)]
def lb_Mo_walk : List (Nat × List Ent) := [(0, B_Mo_walk_0), (13, B_Mo_walk_13), (42, B_Mo_walk_42)]
def B_Mo_unwind_0 : List Ent := [(0, .aload 0, 0, 0, 0), (1, .getfield 0, 21, 1, 6), (4, .iconst 0, 0, 0, 7), (6, .iload 0, 1, 0, 0), (7, .iastore, 0, 0, 0), (8, .aload 0, 0, 0, 0), (9, .getfield 0, 21, 1, 6), (12, .iconst 0, 0, 0, 5), (13, .iload 0, 2, 0, 0), (14, .iastore, 0, 0, 0), (15, .aload 0, 0, 0, 0), (16, .getfield 0, 21, 1, 6), (19, .iconst 0, 0, 0, 4), (20, .iload 0, 3, 0, 0), (21, .iastore, 0, 0, 0), (22, .aload 0, 0, 0, 0), (23, .getfield 0, 21, 1, 6), (26, .iconst 0, 0, 0, 3), (27, .iload 0, 1, 0, 0), (28, .ifCond .ne 0, 35, 0, 0), (31, .iconst 0, 0, 0, (-1)), (32, .goto 0, 42, 0, 0)]
def B_Mo_unwind_35 : List Ent := [(35, .aload 0, 0, 0, 0), (36, .iload 0, 1, 0, 0), (37, .iconst 0, 0, 0, 1), (38, .isub, 0, 0, 0), (39, .invokevirtual 0, 213, 2, 21), (42, .goto_w 0, 42, 0, 0)]
def B_Mo_unwind_42 : List Ent := [(42, .iastore, 0, 0, 0), (43, .return_, 0, 0, 0)]
def lb_Mo_unwind : List (Nat × List Ent) := [(0, B_Mo_unwind_0), (35, B_Mo_unwind_35), (42, B_Mo_unwind_42)]
def B_Mo_swapsBy_0 : List Ent := [(0, .aload 0, 0, 0, 0), (1, .getfield 0, 21, 1, 6), (4, .iconst 0, 0, 0, 7), (6, .iaload, 0, 0, 0), (7, .istore 0, 2, 0, 0), (8, .aload 0, 0, 0, 0), (9, .getfield 0, 21, 1, 6), (12, .iconst 0, 0, 0, 5), (13, .iaload, 0, 0, 0), (14, .istore 0, 3, 0, 0), (15, .aload 0, 0, 0, 0), (16, .getfield 0, 21, 1, 6), (19, .iconst 0, 0, 0, 4), (20, .iaload, 0, 0, 0), (21, .istore 0, 4, 0, 0), (23, .aload 0, 0, 0, 0), (24, .getfield 0, 21, 1, 6), (27, .iconst 0, 0, 0, 2), (28, .iaload, 0, 0, 0), (29, .istore 0, 5, 0, 0), (31, .aload 0, 0, 0, 0), (32, .getfield 0, 21, 1, 6), (35, .iconst 0, 0, 0, 2), (36, .iload 0, 1, 0, 0), (37, .iastore, 0, 0, 0), (38, .aload 0, 0, 0, 0), (39, .iconst 0, 0, 0, 252), (42, .invokevirtual 0, 220, 2, 21), (45, .istore 0, 6, 0, 0), (47, .aload 0, 0, 0, 0), (48, .getfield 0, 21, 1, 6), (51, .iconst 0, 0, 0, 5), (52, .iaload, 0, 0, 0), (53, .iload 0, 3, 0, 0), (54, .isub, 0, 0, 0), (55, .istore 0, 7, 0, 0), (57, .aload 0, 0, 0, 0), (58, .iload 0, 2, 0, 0), (59, .iload 0, 3, 0, 0), (60, .iload 0, 4, 0, 0), (62, .invokevirtual 0, 221, 4, 21), (65, .aload 0, 0, 0, 0), (66, .getfield 0, 21, 1, 6), (69, .iconst 0, 0, 0, 2), (70, .iload 0, 5, 0, 0), (72, .iastore, 0, 0, 0), (73, .iload 0, 7, 0, 0), (75, .ireturn, 0, 0, 0)]
def lb_Mo_swapsBy : List (Nat × List Ent) := [(0, B_Mo_swapsBy_0)]
def B_Mo_struckOnes_0 : List Ent := [(0, .iconst 0, 0, 0, 0), (1, .istore 0, 1, 0, 0), (2, .iconst 0, 0, 0, 0), (3, .istore 0, 2, 0, 0), (4, .goto_w 0, 4, 0, 0)]
def B_Mo_struckOnes_4 : List Ent := [(4, .iload 0, 2, 0, 0), (5, .aload 0, 0, 0, 0), (6, .getfield 0, 21, 0, 13), (9, .if_icmp .ge 0, 30, 0, 0), (12, .iload 0, 1, 0, 0), (13, .aload 0, 0, 0, 0), (14, .getfield 0, 21, 1, 6), (17, .iconst 0, 0, 0, 18), (19, .iload 0, 2, 0, 0), (20, .iadd, 0, 0, 0), (21, .iaload, 0, 0, 0), (22, .iadd, 0, 0, 0), (23, .istore 0, 1, 0, 0), (24, .iinc 0 0, 2, 0, 1), (27, .goto 0, 4, 0, 0)]
def B_Mo_struckOnes_30 : List Ent := [(30, .iload 0, 1, 0, 0), (31, .ireturn, 0, 0, 0)]
def lb_Mo_struckOnes : List (Nat × List Ent) := [(0, B_Mo_struckOnes_0), (4, B_Mo_struckOnes_4), (30, B_Mo_struckOnes_30)]
def B_Mo_rulesOn_0 : List Ent := [(0, .iconst 0, 0, 0, 0), (1, .istore 0, 1, 0, 0), (2, .iconst 0, 0, 0, 0), (3, .istore 0, 2, 0, 0), (4, .goto_w 0, 4, 0, 0)]
def B_Mo_rulesOn_4 : List Ent := [(4, .iload 0, 2, 0, 0), (5, .aload 0, 0, 0, 0), (6, .getfield 0, 21, 1, 6), (9, .iconst 0, 0, 0, 6), (11, .iaload, 0, 0, 0), (12, .if_icmp .ge 0, 30, 0, 0), (15, .iload 0, 1, 0, 0), (16, .aload 0, 0, 0, 0), (17, .iload 0, 2, 0, 0), (18, .iconst 0, 0, 0, 0), (19, .invokevirtual 0, 198, 3, 21), (22, .iadd, 0, 0, 0), (23, .istore 0, 1, 0, 0), (24, .iinc 0 0, 2, 0, 1), (27, .goto 0, 4, 0, 0)]
def B_Mo_rulesOn_30 : List Ent := [(30, .iload 0, 1, 0, 0), (31, .ireturn, 0, 0, 0)]
def lb_Mo_rulesOn : List (Nat × List Ent) := [(0, B_Mo_rulesOn_0), (4, B_Mo_rulesOn_4), (30, B_Mo_rulesOn_30)]
def B_Mo_openOnes_0 : List Ent := [(0, .aload 0, 0, 0, 0), (1, .invokevirtual 0, 205, 1, 21), (4, .istore 0, 1, 0, 0), (5, .iconst 0, 0, 0, 0), (6, .istore 0, 2, 0, 0), (7, .goto_w 0, 7, 0, 0)]
def B_Mo_openOnes_7 : List Ent := [(7, .iload 0, 2, 0, 0), (8, .aload 0, 0, 0, 0), (9, .getfield 0, 21, 1, 6), (12, .iconst 0, 0, 0, 7), (14, .iaload, 0, 0, 0), (15, .if_icmp .ge 0, 45, 0, 0), (18, .iload 0, 1, 0, 0), (19, .aload 0, 0, 0, 0), (20, .getfield 0, 21, 1, 15), (23, .aload 0, 0, 0, 0), (24, .iload 0, 2, 0, 0), (25, .invokevirtual 0, 213, 2, 21), (28, .baload, 0, 0, 0), (29, .ifCond .eq 0, 36, 0, 0), (32, .iconst 0, 0, 0, 1), (33, .goto 0, 37, 0, 0)]
def B_Mo_openOnes_36 : List Ent := [(36, .iconst 0, 0, 0, 0), (37, .goto_w 0, 37, 0, 0)]
def B_Mo_openOnes_37 : List Ent := [(37, .isub, 0, 0, 0), (38, .istore 0, 1, 0, 0), (39, .iinc 0 0, 2, 0, 1), (42, .goto 0, 7, 0, 0)]
def B_Mo_openOnes_45 : List Ent := [(45, .iload 0, 1, 0, 0), (46, .ireturn, 0, 0, 0)]
def lb_Mo_openOnes : List (Nat × List Ent) := [(0, B_Mo_openOnes_0), (7, B_Mo_openOnes_7), (36, B_Mo_openOnes_36), (37, B_Mo_openOnes_37), (45, B_Mo_openOnes_45)]
def B_Mo_size_0 : List Ent := [(0, .aload 0, 0, 0, 0), (1, .iload 0, 1, 0, 0), (2, .iconst 0, 0, 0, 0), (3, .iconst 0, 0, 0, 13), (5, .invokestatic 0, 179, 3, 0), (8, .invokevirtual 0, 180, 2, 21), (11, .ifCond .eq 0, 16, 0, 0), (14, .iconst 0, 0, 0, 0), (15, .ireturn, 0, 0, 0)]
def B_Mo_size_16 : List Ent := [(16, .iload 0, 1, 0, 0), (17, .tableswitch 150 0 12 #[67, 74, 81, 86, 91, 99, 104, 112, 117, 124, 131, 138, 145], 0, 0, 0)]
def B_Mo_size_84 : List Ent := [(84, .aload 0, 0, 0, 0), (85, .getfield 0, 21, 1, 6), (88, .iconst 0, 0, 0, 0), (89, .iaload, 0, 0, 0), (90, .ireturn, 0, 0, 0)]
def B_Mo_size_91 : List Ent := [(91, .aload 0, 0, 0, 0), (92, .getfield 0, 21, 1, 6), (95, .iconst 0, 0, 0, 1), (96, .iaload, 0, 0, 0), (97, .ireturn, 0, 0, 0)]
def B_Mo_size_98 : List Ent := [(98, .aload 0, 0, 0, 0), (99, .getfield 0, 21, 0, 13), (102, .ireturn, 0, 0, 0)]
def B_Mo_size_103 : List Ent := [(103, .aload 0, 0, 0, 0), (104, .invokevirtual 0, 205, 1, 21), (107, .ireturn, 0, 0, 0)]
def B_Mo_size_108 : List Ent := [(108, .aload 0, 0, 0, 0), (109, .getfield 0, 21, 1, 6), (112, .iconst 0, 0, 0, 7), (114, .iaload, 0, 0, 0), (115, .ireturn, 0, 0, 0)]
def B_Mo_size_116 : List Ent := [(116, .aload 0, 0, 0, 0), (117, .invokevirtual 0, 223, 1, 21), (120, .ireturn, 0, 0, 0)]
def B_Mo_size_121 : List Ent := [(121, .aload 0, 0, 0, 0), (122, .getfield 0, 21, 1, 6), (125, .iconst 0, 0, 0, 6), (127, .iaload, 0, 0, 0), (128, .ireturn, 0, 0, 0)]
def B_Mo_size_129 : List Ent := [(129, .aload 0, 0, 0, 0), (130, .invokevirtual 0, 224, 1, 21), (133, .ireturn, 0, 0, 0)]
def B_Mo_size_134 : List Ent := [(134, .aload 0, 0, 0, 0), (135, .getfield 0, 21, 1, 6), (138, .iconst 0, 0, 0, 2), (139, .iaload, 0, 0, 0), (140, .ireturn, 0, 0, 0)]
def B_Mo_size_141 : List Ent := [(141, .aload 0, 0, 0, 0), (142, .getfield 0, 21, 1, 6), (145, .iconst 0, 0, 0, 3), (146, .iaload, 0, 0, 0), (147, .ireturn, 0, 0, 0)]
def B_Mo_size_148 : List Ent := [(148, .aload 0, 0, 0, 0), (149, .getfield 0, 21, 1, 6), (152, .iconst 0, 0, 0, 4), (153, .iaload, 0, 0, 0), (154, .ireturn, 0, 0, 0)]
def B_Mo_size_155 : List Ent := [(155, .aload 0, 0, 0, 0), (156, .getfield 0, 21, 1, 6), (159, .iconst 0, 0, 0, 5), (160, .iaload, 0, 0, 0), (161, .ireturn, 0, 0, 0)]
def B_Mo_size_162 : List Ent := [(162, .aload 0, 0, 0, 0), (163, .invokevirtual 0, 212, 1, 21), (166, .ireturn, 0, 0, 0)]
def B_Mo_size_167 : List Ent := [(167, .aload 0, 0, 0, 0), (168, .invokevirtual 0, 225, 1, 21), (171, .ireturn, 0, 0, 0)]
def lb_Mo_size : List (Nat × List Ent) := [(0, B_Mo_size_0), (16, B_Mo_size_16), (84, B_Mo_size_84), (91, B_Mo_size_91), (98, B_Mo_size_98), (103, B_Mo_size_103), (108, B_Mo_size_108), (116, B_Mo_size_116), (121, B_Mo_size_121), (129, B_Mo_size_129), (134, B_Mo_size_134), (141, B_Mo_size_141), (148, B_Mo_size_148), (155, B_Mo_size_155), (162, B_Mo_size_162), (167, B_Mo_size_167)]
def B_Mo_weight_0 : List Ent := [(0, .aload 0, 0, 0, 0), (1, .aload 0, 0, 0, 0), (2, .iload 0, 1, 0, 0), (3, .invokevirtual 0, 191, 2, 21), (6, .invokevirtual 0, 180, 2, 21), (9, .ifCond .eq 0, 16, 0, 0), (12, .iconst 0, 0, 0, 0), (13, .goto 0, 25, 0, 0)]
def B_Mo_weight_16 : List Ent := [(16, .aload 0, 0, 0, 0), (17, .getfield 0, 21, 1, 6), (20, .iconst 0, 0, 0, 8), (22, .iload 0, 1, 0, 0), (23, .iadd, 0, 0, 0), (24, .iaload, 0, 0, 0), (25, .goto_w 0, 25, 0, 0)]
def B_Mo_weight_25 : List Ent := [(25, .ireturn, 0, 0, 0)]
def lb_Mo_weight : List (Nat × List Ent) := [(0, B_Mo_weight_0), (16, B_Mo_weight_16), (25, B_Mo_weight_25)]
def B_Mo_lettersOf_0 : List Ent := [(0, .iconst 0, 0, 0, 0), (1, .istore 0, 2, 0, 0), (2, .goto_w 0, 2, 0, 0)]
def B_Mo_lettersOf_2 : List Ent := [(2, .iload 0, 2, 0, 0), (3, .iconst 0, 0, 0, 6), (5, .if_icmp .ge 0, 28, 0, 0), (8, .aload 0, 0, 0, 0), (9, .getfield 0, 21, 1, 7), (12, .iconst 0, 0, 0, 6), (14, .iload 0, 1, 0, 0), (15, .imul, 0, 0, 0), (16, .iload 0, 2, 0, 0), (17, .iadd, 0, 0, 0), (18, .iaload, 0, 0, 0), (19, .ifCond .eq 0, 28, 0, 0), (22, .iinc 0 0, 2, 0, 1), (25, .goto 0, 2, 0, 0)]
def B_Mo_lettersOf_28 : List Ent := [(28, .iload 0, 2, 0, 0), (29, .ireturn, 0, 0, 0)]
def lb_Mo_lettersOf : List (Nat × List Ent) := [(0, B_Mo_lettersOf_0), (2, B_Mo_lettersOf_2), (28, B_Mo_lettersOf_28)]
def B_Mo_nameByte_0 : List Ent := [(0, .aload 0, 0, 0, 0), (1, .aload 0, 0, 0, 0), (2, .iload 0, 1, 0, 0), (3, .invokevirtual 0, 191, 2, 21), (6, .invokevirtual 0, 180, 2, 21), (9, .ifCond .eq 0, 14, 0, 0), (12, .iconst 0, 0, 0, 0), (13, .ireturn, 0, 0, 0)]
def B_Mo_nameByte_14 : List Ent := [(14, .iload 0, 2, 0, 0), (15, .iconst 0, 0, 0, 0), (16, .aload 0, 0, 0, 0), (17, .iload 0, 1, 0, 0), (18, .invokevirtual 0, 228, 2, 21), (21, .iconst 0, 0, 0, 1), (22, .isub, 0, 0, 0), (23, .invokestatic 0, 179, 3, 0), (26, .ifCond .eq 0, 43, 0, 0), (29, .aload 0, 0, 0, 0), (30, .getfield 0, 21, 1, 7), (33, .iconst 0, 0, 0, 6), (35, .iload 0, 1, 0, 0), (36, .imul, 0, 0, 0), (37, .iload 0, 2, 0, 0), (38, .iadd, 0, 0, 0), (39, .iaload, 0, 0, 0), (40, .goto 0, 44, 0, 0)]
def B_Mo_nameByte_43 : List Ent := [(43, .iconst 0, 0, 0, (-1)), (44, .goto_w 0, 44, 0, 0)]
def B_Mo_nameByte_44 : List Ent := [(44, .ireturn, 0, 0, 0)]
def lb_Mo_nameByte : List (Nat × List Ent) := [(0, B_Mo_nameByte_0), (14, B_Mo_nameByte_14), (43, B_Mo_nameByte_43), (44, B_Mo_nameByte_44)]
def B_Mo_only_0 : List Ent := [(0, .iconst 0, 0, 0, 0), (1, .istore 0, 1, 0, 0), (2, .goto_w 0, 2, 0, 0)]
def B_Mo_only_2 : List Ent := [(2, .iload 0, 0, 0, 0), (3, .iload 0, 1, 0, 0), (4, .invokestatic 0, 183, 2, 0), (7, .ifCond .ne 0, 16, 0, 0), (10, .iinc 0 0, 1, 0, 1), (13, .goto 0, 2, 0, 0)]
def B_Mo_only_16 : List Ent := [(16, .iload 0, 1, 0, 0), (17, .ireturn, 0, 0, 0)]
def lb_Mo_only : List (Nat × List Ent) := [(0, B_Mo_only_0), (2, B_Mo_only_2), (16, B_Mo_only_16)]
def B_Mo_neighbours_0 : List Ent := [(0, .iconst 0, 0, 0, 0), (1, .istore 0, 2, 0, 0), (2, .iconst 0, 0, 0, 0), (3, .istore 0, 3, 0, 0), (4, .goto_w 0, 4, 0, 0)]
def B_Mo_neighbours_4 : List Ent := [(4, .iload 0, 3, 0, 0), (5, .aload 0, 0, 0, 0), (6, .getfield 0, 21, 0, 13), (9, .if_icmp .ge 0, 54, 0, 0), (12, .iload 0, 2, 0, 0), (13, .aload 0, 0, 0, 0), (14, .getfield 0, 21, 1, 15), (17, .iload 0, 1, 0, 0), (18, .baload, 0, 0, 0), (19, .ifCond .eq 0, 45, 0, 0), (22, .aload 0, 0, 0, 0), (23, .getfield 0, 21, 1, 15), (26, .iload 0, 3, 0, 0), (27, .baload, 0, 0, 0), (28, .ifCond .eq 0, 45, 0, 0), (31, .aload 0, 0, 0, 0), (32, .iload 0, 1, 0, 0), (33, .iload 0, 3, 0, 0), (34, .invokevirtual 0, 193, 3, 21), (37, .iconst 0, 0, 0, 1), (38, .if_icmp .ne 0, 45, 0, 0), (41, .iconst 0, 0, 0, 1), (42, .goto 0, 46, 0, 0)]
def B_Mo_neighbours_45 : List Ent := [(45, .iconst 0, 0, 0, 0), (46, .goto_w 0, 46, 0, 0)]
def B_Mo_neighbours_46 : List Ent := [(46, .iadd, 0, 0, 0), (47, .istore 0, 2, 0, 0), (48, .iinc 0 0, 3, 0, 1), (51, .goto 0, 4, 0, 0)]
def B_Mo_neighbours_54 : List Ent := [(54, .iload 0, 2, 0, 0), (55, .ireturn, 0, 0, 0)]
def lb_Mo_neighbours : List (Nat × List Ent) := [(0, B_Mo_neighbours_0), (4, B_Mo_neighbours_4), (45, B_Mo_neighbours_45), (46, B_Mo_neighbours_46), (54, B_Mo_neighbours_54)]
def B_Mo_choice_0 : List Ent := [(0, .aload 0, 0, 0, 0), (1, .aload 0, 0, 0, 0), (2, .iload 0, 1, 0, 0), (3, .invokevirtual 0, 189, 2, 21), (6, .invokevirtual 0, 180, 2, 21), (9, .ifCond .eq 0, 14, 0, 0), (12, .iconst 0, 0, 0, 0), (13, .ireturn, 0, 0, 0)]
def B_Mo_choice_14 : List Ent := [(14, .aload 0, 0, 0, 0), (15, .getfield 0, 21, 1, 11), (18, .iload 0, 1, 0, 0), (19, .ifCond .ne 0, 31, 0, 0), (22, .aload 0, 0, 0, 0), (23, .getfield 0, 21, 0, 13), (26, .iconst 0, 0, 0, 1), (27, .isub, 0, 0, 0), (28, .goto 0, 34, 0, 0)]
def B_Mo_choice_31 : List Ent := [(31, .iload 0, 1, 0, 0), (32, .iconst 0, 0, 0, 1), (33, .isub, 0, 0, 0), (34, .goto_w 0, 34, 0, 0)]
def B_Mo_choice_34 : List Ent := [(34, .iaload, 0, 0, 0), (35, .istore 0, 3, 0, 0), (36, .aload 0, 0, 0, 0), (37, .invokevirtual 0, 212, 1, 21), (40, .istore 0, 4, 0, 0), (42, .iload 0, 2, 0, 0), (43, .tableswitch 152 0 9 #[53, 60, 66, 81, 95, 105, 119, 133, 140, 146], 0, 0, 0)]
def B_Mo_choice_96 : List Ent := [(96, .aload 0, 0, 0, 0), (97, .getfield 0, 21, 1, 11), (100, .iload 0, 1, 0, 0), (101, .iaload, 0, 0, 0), (102, .ireturn, 0, 0, 0)]
def B_Mo_choice_103 : List Ent := [(103, .aload 0, 0, 0, 0), (104, .iload 0, 1, 0, 0), (105, .invokevirtual 0, 192, 2, 21), (108, .ireturn, 0, 0, 0)]
def B_Mo_choice_109 : List Ent := [(109, .aload 0, 0, 0, 0), (110, .getfield 0, 21, 1, 15), (113, .iload 0, 1, 0, 0), (114, .baload, 0, 0, 0), (115, .ifCond .eq 0, 122, 0, 0), (118, .iconst 0, 0, 0, 1), (119, .goto 0, 123, 0, 0)]
def B_Mo_choice_122 : List Ent := [(122, .iconst 0, 0, 0, 0), (123, .goto_w 0, 123, 0, 0)]
def B_Mo_choice_123 : List Ent := [(123, .ireturn, 0, 0, 0)]
def B_Mo_choice_124 : List Ent := [(124, .aload 0, 0, 0, 0), (125, .iload 0, 1, 0, 0), (126, .invokevirtual 0, 215, 2, 21), (129, .ifCond .eq 0, 136, 0, 0), (132, .iconst 0, 0, 0, 1), (133, .goto 0, 137, 0, 0)]
def B_Mo_choice_136 : List Ent := [(136, .iconst 0, 0, 0, 0), (137, .goto_w 0, 137, 0, 0)]
def B_Mo_choice_137 : List Ent := [(137, .ireturn, 0, 0, 0)]
def B_Mo_choice_138 : List Ent := [(138, .aload 0, 0, 0, 0), (139, .getfield 0, 21, 1, 6), (142, .iconst 0, 0, 0, 18), (144, .iload 0, 1, 0, 0), (145, .iadd, 0, 0, 0), (146, .iaload, 0, 0, 0), (147, .ireturn, 0, 0, 0)]
def B_Mo_choice_148 : List Ent := [(148, .iload 0, 3, 0, 0), (149, .aload 0, 0, 0, 0), (150, .getfield 0, 21, 1, 11), (153, .iload 0, 1, 0, 0), (154, .iaload, 0, 0, 0), (155, .iconst 0, 0, 0, (-1)), (156, .ixor, 0, 0, 0), (157, .iand, 0, 0, 0), (158, .invokestatic 0, 230, 1, 0), (161, .ireturn, 0, 0, 0)]
def B_Mo_choice_162 : List Ent := [(162, .aload 0, 0, 0, 0), (163, .getfield 0, 21, 1, 11), (166, .iload 0, 1, 0, 0), (167, .iaload, 0, 0, 0), (168, .iload 0, 3, 0, 0), (169, .iconst 0, 0, 0, (-1)), (170, .ixor, 0, 0, 0), (171, .iand, 0, 0, 0), (172, .invokestatic 0, 230, 1, 0), (175, .ireturn, 0, 0, 0)]
def B_Mo_choice_176 : List Ent := [(176, .aload 0, 0, 0, 0), (177, .getfield 0, 21, 1, 18), (180, .iload 0, 1, 0, 0), (181, .iaload, 0, 0, 0), (182, .ireturn, 0, 0, 0)]
def B_Mo_choice_183 : List Ent := [(183, .aload 0, 0, 0, 0), (184, .iload 0, 1, 0, 0), (185, .invokevirtual 0, 231, 2, 21), (188, .ireturn, 0, 0, 0)]
def B_Mo_choice_189 : List Ent := [(189, .aload 0, 0, 0, 0), (190, .iload 0, 1, 0, 0), (191, .invokevirtual 0, 214, 2, 21), (194, .ireturn, 0, 0, 0)]
def B_Mo_choice_195 : List Ent := [(195, .aload 0, 0, 0, 0), (196, .iconst 0, 0, 0, 2), (197, .invokevirtual 0, 178, 2, 21), (200, .ireturn, 0, 0, 0)]
def lb_Mo_choice : List (Nat × List Ent) := [(0, B_Mo_choice_0), (14, B_Mo_choice_14), (31, B_Mo_choice_31), (34, B_Mo_choice_34), (96, B_Mo_choice_96), (103, B_Mo_choice_103), (109, B_Mo_choice_109), (122, B_Mo_choice_122), (123, B_Mo_choice_123), (124, B_Mo_choice_124), (136, B_Mo_choice_136), (137, B_Mo_choice_137), (138, B_Mo_choice_138), (148, B_Mo_choice_148), (162, B_Mo_choice_162), (176, B_Mo_choice_176), (183, B_Mo_choice_183), (189, B_Mo_choice_189), (195, B_Mo_choice_195)]
def B_Mo_numberOf_0 : List Ent := [(0, .aload 0, 0, 0, 0), (1, .iconst 0, 0, 0, 0), (2, .putfield 0, 21, 0, 9), (5, .iload 0, 1, 0, 0), (6, .iconst 0, 0, 0, 0), (7, .iconst 0, 0, 0, 1023), (10, .invokestatic 0, 179, 3, 0), (13, .ifCond .eq 0, 25, 0, 0), (16, .aload 0, 0, 0, 0), (17, .getfield 0, 21, 1, 12), (20, .iload 0, 1, 0, 0), (21, .iaload, 0, 0, 0), (22, .goto 0, 26, 0, 0)]
def B_Mo_numberOf_25 : List Ent := [(25, .iconst 0, 0, 0, (-1)), (26, .goto_w 0, 26, 0, 0)]
def B_Mo_numberOf_26 : List Ent := [(26, .ireturn, 0, 0, 0)]
def lb_Mo_numberOf : List (Nat × List Ent) := [(0, B_Mo_numberOf_0), (25, B_Mo_numberOf_25), (26, B_Mo_numberOf_26)]
def B_Mo_distance_0 : List Ent := [(0, .aload 0, 0, 0, 0), (1, .aload 0, 0, 0, 0), (2, .iload 0, 1, 0, 0), (3, .iload 0, 2, 0, 0), (4, .invokevirtual 0, 190, 3, 21), (7, .invokevirtual 0, 180, 2, 21), (10, .ifCond .eq 0, 17, 0, 0), (13, .iconst 0, 0, 0, 0), (14, .goto 0, 23, 0, 0)]
def B_Mo_distance_17 : List Ent := [(17, .aload 0, 0, 0, 0), (18, .iload 0, 1, 0, 0), (19, .iload 0, 2, 0, 0), (20, .invokevirtual 0, 193, 3, 21), (23, .goto_w 0, 23, 0, 0)]
def B_Mo_distance_23 : List Ent := [(23, .ireturn, 0, 0, 0)]
def lb_Mo_distance : List (Nat × List Ent) := [(0, B_Mo_distance_0), (17, B_Mo_distance_17), (23, B_Mo_distance_23)]
def B_Mo_swapped_0 : List Ent := [(0, .aload 0, 0, 0, 0), (1, .aload 0, 0, 0, 0), (2, .iload 0, 1, 0, 0), (3, .invokevirtual 0, 189, 2, 21), (6, .ifCond .eq 0, 29, 0, 0), (9, .aload 0, 0, 0, 0), (10, .iload 0, 2, 0, 0), (11, .invokevirtual 0, 191, 2, 21), (14, .ifCond .eq 0, 29, 0, 0), (17, .aload 0, 0, 0, 0), (18, .iload 0, 3, 0, 0), (19, .invokevirtual 0, 191, 2, 21), (22, .ifCond .eq 0, 29, 0, 0), (25, .iconst 0, 0, 0, 1), (26, .goto 0, 30, 0, 0)]
def B_Mo_swapped_29 : List Ent := [(29, .iconst 0, 0, 0, 0), (30, .goto_w 0, 30, 0, 0)]
def B_Mo_swapped_30 : List Ent := [(30, .invokevirtual 0, 180, 2, 21), (33, .ifCond .eq 0, 40, 0, 0), (36, .iconst 0, 0, 0, 0), (37, .goto 0, 47, 0, 0)]
def B_Mo_swapped_40 : List Ent := [(40, .aload 0, 0, 0, 0), (41, .iload 0, 1, 0, 0), (42, .iload 0, 2, 0, 0), (43, .iload 0, 3, 0, 0), (44, .invokevirtual 0, 194, 4, 21), (47, .goto_w 0, 47, 0, 0)]
def B_Mo_swapped_47 : List Ent := [(47, .ireturn, 0, 0, 0)]
def lb_Mo_swapped : List (Nat × List Ent) := [(0, B_Mo_swapped_0), (29, B_Mo_swapped_29), (30, B_Mo_swapped_30), (40, B_Mo_swapped_40), (47, B_Mo_swapped_47)]
def B_Mo_nearest_0 : List Ent := [(0, .aload 0, 0, 0, 0), (1, .aload 0, 0, 0, 0), (2, .iload 0, 1, 0, 0), (3, .invokevirtual 0, 189, 2, 21), (6, .invokevirtual 0, 180, 2, 21), (9, .ifCond .eq 0, 14, 0, 0), (12, .iconst 0, 0, 0, 0), (13, .ireturn, 0, 0, 0)]
def B_Mo_nearest_14 : List Ent := [(14, .aload 0, 0, 0, 0), (15, .invokevirtual 0, 205, 1, 21), (18, .istore 0, 3, 0, 0), (19, .iload 0, 2, 0, 0), (20, .ifCond .eq 0, 27, 0, 0), (23, .iconst 0, 0, 0, 1), (24, .goto 0, 28, 0, 0)]
def B_Mo_nearest_27 : List Ent := [(27, .iconst 0, 0, 0, (-1)), (28, .goto_w 0, 28, 0, 0)]
def B_Mo_nearest_28 : List Ent := [(28, .istore 0, 4, 0, 0), (30, .iload 0, 1, 0, 0), (31, .iload 0, 4, 0, 0), (33, .iadd, 0, 0, 0), (34, .istore 0, 5, 0, 0), (36, .goto_w 0, 36, 0, 0)]
def B_Mo_nearest_36 : List Ent := [(36, .aload 0, 0, 0, 0), (37, .iload 0, 5, 0, 0), (39, .invokevirtual 0, 189, 2, 21), (42, .ifCond .eq 0, 68, 0, 0), (45, .aload 0, 0, 0, 0), (46, .getfield 0, 21, 1, 15), (49, .iload 0, 5, 0, 0), (51, .baload, 0, 0, 0), (52, .ifCond .eq 0, 58, 0, 0), (55, .iload 0, 5, 0, 0), (57, .ireturn, 0, 0, 0)]
def B_Mo_nearest_58 : List Ent := [(58, .iload 0, 5, 0, 0), (60, .iload 0, 4, 0, 0), (62, .iadd, 0, 0, 0), (63, .istore 0, 5, 0, 0), (65, .goto 0, 36, 0, 0)]
def B_Mo_nearest_68 : List Ent := [(68, .iconst 0, 0, 0, (-1)), (69, .ireturn, 0, 0, 0)]
def lb_Mo_nearest : List (Nat × List Ent) := [(0, B_Mo_nearest_0), (14, B_Mo_nearest_14), (27, B_Mo_nearest_27), (28, B_Mo_nearest_28), (36, B_Mo_nearest_36), (58, B_Mo_nearest_58), (68, B_Mo_nearest_68)]
def B_Mo_with_0 : List Ent := [(0, .aload 0, 0, 0, 0), (1, .aload 0, 0, 0, 0), (2, .iload 0, 1, 0, 0), (3, .invokevirtual 0, 191, 2, 21), (6, .invokevirtual 0, 180, 2, 21), (9, .ifCond .eq 0, 14, 0, 0), (12, .iconst 0, 0, 0, 0), (13, .ireturn, 0, 0, 0)]
def B_Mo_with_14 : List Ent := [(14, .aload 0, 0, 0, 0), (15, .invokevirtual 0, 205, 1, 21), (18, .istore 0, 2, 0, 0), (19, .iconst 0, 0, 0, 0), (20, .istore 0, 3, 0, 0), (21, .iconst 0, 0, 0, 0), (22, .istore 0, 4, 0, 0), (24, .goto_w 0, 24, 0, 0)]
def B_Mo_with_24 : List Ent := [(24, .iload 0, 4, 0, 0), (26, .aload 0, 0, 0, 0), (27, .getfield 0, 21, 0, 13), (30, .if_icmp .ge 0, 71, 0, 0), (33, .iload 0, 3, 0, 0), (34, .aload 0, 0, 0, 0), (35, .getfield 0, 21, 1, 15), (38, .iload 0, 4, 0, 0), (40, .baload, 0, 0, 0), (41, .ifCond .eq 0, 62, 0, 0), (44, .aload 0, 0, 0, 0), (45, .getfield 0, 21, 1, 11), (48, .iload 0, 4, 0, 0), (50, .iaload, 0, 0, 0), (51, .iload 0, 1, 0, 0), (52, .invokestatic 0, 183, 2, 0), (55, .ifCond .eq 0, 62, 0, 0), (58, .iconst 0, 0, 0, 1), (59, .goto 0, 63, 0, 0)]
def B_Mo_with_62 : List Ent := [(62, .iconst 0, 0, 0, 0), (63, .goto_w 0, 63, 0, 0)]
def B_Mo_with_63 : List Ent := [(63, .iadd, 0, 0, 0), (64, .istore 0, 3, 0, 0), (65, .iinc 0 0, 4, 0, 1), (68, .goto 0, 24, 0, 0)]
def B_Mo_with_71 : List Ent := [(71, .iload 0, 3, 0, 0), (72, .ireturn, 0, 0, 0)]
def lb_Mo_with : List (Nat × List Ent) := [(0, B_Mo_with_0), (14, B_Mo_with_14), (24, B_Mo_with_24), (62, B_Mo_with_62), (63, B_Mo_with_63), (71, B_Mo_with_71)]
def B_Mo_heaviest_0 : List Ent := [(0, .aload 0, 0, 0, 0), (1, .iconst 0, 0, 0, 0), (2, .putfield 0, 21, 0, 9), (5, .aload 0, 0, 0, 0), (6, .invokevirtual 0, 205, 1, 21), (9, .istore 0, 1, 0, 0), (10, .iconst 0, 0, 0, (-1)), (11, .istore 0, 2, 0, 0), (12, .iconst 0, 0, 0, 0), (13, .istore 0, 3, 0, 0), (14, .goto_w 0, 14, 0, 0)]
def B_Mo_heaviest_14 : List Ent := [(14, .iload 0, 3, 0, 0), (15, .aload 0, 0, 0, 0), (16, .getfield 0, 21, 0, 13), (19, .if_icmp .ge 0, 61, 0, 0), (22, .aload 0, 0, 0, 0), (23, .getfield 0, 21, 1, 15), (26, .iload 0, 3, 0, 0), (27, .baload, 0, 0, 0), (28, .ifCond .eq 0, 53, 0, 0), (31, .iload 0, 2, 0, 0), (32, .iconst 0, 0, 0, (-1)), (33, .if_icmp .eq 0, 49, 0, 0), (36, .aload 0, 0, 0, 0), (37, .iload 0, 3, 0, 0), (38, .invokevirtual 0, 192, 2, 21), (41, .aload 0, 0, 0, 0), (42, .iload 0, 2, 0, 0), (43, .invokevirtual 0, 192, 2, 21), (46, .if_icmp .le 0, 53, 0, 0), (49, .goto_w 0, 49, 0, 0)]
def B_Mo_heaviest_49 : List Ent := [(49, .iload 0, 3, 0, 0), (50, .goto 0, 54, 0, 0)]
def B_Mo_heaviest_53 : List Ent := [(53, .iload 0, 2, 0, 0), (54, .goto_w 0, 54, 0, 0)]
def B_Mo_heaviest_54 : List Ent := [(54, .istore 0, 2, 0, 0), (55, .iinc 0 0, 3, 0, 1), (58, .goto 0, 14, 0, 0)]
def B_Mo_heaviest_61 : List Ent := [(61, .iload 0, 2, 0, 0), (62, .ireturn, 0, 0, 0)]
def lb_Mo_heaviest : List (Nat × List Ent) := [(0, B_Mo_heaviest_0), (14, B_Mo_heaviest_14), (49, B_Mo_heaviest_49), (53, B_Mo_heaviest_53), (54, B_Mo_heaviest_54), (61, B_Mo_heaviest_61)]
def B_Mo_holds_0 : List Ent := [(0, .aload 0, 0, 0, 0), (1, .aload 0, 0, 0, 0), (2, .iload 0, 1, 0, 0), (3, .invokevirtual 0, 200, 2, 21), (6, .ifCond .eq 0, 21, 0, 0), (9, .aload 0, 0, 0, 0), (10, .iload 0, 2, 0, 0), (11, .invokevirtual 0, 189, 2, 21), (14, .ifCond .eq 0, 21, 0, 0), (17, .iconst 0, 0, 0, 1), (18, .goto 0, 22, 0, 0)]
def B_Mo_holds_21 : List Ent := [(21, .iconst 0, 0, 0, 0), (22, .goto_w 0, 22, 0, 0)]
def B_Mo_holds_22 : List Ent := [(22, .invokevirtual 0, 180, 2, 21), (25, .ifCond .ne 0, 41, 0, 0), (28, .aload 0, 0, 0, 0), (29, .iload 0, 1, 0, 0), (30, .iload 0, 2, 0, 0), (31, .invokevirtual 0, 202, 3, 21), (34, .ifCond .eq 0, 41, 0, 0), (37, .iconst 0, 0, 0, 1), (38, .goto 0, 42, 0, 0)]
def B_Mo_holds_41 : List Ent := [(41, .iconst 0, 0, 0, 0), (42, .goto_w 0, 42, 0, 0)]
def B_Mo_holds_42 : List Ent := [(42, .ireturn, 0, 1, 0)]
def lb_Mo_holds : List (Nat × List Ent) := [(0, B_Mo_holds_0), (21, B_Mo_holds_21), (22, B_Mo_holds_22), (41, B_Mo_holds_41), (42, B_Mo_holds_42)]
def B_Mo_heldBy_0 : List Ent := [(0, .iconst 0, 0, 0, 0), (1, .istore 0, 2, 0, 0), (2, .iconst 0, 0, 0, 0), (3, .istore 0, 3, 0, 0), (4, .goto_w 0, 4, 0, 0)]
def B_Mo_heldBy_4 : List Ent := [(4, .iload 0, 3, 0, 0), (5, .aload 0, 0, 0, 0), (6, .getfield 0, 21, 0, 13), (9, .if_icmp .ge 0, 35, 0, 0), (12, .iload 0, 2, 0, 0), (13, .aload 0, 0, 0, 0), (14, .iload 0, 1, 0, 0), (15, .iload 0, 3, 0, 0), (16, .invokevirtual 0, 202, 3, 21), (19, .ifCond .eq 0, 26, 0, 0), (22, .iconst 0, 0, 0, 1), (23, .goto 0, 27, 0, 0)]
def B_Mo_heldBy_26 : List Ent := [(26, .iconst 0, 0, 0, 0), (27, .goto_w 0, 27, 0, 0)]
def B_Mo_heldBy_27 : List Ent := [(27, .iadd, 0, 0, 0), (28, .istore 0, 2, 0, 0), (29, .iinc 0 0, 3, 0, 1), (32, .goto 0, 4, 0, 0)]
def B_Mo_heldBy_35 : List Ent := [(35, .iload 0, 2, 0, 0), (36, .ireturn, 0, 0, 0)]
def lb_Mo_heldBy : List (Nat × List Ent) := [(0, B_Mo_heldBy_0), (4, B_Mo_heldBy_4), (26, B_Mo_heldBy_26), (27, B_Mo_heldBy_27), (35, B_Mo_heldBy_35)]
def B_Mo_rule_0 : List Ent := [(0, .aload 0, 0, 0, 0), (1, .aload 0, 0, 0, 0), (2, .iload 0, 1, 0, 0), (3, .invokevirtual 0, 200, 2, 21), (6, .invokevirtual 0, 180, 2, 21), (9, .ifCond .eq 0, 14, 0, 0), (12, .iconst 0, 0, 0, 0), (13, .ireturn, 0, 0, 0)]
def B_Mo_rule_14 : List Ent := [(14, .iload 0, 2, 0, 0), (15, .tableswitch 72 0 3 #[29, 36, 42, 65], 0, 0, 0)]
def B_Mo_rule_44 : List Ent := [(44, .aload 0, 0, 0, 0), (45, .iload 0, 1, 0, 0), (46, .iconst 0, 0, 0, 0), (47, .invokevirtual 0, 198, 3, 21), (50, .ireturn, 0, 0, 0)]
def B_Mo_rule_51 : List Ent := [(51, .aload 0, 0, 0, 0), (52, .iload 0, 1, 0, 0), (53, .invokevirtual 0, 240, 2, 21), (56, .ireturn, 0, 0, 0)]
def B_Mo_rule_57 : List Ent := [(57, .aload 0, 0, 0, 0), (58, .iload 0, 1, 0, 0), (59, .invokevirtual 0, 201, 2, 21), (62, .ifCond .eq 0, 78, 0, 0), (65, .aload 0, 0, 0, 0), (66, .iload 0, 1, 0, 0), (67, .invokevirtual 0, 207, 2, 21), (70, .aload 0, 0, 0, 0), (71, .invokevirtual 0, 205, 1, 21), (74, .isub, 0, 0, 0), (75, .goto 0, 79, 0, 0)]
def B_Mo_rule_78 : List Ent := [(78, .iconst 0, 0, 0, 0), (79, .goto_w 0, 79, 0, 0)]
def B_Mo_rule_79 : List Ent := [(79, .ireturn, 0, 0, 0)]
def B_Mo_rule_80 : List Ent := [(80, .aload 0, 0, 0, 0), (81, .iload 0, 1, 0, 0), (82, .iconst 0, 0, 0, 1), (83, .invokevirtual 0, 198, 3, 21), (86, .ireturn, 0, 0, 0)]
def B_Mo_rule_87 : List Ent := [(87, .aload 0, 0, 0, 0), (88, .iconst 0, 0, 0, 2), (89, .invokevirtual 0, 178, 2, 21), (92, .ireturn, 0, 0, 0)]
def lb_Mo_rule : List (Nat × List Ent) := [(0, B_Mo_rule_0), (14, B_Mo_rule_14), (44, B_Mo_rule_44), (51, B_Mo_rule_51), (57, B_Mo_rule_57), (78, B_Mo_rule_78), (79, B_Mo_rule_79), (80, B_Mo_rule_80), (87, B_Mo_rule_87)]
def B_Mo_why_0 : List Ent := [(0, .aload 0, 0, 0, 0), (1, .aload 0, 0, 0, 0), (2, .iload 0, 1, 0, 0), (3, .invokevirtual 0, 189, 2, 21), (6, .invokevirtual 0, 180, 2, 21), (9, .ifCond .eq 0, 14, 0, 0), (12, .iconst 0, 0, 0, 0), (13, .ireturn, 0, 0, 0)]
def B_Mo_why_14 : List Ent := [(14, .aload 0, 0, 0, 0), (15, .iload 0, 1, 0, 0), (16, .invokevirtual 0, 203, 2, 21), (19, .ifCond .eq 0, 24, 0, 0), (22, .iconst 0, 0, 0, 1), (23, .ireturn, 0, 0, 0)]
def B_Mo_why_24 : List Ent := [(24, .aload 0, 0, 0, 0), (25, .iload 0, 1, 0, 0), (26, .invokevirtual 0, 204, 2, 21), (29, .iconst 0, 0, 0, (-1)), (30, .if_icmp .eq 0, 42, 0, 0), (33, .iconst 0, 0, 0, 100), (35, .aload 0, 0, 0, 0), (36, .iload 0, 1, 0, 0), (37, .invokevirtual 0, 204, 2, 21), (40, .iadd, 0, 0, 0), (41, .ireturn, 0, 0, 0)]
def B_Mo_why_42 : List Ent := [(42, .aload 0, 0, 0, 0), (43, .invokevirtual 0, 205, 1, 21), (46, .istore 0, 2, 0, 0), (47, .aload 0, 0, 0, 0), (48, .iload 0, 1, 0, 0), (49, .invokevirtual 0, 215, 2, 21), (52, .ifCond .eq 0, 59, 0, 0), (55, .iconst 0, 0, 0, 2), (56, .goto 0, 72, 0, 0)]
def B_Mo_why_59 : List Ent := [(59, .aload 0, 0, 0, 0), (60, .invokevirtual 0, 218, 1, 21), (63, .iload 0, 1, 0, 0), (64, .if_icmp .ne 0, 71, 0, 0), (67, .iconst 0, 0, 0, 0), (68, .goto 0, 72, 0, 0)]
def B_Mo_why_71 : List Ent := [(71, .iconst 0, 0, 0, 3), (72, .goto_w 0, 72, 0, 0)]
def B_Mo_why_72 : List Ent := [(72, .ireturn, 0, 0, 0)]
def lb_Mo_why : List (Nat × List Ent) := [(0, B_Mo_why_0), (14, B_Mo_why_14), (24, B_Mo_why_24), (42, B_Mo_why_42), (59, B_Mo_why_59), (71, B_Mo_why_71), (72, B_Mo_why_72)]
def B_Mo_against_0 : List Ent := [(0, .aload 0, 0, 0, 0), (1, .aload 0, 0, 0, 0), (2, .iload 0, 1, 0, 0), (3, .invokevirtual 0, 189, 2, 21), (6, .invokevirtual 0, 180, 2, 21), (9, .ifCond .eq 0, 14, 0, 0), (12, .iconst 0, 0, 0, 0), (13, .ireturn, 0, 0, 0)]
def B_Mo_against_14 : List Ent := [(14, .iconst 0, 0, 0, 0), (15, .istore 0, 2, 0, 0), (16, .iconst 0, 0, 0, 0), (17, .istore 0, 3, 0, 0), (18, .goto_w 0, 18, 0, 0)]
def B_Mo_against_18 : List Ent := [(18, .iload 0, 3, 0, 0), (19, .aload 0, 0, 0, 0), (20, .getfield 0, 21, 1, 6), (23, .iconst 0, 0, 0, 6), (25, .iaload, 0, 0, 0), (26, .if_icmp .ge 0, 60, 0, 0), (29, .iload 0, 2, 0, 0), (30, .aload 0, 0, 0, 0), (31, .iload 0, 3, 0, 0), (32, .invokevirtual 0, 201, 2, 21), (35, .ifCond .eq 0, 51, 0, 0), (38, .aload 0, 0, 0, 0), (39, .iload 0, 3, 0, 0), (40, .iload 0, 1, 0, 0), (41, .invokevirtual 0, 202, 3, 21), (44, .ifCond .ne 0, 51, 0, 0), (47, .iconst 0, 0, 0, 1), (48, .goto 0, 52, 0, 0)]
def B_Mo_against_51 : List Ent := [(51, .iconst 0, 0, 0, 0), (52, .goto_w 0, 52, 0, 0)]
def B_Mo_against_52 : List Ent := [(52, .iadd, 0, 0, 0), (53, .istore 0, 2, 0, 0), (54, .iinc 0 0, 3, 0, 1), (57, .goto 0, 18, 0, 0)]
def B_Mo_against_60 : List Ent := [(60, .iload 0, 2, 0, 0), (61, .ireturn, 0, 0, 0)]
def lb_Mo_against : List (Nat × List Ent) := [(0, B_Mo_against_0), (14, B_Mo_against_14), (18, B_Mo_against_18), (51, B_Mo_against_51), (52, B_Mo_against_52), (60, B_Mo_against_60)]
def B_Mo_next_0 : List Ent := [(0, .aload 0, 0, 0, 0), (1, .iconst 0, 0, 0, 0), (2, .putfield 0, 21, 0, 9), (5, .aload 0, 0, 0, 0), (6, .invokevirtual 0, 205, 1, 21), (9, .istore 0, 1, 0, 0), (10, .aload 0, 0, 0, 0), (11, .invokevirtual 0, 218, 1, 21), (14, .ireturn, 0, 0, 0)]
def lb_Mo_next : List (Nat × List Ent) := [(0, B_Mo_next_0)]
def B_Mo_trail_0 : List Ent := [(0, .aload 0, 0, 0, 0), (1, .iconst 0, 0, 0, 0), (2, .putfield 0, 21, 0, 9), (5, .iload 0, 1, 0, 0), (6, .iconst 0, 0, 0, 0), (7, .aload 0, 0, 0, 0), (8, .getfield 0, 21, 1, 6), (11, .iconst 0, 0, 0, 7), (13, .iaload, 0, 0, 0), (14, .iconst 0, 0, 0, 1), (15, .isub, 0, 0, 0), (16, .invokestatic 0, 179, 3, 0), (19, .ifCond .eq 0, 30, 0, 0), (22, .aload 0, 0, 0, 0), (23, .iload 0, 1, 0, 0), (24, .invokevirtual 0, 213, 2, 21), (27, .goto 0, 31, 0, 0)]
def B_Mo_trail_30 : List Ent := [(30, .iconst 0, 0, 0, (-1)), (31, .goto_w 0, 31, 0, 0)]
def B_Mo_trail_31 : List Ent := [(31, .ireturn, 0, 0, 0)]
def lb_Mo_trail : List (Nat × List Ent) := [(0, B_Mo_trail_0), (30, B_Mo_trail_30), (31, B_Mo_trail_31)]
def B_Mo_isMode_0 : List Ent := [(0, .iload 0, 0, 0, 0), (1, .iconst 0, 0, 0, 0), (2, .iconst 0, 0, 0, 2), (3, .invokestatic 0, 179, 3, 0), (6, .ireturn, 0, 1, 0)]
def lb_Mo_isMode : List (Nat × List Ent) := [(0, B_Mo_isMode_0)]
def B_Mo_swapsToEnd_0 : List Ent := [(0, .aload 0, 0, 0, 0), (1, .iload 0, 1, 0, 0), (2, .invokestatic 0, 246, 1, 0), (5, .invokevirtual 0, 180, 2, 21), (8, .ifCond .eq 0, 15, 0, 0), (11, .iconst 0, 0, 0, 0), (12, .goto 0, 20, 0, 0)]
def B_Mo_swapsToEnd_15 : List Ent := [(15, .aload 0, 0, 0, 0), (16, .iload 0, 1, 0, 0), (17, .invokevirtual 0, 222, 2, 21), (20, .goto_w 0, 20, 0, 0)]
def B_Mo_swapsToEnd_20 : List Ent := [(20, .ireturn, 0, 0, 0)]
def lb_Mo_swapsToEnd : List (Nat × List Ent) := [(0, B_Mo_swapsToEnd_0), (15, B_Mo_swapsToEnd_15), (20, B_Mo_swapsToEnd_20)]
def B_Mo_bestMode_0 : List Ent := [(0, .aload 0, 0, 0, 0), (1, .iconst 0, 0, 0, 0), (2, .putfield 0, 21, 0, 9), (5, .iconst 0, 0, 0, 0), (6, .istore 0, 1, 0, 0), (7, .iconst 0, 0, 0, 1), (8, .istore 0, 2, 0, 0), (9, .goto_w 0, 9, 0, 0)]
def B_Mo_bestMode_9 : List Ent := [(9, .iload 0, 2, 0, 0), (10, .iconst 0, 0, 0, 3), (11, .if_icmp .ge 0, 39, 0, 0), (14, .aload 0, 0, 0, 0), (15, .iload 0, 2, 0, 0), (16, .invokevirtual 0, 222, 2, 21), (19, .aload 0, 0, 0, 0), (20, .iload 0, 1, 0, 0), (21, .invokevirtual 0, 222, 2, 21), (24, .if_icmp .ge 0, 31, 0, 0), (27, .iload 0, 2, 0, 0), (28, .goto 0, 32, 0, 0)]
def B_Mo_bestMode_31 : List Ent := [(31, .iload 0, 1, 0, 0), (32, .goto_w 0, 32, 0, 0)]
def B_Mo_bestMode_32 : List Ent := [(32, .istore 0, 1, 0, 0), (33, .iinc 0 0, 2, 0, 1), (36, .goto 0, 9, 0, 0)]
def B_Mo_bestMode_39 : List Ent := [(39, .iload 0, 1, 0, 0), (40, .ireturn, 0, 0, 0)]
def lb_Mo_bestMode : List (Nat × List Ent) := [(0, B_Mo_bestMode_0), (9, B_Mo_bestMode_9), (31, B_Mo_bestMode_31), (32, B_Mo_bestMode_32), (39, B_Mo_bestMode_39)]
def B_Mo_ahead_0 : List Ent := [(0, .aload 0, 0, 0, 0), (1, .iload 0, 1, 0, 0), (2, .ifCond .lt 0, 9, 0, 0), (5, .iconst 0, 0, 0, 1), (6, .goto 0, 10, 0, 0)]
def B_Mo_ahead_9 : List Ent := [(9, .iconst 0, 0, 0, 0), (10, .goto_w 0, 10, 0, 0)]
def B_Mo_ahead_10 : List Ent := [(10, .invokevirtual 0, 180, 2, 21), (13, .ifCond .eq 0, 18, 0, 0), (16, .iconst 0, 0, 0, 0), (17, .ireturn, 0, 0, 0)]
def B_Mo_ahead_18 : List Ent := [(18, .aload 0, 0, 0, 0), (19, .getfield 0, 21, 1, 6), (22, .iconst 0, 0, 0, 7), (24, .iaload, 0, 0, 0), (25, .istore 0, 2, 0, 0), (26, .aload 0, 0, 0, 0), (27, .getfield 0, 21, 1, 6), (30, .iconst 0, 0, 0, 5), (31, .iaload, 0, 0, 0), (32, .istore 0, 3, 0, 0), (33, .aload 0, 0, 0, 0), (34, .getfield 0, 21, 1, 6), (37, .iconst 0, 0, 0, 4), (38, .iaload, 0, 0, 0), (39, .istore 0, 4, 0, 0), (41, .aload 0, 0, 0, 0), (42, .iload 0, 1, 0, 0), (43, .iconst 0, 0, 0, 252), (46, .if_icmp .le 0, 55, 0, 0), (49, .iconst 0, 0, 0, 252), (52, .goto 0, 58, 0, 0)]
def B_Mo_ahead_55 : List Ent := [(55, .iload 0, 1, 0, 0), (56, .iconst 0, 0, 0, 1), (57, .iadd, 0, 0, 0), (58, .goto_w 0, 58, 0, 0)]
def B_Mo_ahead_58 : List Ent := [(58, .invokevirtual 0, 220, 2, 21), (61, .istore 0, 5, 0, 0), (63, .iload 0, 5, 0, 0), (65, .iload 0, 1, 0, 0), (66, .if_icmp .le 0, 78, 0, 0), (69, .aload 0, 0, 0, 0), (70, .getfield 0, 21, 1, 6), (73, .iconst 0, 0, 0, 3), (74, .iaload, 0, 0, 0), (75, .goto 0, 79, 0, 0)]
def B_Mo_ahead_78 : List Ent := [(78, .iconst 0, 0, 0, (-1)), (79, .goto_w 0, 79, 0, 0)]
def B_Mo_ahead_79 : List Ent := [(79, .istore 0, 6, 0, 0), (81, .aload 0, 0, 0, 0), (82, .iload 0, 2, 0, 0), (83, .iload 0, 3, 0, 0), (84, .iload 0, 4, 0, 0), (86, .invokevirtual 0, 221, 4, 21), (89, .iload 0, 6, 0, 0), (91, .ireturn, 0, 0, 0)]
def lb_Mo_ahead : List (Nat × List Ent) := [(0, B_Mo_ahead_0), (9, B_Mo_ahead_9), (10, B_Mo_ahead_10), (18, B_Mo_ahead_18), (55, B_Mo_ahead_55), (58, B_Mo_ahead_58), (78, B_Mo_ahead_78), (79, B_Mo_ahead_79)]
def B_Mo_leadsTo_0 : List Ent := [(0, .aload 0, 0, 0, 0), (1, .invokevirtual 0, 205, 1, 21), (4, .istore 0, 3, 0, 0), (5, .aload 0, 0, 0, 0), (6, .invokevirtual 0, 209, 1, 21), (9, .aload 0, 0, 0, 0), (10, .getfield 0, 21, 1, 15), (13, .iload 0, 1, 0, 0), (14, .baload, 0, 0, 0), (15, .ifCond .eq 0, 27, 0, 0), (18, .aload 0, 0, 0, 0), (19, .getfield 0, 21, 1, 15), (22, .iload 0, 2, 0, 0), (23, .baload, 0, 0, 0), (24, .ifCond .ne 0, 29, 0, 0), (27, .goto_w 0, 27, 0, 0)]
def B_Mo_leadsTo_27 : List Ent := [(27, .iconst 0, 0, 0, 0), (28, .ireturn, 0, 1, 0)]
def B_Mo_leadsTo_29 : List Ent := [(29, .aload 0, 0, 0, 0), (30, .iload 0, 1, 0, 0), (31, .invokevirtual 0, 210, 2, 21), (34, .aload 0, 0, 0, 0), (35, .getfield 0, 21, 1, 16), (38, .iload 0, 2, 0, 0), (39, .iaload, 0, 0, 0), (40, .iconst 0, 0, 0, 1000), (43, .if_icmp .eq 0, 50, 0, 0), (46, .iconst 0, 0, 0, 1), (47, .goto 0, 51, 0, 0)]
def B_Mo_leadsTo_50 : List Ent := [(50, .iconst 0, 0, 0, 0), (51, .goto_w 0, 51, 0, 0)]
def B_Mo_leadsTo_51 : List Ent := [(51, .ireturn, 0, 1, 0)]
def lb_Mo_leadsTo : List (Nat × List Ent) := [(0, B_Mo_leadsTo_0), (27, B_Mo_leadsTo_27), (29, B_Mo_leadsTo_29), (50, B_Mo_leadsTo_50), (51, B_Mo_leadsTo_51)]
def B_Mo_far_0 : List Ent := [(0, .aload 0, 0, 0, 0), (1, .aload 0, 0, 0, 0), (2, .iload 0, 1, 0, 0), (3, .iload 0, 2, 0, 0), (4, .invokevirtual 0, 190, 3, 21), (7, .invokevirtual 0, 180, 2, 21), (10, .ifCond .eq 0, 15, 0, 0), (13, .iconst 0, 0, 0, 0), (14, .ireturn, 0, 0, 0)]
def B_Mo_far_15 : List Ent := [(15, .aload 0, 0, 0, 0), (16, .iload 0, 1, 0, 0), (17, .iload 0, 2, 0, 0), (18, .invokevirtual 0, 250, 3, 21), (21, .ifCond .eq 0, 33, 0, 0), (24, .aload 0, 0, 0, 0), (25, .getfield 0, 21, 1, 16), (28, .iload 0, 2, 0, 0), (29, .iaload, 0, 0, 0), (30, .goto 0, 34, 0, 0)]
def B_Mo_far_33 : List Ent := [(33, .iconst 0, 0, 0, (-1)), (34, .goto_w 0, 34, 0, 0)]
def B_Mo_far_34 : List Ent := [(34, .ireturn, 0, 0, 0)]
def lb_Mo_far : List (Nat × List Ent) := [(0, B_Mo_far_0), (15, B_Mo_far_15), (33, B_Mo_far_33), (34, B_Mo_far_34)]
def B_Mo_toward_0 : List Ent := [(0, .aload 0, 0, 0, 0), (1, .aload 0, 0, 0, 0), (2, .iload 0, 1, 0, 0), (3, .iload 0, 2, 0, 0), (4, .invokevirtual 0, 190, 3, 21), (7, .invokevirtual 0, 180, 2, 21), (10, .ifCond .eq 0, 15, 0, 0), (13, .iconst 0, 0, 0, 0), (14, .ireturn, 0, 0, 0)]
def B_Mo_toward_15 : List Ent := [(15, .iload 0, 1, 0, 0), (16, .iload 0, 2, 0, 0), (17, .if_icmp .eq 0, 29, 0, 0), (20, .aload 0, 0, 0, 0), (21, .iload 0, 2, 0, 0), (22, .iload 0, 1, 0, 0), (23, .invokevirtual 0, 250, 3, 21), (26, .ifCond .ne 0, 31, 0, 0), (29, .goto_w 0, 29, 0, 0)]
def B_Mo_toward_29 : List Ent := [(29, .iconst 0, 0, 0, (-1)), (30, .ireturn, 0, 0, 0)]
def B_Mo_toward_31 : List Ent := [(31, .iconst 0, 0, 0, 0), (32, .istore 0, 3, 0, 0), (33, .goto_w 0, 33, 0, 0)]
def B_Mo_toward_33 : List Ent := [(33, .aload 0, 0, 0, 0), (34, .getfield 0, 21, 1, 15), (37, .iload 0, 3, 0, 0), (38, .baload, 0, 0, 0), (39, .ifCond .eq 0, 69, 0, 0), (42, .aload 0, 0, 0, 0), (43, .iload 0, 1, 0, 0), (44, .iload 0, 3, 0, 0), (45, .invokevirtual 0, 193, 3, 21), (48, .iconst 0, 0, 0, 1), (49, .if_icmp .ne 0, 69, 0, 0), (52, .aload 0, 0, 0, 0), (53, .getfield 0, 21, 1, 16), (56, .iload 0, 3, 0, 0), (57, .iaload, 0, 0, 0), (58, .aload 0, 0, 0, 0), (59, .getfield 0, 21, 1, 16), (62, .iload 0, 1, 0, 0), (63, .iaload, 0, 0, 0), (64, .iconst 0, 0, 0, 1), (65, .isub, 0, 0, 0), (66, .if_icmp .eq 0, 75, 0, 0), (69, .goto_w 0, 69, 0, 0)]
def B_Mo_toward_69 : List Ent := [(69, .iinc 0 0, 3, 0, 1), (72, .goto 0, 33, 0, 0)]
def B_Mo_toward_75 : List Ent := [(75, .iload 0, 3, 0, 0), (76, .ireturn, 0, 0, 0)]
def lb_Mo_toward : List (Nat × List Ent) := [(0, B_Mo_toward_0), (15, B_Mo_toward_15), (29, B_Mo_toward_29), (31, B_Mo_toward_31), (33, B_Mo_toward_33), (69, B_Mo_toward_69), (75, B_Mo_toward_75)]
def B_Mo_part_0 : List Ent := [(0, .aload 0, 0, 0, 0), (1, .invokevirtual 0, 212, 1, 21), (4, .istore 0, 3, 0, 0), (5, .aload 0, 0, 0, 0), (6, .iload 0, 1, 0, 0), (7, .iconst 0, 0, 0, 0), (8, .iload 0, 3, 0, 0), (9, .iconst 0, 0, 0, 1), (10, .isub, 0, 0, 0), (11, .invokestatic 0, 179, 3, 0), (14, .invokevirtual 0, 180, 2, 21), (17, .ifCond .eq 0, 22, 0, 0), (20, .iconst 0, 0, 0, 0), (21, .ireturn, 0, 0, 0)]
def B_Mo_part_22 : List Ent := [(22, .iconst 0, 0, 0, (-1)), (23, .istore 0, 4, 0, 0), (25, .iconst 0, 0, 0, 0), (26, .istore 0, 5, 0, 0), (28, .iconst 0, 0, 0, 0), (29, .istore 0, 6, 0, 0), (31, .iconst 0, 0, 0, 0), (32, .istore 0, 7, 0, 0), (34, .goto_w 0, 34, 0, 0)]
def B_Mo_part_34 : List Ent := [(34, .iload 0, 7, 0, 0), (36, .aload 0, 0, 0, 0), (37, .getfield 0, 21, 0, 13), (40, .if_icmp .ge 0, 92, 0, 0), (43, .aload 0, 0, 0, 0), (44, .getfield 0, 21, 1, 18), (47, .iload 0, 7, 0, 0), (49, .iaload, 0, 0, 0), (50, .iload 0, 1, 0, 0), (51, .if_icmp .ne 0, 86, 0, 0), (54, .iload 0, 4, 0, 0), (56, .iconst 0, 0, 0, (-1)), (57, .if_icmp .ne 0, 65, 0, 0), (60, .iload 0, 7, 0, 0), (62, .goto 0, 67, 0, 0)]
def B_Mo_part_65 : List Ent := [(65, .iload 0, 4, 0, 0), (67, .goto_w 0, 67, 0, 0)]
def B_Mo_part_67 : List Ent := [(67, .istore 0, 4, 0, 0), (69, .iinc 0 0, 5, 0, 1), (72, .iload 0, 6, 0, 0), (74, .aload 0, 0, 0, 0), (75, .getfield 0, 21, 1, 16), (78, .iload 0, 7, 0, 0), (80, .iaload, 0, 0, 0), (81, .invokestatic 0, 182, 2, 0), (84, .istore 0, 6, 0, 0), (86, .goto_w 0, 86, 0, 0)]
def B_Mo_part_86 : List Ent := [(86, .iinc 0 0, 7, 0, 1), (89, .goto 0, 34, 0, 0)]
def B_Mo_part_92 : List Ent := [(92, .iload 0, 2, 0, 0), (93, .ifCond .ne 0, 101, 0, 0), (96, .iload 0, 4, 0, 0), (98, .goto 0, 126, 0, 0)]
def B_Mo_part_101 : List Ent := [(101, .iload 0, 2, 0, 0), (102, .iconst 0, 0, 0, 1), (103, .if_icmp .ne 0, 111, 0, 0), (106, .iload 0, 5, 0, 0), (108, .goto 0, 126, 0, 0)]
def B_Mo_part_111 : List Ent := [(111, .iload 0, 2, 0, 0), (112, .iconst 0, 0, 0, 2), (113, .if_icmp .ne 0, 121, 0, 0), (116, .iload 0, 6, 0, 0), (118, .goto 0, 126, 0, 0)]
def B_Mo_part_121 : List Ent := [(121, .aload 0, 0, 0, 0), (122, .iconst 0, 0, 0, 2), (123, .invokevirtual 0, 178, 2, 21), (126, .goto_w 0, 126, 0, 0)]
def B_Mo_part_126 : List Ent := [(126, .ireturn, 0, 0, 0)]
def lb_Mo_part : List (Nat × List Ent) := [(0, B_Mo_part_0), (22, B_Mo_part_22), (34, B_Mo_part_34), (65, B_Mo_part_65), (67, B_Mo_part_67), (86, B_Mo_part_86), (92, B_Mo_part_92), (101, B_Mo_part_101), (111, B_Mo_part_111), (121, B_Mo_part_121), (126, B_Mo_part_126)]
def B_Mo_allowedIf_0 : List Ent := [(0, .aload 0, 0, 0, 0), (1, .aload 0, 0, 0, 0), (2, .iload 0, 1, 0, 0), (3, .invokevirtual 0, 200, 2, 21), (6, .invokevirtual 0, 180, 2, 21), (9, .ifCond .eq 0, 16, 0, 0), (12, .iconst 0, 0, 0, 0), (13, .goto 0, 21, 0, 0)]
def B_Mo_allowedIf_16 : List Ent := [(16, .aload 0, 0, 0, 0), (17, .iload 0, 1, 0, 0), (18, .invokevirtual 0, 207, 2, 21), (21, .goto_w 0, 21, 0, 0)]
def B_Mo_allowedIf_21 : List Ent := [(21, .ireturn, 0, 0, 0)]
def lb_Mo_allowedIf : List (Nat × List Ent) := [(0, B_Mo_allowedIf_0), (16, B_Mo_allowedIf_16), (21, B_Mo_allowedIf_21)]
def B_Mo_partsIf_0 : List Ent := [(0, .aload 0, 0, 0, 0), (1, .aload 0, 0, 0, 0), (2, .iload 0, 1, 0, 0), (3, .invokevirtual 0, 200, 2, 21), (6, .invokevirtual 0, 180, 2, 21), (9, .ifCond .eq 0, 14, 0, 0), (12, .iconst 0, 0, 0, 0), (13, .ireturn, 0, 0, 0)]
def B_Mo_partsIf_14 : List Ent := [(14, .aload 0, 0, 0, 0), (15, .iload 0, 1, 0, 0), (16, .invokevirtual 0, 206, 2, 21), (19, .aload 0, 0, 0, 0), (20, .invokevirtual 0, 212, 1, 21), (23, .istore 0, 2, 0, 0), (24, .aload 0, 0, 0, 0), (25, .iload 0, 1, 0, 0), (26, .invokevirtual 0, 206, 2, 21), (29, .iload 0, 2, 0, 0), (30, .ireturn, 0, 0, 0)]
def lb_Mo_partsIf : List (Nat × List Ent) := [(0, B_Mo_partsIf_0), (14, B_Mo_partsIf_14)]
def B_Mo_strictest_0 : List Ent := [(0, .aload 0, 0, 0, 0), (1, .iconst 0, 0, 0, 0), (2, .putfield 0, 21, 0, 9), (5, .iconst 0, 0, 0, (-1)), (6, .istore 0, 1, 0, 0), (7, .iconst 0, 0, 0, (-1)), (8, .istore 0, 2, 0, 0), (9, .iconst 0, 0, 0, 0), (10, .istore 0, 3, 0, 0), (11, .goto_w 0, 11, 0, 0)]
def B_Mo_strictest_11 : List Ent := [(11, .iload 0, 3, 0, 0), (12, .aload 0, 0, 0, 0), (13, .getfield 0, 21, 1, 6), (16, .iconst 0, 0, 0, 6), (18, .iaload, 0, 0, 0), (19, .if_icmp .ge 0, 58, 0, 0), (22, .aload 0, 0, 0, 0), (23, .iload 0, 3, 0, 0), (24, .invokevirtual 0, 201, 2, 21), (27, .ifCond .eq 0, 38, 0, 0), (30, .aload 0, 0, 0, 0), (31, .iload 0, 3, 0, 0), (32, .invokevirtual 0, 207, 2, 21), (35, .goto 0, 39, 0, 0)]
def B_Mo_strictest_38 : List Ent := [(38, .iconst 0, 0, 0, (-1)), (39, .goto_w 0, 39, 0, 0)]
def B_Mo_strictest_39 : List Ent := [(39, .istore 0, 4, 0, 0), (41, .iload 0, 4, 0, 0), (43, .iload 0, 2, 0, 0), (44, .if_icmp .le 0, 52, 0, 0), (47, .iload 0, 3, 0, 0), (48, .istore 0, 1, 0, 0), (49, .iload 0, 4, 0, 0), (51, .istore 0, 2, 0, 0), (52, .goto_w 0, 52, 0, 0)]
def B_Mo_strictest_52 : List Ent := [(52, .iinc 0 0, 3, 0, 1), (55, .goto 0, 11, 0, 0)]
def B_Mo_strictest_58 : List Ent := [(58, .iload 0, 1, 0, 0), (59, .ireturn, 0, 0, 0)]
def lb_Mo_strictest : List (Nat × List Ent) := [(0, B_Mo_strictest_0), (11, B_Mo_strictest_11), (38, B_Mo_strictest_38), (39, B_Mo_strictest_39), (52, B_Mo_strictest_52), (58, B_Mo_strictest_58)]
def B_Mo_bridge_0 : List Ent := [(0, .aload 0, 0, 0, 0), (1, .iconst 0, 0, 0, 0), (2, .putfield 0, 21, 0, 9), (5, .aload 0, 0, 0, 0), (6, .invokevirtual 0, 205, 1, 21), (9, .istore 0, 1, 0, 0), (10, .iconst 0, 0, 0, (-1)), (11, .istore 0, 2, 0, 0), (12, .iconst 0, 0, 0, (-1)), (13, .istore 0, 3, 0, 0), (14, .iconst 0, 0, 0, 0), (15, .istore 0, 4, 0, 0), (17, .goto_w 0, 17, 0, 0)]
def B_Mo_bridge_17 : List Ent := [(17, .iload 0, 4, 0, 0), (19, .aload 0, 0, 0, 0), (20, .getfield 0, 21, 0, 13), (23, .if_icmp .ge 0, 79, 0, 0), (26, .aload 0, 0, 0, 0), (27, .getfield 0, 21, 1, 15), (30, .iload 0, 4, 0, 0), (32, .baload, 0, 0, 0), (33, .ifCond .ne 0, 39, 0, 0), (36, .goto 0, 73, 0, 0)]
def B_Mo_bridge_39 : List Ent := [(39, .aload 0, 0, 0, 0), (40, .getfield 0, 21, 1, 15), (43, .iload 0, 4, 0, 0), (45, .iconst 0, 0, 0, 0), (46, .bastore, 0, 0, 0), (47, .aload 0, 0, 0, 0), (48, .invokevirtual 0, 211, 1, 21), (51, .istore 0, 5, 0, 0), (53, .aload 0, 0, 0, 0), (54, .getfield 0, 21, 1, 15), (57, .iload 0, 4, 0, 0), (59, .iconst 0, 0, 0, 1), (60, .bastore, 0, 0, 0), (61, .iload 0, 5, 0, 0), (63, .iload 0, 3, 0, 0), (64, .if_icmp .le 0, 73, 0, 0), (67, .iload 0, 4, 0, 0), (69, .istore 0, 2, 0, 0), (70, .iload 0, 5, 0, 0), (72, .istore 0, 3, 0, 0), (73, .goto_w 0, 73, 0, 0)]
def B_Mo_bridge_73 : List Ent := [(73, .iinc 0 0, 4, 0, 1), (76, .goto 0, 17, 0, 0)]
def B_Mo_bridge_79 : List Ent := [(79, .iload 0, 2, 0, 0), (80, .ireturn, 0, 0, 0)]
def lb_Mo_bridge : List (Nat × List Ent) := [(0, B_Mo_bridge_0), (17, B_Mo_bridge_17), (39, B_Mo_bridge_39), (73, B_Mo_bridge_73), (79, B_Mo_bridge_79)]
def B_Mo_meanWeight_0 : List Ent := [(0, .aload 0, 0, 0, 0), (1, .iconst 0, 0, 0, 0), (2, .putfield 0, 21, 0, 9), (5, .aload 0, 0, 0, 0), (6, .invokevirtual 0, 205, 1, 21), (9, .istore 0, 1, 0, 0), (10, .iconst 0, 0, 0, 0), (11, .istore 0, 2, 0, 0), (12, .iconst 0, 0, 0, 0), (13, .istore 0, 3, 0, 0), (14, .goto_w 0, 14, 0, 0)]
def B_Mo_meanWeight_14 : List Ent := [(14, .iload 0, 3, 0, 0), (15, .aload 0, 0, 0, 0), (16, .getfield 0, 21, 0, 13), (19, .if_icmp .ge 0, 49, 0, 0), (22, .iload 0, 2, 0, 0), (23, .aload 0, 0, 0, 0), (24, .getfield 0, 21, 1, 15), (27, .iload 0, 3, 0, 0), (28, .baload, 0, 0, 0), (29, .ifCond .eq 0, 40, 0, 0), (32, .aload 0, 0, 0, 0), (33, .iload 0, 3, 0, 0), (34, .invokevirtual 0, 192, 2, 21), (37, .goto 0, 41, 0, 0)]
def B_Mo_meanWeight_40 : List Ent := [(40, .iconst 0, 0, 0, 0), (41, .goto_w 0, 41, 0, 0)]
def B_Mo_meanWeight_41 : List Ent := [(41, .iadd, 0, 0, 0), (42, .istore 0, 2, 0, 0), (43, .iinc 0 0, 3, 0, 1), (46, .goto 0, 14, 0, 0)]
def B_Mo_meanWeight_49 : List Ent := [(49, .iload 0, 1, 0, 0), (50, .ifCond .ne 0, 57, 0, 0), (53, .dconst 0, 0, 0, 0), (54, .goto 0, 62, 0, 0)]
def B_Mo_meanWeight_57 : List Ent := [(57, .iload 0, 2, 0, 0), (58, .i2d, 0, 0, 0), (59, .iload 0, 1, 0, 0), (60, .i2d, 0, 0, 0), (61, .ddiv, 0, 0, 0), (62, .goto_w 0, 62, 0, 0)]
def B_Mo_meanWeight_62 : List Ent := [(62, .ireturn, 0, 7, 0)]
def lb_Mo_meanWeight : List (Nat × List Ent) := [(0, B_Mo_meanWeight_0), (14, B_Mo_meanWeight_14), (40, B_Mo_meanWeight_40), (41, B_Mo_meanWeight_41), (49, B_Mo_meanWeight_49), (57, B_Mo_meanWeight_57), (62, B_Mo_meanWeight_62)]
def B_Mo_visitedShare_0 : List Ent := [(0, .aload 0, 0, 0, 0), (1, .iconst 0, 0, 0, 0), (2, .putfield 0, 21, 0, 9), (5, .aload 0, 0, 0, 0), (6, .invokevirtual 0, 225, 1, 21), (9, .istore 0, 1, 0, 0), (10, .aload 0, 0, 0, 0), (11, .invokevirtual 0, 205, 1, 21), (14, .istore 0, 2, 0, 0), (15, .iload 0, 2, 0, 0), (16, .ifCond .ne 0, 23, 0, 0), (19, .fconst 1, 0, 0, 0), (20, .goto 0, 30, 0, 0)]
def B_Mo_visitedShare_23 : List Ent := [(23, .iload 0, 2, 0, 0), (24, .iload 0, 1, 0, 0), (25, .isub, 0, 0, 0), (26, .i2f, 0, 0, 0), (27, .iload 0, 2, 0, 0), (28, .i2f, 0, 0, 0), (29, .fdiv, 0, 0, 0), (30, .goto_w 0, 30, 0, 0)]
def B_Mo_visitedShare_30 : List Ent := [(30, .ireturn, 0, 8, 0)]
def lb_Mo_visitedShare : List (Nat × List Ent) := [(0, B_Mo_visitedShare_0), (23, B_Mo_visitedShare_23), (30, B_Mo_visitedShare_30)]
def B_Mo_step_0 : List Ent := [(0, .aload 0, 0, 0, 0), (1, .iconst 0, 0, 0, 0), (2, .putfield 0, 21, 0, 9), (5, .aload 0, 0, 0, 0), (6, .invokevirtual 0, 205, 1, 21), (9, .istore 0, 1, 0, 0), (10, .aload 0, 0, 0, 0), (11, .invokevirtual 0, 218, 1, 21), (14, .istore 0, 2, 0, 0), (15, .iload 0, 2, 0, 0), (16, .iconst 0, 0, 0, (-1)), (17, .if_icmp .ne 0, 23, 0, 0), (20, .iconst 0, 0, 0, (-2)), (22, .ireturn, 0, 0, 0)]
def B_Mo_step_23 : List Ent := [(23, .aload 0, 0, 0, 0), (24, .invokevirtual 0, 276, 1, 21), (27, .aload 0, 0, 0, 0), (28, .iload 0, 2, 0, 0), (29, .invokevirtual 0, 219, 2, 21), (32, .iload 0, 2, 0, 0), (33, .ireturn, 0, 0, 0)]
def lb_Mo_step : List (Nat × List Ent) := [(0, B_Mo_step_0), (23, B_Mo_step_23)]
def B_Mo_steps_0 : List Ent := [(0, .aload 0, 0, 0, 0), (1, .iload 0, 1, 0, 0), (2, .iconst 0, 0, 0, 1), (3, .iconst 0, 0, 0, 200), (6, .invokestatic 0, 179, 3, 0), (9, .invokevirtual 0, 180, 2, 21), (12, .ifCond .eq 0, 17, 0, 0), (15, .iconst 0, 0, 0, 0), (16, .ireturn, 0, 0, 0)]
def B_Mo_steps_17 : List Ent := [(17, .aload 0, 0, 0, 0), (18, .invokevirtual 0, 276, 1, 21), (21, .aload 0, 0, 0, 0), (22, .iload 0, 1, 0, 0), (23, .invokevirtual 0, 220, 2, 21), (26, .ireturn, 0, 0, 0)]
def lb_Mo_steps : List (Nat × List Ent) := [(0, B_Mo_steps_0), (17, B_Mo_steps_17)]
def B_Mo_swapRefusal_0 : List Ent := [(0, .iload 0, 1, 0, 0), (1, .iconst 0, 0, 0, (-1)), (2, .if_icmp .ne 0, 8, 0, 0), (5, .iconst 0, 0, 0, (-3)), (7, .ireturn, 0, 0, 0)]
def B_Mo_swapRefusal_8 : List Ent := [(8, .aload 0, 0, 0, 0), (9, .invokevirtual 0, 205, 1, 21), (12, .istore 0, 2, 0, 0), (13, .aload 0, 0, 0, 0), (14, .getfield 0, 21, 1, 15), (17, .iload 0, 1, 0, 0), (18, .baload, 0, 0, 0), (19, .ifCond .ne 0, 27, 0, 0), (22, .iconst 0, 0, 0, (-4)), (24, .goto 0, 41, 0, 0)]
def B_Mo_swapRefusal_27 : List Ent := [(27, .aload 0, 0, 0, 0), (28, .iload 0, 1, 0, 0), (29, .invokevirtual 0, 215, 2, 21), (32, .ifCond .eq 0, 40, 0, 0), (35, .iconst 0, 0, 0, (-5)), (37, .goto 0, 41, 0, 0)]
def B_Mo_swapRefusal_40 : List Ent := [(40, .iconst 0, 0, 0, 0), (41, .goto_w 0, 41, 0, 0)]
def B_Mo_swapRefusal_41 : List Ent := [(41, .ireturn, 0, 0, 0)]
def lb_Mo_swapRefusal : List (Nat × List Ent) := [(0, B_Mo_swapRefusal_0), (8, B_Mo_swapRefusal_8), (27, B_Mo_swapRefusal_27), (40, B_Mo_swapRefusal_40), (41, B_Mo_swapRefusal_41)]
def B_Mo_swap_0 : List Ent := [(0, .aload 0, 0, 0, 0), (1, .aload 0, 0, 0, 0), (2, .iload 0, 1, 0, 0), (3, .invokevirtual 0, 191, 2, 21), (6, .ifCond .eq 0, 21, 0, 0), (9, .aload 0, 0, 0, 0), (10, .iload 0, 2, 0, 0), (11, .invokevirtual 0, 191, 2, 21), (14, .ifCond .eq 0, 21, 0, 0), (17, .iconst 0, 0, 0, 1), (18, .goto 0, 22, 0, 0)]
def B_Mo_swap_21 : List Ent := [(21, .iconst 0, 0, 0, 0), (22, .goto_w 0, 22, 0, 0)]
def B_Mo_swap_22 : List Ent := [(22, .invokevirtual 0, 180, 2, 21), (25, .ifCond .eq 0, 30, 0, 0), (28, .iconst 0, 0, 0, 0), (29, .ireturn, 0, 0, 0)]
def B_Mo_swap_30 : List Ent := [(30, .aload 0, 0, 0, 0), (31, .getfield 0, 21, 1, 6), (34, .iconst 0, 0, 0, 3), (35, .iaload, 0, 0, 0), (36, .iconst 0, 0, 0, (-1)), (37, .if_icmp .ne 0, 43, 0, 0), (40, .iconst 0, 0, 0, (-2)), (42, .ireturn, 0, 0, 0)]
def B_Mo_swap_43 : List Ent := [(43, .aload 0, 0, 0, 0), (44, .aload 0, 0, 0, 0), (45, .getfield 0, 21, 1, 6), (48, .iconst 0, 0, 0, 3), (49, .iaload, 0, 0, 0), (50, .iload 0, 1, 0, 0), (51, .iload 0, 2, 0, 0), (52, .invokevirtual 0, 194, 4, 21), (55, .istore 0, 3, 0, 0), (56, .aload 0, 0, 0, 0), (57, .iload 0, 3, 0, 0), (58, .invokevirtual 0, 262, 2, 21), (61, .ifCond .eq 0, 70, 0, 0), (64, .aload 0, 0, 0, 0), (65, .iload 0, 3, 0, 0), (66, .invokevirtual 0, 262, 2, 21), (69, .ireturn, 0, 0, 0)]
def B_Mo_swap_70 : List Ent := [(70, .aload 0, 0, 0, 0), (71, .invokevirtual 0, 276, 1, 21), (74, .aload 0, 0, 0, 0), (75, .iload 0, 3, 0, 0), (76, .invokevirtual 0, 219, 2, 21), (79, .iload 0, 3, 0, 0), (80, .ireturn, 0, 0, 0)]
def lb_Mo_swap : List (Nat × List Ent) := [(0, B_Mo_swap_0), (21, B_Mo_swap_21), (22, B_Mo_swap_22), (30, B_Mo_swap_30), (43, B_Mo_swap_43), (70, B_Mo_swap_70)]
def B_Mo_back_0 : List Ent := [(0, .aload 0, 0, 0, 0), (1, .iconst 0, 0, 0, 0), (2, .putfield 0, 21, 0, 9), (5, .aload 0, 0, 0, 0), (6, .getfield 0, 21, 1, 6), (9, .iconst 0, 0, 0, 7), (11, .iaload, 0, 0, 0), (12, .istore 0, 1, 0, 0), (13, .iload 0, 1, 0, 0), (14, .ifCond .ne 0, 20, 0, 0), (17, .iconst 0, 0, 0, (-2)), (19, .ireturn, 0, 0, 0)]
def B_Mo_back_20 : List Ent := [(20, .aload 0, 0, 0, 0), (21, .invokevirtual 0, 276, 1, 21), (24, .aload 0, 0, 0, 0), (25, .iload 0, 1, 0, 0), (26, .iconst 0, 0, 0, 1), (27, .isub, 0, 0, 0), (28, .aload 0, 0, 0, 0), (29, .getfield 0, 21, 1, 6), (32, .iconst 0, 0, 0, 270), (35, .iconst 0, 0, 0, 2), (36, .iload 0, 1, 0, 0), (37, .imul, 0, 0, 0), (38, .iadd, 0, 0, 0), (39, .iconst 0, 0, 0, 1), (40, .isub, 0, 0, 0), (41, .iaload, 0, 0, 0), (42, .aload 0, 0, 0, 0), (43, .getfield 0, 21, 1, 6), (46, .iconst 0, 0, 0, 4), (47, .iaload, 0, 0, 0), (48, .iconst 0, 0, 0, 1), (49, .isub, 0, 0, 0), (50, .invokevirtual 0, 221, 4, 21), (53, .aload 0, 0, 0, 0), (54, .getfield 0, 21, 1, 6), (57, .iconst 0, 0, 0, 3), (58, .iaload, 0, 0, 0), (59, .iconst 0, 0, 0, 1), (60, .iadd, 0, 0, 0), (61, .ireturn, 0, 0, 0)]
def lb_Mo_back : List (Nat × List Ent) := [(0, B_Mo_back_0), (20, B_Mo_back_20)]
def B_Mo_reset_0 : List Ent := [(0, .aload 0, 0, 0, 0), (1, .iconst 0, 0, 0, 0), (2, .putfield 0, 21, 0, 9), (5, .aload 0, 0, 0, 0), (6, .invokevirtual 0, 276, 1, 21), (9, .aload 0, 0, 0, 0), (10, .getfield 0, 21, 1, 6), (13, .iconst 0, 0, 0, 7), (15, .iaload, 0, 0, 0), (16, .istore 0, 1, 0, 0), (17, .aload 0, 0, 0, 0), (18, .iconst 0, 0, 0, 0), (19, .iconst 0, 0, 0, 0), (20, .iconst 0, 0, 0, 0), (21, .invokevirtual 0, 221, 4, 21), (24, .iload 0, 1, 0, 0), (25, .ireturn, 0, 0, 0)]
def lb_Mo_reset : List (Nat × List Ent) := [(0, B_Mo_reset_0)]
def B_Mo_replace_0 : List Ent := [(0, .aload 0, 0, 0, 0), (1, .invokevirtual 0, 276, 1, 21), (4, .aload 0, 0, 0, 0), (5, .getfield 0, 21, 1, 6), (8, .iload 0, 1, 0, 0), (9, .iaload, 0, 0, 0), (10, .istore 0, 3, 0, 0), (11, .aload 0, 0, 0, 0), (12, .getfield 0, 21, 1, 6), (15, .iload 0, 1, 0, 0), (16, .iload 0, 2, 0, 0), (17, .iastore, 0, 0, 0), (18, .iload 0, 3, 0, 0), (19, .ireturn, 0, 0, 0)]
def lb_Mo_replace : List (Nat × List Ent) := [(0, B_Mo_replace_0)]
def B_Mo_setMode_0 : List Ent := [(0, .aload 0, 0, 0, 0), (1, .iload 0, 1, 0, 0), (2, .invokestatic 0, 246, 1, 0), (5, .invokevirtual 0, 180, 2, 21), (8, .ifCond .eq 0, 15, 0, 0), (11, .iconst 0, 0, 0, 0), (12, .goto 0, 21, 0, 0)]
def B_Mo_setMode_15 : List Ent := [(15, .aload 0, 0, 0, 0), (16, .iconst 0, 0, 0, 2), (17, .iload 0, 1, 0, 0), (18, .invokevirtual 0, 266, 3, 21), (21, .goto_w 0, 21, 0, 0)]
def B_Mo_setMode_21 : List Ent := [(21, .ireturn, 0, 0, 0)]
def lb_Mo_setMode : List (Nat × List Ent) := [(0, B_Mo_setMode_0), (15, B_Mo_setMode_15), (21, B_Mo_setMode_21)]
def B_Mo_setWeight_0 : List Ent := [(0, .aload 0, 0, 0, 0), (1, .aload 0, 0, 0, 0), (2, .iload 0, 1, 0, 0), (3, .invokevirtual 0, 191, 2, 21), (6, .invokevirtual 0, 180, 2, 21), (9, .ifCond .eq 0, 14, 0, 0), (12, .iconst 0, 0, 0, 0), (13, .ireturn, 0, 0, 0)]
def B_Mo_setWeight_14 : List Ent := [(14, .iload 0, 2, 0, 0), (15, .iconst 0, 0, 0, 0), (16, .iconst 0, 0, 0, 99), (18, .invokestatic 0, 179, 3, 0), (21, .ifCond .eq 0, 36, 0, 0), (24, .aload 0, 0, 0, 0), (25, .iconst 0, 0, 0, 8), (27, .iload 0, 1, 0, 0), (28, .iadd, 0, 0, 0), (29, .iload 0, 2, 0, 0), (30, .invokevirtual 0, 266, 3, 21), (33, .goto 0, 41, 0, 0)]
def B_Mo_setWeight_36 : List Ent := [(36, .aload 0, 0, 0, 0), (37, .iconst 0, 0, 0, 2), (38, .invokevirtual 0, 178, 2, 21), (41, .goto_w 0, 41, 0, 0)]
def B_Mo_setWeight_41 : List Ent := [(41, .ireturn, 0, 0, 0)]
def lb_Mo_setWeight : List (Nat × List Ent) := [(0, B_Mo_setWeight_0), (14, B_Mo_setWeight_14), (36, B_Mo_setWeight_36), (41, B_Mo_setWeight_41)]
def B_Mo_dropRule_0 : List Ent := [(0, .aload 0, 0, 0, 0), (1, .aload 0, 0, 0, 0), (2, .iload 0, 1, 0, 0), (3, .invokevirtual 0, 200, 2, 21), (6, .invokevirtual 0, 180, 2, 21), (9, .ifCond .eq 0, 14, 0, 0), (12, .iconst 0, 0, 0, 0), (13, .ireturn, 0, 0, 0)]
def B_Mo_dropRule_14 : List Ent := [(14, .aload 0, 0, 0, 0), (15, .invokevirtual 0, 276, 1, 21), (18, .aload 0, 0, 0, 0), (19, .getfield 0, 21, 1, 6), (22, .iconst 0, 0, 0, 6), (24, .dup2, 0, 0, 0), (25, .iaload, 0, 0, 0), (26, .iconst 0, 0, 0, 1), (27, .isub, 0, 0, 0), (28, .iastore, 0, 0, 0), (29, .iconst 0, 0, 0, 774), (32, .iconst 0, 0, 0, 333), (35, .iload 0, 1, 0, 0), (36, .imul, 0, 0, 0), (37, .iadd, 0, 0, 0), (38, .istore 0, 2, 0, 0), (39, .goto_w 0, 39, 0, 0)]
def B_Mo_dropRule_39 : List Ent := [(39, .iload 0, 2, 0, 0), (40, .iconst 0, 0, 0, 774), (43, .iconst 0, 0, 0, 333), (46, .aload 0, 0, 0, 0), (47, .getfield 0, 21, 1, 6), (50, .iconst 0, 0, 0, 6), (52, .iaload, 0, 0, 0), (53, .imul, 0, 0, 0), (54, .iadd, 0, 0, 0), (55, .if_icmp .ge 0, 80, 0, 0), (58, .aload 0, 0, 0, 0), (59, .getfield 0, 21, 1, 6), (62, .iload 0, 2, 0, 0), (63, .aload 0, 0, 0, 0), (64, .getfield 0, 21, 1, 6), (67, .iload 0, 2, 0, 0), (68, .iconst 0, 0, 0, 333), (71, .iadd, 0, 0, 0), (72, .iaload, 0, 0, 0), (73, .iastore, 0, 0, 0), (74, .iinc 0 0, 2, 0, 1), (77, .goto 0, 39, 0, 0)]
def B_Mo_dropRule_80 : List Ent := [(80, .aload 0, 0, 0, 0), (81, .getfield 0, 21, 1, 6), (84, .iconst 0, 0, 0, 6), (86, .iaload, 0, 0, 0), (87, .ireturn, 0, 0, 0)]
def lb_Mo_dropRule : List (Nat × List Ent) := [(0, B_Mo_dropRule_0), (14, B_Mo_dropRule_14), (39, B_Mo_dropRule_39), (80, B_Mo_dropRule_80)]
def B_Mo_switchRule_0 : List Ent := [(0, .aload 0, 0, 0, 0), (1, .aload 0, 0, 0, 0), (2, .iload 0, 1, 0, 0), (3, .invokevirtual 0, 200, 2, 21), (6, .invokevirtual 0, 180, 2, 21), (9, .ifCond .eq 0, 14, 0, 0), (12, .iconst 0, 0, 0, 0), (13, .ireturn, 0, 0, 0)]
def B_Mo_switchRule_14 : List Ent := [(14, .aload 0, 0, 0, 0), (15, .invokevirtual 0, 276, 1, 21), (18, .aload 0, 0, 0, 0), (19, .iload 0, 1, 0, 0), (20, .invokevirtual 0, 206, 2, 21), (23, .aload 0, 0, 0, 0), (24, .invokevirtual 0, 205, 1, 21), (27, .ireturn, 0, 0, 0)]
def lb_Mo_switchRule : List (Nat × List Ent) := [(0, B_Mo_switchRule_0), (14, B_Mo_switchRule_14)]
def B_Mo_strike_0 : List Ent := [(0, .aload 0, 0, 0, 0), (1, .aload 0, 0, 0, 0), (2, .iload 0, 1, 0, 0), (3, .invokevirtual 0, 189, 2, 21), (6, .invokevirtual 0, 180, 2, 21), (9, .ifCond .eq 0, 14, 0, 0), (12, .iconst 0, 0, 0, 0), (13, .ireturn, 0, 1, 0)]
def B_Mo_strike_14 : List Ent := [(14, .aload 0, 0, 0, 0), (15, .iconst 0, 0, 0, 18), (17, .iload 0, 1, 0, 0), (18, .iadd, 0, 0, 0), (19, .iload 0, 2, 0, 0), (20, .ifCond .eq 0, 27, 0, 0), (23, .iconst 0, 0, 0, 1), (24, .goto 0, 28, 0, 0)]
def B_Mo_strike_27 : List Ent := [(27, .iconst 0, 0, 0, 0), (28, .goto_w 0, 28, 0, 0)]
def B_Mo_strike_28 : List Ent := [(28, .invokevirtual 0, 266, 3, 21), (31, .iconst 0, 0, 0, 1), (32, .if_icmp .ne 0, 39, 0, 0), (35, .iconst 0, 0, 0, 1), (36, .goto 0, 40, 0, 0)]
def B_Mo_strike_39 : List Ent := [(39, .iconst 0, 0, 0, 0), (40, .goto_w 0, 40, 0, 0)]
def B_Mo_strike_40 : List Ent := [(40, .iload 0, 2, 0, 0), (41, .if_icmp .eq 0, 48, 0, 0), (44, .iconst 0, 0, 0, 1), (45, .goto 0, 49, 0, 0)]
def B_Mo_strike_48 : List Ent := [(48, .iconst 0, 0, 0, 0), (49, .goto_w 0, 49, 0, 0)]
def B_Mo_strike_49 : List Ent := [(49, .ireturn, 0, 1, 0)]
def lb_Mo_strike : List (Nat × List Ent) := [(0, B_Mo_strike_0), (14, B_Mo_strike_14), (27, B_Mo_strike_27), (28, B_Mo_strike_28), (39, B_Mo_strike_39), (40, B_Mo_strike_40), (48, B_Mo_strike_48), (49, B_Mo_strike_49)]
def B_Mo_write_0 : List Ent := [(0, .aload 0, 0, 0, 0), (1, .getfield 0, 21, 1, 20), (4, .aload 0, 0, 0, 0), (5, .getfield 0, 21, 0, 21), (8, .iload 0, 1, 0, 0), (9, .iastore, 0, 0, 0), (10, .aload 0, 0, 0, 0), (11, .dup, 0, 0, 0), (12, .getfield 0, 21, 0, 21), (15, .iconst 0, 0, 0, 1), (16, .iadd, 0, 0, 0), (17, .putfield 0, 21, 0, 21), (20, .return_, 0, 0, 0)]
def lb_Mo_write : List (Nat × List Ent) := [(0, B_Mo_write_0)]
def B_Mo_format_0 : List Ent := [(0, .aload 0, 0, 0, 0), (1, .aload 0, 0, 0, 0), (2, .iload 0, 1, 0, 0), (3, .invokevirtual 0, 189, 2, 21), (6, .invokevirtual 0, 180, 2, 21), (9, .ifCond .eq 0, 14, 0, 0), (12, .iconst 0, 0, 0, 0), (13, .ireturn, 0, 0, 0)]
def B_Mo_format_14 : List Ent := [(14, .aload 0, 0, 0, 0), (15, .iconst 0, 0, 0, 0), (16, .putfield 0, 21, 0, 21), (19, .iconst 0, 0, 0, 0), (20, .istore 0, 2, 0, 0), (21, .goto_w 0, 21, 0, 0)]
def B_Mo_format_21 : List Ent := [(21, .iload 0, 2, 0, 0), (22, .aload 0, 0, 0, 0), (23, .getfield 0, 21, 1, 6), (26, .iconst 0, 0, 0, 0), (27, .iaload, 0, 0, 0), (28, .if_icmp .ge 0, 98, 0, 0), (31, .aload 0, 0, 0, 0), (32, .getfield 0, 21, 1, 11), (35, .iload 0, 1, 0, 0), (36, .iaload, 0, 0, 0), (37, .iload 0, 2, 0, 0), (38, .invokestatic 0, 183, 2, 0), (41, .ifCond .ne 0, 47, 0, 0), (44, .goto 0, 92, 0, 0)]
def B_Mo_format_47 : List Ent := [(47, .aload 0, 0, 0, 0), (48, .getfield 0, 21, 0, 21), (51, .ifCond .le 0, 60, 0, 0), (54, .aload 0, 0, 0, 0), (55, .iconst 0, 0, 0, 32), (57, .invokevirtual 0, 272, 2, 21), (60, .goto_w 0, 60, 0, 0)]
def B_Mo_format_60 : List Ent := [(60, .iconst 0, 0, 0, 0), (61, .istore 0, 3, 0, 0), (62, .goto_w 0, 62, 0, 0)]
def B_Mo_format_62 : List Ent := [(62, .iload 0, 3, 0, 0), (63, .aload 0, 0, 0, 0), (64, .iload 0, 2, 0, 0), (65, .invokevirtual 0, 228, 2, 21), (68, .if_icmp .ge 0, 92, 0, 0), (71, .aload 0, 0, 0, 0), (72, .aload 0, 0, 0, 0), (73, .getfield 0, 21, 1, 7), (76, .iconst 0, 0, 0, 6), (78, .iload 0, 2, 0, 0), (79, .imul, 0, 0, 0), (80, .iload 0, 3, 0, 0), (81, .iadd, 0, 0, 0), (82, .iaload, 0, 0, 0), (83, .invokevirtual 0, 272, 2, 21), (86, .iinc 0 0, 3, 0, 1), (89, .goto 0, 62, 0, 0)]
def B_Mo_format_92 : List Ent := [(92, .iinc 0 0, 2, 0, 1), (95, .goto 0, 21, 0, 0)]
def B_Mo_format_98 : List Ent := [(98, .aload 0, 0, 0, 0), (99, .invokevirtual 0, 205, 1, 21), (102, .istore 0, 2, 0, 0), (103, .aload 0, 0, 0, 0), (104, .getfield 0, 21, 1, 6), (107, .iconst 0, 0, 0, 3), (108, .iaload, 0, 0, 0), (109, .iload 0, 1, 0, 0), (110, .if_icmp .ne 0, 119, 0, 0), (113, .aload 0, 0, 0, 0), (114, .iconst 0, 0, 0, 42), (116, .invokevirtual 0, 272, 2, 21), (119, .goto_w 0, 119, 0, 0)]
def B_Mo_format_119 : List Ent := [(119, .aload 0, 0, 0, 0), (120, .iload 0, 1, 0, 0), (121, .invokevirtual 0, 215, 2, 21), (124, .ifCond .eq 0, 133, 0, 0), (127, .aload 0, 0, 0, 0), (128, .iconst 0, 0, 0, 33), (130, .invokevirtual 0, 272, 2, 21), (133, .goto_w 0, 133, 0, 0)]
def B_Mo_format_133 : List Ent := [(133, .aload 0, 0, 0, 0), (134, .getfield 0, 21, 1, 15), (137, .iload 0, 1, 0, 0), (138, .baload, 0, 0, 0), (139, .ifCond .ne 0, 148, 0, 0), (142, .aload 0, 0, 0, 0), (143, .iconst 0, 0, 0, 45), (145, .invokevirtual 0, 272, 2, 21), (148, .goto_w 0, 148, 0, 0)]
def B_Mo_format_148 : List Ent := [(148, .aload 0, 0, 0, 0), (149, .getfield 0, 21, 0, 21), (152, .ireturn, 0, 0, 0)]
def lb_Mo_format : List (Nat × List Ent) := [(0, B_Mo_format_0), (14, B_Mo_format_14), (21, B_Mo_format_21), (47, B_Mo_format_47), (60, B_Mo_format_60), (62, B_Mo_format_62), (92, B_Mo_format_92), (98, B_Mo_format_98), (119, B_Mo_format_119), (133, B_Mo_format_133), (148, B_Mo_format_148)]
def B_Mo_formattedByte_0 : List Ent := [(0, .aload 0, 0, 0, 0), (1, .iconst 0, 0, 0, 0), (2, .putfield 0, 21, 0, 9), (5, .iload 0, 1, 0, 0), (6, .iconst 0, 0, 0, 0), (7, .aload 0, 0, 0, 0), (8, .getfield 0, 21, 0, 21), (11, .iconst 0, 0, 0, 1), (12, .isub, 0, 0, 0), (13, .invokestatic 0, 179, 3, 0), (16, .ifCond .eq 0, 28, 0, 0), (19, .aload 0, 0, 0, 0), (20, .getfield 0, 21, 1, 20), (23, .iload 0, 1, 0, 0), (24, .iaload, 0, 0, 0), (25, .goto 0, 29, 0, 0)]
def B_Mo_formattedByte_28 : List Ent := [(28, .iconst 0, 0, 0, (-1)), (29, .goto_w 0, 29, 0, 0)]
def B_Mo_formattedByte_29 : List Ent := [(29, .ireturn, 0, 0, 0)]
def lb_Mo_formattedByte : List (Nat × List Ent) := [(0, B_Mo_formattedByte_0), (28, B_Mo_formattedByte_28), (29, B_Mo_formattedByte_29)]
def B_Mo_copy_0 : List Ent := [(0, .aload 0, 0, 0, 0), (1, .iconst 0, 0, 0, 4104), (4, .iload 0, 1, 0, 0), (5, .imul, 0, 0, 0), (6, .aload 0, 2, 0, 0), (7, .iconst 0, 0, 0, 4104), (10, .iload 0, 3, 0, 0), (11, .imul, 0, 0, 0), (12, .iconst 0, 0, 0, 4104), (15, .invokedynamic 0, 0, 0, 0), (18, .return_, 0, 0, 0)]
def lb_Mo_copy : List (Nat × List Ent) := [(0, B_Mo_copy_0)]
def B_Mo_record_0 : List Ent := [(0, .aload 0, 0, 0, 0), (1, .getfield 0, 21, 0, 8), (4, .iconst 0, 0, 0, 10), (6, .if_icmp .ne 0, 48, 0, 0), (9, .iconst 0, 0, 0, 1), (10, .istore 0, 1, 0, 0), (11, .goto_w 0, 11, 0, 0)]
def B_Mo_record_11 : List Ent := [(11, .iload 0, 1, 0, 0), (12, .iconst 0, 0, 0, 10), (14, .if_icmp .ge 0, 38, 0, 0), (17, .aload 0, 0, 0, 0), (18, .getfield 0, 21, 1, 3), (21, .iload 0, 1, 0, 0), (22, .aload 0, 0, 0, 0), (23, .getfield 0, 21, 1, 3), (26, .iload 0, 1, 0, 0), (27, .iconst 0, 0, 0, 1), (28, .isub, 0, 0, 0), (29, .invokestatic 0, 275, 4, 0), (32, .iinc 0 0, 1, 0, 1), (35, .goto 0, 11, 0, 0)]
def B_Mo_record_38 : List Ent := [(38, .aload 0, 0, 0, 0), (39, .dup, 0, 0, 0), (40, .getfield 0, 21, 0, 8), (43, .iconst 0, 0, 0, 1), (44, .isub, 0, 0, 0), (45, .putfield 0, 21, 0, 8), (48, .goto_w 0, 48, 0, 0)]
def B_Mo_record_48 : List Ent := [(48, .aload 0, 0, 0, 0), (49, .getfield 0, 21, 1, 0), (52, .iconst 0, 0, 0, 0), (53, .aload 0, 0, 0, 0), (54, .getfield 0, 21, 1, 3), (57, .aload 0, 0, 0, 0), (58, .getfield 0, 21, 0, 8), (61, .invokestatic 0, 275, 4, 0), (64, .aload 0, 0, 0, 0), (65, .dup, 0, 0, 0), (66, .getfield 0, 21, 0, 8), (69, .iconst 0, 0, 0, 1), (70, .iadd, 0, 0, 0), (71, .putfield 0, 21, 0, 8), (74, .return_, 0, 0, 0)]
def lb_Mo_record : List (Nat × List Ent) := [(0, B_Mo_record_0), (11, B_Mo_record_11), (38, B_Mo_record_38), (48, B_Mo_record_48)]
def B_Mo_undoCount_0 : List Ent := [(0, .aload 0, 0, 0, 0), (1, .iconst 0, 0, 0, 0), (2, .putfield 0, 21, 0, 9), (5, .aload 0, 0, 0, 0), (6, .getfield 0, 21, 0, 8), (9, .ireturn, 0, 0, 0)]
def lb_Mo_undoCount : List (Nat × List Ent) := [(0, B_Mo_undoCount_0)]
def B_Mo_undo_0 : List Ent := [(0, .aload 0, 0, 0, 0), (1, .iconst 0, 0, 0, 0), (2, .putfield 0, 21, 0, 9), (5, .aload 0, 0, 0, 0), (6, .getfield 0, 21, 0, 8), (9, .ifCond .ne 0, 14, 0, 0), (12, .iconst 0, 0, 0, (-1)), (13, .ireturn, 0, 0, 0)]
def B_Mo_undo_14 : List Ent := [(14, .aload 0, 0, 0, 0), (15, .dup, 0, 0, 0), (16, .getfield 0, 21, 0, 8), (19, .iconst 0, 0, 0, 1), (20, .isub, 0, 0, 0), (21, .putfield 0, 21, 0, 8), (24, .aload 0, 0, 0, 0), (25, .getfield 0, 21, 1, 3), (28, .aload 0, 0, 0, 0), (29, .getfield 0, 21, 0, 8), (32, .aload 0, 0, 0, 0), (33, .getfield 0, 21, 1, 0), (36, .iconst 0, 0, 0, 0), (37, .invokestatic 0, 275, 4, 0), (40, .aload 0, 0, 0, 0), (41, .getfield 0, 21, 0, 8), (44, .ireturn, 0, 0, 0)]
def lb_Mo_undo : List (Nat × List Ent) := [(0, B_Mo_undo_0), (14, B_Mo_undo_14)]
def B_Mo_saveSnapshot_0 : List Ent := [(0, .aload 0, 0, 0, 0), (1, .iconst 0, 0, 0, 0), (2, .putfield 0, 21, 0, 9), (5, .aload 0, 0, 0, 0), (6, .getfield 0, 21, 1, 0), (9, .iconst 0, 0, 0, 0), (10, .aload 0, 0, 0, 0), (11, .getfield 0, 21, 1, 2), (14, .iconst 0, 0, 0, 0), (15, .invokestatic 0, 275, 4, 0), (18, .aload 0, 0, 0, 0), (19, .iconst 0, 0, 0, 1), (20, .putfield 0, 21, 2, 10), (23, .return_, 0, 0, 0)]
def lb_Mo_saveSnapshot : List (Nat × List Ent) := [(0, B_Mo_saveSnapshot_0)]
def B_Mo_restoreSnapshot_0 : List Ent := [(0, .aload 0, 0, 0, 0), (1, .iconst 0, 0, 0, 0), (2, .putfield 0, 21, 0, 9), (5, .aload 0, 0, 0, 0), (6, .getfield 0, 21, 2, 10), (9, .ifCond .ne 0, 14, 0, 0), (12, .iconst 0, 0, 0, 0), (13, .ireturn, 0, 1, 0)]
def B_Mo_restoreSnapshot_14 : List Ent := [(14, .aload 0, 0, 0, 0), (15, .getfield 0, 21, 1, 2), (18, .iconst 0, 0, 0, 0), (19, .aload 0, 0, 0, 0), (20, .getfield 0, 21, 1, 0), (23, .iconst 0, 0, 0, 0), (24, .invokestatic 0, 275, 4, 0), (27, .aload 0, 0, 0, 0), (28, .iconst 0, 0, 0, 0), (29, .putfield 0, 21, 0, 8), (32, .iconst 0, 0, 0, 1), (33, .ireturn, 0, 1, 0)]
def lb_Mo_restoreSnapshot : List (Nat × List Ent) := [(0, B_Mo_restoreSnapshot_0), (14, B_Mo_restoreSnapshot_14)]
def B_Mo_feed_0 : List Ent := [(0, .aload 0, 0, 0, 0), (1, .iconst 0, 0, 0, 0), (2, .putfield 0, 21, 0, 9), (5, .aload 0, 0, 0, 0), (6, .getfield 0, 21, 0, 23), (9, .iconst 0, 0, 0, 20), (11, .iadd, 0, 0, 0), (12, .iconst 0, 0, 0, 800), (15, .if_icmp .le 0, 20, 0, 0), (18, .iconst 0, 0, 0, (-1)), (19, .ireturn, 0, 0, 0)]
def B_Mo_feed_20 : List Ent := [(20, .iconst 0, 0, 0, 0), (21, .istore 0, 6, 0, 0), (23, .goto_w 0, 23, 0, 0)]
def B_Mo_feed_23 : List Ent := [(23, .iload 0, 6, 0, 0), (25, .iconst 0, 0, 0, 20), (27, .if_icmp .ge 0, 120, 0, 0), (30, .iload 0, 6, 0, 0), (32, .iconst 0, 0, 0, 4), (33, .if_icmp .ge 0, 40, 0, 0), (36, .iload 0, 1, 0, 0), (37, .goto 0, 76, 0, 0)]
def B_Mo_feed_40 : List Ent := [(40, .iload 0, 6, 0, 0), (42, .iconst 0, 0, 0, 8), (44, .if_icmp .ge 0, 51, 0, 0), (47, .iload 0, 2, 0, 0), (48, .goto 0, 76, 0, 0)]
def B_Mo_feed_51 : List Ent := [(51, .iload 0, 6, 0, 0), (53, .iconst 0, 0, 0, 12), (55, .if_icmp .ge 0, 62, 0, 0), (58, .iload 0, 3, 0, 0), (59, .goto 0, 76, 0, 0)]
def B_Mo_feed_62 : List Ent := [(62, .iload 0, 6, 0, 0), (64, .iconst 0, 0, 0, 16), (66, .if_icmp .ge 0, 74, 0, 0), (69, .iload 0, 4, 0, 0), (71, .goto 0, 76, 0, 0)]
def B_Mo_feed_74 : List Ent := [(74, .iload 0, 5, 0, 0), (76, .goto_w 0, 76, 0, 0)]
def B_Mo_feed_76 : List Ent := [(76, .istore 0, 7, 0, 0), (78, .aload 0, 0, 0, 0), (79, .getfield 0, 21, 1, 22), (82, .aload 0, 0, 0, 0), (83, .getfield 0, 21, 0, 23), (86, .iload 0, 7, 0, 0), (88, .iconst 0, 0, 0, 24), (90, .iconst 0, 0, 0, 8), (92, .iload 0, 6, 0, 0), (94, .iconst 0, 0, 0, 4), (95, .irem, 0, 0, 0), (96, .imul, 0, 0, 0), (97, .isub, 0, 0, 0), (98, .ishr, 0, 0, 0), (99, .iconst 0, 0, 0, 255), (102, .iand, 0, 0, 0), (103, .iastore, 0, 0, 0), (104, .aload 0, 0, 0, 0), (105, .dup, 0, 0, 0), (106, .getfield 0, 21, 0, 23), (109, .iconst 0, 0, 0, 1), (110, .iadd, 0, 0, 0), (111, .putfield 0, 21, 0, 23), (114, .iinc 0 0, 6, 0, 1), (117, .goto 0, 23, 0, 0)]
def B_Mo_feed_120 : List Ent := [(120, .aload 0, 0, 0, 0), (121, .getfield 0, 21, 0, 23), (124, .ireturn, 0, 0, 0)]
def lb_Mo_feed : List (Nat × List Ent) := [(0, B_Mo_feed_0), (20, B_Mo_feed_20), (23, B_Mo_feed_23), (40, B_Mo_feed_40), (51, B_Mo_feed_51), (62, B_Mo_feed_62), (74, B_Mo_feed_74), (76, B_Mo_feed_76), (120, B_Mo_feed_120)]
def B_Mo_errorPosition_0 : List Ent := [(0, .aload 0, 0, 0, 0), (1, .iconst 0, 0, 0, 0), (2, .putfield 0, 21, 0, 9), (5, .aload 0, 0, 0, 0), (6, .getfield 0, 21, 0, 30), (9, .ireturn, 0, 0, 0)]
def lb_Mo_errorPosition : List (Nat × List Ent) := [(0, B_Mo_errorPosition_0)]
def B_Mo_byteAt_0 : List Ent := [(0, .iload 0, 1, 0, 0), (1, .aload 0, 0, 0, 0), (2, .getfield 0, 21, 0, 24), (5, .if_icmp .ge 0, 17, 0, 0), (8, .aload 0, 0, 0, 0), (9, .getfield 0, 21, 1, 22), (12, .iload 0, 1, 0, 0), (13, .iaload, 0, 0, 0), (14, .goto 0, 18, 0, 0)]
def B_Mo_byteAt_17 : List Ent := [(17, .iconst 0, 0, 0, (-1)), (18, .goto_w 0, 18, 0, 0)]
def B_Mo_byteAt_18 : List Ent := [(18, .ireturn, 0, 0, 0)]
def lb_Mo_byteAt : List (Nat × List Ent) := [(0, B_Mo_byteAt_0), (17, B_Mo_byteAt_17), (18, B_Mo_byteAt_18)]
def B_Mo_isLetter_0 : List Ent := [(0, .aload 0, 0, 0, 0), (1, .iload 0, 1, 0, 0), (2, .invokevirtual 0, 283, 2, 21), (5, .iconst 0, 0, 0, 97), (7, .if_icmp .lt 0, 24, 0, 0), (10, .aload 0, 0, 0, 0), (11, .iload 0, 1, 0, 0), (12, .invokevirtual 0, 283, 2, 21), (15, .iconst 0, 0, 0, 122), (17, .if_icmp .gt 0, 24, 0, 0), (20, .iconst 0, 0, 0, 1), (21, .goto 0, 25, 0, 0)]
def B_Mo_isLetter_24 : List Ent := [(24, .iconst 0, 0, 0, 0), (25, .goto_w 0, 25, 0, 0)]
def B_Mo_isLetter_25 : List Ent := [(25, .ireturn, 0, 1, 0)]
def lb_Mo_isLetter : List (Nat × List Ent) := [(0, B_Mo_isLetter_0), (24, B_Mo_isLetter_24), (25, B_Mo_isLetter_25)]
def B_Mo_isDigit_0 : List Ent := [(0, .aload 0, 0, 0, 0), (1, .iload 0, 1, 0, 0), (2, .invokevirtual 0, 283, 2, 21), (5, .iconst 0, 0, 0, 48), (7, .if_icmp .lt 0, 24, 0, 0), (10, .aload 0, 0, 0, 0), (11, .iload 0, 1, 0, 0), (12, .invokevirtual 0, 283, 2, 21), (15, .iconst 0, 0, 0, 57), (17, .if_icmp .gt 0, 24, 0, 0), (20, .iconst 0, 0, 0, 1), (21, .goto 0, 25, 0, 0)]
def B_Mo_isDigit_24 : List Ent := [(24, .iconst 0, 0, 0, 0), (25, .goto_w 0, 25, 0, 0)]
def B_Mo_isDigit_25 : List Ent := [(25, .ireturn, 0, 1, 0)]
def lb_Mo_isDigit : List (Nat × List Ent) := [(0, B_Mo_isDigit_0), (24, B_Mo_isDigit_24), (25, B_Mo_isDigit_25)]
def B_Mo_scan_0 : List Ent := [(0, .aload 0, 0, 0, 0), (1, .dup, 0, 0, 0), (2, .getfield 0, 21, 0, 32), (5, .iconst 0, 0, 0, 1), (6, .iadd, 0, 0, 0), (7, .putfield 0, 21, 0, 32), (10, .goto_w 0, 10, 0, 0)]
def B_Mo_scan_10 : List Ent := [(10, .aload 0, 0, 0, 0), (11, .aload 0, 0, 0, 0), (12, .getfield 0, 21, 0, 25), (15, .invokevirtual 0, 283, 2, 21), (18, .iconst 0, 0, 0, 32), (20, .if_icmp .eq 0, 36, 0, 0), (23, .aload 0, 0, 0, 0), (24, .aload 0, 0, 0, 0), (25, .getfield 0, 21, 0, 25), (28, .invokevirtual 0, 283, 2, 21), (31, .iconst 0, 0, 0, 10), (33, .if_icmp .ne 0, 49, 0, 0), (36, .goto_w 0, 36, 0, 0)]
def B_Mo_scan_36 : List Ent := [(36, .aload 0, 0, 0, 0), (37, .dup, 0, 0, 0), (38, .getfield 0, 21, 0, 25), (41, .iconst 0, 0, 0, 1), (42, .iadd, 0, 0, 0), (43, .putfield 0, 21, 0, 25), (46, .goto 0, 10, 0, 0)]
def B_Mo_scan_49 : List Ent := [(49, .aload 0, 0, 0, 0), (50, .aload 0, 0, 0, 0), (51, .getfield 0, 21, 0, 25), (54, .putfield 0, 21, 0, 26), (57, .aload 0, 0, 0, 0), (58, .getfield 0, 21, 0, 25), (61, .aload 0, 0, 0, 0), (62, .getfield 0, 21, 0, 24), (65, .if_icmp .lt 0, 76, 0, 0), (68, .aload 0, 0, 0, 0), (69, .iconst 0, 0, 0, 0), (70, .putfield 0, 21, 0, 27), (73, .goto 0, 177, 0, 0)]
def B_Mo_scan_76 : List Ent := [(76, .aload 0, 0, 0, 0), (77, .aload 0, 0, 0, 0), (78, .getfield 0, 21, 0, 25), (81, .invokevirtual 0, 284, 2, 21), (84, .ifCond .eq 0, 119, 0, 0), (87, .goto_w 0, 87, 0, 0)]
def B_Mo_scan_87 : List Ent := [(87, .aload 0, 0, 0, 0), (88, .aload 0, 0, 0, 0), (89, .getfield 0, 21, 0, 25), (92, .invokevirtual 0, 284, 2, 21), (95, .ifCond .eq 0, 111, 0, 0), (98, .aload 0, 0, 0, 0), (99, .dup, 0, 0, 0), (100, .getfield 0, 21, 0, 25), (103, .iconst 0, 0, 0, 1), (104, .iadd, 0, 0, 0), (105, .putfield 0, 21, 0, 25), (108, .goto 0, 87, 0, 0)]
def B_Mo_scan_111 : List Ent := [(111, .aload 0, 0, 0, 0), (112, .iconst 0, 0, 0, 1), (113, .putfield 0, 21, 0, 27), (116, .goto 0, 177, 0, 0)]
def B_Mo_scan_119 : List Ent := [(119, .aload 0, 0, 0, 0), (120, .aload 0, 0, 0, 0), (121, .getfield 0, 21, 0, 25), (124, .invokevirtual 0, 285, 2, 21), (127, .ifCond .eq 0, 162, 0, 0), (130, .goto_w 0, 130, 0, 0)]
def B_Mo_scan_130 : List Ent := [(130, .aload 0, 0, 0, 0), (131, .aload 0, 0, 0, 0), (132, .getfield 0, 21, 0, 25), (135, .invokevirtual 0, 285, 2, 21), (138, .ifCond .eq 0, 154, 0, 0), (141, .aload 0, 0, 0, 0), (142, .dup, 0, 0, 0), (143, .getfield 0, 21, 0, 25), (146, .iconst 0, 0, 0, 1), (147, .iadd, 0, 0, 0), (148, .putfield 0, 21, 0, 25), (151, .goto 0, 130, 0, 0)]
def B_Mo_scan_154 : List Ent := [(154, .aload 0, 0, 0, 0), (155, .iconst 0, 0, 0, 2), (156, .putfield 0, 21, 0, 27), (159, .goto 0, 177, 0, 0)]
def B_Mo_scan_162 : List Ent := [(162, .aload 0, 0, 0, 0), (163, .dup, 0, 0, 0), (164, .getfield 0, 21, 0, 25), (167, .iconst 0, 0, 0, 1), (168, .iadd, 0, 0, 0), (169, .putfield 0, 21, 0, 25), (172, .aload 0, 0, 0, 0), (173, .iconst 0, 0, 0, 3), (174, .putfield 0, 21, 0, 27), (177, .goto_w 0, 177, 0, 0)]
def B_Mo_scan_177 : List Ent := [(177, .return_, 0, 0, 0)]
def lb_Mo_scan : List (Nat × List Ent) := [(0, B_Mo_scan_0), (10, B_Mo_scan_10), (36, B_Mo_scan_36), (49, B_Mo_scan_49), (76, B_Mo_scan_76), (87, B_Mo_scan_87), (111, B_Mo_scan_111), (119, B_Mo_scan_119), (130, B_Mo_scan_130), (154, B_Mo_scan_154), (162, B_Mo_scan_162), (177, B_Mo_scan_177)]
def B_Mo_startText_0 : List Ent := [(0, .aload 0, 0, 0, 0), (1, .iload 0, 1, 0, 0), (2, .putfield 0, 21, 0, 24), (5, .aload 0, 0, 0, 0), (6, .iconst 0, 0, 0, 0), (7, .putfield 0, 21, 0, 25), (10, .aload 0, 0, 0, 0), (11, .iconst 0, 0, 0, 0), (12, .putfield 0, 21, 0, 28), (15, .aload 0, 0, 0, 0), (16, .iconst 0, 0, 0, 0), (17, .putfield 0, 21, 0, 31), (20, .aload 0, 0, 0, 0), (21, .invokevirtual 0, 286, 1, 21), (24, .return_, 0, 0, 0)]
def lb_Mo_startText : List (Nat × List Ent) := [(0, B_Mo_startText_0)]
def B_Mo_finish_0 : List Ent := [(0, .aload 0, 0, 0, 0), (1, .iconst 0, 0, 0, 0), (2, .putfield 0, 21, 0, 23), (5, .aload 0, 0, 0, 0), (6, .aload 0, 0, 0, 0), (7, .getfield 0, 21, 0, 28), (10, .ifCond .ne 0, 17, 0, 0), (13, .iconst 0, 0, 0, (-1)), (14, .goto 0, 21, 0, 0)]
def B_Mo_finish_17 : List Ent := [(17, .aload 0, 0, 0, 0), (18, .getfield 0, 21, 0, 29), (21, .goto_w 0, 21, 0, 0)]
def B_Mo_finish_21 : List Ent := [(21, .putfield 0, 21, 0, 30), (24, .aload 0, 0, 0, 0), (25, .getfield 0, 21, 0, 28), (28, .ireturn, 0, 0, 0)]
def lb_Mo_finish : List (Nat × List Ent) := [(0, B_Mo_finish_0), (17, B_Mo_finish_17), (21, B_Mo_finish_21)]
def B_Mo_check_0 : List Ent := [(0, .iload 0, 1, 0, 0), (1, .ifCond .ne 0, 24, 0, 0), (4, .aload 0, 0, 0, 0), (5, .getfield 0, 21, 0, 28), (8, .ifCond .ne 0, 24, 0, 0), (11, .aload 0, 0, 0, 0), (12, .iload 0, 2, 0, 0), (13, .putfield 0, 21, 0, 28), (16, .aload 0, 0, 0, 0), (17, .aload 0, 0, 0, 0), (18, .getfield 0, 21, 0, 26), (21, .putfield 0, 21, 0, 29), (24, .goto_w 0, 24, 0, 0)]
def B_Mo_check_24 : List Ent := [(24, .return_, 0, 0, 0)]
def lb_Mo_check : List (Nat × List Ent) := [(0, B_Mo_check_0), (24, B_Mo_check_24)]
def B_Mo_advance_0 : List Ent := [(0, .aload 0, 0, 0, 0), (1, .getfield 0, 21, 0, 28), (4, .ifCond .ne 0, 11, 0, 0), (7, .aload 0, 0, 0, 0), (8, .invokevirtual 0, 286, 1, 21), (11, .goto_w 0, 11, 0, 0)]
def B_Mo_advance_11 : List Ent := [(11, .return_, 0, 0, 0)]
def lb_Mo_advance : List (Nat × List Ent) := [(0, B_Mo_advance_0), (11, B_Mo_advance_11)]
def B_Mo_isSymbol_0 : List Ent := [(0, .aload 0, 0, 0, 0), (1, .getfield 0, 21, 0, 28), (4, .ifCond .ne 0, 32, 0, 0), (7, .aload 0, 0, 0, 0), (8, .getfield 0, 21, 0, 27), (11, .iconst 0, 0, 0, 3), (12, .if_icmp .ne 0, 32, 0, 0), (15, .aload 0, 0, 0, 0), (16, .getfield 0, 21, 1, 22), (19, .aload 0, 0, 0, 0), (20, .getfield 0, 21, 0, 26), (23, .iaload, 0, 0, 0), (24, .iload 0, 1, 0, 0), (25, .if_icmp .ne 0, 32, 0, 0), (28, .iconst 0, 0, 0, 1), (29, .goto 0, 33, 0, 0)]
def B_Mo_isSymbol_32 : List Ent := [(32, .iconst 0, 0, 0, 0), (33, .goto_w 0, 33, 0, 0)]
def B_Mo_isSymbol_33 : List Ent := [(33, .ireturn, 0, 1, 0)]
def lb_Mo_isSymbol : List (Nat × List Ent) := [(0, B_Mo_isSymbol_0), (32, B_Mo_isSymbol_32), (33, B_Mo_isSymbol_33)]
def B_Mo_isWord_0 : List Ent := [(0, .aload 0, 0, 0, 0), (1, .getfield 0, 21, 0, 28), (4, .ifCond .ne 0, 35, 0, 0), (7, .aload 0, 0, 0, 0), (8, .getfield 0, 21, 0, 27), (11, .iconst 0, 0, 0, 1), (12, .if_icmp .ne 0, 35, 0, 0), (15, .aload 0, 1, 0, 0), (16, .invokevirtual 0, 1, 1, 22), (19, .aload 0, 0, 0, 0), (20, .getfield 0, 21, 0, 25), (23, .aload 0, 0, 0, 0), (24, .getfield 0, 21, 0, 26), (27, .isub, 0, 0, 0), (28, .if_icmp .ne 0, 35, 0, 0), (31, .iconst 0, 0, 0, 1), (32, .goto 0, 36, 0, 0)]
def B_Mo_isWord_35 : List Ent := [(35, .iconst 0, 0, 0, 0), (36, .goto_w 0, 36, 0, 0)]
def B_Mo_isWord_36 : List Ent := [(36, .istore 0, 2, 0, 0), (37, .iconst 0, 0, 0, 0), (38, .istore 0, 3, 0, 0), (39, .goto_w 0, 39, 0, 0)]
def B_Mo_isWord_39 : List Ent := [(39, .iload 0, 2, 0, 0), (40, .ifCond .eq 0, 82, 0, 0), (43, .iload 0, 3, 0, 0), (44, .aload 0, 1, 0, 0), (45, .invokevirtual 0, 1, 1, 22), (48, .if_icmp .ge 0, 82, 0, 0), (51, .aload 0, 1, 0, 0), (52, .iload 0, 3, 0, 0), (53, .invokevirtual 0, 2, 2, 22), (56, .aload 0, 0, 0, 0), (57, .getfield 0, 21, 1, 22), (60, .aload 0, 0, 0, 0), (61, .getfield 0, 21, 0, 26), (64, .iload 0, 3, 0, 0), (65, .iadd, 0, 0, 0), (66, .iaload, 0, 0, 0), (67, .if_icmp .ne 0, 74, 0, 0), (70, .iconst 0, 0, 0, 1), (71, .goto 0, 75, 0, 0)]
def B_Mo_isWord_74 : List Ent := [(74, .iconst 0, 0, 0, 0), (75, .goto_w 0, 75, 0, 0)]
def B_Mo_isWord_75 : List Ent := [(75, .istore 0, 2, 0, 0), (76, .iinc 0 0, 3, 0, 1), (79, .goto 0, 39, 0, 0)]
def B_Mo_isWord_82 : List Ent := [(82, .iload 0, 2, 0, 0), (83, .ireturn, 0, 1, 0)]
def lb_Mo_isWord : List (Nat × List Ent) := [(0, B_Mo_isWord_0), (35, B_Mo_isWord_35), (36, B_Mo_isWord_36), (39, B_Mo_isWord_39), (74, B_Mo_isWord_74), (75, B_Mo_isWord_75), (82, B_Mo_isWord_82)]
def B_Mo_accept_0 : List Ent := [(0, .aload 0, 0, 0, 0), (1, .aload 0, 1, 0, 0), (2, .invokevirtual 0, 292, 2, 21), (5, .istore 0, 2, 0, 0), (6, .iload 0, 2, 0, 0), (7, .ifCond .eq 0, 14, 0, 0), (10, .aload 0, 0, 0, 0), (11, .invokevirtual 0, 286, 1, 21), (14, .goto_w 0, 14, 0, 0)]
def B_Mo_accept_14 : List Ent := [(14, .iload 0, 2, 0, 0), (15, .ireturn, 0, 1, 0)]
def lb_Mo_accept : List (Nat × List Ent) := [(0, B_Mo_accept_0), (14, B_Mo_accept_14)]
def B_Mo_expect_0 : List Ent := [(0, .aload 0, 0, 0, 0), (1, .aload 0, 0, 0, 0), (2, .iload 0, 1, 0, 0), (3, .invokevirtual 0, 291, 2, 21), (6, .iconst 0, 0, 0, 1), (7, .invokevirtual 0, 289, 3, 21), (10, .aload 0, 0, 0, 0), (11, .invokevirtual 0, 290, 1, 21), (14, .return_, 0, 0, 0)]
def lb_Mo_expect : List (Nat × List Ent) := [(0, B_Mo_expect_0)]
def B_Mo_value_0 : List Ent := [(0, .iconst 0, 0, 0, 0), (1, .istore 0, 1, 0, 0), (2, .aload 0, 0, 0, 0), (3, .getfield 0, 21, 0, 26), (6, .istore 0, 2, 0, 0), (7, .goto_w 0, 7, 0, 0)]
def B_Mo_value_7 : List Ent := [(7, .iload 0, 2, 0, 0), (8, .aload 0, 0, 0, 0), (9, .getfield 0, 21, 0, 25), (12, .if_icmp .ge 0, 55, 0, 0), (15, .aload 0, 0, 0, 0), (16, .getfield 0, 21, 0, 27), (19, .iconst 0, 0, 0, 2), (20, .if_icmp .ne 0, 55, 0, 0), (23, .iload 0, 1, 0, 0), (24, .iconst 0, 0, 0, 9999999), (27, .if_icmp .le 0, 34, 0, 0), (30, .iload 0, 1, 0, 0), (31, .goto 0, 48, 0, 0)]
def B_Mo_value_34 : List Ent := [(34, .iconst 0, 0, 0, 10), (36, .iload 0, 1, 0, 0), (37, .imul, 0, 0, 0), (38, .aload 0, 0, 0, 0), (39, .getfield 0, 21, 1, 22), (42, .iload 0, 2, 0, 0), (43, .iaload, 0, 0, 0), (44, .iadd, 0, 0, 0), (45, .iconst 0, 0, 0, 48), (47, .isub, 0, 0, 0), (48, .goto_w 0, 48, 0, 0)]
def B_Mo_value_48 : List Ent := [(48, .istore 0, 1, 0, 0), (49, .iinc 0 0, 2, 0, 1), (52, .goto 0, 7, 0, 0)]
def B_Mo_value_55 : List Ent := [(55, .iload 0, 1, 0, 0), (56, .ireturn, 0, 0, 0)]
def lb_Mo_value : List (Nat × List Ent) := [(0, B_Mo_value_0), (7, B_Mo_value_7), (34, B_Mo_value_34), (48, B_Mo_value_48), (55, B_Mo_value_55)]
def B_Mo_look_0 : List Ent := [(0, .aload 0, 0, 0, 0), (1, .aload 0, 0, 0, 0), (2, .getfield 0, 21, 0, 27), (5, .iconst 0, 0, 0, 2), (6, .if_icmp .ne 0, 13, 0, 0), (9, .iconst 0, 0, 0, 1), (10, .goto 0, 14, 0, 0)]
def B_Mo_look_13 : List Ent := [(13, .iconst 0, 0, 0, 0), (14, .goto_w 0, 14, 0, 0)]
def B_Mo_look_14 : List Ent := [(14, .iconst 0, 0, 0, 1), (15, .invokevirtual 0, 289, 3, 21), (18, .aload 0, 0, 0, 0), (19, .invokevirtual 0, 295, 1, 21), (22, .istore 0, 3, 0, 0), (23, .aload 0, 0, 0, 0), (24, .iload 0, 3, 0, 0), (25, .iload 0, 1, 0, 0), (26, .iload 0, 2, 0, 0), (27, .invokestatic 0, 179, 3, 0), (30, .iconst 0, 0, 0, 2), (31, .invokevirtual 0, 289, 3, 21), (34, .aload 0, 0, 0, 0), (35, .getfield 0, 21, 0, 28), (38, .ifCond .ne 0, 45, 0, 0), (41, .iload 0, 3, 0, 0), (42, .goto 0, 46, 0, 0)]
def B_Mo_look_45 : List Ent := [(45, .iload 0, 1, 0, 0), (46, .goto_w 0, 46, 0, 0)]
def B_Mo_look_46 : List Ent := [(46, .ireturn, 0, 0, 0)]
def lb_Mo_look : List (Nat × List Ent) := [(0, B_Mo_look_0), (13, B_Mo_look_13), (14, B_Mo_look_14), (45, B_Mo_look_45), (46, B_Mo_look_46)]
def B_Mo_readNumber_0 : List Ent := [(0, .aload 0, 0, 0, 0), (1, .iload 0, 1, 0, 0), (2, .iload 0, 2, 0, 0), (3, .invokevirtual 0, 296, 3, 21), (6, .istore 0, 3, 0, 0), (7, .aload 0, 0, 0, 0), (8, .invokevirtual 0, 290, 1, 21), (11, .iload 0, 3, 0, 0), (12, .ireturn, 0, 0, 0)]
def lb_Mo_readNumber : List (Nat × List Ent) := [(0, B_Mo_readNumber_0)]
def B_Mo_isQuoted_0 : List Ent := [(0, .iconst 0, 0, 0, 0), (1, .istore 0, 1, 0, 0), (2, .goto_w 0, 2, 0, 0)]
def B_Mo_isQuoted_2 : List Ent := [(2, .iload 0, 1, 0, 0), (3, .aload 0, 0, 0, 0), (4, .getfield 0, 21, 1, 33), (7, .arraylength, 0, 0, 0), (8, .if_icmp .ge 0, 32, 0, 0), (11, .aload 0, 0, 0, 0), (12, .aload 0, 0, 0, 0), (13, .getfield 0, 21, 1, 33), (16, .iload 0, 1, 0, 0), (17, .aaload, 0, 0, 0), (18, .invokevirtual 0, 292, 2, 21), (21, .ifCond .eq 0, 26, 0, 0), (24, .iconst 0, 0, 0, 1), (25, .ireturn, 0, 1, 0)]
def B_Mo_isQuoted_26 : List Ent := [(26, .iinc 0 0, 1, 0, 1), (29, .goto 0, 2, 0, 0)]
def B_Mo_isQuoted_32 : List Ent := [(32, .iconst 0, 0, 0, 0), (33, .ireturn, 0, 1, 0)]
def lb_Mo_isQuoted : List (Nat × List Ent) := [(0, B_Mo_isQuoted_0), (2, B_Mo_isQuoted_2), (26, B_Mo_isQuoted_26), (32, B_Mo_isQuoted_32)]
def B_Mo_isNamed_0 : List Ent := [(0, .aload 0, 0, 0, 0), (1, .iload 0, 1, 0, 0), (2, .invokevirtual 0, 228, 2, 21), (5, .aload 0, 0, 0, 0), (6, .getfield 0, 21, 0, 25), (9, .aload 0, 0, 0, 0), (10, .getfield 0, 21, 0, 26), (13, .isub, 0, 0, 0), (14, .if_icmp .ne 0, 21, 0, 0), (17, .iconst 0, 0, 0, 1), (18, .goto 0, 22, 0, 0)]
def B_Mo_isNamed_21 : List Ent := [(21, .iconst 0, 0, 0, 0), (22, .goto_w 0, 22, 0, 0)]
def B_Mo_isNamed_22 : List Ent := [(22, .istore 0, 2, 0, 0), (23, .iconst 0, 0, 0, 0), (24, .istore 0, 3, 0, 0), (25, .goto_w 0, 25, 0, 0)]
def B_Mo_isNamed_25 : List Ent := [(25, .iload 0, 3, 0, 0), (26, .aload 0, 0, 0, 0), (27, .iload 0, 1, 0, 0), (28, .invokevirtual 0, 228, 2, 21), (31, .if_icmp .ge 0, 75, 0, 0), (34, .iload 0, 2, 0, 0), (35, .ifCond .eq 0, 75, 0, 0), (38, .aload 0, 0, 0, 0), (39, .getfield 0, 21, 1, 7), (42, .iconst 0, 0, 0, 6), (44, .iload 0, 1, 0, 0), (45, .imul, 0, 0, 0), (46, .iload 0, 3, 0, 0), (47, .iadd, 0, 0, 0), (48, .iaload, 0, 0, 0), (49, .aload 0, 0, 0, 0), (50, .getfield 0, 21, 1, 22), (53, .aload 0, 0, 0, 0), (54, .getfield 0, 21, 0, 26), (57, .iload 0, 3, 0, 0), (58, .iadd, 0, 0, 0), (59, .iaload, 0, 0, 0), (60, .if_icmp .ne 0, 67, 0, 0), (63, .iconst 0, 0, 0, 1), (64, .goto 0, 68, 0, 0)]
def B_Mo_isNamed_67 : List Ent := [(67, .iconst 0, 0, 0, 0), (68, .goto_w 0, 68, 0, 0)]
def B_Mo_isNamed_68 : List Ent := [(68, .istore 0, 2, 0, 0), (69, .iinc 0 0, 3, 0, 1), (72, .goto 0, 25, 0, 0)]
def B_Mo_isNamed_75 : List Ent := [(75, .iload 0, 2, 0, 0), (76, .ireturn, 0, 1, 0)]
def lb_Mo_isNamed : List (Nat × List Ent) := [(0, B_Mo_isNamed_0), (21, B_Mo_isNamed_21), (22, B_Mo_isNamed_22), (25, B_Mo_isNamed_25), (67, B_Mo_isNamed_67), (68, B_Mo_isNamed_68), (75, B_Mo_isNamed_75)]
def B_Mo_named_0 : List Ent := [(0, .iconst 0, 0, 0, 0), (1, .istore 0, 1, 0, 0), (2, .goto_w 0, 2, 0, 0)]
def B_Mo_named_2 : List Ent := [(2, .iload 0, 1, 0, 0), (3, .aload 0, 0, 0, 0), (4, .getfield 0, 21, 1, 6), (7, .iconst 0, 0, 0, 0), (8, .iaload, 0, 0, 0), (9, .if_icmp .ge 0, 43, 0, 0), (12, .aload 0, 0, 0, 0), (13, .getfield 0, 21, 0, 28), (16, .ifCond .ne 0, 43, 0, 0), (19, .aload 0, 0, 0, 0), (20, .getfield 0, 21, 0, 27), (23, .iconst 0, 0, 0, 1), (24, .if_icmp .ne 0, 43, 0, 0), (27, .aload 0, 0, 0, 0), (28, .iload 0, 1, 0, 0), (29, .invokevirtual 0, 299, 2, 21), (32, .ifCond .eq 0, 37, 0, 0), (35, .iload 0, 1, 0, 0), (36, .ireturn, 0, 0, 0)]
def B_Mo_named_37 : List Ent := [(37, .iinc 0 0, 1, 0, 1), (40, .goto 0, 2, 0, 0)]
def B_Mo_named_43 : List Ent := [(43, .iconst 0, 0, 0, (-1)), (44, .ireturn, 0, 0, 0)]
def lb_Mo_named : List (Nat × List Ent) := [(0, B_Mo_named_0), (2, B_Mo_named_2), (37, B_Mo_named_37), (43, B_Mo_named_43)]
def B_Mo_lookName_0 : List Ent := [(0, .aload 0, 0, 0, 0), (1, .aload 0, 0, 0, 0), (2, .getfield 0, 21, 0, 28), (5, .ifCond .ne 0, 16, 0, 0), (8, .aload 0, 0, 0, 0), (9, .getfield 0, 21, 0, 27), (12, .iconst 0, 0, 0, 1), (13, .if_icmp .ne 0, 20, 0, 0), (16, .goto_w 0, 16, 0, 0)]
def B_Mo_lookName_16 : List Ent := [(16, .iconst 0, 0, 0, 1), (17, .goto 0, 21, 0, 0)]
def B_Mo_lookName_20 : List Ent := [(20, .iconst 0, 0, 0, 0), (21, .goto_w 0, 21, 0, 0)]
def B_Mo_lookName_21 : List Ent := [(21, .iconst 0, 0, 0, 1), (22, .invokevirtual 0, 289, 3, 21), (25, .aload 0, 0, 0, 0), (26, .invokevirtual 0, 300, 1, 21), (29, .istore 0, 1, 0, 0), (30, .aload 0, 0, 0, 0), (31, .aload 0, 0, 0, 0), (32, .getfield 0, 21, 0, 28), (35, .ifCond .ne 0, 43, 0, 0), (38, .iload 0, 1, 0, 0), (39, .iconst 0, 0, 0, (-1)), (40, .if_icmp .eq 0, 47, 0, 0), (43, .goto_w 0, 43, 0, 0)]
def B_Mo_lookName_43 : List Ent := [(43, .iconst 0, 0, 0, 1), (44, .goto 0, 48, 0, 0)]
def B_Mo_lookName_47 : List Ent := [(47, .iconst 0, 0, 0, 0), (48, .goto_w 0, 48, 0, 0)]
def B_Mo_lookName_48 : List Ent := [(48, .iconst 0, 0, 0, 4), (49, .invokevirtual 0, 289, 3, 21), (52, .iload 0, 1, 0, 0), (53, .ireturn, 0, 0, 0)]
def lb_Mo_lookName : List (Nat × List Ent) := [(0, B_Mo_lookName_0), (16, B_Mo_lookName_16), (20, B_Mo_lookName_20), (21, B_Mo_lookName_21), (43, B_Mo_lookName_43), (47, B_Mo_lookName_47), (48, B_Mo_lookName_48)]
def B_Mo_emit_0 : List Ent := [(0, .aload 0, 0, 0, 0), (1, .getfield 0, 21, 0, 28), (4, .ifCond .ne 0, 27, 0, 0), (7, .aload 0, 0, 0, 0), (8, .getfield 0, 21, 1, 34), (11, .aload 0, 0, 0, 0), (12, .getfield 0, 21, 0, 35), (15, .iload 0, 1, 0, 0), (16, .iastore, 0, 0, 0), (17, .aload 0, 0, 0, 0), (18, .dup, 0, 0, 0), (19, .getfield 0, 21, 0, 35), (22, .iconst 0, 0, 0, 1), (23, .iadd, 0, 0, 0), (24, .putfield 0, 21, 0, 35), (27, .goto_w 0, 27, 0, 0)]
def B_Mo_emit_27 : List Ent := [(27, .return_, 0, 0, 0)]
def lb_Mo_emit : List (Nat × List Ent) := [(0, B_Mo_emit_0), (27, B_Mo_emit_27)]
def B_Mo_enter_0 : List Ent := [(0, .aload 0, 0, 0, 0), (1, .aload 0, 0, 0, 0), (2, .getfield 0, 21, 0, 31), (5, .iconst 0, 0, 0, 6), (7, .if_icmp .ge 0, 14, 0, 0), (10, .iconst 0, 0, 0, 1), (11, .goto 0, 15, 0, 0)]
def B_Mo_enter_14 : List Ent := [(14, .iconst 0, 0, 0, 0), (15, .goto_w 0, 15, 0, 0)]
def B_Mo_enter_15 : List Ent := [(15, .iconst 0, 0, 0, 7), (17, .invokevirtual 0, 289, 3, 21), (20, .aload 0, 0, 0, 0), (21, .dup, 0, 0, 0), (22, .getfield 0, 21, 0, 31), (25, .iconst 0, 0, 0, 1), (26, .iadd, 0, 0, 0), (27, .putfield 0, 21, 0, 31), (30, .aload 0, 0, 0, 0), (31, .invokevirtual 0, 290, 1, 21), (34, .return_, 0, 0, 0)]
def lb_Mo_enter : List (Nat × List Ent) := [(0, B_Mo_enter_0), (14, B_Mo_enter_14), (15, B_Mo_enter_15)]
def B_Mo_readList_0 : List Ent := [(0, .aload 0, 0, 0, 0), (1, .iconst 0, 0, 0, 40), (3, .invokevirtual 0, 294, 2, 21), (6, .iconst 0, 0, 0, 0), (7, .istore 0, 1, 0, 0), (8, .goto_w 0, 8, 0, 0)]
def B_Mo_readList_8 : List Ent := [(8, .aload 0, 0, 0, 0), (9, .invokevirtual 0, 301, 1, 21), (12, .istore 0, 2, 0, 0), (13, .iload 0, 1, 0, 0), (14, .aload 0, 0, 0, 0), (15, .getfield 0, 21, 0, 28), (18, .ifCond .ne 0, 27, 0, 0), (21, .iconst 0, 0, 0, 1), (22, .iload 0, 2, 0, 0), (23, .ishl, 0, 0, 0), (24, .goto 0, 28, 0, 0)]
def B_Mo_readList_27 : List Ent := [(27, .iconst 0, 0, 0, 0), (28, .goto_w 0, 28, 0, 0)]
def B_Mo_readList_28 : List Ent := [(28, .ior, 0, 0, 0), (29, .istore 0, 1, 0, 0), (30, .aload 0, 0, 0, 0), (31, .invokevirtual 0, 290, 1, 21), (34, .aload 0, 0, 0, 0), (35, .getfield 0, 21, 0, 28), (38, .ifCond .ne 0, 50, 0, 0), (41, .aload 0, 0, 0, 0), (42, .iconst 0, 0, 0, 41), (44, .invokevirtual 0, 291, 2, 21), (47, .ifCond .eq 0, 8, 0, 0), (50, .goto_w 0, 50, 0, 0)]
def B_Mo_readList_50 : List Ent := [(50, .aload 0, 0, 0, 0), (51, .iconst 0, 0, 0, 41), (53, .invokevirtual 0, 294, 2, 21), (56, .iload 0, 1, 0, 0), (57, .ireturn, 0, 0, 0)]
def lb_Mo_readList : List (Nat × List Ent) := [(0, B_Mo_readList_0), (8, B_Mo_readList_8), (27, B_Mo_readList_27), (28, B_Mo_readList_28), (50, B_Mo_readList_50)]
def B_Mo_compileCount_0 : List Ent := [(0, .aload 0, 0, 0, 0), (1, .invokevirtual 0, 290, 1, 21), (4, .aload 0, 0, 0, 0), (5, .iconst 0, 0, 0, 0), (6, .iconst 0, 0, 0, 10), (8, .invokevirtual 0, 297, 3, 21), (11, .istore 0, 2, 0, 0), (12, .aload 0, 0, 0, 0), (13, .invokevirtual 0, 304, 1, 21), (16, .istore 0, 3, 0, 0), (17, .aload 0, 0, 0, 0), (18, .iload 0, 1, 0, 0), (19, .iconst 0, 0, 0, 1048576), (21, .imul, 0, 0, 0), (22, .iload 0, 2, 0, 0), (23, .iconst 0, 0, 0, 1024), (26, .imul, 0, 0, 0), (27, .iadd, 0, 0, 0), (28, .iload 0, 3, 0, 0), (29, .iadd, 0, 0, 0), (30, .invokevirtual 0, 302, 2, 21), (33, .return_, 0, 0, 0)]
def lb_Mo_compileCount : List (Nat × List Ent) := [(0, B_Mo_compileCount_0)]
def B_Mo_compileList_0 : List Ent := [(0, .aload 0, 0, 0, 0), (1, .invokevirtual 0, 290, 1, 21), (4, .aload 0, 0, 0, 0), (5, .iload 0, 1, 0, 0), (6, .iconst 0, 0, 0, 1048576), (8, .imul, 0, 0, 0), (9, .aload 0, 0, 0, 0), (10, .invokevirtual 0, 304, 1, 21), (13, .iadd, 0, 0, 0), (14, .invokevirtual 0, 302, 2, 21), (17, .return_, 0, 0, 0)]
def lb_Mo_compileList : List (Nat × List Ent) := [(0, B_Mo_compileList_0)]
def B_Mo_compileComparison_0 : List Ent := [(0, .aload 0, 0, 0, 0), (1, .invokevirtual 0, 290, 1, 21), (4, .aload 0, 0, 0, 0), (5, .iconst 0, 0, 0, 60), (7, .invokevirtual 0, 291, 2, 21), (10, .ifCond .eq 0, 17, 0, 0), (13, .iconst 0, 0, 0, 5), (14, .goto 0, 33, 0, 0)]
def B_Mo_compileComparison_17 : List Ent := [(17, .aload 0, 0, 0, 0), (18, .iconst 0, 0, 0, 61), (20, .invokevirtual 0, 291, 2, 21), (23, .ifCond .eq 0, 31, 0, 0), (26, .iconst 0, 0, 0, 6), (28, .goto 0, 33, 0, 0)]
def B_Mo_compileComparison_31 : List Ent := [(31, .iconst 0, 0, 0, 7), (33, .goto_w 0, 33, 0, 0)]
def B_Mo_compileComparison_33 : List Ent := [(33, .istore 0, 2, 0, 0), (34, .aload 0, 0, 0, 0), (35, .iload 0, 2, 0, 0), (36, .iconst 0, 0, 0, 7), (38, .if_icmp .ne 0, 50, 0, 0), (41, .aload 0, 0, 0, 0), (42, .iconst 0, 0, 0, 62), (44, .invokevirtual 0, 291, 2, 21), (47, .ifCond .eq 0, 54, 0, 0), (50, .goto_w 0, 50, 0, 0)]
def B_Mo_compileComparison_50 : List Ent := [(50, .iconst 0, 0, 0, 1), (51, .goto 0, 55, 0, 0)]
def B_Mo_compileComparison_54 : List Ent := [(54, .iconst 0, 0, 0, 0), (55, .goto_w 0, 55, 0, 0)]
def B_Mo_compileComparison_55 : List Ent := [(55, .iconst 0, 0, 0, 1), (56, .invokevirtual 0, 289, 3, 21), (59, .aload 0, 0, 0, 0), (60, .invokevirtual 0, 290, 1, 21), (63, .aload 0, 0, 0, 0), (64, .iload 0, 2, 0, 0), (65, .iload 0, 1, 0, 0), (66, .iadd, 0, 0, 0), (67, .iconst 0, 0, 0, 1048576), (69, .imul, 0, 0, 0), (70, .aload 0, 0, 0, 0), (71, .iconst 0, 0, 0, 0), (72, .iconst 0, 0, 0, 9999), (75, .invokevirtual 0, 297, 3, 21), (78, .iadd, 0, 0, 0), (79, .invokevirtual 0, 302, 2, 21), (82, .return_, 0, 0, 0)]
def lb_Mo_compileComparison : List (Nat × List Ent) := [(0, B_Mo_compileComparison_0), (17, B_Mo_compileComparison_17), (31, B_Mo_compileComparison_31), (33, B_Mo_compileComparison_33), (50, B_Mo_compileComparison_50), (54, B_Mo_compileComparison_54), (55, B_Mo_compileComparison_55)]
def B_Mo_compileName_0 : List Ent := [(0, .aload 0, 0, 0, 0), (1, .aload 0, 0, 0, 0), (2, .getfield 0, 21, 0, 28), (5, .ifCond .ne 0, 23, 0, 0), (8, .aload 0, 0, 0, 0), (9, .getfield 0, 21, 0, 27), (12, .iconst 0, 0, 0, 1), (13, .if_icmp .ne 0, 27, 0, 0), (16, .aload 0, 0, 0, 0), (17, .invokevirtual 0, 298, 1, 21), (20, .ifCond .ne 0, 27, 0, 0), (23, .goto_w 0, 23, 0, 0)]
def B_Mo_compileName_23 : List Ent := [(23, .iconst 0, 0, 0, 1), (24, .goto 0, 28, 0, 0)]
def B_Mo_compileName_27 : List Ent := [(27, .iconst 0, 0, 0, 0), (28, .goto_w 0, 28, 0, 0)]
def B_Mo_compileName_28 : List Ent := [(28, .iconst 0, 0, 0, 1), (29, .invokevirtual 0, 289, 3, 21), (32, .aload 0, 0, 0, 0), (33, .invokevirtual 0, 301, 1, 21), (36, .istore 0, 1, 0, 0), (37, .aload 0, 0, 0, 0), (38, .invokevirtual 0, 290, 1, 21), (41, .aload 0, 0, 0, 0), (42, .iconst 0, 0, 0, 0), (43, .aload 0, 0, 0, 0), (44, .getfield 0, 21, 0, 28), (47, .ifCond .ne 0, 56, 0, 0), (50, .iconst 0, 0, 0, 1), (51, .iload 0, 1, 0, 0), (52, .ishl, 0, 0, 0), (53, .goto 0, 57, 0, 0)]
def B_Mo_compileName_56 : List Ent := [(56, .iconst 0, 0, 0, 0), (57, .goto_w 0, 57, 0, 0)]
def B_Mo_compileName_57 : List Ent := [(57, .iadd, 0, 0, 0), (58, .invokevirtual 0, 302, 2, 21), (61, .return_, 0, 0, 0)]
def lb_Mo_compileName : List (Nat × List Ent) := [(0, B_Mo_compileName_0), (23, B_Mo_compileName_23), (27, B_Mo_compileName_27), (28, B_Mo_compileName_28), (56, B_Mo_compileName_56), (57, B_Mo_compileName_57)]
def B_Mo_compileFactor_0 : List Ent := [(0, .aload 0, 0, 0, 0), (1, .getfield 0, 21, 0, 28), (4, .ifCond .eq 0, 8, 0, 0), (7, .return_, 0, 0, 0)]
def B_Mo_compileFactor_8 : List Ent := [(8, .aload 0, 0, 0, 0), (9, .ldc 0, 23, 0, 0), (11, .invokevirtual 0, 292, 2, 21), (14, .ifCond .eq 0, 43, 0, 0), (17, .aload 0, 0, 0, 0), (18, .invokevirtual 0, 303, 1, 21), (21, .aload 0, 0, 0, 0), (22, .invokevirtual 0, 309, 1, 21), (25, .aload 0, 0, 0, 0), (26, .iconst 0, 0, 0, (-1)), (27, .invokevirtual 0, 302, 2, 21), (30, .aload 0, 0, 0, 0), (31, .dup, 0, 0, 0), (32, .getfield 0, 21, 0, 31), (35, .iconst 0, 0, 0, 1), (36, .isub, 0, 0, 0), (37, .putfield 0, 21, 0, 31), (40, .goto 0, 83, 0, 0)]
def B_Mo_compileFactor_43 : List Ent := [(43, .aload 0, 0, 0, 0), (44, .iconst 0, 0, 0, 40), (46, .invokevirtual 0, 291, 2, 21), (49, .ifCond .eq 0, 79, 0, 0), (52, .aload 0, 0, 0, 0), (53, .invokevirtual 0, 303, 1, 21), (56, .aload 0, 0, 0, 0), (57, .invokevirtual 0, 312, 1, 21), (60, .aload 0, 0, 0, 0), (61, .iconst 0, 0, 0, 41), (63, .invokevirtual 0, 294, 2, 21), (66, .aload 0, 0, 0, 0), (67, .dup, 0, 0, 0), (68, .getfield 0, 21, 0, 31), (71, .iconst 0, 0, 0, 1), (72, .isub, 0, 0, 0), (73, .putfield 0, 21, 0, 31), (76, .goto 0, 83, 0, 0)]
def B_Mo_compileFactor_79 : List Ent := [(79, .aload 0, 0, 0, 0), (80, .invokevirtual 0, 310, 1, 21), (83, .goto_w 0, 83, 0, 0)]
def B_Mo_compileFactor_83 : List Ent := [(83, .return_, 0, 0, 0)]
def lb_Mo_compileFactor : List (Nat × List Ent) := [(0, B_Mo_compileFactor_0), (8, B_Mo_compileFactor_8), (43, B_Mo_compileFactor_43), (79, B_Mo_compileFactor_79), (83, B_Mo_compileFactor_83)]
def B_Mo_compileSimple_0 : List Ent := [(0, .aload 0, 0, 0, 0), (1, .ldc 0, 24, 0, 0), (3, .invokevirtual 0, 292, 2, 21), (6, .ifCond .eq 0, 17, 0, 0), (9, .aload 0, 0, 0, 0), (10, .iconst 0, 0, 0, 0), (11, .invokevirtual 0, 306, 2, 21), (14, .goto 0, 123, 0, 0)]
def B_Mo_compileSimple_17 : List Ent := [(17, .aload 0, 0, 0, 0), (18, .ldc 0, 25, 0, 0), (20, .invokevirtual 0, 292, 2, 21), (23, .ifCond .eq 0, 34, 0, 0), (26, .aload 0, 0, 0, 0), (27, .iconst 0, 0, 0, 1), (28, .invokevirtual 0, 306, 2, 21), (31, .goto 0, 123, 0, 0)]
def B_Mo_compileSimple_34 : List Ent := [(34, .aload 0, 0, 0, 0), (35, .ldc 0, 26, 0, 0), (37, .invokevirtual 0, 292, 2, 21), (40, .ifCond .eq 0, 51, 0, 0), (43, .aload 0, 0, 0, 0), (44, .iconst 0, 0, 0, 2), (45, .invokevirtual 0, 306, 2, 21), (48, .goto 0, 123, 0, 0)]
def B_Mo_compileSimple_51 : List Ent := [(51, .aload 0, 0, 0, 0), (52, .ldc 0, 27, 0, 0), (54, .invokevirtual 0, 292, 2, 21), (57, .ifCond .eq 0, 68, 0, 0), (60, .aload 0, 0, 0, 0), (61, .iconst 0, 0, 0, 3), (62, .invokevirtual 0, 305, 2, 21), (65, .goto 0, 123, 0, 0)]
def B_Mo_compileSimple_68 : List Ent := [(68, .aload 0, 0, 0, 0), (69, .ldc 0, 28, 0, 0), (71, .invokevirtual 0, 292, 2, 21), (74, .ifCond .eq 0, 85, 0, 0), (77, .aload 0, 0, 0, 0), (78, .iconst 0, 0, 0, 4), (79, .invokevirtual 0, 305, 2, 21), (82, .goto 0, 123, 0, 0)]
def B_Mo_compileSimple_85 : List Ent := [(85, .aload 0, 0, 0, 0), (86, .ldc 0, 29, 0, 0), (88, .invokevirtual 0, 292, 2, 21), (91, .ifCond .eq 0, 102, 0, 0), (94, .aload 0, 0, 0, 0), (95, .iconst 0, 0, 0, 0), (96, .invokevirtual 0, 307, 2, 21), (99, .goto 0, 123, 0, 0)]
def B_Mo_compileSimple_102 : List Ent := [(102, .aload 0, 0, 0, 0), (103, .ldc 0, 30, 0, 0), (105, .invokevirtual 0, 292, 2, 21), (108, .ifCond .eq 0, 119, 0, 0), (111, .aload 0, 0, 0, 0), (112, .iconst 0, 0, 0, 3), (113, .invokevirtual 0, 307, 2, 21), (116, .goto 0, 123, 0, 0)]
def B_Mo_compileSimple_119 : List Ent := [(119, .aload 0, 0, 0, 0), (120, .invokevirtual 0, 308, 1, 21), (123, .goto_w 0, 123, 0, 0)]
def B_Mo_compileSimple_123 : List Ent := [(123, .return_, 0, 0, 0)]
def lb_Mo_compileSimple : List (Nat × List Ent) := [(0, B_Mo_compileSimple_0), (17, B_Mo_compileSimple_17), (34, B_Mo_compileSimple_34), (51, B_Mo_compileSimple_51), (68, B_Mo_compileSimple_68), (85, B_Mo_compileSimple_85), (102, B_Mo_compileSimple_102), (119, B_Mo_compileSimple_119), (123, B_Mo_compileSimple_123)]
def B_Mo_compileConjunction_0 : List Ent := [(0, .aload 0, 0, 0, 0), (1, .invokevirtual 0, 309, 1, 21), (4, .goto_w 0, 4, 0, 0)]
def B_Mo_compileConjunction_4 : List Ent := [(4, .aload 0, 0, 0, 0), (5, .ldc 0, 22, 0, 0), (7, .invokevirtual 0, 293, 2, 21), (10, .ifCond .eq 0, 26, 0, 0), (13, .aload 0, 0, 0, 0), (14, .invokevirtual 0, 309, 1, 21), (17, .aload 0, 0, 0, 0), (18, .iconst 0, 0, 0, (-2)), (20, .invokevirtual 0, 302, 2, 21), (23, .goto 0, 4, 0, 0)]
def B_Mo_compileConjunction_26 : List Ent := [(26, .return_, 0, 0, 0)]
def lb_Mo_compileConjunction : List (Nat × List Ent) := [(0, B_Mo_compileConjunction_0), (4, B_Mo_compileConjunction_4), (26, B_Mo_compileConjunction_26)]
def B_Mo_compileTest_0 : List Ent := [(0, .aload 0, 0, 0, 0), (1, .invokevirtual 0, 311, 1, 21), (4, .goto_w 0, 4, 0, 0)]
def B_Mo_compileTest_4 : List Ent := [(4, .aload 0, 0, 0, 0), (5, .ldc 0, 21, 0, 0), (7, .invokevirtual 0, 293, 2, 21), (10, .ifCond .eq 0, 26, 0, 0), (13, .aload 0, 0, 0, 0), (14, .invokevirtual 0, 311, 1, 21), (17, .aload 0, 0, 0, 0), (18, .iconst 0, 0, 0, (-3)), (20, .invokevirtual 0, 302, 2, 21), (23, .goto 0, 4, 0, 0)]
def B_Mo_compileTest_26 : List Ent := [(26, .return_, 0, 0, 0)]
def lb_Mo_compileTest : List (Nat × List Ent) := [(0, B_Mo_compileTest_0), (4, B_Mo_compileTest_4), (26, B_Mo_compileTest_26)]
def B_Mo_many_0 : List Ent := [(0, .aload 0, 0, 0, 0), (1, .iconst 0, 0, 0, 0), (2, .putfield 0, 21, 0, 9), (5, .iload 0, 1, 0, 0), (6, .iconst 0, 0, 0, 0), (7, .aload 0, 0, 0, 0), (8, .getfield 0, 21, 0, 23), (11, .iconst 0, 0, 0, 200), (14, .invokestatic 0, 181, 2, 0), (17, .invokestatic 0, 179, 3, 0), (20, .ifCond .ne 0, 29, 0, 0), (23, .aload 0, 0, 0, 0), (24, .iconst 0, 0, 0, 1), (25, .invokevirtual 0, 178, 2, 21), (28, .ireturn, 0, 0, 0)]
def B_Mo_many_29 : List Ent := [(29, .aload 0, 0, 0, 0), (30, .iconst 0, 0, 0, 0), (31, .putfield 0, 21, 0, 35), (34, .aload 0, 0, 0, 0), (35, .iload 0, 1, 0, 0), (36, .invokevirtual 0, 287, 2, 21), (39, .aload 0, 0, 0, 0), (40, .invokevirtual 0, 312, 1, 21), (43, .aload 0, 0, 0, 0), (44, .aload 0, 0, 0, 0), (45, .getfield 0, 21, 0, 28), (48, .ifCond .ne 0, 58, 0, 0), (51, .aload 0, 0, 0, 0), (52, .getfield 0, 21, 0, 27), (55, .ifCond .ne 0, 62, 0, 0), (58, .goto_w 0, 58, 0, 0)]
def B_Mo_many_58 : List Ent := [(58, .iconst 0, 0, 0, 1), (59, .goto 0, 63, 0, 0)]
def B_Mo_many_62 : List Ent := [(62, .iconst 0, 0, 0, 0), (63, .goto_w 0, 63, 0, 0)]
def B_Mo_many_63 : List Ent := [(63, .iconst 0, 0, 0, 1), (64, .invokevirtual 0, 289, 3, 21), (67, .aload 0, 0, 0, 0), (68, .invokevirtual 0, 288, 1, 21), (71, .ifCond .eq 0, 83, 0, 0), (74, .iconst 0, 0, 0, (-1000000)), (77, .aload 0, 0, 0, 0), (78, .getfield 0, 21, 0, 28), (81, .isub, 0, 0, 0), (82, .ireturn, 0, 0, 0)]
def B_Mo_many_83 : List Ent := [(83, .aload 0, 0, 0, 0), (84, .invokevirtual 0, 205, 1, 21), (87, .istore 0, 3, 0, 0), (88, .iconst 0, 0, 0, 0), (89, .istore 0, 4, 0, 0), (91, .iconst 0, 0, 0, 0), (92, .istore 0, 5, 0, 0), (94, .goto_w 0, 94, 0, 0)]
def B_Mo_many_94 : List Ent := [(94, .iload 0, 5, 0, 0), (96, .aload 0, 0, 0, 0), (97, .getfield 0, 21, 0, 13), (100, .if_icmp .ge 0, 151, 0, 0), (103, .iload 0, 4, 0, 0), (105, .aload 0, 0, 0, 0), (106, .getfield 0, 21, 1, 15), (109, .iload 0, 5, 0, 0), (111, .baload, 0, 0, 0), (112, .ifCond .ne 0, 119, 0, 0), (115, .iload 0, 2, 0, 0), (116, .ifCond .ne 0, 141, 0, 0), (119, .goto_w 0, 119, 0, 0)]
def B_Mo_many_119 : List Ent := [(119, .aload 0, 0, 0, 0), (120, .aload 0, 0, 0, 0), (121, .getfield 0, 21, 1, 34), (124, .iconst 0, 0, 0, 0), (125, .aload 0, 0, 0, 0), (126, .getfield 0, 21, 0, 35), (129, .iload 0, 5, 0, 0), (131, .invokevirtual 0, 197, 5, 21), (134, .ifCond .eq 0, 141, 0, 0), (137, .iconst 0, 0, 0, 1), (138, .goto 0, 142, 0, 0)]
def B_Mo_many_141 : List Ent := [(141, .iconst 0, 0, 0, 0), (142, .goto_w 0, 142, 0, 0)]
def B_Mo_many_142 : List Ent := [(142, .iadd, 0, 0, 0), (143, .istore 0, 4, 0, 0), (145, .iinc 0 0, 5, 0, 1), (148, .goto 0, 94, 0, 0)]
def B_Mo_many_151 : List Ent := [(151, .iload 0, 4, 0, 0), (153, .ireturn, 0, 0, 0)]
def lb_Mo_many : List (Nat × List Ent) := [(0, B_Mo_many_0), (29, B_Mo_many_29), (58, B_Mo_many_58), (62, B_Mo_many_62), (63, B_Mo_many_63), (83, B_Mo_many_83), (94, B_Mo_many_94), (119, B_Mo_many_119), (141, B_Mo_many_141), (142, B_Mo_many_142), (151, B_Mo_many_151)]
def B_Mo_newRule_0 : List Ent := [(0, .aload 0, 0, 0, 0), (1, .getfield 0, 21, 1, 6), (4, .iconst 0, 0, 0, 6), (6, .iaload, 0, 0, 0), (7, .istore 0, 2, 0, 0), (8, .aload 0, 0, 0, 0), (9, .getfield 0, 21, 1, 6), (12, .iconst 0, 0, 0, 6), (14, .dup2, 0, 0, 0), (15, .iaload, 0, 0, 0), (16, .iconst 0, 0, 0, 1), (17, .iadd, 0, 0, 0), (18, .iastore, 0, 0, 0), (19, .aload 0, 0, 0, 0), (20, .iload 0, 2, 0, 0), (21, .iconst 0, 0, 0, 0), (22, .iconst 0, 0, 0, 1), (23, .invokevirtual 0, 199, 4, 21), (26, .aload 0, 0, 0, 0), (27, .iload 0, 2, 0, 0), (28, .iconst 0, 0, 0, 1), (29, .iload 0, 1, 0, 0), (30, .invokevirtual 0, 199, 4, 21), (33, .aload 0, 0, 0, 0), (34, .iload 0, 2, 0, 0), (35, .iconst 0, 0, 0, 2), (36, .aload 0, 0, 0, 0), (37, .getfield 0, 21, 0, 35), (40, .invokevirtual 0, 199, 4, 21), (43, .iconst 0, 0, 0, 0), (44, .istore 0, 3, 0, 0), (45, .goto_w 0, 45, 0, 0)]
def B_Mo_newRule_45 : List Ent := [(45, .iload 0, 3, 0, 0), (46, .aload 0, 0, 0, 0), (47, .getfield 0, 21, 0, 35), (50, .if_icmp .ge 0, 73, 0, 0), (53, .aload 0, 0, 0, 0), (54, .iload 0, 2, 0, 0), (55, .iconst 0, 0, 0, 3), (56, .iload 0, 3, 0, 0), (57, .iadd, 0, 0, 0), (58, .aload 0, 0, 0, 0), (59, .getfield 0, 21, 1, 34), (62, .iload 0, 3, 0, 0), (63, .iaload, 0, 0, 0), (64, .invokevirtual 0, 199, 4, 21), (67, .iinc 0 0, 3, 0, 1), (70, .goto 0, 45, 0, 0)]
def B_Mo_newRule_73 : List Ent := [(73, .return_, 0, 0, 0)]
def lb_Mo_newRule : List (Nat × List Ent) := [(0, B_Mo_newRule_0), (45, B_Mo_newRule_45), (73, B_Mo_newRule_73)]
def B_Mo_addRule_0 : List Ent := [(0, .aload 0, 0, 0, 0), (1, .iconst 0, 0, 0, 0), (2, .putfield 0, 21, 0, 9), (5, .iload 0, 1, 0, 0), (6, .iconst 0, 0, 0, 0), (7, .aload 0, 0, 0, 0), (8, .getfield 0, 21, 0, 23), (11, .invokestatic 0, 179, 3, 0), (14, .ifCond .ne 0, 23, 0, 0), (17, .aload 0, 0, 0, 0), (18, .iconst 0, 0, 0, 1), (19, .invokevirtual 0, 178, 2, 21), (22, .ireturn, 0, 0, 0)]
def B_Mo_addRule_23 : List Ent := [(23, .aload 0, 0, 0, 0), (24, .getfield 0, 21, 1, 6), (27, .iconst 0, 0, 0, 6), (29, .iaload, 0, 0, 0), (30, .iconst 0, 0, 0, 10), (32, .if_icmp .ne 0, 38, 0, 0), (35, .iconst 0, 0, 0, (-2)), (37, .ireturn, 0, 0, 0)]
def B_Mo_addRule_38 : List Ent := [(38, .aload 0, 0, 0, 0), (39, .iconst 0, 0, 0, 0), (40, .putfield 0, 21, 0, 35), (43, .aload 0, 0, 0, 0), (44, .iload 0, 1, 0, 0), (45, .invokevirtual 0, 287, 2, 21), (48, .aload 0, 0, 0, 0), (49, .getfield 0, 21, 0, 32), (52, .istore 0, 2, 0, 0), (53, .aload 0, 0, 0, 0), (54, .invokevirtual 0, 312, 1, 21), (57, .aload 0, 0, 0, 0), (58, .aload 0, 0, 0, 0), (59, .getfield 0, 21, 0, 28), (62, .ifCond .ne 0, 72, 0, 0), (65, .aload 0, 0, 0, 0), (66, .getfield 0, 21, 0, 27), (69, .ifCond .ne 0, 76, 0, 0), (72, .goto_w 0, 72, 0, 0)]
def B_Mo_addRule_72 : List Ent := [(72, .iconst 0, 0, 0, 1), (73, .goto 0, 77, 0, 0)]
def B_Mo_addRule_76 : List Ent := [(76, .iconst 0, 0, 0, 0), (77, .goto_w 0, 77, 0, 0)]
def B_Mo_addRule_77 : List Ent := [(77, .iconst 0, 0, 0, 1), (78, .invokevirtual 0, 289, 3, 21), (81, .aload 0, 0, 0, 0), (82, .invokevirtual 0, 288, 1, 21), (85, .ifCond .eq 0, 96, 0, 0), (88, .iconst 0, 0, 0, (-10)), (90, .aload 0, 0, 0, 0), (91, .getfield 0, 21, 0, 28), (94, .isub, 0, 0, 0), (95, .ireturn, 0, 0, 0)]
def B_Mo_addRule_96 : List Ent := [(96, .aload 0, 0, 0, 0), (97, .invokevirtual 0, 276, 1, 21), (100, .aload 0, 0, 0, 0), (101, .aload 0, 0, 0, 0), (102, .getfield 0, 21, 0, 32), (105, .iload 0, 2, 0, 0), (106, .isub, 0, 0, 0), (107, .invokevirtual 0, 314, 2, 21), (110, .aload 0, 0, 0, 0), (111, .getfield 0, 21, 1, 6), (114, .iconst 0, 0, 0, 6), (116, .iaload, 0, 0, 0), (117, .iconst 0, 0, 0, 1), (118, .isub, 0, 0, 0), (119, .ireturn, 0, 0, 0)]
def lb_Mo_addRule : List (Nat × List Ent) := [(0, B_Mo_addRule_0), (23, B_Mo_addRule_23), (38, B_Mo_addRule_38), (72, B_Mo_addRule_72), (76, B_Mo_addRule_76), (77, B_Mo_addRule_77), (96, B_Mo_addRule_96)]
def B_Mo_readThing_0 : List Ent := [(0, .aload 0, 0, 0, 0), (1, .aload 0, 0, 0, 0), (2, .getfield 0, 21, 1, 6), (5, .iconst 0, 0, 0, 0), (6, .iaload, 0, 0, 0), (7, .iconst 0, 0, 0, 10), (9, .if_icmp .ge 0, 16, 0, 0), (12, .iconst 0, 0, 0, 1), (13, .goto 0, 17, 0, 0)]
def B_Mo_readThing_16 : List Ent := [(16, .iconst 0, 0, 0, 0), (17, .goto_w 0, 17, 0, 0)]
def B_Mo_readThing_17 : List Ent := [(17, .iconst 0, 0, 0, 5), (18, .invokevirtual 0, 289, 3, 21), (21, .aload 0, 0, 0, 0), (22, .invokevirtual 0, 290, 1, 21), (25, .aload 0, 0, 0, 0), (26, .aload 0, 0, 0, 0), (27, .getfield 0, 21, 0, 28), (30, .ifCond .ne 0, 41, 0, 0), (33, .aload 0, 0, 0, 0), (34, .getfield 0, 21, 0, 27), (37, .iconst 0, 0, 0, 1), (38, .if_icmp .ne 0, 45, 0, 0), (41, .goto_w 0, 41, 0, 0)]
def B_Mo_readThing_41 : List Ent := [(41, .iconst 0, 0, 0, 1), (42, .goto 0, 46, 0, 0)]
def B_Mo_readThing_45 : List Ent := [(45, .iconst 0, 0, 0, 0), (46, .goto_w 0, 46, 0, 0)]
def B_Mo_readThing_46 : List Ent := [(46, .iconst 0, 0, 0, 1), (47, .invokevirtual 0, 289, 3, 21), (50, .aload 0, 0, 0, 0), (51, .getfield 0, 21, 0, 28), (54, .ifCond .ne 0, 69, 0, 0), (57, .aload 0, 0, 0, 0), (58, .getfield 0, 21, 0, 25), (61, .aload 0, 0, 0, 0), (62, .getfield 0, 21, 0, 26), (65, .isub, 0, 0, 0), (66, .goto 0, 70, 0, 0)]
def B_Mo_readThing_69 : List Ent := [(69, .iconst 0, 0, 0, 0), (70, .goto_w 0, 70, 0, 0)]
def B_Mo_readThing_70 : List Ent := [(70, .istore 0, 1, 0, 0), (71, .aload 0, 0, 0, 0), (72, .aload 0, 0, 0, 0), (73, .getfield 0, 21, 0, 28), (76, .ifCond .ne 0, 100, 0, 0), (79, .iload 0, 1, 0, 0), (80, .iconst 0, 0, 0, 6), (82, .if_icmp .gt 0, 104, 0, 0), (85, .aload 0, 0, 0, 0), (86, .invokevirtual 0, 298, 1, 21), (89, .ifCond .ne 0, 104, 0, 0), (92, .aload 0, 0, 0, 0), (93, .invokevirtual 0, 300, 1, 21), (96, .iconst 0, 0, 0, (-1)), (97, .if_icmp .ne 0, 104, 0, 0), (100, .goto_w 0, 100, 0, 0)]
def B_Mo_readThing_100 : List Ent := [(100, .iconst 0, 0, 0, 1), (101, .goto 0, 105, 0, 0)]
def B_Mo_readThing_104 : List Ent := [(104, .iconst 0, 0, 0, 0), (105, .goto_w 0, 105, 0, 0)]
def B_Mo_readThing_105 : List Ent := [(105, .iconst 0, 0, 0, 3), (106, .invokevirtual 0, 289, 3, 21), (109, .aload 0, 0, 0, 0), (110, .getfield 0, 21, 1, 6), (113, .iconst 0, 0, 0, 0), (114, .iaload, 0, 0, 0), (115, .istore 0, 2, 0, 0), (116, .iconst 0, 0, 0, 0), (117, .istore 0, 3, 0, 0), (118, .goto_w 0, 118, 0, 0)]
def B_Mo_readThing_118 : List Ent := [(118, .iload 0, 3, 0, 0), (119, .iload 0, 1, 0, 0), (120, .if_icmp .ge 0, 158, 0, 0), (123, .aload 0, 0, 0, 0), (124, .getfield 0, 21, 0, 28), (127, .ifCond .ne 0, 158, 0, 0), (130, .aload 0, 0, 0, 0), (131, .getfield 0, 21, 1, 7), (134, .iconst 0, 0, 0, 6), (136, .iload 0, 2, 0, 0), (137, .imul, 0, 0, 0), (138, .iload 0, 3, 0, 0), (139, .iadd, 0, 0, 0), (140, .aload 0, 0, 0, 0), (141, .getfield 0, 21, 1, 22), (144, .aload 0, 0, 0, 0), (145, .getfield 0, 21, 0, 26), (148, .iload 0, 3, 0, 0), (149, .iadd, 0, 0, 0), (150, .iaload, 0, 0, 0), (151, .iastore, 0, 0, 0), (152, .iinc 0 0, 3, 0, 1), (155, .goto 0, 118, 0, 0)]
def B_Mo_readThing_158 : List Ent := [(158, .aload 0, 0, 0, 0), (159, .invokevirtual 0, 290, 1, 21), (162, .aload 0, 0, 0, 0), (163, .iconst 0, 0, 0, 0), (164, .iconst 0, 0, 0, 99), (166, .invokevirtual 0, 297, 3, 21), (169, .istore 0, 3, 0, 0), (170, .aload 0, 0, 0, 0), (171, .iconst 0, 0, 0, 59), (173, .invokevirtual 0, 294, 2, 21), (176, .aload 0, 0, 0, 0), (177, .getfield 0, 21, 0, 28), (180, .ifCond .ne 0, 203, 0, 0), (183, .aload 0, 0, 0, 0), (184, .getfield 0, 21, 1, 6), (187, .iconst 0, 0, 0, 8), (189, .iload 0, 2, 0, 0), (190, .iadd, 0, 0, 0), (191, .iload 0, 3, 0, 0), (192, .iastore, 0, 0, 0), (193, .aload 0, 0, 0, 0), (194, .getfield 0, 21, 1, 6), (197, .iconst 0, 0, 0, 0), (198, .dup2, 0, 0, 0), (199, .iaload, 0, 0, 0), (200, .iconst 0, 0, 0, 1), (201, .iadd, 0, 0, 0), (202, .iastore, 0, 0, 0), (203, .goto_w 0, 203, 0, 0)]
def B_Mo_readThing_203 : List Ent := [(203, .return_, 0, 0, 0)]
def lb_Mo_readThing : List (Nat × List Ent) := [(0, B_Mo_readThing_0), (16, B_Mo_readThing_16), (17, B_Mo_readThing_17), (41, B_Mo_readThing_41), (45, B_Mo_readThing_45), (46, B_Mo_readThing_46), (69, B_Mo_readThing_69), (70, B_Mo_readThing_70), (100, B_Mo_readThing_100), (104, B_Mo_readThing_104), (105, B_Mo_readThing_105), (118, B_Mo_readThing_118), (158, B_Mo_readThing_158), (203, B_Mo_readThing_203)]
def B_Mo_readRule_0 : List Ent := [(0, .aload 0, 0, 0, 0), (1, .aload 0, 0, 0, 0), (2, .getfield 0, 21, 1, 6), (5, .iconst 0, 0, 0, 6), (7, .iaload, 0, 0, 0), (8, .iconst 0, 0, 0, 10), (10, .if_icmp .ge 0, 17, 0, 0), (13, .iconst 0, 0, 0, 1), (14, .goto 0, 18, 0, 0)]
def B_Mo_readRule_17 : List Ent := [(17, .iconst 0, 0, 0, 0), (18, .goto_w 0, 18, 0, 0)]
def B_Mo_readRule_18 : List Ent := [(18, .iconst 0, 0, 0, 5), (19, .invokevirtual 0, 289, 3, 21), (22, .aload 0, 0, 0, 0), (23, .invokevirtual 0, 290, 1, 21), (26, .aload 0, 0, 0, 0), (27, .iconst 0, 0, 0, 0), (28, .putfield 0, 21, 0, 35), (31, .aload 0, 0, 0, 0), (32, .getfield 0, 21, 0, 32), (35, .istore 0, 1, 0, 0), (36, .aload 0, 0, 0, 0), (37, .invokevirtual 0, 312, 1, 21), (40, .aload 0, 0, 0, 0), (41, .getfield 0, 21, 0, 28), (44, .ifCond .ne 0, 57, 0, 0), (47, .aload 0, 0, 0, 0), (48, .aload 0, 0, 0, 0), (49, .getfield 0, 21, 0, 32), (52, .iload 0, 1, 0, 0), (53, .isub, 0, 0, 0), (54, .invokevirtual 0, 314, 2, 21), (57, .goto_w 0, 57, 0, 0)]
def B_Mo_readRule_57 : List Ent := [(57, .aload 0, 0, 0, 0), (58, .iconst 0, 0, 0, 59), (60, .invokevirtual 0, 294, 2, 21), (63, .return_, 0, 0, 0)]
def lb_Mo_readRule : List (Nat × List Ent) := [(0, B_Mo_readRule_0), (17, B_Mo_readRule_17), (18, B_Mo_readRule_18), (57, B_Mo_readRule_57)]
def B_Mo_readStrike_0 : List Ent := [(0, .aload 0, 0, 0, 0), (1, .invokevirtual 0, 290, 1, 21), (4, .iconst 0, 0, 0, 0), (5, .istore 0, 1, 0, 0), (6, .goto_w 0, 6, 0, 0)]
def B_Mo_readStrike_6 : List Ent := [(6, .aload 0, 0, 0, 0), (7, .invokevirtual 0, 301, 1, 21), (10, .istore 0, 2, 0, 0), (11, .aload 0, 0, 0, 0), (12, .aload 0, 0, 0, 0), (13, .getfield 0, 21, 0, 28), (16, .ifCond .ne 0, 27, 0, 0), (19, .iload 0, 1, 0, 0), (20, .iload 0, 2, 0, 0), (21, .ishr, 0, 0, 0), (22, .iconst 0, 0, 0, 1), (23, .iand, 0, 0, 0), (24, .ifCond .ne 0, 31, 0, 0), (27, .goto_w 0, 27, 0, 0)]
def B_Mo_readStrike_27 : List Ent := [(27, .iconst 0, 0, 0, 1), (28, .goto 0, 32, 0, 0)]
def B_Mo_readStrike_31 : List Ent := [(31, .iconst 0, 0, 0, 0), (32, .goto_w 0, 32, 0, 0)]
def B_Mo_readStrike_32 : List Ent := [(32, .iconst 0, 0, 0, 4), (33, .invokevirtual 0, 289, 3, 21), (36, .aload 0, 0, 0, 0), (37, .aload 0, 0, 0, 0), (38, .getfield 0, 21, 0, 28), (41, .ifCond .ne 0, 57, 0, 0), (44, .iload 0, 1, 0, 0), (45, .invokestatic 0, 184, 1, 0), (48, .aload 0, 0, 0, 0), (49, .getfield 0, 21, 1, 6), (52, .iconst 0, 0, 0, 1), (53, .iaload, 0, 0, 0), (54, .if_icmp .ge 0, 61, 0, 0), (57, .goto_w 0, 57, 0, 0)]
def B_Mo_readStrike_57 : List Ent := [(57, .iconst 0, 0, 0, 1), (58, .goto 0, 62, 0, 0)]
def B_Mo_readStrike_61 : List Ent := [(61, .iconst 0, 0, 0, 0), (62, .goto_w 0, 62, 0, 0)]
def B_Mo_readStrike_62 : List Ent := [(62, .iconst 0, 0, 0, 5), (63, .invokevirtual 0, 289, 3, 21), (66, .iload 0, 1, 0, 0), (67, .aload 0, 0, 0, 0), (68, .getfield 0, 21, 0, 28), (71, .ifCond .ne 0, 80, 0, 0), (74, .iconst 0, 0, 0, 1), (75, .iload 0, 2, 0, 0), (76, .ishl, 0, 0, 0), (77, .goto 0, 81, 0, 0)]
def B_Mo_readStrike_80 : List Ent := [(80, .iconst 0, 0, 0, 0), (81, .goto_w 0, 81, 0, 0)]
def B_Mo_readStrike_81 : List Ent := [(81, .ior, 0, 0, 0), (82, .istore 0, 1, 0, 0), (83, .aload 0, 0, 0, 0), (84, .invokevirtual 0, 290, 1, 21), (87, .aload 0, 0, 0, 0), (88, .getfield 0, 21, 0, 28), (91, .ifCond .ne 0, 102, 0, 0), (94, .aload 0, 0, 0, 0), (95, .getfield 0, 21, 0, 27), (98, .iconst 0, 0, 0, 1), (99, .if_icmp .eq 0, 6, 0, 0), (102, .goto_w 0, 102, 0, 0)]
def B_Mo_readStrike_102 : List Ent := [(102, .aload 0, 0, 0, 0), (103, .iconst 0, 0, 0, 59), (105, .invokevirtual 0, 291, 2, 21), (108, .istore 0, 2, 0, 0), (109, .aload 0, 0, 0, 0), (110, .iload 0, 2, 0, 0), (111, .ifCond .eq 0, 140, 0, 0), (114, .iload 0, 1, 0, 0), (115, .invokestatic 0, 184, 1, 0), (118, .aload 0, 0, 0, 0), (119, .getfield 0, 21, 1, 6), (122, .iconst 0, 0, 0, 1), (123, .iaload, 0, 0, 0), (124, .if_icmp .ne 0, 144, 0, 0), (127, .aload 0, 0, 0, 0), (128, .aload 0, 0, 0, 0), (129, .getfield 0, 21, 1, 12), (132, .iload 0, 1, 0, 0), (133, .iaload, 0, 0, 0), (134, .invokevirtual 0, 203, 2, 21), (137, .ifCond .ne 0, 144, 0, 0), (140, .goto_w 0, 140, 0, 0)]
def B_Mo_readStrike_140 : List Ent := [(140, .iconst 0, 0, 0, 1), (141, .goto 0, 145, 0, 0)]
def B_Mo_readStrike_144 : List Ent := [(144, .iconst 0, 0, 0, 0), (145, .goto_w 0, 145, 0, 0)]
def B_Mo_readStrike_145 : List Ent := [(145, .iconst 0, 0, 0, 6), (147, .invokevirtual 0, 289, 3, 21), (150, .aload 0, 0, 0, 0), (151, .iconst 0, 0, 0, 59), (153, .invokevirtual 0, 294, 2, 21), (156, .aload 0, 0, 0, 0), (157, .getfield 0, 21, 0, 28), (160, .ifCond .ne 0, 178, 0, 0), (163, .aload 0, 0, 0, 0), (164, .getfield 0, 21, 1, 6), (167, .iconst 0, 0, 0, 18), (169, .aload 0, 0, 0, 0), (170, .getfield 0, 21, 1, 12), (173, .iload 0, 1, 0, 0), (174, .iaload, 0, 0, 0), (175, .iadd, 0, 0, 0), (176, .iconst 0, 0, 0, 1), (177, .iastore, 0, 0, 0), (178, .goto_w 0, 178, 0, 0)]
def B_Mo_readStrike_178 : List Ent := [(178, .return_, 0, 0, 0)]
def lb_Mo_readStrike : List (Nat × List Ent) := [(0, B_Mo_readStrike_0), (6, B_Mo_readStrike_6), (27, B_Mo_readStrike_27), (31, B_Mo_readStrike_31), (32, B_Mo_readStrike_32), (57, B_Mo_readStrike_57), (61, B_Mo_readStrike_61), (62, B_Mo_readStrike_62), (80, B_Mo_readStrike_80), (81, B_Mo_readStrike_81), (102, B_Mo_readStrike_102), (140, B_Mo_readStrike_140), (144, B_Mo_readStrike_144), (145, B_Mo_readStrike_145), (178, B_Mo_readStrike_178)]
def B_Mo_readClause_0 : List Ent := [(0, .aload 0, 0, 0, 0), (1, .ldc 0, 19, 0, 0), (3, .invokevirtual 0, 292, 2, 21), (6, .ifCond .eq 0, 16, 0, 0), (9, .aload 0, 0, 0, 0), (10, .invokevirtual 0, 317, 1, 21), (13, .goto 0, 31, 0, 0)]
def B_Mo_readClause_16 : List Ent := [(16, .aload 0, 0, 0, 0), (17, .aload 0, 0, 0, 0), (18, .ldc 0, 20, 0, 0), (20, .invokevirtual 0, 292, 2, 21), (23, .iconst 0, 0, 0, 1), (24, .invokevirtual 0, 289, 3, 21), (27, .aload 0, 0, 0, 0), (28, .invokevirtual 0, 318, 1, 21), (31, .goto_w 0, 31, 0, 0)]
def B_Mo_readClause_31 : List Ent := [(31, .return_, 0, 0, 0)]
def lb_Mo_readClause : List (Nat × List Ent) := [(0, B_Mo_readClause_0), (16, B_Mo_readClause_16), (31, B_Mo_readClause_31)]
def B_Mo_readText_0 : List Ent := [(0, .aload 0, 0, 0, 0), (1, .aload 0, 0, 0, 0), (2, .ldc 0, 16, 0, 0), (4, .invokevirtual 0, 292, 2, 21), (7, .iconst 0, 0, 0, 1), (8, .invokevirtual 0, 289, 3, 21), (11, .aload 0, 0, 0, 0), (12, .invokevirtual 0, 290, 1, 21), (15, .aload 0, 0, 0, 0), (16, .iconst 0, 0, 0, 1), (17, .iconst 0, 0, 0, 9), (19, .invokevirtual 0, 297, 3, 21), (22, .istore 0, 1, 0, 0), (23, .aload 0, 0, 0, 0), (24, .iload 0, 1, 0, 0), (25, .invokevirtual 0, 185, 2, 21), (28, .aload 0, 0, 0, 0), (29, .getfield 0, 21, 1, 6), (32, .iconst 0, 0, 0, 2), (33, .aload 0, 0, 0, 0), (34, .ldc 0, 17, 0, 0), (36, .invokevirtual 0, 293, 2, 21), (39, .ifCond .eq 0, 51, 0, 0), (42, .aload 0, 0, 0, 0), (43, .iconst 0, 0, 0, 0), (44, .iconst 0, 0, 0, 2), (45, .invokevirtual 0, 297, 3, 21), (48, .goto 0, 52, 0, 0)]
def B_Mo_readText_51 : List Ent := [(51, .iconst 0, 0, 0, 0), (52, .goto_w 0, 52, 0, 0)]
def B_Mo_readText_52 : List Ent := [(52, .iastore, 0, 0, 0), (53, .aload 0, 0, 0, 0), (54, .iconst 0, 0, 0, 59), (56, .invokevirtual 0, 294, 2, 21), (59, .aload 0, 0, 0, 0), (60, .aload 0, 0, 0, 0), (61, .getfield 0, 21, 0, 28), (64, .ifCond .ne 0, 76, 0, 0), (67, .aload 0, 0, 0, 0), (68, .ldc 0, 18, 0, 0), (70, .invokevirtual 0, 292, 2, 21), (73, .ifCond .eq 0, 80, 0, 0), (76, .goto_w 0, 76, 0, 0)]
def B_Mo_readText_76 : List Ent := [(76, .iconst 0, 0, 0, 1), (77, .goto 0, 81, 0, 0)]
def B_Mo_readText_80 : List Ent := [(80, .iconst 0, 0, 0, 0), (81, .goto_w 0, 81, 0, 0)]
def B_Mo_readText_81 : List Ent := [(81, .iconst 0, 0, 0, 1), (82, .invokevirtual 0, 289, 3, 21), (85, .goto_w 0, 85, 0, 0)]
def B_Mo_readText_85 : List Ent := [(85, .aload 0, 0, 0, 0), (86, .ldc 0, 18, 0, 0), (88, .invokevirtual 0, 292, 2, 21), (91, .ifCond .eq 0, 101, 0, 0), (94, .aload 0, 0, 0, 0), (95, .invokevirtual 0, 316, 1, 21), (98, .goto 0, 85, 0, 0)]
def B_Mo_readText_101 : List Ent := [(101, .aload 0, 0, 0, 0), (102, .aload 0, 0, 0, 0), (103, .getfield 0, 21, 0, 28), (106, .ifCond .ne 0, 134, 0, 0), (109, .aload 0, 0, 0, 0), (110, .getfield 0, 21, 0, 27), (113, .ifCond .eq 0, 134, 0, 0), (116, .aload 0, 0, 0, 0), (117, .ldc 0, 19, 0, 0), (119, .invokevirtual 0, 292, 2, 21), (122, .ifCond .ne 0, 134, 0, 0), (125, .aload 0, 0, 0, 0), (126, .ldc 0, 20, 0, 0), (128, .invokevirtual 0, 292, 2, 21), (131, .ifCond .eq 0, 138, 0, 0), (134, .goto_w 0, 134, 0, 0)]
def B_Mo_readText_134 : List Ent := [(134, .iconst 0, 0, 0, 1), (135, .goto 0, 139, 0, 0)]
def B_Mo_readText_138 : List Ent := [(138, .iconst 0, 0, 0, 0), (139, .goto_w 0, 139, 0, 0)]
def B_Mo_readText_139 : List Ent := [(139, .iconst 0, 0, 0, 1), (140, .invokevirtual 0, 289, 3, 21), (143, .aload 0, 0, 0, 0), (144, .aload 0, 0, 0, 0), (145, .getfield 0, 21, 0, 28), (148, .ifCond .ne 0, 166, 0, 0), (151, .aload 0, 0, 0, 0), (152, .getfield 0, 21, 1, 6), (155, .iconst 0, 0, 0, 0), (156, .iaload, 0, 0, 0), (157, .aload 0, 0, 0, 0), (158, .getfield 0, 21, 1, 6), (161, .iconst 0, 0, 0, 1), (162, .iaload, 0, 0, 0), (163, .if_icmp .le 0, 170, 0, 0), (166, .goto_w 0, 166, 0, 0)]
def B_Mo_readText_166 : List Ent := [(166, .iconst 0, 0, 0, 1), (167, .goto 0, 171, 0, 0)]
def B_Mo_readText_170 : List Ent := [(170, .iconst 0, 0, 0, 0), (171, .goto_w 0, 171, 0, 0)]
def B_Mo_readText_171 : List Ent := [(171, .iconst 0, 0, 0, 6), (173, .invokevirtual 0, 289, 3, 21), (176, .aload 0, 0, 0, 0), (177, .getfield 0, 21, 0, 28), (180, .ifCond .eq 0, 184, 0, 0), (183, .return_, 0, 0, 0)]
def B_Mo_readText_184 : List Ent := [(184, .aload 0, 0, 0, 0), (185, .invokevirtual 0, 188, 1, 21), (188, .goto_w 0, 188, 0, 0)]
def B_Mo_readText_188 : List Ent := [(188, .aload 0, 0, 0, 0), (189, .getfield 0, 21, 0, 28), (192, .ifCond .ne 0, 209, 0, 0), (195, .aload 0, 0, 0, 0), (196, .getfield 0, 21, 0, 27), (199, .ifCond .eq 0, 209, 0, 0), (202, .aload 0, 0, 0, 0), (203, .invokevirtual 0, 319, 1, 21), (206, .goto 0, 188, 0, 0)]
def B_Mo_readText_209 : List Ent := [(209, .return_, 0, 0, 0)]
def lb_Mo_readText : List (Nat × List Ent) := [(0, B_Mo_readText_0), (51, B_Mo_readText_51), (52, B_Mo_readText_52), (76, B_Mo_readText_76), (80, B_Mo_readText_80), (81, B_Mo_readText_81), (85, B_Mo_readText_85), (101, B_Mo_readText_101), (134, B_Mo_readText_134), (138, B_Mo_readText_138), (139, B_Mo_readText_139), (166, B_Mo_readText_166), (170, B_Mo_readText_170), (171, B_Mo_readText_171), (184, B_Mo_readText_184), (188, B_Mo_readText_188), (209, B_Mo_readText_209)]
def B_Mo_load_0 : List Ent := [(0, .aload 0, 0, 0, 0), (1, .iconst 0, 0, 0, 0), (2, .putfield 0, 21, 0, 9), (5, .iload 0, 1, 0, 0), (6, .iconst 0, 0, 0, 0), (7, .aload 0, 0, 0, 0), (8, .getfield 0, 21, 0, 23), (11, .invokestatic 0, 179, 3, 0), (14, .ifCond .ne 0, 23, 0, 0), (17, .aload 0, 0, 0, 0), (18, .iconst 0, 0, 0, 1), (19, .invokevirtual 0, 178, 2, 21), (22, .ireturn, 0, 0, 0)]
def B_Mo_load_23 : List Ent := [(23, .aload 0, 0, 0, 0), (24, .iload 0, 1, 0, 0), (25, .invokevirtual 0, 287, 2, 21), (28, .aload 0, 0, 0, 0), (29, .aload 0, 0, 0, 0), (30, .getfield 0, 21, 1, 1), (33, .putfield 0, 21, 1, 6), (36, .aload 0, 0, 0, 0), (37, .aload 0, 0, 0, 0), (38, .getfield 0, 21, 1, 5), (41, .putfield 0, 21, 1, 7), (44, .aload 0, 0, 0, 0), (45, .iconst 0, 0, 0, 1), (46, .invokevirtual 0, 185, 2, 21), (49, .aload 0, 0, 0, 0), (50, .invokevirtual 0, 320, 1, 21), (53, .aload 0, 0, 0, 0), (54, .aload 0, 0, 0, 0), (55, .getfield 0, 21, 1, 0), (58, .putfield 0, 21, 1, 6), (61, .aload 0, 0, 0, 0), (62, .aload 0, 0, 0, 0), (63, .getfield 0, 21, 1, 4), (66, .putfield 0, 21, 1, 7), (69, .aload 0, 0, 0, 0), (70, .invokevirtual 0, 288, 1, 21), (73, .ifCond .ne 0, 128, 0, 0), (76, .aload 0, 0, 0, 0), (77, .getfield 0, 21, 1, 1), (80, .iconst 0, 0, 0, 0), (81, .aload 0, 0, 0, 0), (82, .getfield 0, 21, 1, 0), (85, .iconst 0, 0, 0, 0), (86, .invokestatic 0, 275, 4, 0), (89, .iconst 0, 0, 0, 0), (90, .istore 0, 2, 0, 0), (91, .goto_w 0, 91, 0, 0)]
def B_Mo_load_91 : List Ent := [(91, .iload 0, 2, 0, 0), (92, .aload 0, 0, 0, 0), (93, .getfield 0, 21, 1, 4), (96, .arraylength, 0, 0, 0), (97, .if_icmp .ge 0, 118, 0, 0), (100, .aload 0, 0, 0, 0), (101, .getfield 0, 21, 1, 4), (104, .iload 0, 2, 0, 0), (105, .aload 0, 0, 0, 0), (106, .getfield 0, 21, 1, 5), (109, .iload 0, 2, 0, 0), (110, .iaload, 0, 0, 0), (111, .iastore, 0, 0, 0), (112, .iinc 0 0, 2, 0, 1), (115, .goto 0, 91, 0, 0)]
def B_Mo_load_118 : List Ent := [(118, .aload 0, 0, 0, 0), (119, .iconst 0, 0, 0, 0), (120, .putfield 0, 21, 0, 8), (123, .aload 0, 0, 0, 0), (124, .iconst 0, 0, 0, 0), (125, .putfield 0, 21, 2, 10), (128, .goto_w 0, 128, 0, 0)]
def B_Mo_load_128 : List Ent := [(128, .aload 0, 0, 0, 0), (129, .invokevirtual 0, 188, 1, 21), (132, .aload 0, 0, 0, 0), (133, .getfield 0, 21, 0, 28), (136, .ifCond .ne 0, 146, 0, 0), (139, .aload 0, 0, 0, 0), (140, .invokevirtual 0, 205, 1, 21), (143, .goto 0, 153, 0, 0)]
def B_Mo_load_146 : List Ent := [(146, .iconst 0, 0, 0, (-10)), (148, .aload 0, 0, 0, 0), (149, .getfield 0, 21, 0, 28), (152, .isub, 0, 0, 0), (153, .goto_w 0, 153, 0, 0)]
def B_Mo_load_153 : List Ent := [(153, .ireturn, 0, 0, 0)]
def lb_Mo_load : List (Nat × List Ent) := [(0, B_Mo_load_0), (23, B_Mo_load_23), (91, B_Mo_load_91), (118, B_Mo_load_118), (128, B_Mo_load_128), (146, B_Mo_load_146), (153, B_Mo_load_153)]
def B_TR_readUpTo_0 : List Ent := [(0, .aload 0, 0, 0, 0), (1, .aload 0, 2, 0, 0), (2, .invokevirtual 0, 56, 2, 15), (5, .aload 0, 0, 0, 0), (6, .iconst 0, 0, 0, 0), (7, .invokevirtual 0, 58, 2, 15), (10, .ifCond .eq 0, 28, 0, 0), (13, .aload 0, 0, 0, 0), (14, .getfield 0, 15, 1, 1), (17, .iload 0, 1, 0, 0), (18, .invokevirtual 0, 83, 2, 17), (21, .ifCond .eq 0, 28, 0, 0), (24, .iconst 0, 0, 0, 1), (25, .goto 0, 29, 0, 0)]
def B_TR_readUpTo_28 : List Ent := [(28, .iconst 0, 0, 0, 0), (29, .goto_w 0, 29, 0, 0)]
def B_TR_readUpTo_29 : List Ent := [(29, .ireturn, 0, 1, 0)]
def lb_TR_readUpTo : List (Nat × List Ent) := [(0, B_TR_readUpTo_0), (28, B_TR_readUpTo_28), (29, B_TR_readUpTo_29)]
def B_Lw_load_0 : List Ent := [(0, .aload 0, 2, 0, 0), (1, .iconst 0, 0, 0, 0), (2, .aload 0, 0, 0, 0), (3, .iload 0, 1, 0, 0), (4, .invokevirtual 0, 117, 2, 20), (7, .i2l, 0, 0, 0), (8, .lastore, 0, 0, 0), (9, .goto 0, 15, 0, 0)]
def B_Lw_load_15 : List Ent := [(15, .iconst 0, 0, 0, 0), (16, .ireturn, 0, 0, 0)]
def lb_Lw_load : List (Nat × List Ent) := [(0, B_Lw_load_0), (15, B_Lw_load_15)]
def B_Lw_size_0 : List Ent := [(0, .aload 0, 2, 0, 0), (1, .iconst 0, 0, 0, 0), (2, .aload 0, 0, 0, 0), (3, .iload 0, 1, 0, 0), (4, .invokevirtual 0, 120, 2, 20), (7, .i2l, 0, 0, 0), (8, .lastore, 0, 0, 0), (9, .goto 0, 15, 0, 0)]
def B_Lw_size_15 : List Ent := [(15, .iconst 0, 0, 0, 0), (16, .ireturn, 0, 0, 0)]
def lb_Lw_size : List (Nat × List Ent) := [(0, B_Lw_size_0), (15, B_Lw_size_15)]
def B_Lw_weight_0 : List Ent := [(0, .aload 0, 2, 0, 0), (1, .iconst 0, 0, 0, 0), (2, .aload 0, 0, 0, 0), (3, .iload 0, 1, 0, 0), (4, .invokevirtual 0, 122, 2, 20), (7, .i2l, 0, 0, 0), (8, .lastore, 0, 0, 0), (9, .goto 0, 15, 0, 0)]
def B_Lw_weight_15 : List Ent := [(15, .iconst 0, 0, 0, 0), (16, .ireturn, 0, 0, 0)]
def lb_Lw_weight : List (Nat × List Ent) := [(0, B_Lw_weight_0), (15, B_Lw_weight_15)]
def B_Lw_nameByte_0 : List Ent := [(0, .aload 0, 3, 0, 0), (1, .iconst 0, 0, 0, 0), (2, .aload 0, 0, 0, 0), (3, .iload 0, 1, 0, 0), (4, .iload 0, 2, 0, 0), (5, .invokevirtual 0, 123, 3, 20), (8, .i2l, 0, 0, 0), (9, .lastore, 0, 0, 0), (10, .goto 0, 17, 0, 0)]
def B_Lw_nameByte_17 : List Ent := [(17, .iconst 0, 0, 0, 0), (18, .ireturn, 0, 0, 0)]
def lb_Lw_nameByte : List (Nat × List Ent) := [(0, B_Lw_nameByte_0), (17, B_Lw_nameByte_17)]
def B_Lw_choice_0 : List Ent := [(0, .aload 0, 3, 0, 0), (1, .iconst 0, 0, 0, 0), (2, .aload 0, 0, 0, 0), (3, .iload 0, 1, 0, 0), (4, .iload 0, 2, 0, 0), (5, .invokevirtual 0, 129, 3, 20), (8, .i2l, 0, 0, 0), (9, .lastore, 0, 0, 0), (10, .goto 0, 21, 0, 0)]
def B_Lw_choice_21 : List Ent := [(21, .iconst 0, 0, 0, 0), (22, .ireturn, 0, 0, 0)]
def lb_Lw_choice : List (Nat × List Ent) := [(0, B_Lw_choice_0), (21, B_Lw_choice_21)]
def B_Lw_distance_0 : List Ent := [(0, .aload 0, 3, 0, 0), (1, .iconst 0, 0, 0, 0), (2, .aload 0, 0, 0, 0), (3, .iload 0, 1, 0, 0), (4, .iload 0, 2, 0, 0), (5, .invokevirtual 0, 131, 3, 20), (8, .i2l, 0, 0, 0), (9, .lastore, 0, 0, 0), (10, .goto 0, 17, 0, 0)]
def B_Lw_distance_17 : List Ent := [(17, .iconst 0, 0, 0, 0), (18, .ireturn, 0, 0, 0)]
def lb_Lw_distance : List (Nat × List Ent) := [(0, B_Lw_distance_0), (17, B_Lw_distance_17)]
def B_Lw_swapped_0 : List Ent := [(0, .aload 0, 4, 0, 0), (2, .iconst 0, 0, 0, 0), (3, .aload 0, 0, 0, 0), (4, .iload 0, 1, 0, 0), (5, .iload 0, 2, 0, 0), (6, .iload 0, 3, 0, 0), (7, .invokevirtual 0, 132, 4, 20), (10, .i2l, 0, 0, 0), (11, .lastore, 0, 0, 0), (12, .goto 0, 19, 0, 0)]
def B_Lw_swapped_19 : List Ent := [(19, .iconst 0, 0, 0, 0), (20, .ireturn, 0, 0, 0)]
def lb_Lw_swapped : List (Nat × List Ent) := [(0, B_Lw_swapped_0), (19, B_Lw_swapped_19)]
def B_Lw_nearest_0 : List Ent := [(0, .aload 0, 3, 0, 0), (1, .iconst 0, 0, 0, 0), (2, .aload 0, 0, 0, 0), (3, .iload 0, 1, 0, 0), (4, .iload 0, 2, 0, 0), (5, .invokevirtual 0, 133, 3, 20), (8, .i2l, 0, 0, 0), (9, .lastore, 0, 0, 0), (10, .goto 0, 17, 0, 0)]
def B_Lw_nearest_17 : List Ent := [(17, .iconst 0, 0, 0, 0), (18, .ireturn, 0, 0, 0)]
def lb_Lw_nearest : List (Nat × List Ent) := [(0, B_Lw_nearest_0), (17, B_Lw_nearest_17)]
def B_Lw_with_0 : List Ent := [(0, .aload 0, 2, 0, 0), (1, .iconst 0, 0, 0, 0), (2, .aload 0, 0, 0, 0), (3, .iload 0, 1, 0, 0), (4, .invokevirtual 0, 134, 2, 20), (7, .i2l, 0, 0, 0), (8, .lastore, 0, 0, 0), (9, .goto 0, 15, 0, 0)]
def B_Lw_with_15 : List Ent := [(15, .iconst 0, 0, 0, 0), (16, .ireturn, 0, 0, 0)]
def lb_Lw_with : List (Nat × List Ent) := [(0, B_Lw_with_0), (15, B_Lw_with_15)]
def B_Lw_holds_0 : List Ent := [(0, .aload 0, 3, 0, 0), (1, .iconst 0, 0, 0, 0), (2, .aload 0, 0, 0, 0), (3, .iload 0, 1, 0, 0), (4, .iload 0, 2, 0, 0), (5, .invokevirtual 0, 136, 3, 20), (8, .ifCond .eq 0, 15, 0, 0), (11, .lconst 1, 0, 0, 0), (12, .goto 0, 16, 0, 0)]
def B_Lw_holds_15 : List Ent := [(15, .lconst 0, 0, 0, 0), (16, .goto_w 0, 16, 0, 0)]
def B_Lw_holds_16 : List Ent := [(16, .lastore, 0, 0, 0), (17, .goto 0, 24, 0, 0)]
def B_Lw_holds_24 : List Ent := [(24, .iconst 0, 0, 0, 0), (25, .ireturn, 0, 0, 0)]
def lb_Lw_holds : List (Nat × List Ent) := [(0, B_Lw_holds_0), (15, B_Lw_holds_15), (16, B_Lw_holds_16), (24, B_Lw_holds_24)]
def B_Lw_rule_0 : List Ent := [(0, .aload 0, 3, 0, 0), (1, .iconst 0, 0, 0, 0), (2, .aload 0, 0, 0, 0), (3, .iload 0, 1, 0, 0), (4, .iload 0, 2, 0, 0), (5, .invokevirtual 0, 137, 3, 20), (8, .i2l, 0, 0, 0), (9, .lastore, 0, 0, 0), (10, .goto 0, 21, 0, 0)]
def B_Lw_rule_21 : List Ent := [(21, .iconst 0, 0, 0, 0), (22, .ireturn, 0, 0, 0)]
def lb_Lw_rule : List (Nat × List Ent) := [(0, B_Lw_rule_0), (21, B_Lw_rule_21)]
def B_Lw_why_0 : List Ent := [(0, .aload 0, 2, 0, 0), (1, .iconst 0, 0, 0, 0), (2, .aload 0, 0, 0, 0), (3, .iload 0, 1, 0, 0), (4, .invokevirtual 0, 138, 2, 20), (7, .i2l, 0, 0, 0), (8, .lastore, 0, 0, 0), (9, .goto 0, 15, 0, 0)]
def B_Lw_why_15 : List Ent := [(15, .iconst 0, 0, 0, 0), (16, .ireturn, 0, 0, 0)]
def lb_Lw_why : List (Nat × List Ent) := [(0, B_Lw_why_0), (15, B_Lw_why_15)]
def B_Lw_against_0 : List Ent := [(0, .aload 0, 2, 0, 0), (1, .iconst 0, 0, 0, 0), (2, .aload 0, 0, 0, 0), (3, .iload 0, 1, 0, 0), (4, .invokevirtual 0, 139, 2, 20), (7, .i2l, 0, 0, 0), (8, .lastore, 0, 0, 0), (9, .goto 0, 15, 0, 0)]
def B_Lw_against_15 : List Ent := [(15, .iconst 0, 0, 0, 0), (16, .ireturn, 0, 0, 0)]
def lb_Lw_against : List (Nat × List Ent) := [(0, B_Lw_against_0), (15, B_Lw_against_15)]
def B_Lw_swapsToEnd_0 : List Ent := [(0, .aload 0, 2, 0, 0), (1, .iconst 0, 0, 0, 0), (2, .aload 0, 0, 0, 0), (3, .iload 0, 1, 0, 0), (4, .invokevirtual 0, 142, 2, 20), (7, .i2l, 0, 0, 0), (8, .lastore, 0, 0, 0), (9, .goto 0, 15, 0, 0)]
def B_Lw_swapsToEnd_15 : List Ent := [(15, .iconst 0, 0, 0, 0), (16, .ireturn, 0, 0, 0)]
def lb_Lw_swapsToEnd : List (Nat × List Ent) := [(0, B_Lw_swapsToEnd_0), (15, B_Lw_swapsToEnd_15)]
def B_Lw_ahead_0 : List Ent := [(0, .aload 0, 2, 0, 0), (1, .iconst 0, 0, 0, 0), (2, .aload 0, 0, 0, 0), (3, .iload 0, 1, 0, 0), (4, .invokevirtual 0, 145, 2, 20), (7, .i2l, 0, 0, 0), (8, .lastore, 0, 0, 0), (9, .goto 0, 15, 0, 0)]
def B_Lw_ahead_15 : List Ent := [(15, .iconst 0, 0, 0, 0), (16, .ireturn, 0, 0, 0)]
def lb_Lw_ahead : List (Nat × List Ent) := [(0, B_Lw_ahead_0), (15, B_Lw_ahead_15)]
def B_Lw_far_0 : List Ent := [(0, .aload 0, 3, 0, 0), (1, .iconst 0, 0, 0, 0), (2, .aload 0, 0, 0, 0), (3, .iload 0, 1, 0, 0), (4, .iload 0, 2, 0, 0), (5, .invokevirtual 0, 146, 3, 20), (8, .i2l, 0, 0, 0), (9, .lastore, 0, 0, 0), (10, .goto 0, 17, 0, 0)]
def B_Lw_far_17 : List Ent := [(17, .iconst 0, 0, 0, 0), (18, .ireturn, 0, 0, 0)]
def lb_Lw_far : List (Nat × List Ent) := [(0, B_Lw_far_0), (17, B_Lw_far_17)]
def B_Lw_toward_0 : List Ent := [(0, .aload 0, 3, 0, 0), (1, .iconst 0, 0, 0, 0), (2, .aload 0, 0, 0, 0), (3, .iload 0, 1, 0, 0), (4, .iload 0, 2, 0, 0), (5, .invokevirtual 0, 147, 3, 20), (8, .i2l, 0, 0, 0), (9, .lastore, 0, 0, 0), (10, .goto 0, 17, 0, 0)]
def B_Lw_toward_17 : List Ent := [(17, .iconst 0, 0, 0, 0), (18, .ireturn, 0, 0, 0)]
def lb_Lw_toward : List (Nat × List Ent) := [(0, B_Lw_toward_0), (17, B_Lw_toward_17)]
def B_Lw_part_0 : List Ent := [(0, .aload 0, 3, 0, 0), (1, .iconst 0, 0, 0, 0), (2, .aload 0, 0, 0, 0), (3, .iload 0, 1, 0, 0), (4, .iload 0, 2, 0, 0), (5, .invokevirtual 0, 148, 3, 20), (8, .i2l, 0, 0, 0), (9, .lastore, 0, 0, 0), (10, .goto 0, 21, 0, 0)]
def B_Lw_part_21 : List Ent := [(21, .iconst 0, 0, 0, 0), (22, .ireturn, 0, 0, 0)]
def lb_Lw_part : List (Nat × List Ent) := [(0, B_Lw_part_0), (21, B_Lw_part_21)]
def B_Lw_allowedIf_0 : List Ent := [(0, .aload 0, 2, 0, 0), (1, .iconst 0, 0, 0, 0), (2, .aload 0, 0, 0, 0), (3, .iload 0, 1, 0, 0), (4, .invokevirtual 0, 149, 2, 20), (7, .i2l, 0, 0, 0), (8, .lastore, 0, 0, 0), (9, .goto 0, 15, 0, 0)]
def B_Lw_allowedIf_15 : List Ent := [(15, .iconst 0, 0, 0, 0), (16, .ireturn, 0, 0, 0)]
def lb_Lw_allowedIf : List (Nat × List Ent) := [(0, B_Lw_allowedIf_0), (15, B_Lw_allowedIf_15)]
def B_Lw_partsIf_0 : List Ent := [(0, .aload 0, 2, 0, 0), (1, .iconst 0, 0, 0, 0), (2, .aload 0, 0, 0, 0), (3, .iload 0, 1, 0, 0), (4, .invokevirtual 0, 150, 2, 20), (7, .i2l, 0, 0, 0), (8, .lastore, 0, 0, 0), (9, .goto 0, 15, 0, 0)]
def B_Lw_partsIf_15 : List Ent := [(15, .iconst 0, 0, 0, 0), (16, .ireturn, 0, 0, 0)]
def lb_Lw_partsIf : List (Nat × List Ent) := [(0, B_Lw_partsIf_0), (15, B_Lw_partsIf_15)]
def B_Lw_steps_0 : List Ent := [(0, .aload 0, 2, 0, 0), (1, .iconst 0, 0, 0, 0), (2, .aload 0, 0, 0, 0), (3, .iload 0, 1, 0, 0), (4, .invokevirtual 0, 157, 2, 20), (7, .i2l, 0, 0, 0), (8, .lastore, 0, 0, 0), (9, .goto 0, 15, 0, 0)]
def B_Lw_steps_15 : List Ent := [(15, .iconst 0, 0, 0, 0), (16, .ireturn, 0, 0, 0)]
def lb_Lw_steps : List (Nat × List Ent) := [(0, B_Lw_steps_0), (15, B_Lw_steps_15)]
def B_Lw_swap_0 : List Ent := [(0, .aload 0, 3, 0, 0), (1, .iconst 0, 0, 0, 0), (2, .aload 0, 0, 0, 0), (3, .iload 0, 1, 0, 0), (4, .iload 0, 2, 0, 0), (5, .invokevirtual 0, 158, 3, 20), (8, .i2l, 0, 0, 0), (9, .lastore, 0, 0, 0), (10, .goto 0, 17, 0, 0)]
def B_Lw_swap_17 : List Ent := [(17, .iconst 0, 0, 0, 0), (18, .ireturn, 0, 0, 0)]
def lb_Lw_swap : List (Nat × List Ent) := [(0, B_Lw_swap_0), (17, B_Lw_swap_17)]
def B_Lw_setMode_0 : List Ent := [(0, .aload 0, 2, 0, 0), (1, .iconst 0, 0, 0, 0), (2, .aload 0, 0, 0, 0), (3, .iload 0, 1, 0, 0), (4, .invokevirtual 0, 161, 2, 20), (7, .i2l, 0, 0, 0), (8, .lastore, 0, 0, 0), (9, .goto 0, 15, 0, 0)]
def B_Lw_setMode_15 : List Ent := [(15, .iconst 0, 0, 0, 0), (16, .ireturn, 0, 0, 0)]
def lb_Lw_setMode : List (Nat × List Ent) := [(0, B_Lw_setMode_0), (15, B_Lw_setMode_15)]
def B_Lw_setWeight_0 : List Ent := [(0, .aload 0, 3, 0, 0), (1, .iconst 0, 0, 0, 0), (2, .aload 0, 0, 0, 0), (3, .iload 0, 1, 0, 0), (4, .iload 0, 2, 0, 0), (5, .invokevirtual 0, 162, 3, 20), (8, .i2l, 0, 0, 0), (9, .lastore, 0, 0, 0), (10, .goto 0, 21, 0, 0)]
def B_Lw_setWeight_21 : List Ent := [(21, .iconst 0, 0, 0, 0), (22, .ireturn, 0, 0, 0)]
def lb_Lw_setWeight : List (Nat × List Ent) := [(0, B_Lw_setWeight_0), (21, B_Lw_setWeight_21)]
def B_Lw_addRule_0 : List Ent := [(0, .aload 0, 2, 0, 0), (1, .iconst 0, 0, 0, 0), (2, .aload 0, 0, 0, 0), (3, .iload 0, 1, 0, 0), (4, .invokevirtual 0, 163, 2, 20), (7, .i2l, 0, 0, 0), (8, .lastore, 0, 0, 0), (9, .goto 0, 15, 0, 0)]
def B_Lw_addRule_15 : List Ent := [(15, .iconst 0, 0, 0, 0), (16, .ireturn, 0, 0, 0)]
def lb_Lw_addRule : List (Nat × List Ent) := [(0, B_Lw_addRule_0), (15, B_Lw_addRule_15)]
def B_Lw_dropRule_0 : List Ent := [(0, .aload 0, 2, 0, 0), (1, .iconst 0, 0, 0, 0), (2, .aload 0, 0, 0, 0), (3, .iload 0, 1, 0, 0), (4, .invokevirtual 0, 164, 2, 20), (7, .i2l, 0, 0, 0), (8, .lastore, 0, 0, 0), (9, .goto 0, 15, 0, 0)]
def B_Lw_dropRule_15 : List Ent := [(15, .iconst 0, 0, 0, 0), (16, .ireturn, 0, 0, 0)]
def lb_Lw_dropRule : List (Nat × List Ent) := [(0, B_Lw_dropRule_0), (15, B_Lw_dropRule_15)]
def B_Lw_switchRule_0 : List Ent := [(0, .aload 0, 2, 0, 0), (1, .iconst 0, 0, 0, 0), (2, .aload 0, 0, 0, 0), (3, .iload 0, 1, 0, 0), (4, .invokevirtual 0, 165, 2, 20), (7, .i2l, 0, 0, 0), (8, .lastore, 0, 0, 0), (9, .goto 0, 15, 0, 0)]
def B_Lw_switchRule_15 : List Ent := [(15, .iconst 0, 0, 0, 0), (16, .ireturn, 0, 0, 0)]
def lb_Lw_switchRule : List (Nat × List Ent) := [(0, B_Lw_switchRule_0), (15, B_Lw_switchRule_15)]
def B_Lw_strike_0 : List Ent := [(0, .aload 0, 3, 0, 0), (1, .iconst 0, 0, 0, 0), (2, .aload 0, 0, 0, 0), (3, .iload 0, 1, 0, 0), (4, .iload 0, 2, 0, 0), (5, .invokevirtual 0, 166, 3, 20), (8, .ifCond .eq 0, 15, 0, 0), (11, .lconst 1, 0, 0, 0), (12, .goto 0, 16, 0, 0)]
def B_Lw_strike_15 : List Ent := [(15, .lconst 0, 0, 0, 0), (16, .goto_w 0, 16, 0, 0)]
def B_Lw_strike_16 : List Ent := [(16, .lastore, 0, 0, 0), (17, .goto 0, 24, 0, 0)]
def B_Lw_strike_24 : List Ent := [(24, .iconst 0, 0, 0, 0), (25, .ireturn, 0, 0, 0)]
def lb_Lw_strike : List (Nat × List Ent) := [(0, B_Lw_strike_0), (15, B_Lw_strike_15), (16, B_Lw_strike_16), (24, B_Lw_strike_24)]
def B_Lw_many_0 : List Ent := [(0, .aload 0, 3, 0, 0), (1, .iconst 0, 0, 0, 0), (2, .aload 0, 0, 0, 0), (3, .iload 0, 1, 0, 0), (4, .iload 0, 2, 0, 0), (5, .invokevirtual 0, 167, 3, 20), (8, .i2l, 0, 0, 0), (9, .lastore, 0, 0, 0), (10, .goto 0, 17, 0, 0)]
def B_Lw_many_17 : List Ent := [(17, .iconst 0, 0, 0, 0), (18, .ireturn, 0, 0, 0)]
def lb_Lw_many : List (Nat × List Ent) := [(0, B_Lw_many_0), (17, B_Lw_many_17)]
def B_Lw_format_0 : List Ent := [(0, .aload 0, 2, 0, 0), (1, .iconst 0, 0, 0, 0), (2, .aload 0, 0, 0, 0), (3, .iload 0, 1, 0, 0), (4, .invokevirtual 0, 168, 2, 20), (7, .i2l, 0, 0, 0), (8, .lastore, 0, 0, 0), (9, .goto 0, 15, 0, 0)]
def B_Lw_format_15 : List Ent := [(15, .iconst 0, 0, 0, 0), (16, .ireturn, 0, 0, 0)]
def lb_Lw_format : List (Nat × List Ent) := [(0, B_Lw_format_0), (15, B_Lw_format_15)]
def B_Lw_law_0 : List Ent := [(0, .new 0, 20, 15, 0), (3, .dup, 0, 0, 0), (4, .invokespecial 0, 114, 1, 20), (7, .astore 0, 1, 0, 0), (8, .new 0, 21, 36, 0), (11, .dup, 0, 0, 0), (12, .invokespecial 0, 176, 1, 21), (15, .astore 0, 2, 0, 0), (16, .iconst 0, 0, 0, 1), (17, .newarray .long, 0, 0, 0), (19, .astore 0, 3, 0, 0), (20, .iconst 0, 0, 0, 0), (21, .istore 0, 4, 0, 0), (23, .goto_w 0, 23, 0, 0)]
def B_Lw_law_23 : List Ent := [(23, .iload 0, 4, 0, 0), (25, .aload 0, 0, 0, 0), (26, .arraylength, 0, 0, 0), (27, .iconst 0, 0, 0, 6), (29, .isub, 0, 0, 0), (30, .if_icmp .gt 0, 1708, 0, 0), (33, .aload 0, 0, 0, 0), (34, .iload 0, 4, 0, 0), (36, .iaload, 0, 0, 0), (37, .iconst 0, 0, 0, 63), (39, .iand, 0, 0, 0), (40, .tableswitch 1662 0 48 #[212, 285, 313, 326, 354, 382, 422, 462, 487, 527, 579, 635, 663, 676, 751, 791, 819, 847, 860, 885, 913, 926, 954, 994, 1034, 1074, 1102, 1130, 1143, 1156, 1171, 1188, 1201, 1229, 1269, 1282, 1295, 1323, 1363, 1391, 1419, 1447, 1503, 1559, 1587, 1612, 1625, 1638, 1649], 0, 0, 0)]
def B_Lw_law_252 : List Ent := [(252, .aload 0, 1, 0, 0), (253, .aload 0, 0, 0, 0), (254, .iload 0, 4, 0, 0), (256, .iconst 0, 0, 0, 1), (257, .iadd, 0, 0, 0), (258, .iaload, 0, 0, 0), (259, .aload 0, 0, 0, 0), (260, .iload 0, 4, 0, 0), (262, .iconst 0, 0, 0, 2), (263, .iadd, 0, 0, 0), (264, .iaload, 0, 0, 0), (265, .aload 0, 0, 0, 0), (266, .iload 0, 4, 0, 0), (268, .iconst 0, 0, 0, 3), (269, .iadd, 0, 0, 0), (270, .iaload, 0, 0, 0), (271, .aload 0, 0, 0, 0), (272, .iload 0, 4, 0, 0), (274, .iconst 0, 0, 0, 4), (275, .iadd, 0, 0, 0), (276, .iaload, 0, 0, 0), (277, .aload 0, 0, 0, 0), (278, .iload 0, 4, 0, 0), (280, .iconst 0, 0, 0, 5), (281, .iadd, 0, 0, 0), (282, .iaload, 0, 0, 0), (283, .invokevirtual 0, 115, 6, 20), (286, .pop, 0, 0, 0), (287, .aload 0, 2, 0, 0), (288, .aload 0, 0, 0, 0), (289, .iload 0, 4, 0, 0), (291, .iconst 0, 0, 0, 1), (292, .iadd, 0, 0, 0), (293, .iaload, 0, 0, 0), (294, .aload 0, 0, 0, 0), (295, .iload 0, 4, 0, 0), (297, .iconst 0, 0, 0, 2), (298, .iadd, 0, 0, 0), (299, .iaload, 0, 0, 0), (300, .aload 0, 0, 0, 0), (301, .iload 0, 4, 0, 0), (303, .iconst 0, 0, 0, 3), (304, .iadd, 0, 0, 0), (305, .iaload, 0, 0, 0), (306, .aload 0, 0, 0, 0), (307, .iload 0, 4, 0, 0), (309, .iconst 0, 0, 0, 4), (310, .iadd, 0, 0, 0), (311, .iaload, 0, 0, 0), (312, .aload 0, 0, 0, 0), (313, .iload 0, 4, 0, 0), (315, .iconst 0, 0, 0, 5), (316, .iadd, 0, 0, 0), (317, .iaload, 0, 0, 0), (318, .invokevirtual 0, 281, 6, 21), (321, .pop, 0, 0, 0), (322, .goto 0, 1702, 0, 0)]
def B_Lw_law_325 : List Ent := [(325, .aload 0, 1, 0, 0), (326, .aload 0, 0, 0, 0), (327, .iload 0, 4, 0, 0), (329, .iconst 0, 0, 0, 1), (330, .iadd, 0, 0, 0), (331, .iaload, 0, 0, 0), (332, .aload 0, 3, 0, 0), (333, .invokestatic 0, 323, 3, 0), (336, .istore 0, 5, 0, 0), (338, .aload 0, 2, 0, 0), (339, .aload 0, 0, 0, 0), (340, .iload 0, 4, 0, 0), (342, .iconst 0, 0, 0, 1), (343, .iadd, 0, 0, 0), (344, .iaload, 0, 0, 0), (345, .invokevirtual 0, 321, 2, 21), (348, .istore 0, 6, 0, 0), (350, .goto 0, 1702, 0, 0)]
def B_Lw_law_353 : List Ent := [(353, .aload 0, 1, 0, 0), (354, .invokevirtual 0, 119, 1, 20), (357, .pop, 0, 0, 0), (358, .aload 0, 2, 0, 0), (359, .invokevirtual 0, 282, 1, 21), (362, .pop, 0, 0, 0), (363, .goto 0, 1702, 0, 0)]
def B_Lw_law_366 : List Ent := [(366, .aload 0, 1, 0, 0), (367, .aload 0, 0, 0, 0), (368, .iload 0, 4, 0, 0), (370, .iconst 0, 0, 0, 1), (371, .iadd, 0, 0, 0), (372, .iaload, 0, 0, 0), (373, .aload 0, 3, 0, 0), (374, .invokestatic 0, 324, 3, 0), (377, .istore 0, 5, 0, 0), (379, .aload 0, 2, 0, 0), (380, .aload 0, 0, 0, 0), (381, .iload 0, 4, 0, 0), (383, .iconst 0, 0, 0, 1), (384, .iadd, 0, 0, 0), (385, .iaload, 0, 0, 0), (386, .invokevirtual 0, 226, 2, 21), (389, .istore 0, 6, 0, 0), (391, .goto 0, 1702, 0, 0)]
def B_Lw_law_394 : List Ent := [(394, .aload 0, 1, 0, 0), (395, .aload 0, 0, 0, 0), (396, .iload 0, 4, 0, 0), (398, .iconst 0, 0, 0, 1), (399, .iadd, 0, 0, 0), (400, .iaload, 0, 0, 0), (401, .aload 0, 3, 0, 0), (402, .invokestatic 0, 325, 3, 0), (405, .istore 0, 5, 0, 0), (407, .aload 0, 2, 0, 0), (408, .aload 0, 0, 0, 0), (409, .iload 0, 4, 0, 0), (411, .iconst 0, 0, 0, 1), (412, .iadd, 0, 0, 0), (413, .iaload, 0, 0, 0), (414, .invokevirtual 0, 227, 2, 21), (417, .istore 0, 6, 0, 0), (419, .goto 0, 1702, 0, 0)]
def B_Lw_law_422 : List Ent := [(422, .aload 0, 1, 0, 0), (423, .aload 0, 0, 0, 0), (424, .iload 0, 4, 0, 0), (426, .iconst 0, 0, 0, 1), (427, .iadd, 0, 0, 0), (428, .iaload, 0, 0, 0), (429, .aload 0, 0, 0, 0), (430, .iload 0, 4, 0, 0), (432, .iconst 0, 0, 0, 2), (433, .iadd, 0, 0, 0), (434, .iaload, 0, 0, 0), (435, .aload 0, 3, 0, 0), (436, .invokestatic 0, 326, 4, 0), (439, .istore 0, 5, 0, 0), (441, .aload 0, 2, 0, 0), (442, .aload 0, 0, 0, 0), (443, .iload 0, 4, 0, 0), (445, .iconst 0, 0, 0, 1), (446, .iadd, 0, 0, 0), (447, .iaload, 0, 0, 0), (448, .aload 0, 0, 0, 0), (449, .iload 0, 4, 0, 0), (451, .iconst 0, 0, 0, 2), (452, .iadd, 0, 0, 0), (453, .iaload, 0, 0, 0), (454, .invokevirtual 0, 229, 3, 21), (457, .istore 0, 6, 0, 0), (459, .goto 0, 1702, 0, 0)]
def B_Lw_law_462 : List Ent := [(462, .aload 0, 1, 0, 0), (463, .aload 0, 0, 0, 0), (464, .iload 0, 4, 0, 0), (466, .iconst 0, 0, 0, 1), (467, .iadd, 0, 0, 0), (468, .iaload, 0, 0, 0), (469, .aload 0, 0, 0, 0), (470, .iload 0, 4, 0, 0), (472, .iconst 0, 0, 0, 2), (473, .iadd, 0, 0, 0), (474, .iaload, 0, 0, 0), (475, .aload 0, 3, 0, 0), (476, .invokestatic 0, 327, 4, 0), (479, .istore 0, 5, 0, 0), (481, .aload 0, 2, 0, 0), (482, .aload 0, 0, 0, 0), (483, .iload 0, 4, 0, 0), (485, .iconst 0, 0, 0, 1), (486, .iadd, 0, 0, 0), (487, .iaload, 0, 0, 0), (488, .aload 0, 0, 0, 0), (489, .iload 0, 4, 0, 0), (491, .iconst 0, 0, 0, 2), (492, .iadd, 0, 0, 0), (493, .iaload, 0, 0, 0), (494, .invokevirtual 0, 232, 3, 21), (497, .istore 0, 6, 0, 0), (499, .goto 0, 1702, 0, 0)]
def B_Lw_law_502 : List Ent := [(502, .aload 0, 1, 0, 0), (503, .aload 0, 0, 0, 0), (504, .iload 0, 4, 0, 0), (506, .iconst 0, 0, 0, 1), (507, .iadd, 0, 0, 0), (508, .iaload, 0, 0, 0), (509, .invokevirtual 0, 130, 2, 20), (512, .pop, 0, 0, 0), (513, .aload 0, 2, 0, 0), (514, .aload 0, 0, 0, 0), (515, .iload 0, 4, 0, 0), (517, .iconst 0, 0, 0, 1), (518, .iadd, 0, 0, 0), (519, .iaload, 0, 0, 0), (520, .invokevirtual 0, 233, 2, 21), (523, .pop, 0, 0, 0), (524, .goto 0, 1702, 0, 0)]
def B_Lw_law_527 : List Ent := [(527, .aload 0, 1, 0, 0), (528, .aload 0, 0, 0, 0), (529, .iload 0, 4, 0, 0), (531, .iconst 0, 0, 0, 1), (532, .iadd, 0, 0, 0), (533, .iaload, 0, 0, 0), (534, .aload 0, 0, 0, 0), (535, .iload 0, 4, 0, 0), (537, .iconst 0, 0, 0, 2), (538, .iadd, 0, 0, 0), (539, .iaload, 0, 0, 0), (540, .aload 0, 3, 0, 0), (541, .invokestatic 0, 328, 4, 0), (544, .istore 0, 5, 0, 0), (546, .aload 0, 2, 0, 0), (547, .aload 0, 0, 0, 0), (548, .iload 0, 4, 0, 0), (550, .iconst 0, 0, 0, 1), (551, .iadd, 0, 0, 0), (552, .iaload, 0, 0, 0), (553, .aload 0, 0, 0, 0), (554, .iload 0, 4, 0, 0), (556, .iconst 0, 0, 0, 2), (557, .iadd, 0, 0, 0), (558, .iaload, 0, 0, 0), (559, .invokevirtual 0, 234, 3, 21), (562, .istore 0, 6, 0, 0), (564, .goto 0, 1702, 0, 0)]
def B_Lw_law_567 : List Ent := [(567, .aload 0, 1, 0, 0), (568, .aload 0, 0, 0, 0), (569, .iload 0, 4, 0, 0), (571, .iconst 0, 0, 0, 1), (572, .iadd, 0, 0, 0), (573, .iaload, 0, 0, 0), (574, .aload 0, 0, 0, 0), (575, .iload 0, 4, 0, 0), (577, .iconst 0, 0, 0, 2), (578, .iadd, 0, 0, 0), (579, .iaload, 0, 0, 0), (580, .aload 0, 0, 0, 0), (581, .iload 0, 4, 0, 0), (583, .iconst 0, 0, 0, 3), (584, .iadd, 0, 0, 0), (585, .iaload, 0, 0, 0), (586, .aload 0, 3, 0, 0), (587, .invokestatic 0, 329, 5, 0), (590, .istore 0, 5, 0, 0), (592, .aload 0, 2, 0, 0), (593, .aload 0, 0, 0, 0), (594, .iload 0, 4, 0, 0), (596, .iconst 0, 0, 0, 1), (597, .iadd, 0, 0, 0), (598, .iaload, 0, 0, 0), (599, .aload 0, 0, 0, 0), (600, .iload 0, 4, 0, 0), (602, .iconst 0, 0, 0, 2), (603, .iadd, 0, 0, 0), (604, .iaload, 0, 0, 0), (605, .aload 0, 0, 0, 0), (606, .iload 0, 4, 0, 0), (608, .iconst 0, 0, 0, 3), (609, .iadd, 0, 0, 0), (610, .iaload, 0, 0, 0), (611, .invokevirtual 0, 235, 4, 21), (614, .istore 0, 6, 0, 0), (616, .goto 0, 1702, 0, 0)]
def B_Lw_law_619 : List Ent := [(619, .aload 0, 1, 0, 0), (620, .aload 0, 0, 0, 0), (621, .iload 0, 4, 0, 0), (623, .iconst 0, 0, 0, 1), (624, .iadd, 0, 0, 0), (625, .iaload, 0, 0, 0), (626, .aload 0, 0, 0, 0), (627, .iload 0, 4, 0, 0), (629, .iconst 0, 0, 0, 2), (630, .iadd, 0, 0, 0), (631, .iaload, 0, 0, 0), (632, .ifCond .eq 0, 639, 0, 0), (635, .iconst 0, 0, 0, 1), (636, .goto 0, 640, 0, 0)]
def B_Lw_law_639 : List Ent := [(639, .iconst 0, 0, 0, 0), (640, .goto_w 0, 640, 0, 0)]
def B_Lw_law_640 : List Ent := [(640, .aload 0, 3, 0, 0), (641, .invokestatic 0, 330, 4, 0), (644, .istore 0, 5, 0, 0), (646, .aload 0, 2, 0, 0), (647, .aload 0, 0, 0, 0), (648, .iload 0, 4, 0, 0), (650, .iconst 0, 0, 0, 1), (651, .iadd, 0, 0, 0), (652, .iaload, 0, 0, 0), (653, .aload 0, 0, 0, 0), (654, .iload 0, 4, 0, 0), (656, .iconst 0, 0, 0, 2), (657, .iadd, 0, 0, 0), (658, .iaload, 0, 0, 0), (659, .ifCond .eq 0, 666, 0, 0), (662, .iconst 0, 0, 0, 1), (663, .goto 0, 667, 0, 0)]
def B_Lw_law_666 : List Ent := [(666, .iconst 0, 0, 0, 0), (667, .goto_w 0, 667, 0, 0)]
def B_Lw_law_667 : List Ent := [(667, .invokevirtual 0, 236, 3, 21), (670, .istore 0, 6, 0, 0), (672, .goto 0, 1702, 0, 0)]
def B_Lw_law_675 : List Ent := [(675, .aload 0, 1, 0, 0), (676, .aload 0, 0, 0, 0), (677, .iload 0, 4, 0, 0), (679, .iconst 0, 0, 0, 1), (680, .iadd, 0, 0, 0), (681, .iaload, 0, 0, 0), (682, .aload 0, 3, 0, 0), (683, .invokestatic 0, 331, 3, 0), (686, .istore 0, 5, 0, 0), (688, .aload 0, 2, 0, 0), (689, .aload 0, 0, 0, 0), (690, .iload 0, 4, 0, 0), (692, .iconst 0, 0, 0, 1), (693, .iadd, 0, 0, 0), (694, .iaload, 0, 0, 0), (695, .invokevirtual 0, 237, 2, 21), (698, .istore 0, 6, 0, 0), (700, .goto 0, 1702, 0, 0)]
def B_Lw_law_703 : List Ent := [(703, .aload 0, 1, 0, 0), (704, .invokevirtual 0, 135, 1, 20), (707, .pop, 0, 0, 0), (708, .aload 0, 2, 0, 0), (709, .invokevirtual 0, 238, 1, 21), (712, .pop, 0, 0, 0), (713, .goto 0, 1702, 0, 0)]
def B_Lw_law_716 : List Ent := [(716, .aload 0, 1, 0, 0), (717, .aload 0, 0, 0, 0), (718, .iload 0, 4, 0, 0), (720, .iconst 0, 0, 0, 1), (721, .iadd, 0, 0, 0), (722, .iaload, 0, 0, 0), (723, .aload 0, 0, 0, 0), (724, .iload 0, 4, 0, 0), (726, .iconst 0, 0, 0, 2), (727, .iadd, 0, 0, 0), (728, .iaload, 0, 0, 0), (729, .aload 0, 3, 0, 0), (730, .invokestatic 0, 332, 4, 0), (733, .istore 0, 5, 0, 0), (735, .aload 0, 2, 0, 0), (736, .aload 0, 0, 0, 0), (737, .iload 0, 4, 0, 0), (739, .iconst 0, 0, 0, 1), (740, .iadd, 0, 0, 0), (741, .iaload, 0, 0, 0), (742, .aload 0, 0, 0, 0), (743, .iload 0, 4, 0, 0), (745, .iconst 0, 0, 0, 2), (746, .iadd, 0, 0, 0), (747, .iaload, 0, 0, 0), (748, .invokevirtual 0, 239, 3, 21), (751, .istore 0, 6, 0, 0), (753, .aload 0, 2, 0, 0), (754, .invokevirtual 0, 177, 1, 21), (757, .iload 0, 5, 0, 0), (759, .if_icmp .eq 0, 764, 0, 0), (762, .iconst 0, 0, 0, 0), (763, .ireturn, 0, 1, 0)]
def B_Lw_law_764 : List Ent := [(764, .iload 0, 5, 0, 0), (766, .ifCond .ne 0, 788, 0, 0), (769, .aload 0, 3, 0, 0), (770, .iconst 0, 0, 0, 0), (771, .laload, 0, 0, 0), (772, .iload 0, 6, 0, 0), (774, .ifCond .eq 0, 781, 0, 0), (777, .lconst 1, 0, 0, 0), (778, .goto 0, 782, 0, 0)]
def B_Lw_law_781 : List Ent := [(781, .lconst 0, 0, 0, 0), (782, .goto_w 0, 782, 0, 0)]
def B_Lw_law_782 : List Ent := [(782, .lcmp, 0, 0, 0), (783, .ifCond .eq 0, 788, 0, 0), (786, .iconst 0, 0, 0, 0), (787, .ireturn, 0, 1, 0)]
def B_Lw_law_788 : List Ent := [(788, .goto 0, 1702, 0, 0)]
def B_Lw_law_791 : List Ent := [(791, .aload 0, 1, 0, 0), (792, .aload 0, 0, 0, 0), (793, .iload 0, 4, 0, 0), (795, .iconst 0, 0, 0, 1), (796, .iadd, 0, 0, 0), (797, .iaload, 0, 0, 0), (798, .aload 0, 0, 0, 0), (799, .iload 0, 4, 0, 0), (801, .iconst 0, 0, 0, 2), (802, .iadd, 0, 0, 0), (803, .iaload, 0, 0, 0), (804, .aload 0, 3, 0, 0), (805, .invokestatic 0, 333, 4, 0), (808, .istore 0, 5, 0, 0), (810, .aload 0, 2, 0, 0), (811, .aload 0, 0, 0, 0), (812, .iload 0, 4, 0, 0), (814, .iconst 0, 0, 0, 1), (815, .iadd, 0, 0, 0), (816, .iaload, 0, 0, 0), (817, .aload 0, 0, 0, 0), (818, .iload 0, 4, 0, 0), (820, .iconst 0, 0, 0, 2), (821, .iadd, 0, 0, 0), (822, .iaload, 0, 0, 0), (823, .invokevirtual 0, 241, 3, 21), (826, .istore 0, 6, 0, 0), (828, .goto 0, 1702, 0, 0)]
def B_Lw_law_831 : List Ent := [(831, .aload 0, 1, 0, 0), (832, .aload 0, 0, 0, 0), (833, .iload 0, 4, 0, 0), (835, .iconst 0, 0, 0, 1), (836, .iadd, 0, 0, 0), (837, .iaload, 0, 0, 0), (838, .aload 0, 3, 0, 0), (839, .invokestatic 0, 334, 3, 0), (842, .istore 0, 5, 0, 0), (844, .aload 0, 2, 0, 0), (845, .aload 0, 0, 0, 0), (846, .iload 0, 4, 0, 0), (848, .iconst 0, 0, 0, 1), (849, .iadd, 0, 0, 0), (850, .iaload, 0, 0, 0), (851, .invokevirtual 0, 242, 2, 21), (854, .istore 0, 6, 0, 0), (856, .goto 0, 1702, 0, 0)]
def B_Lw_law_859 : List Ent := [(859, .aload 0, 1, 0, 0), (860, .aload 0, 0, 0, 0), (861, .iload 0, 4, 0, 0), (863, .iconst 0, 0, 0, 1), (864, .iadd, 0, 0, 0), (865, .iaload, 0, 0, 0), (866, .aload 0, 3, 0, 0), (867, .invokestatic 0, 335, 3, 0), (870, .istore 0, 5, 0, 0), (872, .aload 0, 2, 0, 0), (873, .aload 0, 0, 0, 0), (874, .iload 0, 4, 0, 0), (876, .iconst 0, 0, 0, 1), (877, .iadd, 0, 0, 0), (878, .iaload, 0, 0, 0), (879, .invokevirtual 0, 243, 2, 21), (882, .istore 0, 6, 0, 0), (884, .goto 0, 1702, 0, 0)]
def B_Lw_law_887 : List Ent := [(887, .aload 0, 1, 0, 0), (888, .invokevirtual 0, 140, 1, 20), (891, .pop, 0, 0, 0), (892, .aload 0, 2, 0, 0), (893, .invokevirtual 0, 244, 1, 21), (896, .pop, 0, 0, 0), (897, .goto 0, 1702, 0, 0)]
def B_Lw_law_900 : List Ent := [(900, .aload 0, 1, 0, 0), (901, .aload 0, 0, 0, 0), (902, .iload 0, 4, 0, 0), (904, .iconst 0, 0, 0, 1), (905, .iadd, 0, 0, 0), (906, .iaload, 0, 0, 0), (907, .invokevirtual 0, 141, 2, 20), (910, .pop, 0, 0, 0), (911, .aload 0, 2, 0, 0), (912, .aload 0, 0, 0, 0), (913, .iload 0, 4, 0, 0), (915, .iconst 0, 0, 0, 1), (916, .iadd, 0, 0, 0), (917, .iaload, 0, 0, 0), (918, .invokevirtual 0, 245, 2, 21), (921, .pop, 0, 0, 0), (922, .goto 0, 1702, 0, 0)]
def B_Lw_law_925 : List Ent := [(925, .aload 0, 1, 0, 0), (926, .aload 0, 0, 0, 0), (927, .iload 0, 4, 0, 0), (929, .iconst 0, 0, 0, 1), (930, .iadd, 0, 0, 0), (931, .iaload, 0, 0, 0), (932, .aload 0, 3, 0, 0), (933, .invokestatic 0, 336, 3, 0), (936, .istore 0, 5, 0, 0), (938, .aload 0, 2, 0, 0), (939, .aload 0, 0, 0, 0), (940, .iload 0, 4, 0, 0), (942, .iconst 0, 0, 0, 1), (943, .iadd, 0, 0, 0), (944, .iaload, 0, 0, 0), (945, .invokevirtual 0, 247, 2, 21), (948, .istore 0, 6, 0, 0), (950, .goto 0, 1702, 0, 0)]
def B_Lw_law_953 : List Ent := [(953, .aload 0, 1, 0, 0), (954, .invokevirtual 0, 144, 1, 20), (957, .pop, 0, 0, 0), (958, .aload 0, 2, 0, 0), (959, .invokevirtual 0, 248, 1, 21), (962, .pop, 0, 0, 0), (963, .goto 0, 1702, 0, 0)]
def B_Lw_law_966 : List Ent := [(966, .aload 0, 1, 0, 0), (967, .aload 0, 0, 0, 0), (968, .iload 0, 4, 0, 0), (970, .iconst 0, 0, 0, 1), (971, .iadd, 0, 0, 0), (972, .iaload, 0, 0, 0), (973, .aload 0, 3, 0, 0), (974, .invokestatic 0, 337, 3, 0), (977, .istore 0, 5, 0, 0), (979, .aload 0, 2, 0, 0), (980, .aload 0, 0, 0, 0), (981, .iload 0, 4, 0, 0), (983, .iconst 0, 0, 0, 1), (984, .iadd, 0, 0, 0), (985, .iaload, 0, 0, 0), (986, .invokevirtual 0, 249, 2, 21), (989, .istore 0, 6, 0, 0), (991, .goto 0, 1702, 0, 0)]
def B_Lw_law_994 : List Ent := [(994, .aload 0, 1, 0, 0), (995, .aload 0, 0, 0, 0), (996, .iload 0, 4, 0, 0), (998, .iconst 0, 0, 0, 1), (999, .iadd, 0, 0, 0), (1000, .iaload, 0, 0, 0), (1001, .aload 0, 0, 0, 0), (1002, .iload 0, 4, 0, 0), (1004, .iconst 0, 0, 0, 2), (1005, .iadd, 0, 0, 0), (1006, .iaload, 0, 0, 0), (1007, .aload 0, 3, 0, 0), (1008, .invokestatic 0, 338, 4, 0), (1011, .istore 0, 5, 0, 0), (1013, .aload 0, 2, 0, 0), (1014, .aload 0, 0, 0, 0), (1015, .iload 0, 4, 0, 0), (1017, .iconst 0, 0, 0, 1), (1018, .iadd, 0, 0, 0), (1019, .iaload, 0, 0, 0), (1020, .aload 0, 0, 0, 0), (1021, .iload 0, 4, 0, 0), (1023, .iconst 0, 0, 0, 2), (1024, .iadd, 0, 0, 0), (1025, .iaload, 0, 0, 0), (1026, .invokevirtual 0, 251, 3, 21), (1029, .istore 0, 6, 0, 0), (1031, .goto 0, 1702, 0, 0)]
def B_Lw_law_1034 : List Ent := [(1034, .aload 0, 1, 0, 0), (1035, .aload 0, 0, 0, 0), (1036, .iload 0, 4, 0, 0), (1038, .iconst 0, 0, 0, 1), (1039, .iadd, 0, 0, 0), (1040, .iaload, 0, 0, 0), (1041, .aload 0, 0, 0, 0), (1042, .iload 0, 4, 0, 0), (1044, .iconst 0, 0, 0, 2), (1045, .iadd, 0, 0, 0), (1046, .iaload, 0, 0, 0), (1047, .aload 0, 3, 0, 0), (1048, .invokestatic 0, 339, 4, 0), (1051, .istore 0, 5, 0, 0), (1053, .aload 0, 2, 0, 0), (1054, .aload 0, 0, 0, 0), (1055, .iload 0, 4, 0, 0), (1057, .iconst 0, 0, 0, 1), (1058, .iadd, 0, 0, 0), (1059, .iaload, 0, 0, 0), (1060, .aload 0, 0, 0, 0), (1061, .iload 0, 4, 0, 0), (1063, .iconst 0, 0, 0, 2), (1064, .iadd, 0, 0, 0), (1065, .iaload, 0, 0, 0), (1066, .invokevirtual 0, 252, 3, 21), (1069, .istore 0, 6, 0, 0), (1071, .goto 0, 1702, 0, 0)]
def B_Lw_law_1074 : List Ent := [(1074, .aload 0, 1, 0, 0), (1075, .aload 0, 0, 0, 0), (1076, .iload 0, 4, 0, 0), (1078, .iconst 0, 0, 0, 1), (1079, .iadd, 0, 0, 0), (1080, .iaload, 0, 0, 0), (1081, .aload 0, 0, 0, 0), (1082, .iload 0, 4, 0, 0), (1084, .iconst 0, 0, 0, 2), (1085, .iadd, 0, 0, 0), (1086, .iaload, 0, 0, 0), (1087, .aload 0, 3, 0, 0), (1088, .invokestatic 0, 340, 4, 0), (1091, .istore 0, 5, 0, 0), (1093, .aload 0, 2, 0, 0), (1094, .aload 0, 0, 0, 0), (1095, .iload 0, 4, 0, 0), (1097, .iconst 0, 0, 0, 1), (1098, .iadd, 0, 0, 0), (1099, .iaload, 0, 0, 0), (1100, .aload 0, 0, 0, 0), (1101, .iload 0, 4, 0, 0), (1103, .iconst 0, 0, 0, 2), (1104, .iadd, 0, 0, 0), (1105, .iaload, 0, 0, 0), (1106, .invokevirtual 0, 253, 3, 21), (1109, .istore 0, 6, 0, 0), (1111, .goto 0, 1702, 0, 0)]
def B_Lw_law_1114 : List Ent := [(1114, .aload 0, 1, 0, 0), (1115, .aload 0, 0, 0, 0), (1116, .iload 0, 4, 0, 0), (1118, .iconst 0, 0, 0, 1), (1119, .iadd, 0, 0, 0), (1120, .iaload, 0, 0, 0), (1121, .aload 0, 3, 0, 0), (1122, .invokestatic 0, 341, 3, 0), (1125, .istore 0, 5, 0, 0), (1127, .aload 0, 2, 0, 0), (1128, .aload 0, 0, 0, 0), (1129, .iload 0, 4, 0, 0), (1131, .iconst 0, 0, 0, 1), (1132, .iadd, 0, 0, 0), (1133, .iaload, 0, 0, 0), (1134, .invokevirtual 0, 254, 2, 21), (1137, .istore 0, 6, 0, 0), (1139, .goto 0, 1702, 0, 0)]
def B_Lw_law_1142 : List Ent := [(1142, .aload 0, 1, 0, 0), (1143, .aload 0, 0, 0, 0), (1144, .iload 0, 4, 0, 0), (1146, .iconst 0, 0, 0, 1), (1147, .iadd, 0, 0, 0), (1148, .iaload, 0, 0, 0), (1149, .aload 0, 3, 0, 0), (1150, .invokestatic 0, 342, 3, 0), (1153, .istore 0, 5, 0, 0), (1155, .aload 0, 2, 0, 0), (1156, .aload 0, 0, 0, 0), (1157, .iload 0, 4, 0, 0), (1159, .iconst 0, 0, 0, 1), (1160, .iadd, 0, 0, 0), (1161, .iaload, 0, 0, 0), (1162, .invokevirtual 0, 255, 2, 21), (1165, .istore 0, 6, 0, 0), (1167, .goto 0, 1702, 0, 0)]
def B_Lw_law_1170 : List Ent := [(1170, .aload 0, 1, 0, 0), (1171, .invokevirtual 0, 151, 1, 20), (1174, .pop, 0, 0, 0), (1175, .aload 0, 2, 0, 0), (1176, .invokevirtual 0, 256, 1, 21), (1179, .pop, 0, 0, 0), (1180, .goto 0, 1702, 0, 0)]
def B_Lw_law_1183 : List Ent := [(1183, .aload 0, 1, 0, 0), (1184, .invokevirtual 0, 152, 1, 20), (1187, .pop, 0, 0, 0), (1188, .aload 0, 2, 0, 0), (1189, .invokevirtual 0, 257, 1, 21), (1192, .pop, 0, 0, 0), (1193, .goto 0, 1702, 0, 0)]
def B_Lw_law_1196 : List Ent := [(1196, .aload 0, 1, 0, 0), (1197, .invokevirtual 0, 153, 1, 20), (1200, .dstore 0, 5, 0, 0), (1202, .aload 0, 2, 0, 0), (1203, .invokevirtual 0, 258, 1, 21), (1206, .dstore 0, 7, 0, 0), (1208, .goto 0, 1702, 0, 0)]
def B_Lw_law_1211 : List Ent := [(1211, .aload 0, 1, 0, 0), (1212, .invokevirtual 0, 154, 1, 20), (1215, .f2d, 0, 0, 0), (1216, .dstore 0, 5, 0, 0), (1218, .aload 0, 2, 0, 0), (1219, .invokevirtual 0, 259, 1, 21), (1222, .f2d, 0, 0, 0), (1223, .dstore 0, 7, 0, 0), (1225, .goto 0, 1702, 0, 0)]
def B_Lw_law_1228 : List Ent := [(1228, .aload 0, 1, 0, 0), (1229, .invokevirtual 0, 155, 1, 20), (1232, .pop, 0, 0, 0), (1233, .aload 0, 2, 0, 0), (1234, .invokevirtual 0, 260, 1, 21), (1237, .pop, 0, 0, 0), (1238, .goto 0, 1702, 0, 0)]
def B_Lw_law_1241 : List Ent := [(1241, .aload 0, 1, 0, 0), (1242, .aload 0, 0, 0, 0), (1243, .iload 0, 4, 0, 0), (1245, .iconst 0, 0, 0, 1), (1246, .iadd, 0, 0, 0), (1247, .iaload, 0, 0, 0), (1248, .aload 0, 3, 0, 0), (1249, .invokestatic 0, 343, 3, 0), (1252, .istore 0, 5, 0, 0), (1254, .aload 0, 2, 0, 0), (1255, .aload 0, 0, 0, 0), (1256, .iload 0, 4, 0, 0), (1258, .iconst 0, 0, 0, 1), (1259, .iadd, 0, 0, 0), (1260, .iaload, 0, 0, 0), (1261, .invokevirtual 0, 261, 2, 21), (1264, .istore 0, 6, 0, 0), (1266, .goto 0, 1702, 0, 0)]
def B_Lw_law_1269 : List Ent := [(1269, .aload 0, 1, 0, 0), (1270, .aload 0, 0, 0, 0), (1271, .iload 0, 4, 0, 0), (1273, .iconst 0, 0, 0, 1), (1274, .iadd, 0, 0, 0), (1275, .iaload, 0, 0, 0), (1276, .aload 0, 0, 0, 0), (1277, .iload 0, 4, 0, 0), (1279, .iconst 0, 0, 0, 2), (1280, .iadd, 0, 0, 0), (1281, .iaload, 0, 0, 0), (1282, .aload 0, 3, 0, 0), (1283, .invokestatic 0, 344, 4, 0), (1286, .istore 0, 5, 0, 0), (1288, .aload 0, 2, 0, 0), (1289, .aload 0, 0, 0, 0), (1290, .iload 0, 4, 0, 0), (1292, .iconst 0, 0, 0, 1), (1293, .iadd, 0, 0, 0), (1294, .iaload, 0, 0, 0), (1295, .aload 0, 0, 0, 0), (1296, .iload 0, 4, 0, 0), (1298, .iconst 0, 0, 0, 2), (1299, .iadd, 0, 0, 0), (1300, .iaload, 0, 0, 0), (1301, .invokevirtual 0, 263, 3, 21), (1304, .istore 0, 6, 0, 0), (1306, .goto 0, 1702, 0, 0)]
def B_Lw_law_1309 : List Ent := [(1309, .aload 0, 1, 0, 0), (1310, .invokevirtual 0, 159, 1, 20), (1313, .pop, 0, 0, 0), (1314, .aload 0, 2, 0, 0), (1315, .invokevirtual 0, 264, 1, 21), (1318, .pop, 0, 0, 0), (1319, .goto 0, 1702, 0, 0)]
def B_Lw_law_1322 : List Ent := [(1322, .aload 0, 1, 0, 0), (1323, .invokevirtual 0, 160, 1, 20), (1326, .pop, 0, 0, 0), (1327, .aload 0, 2, 0, 0), (1328, .invokevirtual 0, 265, 1, 21), (1331, .pop, 0, 0, 0), (1332, .goto 0, 1702, 0, 0)]
def B_Lw_law_1335 : List Ent := [(1335, .aload 0, 1, 0, 0), (1336, .aload 0, 0, 0, 0), (1337, .iload 0, 4, 0, 0), (1339, .iconst 0, 0, 0, 1), (1340, .iadd, 0, 0, 0), (1341, .iaload, 0, 0, 0), (1342, .aload 0, 3, 0, 0), (1343, .invokestatic 0, 345, 3, 0), (1346, .istore 0, 5, 0, 0), (1348, .aload 0, 2, 0, 0), (1349, .aload 0, 0, 0, 0), (1350, .iload 0, 4, 0, 0), (1352, .iconst 0, 0, 0, 1), (1353, .iadd, 0, 0, 0), (1354, .iaload, 0, 0, 0), (1355, .invokevirtual 0, 267, 2, 21), (1358, .istore 0, 6, 0, 0), (1360, .goto 0, 1702, 0, 0)]
def B_Lw_law_1363 : List Ent := [(1363, .aload 0, 1, 0, 0), (1364, .aload 0, 0, 0, 0), (1365, .iload 0, 4, 0, 0), (1367, .iconst 0, 0, 0, 1), (1368, .iadd, 0, 0, 0), (1369, .iaload, 0, 0, 0), (1370, .aload 0, 0, 0, 0), (1371, .iload 0, 4, 0, 0), (1373, .iconst 0, 0, 0, 2), (1374, .iadd, 0, 0, 0), (1375, .iaload, 0, 0, 0), (1376, .aload 0, 3, 0, 0), (1377, .invokestatic 0, 346, 4, 0), (1380, .istore 0, 5, 0, 0), (1382, .aload 0, 2, 0, 0), (1383, .aload 0, 0, 0, 0), (1384, .iload 0, 4, 0, 0), (1386, .iconst 0, 0, 0, 1), (1387, .iadd, 0, 0, 0), (1388, .iaload, 0, 0, 0), (1389, .aload 0, 0, 0, 0), (1390, .iload 0, 4, 0, 0), (1392, .iconst 0, 0, 0, 2), (1393, .iadd, 0, 0, 0), (1394, .iaload, 0, 0, 0), (1395, .invokevirtual 0, 268, 3, 21), (1398, .istore 0, 6, 0, 0), (1400, .goto 0, 1702, 0, 0)]
def B_Lw_law_1403 : List Ent := [(1403, .aload 0, 1, 0, 0), (1404, .aload 0, 0, 0, 0), (1405, .iload 0, 4, 0, 0), (1407, .iconst 0, 0, 0, 1), (1408, .iadd, 0, 0, 0), (1409, .iaload, 0, 0, 0), (1410, .aload 0, 3, 0, 0), (1411, .invokestatic 0, 347, 3, 0), (1414, .istore 0, 5, 0, 0), (1416, .aload 0, 2, 0, 0), (1417, .aload 0, 0, 0, 0), (1418, .iload 0, 4, 0, 0), (1420, .iconst 0, 0, 0, 1), (1421, .iadd, 0, 0, 0), (1422, .iaload, 0, 0, 0), (1423, .invokevirtual 0, 315, 2, 21), (1426, .istore 0, 6, 0, 0), (1428, .goto 0, 1702, 0, 0)]
def B_Lw_law_1431 : List Ent := [(1431, .aload 0, 1, 0, 0), (1432, .aload 0, 0, 0, 0), (1433, .iload 0, 4, 0, 0), (1435, .iconst 0, 0, 0, 1), (1436, .iadd, 0, 0, 0), (1437, .iaload, 0, 0, 0), (1438, .aload 0, 3, 0, 0), (1439, .invokestatic 0, 348, 3, 0), (1442, .istore 0, 5, 0, 0), (1444, .aload 0, 2, 0, 0), (1445, .aload 0, 0, 0, 0), (1446, .iload 0, 4, 0, 0), (1448, .iconst 0, 0, 0, 1), (1449, .iadd, 0, 0, 0), (1450, .iaload, 0, 0, 0), (1451, .invokevirtual 0, 269, 2, 21), (1454, .istore 0, 6, 0, 0), (1456, .goto 0, 1702, 0, 0)]
def B_Lw_law_1459 : List Ent := [(1459, .aload 0, 1, 0, 0), (1460, .aload 0, 0, 0, 0), (1461, .iload 0, 4, 0, 0), (1463, .iconst 0, 0, 0, 1), (1464, .iadd, 0, 0, 0), (1465, .iaload, 0, 0, 0), (1466, .aload 0, 3, 0, 0), (1467, .invokestatic 0, 349, 3, 0), (1470, .istore 0, 5, 0, 0), (1472, .aload 0, 2, 0, 0), (1473, .aload 0, 0, 0, 0), (1474, .iload 0, 4, 0, 0), (1476, .iconst 0, 0, 0, 1), (1477, .iadd, 0, 0, 0), (1478, .iaload, 0, 0, 0), (1479, .invokevirtual 0, 270, 2, 21), (1482, .istore 0, 6, 0, 0), (1484, .goto 0, 1702, 0, 0)]
def B_Lw_law_1487 : List Ent := [(1487, .aload 0, 1, 0, 0), (1488, .aload 0, 0, 0, 0), (1489, .iload 0, 4, 0, 0), (1491, .iconst 0, 0, 0, 1), (1492, .iadd, 0, 0, 0), (1493, .iaload, 0, 0, 0), (1494, .aload 0, 0, 0, 0), (1495, .iload 0, 4, 0, 0), (1497, .iconst 0, 0, 0, 2), (1498, .iadd, 0, 0, 0), (1499, .iaload, 0, 0, 0), (1500, .ifCond .eq 0, 1507, 0, 0), (1503, .iconst 0, 0, 0, 1), (1504, .goto 0, 1508, 0, 0)]
def B_Lw_law_1507 : List Ent := [(1507, .iconst 0, 0, 0, 0), (1508, .goto_w 0, 1508, 0, 0)]
def B_Lw_law_1508 : List Ent := [(1508, .aload 0, 3, 0, 0), (1509, .invokestatic 0, 350, 4, 0), (1512, .istore 0, 5, 0, 0), (1514, .aload 0, 2, 0, 0), (1515, .aload 0, 0, 0, 0), (1516, .iload 0, 4, 0, 0), (1518, .iconst 0, 0, 0, 1), (1519, .iadd, 0, 0, 0), (1520, .iaload, 0, 0, 0), (1521, .aload 0, 0, 0, 0), (1522, .iload 0, 4, 0, 0), (1524, .iconst 0, 0, 0, 2), (1525, .iadd, 0, 0, 0), (1526, .iaload, 0, 0, 0), (1527, .ifCond .eq 0, 1534, 0, 0), (1530, .iconst 0, 0, 0, 1), (1531, .goto 0, 1535, 0, 0)]
def B_Lw_law_1534 : List Ent := [(1534, .iconst 0, 0, 0, 0), (1535, .goto_w 0, 1535, 0, 0)]
def B_Lw_law_1535 : List Ent := [(1535, .invokevirtual 0, 271, 3, 21), (1538, .istore 0, 6, 0, 0), (1540, .goto 0, 1702, 0, 0)]
def B_Lw_law_1543 : List Ent := [(1543, .aload 0, 1, 0, 0), (1544, .aload 0, 0, 0, 0), (1545, .iload 0, 4, 0, 0), (1547, .iconst 0, 0, 0, 1), (1548, .iadd, 0, 0, 0), (1549, .iaload, 0, 0, 0), (1550, .aload 0, 0, 0, 0), (1551, .iload 0, 4, 0, 0), (1553, .iconst 0, 0, 0, 2), (1554, .iadd, 0, 0, 0), (1555, .iaload, 0, 0, 0), (1556, .ifCond .eq 0, 1563, 0, 0), (1559, .iconst 0, 0, 0, 1), (1560, .goto 0, 1564, 0, 0)]
def B_Lw_law_1563 : List Ent := [(1563, .iconst 0, 0, 0, 0), (1564, .goto_w 0, 1564, 0, 0)]
def B_Lw_law_1564 : List Ent := [(1564, .aload 0, 3, 0, 0), (1565, .invokestatic 0, 351, 4, 0), (1568, .istore 0, 5, 0, 0), (1570, .aload 0, 2, 0, 0), (1571, .aload 0, 0, 0, 0), (1572, .iload 0, 4, 0, 0), (1574, .iconst 0, 0, 0, 1), (1575, .iadd, 0, 0, 0), (1576, .iaload, 0, 0, 0), (1577, .aload 0, 0, 0, 0), (1578, .iload 0, 4, 0, 0), (1580, .iconst 0, 0, 0, 2), (1581, .iadd, 0, 0, 0), (1582, .iaload, 0, 0, 0), (1583, .ifCond .eq 0, 1590, 0, 0), (1586, .iconst 0, 0, 0, 1), (1587, .goto 0, 1591, 0, 0)]
def B_Lw_law_1590 : List Ent := [(1590, .iconst 0, 0, 0, 0), (1591, .goto_w 0, 1591, 0, 0)]
def B_Lw_law_1591 : List Ent := [(1591, .invokevirtual 0, 313, 3, 21), (1594, .istore 0, 6, 0, 0), (1596, .goto 0, 1702, 0, 0)]
def B_Lw_law_1599 : List Ent := [(1599, .aload 0, 1, 0, 0), (1600, .aload 0, 0, 0, 0), (1601, .iload 0, 4, 0, 0), (1603, .iconst 0, 0, 0, 1), (1604, .iadd, 0, 0, 0), (1605, .iaload, 0, 0, 0), (1606, .aload 0, 3, 0, 0), (1607, .invokestatic 0, 352, 3, 0), (1610, .istore 0, 5, 0, 0), (1612, .aload 0, 2, 0, 0), (1613, .aload 0, 0, 0, 0), (1614, .iload 0, 4, 0, 0), (1616, .iconst 0, 0, 0, 1), (1617, .iadd, 0, 0, 0), (1618, .iaload, 0, 0, 0), (1619, .invokevirtual 0, 273, 2, 21), (1622, .istore 0, 6, 0, 0), (1624, .goto 0, 1702, 0, 0)]
def B_Lw_law_1627 : List Ent := [(1627, .aload 0, 1, 0, 0), (1628, .aload 0, 0, 0, 0), (1629, .iload 0, 4, 0, 0), (1631, .iconst 0, 0, 0, 1), (1632, .iadd, 0, 0, 0), (1633, .iaload, 0, 0, 0), (1634, .invokevirtual 0, 171, 2, 20), (1637, .pop, 0, 0, 0), (1638, .aload 0, 2, 0, 0), (1639, .aload 0, 0, 0, 0), (1640, .iload 0, 4, 0, 0), (1642, .iconst 0, 0, 0, 1), (1643, .iadd, 0, 0, 0), (1644, .iaload, 0, 0, 0), (1645, .invokevirtual 0, 274, 2, 21), (1648, .pop, 0, 0, 0), (1649, .goto 0, 1702, 0, 0)]
def B_Lw_law_1652 : List Ent := [(1652, .aload 0, 1, 0, 0), (1653, .invokevirtual 0, 172, 1, 20), (1656, .pop, 0, 0, 0), (1657, .aload 0, 2, 0, 0), (1658, .invokevirtual 0, 277, 1, 21), (1661, .pop, 0, 0, 0), (1662, .goto 0, 1702, 0, 0)]
def B_Lw_law_1665 : List Ent := [(1665, .aload 0, 1, 0, 0), (1666, .invokevirtual 0, 173, 1, 20), (1669, .pop, 0, 0, 0), (1670, .aload 0, 2, 0, 0), (1671, .invokevirtual 0, 278, 1, 21), (1674, .pop, 0, 0, 0), (1675, .goto 0, 1702, 0, 0)]
def B_Lw_law_1678 : List Ent := [(1678, .aload 0, 1, 0, 0), (1679, .invokevirtual 0, 174, 1, 20), (1682, .aload 0, 2, 0, 0), (1683, .invokevirtual 0, 279, 1, 21), (1686, .goto 0, 1702, 0, 0)]
def B_Lw_law_1689 : List Ent := [(1689, .aload 0, 1, 0, 0), (1690, .invokevirtual 0, 175, 1, 20), (1693, .pop, 0, 0, 0), (1694, .aload 0, 2, 0, 0), (1695, .invokevirtual 0, 280, 1, 21), (1698, .pop, 0, 0, 0), (1699, .goto 0, 1702, 0, 0)]
def B_Lw_law_1702 : List Ent := [(1702, .iinc 0 0, 4, 0, 6), (1705, .goto 0, 23, 0, 0)]
def B_Lw_law_1708 : List Ent := [(1708, .iconst 0, 0, 0, 1), (1709, .ireturn, 0, 1, 0)]
def lb_Lw_law : List (Nat × List Ent) := [(0, B_Lw_law_0), (23, B_Lw_law_23), (252, B_Lw_law_252), (325, B_Lw_law_325), (353, B_Lw_law_353), (366, B_Lw_law_366), (394, B_Lw_law_394), (422, B_Lw_law_422), (462, B_Lw_law_462), (502, B_Lw_law_502), (527, B_Lw_law_527), (567, B_Lw_law_567), (619, B_Lw_law_619), (639, B_Lw_law_639), (640, B_Lw_law_640), (666, B_Lw_law_666), (667, B_Lw_law_667), (675, B_Lw_law_675), (703, B_Lw_law_703), (716, B_Lw_law_716), (764, B_Lw_law_764), (781, B_Lw_law_781), (782, B_Lw_law_782), (788, B_Lw_law_788), (791, B_Lw_law_791), (831, B_Lw_law_831), (859, B_Lw_law_859), (887, B_Lw_law_887), (900, B_Lw_law_900), (925, B_Lw_law_925), (953, B_Lw_law_953), (966, B_Lw_law_966), (994, B_Lw_law_994), (1034, B_Lw_law_1034), (1074, B_Lw_law_1074), (1114, B_Lw_law_1114), (1142, B_Lw_law_1142), (1170, B_Lw_law_1170), (1183, B_Lw_law_1183), (1196, B_Lw_law_1196), (1211, B_Lw_law_1211), (1228, B_Lw_law_1228), (1241, B_Lw_law_1241), (1269, B_Lw_law_1269), (1309, B_Lw_law_1309), (1322, B_Lw_law_1322), (1335, B_Lw_law_1335), (1363, B_Lw_law_1363), (1403, B_Lw_law_1403), (1431, B_Lw_law_1431), (1459, B_Lw_law_1459), (1487, B_Lw_law_1487), (1507, B_Lw_law_1507), (1508, B_Lw_law_1508), (1534, B_Lw_law_1534), (1535, B_Lw_law_1535), (1543, B_Lw_law_1543), (1563, B_Lw_law_1563), (1564, B_Lw_law_1564), (1590, B_Lw_law_1590), (1591, B_Lw_law_1591), (1599, B_Lw_law_1599), (1627, B_Lw_law_1627), (1652, B_Lw_law_1652), (1665, B_Lw_law_1665), (1678, B_Lw_law_1678), (1689, B_Lw_law_1689), (1702, B_Lw_law_1702), (1708, B_Lw_law_1708)]
def lbT_22 : List (List (Nat × List Ent)) := [lb_Lw_format, lb_Lw_law]
def lbT_21 : List (List (Nat × List Ent)) := lb_Lw_swapsToEnd :: lb_Lw_ahead :: lb_Lw_far :: lb_Lw_toward :: lb_Lw_part :: lb_Lw_allowedIf :: lb_Lw_partsIf :: lb_Lw_steps :: lb_Lw_swap :: lb_Lw_setMode :: lb_Lw_setWeight :: lb_Lw_addRule :: lb_Lw_dropRule :: lb_Lw_switchRule :: lb_Lw_strike :: lb_Lw_many :: lbT_22
def lbT_20 : List (List (Nat × List Ent)) := lb_Mo_readText :: lb_Mo_load :: lb_TR_readUpTo :: lb_Lw_load :: lb_Lw_size :: lb_Lw_weight :: lb_Lw_nameByte :: lb_Lw_choice :: lb_Lw_distance :: lb_Lw_swapped :: lb_Lw_nearest :: lb_Lw_with :: lb_Lw_holds :: lb_Lw_rule :: lb_Lw_why :: lb_Lw_against :: lbT_21
def lbT_19 : List (List (Nat × List Ent)) := lb_Mo_readList :: lb_Mo_compileCount :: lb_Mo_compileList :: lb_Mo_compileComparison :: lb_Mo_compileName :: lb_Mo_compileFactor :: lb_Mo_compileSimple :: lb_Mo_compileConjunction :: lb_Mo_compileTest :: lb_Mo_many :: lb_Mo_newRule :: lb_Mo_addRule :: lb_Mo_readThing :: lb_Mo_readRule :: lb_Mo_readStrike :: lb_Mo_readClause :: lbT_20
def lbT_18 : List (List (Nat × List Ent)) := lb_Mo_finish :: lb_Mo_check :: lb_Mo_advance :: lb_Mo_isSymbol :: lb_Mo_isWord :: lb_Mo_accept :: lb_Mo_expect :: lb_Mo_value :: lb_Mo_look :: lb_Mo_readNumber :: lb_Mo_isQuoted :: lb_Mo_isNamed :: lb_Mo_named :: lb_Mo_lookName :: lb_Mo_emit :: lb_Mo_enter :: lbT_19
def lbT_17 : List (List (Nat × List Ent)) := lb_Mo_write :: lb_Mo_format :: lb_Mo_formattedByte :: lb_Mo_copy :: lb_Mo_record :: lb_Mo_undoCount :: lb_Mo_undo :: lb_Mo_saveSnapshot :: lb_Mo_restoreSnapshot :: lb_Mo_feed :: lb_Mo_errorPosition :: lb_Mo_byteAt :: lb_Mo_isLetter :: lb_Mo_isDigit :: lb_Mo_scan :: lb_Mo_startText :: lbT_18
def lbT_16 : List (List (Nat × List Ent)) := lb_Mo_strictest :: lb_Mo_bridge :: lb_Mo_meanWeight :: lb_Mo_visitedShare :: lb_Mo_step :: lb_Mo_steps :: lb_Mo_swapRefusal :: lb_Mo_swap :: lb_Mo_back :: lb_Mo_reset :: lb_Mo_replace :: lb_Mo_setMode :: lb_Mo_setWeight :: lb_Mo_dropRule :: lb_Mo_switchRule :: lb_Mo_strike :: lbT_17
def lbT_15 : List (List (Nat × List Ent)) := lb_Mo_heldBy :: lb_Mo_rule :: lb_Mo_why :: lb_Mo_against :: lb_Mo_next :: lb_Mo_trail :: lb_Mo_isMode :: lb_Mo_swapsToEnd :: lb_Mo_bestMode :: lb_Mo_ahead :: lb_Mo_leadsTo :: lb_Mo_far :: lb_Mo_toward :: lb_Mo_part :: lb_Mo_allowedIf :: lb_Mo_partsIf :: lbT_16
def lbT_14 : List (List (Nat × List Ent)) := lb_Mo_rulesOn :: lb_Mo_openOnes :: lb_Mo_size :: lb_Mo_weight :: lb_Mo_lettersOf :: lb_Mo_nameByte :: lb_Mo_only :: lb_Mo_neighbours :: lb_Mo_choice :: lb_Mo_numberOf :: lb_Mo_distance :: lb_Mo_swapped :: lb_Mo_nearest :: lb_Mo_with :: lb_Mo_heaviest :: lb_Mo_holds :: lbT_15
def lbT_13 : List (List (Nat × List Ent)) := lb_Mo_spread :: lb_Mo_clearWays :: lb_Mo_layWays :: lb_Mo_layParts :: lb_Mo_partsNow :: lb_Mo_trailAt :: lb_Mo_placeOf :: lb_Mo_isVisited :: lb_Mo_swapsTo :: lb_Mo_rank :: lb_Mo_nextOf :: lb_Mo_go :: lb_Mo_walk :: lb_Mo_unwind :: lb_Mo_swapsBy :: lb_Mo_struckOnes :: lbT_14
def lbT_12 : List (List (Nat × List Ent)) := lb_Mo_weightOf :: lb_Mo_apart :: lb_Mo_bySwap :: lb_Mo_compares :: lb_Mo_asks :: lb_Mo_passes :: lb_Mo_ofRule :: lb_Mo_setRule :: lb_Mo_isRule :: lb_Mo_isOn :: lb_Mo_holdsFor :: lb_Mo_isStruck :: lb_Mo_barring :: lb_Mo_layAllowed :: lb_Mo_turn :: lb_Mo_allowedBy :: lbT_13
def lbT_11 : List (List (Nat × List Ent)) := lb_Mo_init :: lb_Mo_thrown :: lb_Mo_raise :: lb_Mo_inRange :: lb_Mo_lacks :: lb_Mo_least :: lb_Mo_greatest :: lb_Mo_has :: lb_Mo_bits :: lb_Mo_begin :: lb_Mo_chosen :: lb_Mo_unrank :: lb_Mo_layChoices :: lb_Mo_isChoice :: lb_Mo_areChoices :: lb_Mo_isThing :: lbT_12
def lbT_10 : List (List (Nat × List Ent)) := lb_SC_reset :: lb_SC_setMode :: lb_SC_setWeight :: lb_SC_addRule :: lb_SC_dropRule :: lb_SC_switchRule :: lb_SC_strike :: lb_SC_many :: lb_SC_format :: lb_SC_showName :: lb_SC_show :: lb_SC_formattedByte :: lb_SC_undoCount :: lb_SC_undo :: lb_SC_saveSnapshot :: lb_SC_restoreSnapshot :: lbT_11
def lbT_9 : List (List (Nat × List Ent)) := lb_SC_bestMode :: lb_SC_ahead :: lb_SC_far :: lb_SC_toward :: lb_SC_part :: lb_SC_allowedIf :: lb_SC_partsIf :: lb_SC_strictest :: lb_SC_bridge :: lb_SC_meanWeight :: lb_SC_visitedShare :: lb_SC_step :: lb_SC_goTo :: lb_SC_steps :: lb_SC_swap :: lb_SC_back :: lbT_10
def lbT_8 : List (List (Nat × List Ent)) := lb_SC_needRule :: lb_SC_choice :: lb_SC_numberOf :: lb_SC_distance :: lb_SC_swapped :: lb_SC_nearest :: lb_SC_with :: lb_SC_heaviest :: lb_SC_holds :: lb_SC_rule :: lb_SC_why :: lb_SC_against :: lb_SC_next :: lb_SC_trail :: lb_SC_swapsToEnd :: lb_SC_needMode :: lbT_9
def lbT_7 : List (List (Nat × List Ent)) := lb_Wd_longer :: lb_Wd_isQuoted :: lb_SC_init :: lb_SC_feed :: lb_SC_append :: lb_SC_load :: lb_SC_takeBuffer :: lb_SC_errorPosition :: lb_SC_size :: lb_SC_trailSwaps :: lb_SC_weight :: lb_SC_nameByte :: lb_SC_lettersOf :: lb_SC_letterAt :: lb_SC_needThing :: lb_SC_needChoice :: lbT_8
def lbT_6 : List (List (Nat × List Ent)) := lb_Wy_init :: lb_Wy_forget :: lb_Wy_learn :: lb_Wy_learnFrom :: lb_Wy_countNeighbours :: lb_Wy_markParts :: lb_Wy_measureFrom :: lb_Wy_spread :: lb_Wy_nearerThan :: lb_Wy_smallestOf :: lb_Wy_sizeOf :: lb_Wy_reachOf :: lb_Wy_cut :: lb_Wy_cutPart :: lb_Wy_enter :: lb_Wy_leave :: lbT_7
def lbT_5 : List (List (Nat × List Ent)) := lb_Tk_isWord :: lb_Tk_isSign :: lb_Tk_skipsWord :: lb_Tk_needsSign :: lb_Tk_takeNumber :: lb_Wk_init :: lb_Wk_begin :: lb_Wk_comes :: lb_Wk_swapsBy :: lb_Wk_go :: lb_Wk_found :: lb_Wk_find :: lb_Wk_findAbove :: lb_Wk_findNear :: lb_Wk_distanceTo :: lb_Wk_take :: lbT_6
def lbT_4 : List (List (Nat × List Ent)) := lb_TR_takeThing :: lb_XR_init :: lb_XR_read :: lb_XR_readHead :: lb_XR_readThings :: lb_XR_readThing :: lb_XR_opensRule :: lb_XR_readStrike :: lb_XR_takeStruck :: lb_Tk_init :: lb_Tk_split :: lb_Tk_kindOf :: lb_Tk_put :: lb_Tk_markKeywords :: lb_Tk_pass :: lb_Tk_fail :: lbT_5
def lbT_3 : List (List (Nat × List Ent)) := lb_Te_init :: lb_Te_clear :: lb_Te_add :: lb_Te_copied :: lb_Te_isTrue :: lb_Te_isLeafTrue :: lb_Te_isSo :: lb_TR_init :: lb_TR_begin :: lb_TR_readWhole :: lb_TR_readTest :: lb_TR_readFactor :: lb_TR_readNegated :: lb_TR_readName :: lb_TR_readComparison :: lb_TR_readList :: lbT_4
def lbT_2 : List (List (Nat × List Ent)) := lb_Ro_tryTests :: lb_Ro_openBy :: lb_Ro_countLeft :: lb_Ro_countHeld :: lb_Ro_countLeftOutBy :: lb_Ro_countTrue :: lb_St_init :: lb_St_clear :: lb_St_now :: lb_St_walkTo :: lb_St_countStruck :: lb_St_addTest :: lb_St_dropTest :: lb_St_tokensOf :: lb_St_failing :: lb_St_copyFrom :: lbT_3
def lbT_1 : List (List (Nat × List Ent)) := lb_Or_numberAt :: lb_Or_apart :: lb_Or_before :: lb_Or_after :: lb_Or_lowestOnlyIn :: lb_Or_copyFrom :: lb_Pa_init :: lb_Pa_keep :: lb_Pa_takeBack :: lb_Pa_saveAll :: lb_Pa_restoreAll :: lb_Pa_forget :: lb_Ro_init :: lb_Ro_forgetTests :: lb_Ro_forgetLooks :: lb_Ro_look :: lbT_2
def lb_all : List (List (Nat × List Ent)) := lb_J6_bitCount :: lb_J0_length :: lb_J0_charAt :: lb_J0_coder :: lb_J0_isLatin1 :: lb_J0_checkIndex :: lb_J1_charAt :: lb_J7_fill :: lb_J3_checkIndex :: lb_Or_init :: lb_Or_clear :: lb_Or_addThing :: lb_Or_thingOf :: lb_Or_lay :: lb_Or_list :: lb_Or_put :: lbT_1
def lab (y t : Nat) : List Ent := ((lb_all.getD y []).lookup t).getD []
theorem lbS_0 (r : Nat) : lb_all.getD (r + 0) [] = lb_all.getD r [] := rfl
theorem lbS_1 (r : Nat) : lb_all.getD (r + 16) [] = lbT_1.getD r [] := (lbS_0 (r + 16)).trans rfl
theorem lbS_2 (r : Nat) : lb_all.getD (r + 32) [] = lbT_2.getD r [] := (lbS_1 (r + 16)).trans rfl
theorem lbS_3 (r : Nat) : lb_all.getD (r + 48) [] = lbT_3.getD r [] := (lbS_2 (r + 16)).trans rfl
theorem lbS_4 (r : Nat) : lb_all.getD (r + 64) [] = lbT_4.getD r [] := (lbS_3 (r + 16)).trans rfl
theorem lbS_5 (r : Nat) : lb_all.getD (r + 80) [] = lbT_5.getD r [] := (lbS_4 (r + 16)).trans rfl
theorem lbS_6 (r : Nat) : lb_all.getD (r + 96) [] = lbT_6.getD r [] := (lbS_5 (r + 16)).trans rfl
theorem lbS_7 (r : Nat) : lb_all.getD (r + 112) [] = lbT_7.getD r [] := (lbS_6 (r + 16)).trans rfl
theorem lbS_8 (r : Nat) : lb_all.getD (r + 128) [] = lbT_8.getD r [] := (lbS_7 (r + 16)).trans rfl
theorem lbS_9 (r : Nat) : lb_all.getD (r + 144) [] = lbT_9.getD r [] := (lbS_8 (r + 16)).trans rfl
theorem lbS_10 (r : Nat) : lb_all.getD (r + 160) [] = lbT_10.getD r [] := (lbS_9 (r + 16)).trans rfl
theorem lbS_11 (r : Nat) : lb_all.getD (r + 176) [] = lbT_11.getD r [] := (lbS_10 (r + 16)).trans rfl
theorem lbS_12 (r : Nat) : lb_all.getD (r + 192) [] = lbT_12.getD r [] := (lbS_11 (r + 16)).trans rfl
theorem lbS_13 (r : Nat) : lb_all.getD (r + 208) [] = lbT_13.getD r [] := (lbS_12 (r + 16)).trans rfl
theorem lbS_14 (r : Nat) : lb_all.getD (r + 224) [] = lbT_14.getD r [] := (lbS_13 (r + 16)).trans rfl
theorem lbS_15 (r : Nat) : lb_all.getD (r + 240) [] = lbT_15.getD r [] := (lbS_14 (r + 16)).trans rfl
theorem lbS_16 (r : Nat) : lb_all.getD (r + 256) [] = lbT_16.getD r [] := (lbS_15 (r + 16)).trans rfl
theorem lbS_17 (r : Nat) : lb_all.getD (r + 272) [] = lbT_17.getD r [] := (lbS_16 (r + 16)).trans rfl
theorem lbS_18 (r : Nat) : lb_all.getD (r + 288) [] = lbT_18.getD r [] := (lbS_17 (r + 16)).trans rfl
theorem lbS_19 (r : Nat) : lb_all.getD (r + 304) [] = lbT_19.getD r [] := (lbS_18 (r + 16)).trans rfl
theorem lbS_20 (r : Nat) : lb_all.getD (r + 320) [] = lbT_20.getD r [] := (lbS_19 (r + 16)).trans rfl
theorem lbS_21 (r : Nat) : lb_all.getD (r + 336) [] = lbT_21.getD r [] := (lbS_20 (r + 16)).trans rfl
theorem lbS_22 (r : Nat) : lb_all.getD (r + 352) [] = lbT_22.getD r [] := (lbS_21 (r + 16)).trans rfl
theorem lbq_0 : lb_all.getD 0 [] = lb_J6_bitCount := (lbS_0 0).trans rfl
theorem lbq_1 : lb_all.getD 1 [] = lb_J0_length := (lbS_0 1).trans rfl
theorem lbq_2 : lb_all.getD 2 [] = lb_J0_charAt := (lbS_0 2).trans rfl
theorem lbq_3 : lb_all.getD 3 [] = lb_J0_coder := (lbS_0 3).trans rfl
theorem lbq_4 : lb_all.getD 4 [] = lb_J0_isLatin1 := (lbS_0 4).trans rfl
theorem lbq_5 : lb_all.getD 5 [] = lb_J0_checkIndex := (lbS_0 5).trans rfl
theorem lbq_6 : lb_all.getD 6 [] = lb_J1_charAt := (lbS_0 6).trans rfl
theorem lbq_7 : lb_all.getD 7 [] = lb_J7_fill := (lbS_0 7).trans rfl
theorem lbq_8 : lb_all.getD 8 [] = lb_J3_checkIndex := (lbS_0 8).trans rfl
theorem lbq_9 : lb_all.getD 9 [] = lb_Or_init := (lbS_0 9).trans rfl
theorem lbq_10 : lb_all.getD 10 [] = lb_Or_clear := (lbS_0 10).trans rfl
theorem lbq_11 : lb_all.getD 11 [] = lb_Or_addThing := (lbS_0 11).trans rfl
theorem lbq_12 : lb_all.getD 12 [] = lb_Or_thingOf := (lbS_0 12).trans rfl
theorem lbq_13 : lb_all.getD 13 [] = lb_Or_lay := (lbS_0 13).trans rfl
theorem lbq_14 : lb_all.getD 14 [] = lb_Or_list := (lbS_0 14).trans rfl
theorem lbq_15 : lb_all.getD 15 [] = lb_Or_put := (lbS_0 15).trans rfl
theorem lbq_16 : lb_all.getD 16 [] = lb_Or_numberAt := (lbS_1 0).trans rfl
theorem lbq_17 : lb_all.getD 17 [] = lb_Or_apart := (lbS_1 1).trans rfl
theorem lbq_18 : lb_all.getD 18 [] = lb_Or_before := (lbS_1 2).trans rfl
theorem lbq_19 : lb_all.getD 19 [] = lb_Or_after := (lbS_1 3).trans rfl
theorem lbq_20 : lb_all.getD 20 [] = lb_Or_lowestOnlyIn := (lbS_1 4).trans rfl
theorem lbq_21 : lb_all.getD 21 [] = lb_Or_copyFrom := (lbS_1 5).trans rfl
theorem lbq_22 : lb_all.getD 22 [] = lb_Pa_init := (lbS_1 6).trans rfl
theorem lbq_23 : lb_all.getD 23 [] = lb_Pa_keep := (lbS_1 7).trans rfl
theorem lbq_24 : lb_all.getD 24 [] = lb_Pa_takeBack := (lbS_1 8).trans rfl
theorem lbq_25 : lb_all.getD 25 [] = lb_Pa_saveAll := (lbS_1 9).trans rfl
theorem lbq_26 : lb_all.getD 26 [] = lb_Pa_restoreAll := (lbS_1 10).trans rfl
theorem lbq_27 : lb_all.getD 27 [] = lb_Pa_forget := (lbS_1 11).trans rfl
theorem lbq_28 : lb_all.getD 28 [] = lb_Ro_init := (lbS_1 12).trans rfl
theorem lbq_29 : lb_all.getD 29 [] = lb_Ro_forgetTests := (lbS_1 13).trans rfl
theorem lbq_30 : lb_all.getD 30 [] = lb_Ro_forgetLooks := (lbS_1 14).trans rfl
theorem lbq_31 : lb_all.getD 31 [] = lb_Ro_look := (lbS_1 15).trans rfl
theorem lbq_32 : lb_all.getD 32 [] = lb_Ro_tryTests := (lbS_2 0).trans rfl
theorem lbq_33 : lb_all.getD 33 [] = lb_Ro_openBy := (lbS_2 1).trans rfl
theorem lbq_34 : lb_all.getD 34 [] = lb_Ro_countLeft := (lbS_2 2).trans rfl
theorem lbq_35 : lb_all.getD 35 [] = lb_Ro_countHeld := (lbS_2 3).trans rfl
theorem lbq_36 : lb_all.getD 36 [] = lb_Ro_countLeftOutBy := (lbS_2 4).trans rfl
theorem lbq_37 : lb_all.getD 37 [] = lb_Ro_countTrue := (lbS_2 5).trans rfl
theorem lbq_38 : lb_all.getD 38 [] = lb_St_init := (lbS_2 6).trans rfl
theorem lbq_39 : lb_all.getD 39 [] = lb_St_clear := (lbS_2 7).trans rfl
theorem lbq_40 : lb_all.getD 40 [] = lb_St_now := (lbS_2 8).trans rfl
theorem lbq_41 : lb_all.getD 41 [] = lb_St_walkTo := (lbS_2 9).trans rfl
theorem lbq_42 : lb_all.getD 42 [] = lb_St_countStruck := (lbS_2 10).trans rfl
theorem lbq_43 : lb_all.getD 43 [] = lb_St_addTest := (lbS_2 11).trans rfl
theorem lbq_44 : lb_all.getD 44 [] = lb_St_dropTest := (lbS_2 12).trans rfl
theorem lbq_45 : lb_all.getD 45 [] = lb_St_tokensOf := (lbS_2 13).trans rfl
theorem lbq_46 : lb_all.getD 46 [] = lb_St_failing := (lbS_2 14).trans rfl
theorem lbq_47 : lb_all.getD 47 [] = lb_St_copyFrom := (lbS_2 15).trans rfl
theorem lbq_48 : lb_all.getD 48 [] = lb_Te_init := (lbS_3 0).trans rfl
theorem lbq_49 : lb_all.getD 49 [] = lb_Te_clear := (lbS_3 1).trans rfl
theorem lbq_50 : lb_all.getD 50 [] = lb_Te_add := (lbS_3 2).trans rfl
theorem lbq_51 : lb_all.getD 51 [] = lb_Te_copied := (lbS_3 3).trans rfl
theorem lbq_52 : lb_all.getD 52 [] = lb_Te_isTrue := (lbS_3 4).trans rfl
theorem lbq_53 : lb_all.getD 53 [] = lb_Te_isLeafTrue := (lbS_3 5).trans rfl
theorem lbq_54 : lb_all.getD 54 [] = lb_Te_isSo := (lbS_3 6).trans rfl
theorem lbq_55 : lb_all.getD 55 [] = lb_TR_init := (lbS_3 7).trans rfl
theorem lbq_56 : lb_all.getD 56 [] = lb_TR_begin := (lbS_3 8).trans rfl
theorem lbq_57 : lb_all.getD 57 [] = lb_TR_readWhole := (lbS_3 9).trans rfl
theorem lbq_58 : lb_all.getD 58 [] = lb_TR_readTest := (lbS_3 10).trans rfl
theorem lbq_59 : lb_all.getD 59 [] = lb_TR_readFactor := (lbS_3 11).trans rfl
theorem lbq_60 : lb_all.getD 60 [] = lb_TR_readNegated := (lbS_3 12).trans rfl
theorem lbq_61 : lb_all.getD 61 [] = lb_TR_readName := (lbS_3 13).trans rfl
theorem lbq_62 : lb_all.getD 62 [] = lb_TR_readComparison := (lbS_3 14).trans rfl
theorem lbq_63 : lb_all.getD 63 [] = lb_TR_readList := (lbS_3 15).trans rfl
theorem lbq_64 : lb_all.getD 64 [] = lb_TR_takeThing := (lbS_4 0).trans rfl
theorem lbq_65 : lb_all.getD 65 [] = lb_XR_init := (lbS_4 1).trans rfl
theorem lbq_66 : lb_all.getD 66 [] = lb_XR_read := (lbS_4 2).trans rfl
theorem lbq_67 : lb_all.getD 67 [] = lb_XR_readHead := (lbS_4 3).trans rfl
theorem lbq_68 : lb_all.getD 68 [] = lb_XR_readThings := (lbS_4 4).trans rfl
theorem lbq_69 : lb_all.getD 69 [] = lb_XR_readThing := (lbS_4 5).trans rfl
theorem lbq_70 : lb_all.getD 70 [] = lb_XR_opensRule := (lbS_4 6).trans rfl
theorem lbq_71 : lb_all.getD 71 [] = lb_XR_readStrike := (lbS_4 7).trans rfl
theorem lbq_72 : lb_all.getD 72 [] = lb_XR_takeStruck := (lbS_4 8).trans rfl
theorem lbq_73 : lb_all.getD 73 [] = lb_Tk_init := (lbS_4 9).trans rfl
theorem lbq_74 : lb_all.getD 74 [] = lb_Tk_split := (lbS_4 10).trans rfl
theorem lbq_75 : lb_all.getD 75 [] = lb_Tk_kindOf := (lbS_4 11).trans rfl
theorem lbq_76 : lb_all.getD 76 [] = lb_Tk_put := (lbS_4 12).trans rfl
theorem lbq_77 : lb_all.getD 77 [] = lb_Tk_markKeywords := (lbS_4 13).trans rfl
theorem lbq_78 : lb_all.getD 78 [] = lb_Tk_pass := (lbS_4 14).trans rfl
theorem lbq_79 : lb_all.getD 79 [] = lb_Tk_fail := (lbS_4 15).trans rfl
theorem lbq_80 : lb_all.getD 80 [] = lb_Tk_isWord := (lbS_5 0).trans rfl
theorem lbq_81 : lb_all.getD 81 [] = lb_Tk_isSign := (lbS_5 1).trans rfl
theorem lbq_82 : lb_all.getD 82 [] = lb_Tk_skipsWord := (lbS_5 2).trans rfl
theorem lbq_83 : lb_all.getD 83 [] = lb_Tk_needsSign := (lbS_5 3).trans rfl
theorem lbq_84 : lb_all.getD 84 [] = lb_Tk_takeNumber := (lbS_5 4).trans rfl
theorem lbq_85 : lb_all.getD 85 [] = lb_Wk_init := (lbS_5 5).trans rfl
theorem lbq_86 : lb_all.getD 86 [] = lb_Wk_begin := (lbS_5 6).trans rfl
theorem lbq_87 : lb_all.getD 87 [] = lb_Wk_comes := (lbS_5 7).trans rfl
theorem lbq_88 : lb_all.getD 88 [] = lb_Wk_swapsBy := (lbS_5 8).trans rfl
theorem lbq_89 : lb_all.getD 89 [] = lb_Wk_go := (lbS_5 9).trans rfl
theorem lbq_90 : lb_all.getD 90 [] = lb_Wk_found := (lbS_5 10).trans rfl
theorem lbq_91 : lb_all.getD 91 [] = lb_Wk_find := (lbS_5 11).trans rfl
theorem lbq_92 : lb_all.getD 92 [] = lb_Wk_findAbove := (lbS_5 12).trans rfl
theorem lbq_93 : lb_all.getD 93 [] = lb_Wk_findNear := (lbS_5 13).trans rfl
theorem lbq_94 : lb_all.getD 94 [] = lb_Wk_distanceTo := (lbS_5 14).trans rfl
theorem lbq_95 : lb_all.getD 95 [] = lb_Wk_take := (lbS_5 15).trans rfl
theorem lbq_96 : lb_all.getD 96 [] = lb_Wy_init := (lbS_6 0).trans rfl
theorem lbq_97 : lb_all.getD 97 [] = lb_Wy_forget := (lbS_6 1).trans rfl
theorem lbq_98 : lb_all.getD 98 [] = lb_Wy_learn := (lbS_6 2).trans rfl
theorem lbq_99 : lb_all.getD 99 [] = lb_Wy_learnFrom := (lbS_6 3).trans rfl
theorem lbq_100 : lb_all.getD 100 [] = lb_Wy_countNeighbours := (lbS_6 4).trans rfl
theorem lbq_101 : lb_all.getD 101 [] = lb_Wy_markParts := (lbS_6 5).trans rfl
theorem lbq_102 : lb_all.getD 102 [] = lb_Wy_measureFrom := (lbS_6 6).trans rfl
theorem lbq_103 : lb_all.getD 103 [] = lb_Wy_spread := (lbS_6 7).trans rfl
theorem lbq_104 : lb_all.getD 104 [] = lb_Wy_nearerThan := (lbS_6 8).trans rfl
theorem lbq_105 : lb_all.getD 105 [] = lb_Wy_smallestOf := (lbS_6 9).trans rfl
theorem lbq_106 : lb_all.getD 106 [] = lb_Wy_sizeOf := (lbS_6 10).trans rfl
theorem lbq_107 : lb_all.getD 107 [] = lb_Wy_reachOf := (lbS_6 11).trans rfl
theorem lbq_108 : lb_all.getD 108 [] = lb_Wy_cut := (lbS_6 12).trans rfl
theorem lbq_109 : lb_all.getD 109 [] = lb_Wy_cutPart := (lbS_6 13).trans rfl
theorem lbq_110 : lb_all.getD 110 [] = lb_Wy_enter := (lbS_6 14).trans rfl
theorem lbq_111 : lb_all.getD 111 [] = lb_Wy_leave := (lbS_6 15).trans rfl
theorem lbq_112 : lb_all.getD 112 [] = lb_Wd_longer := (lbS_7 0).trans rfl
theorem lbq_113 : lb_all.getD 113 [] = lb_Wd_isQuoted := (lbS_7 1).trans rfl
theorem lbq_114 : lb_all.getD 114 [] = lb_SC_init := (lbS_7 2).trans rfl
theorem lbq_115 : lb_all.getD 115 [] = lb_SC_feed := (lbS_7 3).trans rfl
theorem lbq_116 : lb_all.getD 116 [] = lb_SC_append := (lbS_7 4).trans rfl
theorem lbq_117 : lb_all.getD 117 [] = lb_SC_load := (lbS_7 5).trans rfl
theorem lbq_118 : lb_all.getD 118 [] = lb_SC_takeBuffer := (lbS_7 6).trans rfl
theorem lbq_119 : lb_all.getD 119 [] = lb_SC_errorPosition := (lbS_7 7).trans rfl
theorem lbq_120 : lb_all.getD 120 [] = lb_SC_size := (lbS_7 8).trans rfl
theorem lbq_121 : lb_all.getD 121 [] = lb_SC_trailSwaps := (lbS_7 9).trans rfl
theorem lbq_122 : lb_all.getD 122 [] = lb_SC_weight := (lbS_7 10).trans rfl
theorem lbq_123 : lb_all.getD 123 [] = lb_SC_nameByte := (lbS_7 11).trans rfl
theorem lbq_124 : lb_all.getD 124 [] = lb_SC_lettersOf := (lbS_7 12).trans rfl
theorem lbq_125 : lb_all.getD 125 [] = lb_SC_letterAt := (lbS_7 13).trans rfl
theorem lbq_126 : lb_all.getD 126 [] = lb_SC_needThing := (lbS_7 14).trans rfl
theorem lbq_127 : lb_all.getD 127 [] = lb_SC_needChoice := (lbS_7 15).trans rfl
theorem lbq_128 : lb_all.getD 128 [] = lb_SC_needRule := (lbS_8 0).trans rfl
theorem lbq_129 : lb_all.getD 129 [] = lb_SC_choice := (lbS_8 1).trans rfl
theorem lbq_130 : lb_all.getD 130 [] = lb_SC_numberOf := (lbS_8 2).trans rfl
theorem lbq_131 : lb_all.getD 131 [] = lb_SC_distance := (lbS_8 3).trans rfl
theorem lbq_132 : lb_all.getD 132 [] = lb_SC_swapped := (lbS_8 4).trans rfl
theorem lbq_133 : lb_all.getD 133 [] = lb_SC_nearest := (lbS_8 5).trans rfl
theorem lbq_134 : lb_all.getD 134 [] = lb_SC_with := (lbS_8 6).trans rfl
theorem lbq_135 : lb_all.getD 135 [] = lb_SC_heaviest := (lbS_8 7).trans rfl
theorem lbq_136 : lb_all.getD 136 [] = lb_SC_holds := (lbS_8 8).trans rfl
theorem lbq_137 : lb_all.getD 137 [] = lb_SC_rule := (lbS_8 9).trans rfl
theorem lbq_138 : lb_all.getD 138 [] = lb_SC_why := (lbS_8 10).trans rfl
theorem lbq_139 : lb_all.getD 139 [] = lb_SC_against := (lbS_8 11).trans rfl
theorem lbq_140 : lb_all.getD 140 [] = lb_SC_next := (lbS_8 12).trans rfl
theorem lbq_141 : lb_all.getD 141 [] = lb_SC_trail := (lbS_8 13).trans rfl
theorem lbq_142 : lb_all.getD 142 [] = lb_SC_swapsToEnd := (lbS_8 14).trans rfl
theorem lbq_143 : lb_all.getD 143 [] = lb_SC_needMode := (lbS_8 15).trans rfl
theorem lbq_144 : lb_all.getD 144 [] = lb_SC_bestMode := (lbS_9 0).trans rfl
theorem lbq_145 : lb_all.getD 145 [] = lb_SC_ahead := (lbS_9 1).trans rfl
theorem lbq_146 : lb_all.getD 146 [] = lb_SC_far := (lbS_9 2).trans rfl
theorem lbq_147 : lb_all.getD 147 [] = lb_SC_toward := (lbS_9 3).trans rfl
theorem lbq_148 : lb_all.getD 148 [] = lb_SC_part := (lbS_9 4).trans rfl
theorem lbq_149 : lb_all.getD 149 [] = lb_SC_allowedIf := (lbS_9 5).trans rfl
theorem lbq_150 : lb_all.getD 150 [] = lb_SC_partsIf := (lbS_9 6).trans rfl
theorem lbq_151 : lb_all.getD 151 [] = lb_SC_strictest := (lbS_9 7).trans rfl
theorem lbq_152 : lb_all.getD 152 [] = lb_SC_bridge := (lbS_9 8).trans rfl
theorem lbq_153 : lb_all.getD 153 [] = lb_SC_meanWeight := (lbS_9 9).trans rfl
theorem lbq_154 : lb_all.getD 154 [] = lb_SC_visitedShare := (lbS_9 10).trans rfl
theorem lbq_155 : lb_all.getD 155 [] = lb_SC_step := (lbS_9 11).trans rfl
theorem lbq_156 : lb_all.getD 156 [] = lb_SC_goTo := (lbS_9 12).trans rfl
theorem lbq_157 : lb_all.getD 157 [] = lb_SC_steps := (lbS_9 13).trans rfl
theorem lbq_158 : lb_all.getD 158 [] = lb_SC_swap := (lbS_9 14).trans rfl
theorem lbq_159 : lb_all.getD 159 [] = lb_SC_back := (lbS_9 15).trans rfl
theorem lbq_160 : lb_all.getD 160 [] = lb_SC_reset := (lbS_10 0).trans rfl
theorem lbq_161 : lb_all.getD 161 [] = lb_SC_setMode := (lbS_10 1).trans rfl
theorem lbq_162 : lb_all.getD 162 [] = lb_SC_setWeight := (lbS_10 2).trans rfl
theorem lbq_163 : lb_all.getD 163 [] = lb_SC_addRule := (lbS_10 3).trans rfl
theorem lbq_164 : lb_all.getD 164 [] = lb_SC_dropRule := (lbS_10 4).trans rfl
theorem lbq_165 : lb_all.getD 165 [] = lb_SC_switchRule := (lbS_10 5).trans rfl
theorem lbq_166 : lb_all.getD 166 [] = lb_SC_strike := (lbS_10 6).trans rfl
theorem lbq_167 : lb_all.getD 167 [] = lb_SC_many := (lbS_10 7).trans rfl
theorem lbq_168 : lb_all.getD 168 [] = lb_SC_format := (lbS_10 8).trans rfl
theorem lbq_169 : lb_all.getD 169 [] = lb_SC_showName := (lbS_10 9).trans rfl
theorem lbq_170 : lb_all.getD 170 [] = lb_SC_show := (lbS_10 10).trans rfl
theorem lbq_171 : lb_all.getD 171 [] = lb_SC_formattedByte := (lbS_10 11).trans rfl
theorem lbq_172 : lb_all.getD 172 [] = lb_SC_undoCount := (lbS_10 12).trans rfl
theorem lbq_173 : lb_all.getD 173 [] = lb_SC_undo := (lbS_10 13).trans rfl
theorem lbq_174 : lb_all.getD 174 [] = lb_SC_saveSnapshot := (lbS_10 14).trans rfl
theorem lbq_175 : lb_all.getD 175 [] = lb_SC_restoreSnapshot := (lbS_10 15).trans rfl
theorem lbq_176 : lb_all.getD 176 [] = lb_Mo_init := (lbS_11 0).trans rfl
theorem lbq_177 : lb_all.getD 177 [] = lb_Mo_thrown := (lbS_11 1).trans rfl
theorem lbq_178 : lb_all.getD 178 [] = lb_Mo_raise := (lbS_11 2).trans rfl
theorem lbq_179 : lb_all.getD 179 [] = lb_Mo_inRange := (lbS_11 3).trans rfl
theorem lbq_180 : lb_all.getD 180 [] = lb_Mo_lacks := (lbS_11 4).trans rfl
theorem lbq_181 : lb_all.getD 181 [] = lb_Mo_least := (lbS_11 5).trans rfl
theorem lbq_182 : lb_all.getD 182 [] = lb_Mo_greatest := (lbS_11 6).trans rfl
theorem lbq_183 : lb_all.getD 183 [] = lb_Mo_has := (lbS_11 7).trans rfl
theorem lbq_184 : lb_all.getD 184 [] = lb_Mo_bits := (lbS_11 8).trans rfl
theorem lbq_185 : lb_all.getD 185 [] = lb_Mo_begin := (lbS_11 9).trans rfl
theorem lbq_186 : lb_all.getD 186 [] = lb_Mo_chosen := (lbS_11 10).trans rfl
theorem lbq_187 : lb_all.getD 187 [] = lb_Mo_unrank := (lbS_11 11).trans rfl
theorem lbq_188 : lb_all.getD 188 [] = lb_Mo_layChoices := (lbS_11 12).trans rfl
theorem lbq_189 : lb_all.getD 189 [] = lb_Mo_isChoice := (lbS_11 13).trans rfl
theorem lbq_190 : lb_all.getD 190 [] = lb_Mo_areChoices := (lbS_11 14).trans rfl
theorem lbq_191 : lb_all.getD 191 [] = lb_Mo_isThing := (lbS_11 15).trans rfl
theorem lbq_192 : lb_all.getD 192 [] = lb_Mo_weightOf := (lbS_12 0).trans rfl
theorem lbq_193 : lb_all.getD 193 [] = lb_Mo_apart := (lbS_12 1).trans rfl
theorem lbq_194 : lb_all.getD 194 [] = lb_Mo_bySwap := (lbS_12 2).trans rfl
theorem lbq_195 : lb_all.getD 195 [] = lb_Mo_compares := (lbS_12 3).trans rfl
theorem lbq_196 : lb_all.getD 196 [] = lb_Mo_asks := (lbS_12 4).trans rfl
theorem lbq_197 : lb_all.getD 197 [] = lb_Mo_passes := (lbS_12 5).trans rfl
theorem lbq_198 : lb_all.getD 198 [] = lb_Mo_ofRule := (lbS_12 6).trans rfl
theorem lbq_199 : lb_all.getD 199 [] = lb_Mo_setRule := (lbS_12 7).trans rfl
theorem lbq_200 : lb_all.getD 200 [] = lb_Mo_isRule := (lbS_12 8).trans rfl
theorem lbq_201 : lb_all.getD 201 [] = lb_Mo_isOn := (lbS_12 9).trans rfl
theorem lbq_202 : lb_all.getD 202 [] = lb_Mo_holdsFor := (lbS_12 10).trans rfl
theorem lbq_203 : lb_all.getD 203 [] = lb_Mo_isStruck := (lbS_12 11).trans rfl
theorem lbq_204 : lb_all.getD 204 [] = lb_Mo_barring := (lbS_12 12).trans rfl
theorem lbq_205 : lb_all.getD 205 [] = lb_Mo_layAllowed := (lbS_12 13).trans rfl
theorem lbq_206 : lb_all.getD 206 [] = lb_Mo_turn := (lbS_12 14).trans rfl
theorem lbq_207 : lb_all.getD 207 [] = lb_Mo_allowedBy := (lbS_12 15).trans rfl
theorem lbq_208 : lb_all.getD 208 [] = lb_Mo_spread := (lbS_13 0).trans rfl
theorem lbq_209 : lb_all.getD 209 [] = lb_Mo_clearWays := (lbS_13 1).trans rfl
theorem lbq_210 : lb_all.getD 210 [] = lb_Mo_layWays := (lbS_13 2).trans rfl
theorem lbq_211 : lb_all.getD 211 [] = lb_Mo_layParts := (lbS_13 3).trans rfl
theorem lbq_212 : lb_all.getD 212 [] = lb_Mo_partsNow := (lbS_13 4).trans rfl
theorem lbq_213 : lb_all.getD 213 [] = lb_Mo_trailAt := (lbS_13 5).trans rfl
theorem lbq_214 : lb_all.getD 214 [] = lb_Mo_placeOf := (lbS_13 6).trans rfl
theorem lbq_215 : lb_all.getD 215 [] = lb_Mo_isVisited := (lbS_13 7).trans rfl
theorem lbq_216 : lb_all.getD 216 [] = lb_Mo_swapsTo := (lbS_13 8).trans rfl
theorem lbq_217 : lb_all.getD 217 [] = lb_Mo_rank := (lbS_13 9).trans rfl
theorem lbq_218 : lb_all.getD 218 [] = lb_Mo_nextOf := (lbS_13 10).trans rfl
theorem lbq_219 : lb_all.getD 219 [] = lb_Mo_go := (lbS_13 11).trans rfl
theorem lbq_220 : lb_all.getD 220 [] = lb_Mo_walk := (lbS_13 12).trans rfl
theorem lbq_221 : lb_all.getD 221 [] = lb_Mo_unwind := (lbS_13 13).trans rfl
theorem lbq_222 : lb_all.getD 222 [] = lb_Mo_swapsBy := (lbS_13 14).trans rfl
theorem lbq_223 : lb_all.getD 223 [] = lb_Mo_struckOnes := (lbS_13 15).trans rfl
theorem lbq_224 : lb_all.getD 224 [] = lb_Mo_rulesOn := (lbS_14 0).trans rfl
theorem lbq_225 : lb_all.getD 225 [] = lb_Mo_openOnes := (lbS_14 1).trans rfl
theorem lbq_226 : lb_all.getD 226 [] = lb_Mo_size := (lbS_14 2).trans rfl
theorem lbq_227 : lb_all.getD 227 [] = lb_Mo_weight := (lbS_14 3).trans rfl
theorem lbq_228 : lb_all.getD 228 [] = lb_Mo_lettersOf := (lbS_14 4).trans rfl
theorem lbq_229 : lb_all.getD 229 [] = lb_Mo_nameByte := (lbS_14 5).trans rfl
theorem lbq_230 : lb_all.getD 230 [] = lb_Mo_only := (lbS_14 6).trans rfl
theorem lbq_231 : lb_all.getD 231 [] = lb_Mo_neighbours := (lbS_14 7).trans rfl
theorem lbq_232 : lb_all.getD 232 [] = lb_Mo_choice := (lbS_14 8).trans rfl
theorem lbq_233 : lb_all.getD 233 [] = lb_Mo_numberOf := (lbS_14 9).trans rfl
theorem lbq_234 : lb_all.getD 234 [] = lb_Mo_distance := (lbS_14 10).trans rfl
theorem lbq_235 : lb_all.getD 235 [] = lb_Mo_swapped := (lbS_14 11).trans rfl
theorem lbq_236 : lb_all.getD 236 [] = lb_Mo_nearest := (lbS_14 12).trans rfl
theorem lbq_237 : lb_all.getD 237 [] = lb_Mo_with := (lbS_14 13).trans rfl
theorem lbq_238 : lb_all.getD 238 [] = lb_Mo_heaviest := (lbS_14 14).trans rfl
theorem lbq_239 : lb_all.getD 239 [] = lb_Mo_holds := (lbS_14 15).trans rfl
theorem lbq_240 : lb_all.getD 240 [] = lb_Mo_heldBy := (lbS_15 0).trans rfl
theorem lbq_241 : lb_all.getD 241 [] = lb_Mo_rule := (lbS_15 1).trans rfl
theorem lbq_242 : lb_all.getD 242 [] = lb_Mo_why := (lbS_15 2).trans rfl
theorem lbq_243 : lb_all.getD 243 [] = lb_Mo_against := (lbS_15 3).trans rfl
theorem lbq_244 : lb_all.getD 244 [] = lb_Mo_next := (lbS_15 4).trans rfl
theorem lbq_245 : lb_all.getD 245 [] = lb_Mo_trail := (lbS_15 5).trans rfl
theorem lbq_246 : lb_all.getD 246 [] = lb_Mo_isMode := (lbS_15 6).trans rfl
theorem lbq_247 : lb_all.getD 247 [] = lb_Mo_swapsToEnd := (lbS_15 7).trans rfl
theorem lbq_248 : lb_all.getD 248 [] = lb_Mo_bestMode := (lbS_15 8).trans rfl
theorem lbq_249 : lb_all.getD 249 [] = lb_Mo_ahead := (lbS_15 9).trans rfl
theorem lbq_250 : lb_all.getD 250 [] = lb_Mo_leadsTo := (lbS_15 10).trans rfl
theorem lbq_251 : lb_all.getD 251 [] = lb_Mo_far := (lbS_15 11).trans rfl
theorem lbq_252 : lb_all.getD 252 [] = lb_Mo_toward := (lbS_15 12).trans rfl
theorem lbq_253 : lb_all.getD 253 [] = lb_Mo_part := (lbS_15 13).trans rfl
theorem lbq_254 : lb_all.getD 254 [] = lb_Mo_allowedIf := (lbS_15 14).trans rfl
theorem lbq_255 : lb_all.getD 255 [] = lb_Mo_partsIf := (lbS_15 15).trans rfl
theorem lbq_256 : lb_all.getD 256 [] = lb_Mo_strictest := (lbS_16 0).trans rfl
theorem lbq_257 : lb_all.getD 257 [] = lb_Mo_bridge := (lbS_16 1).trans rfl
theorem lbq_258 : lb_all.getD 258 [] = lb_Mo_meanWeight := (lbS_16 2).trans rfl
theorem lbq_259 : lb_all.getD 259 [] = lb_Mo_visitedShare := (lbS_16 3).trans rfl
theorem lbq_260 : lb_all.getD 260 [] = lb_Mo_step := (lbS_16 4).trans rfl
theorem lbq_261 : lb_all.getD 261 [] = lb_Mo_steps := (lbS_16 5).trans rfl
theorem lbq_262 : lb_all.getD 262 [] = lb_Mo_swapRefusal := (lbS_16 6).trans rfl
theorem lbq_263 : lb_all.getD 263 [] = lb_Mo_swap := (lbS_16 7).trans rfl
theorem lbq_264 : lb_all.getD 264 [] = lb_Mo_back := (lbS_16 8).trans rfl
theorem lbq_265 : lb_all.getD 265 [] = lb_Mo_reset := (lbS_16 9).trans rfl
theorem lbq_266 : lb_all.getD 266 [] = lb_Mo_replace := (lbS_16 10).trans rfl
theorem lbq_267 : lb_all.getD 267 [] = lb_Mo_setMode := (lbS_16 11).trans rfl
theorem lbq_268 : lb_all.getD 268 [] = lb_Mo_setWeight := (lbS_16 12).trans rfl
theorem lbq_269 : lb_all.getD 269 [] = lb_Mo_dropRule := (lbS_16 13).trans rfl
theorem lbq_270 : lb_all.getD 270 [] = lb_Mo_switchRule := (lbS_16 14).trans rfl
theorem lbq_271 : lb_all.getD 271 [] = lb_Mo_strike := (lbS_16 15).trans rfl
theorem lbq_272 : lb_all.getD 272 [] = lb_Mo_write := (lbS_17 0).trans rfl
theorem lbq_273 : lb_all.getD 273 [] = lb_Mo_format := (lbS_17 1).trans rfl
theorem lbq_274 : lb_all.getD 274 [] = lb_Mo_formattedByte := (lbS_17 2).trans rfl
theorem lbq_275 : lb_all.getD 275 [] = lb_Mo_copy := (lbS_17 3).trans rfl
theorem lbq_276 : lb_all.getD 276 [] = lb_Mo_record := (lbS_17 4).trans rfl
theorem lbq_277 : lb_all.getD 277 [] = lb_Mo_undoCount := (lbS_17 5).trans rfl
theorem lbq_278 : lb_all.getD 278 [] = lb_Mo_undo := (lbS_17 6).trans rfl
theorem lbq_279 : lb_all.getD 279 [] = lb_Mo_saveSnapshot := (lbS_17 7).trans rfl
theorem lbq_280 : lb_all.getD 280 [] = lb_Mo_restoreSnapshot := (lbS_17 8).trans rfl
theorem lbq_281 : lb_all.getD 281 [] = lb_Mo_feed := (lbS_17 9).trans rfl
theorem lbq_282 : lb_all.getD 282 [] = lb_Mo_errorPosition := (lbS_17 10).trans rfl
theorem lbq_283 : lb_all.getD 283 [] = lb_Mo_byteAt := (lbS_17 11).trans rfl
theorem lbq_284 : lb_all.getD 284 [] = lb_Mo_isLetter := (lbS_17 12).trans rfl
theorem lbq_285 : lb_all.getD 285 [] = lb_Mo_isDigit := (lbS_17 13).trans rfl
theorem lbq_286 : lb_all.getD 286 [] = lb_Mo_scan := (lbS_17 14).trans rfl
theorem lbq_287 : lb_all.getD 287 [] = lb_Mo_startText := (lbS_17 15).trans rfl
theorem lbq_288 : lb_all.getD 288 [] = lb_Mo_finish := (lbS_18 0).trans rfl
theorem lbq_289 : lb_all.getD 289 [] = lb_Mo_check := (lbS_18 1).trans rfl
theorem lbq_290 : lb_all.getD 290 [] = lb_Mo_advance := (lbS_18 2).trans rfl
theorem lbq_291 : lb_all.getD 291 [] = lb_Mo_isSymbol := (lbS_18 3).trans rfl
theorem lbq_292 : lb_all.getD 292 [] = lb_Mo_isWord := (lbS_18 4).trans rfl
theorem lbq_293 : lb_all.getD 293 [] = lb_Mo_accept := (lbS_18 5).trans rfl
theorem lbq_294 : lb_all.getD 294 [] = lb_Mo_expect := (lbS_18 6).trans rfl
theorem lbq_295 : lb_all.getD 295 [] = lb_Mo_value := (lbS_18 7).trans rfl
theorem lbq_296 : lb_all.getD 296 [] = lb_Mo_look := (lbS_18 8).trans rfl
theorem lbq_297 : lb_all.getD 297 [] = lb_Mo_readNumber := (lbS_18 9).trans rfl
theorem lbq_298 : lb_all.getD 298 [] = lb_Mo_isQuoted := (lbS_18 10).trans rfl
theorem lbq_299 : lb_all.getD 299 [] = lb_Mo_isNamed := (lbS_18 11).trans rfl
theorem lbq_300 : lb_all.getD 300 [] = lb_Mo_named := (lbS_18 12).trans rfl
theorem lbq_301 : lb_all.getD 301 [] = lb_Mo_lookName := (lbS_18 13).trans rfl
theorem lbq_302 : lb_all.getD 302 [] = lb_Mo_emit := (lbS_18 14).trans rfl
theorem lbq_303 : lb_all.getD 303 [] = lb_Mo_enter := (lbS_18 15).trans rfl
theorem lbq_304 : lb_all.getD 304 [] = lb_Mo_readList := (lbS_19 0).trans rfl
theorem lbq_305 : lb_all.getD 305 [] = lb_Mo_compileCount := (lbS_19 1).trans rfl
theorem lbq_306 : lb_all.getD 306 [] = lb_Mo_compileList := (lbS_19 2).trans rfl
theorem lbq_307 : lb_all.getD 307 [] = lb_Mo_compileComparison := (lbS_19 3).trans rfl
theorem lbq_308 : lb_all.getD 308 [] = lb_Mo_compileName := (lbS_19 4).trans rfl
theorem lbq_309 : lb_all.getD 309 [] = lb_Mo_compileFactor := (lbS_19 5).trans rfl
theorem lbq_310 : lb_all.getD 310 [] = lb_Mo_compileSimple := (lbS_19 6).trans rfl
theorem lbq_311 : lb_all.getD 311 [] = lb_Mo_compileConjunction := (lbS_19 7).trans rfl
theorem lbq_312 : lb_all.getD 312 [] = lb_Mo_compileTest := (lbS_19 8).trans rfl
theorem lbq_313 : lb_all.getD 313 [] = lb_Mo_many := (lbS_19 9).trans rfl
theorem lbq_314 : lb_all.getD 314 [] = lb_Mo_newRule := (lbS_19 10).trans rfl
theorem lbq_315 : lb_all.getD 315 [] = lb_Mo_addRule := (lbS_19 11).trans rfl
theorem lbq_316 : lb_all.getD 316 [] = lb_Mo_readThing := (lbS_19 12).trans rfl
theorem lbq_317 : lb_all.getD 317 [] = lb_Mo_readRule := (lbS_19 13).trans rfl
theorem lbq_318 : lb_all.getD 318 [] = lb_Mo_readStrike := (lbS_19 14).trans rfl
theorem lbq_319 : lb_all.getD 319 [] = lb_Mo_readClause := (lbS_19 15).trans rfl
theorem lbq_320 : lb_all.getD 320 [] = lb_Mo_readText := (lbS_20 0).trans rfl
theorem lbq_321 : lb_all.getD 321 [] = lb_Mo_load := (lbS_20 1).trans rfl
theorem lbq_322 : lb_all.getD 322 [] = lb_TR_readUpTo := (lbS_20 2).trans rfl
theorem lbq_323 : lb_all.getD 323 [] = lb_Lw_load := (lbS_20 3).trans rfl
theorem lbq_324 : lb_all.getD 324 [] = lb_Lw_size := (lbS_20 4).trans rfl
theorem lbq_325 : lb_all.getD 325 [] = lb_Lw_weight := (lbS_20 5).trans rfl
theorem lbq_326 : lb_all.getD 326 [] = lb_Lw_nameByte := (lbS_20 6).trans rfl
theorem lbq_327 : lb_all.getD 327 [] = lb_Lw_choice := (lbS_20 7).trans rfl
theorem lbq_328 : lb_all.getD 328 [] = lb_Lw_distance := (lbS_20 8).trans rfl
theorem lbq_329 : lb_all.getD 329 [] = lb_Lw_swapped := (lbS_20 9).trans rfl
theorem lbq_330 : lb_all.getD 330 [] = lb_Lw_nearest := (lbS_20 10).trans rfl
theorem lbq_331 : lb_all.getD 331 [] = lb_Lw_with := (lbS_20 11).trans rfl
theorem lbq_332 : lb_all.getD 332 [] = lb_Lw_holds := (lbS_20 12).trans rfl
theorem lbq_333 : lb_all.getD 333 [] = lb_Lw_rule := (lbS_20 13).trans rfl
theorem lbq_334 : lb_all.getD 334 [] = lb_Lw_why := (lbS_20 14).trans rfl
theorem lbq_335 : lb_all.getD 335 [] = lb_Lw_against := (lbS_20 15).trans rfl
theorem lbq_336 : lb_all.getD 336 [] = lb_Lw_swapsToEnd := (lbS_21 0).trans rfl
theorem lbq_337 : lb_all.getD 337 [] = lb_Lw_ahead := (lbS_21 1).trans rfl
theorem lbq_338 : lb_all.getD 338 [] = lb_Lw_far := (lbS_21 2).trans rfl
theorem lbq_339 : lb_all.getD 339 [] = lb_Lw_toward := (lbS_21 3).trans rfl
theorem lbq_340 : lb_all.getD 340 [] = lb_Lw_part := (lbS_21 4).trans rfl
theorem lbq_341 : lb_all.getD 341 [] = lb_Lw_allowedIf := (lbS_21 5).trans rfl
theorem lbq_342 : lb_all.getD 342 [] = lb_Lw_partsIf := (lbS_21 6).trans rfl
theorem lbq_343 : lb_all.getD 343 [] = lb_Lw_steps := (lbS_21 7).trans rfl
theorem lbq_344 : lb_all.getD 344 [] = lb_Lw_swap := (lbS_21 8).trans rfl
theorem lbq_345 : lb_all.getD 345 [] = lb_Lw_setMode := (lbS_21 9).trans rfl
theorem lbq_346 : lb_all.getD 346 [] = lb_Lw_setWeight := (lbS_21 10).trans rfl
theorem lbq_347 : lb_all.getD 347 [] = lb_Lw_addRule := (lbS_21 11).trans rfl
theorem lbq_348 : lb_all.getD 348 [] = lb_Lw_dropRule := (lbS_21 12).trans rfl
theorem lbq_349 : lb_all.getD 349 [] = lb_Lw_switchRule := (lbS_21 13).trans rfl
theorem lbq_350 : lb_all.getD 350 [] = lb_Lw_strike := (lbS_21 14).trans rfl
theorem lbq_351 : lb_all.getD 351 [] = lb_Lw_many := (lbS_21 15).trans rfl
theorem lbq_352 : lb_all.getD 352 [] = lb_Lw_format := (lbS_22 0).trans rfl
theorem lbq_353 : lb_all.getD 353 [] = lb_Lw_law := (lbS_22 1).trans rfl
def mL_all : List Nat := [1, 1, 2, 1, 1, 2, 2, 4, 3, 1, 1, 2, 3, 1, 6, 2, 2, 3, 2, 5, 5, 2, 2, 2, 2, 2, 2, 1, 3, 1, 1, 3, 5, 5, 3, 4, 4, 5, 1, 2, 1, 2, 3, 2, 5, 3, 7, 3, 3, 1, 4, 3, 7, 5, 3, 3, 2, 2, 4, 3, 2, 2, 4, 9, 2, 3, 4, 1, 2, 4, 1, 4, 4, 1, 7, 2, 6, 2, 2, 2, 2, 2, 2, 2, 4, 4, 2, 2, 2, 4, 2, 2, 2, 7, 2, 3, 2, 1, 2, 6, 5, 4, 3, 9, 6, 3, 4, 4, 3, 7, 3, 3, 2, 2, 2, 6, 3, 3, 2, 1, 2, 3, 2, 4, 3, 3, 2, 2, 2, 3, 2, 3, 4, 4, 4, 4, 3, 3, 4, 2, 1, 2, 2, 1, 5, 2, 3, 3, 4, 2, 2, 5, 4, 3, 2, 2, 2, 4, 4, 1, 2, 3, 4, 3, 2, 2, 4, 4, 4, 4, 2, 2, 1, 1, 1, 1, 2, 1, 2, 3, 2, 2, 2, 2, 3, 3, 4, 7, 2, 2, 3, 2, 4, 3, 4, 3, 7, 7, 3, 4, 2, 2, 3, 2, 3, 3, 2, 3, 5, 2, 3, 4, 2, 2, 3, 2, 2, 3, 3, 3, 5, 4, 8, 3, 3, 3, 2, 2, 3, 3, 2, 4, 5, 2, 3, 4, 6, 5, 4, 3, 4, 3, 3, 4, 2, 2, 1, 2, 3, 7, 4, 3, 4, 8, 2, 3, 5, 6, 4, 3, 3, 2, 3, 4, 2, 2, 4, 2, 3, 3, 2, 3, 2, 4, 2, 4, 2, 1, 1, 1, 1, 8, 1, 2, 2, 2, 1, 2, 1, 3, 1, 2, 4, 3, 2, 3, 4, 4, 2, 4, 2, 2, 2, 1, 3, 4, 2, 3, 2, 1, 1, 1, 1, 6, 4, 3, 4, 2, 3, 1, 2, 3, 3, 4, 4, 4, 5, 5, 5, 6, 5, 4, 5, 5, 4, 4, 4, 4, 5, 5, 5, 4, 4, 4, 5, 4, 5, 4, 4, 4, 5, 5, 4, 9]
def mL (y : Nat) : Nat := mL_all.getD y 0
def hnd_all : List (Nat × List (Nat × Int)) := [(323, [(0, 1)]), (324, [(0, 1)]), (325, [(1, 1)]), (326, [(1, 1)]), (327, [(1, 1), (0, 2)]), (328, [(1, 1)]), (329, [(1, 1)]), (330, [(1, 1)]), (331, [(1, 1)]), (332, [(1, 1)]), (333, [(1, 1), (0, 2)]), (334, [(1, 1)]), (335, [(1, 1)]), (336, [(0, 1)]), (337, [(0, 1)]), (338, [(1, 1)]), (339, [(1, 1)]), (340, [(1, 1), (0, 2)]), (341, [(1, 1)]), (342, [(1, 1)]), (343, [(0, 1)]), (344, [(1, 1)]), (345, [(0, 1)]), (346, [(1, 1), (0, 2)]), (347, [(0, 1)]), (348, [(1, 1)]), (349, [(1, 1)]), (350, [(1, 1)]), (351, [(0, 1)]), (352, [(1, 1)])]
def hnd (y E : Nat) : Option Int := if y < 323 then none else ((hnd_all.lookup y).getD []).lookup E
theorem L_J6_bitCount_0 : lab 0 0 = B_J6_bitCount_0 := (congrArg (fun l => (l.lookup 0).getD []) lbq_0).trans rfl
theorem mL_J6_bitCount : mL 0 = 1 := by decide +kernel
theorem L_J0_length_0 : lab 1 0 = B_J0_length_0 := (congrArg (fun l => (l.lookup 0).getD []) lbq_1).trans rfl
theorem mL_J0_length : mL 1 = 1 := by decide +kernel
theorem L_J0_charAt_0 : lab 2 0 = B_J0_charAt_0 := (congrArg (fun l => (l.lookup 0).getD []) lbq_2).trans rfl
theorem L_J0_charAt_16 : lab 2 16 = B_J0_charAt_16 := (congrArg (fun l => (l.lookup 16).getD []) lbq_2).trans rfl
theorem mL_J0_charAt : mL 2 = 2 := by decide +kernel
theorem L_J0_coder_0 : lab 3 0 = B_J0_coder_0 := (congrArg (fun l => (l.lookup 0).getD []) lbq_3).trans rfl
theorem L_J0_coder_13 : lab 3 13 = B_J0_coder_13 := (congrArg (fun l => (l.lookup 13).getD []) lbq_3).trans rfl
theorem L_J0_coder_14 : lab 3 14 = B_J0_coder_14 := (congrArg (fun l => (l.lookup 14).getD []) lbq_3).trans rfl
theorem mL_J0_coder : mL 3 = 1 := by decide +kernel
theorem L_J0_isLatin1_0 : lab 4 0 = B_J0_isLatin1_0 := (congrArg (fun l => (l.lookup 0).getD []) lbq_4).trans rfl
theorem L_J0_isLatin1_17 : lab 4 17 = B_J0_isLatin1_17 := (congrArg (fun l => (l.lookup 17).getD []) lbq_4).trans rfl
theorem L_J0_isLatin1_18 : lab 4 18 = B_J0_isLatin1_18 := (congrArg (fun l => (l.lookup 18).getD []) lbq_4).trans rfl
theorem mL_J0_isLatin1 : mL 4 = 1 := by decide +kernel
theorem L_J0_checkIndex_0 : lab 5 0 = B_J0_checkIndex_0 := (congrArg (fun l => (l.lookup 0).getD []) lbq_5).trans rfl
theorem mL_J0_checkIndex : mL 5 = 2 := by decide +kernel
theorem L_J1_charAt_0 : lab 6 0 = B_J1_charAt_0 := (congrArg (fun l => (l.lookup 0).getD []) lbq_6).trans rfl
theorem mL_J1_charAt : mL 6 = 2 := by decide +kernel
theorem L_J7_fill_0 : lab 7 0 = B_J7_fill_0 := (congrArg (fun l => (l.lookup 0).getD []) lbq_7).trans rfl
theorem L_J7_fill_5 : lab 7 5 = B_J7_fill_5 := (congrArg (fun l => (l.lookup 5).getD []) lbq_7).trans rfl
theorem L_J7_fill_20 : lab 7 20 = B_J7_fill_20 := (congrArg (fun l => (l.lookup 20).getD []) lbq_7).trans rfl
theorem mL_J7_fill : mL 7 = 4 := by decide +kernel
theorem L_J3_checkIndex_0 : lab 8 0 = B_J3_checkIndex_0 := (congrArg (fun l => (l.lookup 0).getD []) lbq_8).trans rfl
theorem L_J3_checkIndex_9 : lab 8 9 = B_J3_checkIndex_9 := (congrArg (fun l => (l.lookup 9).getD []) lbq_8).trans rfl
theorem L_J3_checkIndex_16 : lab 8 16 = B_J3_checkIndex_16 := (congrArg (fun l => (l.lookup 16).getD []) lbq_8).trans rfl
theorem mL_J3_checkIndex : mL 8 = 3 := by decide +kernel
theorem L_Or_init_0 : lab 9 0 = B_Or_init_0 := (congrArg (fun l => (l.lookup 0).getD []) lbq_9).trans rfl
theorem mL_Or_init : mL 9 = 1 := by decide +kernel
theorem L_Or_clear_0 : lab 10 0 = B_Or_clear_0 := (congrArg (fun l => (l.lookup 0).getD []) lbq_10).trans rfl
theorem mL_Or_clear : mL 10 = 1 := by decide +kernel
theorem L_Or_addThing_0 : lab 11 0 = B_Or_addThing_0 := (congrArg (fun l => (l.lookup 0).getD []) lbq_11).trans rfl
theorem L_Or_addThing_29 : lab 11 29 = B_Or_addThing_29 := (congrArg (fun l => (l.lookup 29).getD []) lbq_11).trans rfl
theorem mL_Or_addThing : mL 11 = 2 := by decide +kernel
theorem L_Or_thingOf_0 : lab 12 0 = B_Or_thingOf_0 := (congrArg (fun l => (l.lookup 0).getD []) lbq_12).trans rfl
theorem L_Or_thingOf_2 : lab 12 2 = B_Or_thingOf_2 := (congrArg (fun l => (l.lookup 2).getD []) lbq_12).trans rfl
theorem L_Or_thingOf_22 : lab 12 22 = B_Or_thingOf_22 := (congrArg (fun l => (l.lookup 22).getD []) lbq_12).trans rfl
theorem L_Or_thingOf_28 : lab 12 28 = B_Or_thingOf_28 := (congrArg (fun l => (l.lookup 28).getD []) lbq_12).trans rfl
theorem mL_Or_thingOf : mL 12 = 3 := by decide +kernel
theorem L_Or_lay_0 : lab 13 0 = B_Or_lay_0 := (congrArg (fun l => (l.lookup 0).getD []) lbq_13).trans rfl
theorem mL_Or_lay : mL 13 = 1 := by decide +kernel
theorem L_Or_list_0 : lab 14 0 = B_Or_list_0 := (congrArg (fun l => (l.lookup 0).getD []) lbq_14).trans rfl
theorem L_Or_list_15 : lab 14 15 = B_Or_list_15 := (congrArg (fun l => (l.lookup 15).getD []) lbq_14).trans rfl
theorem L_Or_list_16 : lab 14 16 = B_Or_list_16 := (congrArg (fun l => (l.lookup 16).getD []) lbq_14).trans rfl
theorem L_Or_list_25 : lab 14 25 = B_Or_list_25 := (congrArg (fun l => (l.lookup 25).getD []) lbq_14).trans rfl
theorem L_Or_list_37 : lab 14 37 = B_Or_list_37 := (congrArg (fun l => (l.lookup 37).getD []) lbq_14).trans rfl
theorem L_Or_list_77 : lab 14 77 = B_Or_list_77 := (congrArg (fun l => (l.lookup 77).getD []) lbq_14).trans rfl
theorem L_Or_list_100 : lab 14 100 = B_Or_list_100 := (congrArg (fun l => (l.lookup 100).getD []) lbq_14).trans rfl
theorem mL_Or_list : mL 14 = 6 := by decide +kernel
theorem L_Or_put_0 : lab 15 0 = B_Or_put_0 := (congrArg (fun l => (l.lookup 0).getD []) lbq_15).trans rfl
theorem L_Or_put_55 : lab 15 55 = B_Or_put_55 := (congrArg (fun l => (l.lookup 55).getD []) lbq_15).trans rfl
theorem mL_Or_put : mL 15 = 2 := by decide +kernel
theorem L_Or_numberAt_0 : lab 16 0 = B_Or_numberAt_0 := (congrArg (fun l => (l.lookup 0).getD []) lbq_16).trans rfl
theorem L_Or_numberAt_13 : lab 16 13 = B_Or_numberAt_13 := (congrArg (fun l => (l.lookup 13).getD []) lbq_16).trans rfl
theorem L_Or_numberAt_15 : lab 16 15 = B_Or_numberAt_15 := (congrArg (fun l => (l.lookup 15).getD []) lbq_16).trans rfl
theorem mL_Or_numberAt : mL 16 = 2 := by decide +kernel
theorem L_Or_apart_0 : lab 17 0 = B_Or_apart_0 := (congrArg (fun l => (l.lookup 0).getD []) lbq_17).trans rfl
theorem mL_Or_apart : mL 17 = 3 := by decide +kernel
theorem L_Or_before_0 : lab 18 0 = B_Or_before_0 := (congrArg (fun l => (l.lookup 0).getD []) lbq_18).trans rfl
theorem L_Or_before_13 : lab 18 13 = B_Or_before_13 := (congrArg (fun l => (l.lookup 13).getD []) lbq_18).trans rfl
theorem L_Or_before_16 : lab 18 16 = B_Or_before_16 := (congrArg (fun l => (l.lookup 16).getD []) lbq_18).trans rfl
theorem mL_Or_before : mL 18 = 2 := by decide +kernel
theorem L_Or_after_0 : lab 19 0 = B_Or_after_0 := (congrArg (fun l => (l.lookup 0).getD []) lbq_19).trans rfl
theorem L_Or_after_26 : lab 19 26 = B_Or_after_26 := (congrArg (fun l => (l.lookup 26).getD []) lbq_19).trans rfl
theorem L_Or_after_28 : lab 19 28 = B_Or_after_28 := (congrArg (fun l => (l.lookup 28).getD []) lbq_19).trans rfl
theorem mL_Or_after : mL 19 = 5 := by decide +kernel
theorem L_Or_lowestOnlyIn_0 : lab 20 0 = B_Or_lowestOnlyIn_0 := (congrArg (fun l => (l.lookup 0).getD []) lbq_20).trans rfl
theorem L_Or_lowestOnlyIn_19 : lab 20 19 = B_Or_lowestOnlyIn_19 := (congrArg (fun l => (l.lookup 19).getD []) lbq_20).trans rfl
theorem L_Or_lowestOnlyIn_40 : lab 20 40 = B_Or_lowestOnlyIn_40 := (congrArg (fun l => (l.lookup 40).getD []) lbq_20).trans rfl
theorem L_Or_lowestOnlyIn_46 : lab 20 46 = B_Or_lowestOnlyIn_46 := (congrArg (fun l => (l.lookup 46).getD []) lbq_20).trans rfl
theorem mL_Or_lowestOnlyIn : mL 20 = 5 := by decide +kernel
theorem L_Or_copyFrom_0 : lab 21 0 = B_Or_copyFrom_0 := (congrArg (fun l => (l.lookup 0).getD []) lbq_21).trans rfl
theorem mL_Or_copyFrom : mL 21 = 2 := by decide +kernel
theorem L_Pa_init_0 : lab 22 0 = B_Pa_init_0 := (congrArg (fun l => (l.lookup 0).getD []) lbq_22).trans rfl
theorem L_Pa_init_41 : lab 22 41 = B_Pa_init_41 := (congrArg (fun l => (l.lookup 41).getD []) lbq_22).trans rfl
theorem L_Pa_init_69 : lab 22 69 = B_Pa_init_69 := (congrArg (fun l => (l.lookup 69).getD []) lbq_22).trans rfl
theorem mL_Pa_init : mL 22 = 2 := by decide +kernel
theorem L_Pa_keep_0 : lab 23 0 = B_Pa_keep_0 := (congrArg (fun l => (l.lookup 0).getD []) lbq_23).trans rfl
theorem mL_Pa_keep : mL 23 = 2 := by decide +kernel
theorem L_Pa_takeBack_0 : lab 24 0 = B_Pa_takeBack_0 := (congrArg (fun l => (l.lookup 0).getD []) lbq_24).trans rfl
theorem L_Pa_takeBack_46 : lab 24 46 = B_Pa_takeBack_46 := (congrArg (fun l => (l.lookup 46).getD []) lbq_24).trans rfl
theorem mL_Pa_takeBack : mL 24 = 2 := by decide +kernel
theorem L_Pa_saveAll_0 : lab 25 0 = B_Pa_saveAll_0 := (congrArg (fun l => (l.lookup 0).getD []) lbq_25).trans rfl
theorem mL_Pa_saveAll : mL 25 = 2 := by decide +kernel
theorem L_Pa_restoreAll_0 : lab 26 0 = B_Pa_restoreAll_0 := (congrArg (fun l => (l.lookup 0).getD []) lbq_26).trans rfl
theorem mL_Pa_restoreAll : mL 26 = 2 := by decide +kernel
theorem L_Pa_forget_0 : lab 27 0 = B_Pa_forget_0 := (congrArg (fun l => (l.lookup 0).getD []) lbq_27).trans rfl
theorem mL_Pa_forget : mL 27 = 1 := by decide +kernel
theorem L_Ro_init_0 : lab 28 0 = B_Ro_init_0 := (congrArg (fun l => (l.lookup 0).getD []) lbq_28).trans rfl
theorem mL_Ro_init : mL 28 = 3 := by decide +kernel
theorem L_Ro_forgetTests_0 : lab 29 0 = B_Ro_forgetTests_0 := (congrArg (fun l => (l.lookup 0).getD []) lbq_29).trans rfl
theorem mL_Ro_forgetTests : mL 29 = 1 := by decide +kernel
theorem L_Ro_forgetLooks_0 : lab 30 0 = B_Ro_forgetLooks_0 := (congrArg (fun l => (l.lookup 0).getD []) lbq_30).trans rfl
theorem mL_Ro_forgetLooks : mL 30 = 1 := by decide +kernel
theorem L_Ro_look_0 : lab 31 0 = B_Ro_look_0 := (congrArg (fun l => (l.lookup 0).getD []) lbq_31).trans rfl
theorem L_Ro_look_16 : lab 31 16 = B_Ro_look_16 := (congrArg (fun l => (l.lookup 16).getD []) lbq_31).trans rfl
theorem L_Ro_look_52 : lab 31 52 = B_Ro_look_52 := (congrArg (fun l => (l.lookup 52).getD []) lbq_31).trans rfl
theorem L_Ro_look_93 : lab 31 93 = B_Ro_look_93 := (congrArg (fun l => (l.lookup 93).getD []) lbq_31).trans rfl
theorem L_Ro_look_99 : lab 31 99 = B_Ro_look_99 := (congrArg (fun l => (l.lookup 99).getD []) lbq_31).trans rfl
theorem L_Ro_look_104 : lab 31 104 = B_Ro_look_104 := (congrArg (fun l => (l.lookup 104).getD []) lbq_31).trans rfl
theorem mL_Ro_look : mL 31 = 3 := by decide +kernel
theorem L_Ro_tryTests_0 : lab 32 0 = B_Ro_tryTests_0 := (congrArg (fun l => (l.lookup 0).getD []) lbq_32).trans rfl
theorem L_Ro_tryTests_2 : lab 32 2 = B_Ro_tryTests_2 := (congrArg (fun l => (l.lookup 2).getD []) lbq_32).trans rfl
theorem L_Ro_tryTests_28 : lab 32 28 = B_Ro_tryTests_28 := (congrArg (fun l => (l.lookup 28).getD []) lbq_32).trans rfl
theorem L_Ro_tryTests_66 : lab 32 66 = B_Ro_tryTests_66 := (congrArg (fun l => (l.lookup 66).getD []) lbq_32).trans rfl
theorem L_Ro_tryTests_95 : lab 32 95 = B_Ro_tryTests_95 := (congrArg (fun l => (l.lookup 95).getD []) lbq_32).trans rfl
theorem mL_Ro_tryTests : mL 32 = 5 := by decide +kernel
theorem L_Ro_openBy_0 : lab 33 0 = B_Ro_openBy_0 := (congrArg (fun l => (l.lookup 0).getD []) lbq_33).trans rfl
theorem L_Ro_openBy_5 : lab 33 5 = B_Ro_openBy_5 := (congrArg (fun l => (l.lookup 5).getD []) lbq_33).trans rfl
theorem L_Ro_openBy_56 : lab 33 56 = B_Ro_openBy_56 := (congrArg (fun l => (l.lookup 56).getD []) lbq_33).trans rfl
theorem L_Ro_openBy_57 : lab 33 57 = B_Ro_openBy_57 := (congrArg (fun l => (l.lookup 57).getD []) lbq_33).trans rfl
theorem L_Ro_openBy_68 : lab 33 68 = B_Ro_openBy_68 := (congrArg (fun l => (l.lookup 68).getD []) lbq_33).trans rfl
theorem L_Ro_openBy_74 : lab 33 74 = B_Ro_openBy_74 := (congrArg (fun l => (l.lookup 74).getD []) lbq_33).trans rfl
theorem mL_Ro_openBy : mL 33 = 5 := by decide +kernel
theorem L_Ro_countLeft_0 : lab 34 0 = B_Ro_countLeft_0 := (congrArg (fun l => (l.lookup 0).getD []) lbq_34).trans rfl
theorem L_Ro_countLeft_4 : lab 34 4 = B_Ro_countLeft_4 := (congrArg (fun l => (l.lookup 4).getD []) lbq_34).trans rfl
theorem L_Ro_countLeft_37 : lab 34 37 = B_Ro_countLeft_37 := (congrArg (fun l => (l.lookup 37).getD []) lbq_34).trans rfl
theorem L_Ro_countLeft_43 : lab 34 43 = B_Ro_countLeft_43 := (congrArg (fun l => (l.lookup 43).getD []) lbq_34).trans rfl
theorem mL_Ro_countLeft : mL 34 = 3 := by decide +kernel
theorem L_Ro_countHeld_0 : lab 35 0 = B_Ro_countHeld_0 := (congrArg (fun l => (l.lookup 0).getD []) lbq_35).trans rfl
theorem L_Ro_countHeld_4 : lab 35 4 = B_Ro_countHeld_4 := (congrArg (fun l => (l.lookup 4).getD []) lbq_35).trans rfl
theorem L_Ro_countHeld_31 : lab 35 31 = B_Ro_countHeld_31 := (congrArg (fun l => (l.lookup 31).getD []) lbq_35).trans rfl
theorem L_Ro_countHeld_37 : lab 35 37 = B_Ro_countHeld_37 := (congrArg (fun l => (l.lookup 37).getD []) lbq_35).trans rfl
theorem mL_Ro_countHeld : mL 35 = 4 := by decide +kernel
theorem L_Ro_countLeftOutBy_0 : lab 36 0 = B_Ro_countLeftOutBy_0 := (congrArg (fun l => (l.lookup 0).getD []) lbq_36).trans rfl
theorem L_Ro_countLeftOutBy_4 : lab 36 4 = B_Ro_countLeftOutBy_4 := (congrArg (fun l => (l.lookup 4).getD []) lbq_36).trans rfl
theorem L_Ro_countLeftOutBy_50 : lab 36 50 = B_Ro_countLeftOutBy_50 := (congrArg (fun l => (l.lookup 50).getD []) lbq_36).trans rfl
theorem L_Ro_countLeftOutBy_56 : lab 36 56 = B_Ro_countLeftOutBy_56 := (congrArg (fun l => (l.lookup 56).getD []) lbq_36).trans rfl
theorem mL_Ro_countLeftOutBy : mL 36 = 4 := by decide +kernel
theorem L_Ro_countTrue_0 : lab 37 0 = B_Ro_countTrue_0 := (congrArg (fun l => (l.lookup 0).getD []) lbq_37).trans rfl
theorem L_Ro_countTrue_5 : lab 37 5 = B_Ro_countTrue_5 := (congrArg (fun l => (l.lookup 5).getD []) lbq_37).trans rfl
theorem L_Ro_countTrue_31 : lab 37 31 = B_Ro_countTrue_31 := (congrArg (fun l => (l.lookup 31).getD []) lbq_37).trans rfl
theorem L_Ro_countTrue_60 : lab 37 60 = B_Ro_countTrue_60 := (congrArg (fun l => (l.lookup 60).getD []) lbq_37).trans rfl
theorem L_Ro_countTrue_66 : lab 37 66 = B_Ro_countTrue_66 := (congrArg (fun l => (l.lookup 66).getD []) lbq_37).trans rfl
theorem mL_Ro_countTrue : mL 37 = 5 := by decide +kernel
theorem L_St_init_0 : lab 38 0 = B_St_init_0 := (congrArg (fun l => (l.lookup 0).getD []) lbq_38).trans rfl
theorem mL_St_init : mL 38 = 1 := by decide +kernel
theorem L_St_clear_0 : lab 39 0 = B_St_clear_0 := (congrArg (fun l => (l.lookup 0).getD []) lbq_39).trans rfl
theorem L_St_clear_2 : lab 39 2 = B_St_clear_2 := (congrArg (fun l => (l.lookup 2).getD []) lbq_39).trans rfl
theorem L_St_clear_24 : lab 39 24 = B_St_clear_24 := (congrArg (fun l => (l.lookup 24).getD []) lbq_39).trans rfl
theorem mL_St_clear : mL 39 = 2 := by decide +kernel
theorem L_St_now_0 : lab 40 0 = B_St_now_0 := (congrArg (fun l => (l.lookup 0).getD []) lbq_40).trans rfl
theorem L_St_now_33 : lab 40 33 = B_St_now_33 := (congrArg (fun l => (l.lookup 33).getD []) lbq_40).trans rfl
theorem L_St_now_34 : lab 40 34 = B_St_now_34 := (congrArg (fun l => (l.lookup 34).getD []) lbq_40).trans rfl
theorem mL_St_now : mL 40 = 1 := by decide +kernel
theorem L_St_walkTo_0 : lab 41 0 = B_St_walkTo_0 := (congrArg (fun l => (l.lookup 0).getD []) lbq_41).trans rfl
theorem L_St_walkTo_32 : lab 41 32 = B_St_walkTo_32 := (congrArg (fun l => (l.lookup 32).getD []) lbq_41).trans rfl
theorem mL_St_walkTo : mL 41 = 2 := by decide +kernel
theorem L_St_countStruck_0 : lab 42 0 = B_St_countStruck_0 := (congrArg (fun l => (l.lookup 0).getD []) lbq_42).trans rfl
theorem L_St_countStruck_4 : lab 42 4 = B_St_countStruck_4 := (congrArg (fun l => (l.lookup 4).getD []) lbq_42).trans rfl
theorem L_St_countStruck_25 : lab 42 25 = B_St_countStruck_25 := (congrArg (fun l => (l.lookup 25).getD []) lbq_42).trans rfl
theorem L_St_countStruck_31 : lab 42 31 = B_St_countStruck_31 := (congrArg (fun l => (l.lookup 31).getD []) lbq_42).trans rfl
theorem mL_St_countStruck : mL 42 = 3 := by decide +kernel
theorem L_St_addTest_0 : lab 43 0 = B_St_addTest_0 := (congrArg (fun l => (l.lookup 0).getD []) lbq_43).trans rfl
theorem L_St_addTest_47 : lab 43 47 = B_St_addTest_47 := (congrArg (fun l => (l.lookup 47).getD []) lbq_43).trans rfl
theorem mL_St_addTest : mL 43 = 2 := by decide +kernel
theorem L_St_dropTest_0 : lab 44 0 = B_St_dropTest_0 := (congrArg (fun l => (l.lookup 0).getD []) lbq_44).trans rfl
theorem L_St_dropTest_32 : lab 44 32 = B_St_dropTest_32 := (congrArg (fun l => (l.lookup 32).getD []) lbq_44).trans rfl
theorem L_St_dropTest_65 : lab 44 65 = B_St_dropTest_65 := (congrArg (fun l => (l.lookup 65).getD []) lbq_44).trans rfl
theorem mL_St_dropTest : mL 44 = 5 := by decide +kernel
theorem L_St_tokensOf_0 : lab 45 0 = B_St_tokensOf_0 := (congrArg (fun l => (l.lookup 0).getD []) lbq_45).trans rfl
theorem L_St_tokensOf_15 : lab 45 15 = B_St_tokensOf_15 := (congrArg (fun l => (l.lookup 15).getD []) lbq_45).trans rfl
theorem L_St_tokensOf_19 : lab 45 19 = B_St_tokensOf_19 := (congrArg (fun l => (l.lookup 19).getD []) lbq_45).trans rfl
theorem mL_St_tokensOf : mL 45 = 3 := by decide +kernel
theorem L_St_failing_0 : lab 46 0 = B_St_failing_0 := (congrArg (fun l => (l.lookup 0).getD []) lbq_46).trans rfl
theorem L_St_failing_6 : lab 46 6 = B_St_failing_6 := (congrArg (fun l => (l.lookup 6).getD []) lbq_46).trans rfl
theorem L_St_failing_49 : lab 46 49 = B_St_failing_49 := (congrArg (fun l => (l.lookup 49).getD []) lbq_46).trans rfl
theorem L_St_failing_55 : lab 46 55 = B_St_failing_55 := (congrArg (fun l => (l.lookup 55).getD []) lbq_46).trans rfl
theorem mL_St_failing : mL 46 = 7 := by decide +kernel
theorem L_St_copyFrom_0 : lab 47 0 = B_St_copyFrom_0 := (congrArg (fun l => (l.lookup 0).getD []) lbq_47).trans rfl
theorem L_St_copyFrom_88 : lab 47 88 = B_St_copyFrom_88 := (congrArg (fun l => (l.lookup 88).getD []) lbq_47).trans rfl
theorem L_St_copyFrom_115 : lab 47 115 = B_St_copyFrom_115 := (congrArg (fun l => (l.lookup 115).getD []) lbq_47).trans rfl
theorem mL_St_copyFrom : mL 47 = 3 := by decide +kernel
theorem L_Te_init_0 : lab 48 0 = B_Te_init_0 := (congrArg (fun l => (l.lookup 0).getD []) lbq_48).trans rfl
theorem mL_Te_init : mL 48 = 3 := by decide +kernel
theorem L_Te_clear_0 : lab 49 0 = B_Te_clear_0 := (congrArg (fun l => (l.lookup 0).getD []) lbq_49).trans rfl
theorem mL_Te_clear : mL 49 = 1 := by decide +kernel
theorem L_Te_add_0 : lab 50 0 = B_Te_add_0 := (congrArg (fun l => (l.lookup 0).getD []) lbq_50).trans rfl
theorem L_Te_add_52 : lab 50 52 = B_Te_add_52 := (congrArg (fun l => (l.lookup 52).getD []) lbq_50).trans rfl
theorem mL_Te_add : mL 50 = 4 := by decide +kernel
theorem L_Te_copied_0 : lab 51 0 = B_Te_copied_0 := (congrArg (fun l => (l.lookup 0).getD []) lbq_51).trans rfl
theorem L_Te_copied_14 : lab 51 14 = B_Te_copied_14 := (congrArg (fun l => (l.lookup 14).getD []) lbq_51).trans rfl
theorem L_Te_copied_50 : lab 51 50 = B_Te_copied_50 := (congrArg (fun l => (l.lookup 50).getD []) lbq_51).trans rfl
theorem mL_Te_copied : mL 51 = 3 := by decide +kernel
theorem L_Te_isTrue_0 : lab 52 0 = B_Te_isTrue_0 := (congrArg (fun l => (l.lookup 0).getD []) lbq_52).trans rfl
theorem L_Te_isTrue_6 : lab 52 6 = B_Te_isTrue_6 := (congrArg (fun l => (l.lookup 6).getD []) lbq_52).trans rfl
theorem L_Te_isTrue_56 : lab 52 56 = B_Te_isTrue_56 := (congrArg (fun l => (l.lookup 56).getD []) lbq_52).trans rfl
theorem L_Te_isTrue_65 : lab 52 65 = B_Te_isTrue_65 := (congrArg (fun l => (l.lookup 65).getD []) lbq_52).trans rfl
theorem L_Te_isTrue_80 : lab 52 80 = B_Te_isTrue_80 := (congrArg (fun l => (l.lookup 80).getD []) lbq_52).trans rfl
theorem L_Te_isTrue_92 : lab 52 92 = B_Te_isTrue_92 := (congrArg (fun l => (l.lookup 92).getD []) lbq_52).trans rfl
theorem L_Te_isTrue_112 : lab 52 112 = B_Te_isTrue_112 := (congrArg (fun l => (l.lookup 112).getD []) lbq_52).trans rfl
theorem L_Te_isTrue_113 : lab 52 113 = B_Te_isTrue_113 := (congrArg (fun l => (l.lookup 113).getD []) lbq_52).trans rfl
theorem L_Te_isTrue_116 : lab 52 116 = B_Te_isTrue_116 := (congrArg (fun l => (l.lookup 116).getD []) lbq_52).trans rfl
theorem L_Te_isTrue_122 : lab 52 122 = B_Te_isTrue_122 := (congrArg (fun l => (l.lookup 122).getD []) lbq_52).trans rfl
theorem L_Te_isTrue_133 : lab 52 133 = B_Te_isTrue_133 := (congrArg (fun l => (l.lookup 133).getD []) lbq_52).trans rfl
theorem L_Te_isTrue_134 : lab 52 134 = B_Te_isTrue_134 := (congrArg (fun l => (l.lookup 134).getD []) lbq_52).trans rfl
theorem mL_Te_isTrue : mL 52 = 7 := by decide +kernel
theorem L_Te_isLeafTrue_0 : lab 53 0 = B_Te_isLeafTrue_0 := (congrArg (fun l => (l.lookup 0).getD []) lbq_53).trans rfl
theorem L_Te_isLeafTrue_32 : lab 53 32 = B_Te_isLeafTrue_32 := (congrArg (fun l => (l.lookup 32).getD []) lbq_53).trans rfl
theorem L_Te_isLeafTrue_56 : lab 53 56 = B_Te_isLeafTrue_56 := (congrArg (fun l => (l.lookup 56).getD []) lbq_53).trans rfl
theorem L_Te_isLeafTrue_57 : lab 53 57 = B_Te_isLeafTrue_57 := (congrArg (fun l => (l.lookup 57).getD []) lbq_53).trans rfl
theorem L_Te_isLeafTrue_58 : lab 53 58 = B_Te_isLeafTrue_58 := (congrArg (fun l => (l.lookup 58).getD []) lbq_53).trans rfl
theorem L_Te_isLeafTrue_82 : lab 53 82 = B_Te_isLeafTrue_82 := (congrArg (fun l => (l.lookup 82).getD []) lbq_53).trans rfl
theorem L_Te_isLeafTrue_83 : lab 53 83 = B_Te_isLeafTrue_83 := (congrArg (fun l => (l.lookup 83).getD []) lbq_53).trans rfl
theorem L_Te_isLeafTrue_84 : lab 53 84 = B_Te_isLeafTrue_84 := (congrArg (fun l => (l.lookup 84).getD []) lbq_53).trans rfl
theorem L_Te_isLeafTrue_101 : lab 53 101 = B_Te_isLeafTrue_101 := (congrArg (fun l => (l.lookup 101).getD []) lbq_53).trans rfl
theorem mL_Te_isLeafTrue : mL 53 = 5 := by decide +kernel
theorem L_Te_isSo_0 : lab 54 0 = B_Te_isSo_0 := (congrArg (fun l => (l.lookup 0).getD []) lbq_54).trans rfl
theorem L_Te_isSo_15 : lab 54 15 = B_Te_isSo_15 := (congrArg (fun l => (l.lookup 15).getD []) lbq_54).trans rfl
theorem L_Te_isSo_16 : lab 54 16 = B_Te_isSo_16 := (congrArg (fun l => (l.lookup 16).getD []) lbq_54).trans rfl
theorem L_Te_isSo_17 : lab 54 17 = B_Te_isSo_17 := (congrArg (fun l => (l.lookup 17).getD []) lbq_54).trans rfl
theorem L_Te_isSo_32 : lab 54 32 = B_Te_isSo_32 := (congrArg (fun l => (l.lookup 32).getD []) lbq_54).trans rfl
theorem L_Te_isSo_36 : lab 54 36 = B_Te_isSo_36 := (congrArg (fun l => (l.lookup 36).getD []) lbq_54).trans rfl
theorem L_Te_isSo_45 : lab 54 45 = B_Te_isSo_45 := (congrArg (fun l => (l.lookup 45).getD []) lbq_54).trans rfl
theorem L_Te_isSo_46 : lab 54 46 = B_Te_isSo_46 := (congrArg (fun l => (l.lookup 46).getD []) lbq_54).trans rfl
theorem mL_Te_isSo : mL 54 = 3 := by decide +kernel
theorem L_TR_init_0 : lab 55 0 = B_TR_init_0 := (congrArg (fun l => (l.lookup 0).getD []) lbq_55).trans rfl
theorem mL_TR_init : mL 55 = 3 := by decide +kernel
theorem L_TR_begin_0 : lab 56 0 = B_TR_begin_0 := (congrArg (fun l => (l.lookup 0).getD []) lbq_56).trans rfl
theorem mL_TR_begin : mL 56 = 2 := by decide +kernel
theorem L_TR_readWhole_0 : lab 57 0 = B_TR_readWhole_0 := (congrArg (fun l => (l.lookup 0).getD []) lbq_57).trans rfl
theorem L_TR_readWhole_36 : lab 57 36 = B_TR_readWhole_36 := (congrArg (fun l => (l.lookup 36).getD []) lbq_57).trans rfl
theorem L_TR_readWhole_40 : lab 57 40 = B_TR_readWhole_40 := (congrArg (fun l => (l.lookup 40).getD []) lbq_57).trans rfl
theorem L_TR_readWhole_41 : lab 57 41 = B_TR_readWhole_41 := (congrArg (fun l => (l.lookup 41).getD []) lbq_57).trans rfl
theorem mL_TR_readWhole : mL 57 = 2 := by decide +kernel
theorem L_TR_readTest_0 : lab 58 0 = B_TR_readTest_0 := (congrArg (fun l => (l.lookup 0).getD []) lbq_58).trans rfl
theorem L_TR_readTest_2 : lab 58 2 = B_TR_readTest_2 := (congrArg (fun l => (l.lookup 2).getD []) lbq_58).trans rfl
theorem L_TR_readTest_11 : lab 58 11 = B_TR_readTest_11 := (congrArg (fun l => (l.lookup 11).getD []) lbq_58).trans rfl
theorem L_TR_readTest_28 : lab 58 28 = B_TR_readTest_28 := (congrArg (fun l => (l.lookup 28).getD []) lbq_58).trans rfl
theorem L_TR_readTest_42 : lab 58 42 = B_TR_readTest_42 := (congrArg (fun l => (l.lookup 42).getD []) lbq_58).trans rfl
theorem L_TR_readTest_58 : lab 58 58 = B_TR_readTest_58 := (congrArg (fun l => (l.lookup 58).getD []) lbq_58).trans rfl
theorem L_TR_readTest_64 : lab 58 64 = B_TR_readTest_64 := (congrArg (fun l => (l.lookup 64).getD []) lbq_58).trans rfl
theorem L_TR_readTest_79 : lab 58 79 = B_TR_readTest_79 := (congrArg (fun l => (l.lookup 79).getD []) lbq_58).trans rfl
theorem L_TR_readTest_95 : lab 58 95 = B_TR_readTest_95 := (congrArg (fun l => (l.lookup 95).getD []) lbq_58).trans rfl
theorem L_TR_readTest_101 : lab 58 101 = B_TR_readTest_101 := (congrArg (fun l => (l.lookup 101).getD []) lbq_58).trans rfl
theorem mL_TR_readTest : mL 58 = 4 := by decide +kernel
theorem L_TR_readFactor_0 : lab 59 0 = B_TR_readFactor_0 := (congrArg (fun l => (l.lookup 0).getD []) lbq_59).trans rfl
theorem L_TR_readFactor_27 : lab 59 27 = B_TR_readFactor_27 := (congrArg (fun l => (l.lookup 27).getD []) lbq_59).trans rfl
theorem L_TR_readFactor_43 : lab 59 43 = B_TR_readFactor_43 := (congrArg (fun l => (l.lookup 43).getD []) lbq_59).trans rfl
theorem L_TR_readFactor_64 : lab 59 64 = B_TR_readFactor_64 := (congrArg (fun l => (l.lookup 64).getD []) lbq_59).trans rfl
theorem L_TR_readFactor_90 : lab 59 90 = B_TR_readFactor_90 := (congrArg (fun l => (l.lookup 90).getD []) lbq_59).trans rfl
theorem L_TR_readFactor_91 : lab 59 91 = B_TR_readFactor_91 := (congrArg (fun l => (l.lookup 91).getD []) lbq_59).trans rfl
theorem L_TR_readFactor_92 : lab 59 92 = B_TR_readFactor_92 := (congrArg (fun l => (l.lookup 92).getD []) lbq_59).trans rfl
theorem L_TR_readFactor_108 : lab 59 108 = B_TR_readFactor_108 := (congrArg (fun l => (l.lookup 108).getD []) lbq_59).trans rfl
theorem L_TR_readFactor_134 : lab 59 134 = B_TR_readFactor_134 := (congrArg (fun l => (l.lookup 134).getD []) lbq_59).trans rfl
theorem L_TR_readFactor_139 : lab 59 139 = B_TR_readFactor_139 := (congrArg (fun l => (l.lookup 139).getD []) lbq_59).trans rfl
theorem mL_TR_readFactor : mL 59 = 3 := by decide +kernel
theorem L_TR_readNegated_0 : lab 60 0 = B_TR_readNegated_0 := (congrArg (fun l => (l.lookup 0).getD []) lbq_60).trans rfl
theorem L_TR_readNegated_10 : lab 60 10 = B_TR_readNegated_10 := (congrArg (fun l => (l.lookup 10).getD []) lbq_60).trans rfl
theorem mL_TR_readNegated : mL 60 = 2 := by decide +kernel
theorem L_TR_readName_0 : lab 61 0 = B_TR_readName_0 := (congrArg (fun l => (l.lookup 0).getD []) lbq_61).trans rfl
theorem L_TR_readName_12 : lab 61 12 = B_TR_readName_12 := (congrArg (fun l => (l.lookup 12).getD []) lbq_61).trans rfl
theorem mL_TR_readName : mL 61 = 2 := by decide +kernel
theorem L_TR_readComparison_0 : lab 62 0 = B_TR_readComparison_0 := (congrArg (fun l => (l.lookup 0).getD []) lbq_62).trans rfl
theorem L_TR_readComparison_17 : lab 62 17 = B_TR_readComparison_17 := (congrArg (fun l => (l.lookup 17).getD []) lbq_62).trans rfl
theorem L_TR_readComparison_18 : lab 62 18 = B_TR_readComparison_18 := (congrArg (fun l => (l.lookup 18).getD []) lbq_62).trans rfl
theorem L_TR_readComparison_79 : lab 62 79 = B_TR_readComparison_79 := (congrArg (fun l => (l.lookup 79).getD []) lbq_62).trans rfl
theorem L_TR_readComparison_105 : lab 62 105 = B_TR_readComparison_105 := (congrArg (fun l => (l.lookup 105).getD []) lbq_62).trans rfl
theorem mL_TR_readComparison : mL 62 = 4 := by decide +kernel
theorem L_TR_readList_0 : lab 63 0 = B_TR_readList_0 := (congrArg (fun l => (l.lookup 0).getD []) lbq_63).trans rfl
theorem L_TR_readList_84 : lab 63 84 = B_TR_readList_84 := (congrArg (fun l => (l.lookup 84).getD []) lbq_63).trans rfl
theorem L_TR_readList_99 : lab 63 99 = B_TR_readList_99 := (congrArg (fun l => (l.lookup 99).getD []) lbq_63).trans rfl
theorem L_TR_readList_100 : lab 63 100 = B_TR_readList_100 := (congrArg (fun l => (l.lookup 100).getD []) lbq_63).trans rfl
theorem L_TR_readList_111 : lab 63 111 = B_TR_readList_111 := (congrArg (fun l => (l.lookup 111).getD []) lbq_63).trans rfl
theorem L_TR_readList_123 : lab 63 123 = B_TR_readList_123 := (congrArg (fun l => (l.lookup 123).getD []) lbq_63).trans rfl
theorem L_TR_readList_141 : lab 63 141 = B_TR_readList_141 := (congrArg (fun l => (l.lookup 141).getD []) lbq_63).trans rfl
theorem L_TR_readList_143 : lab 63 143 = B_TR_readList_143 := (congrArg (fun l => (l.lookup 143).getD []) lbq_63).trans rfl
theorem L_TR_readList_149 : lab 63 149 = B_TR_readList_149 := (congrArg (fun l => (l.lookup 149).getD []) lbq_63).trans rfl
theorem L_TR_readList_174 : lab 63 174 = B_TR_readList_174 := (congrArg (fun l => (l.lookup 174).getD []) lbq_63).trans rfl
theorem L_TR_readList_188 : lab 63 188 = B_TR_readList_188 := (congrArg (fun l => (l.lookup 188).getD []) lbq_63).trans rfl
theorem L_TR_readList_203 : lab 63 203 = B_TR_readList_203 := (congrArg (fun l => (l.lookup 203).getD []) lbq_63).trans rfl
theorem L_TR_readList_215 : lab 63 215 = B_TR_readList_215 := (congrArg (fun l => (l.lookup 215).getD []) lbq_63).trans rfl
theorem L_TR_readList_219 : lab 63 219 = B_TR_readList_219 := (congrArg (fun l => (l.lookup 219).getD []) lbq_63).trans rfl
theorem L_TR_readList_220 : lab 63 220 = B_TR_readList_220 := (congrArg (fun l => (l.lookup 220).getD []) lbq_63).trans rfl
theorem L_TR_readList_234 : lab 63 234 = B_TR_readList_234 := (congrArg (fun l => (l.lookup 234).getD []) lbq_63).trans rfl
theorem L_TR_readList_236 : lab 63 236 = B_TR_readList_236 := (congrArg (fun l => (l.lookup 236).getD []) lbq_63).trans rfl
theorem mL_TR_readList : mL 63 = 9 := by decide +kernel
theorem L_TR_takeThing_0 : lab 64 0 = B_TR_takeThing_0 := (congrArg (fun l => (l.lookup 0).getD []) lbq_64).trans rfl
theorem L_TR_takeThing_22 : lab 64 22 = B_TR_takeThing_22 := (congrArg (fun l => (l.lookup 22).getD []) lbq_64).trans rfl
theorem L_TR_takeThing_53 : lab 64 53 = B_TR_takeThing_53 := (congrArg (fun l => (l.lookup 53).getD []) lbq_64).trans rfl
theorem mL_TR_takeThing : mL 64 = 2 := by decide +kernel
theorem L_XR_init_0 : lab 65 0 = B_XR_init_0 := (congrArg (fun l => (l.lookup 0).getD []) lbq_65).trans rfl
theorem mL_XR_init : mL 65 = 3 := by decide +kernel
theorem L_XR_read_0 : lab 66 0 = B_XR_read_0 := (congrArg (fun l => (l.lookup 0).getD []) lbq_66).trans rfl
theorem L_XR_read_28 : lab 66 28 = B_XR_read_28 := (congrArg (fun l => (l.lookup 28).getD []) lbq_66).trans rfl
theorem L_XR_read_30 : lab 66 30 = B_XR_read_30 := (congrArg (fun l => (l.lookup 30).getD []) lbq_66).trans rfl
theorem L_XR_read_32 : lab 66 32 = B_XR_read_32 := (congrArg (fun l => (l.lookup 32).getD []) lbq_66).trans rfl
theorem L_XR_read_93 : lab 66 93 = B_XR_read_93 := (congrArg (fun l => (l.lookup 93).getD []) lbq_66).trans rfl
theorem L_XR_read_97 : lab 66 97 = B_XR_read_97 := (congrArg (fun l => (l.lookup 97).getD []) lbq_66).trans rfl
theorem L_XR_read_101 : lab 66 101 = B_XR_read_101 := (congrArg (fun l => (l.lookup 101).getD []) lbq_66).trans rfl
theorem L_XR_read_108 : lab 66 108 = B_XR_read_108 := (congrArg (fun l => (l.lookup 108).getD []) lbq_66).trans rfl
theorem L_XR_read_129 : lab 66 129 = B_XR_read_129 := (congrArg (fun l => (l.lookup 129).getD []) lbq_66).trans rfl
theorem L_XR_read_135 : lab 66 135 = B_XR_read_135 := (congrArg (fun l => (l.lookup 135).getD []) lbq_66).trans rfl
theorem mL_XR_read : mL 66 = 4 := by decide +kernel
theorem L_XR_readHead_0 : lab 67 0 = B_XR_readHead_0 := (congrArg (fun l => (l.lookup 0).getD []) lbq_67).trans rfl
theorem L_XR_readHead_22 : lab 67 22 = B_XR_readHead_22 := (congrArg (fun l => (l.lookup 22).getD []) lbq_67).trans rfl
theorem L_XR_readHead_52 : lab 67 52 = B_XR_readHead_52 := (congrArg (fun l => (l.lookup 52).getD []) lbq_67).trans rfl
theorem L_XR_readHead_94 : lab 67 94 = B_XR_readHead_94 := (congrArg (fun l => (l.lookup 94).getD []) lbq_67).trans rfl
theorem mL_XR_readHead : mL 67 = 1 := by decide +kernel
theorem L_XR_readThings_0 : lab 68 0 = B_XR_readThings_0 := (congrArg (fun l => (l.lookup 0).getD []) lbq_68).trans rfl
theorem L_XR_readThings_22 : lab 68 22 = B_XR_readThings_22 := (congrArg (fun l => (l.lookup 22).getD []) lbq_68).trans rfl
theorem L_XR_readThings_24 : lab 68 24 = B_XR_readThings_24 := (congrArg (fun l => (l.lookup 24).getD []) lbq_68).trans rfl
theorem L_XR_readThings_52 : lab 68 52 = B_XR_readThings_52 := (congrArg (fun l => (l.lookup 52).getD []) lbq_68).trans rfl
theorem L_XR_readThings_58 : lab 68 58 = B_XR_readThings_58 := (congrArg (fun l => (l.lookup 58).getD []) lbq_68).trans rfl
theorem L_XR_readThings_80 : lab 68 80 = B_XR_readThings_80 := (congrArg (fun l => (l.lookup 80).getD []) lbq_68).trans rfl
theorem L_XR_readThings_127 : lab 68 127 = B_XR_readThings_127 := (congrArg (fun l => (l.lookup 127).getD []) lbq_68).trans rfl
theorem L_XR_readThings_154 : lab 68 154 = B_XR_readThings_154 := (congrArg (fun l => (l.lookup 154).getD []) lbq_68).trans rfl
theorem mL_XR_readThings : mL 68 = 2 := by decide +kernel
theorem L_XR_readThing_0 : lab 69 0 = B_XR_readThing_0 := (congrArg (fun l => (l.lookup 0).getD []) lbq_69).trans rfl
theorem L_XR_readThing_42 : lab 69 42 = B_XR_readThing_42 := (congrArg (fun l => (l.lookup 42).getD []) lbq_69).trans rfl
theorem L_XR_readThing_65 : lab 69 65 = B_XR_readThing_65 := (congrArg (fun l => (l.lookup 65).getD []) lbq_69).trans rfl
theorem L_XR_readThing_74 : lab 69 74 = B_XR_readThing_74 := (congrArg (fun l => (l.lookup 74).getD []) lbq_69).trans rfl
theorem L_XR_readThing_109 : lab 69 109 = B_XR_readThing_109 := (congrArg (fun l => (l.lookup 109).getD []) lbq_69).trans rfl
theorem L_XR_readThing_111 : lab 69 111 = B_XR_readThing_111 := (congrArg (fun l => (l.lookup 111).getD []) lbq_69).trans rfl
theorem mL_XR_readThing : mL 69 = 4 := by decide +kernel
theorem L_XR_opensRule_0 : lab 70 0 = B_XR_opensRule_0 := (congrArg (fun l => (l.lookup 0).getD []) lbq_70).trans rfl
theorem L_XR_opensRule_21 : lab 70 21 = B_XR_opensRule_21 := (congrArg (fun l => (l.lookup 21).getD []) lbq_70).trans rfl
theorem mL_XR_opensRule : mL 70 = 1 := by decide +kernel
theorem L_XR_readStrike_0 : lab 71 0 = B_XR_readStrike_0 := (congrArg (fun l => (l.lookup 0).getD []) lbq_71).trans rfl
theorem L_XR_readStrike_22 : lab 71 22 = B_XR_readStrike_22 := (congrArg (fun l => (l.lookup 22).getD []) lbq_71).trans rfl
theorem L_XR_readStrike_26 : lab 71 26 = B_XR_readStrike_26 := (congrArg (fun l => (l.lookup 26).getD []) lbq_71).trans rfl
theorem L_XR_readStrike_51 : lab 71 51 = B_XR_readStrike_51 := (congrArg (fun l => (l.lookup 51).getD []) lbq_71).trans rfl
theorem L_XR_readStrike_64 : lab 71 64 = B_XR_readStrike_64 := (congrArg (fun l => (l.lookup 64).getD []) lbq_71).trans rfl
theorem L_XR_readStrike_76 : lab 71 76 = B_XR_readStrike_76 := (congrArg (fun l => (l.lookup 76).getD []) lbq_71).trans rfl
theorem L_XR_readStrike_102 : lab 71 102 = B_XR_readStrike_102 := (congrArg (fun l => (l.lookup 102).getD []) lbq_71).trans rfl
theorem L_XR_readStrike_112 : lab 71 112 = B_XR_readStrike_112 := (congrArg (fun l => (l.lookup 112).getD []) lbq_71).trans rfl
theorem mL_XR_readStrike : mL 71 = 4 := by decide +kernel
theorem L_XR_takeStruck_0 : lab 72 0 = B_XR_takeStruck_0 := (congrArg (fun l => (l.lookup 0).getD []) lbq_72).trans rfl
theorem L_XR_takeStruck_29 : lab 72 29 = B_XR_takeStruck_29 := (congrArg (fun l => (l.lookup 29).getD []) lbq_72).trans rfl
theorem L_XR_takeStruck_57 : lab 72 57 = B_XR_takeStruck_57 := (congrArg (fun l => (l.lookup 57).getD []) lbq_72).trans rfl
theorem L_XR_takeStruck_68 : lab 72 68 = B_XR_takeStruck_68 := (congrArg (fun l => (l.lookup 68).getD []) lbq_72).trans rfl
theorem L_XR_takeStruck_93 : lab 72 93 = B_XR_takeStruck_93 := (congrArg (fun l => (l.lookup 93).getD []) lbq_72).trans rfl
theorem mL_XR_takeStruck : mL 72 = 4 := by decide +kernel
theorem L_Tk_init_0 : lab 73 0 = B_Tk_init_0 := (congrArg (fun l => (l.lookup 0).getD []) lbq_73).trans rfl
theorem mL_Tk_init : mL 73 = 1 := by decide +kernel
theorem L_Tk_split_0 : lab 74 0 = B_Tk_split_0 := (congrArg (fun l => (l.lookup 0).getD []) lbq_74).trans rfl
theorem L_Tk_split_25 : lab 74 25 = B_Tk_split_25 := (congrArg (fun l => (l.lookup 25).getD []) lbq_74).trans rfl
theorem L_Tk_split_73 : lab 74 73 = B_Tk_split_73 := (congrArg (fun l => (l.lookup 73).getD []) lbq_74).trans rfl
theorem L_Tk_split_77 : lab 74 77 = B_Tk_split_77 := (congrArg (fun l => (l.lookup 77).getD []) lbq_74).trans rfl
theorem L_Tk_split_78 : lab 74 78 = B_Tk_split_78 := (congrArg (fun l => (l.lookup 78).getD []) lbq_74).trans rfl
theorem L_Tk_split_99 : lab 74 99 = B_Tk_split_99 := (congrArg (fun l => (l.lookup 99).getD []) lbq_74).trans rfl
theorem L_Tk_split_108 : lab 74 108 = B_Tk_split_108 := (congrArg (fun l => (l.lookup 108).getD []) lbq_74).trans rfl
theorem mL_Tk_split : mL 74 = 7 := by decide +kernel
theorem L_Tk_kindOf_0 : lab 75 0 = B_Tk_kindOf_0 := (congrArg (fun l => (l.lookup 0).getD []) lbq_75).trans rfl
theorem L_Tk_kindOf_12 : lab 75 12 = B_Tk_kindOf_12 := (congrArg (fun l => (l.lookup 12).getD []) lbq_75).trans rfl
theorem L_Tk_kindOf_14 : lab 75 14 = B_Tk_kindOf_14 := (congrArg (fun l => (l.lookup 14).getD []) lbq_75).trans rfl
theorem L_Tk_kindOf_28 : lab 75 28 = B_Tk_kindOf_28 := (congrArg (fun l => (l.lookup 28).getD []) lbq_75).trans rfl
theorem L_Tk_kindOf_42 : lab 75 42 = B_Tk_kindOf_42 := (congrArg (fun l => (l.lookup 42).getD []) lbq_75).trans rfl
theorem L_Tk_kindOf_78 : lab 75 78 = B_Tk_kindOf_78 := (congrArg (fun l => (l.lookup 78).getD []) lbq_75).trans rfl
theorem L_Tk_kindOf_82 : lab 75 82 = B_Tk_kindOf_82 := (congrArg (fun l => (l.lookup 82).getD []) lbq_75).trans rfl
theorem L_Tk_kindOf_83 : lab 75 83 = B_Tk_kindOf_83 := (congrArg (fun l => (l.lookup 83).getD []) lbq_75).trans rfl
theorem L_Tk_kindOf_92 : lab 75 92 = B_Tk_kindOf_92 := (congrArg (fun l => (l.lookup 92).getD []) lbq_75).trans rfl
theorem L_Tk_kindOf_93 : lab 75 93 = B_Tk_kindOf_93 := (congrArg (fun l => (l.lookup 93).getD []) lbq_75).trans rfl
theorem mL_Tk_kindOf : mL 75 = 2 := by decide +kernel
theorem L_Tk_put_0 : lab 76 0 = B_Tk_put_0 := (congrArg (fun l => (l.lookup 0).getD []) lbq_76).trans rfl
theorem L_Tk_put_54 : lab 76 54 = B_Tk_put_54 := (congrArg (fun l => (l.lookup 54).getD []) lbq_76).trans rfl
theorem L_Tk_put_55 : lab 76 55 = B_Tk_put_55 := (congrArg (fun l => (l.lookup 55).getD []) lbq_76).trans rfl
theorem L_Tk_put_66 : lab 76 66 = B_Tk_put_66 := (congrArg (fun l => (l.lookup 66).getD []) lbq_76).trans rfl
theorem L_Tk_put_80 : lab 76 80 = B_Tk_put_80 := (congrArg (fun l => (l.lookup 80).getD []) lbq_76).trans rfl
theorem L_Tk_put_106 : lab 76 106 = B_Tk_put_106 := (congrArg (fun l => (l.lookup 106).getD []) lbq_76).trans rfl
theorem L_Tk_put_139 : lab 76 139 = B_Tk_put_139 := (congrArg (fun l => (l.lookup 139).getD []) lbq_76).trans rfl
theorem mL_Tk_put : mL 76 = 6 := by decide +kernel
theorem L_Tk_markKeywords_0 : lab 77 0 = B_Tk_markKeywords_0 := (congrArg (fun l => (l.lookup 0).getD []) lbq_77).trans rfl
theorem L_Tk_markKeywords_2 : lab 77 2 = B_Tk_markKeywords_2 := (congrArg (fun l => (l.lookup 2).getD []) lbq_77).trans rfl
theorem L_Tk_markKeywords_39 : lab 77 39 = B_Tk_markKeywords_39 := (congrArg (fun l => (l.lookup 39).getD []) lbq_77).trans rfl
theorem L_Tk_markKeywords_45 : lab 77 45 = B_Tk_markKeywords_45 := (congrArg (fun l => (l.lookup 45).getD []) lbq_77).trans rfl
theorem mL_Tk_markKeywords : mL 77 = 2 := by decide +kernel
theorem L_Tk_pass_0 : lab 78 0 = B_Tk_pass_0 := (congrArg (fun l => (l.lookup 0).getD []) lbq_78).trans rfl
theorem L_Tk_pass_32 : lab 78 32 = B_Tk_pass_32 := (congrArg (fun l => (l.lookup 32).getD []) lbq_78).trans rfl
theorem L_Tk_pass_33 : lab 78 33 = B_Tk_pass_33 := (congrArg (fun l => (l.lookup 33).getD []) lbq_78).trans rfl
theorem L_Tk_pass_51 : lab 78 51 = B_Tk_pass_51 := (congrArg (fun l => (l.lookup 51).getD []) lbq_78).trans rfl
theorem L_Tk_pass_53 : lab 78 53 = B_Tk_pass_53 := (congrArg (fun l => (l.lookup 53).getD []) lbq_78).trans rfl
theorem L_Tk_pass_73 : lab 78 73 = B_Tk_pass_73 := (congrArg (fun l => (l.lookup 73).getD []) lbq_78).trans rfl
theorem L_Tk_pass_74 : lab 78 74 = B_Tk_pass_74 := (congrArg (fun l => (l.lookup 74).getD []) lbq_78).trans rfl
theorem mL_Tk_pass : mL 78 = 2 := by decide +kernel
theorem L_Tk_fail_0 : lab 79 0 = B_Tk_fail_0 := (congrArg (fun l => (l.lookup 0).getD []) lbq_79).trans rfl
theorem L_Tk_fail_36 : lab 79 36 = B_Tk_fail_36 := (congrArg (fun l => (l.lookup 36).getD []) lbq_79).trans rfl
theorem L_Tk_fail_37 : lab 79 37 = B_Tk_fail_37 := (congrArg (fun l => (l.lookup 37).getD []) lbq_79).trans rfl
theorem mL_Tk_fail : mL 79 = 2 := by decide +kernel
theorem L_Tk_isWord_0 : lab 80 0 = B_Tk_isWord_0 := (congrArg (fun l => (l.lookup 0).getD []) lbq_80).trans rfl
theorem L_Tk_isWord_23 : lab 80 23 = B_Tk_isWord_23 := (congrArg (fun l => (l.lookup 23).getD []) lbq_80).trans rfl
theorem L_Tk_isWord_24 : lab 80 24 = B_Tk_isWord_24 := (congrArg (fun l => (l.lookup 24).getD []) lbq_80).trans rfl
theorem mL_Tk_isWord : mL 80 = 2 := by decide +kernel
theorem L_Tk_isSign_0 : lab 81 0 = B_Tk_isSign_0 := (congrArg (fun l => (l.lookup 0).getD []) lbq_81).trans rfl
theorem L_Tk_isSign_20 : lab 81 20 = B_Tk_isSign_20 := (congrArg (fun l => (l.lookup 20).getD []) lbq_81).trans rfl
theorem L_Tk_isSign_21 : lab 81 21 = B_Tk_isSign_21 := (congrArg (fun l => (l.lookup 21).getD []) lbq_81).trans rfl
theorem mL_Tk_isSign : mL 81 = 2 := by decide +kernel
theorem L_Tk_skipsWord_0 : lab 82 0 = B_Tk_skipsWord_0 := (congrArg (fun l => (l.lookup 0).getD []) lbq_82).trans rfl
theorem L_Tk_skipsWord_10 : lab 82 10 = B_Tk_skipsWord_10 := (congrArg (fun l => (l.lookup 10).getD []) lbq_82).trans rfl
theorem mL_Tk_skipsWord : mL 82 = 2 := by decide +kernel
theorem L_Tk_needsSign_0 : lab 83 0 = B_Tk_needsSign_0 := (congrArg (fun l => (l.lookup 0).getD []) lbq_83).trans rfl
theorem L_Tk_needsSign_14 : lab 83 14 = B_Tk_needsSign_14 := (congrArg (fun l => (l.lookup 14).getD []) lbq_83).trans rfl
theorem mL_Tk_needsSign : mL 83 = 2 := by decide +kernel
theorem L_Tk_takeNumber_0 : lab 84 0 = B_Tk_takeNumber_0 := (congrArg (fun l => (l.lookup 0).getD []) lbq_84).trans rfl
theorem L_Tk_takeNumber_21 : lab 84 21 = B_Tk_takeNumber_21 := (congrArg (fun l => (l.lookup 21).getD []) lbq_84).trans rfl
theorem L_Tk_takeNumber_31 : lab 84 31 = B_Tk_takeNumber_31 := (congrArg (fun l => (l.lookup 31).getD []) lbq_84).trans rfl
theorem L_Tk_takeNumber_39 : lab 84 39 = B_Tk_takeNumber_39 := (congrArg (fun l => (l.lookup 39).getD []) lbq_84).trans rfl
theorem mL_Tk_takeNumber : mL 84 = 4 := by decide +kernel
theorem L_Wk_init_0 : lab 85 0 = B_Wk_init_0 := (congrArg (fun l => (l.lookup 0).getD []) lbq_85).trans rfl
theorem mL_Wk_init : mL 85 = 4 := by decide +kernel
theorem L_Wk_begin_0 : lab 86 0 = B_Wk_begin_0 := (congrArg (fun l => (l.lookup 0).getD []) lbq_86).trans rfl
theorem L_Wk_begin_23 : lab 86 23 = B_Wk_begin_23 := (congrArg (fun l => (l.lookup 23).getD []) lbq_86).trans rfl
theorem L_Wk_begin_79 : lab 86 79 = B_Wk_begin_79 := (congrArg (fun l => (l.lookup 79).getD []) lbq_86).trans rfl
theorem L_Wk_begin_85 : lab 86 85 = B_Wk_begin_85 := (congrArg (fun l => (l.lookup 85).getD []) lbq_86).trans rfl
theorem mL_Wk_begin : mL 86 = 2 := by decide +kernel
theorem L_Wk_comes_0 : lab 87 0 = B_Wk_comes_0 := (congrArg (fun l => (l.lookup 0).getD []) lbq_87).trans rfl
theorem mL_Wk_comes : mL 87 = 2 := by decide +kernel
theorem L_Wk_swapsBy_0 : lab 88 0 = B_Wk_swapsBy_0 := (congrArg (fun l => (l.lookup 0).getD []) lbq_88).trans rfl
theorem mL_Wk_swapsBy : mL 88 = 2 := by decide +kernel
theorem L_Wk_go_0 : lab 89 0 = B_Wk_go_0 := (congrArg (fun l => (l.lookup 0).getD []) lbq_89).trans rfl
theorem L_Wk_go_2 : lab 89 2 = B_Wk_go_2 := (congrArg (fun l => (l.lookup 2).getD []) lbq_89).trans rfl
theorem L_Wk_go_30 : lab 89 30 = B_Wk_go_30 := (congrArg (fun l => (l.lookup 30).getD []) lbq_89).trans rfl
theorem mL_Wk_go : mL 89 = 4 := by decide +kernel
theorem L_Wk_found_0 : lab 90 0 = B_Wk_found_0 := (congrArg (fun l => (l.lookup 0).getD []) lbq_90).trans rfl
theorem L_Wk_found_11 : lab 90 11 = B_Wk_found_11 := (congrArg (fun l => (l.lookup 11).getD []) lbq_90).trans rfl
theorem L_Wk_found_21 : lab 90 21 = B_Wk_found_21 := (congrArg (fun l => (l.lookup 21).getD []) lbq_90).trans rfl
theorem mL_Wk_found : mL 90 = 2 := by decide +kernel
theorem L_Wk_find_0 : lab 91 0 = B_Wk_find_0 := (congrArg (fun l => (l.lookup 0).getD []) lbq_91).trans rfl
theorem L_Wk_find_11 : lab 91 11 = B_Wk_find_11 := (congrArg (fun l => (l.lookup 11).getD []) lbq_91).trans rfl
theorem L_Wk_find_16 : lab 91 16 = B_Wk_find_16 := (congrArg (fun l => (l.lookup 16).getD []) lbq_91).trans rfl
theorem mL_Wk_find : mL 91 = 2 := by decide +kernel
theorem L_Wk_findAbove_0 : lab 92 0 = B_Wk_findAbove_0 := (congrArg (fun l => (l.lookup 0).getD []) lbq_92).trans rfl
theorem L_Wk_findAbove_2 : lab 92 2 = B_Wk_findAbove_2 := (congrArg (fun l => (l.lookup 2).getD []) lbq_92).trans rfl
theorem L_Wk_findAbove_25 : lab 92 25 = B_Wk_findAbove_25 := (congrArg (fun l => (l.lookup 25).getD []) lbq_92).trans rfl
theorem L_Wk_findAbove_31 : lab 92 31 = B_Wk_findAbove_31 := (congrArg (fun l => (l.lookup 31).getD []) lbq_92).trans rfl
theorem mL_Wk_findAbove : mL 92 = 2 := by decide +kernel
theorem L_Wk_findNear_0 : lab 93 0 = B_Wk_findNear_0 := (congrArg (fun l => (l.lookup 0).getD []) lbq_93).trans rfl
theorem L_Wk_findNear_7 : lab 93 7 = B_Wk_findNear_7 := (congrArg (fun l => (l.lookup 7).getD []) lbq_93).trans rfl
theorem L_Wk_findNear_58 : lab 93 58 = B_Wk_findNear_58 := (congrArg (fun l => (l.lookup 58).getD []) lbq_93).trans rfl
theorem L_Wk_findNear_60 : lab 93 60 = B_Wk_findNear_60 := (congrArg (fun l => (l.lookup 60).getD []) lbq_93).trans rfl
theorem L_Wk_findNear_73 : lab 93 73 = B_Wk_findNear_73 := (congrArg (fun l => (l.lookup 73).getD []) lbq_93).trans rfl
theorem L_Wk_findNear_79 : lab 93 79 = B_Wk_findNear_79 := (congrArg (fun l => (l.lookup 79).getD []) lbq_93).trans rfl
theorem L_Wk_findNear_85 : lab 93 85 = B_Wk_findNear_85 := (congrArg (fun l => (l.lookup 85).getD []) lbq_93).trans rfl
theorem mL_Wk_findNear : mL 93 = 7 := by decide +kernel
theorem L_Wk_distanceTo_0 : lab 94 0 = B_Wk_distanceTo_0 := (congrArg (fun l => (l.lookup 0).getD []) lbq_94).trans rfl
theorem L_Wk_distanceTo_12 : lab 94 12 = B_Wk_distanceTo_12 := (congrArg (fun l => (l.lookup 12).getD []) lbq_94).trans rfl
theorem L_Wk_distanceTo_24 : lab 94 24 = B_Wk_distanceTo_24 := (congrArg (fun l => (l.lookup 24).getD []) lbq_94).trans rfl
theorem mL_Wk_distanceTo : mL 94 = 2 := by decide +kernel
theorem L_Wk_take_0 : lab 95 0 = B_Wk_take_0 := (congrArg (fun l => (l.lookup 0).getD []) lbq_95).trans rfl
theorem L_Wk_take_12 : lab 95 12 = B_Wk_take_12 := (congrArg (fun l => (l.lookup 12).getD []) lbq_95).trans rfl
theorem L_Wk_take_14 : lab 95 14 = B_Wk_take_14 := (congrArg (fun l => (l.lookup 14).getD []) lbq_95).trans rfl
theorem mL_Wk_take : mL 95 = 3 := by decide +kernel
theorem L_Wy_init_0 : lab 96 0 = B_Wy_init_0 := (congrArg (fun l => (l.lookup 0).getD []) lbq_96).trans rfl
theorem mL_Wy_init : mL 96 = 2 := by decide +kernel
theorem L_Wy_forget_0 : lab 97 0 = B_Wy_forget_0 := (congrArg (fun l => (l.lookup 0).getD []) lbq_97).trans rfl
theorem mL_Wy_forget : mL 97 = 1 := by decide +kernel
theorem L_Wy_learn_0 : lab 98 0 = B_Wy_learn_0 := (congrArg (fun l => (l.lookup 0).getD []) lbq_98).trans rfl
theorem L_Wy_learn_8 : lab 98 8 = B_Wy_learn_8 := (congrArg (fun l => (l.lookup 8).getD []) lbq_98).trans rfl
theorem L_Wy_learn_37 : lab 98 37 = B_Wy_learn_37 := (congrArg (fun l => (l.lookup 37).getD []) lbq_98).trans rfl
theorem L_Wy_learn_59 : lab 98 59 = B_Wy_learn_59 := (congrArg (fun l => (l.lookup 59).getD []) lbq_98).trans rfl
theorem mL_Wy_learn : mL 98 = 2 := by decide +kernel
theorem L_Wy_learnFrom_0 : lab 99 0 = B_Wy_learnFrom_0 := (congrArg (fun l => (l.lookup 0).getD []) lbq_99).trans rfl
theorem L_Wy_learnFrom_9 : lab 99 9 = B_Wy_learnFrom_9 := (congrArg (fun l => (l.lookup 9).getD []) lbq_99).trans rfl
theorem L_Wy_learnFrom_23 : lab 99 23 = B_Wy_learnFrom_23 := (congrArg (fun l => (l.lookup 23).getD []) lbq_99).trans rfl
theorem L_Wy_learnFrom_74 : lab 99 74 = B_Wy_learnFrom_74 := (congrArg (fun l => (l.lookup 74).getD []) lbq_99).trans rfl
theorem L_Wy_learnFrom_80 : lab 99 80 = B_Wy_learnFrom_80 := (congrArg (fun l => (l.lookup 80).getD []) lbq_99).trans rfl
theorem L_Wy_learnFrom_86 : lab 99 86 = B_Wy_learnFrom_86 := (congrArg (fun l => (l.lookup 86).getD []) lbq_99).trans rfl
theorem mL_Wy_learnFrom : mL 99 = 6 := by decide +kernel
theorem L_Wy_countNeighbours_0 : lab 100 0 = B_Wy_countNeighbours_0 := (congrArg (fun l => (l.lookup 0).getD []) lbq_100).trans rfl
theorem L_Wy_countNeighbours_8 : lab 100 8 = B_Wy_countNeighbours_8 := (congrArg (fun l => (l.lookup 8).getD []) lbq_100).trans rfl
theorem L_Wy_countNeighbours_17 : lab 100 17 = B_Wy_countNeighbours_17 := (congrArg (fun l => (l.lookup 17).getD []) lbq_100).trans rfl
theorem L_Wy_countNeighbours_48 : lab 100 48 = B_Wy_countNeighbours_48 := (congrArg (fun l => (l.lookup 48).getD []) lbq_100).trans rfl
theorem L_Wy_countNeighbours_54 : lab 100 54 = B_Wy_countNeighbours_54 := (congrArg (fun l => (l.lookup 54).getD []) lbq_100).trans rfl
theorem mL_Wy_countNeighbours : mL 100 = 5 := by decide +kernel
theorem L_Wy_markParts_0 : lab 101 0 = B_Wy_markParts_0 := (congrArg (fun l => (l.lookup 0).getD []) lbq_101).trans rfl
theorem L_Wy_markParts_24 : lab 101 24 = B_Wy_markParts_24 := (congrArg (fun l => (l.lookup 24).getD []) lbq_101).trans rfl
theorem L_Wy_markParts_61 : lab 101 61 = B_Wy_markParts_61 := (congrArg (fun l => (l.lookup 61).getD []) lbq_101).trans rfl
theorem L_Wy_markParts_67 : lab 101 67 = B_Wy_markParts_67 := (congrArg (fun l => (l.lookup 67).getD []) lbq_101).trans rfl
theorem mL_Wy_markParts : mL 101 = 4 := by decide +kernel
theorem L_Wy_measureFrom_0 : lab 102 0 = B_Wy_measureFrom_0 := (congrArg (fun l => (l.lookup 0).getD []) lbq_102).trans rfl
theorem mL_Wy_measureFrom : mL 102 = 3 := by decide +kernel
theorem L_Wy_spread_0 : lab 103 0 = B_Wy_spread_0 := (congrArg (fun l => (l.lookup 0).getD []) lbq_103).trans rfl
theorem L_Wy_spread_27 : lab 103 27 = B_Wy_spread_27 := (congrArg (fun l => (l.lookup 27).getD []) lbq_103).trans rfl
theorem L_Wy_spread_46 : lab 103 46 = B_Wy_spread_46 := (congrArg (fun l => (l.lookup 46).getD []) lbq_103).trans rfl
theorem L_Wy_spread_136 : lab 103 136 = B_Wy_spread_136 := (congrArg (fun l => (l.lookup 136).getD []) lbq_103).trans rfl
theorem L_Wy_spread_142 : lab 103 142 = B_Wy_spread_142 := (congrArg (fun l => (l.lookup 142).getD []) lbq_103).trans rfl
theorem L_Wy_spread_148 : lab 103 148 = B_Wy_spread_148 := (congrArg (fun l => (l.lookup 148).getD []) lbq_103).trans rfl
theorem mL_Wy_spread : mL 103 = 9 := by decide +kernel
theorem L_Wy_nearerThan_0 : lab 104 0 = B_Wy_nearerThan_0 := (congrArg (fun l => (l.lookup 0).getD []) lbq_104).trans rfl
theorem L_Wy_nearerThan_4 : lab 104 4 = B_Wy_nearerThan_4 := (congrArg (fun l => (l.lookup 4).getD []) lbq_104).trans rfl
theorem L_Wy_nearerThan_58 : lab 104 58 = B_Wy_nearerThan_58 := (congrArg (fun l => (l.lookup 58).getD []) lbq_104).trans rfl
theorem L_Wy_nearerThan_59 : lab 104 59 = B_Wy_nearerThan_59 := (congrArg (fun l => (l.lookup 59).getD []) lbq_104).trans rfl
theorem L_Wy_nearerThan_77 : lab 104 77 = B_Wy_nearerThan_77 := (congrArg (fun l => (l.lookup 77).getD []) lbq_104).trans rfl
theorem L_Wy_nearerThan_80 : lab 104 80 = B_Wy_nearerThan_80 := (congrArg (fun l => (l.lookup 80).getD []) lbq_104).trans rfl
theorem L_Wy_nearerThan_86 : lab 104 86 = B_Wy_nearerThan_86 := (congrArg (fun l => (l.lookup 86).getD []) lbq_104).trans rfl
theorem mL_Wy_nearerThan : mL 104 = 6 := by decide +kernel
theorem L_Wy_smallestOf_0 : lab 105 0 = B_Wy_smallestOf_0 := (congrArg (fun l => (l.lookup 0).getD []) lbq_105).trans rfl
theorem L_Wy_smallestOf_2 : lab 105 2 = B_Wy_smallestOf_2 := (congrArg (fun l => (l.lookup 2).getD []) lbq_105).trans rfl
theorem L_Wy_smallestOf_25 : lab 105 25 = B_Wy_smallestOf_25 := (congrArg (fun l => (l.lookup 25).getD []) lbq_105).trans rfl
theorem L_Wy_smallestOf_31 : lab 105 31 = B_Wy_smallestOf_31 := (congrArg (fun l => (l.lookup 31).getD []) lbq_105).trans rfl
theorem mL_Wy_smallestOf : mL 105 = 3 := by decide +kernel
theorem L_Wy_sizeOf_0 : lab 106 0 = B_Wy_sizeOf_0 := (congrArg (fun l => (l.lookup 0).getD []) lbq_106).trans rfl
theorem L_Wy_sizeOf_4 : lab 106 4 = B_Wy_sizeOf_4 := (congrArg (fun l => (l.lookup 4).getD []) lbq_106).trans rfl
theorem L_Wy_sizeOf_28 : lab 106 28 = B_Wy_sizeOf_28 := (congrArg (fun l => (l.lookup 28).getD []) lbq_106).trans rfl
theorem L_Wy_sizeOf_34 : lab 106 34 = B_Wy_sizeOf_34 := (congrArg (fun l => (l.lookup 34).getD []) lbq_106).trans rfl
theorem mL_Wy_sizeOf : mL 106 = 4 := by decide +kernel
theorem L_Wy_reachOf_0 : lab 107 0 = B_Wy_reachOf_0 := (congrArg (fun l => (l.lookup 0).getD []) lbq_107).trans rfl
theorem L_Wy_reachOf_4 : lab 107 4 = B_Wy_reachOf_4 := (congrArg (fun l => (l.lookup 4).getD []) lbq_107).trans rfl
theorem L_Wy_reachOf_36 : lab 107 36 = B_Wy_reachOf_36 := (congrArg (fun l => (l.lookup 36).getD []) lbq_107).trans rfl
theorem L_Wy_reachOf_42 : lab 107 42 = B_Wy_reachOf_42 := (congrArg (fun l => (l.lookup 42).getD []) lbq_107).trans rfl
theorem mL_Wy_reachOf : mL 107 = 4 := by decide +kernel
theorem L_Wy_cut_0 : lab 108 0 = B_Wy_cut_0 := (congrArg (fun l => (l.lookup 0).getD []) lbq_108).trans rfl
theorem L_Wy_cut_19 : lab 108 19 = B_Wy_cut_19 := (congrArg (fun l => (l.lookup 19).getD []) lbq_108).trans rfl
theorem L_Wy_cut_52 : lab 108 52 = B_Wy_cut_52 := (congrArg (fun l => (l.lookup 52).getD []) lbq_108).trans rfl
theorem L_Wy_cut_58 : lab 108 58 = B_Wy_cut_58 := (congrArg (fun l => (l.lookup 58).getD []) lbq_108).trans rfl
theorem mL_Wy_cut : mL 108 = 3 := by decide +kernel
theorem L_Wy_cutPart_0 : lab 109 0 = B_Wy_cutPart_0 := (congrArg (fun l => (l.lookup 0).getD []) lbq_109).trans rfl
theorem L_Wy_cutPart_16 : lab 109 16 = B_Wy_cutPart_16 := (congrArg (fun l => (l.lookup 16).getD []) lbq_109).trans rfl
theorem L_Wy_cutPart_56 : lab 109 56 = B_Wy_cutPart_56 := (congrArg (fun l => (l.lookup 56).getD []) lbq_109).trans rfl
theorem L_Wy_cutPart_117 : lab 109 117 = B_Wy_cutPart_117 := (congrArg (fun l => (l.lookup 117).getD []) lbq_109).trans rfl
theorem L_Wy_cutPart_146 : lab 109 146 = B_Wy_cutPart_146 := (congrArg (fun l => (l.lookup 146).getD []) lbq_109).trans rfl
theorem L_Wy_cutPart_152 : lab 109 152 = B_Wy_cutPart_152 := (congrArg (fun l => (l.lookup 152).getD []) lbq_109).trans rfl
theorem mL_Wy_cutPart : mL 109 = 7 := by decide +kernel
theorem L_Wy_enter_0 : lab 110 0 = B_Wy_enter_0 := (congrArg (fun l => (l.lookup 0).getD []) lbq_110).trans rfl
theorem L_Wy_enter_48 : lab 110 48 = B_Wy_enter_48 := (congrArg (fun l => (l.lookup 48).getD []) lbq_110).trans rfl
theorem L_Wy_enter_49 : lab 110 49 = B_Wy_enter_49 := (congrArg (fun l => (l.lookup 49).getD []) lbq_110).trans rfl
theorem mL_Wy_enter : mL 110 = 3 := by decide +kernel
theorem L_Wy_leave_0 : lab 111 0 = B_Wy_leave_0 := (congrArg (fun l => (l.lookup 0).getD []) lbq_111).trans rfl
theorem L_Wy_leave_13 : lab 111 13 = B_Wy_leave_13 := (congrArg (fun l => (l.lookup 13).getD []) lbq_111).trans rfl
theorem L_Wy_leave_59 : lab 111 59 = B_Wy_leave_59 := (congrArg (fun l => (l.lookup 59).getD []) lbq_111).trans rfl
theorem mL_Wy_leave : mL 111 = 3 := by decide +kernel
theorem L_Wd_longer_0 : lab 112 0 = B_Wd_longer_0 := (congrArg (fun l => (l.lookup 0).getD []) lbq_112).trans rfl
theorem L_Wd_longer_10 : lab 112 10 = B_Wd_longer_10 := (congrArg (fun l => (l.lookup 10).getD []) lbq_112).trans rfl
theorem mL_Wd_longer : mL 112 = 2 := by decide +kernel
theorem L_Wd_isQuoted_0 : lab 113 0 = B_Wd_isQuoted_0 := (congrArg (fun l => (l.lookup 0).getD []) lbq_113).trans rfl
theorem L_Wd_isQuoted_2 : lab 113 2 = B_Wd_isQuoted_2 := (congrArg (fun l => (l.lookup 2).getD []) lbq_113).trans rfl
theorem L_Wd_isQuoted_24 : lab 113 24 = B_Wd_isQuoted_24 := (congrArg (fun l => (l.lookup 24).getD []) lbq_113).trans rfl
theorem L_Wd_isQuoted_30 : lab 113 30 = B_Wd_isQuoted_30 := (congrArg (fun l => (l.lookup 30).getD []) lbq_113).trans rfl
theorem mL_Wd_isQuoted : mL 113 = 2 := by decide +kernel
theorem L_SC_init_0 : lab 114 0 = B_SC_init_0 := (congrArg (fun l => (l.lookup 0).getD []) lbq_114).trans rfl
theorem L_SC_init_194 : lab 114 194 = B_SC_init_194 := (congrArg (fun l => (l.lookup 194).getD []) lbq_114).trans rfl
theorem L_SC_init_227 : lab 114 227 = B_SC_init_227 := (congrArg (fun l => (l.lookup 227).getD []) lbq_114).trans rfl
theorem mL_SC_init : mL 114 = 2 := by decide +kernel
theorem L_SC_feed_0 : lab 115 0 = B_SC_feed_0 := (congrArg (fun l => (l.lookup 0).getD []) lbq_115).trans rfl
theorem L_SC_feed_15 : lab 115 15 = B_SC_feed_15 := (congrArg (fun l => (l.lookup 15).getD []) lbq_115).trans rfl
theorem mL_SC_feed : mL 115 = 6 := by decide +kernel
theorem L_SC_append_0 : lab 116 0 = B_SC_append_0 := (congrArg (fun l => (l.lookup 0).getD []) lbq_116).trans rfl
theorem L_SC_append_3 : lab 116 3 = B_SC_append_3 := (congrArg (fun l => (l.lookup 3).getD []) lbq_116).trans rfl
theorem L_SC_append_42 : lab 116 42 = B_SC_append_42 := (congrArg (fun l => (l.lookup 42).getD []) lbq_116).trans rfl
theorem L_SC_append_48 : lab 116 48 = B_SC_append_48 := (congrArg (fun l => (l.lookup 48).getD []) lbq_116).trans rfl
theorem mL_SC_append : mL 116 = 3 := by decide +kernel
theorem L_SC_load_0 : lab 117 0 = B_SC_load_0 := (congrArg (fun l => (l.lookup 0).getD []) lbq_117).trans rfl
theorem L_SC_load_12 : lab 117 12 = B_SC_load_12 := (congrArg (fun l => (l.lookup 12).getD []) lbq_117).trans rfl
theorem L_SC_load_20 : lab 117 20 = B_SC_load_20 := (congrArg (fun l => (l.lookup 20).getD []) lbq_117).trans rfl
theorem L_SC_load_59 : lab 117 59 = B_SC_load_59 := (congrArg (fun l => (l.lookup 59).getD []) lbq_117).trans rfl
theorem mL_SC_load : mL 117 = 3 := by decide +kernel
theorem L_SC_takeBuffer_0 : lab 118 0 = B_SC_takeBuffer_0 := (congrArg (fun l => (l.lookup 0).getD []) lbq_118).trans rfl
theorem mL_SC_takeBuffer : mL 118 = 2 := by decide +kernel
theorem L_SC_errorPosition_0 : lab 119 0 = B_SC_errorPosition_0 := (congrArg (fun l => (l.lookup 0).getD []) lbq_119).trans rfl
theorem mL_SC_errorPosition : mL 119 = 1 := by decide +kernel
theorem L_SC_size_0 : lab 120 0 = B_SC_size_0 := (congrArg (fun l => (l.lookup 0).getD []) lbq_120).trans rfl
theorem L_SC_size_80 : lab 120 80 = B_SC_size_80 := (congrArg (fun l => (l.lookup 80).getD []) lbq_120).trans rfl
theorem L_SC_size_88 : lab 120 88 = B_SC_size_88 := (congrArg (fun l => (l.lookup 88).getD []) lbq_120).trans rfl
theorem L_SC_size_96 : lab 120 96 = B_SC_size_96 := (congrArg (fun l => (l.lookup 96).getD []) lbq_120).trans rfl
theorem L_SC_size_104 : lab 120 104 = B_SC_size_104 := (congrArg (fun l => (l.lookup 104).getD []) lbq_120).trans rfl
theorem L_SC_size_112 : lab 120 112 = B_SC_size_112 := (congrArg (fun l => (l.lookup 112).getD []) lbq_120).trans rfl
theorem L_SC_size_120 : lab 120 120 = B_SC_size_120 := (congrArg (fun l => (l.lookup 120).getD []) lbq_120).trans rfl
theorem L_SC_size_128 : lab 120 128 = B_SC_size_128 := (congrArg (fun l => (l.lookup 128).getD []) lbq_120).trans rfl
theorem L_SC_size_136 : lab 120 136 = B_SC_size_136 := (congrArg (fun l => (l.lookup 136).getD []) lbq_120).trans rfl
theorem L_SC_size_147 : lab 120 147 = B_SC_size_147 := (congrArg (fun l => (l.lookup 147).getD []) lbq_120).trans rfl
theorem L_SC_size_155 : lab 120 155 = B_SC_size_155 := (congrArg (fun l => (l.lookup 155).getD []) lbq_120).trans rfl
theorem L_SC_size_163 : lab 120 163 = B_SC_size_163 := (congrArg (fun l => (l.lookup 163).getD []) lbq_120).trans rfl
theorem L_SC_size_171 : lab 120 171 = B_SC_size_171 := (congrArg (fun l => (l.lookup 171).getD []) lbq_120).trans rfl
theorem L_SC_size_176 : lab 120 176 = B_SC_size_176 := (congrArg (fun l => (l.lookup 176).getD []) lbq_120).trans rfl
theorem L_SC_size_191 : lab 120 191 = B_SC_size_191 := (congrArg (fun l => (l.lookup 191).getD []) lbq_120).trans rfl
theorem L_SC_size_199 : lab 120 199 = B_SC_size_199 := (congrArg (fun l => (l.lookup 199).getD []) lbq_120).trans rfl
theorem mL_SC_size : mL 120 = 2 := by decide +kernel
theorem L_SC_trailSwaps_0 : lab 121 0 = B_SC_trailSwaps_0 := (congrArg (fun l => (l.lookup 0).getD []) lbq_121).trans rfl
theorem L_SC_trailSwaps_4 : lab 121 4 = B_SC_trailSwaps_4 := (congrArg (fun l => (l.lookup 4).getD []) lbq_121).trans rfl
theorem L_SC_trailSwaps_51 : lab 121 51 = B_SC_trailSwaps_51 := (congrArg (fun l => (l.lookup 51).getD []) lbq_121).trans rfl
theorem mL_SC_trailSwaps : mL 121 = 3 := by decide +kernel
theorem L_SC_weight_0 : lab 122 0 = B_SC_weight_0 := (congrArg (fun l => (l.lookup 0).getD []) lbq_122).trans rfl
theorem mL_SC_weight : mL 122 = 2 := by decide +kernel
theorem L_SC_nameByte_0 : lab 123 0 = B_SC_nameByte_0 := (congrArg (fun l => (l.lookup 0).getD []) lbq_123).trans rfl
theorem L_SC_nameByte_27 : lab 123 27 = B_SC_nameByte_27 := (congrArg (fun l => (l.lookup 27).getD []) lbq_123).trans rfl
theorem L_SC_nameByte_29 : lab 123 29 = B_SC_nameByte_29 := (congrArg (fun l => (l.lookup 29).getD []) lbq_123).trans rfl
theorem mL_SC_nameByte : mL 123 = 4 := by decide +kernel
theorem L_SC_lettersOf_0 : lab 124 0 = B_SC_lettersOf_0 := (congrArg (fun l => (l.lookup 0).getD []) lbq_124).trans rfl
theorem L_SC_lettersOf_4 : lab 124 4 = B_SC_lettersOf_4 := (congrArg (fun l => (l.lookup 4).getD []) lbq_124).trans rfl
theorem L_SC_lettersOf_21 : lab 124 21 = B_SC_lettersOf_21 := (congrArg (fun l => (l.lookup 21).getD []) lbq_124).trans rfl
theorem L_SC_lettersOf_27 : lab 124 27 = B_SC_lettersOf_27 := (congrArg (fun l => (l.lookup 27).getD []) lbq_124).trans rfl
theorem mL_SC_lettersOf : mL 124 = 3 := by decide +kernel
theorem L_SC_letterAt_0 : lab 125 0 = B_SC_letterAt_0 := (congrArg (fun l => (l.lookup 0).getD []) lbq_125).trans rfl
theorem mL_SC_letterAt : mL 125 = 3 := by decide +kernel
theorem L_SC_needThing_0 : lab 126 0 = B_SC_needThing_0 := (congrArg (fun l => (l.lookup 0).getD []) lbq_126).trans rfl
theorem L_SC_needThing_15 : lab 126 15 = B_SC_needThing_15 := (congrArg (fun l => (l.lookup 15).getD []) lbq_126).trans rfl
theorem L_SC_needThing_23 : lab 126 23 = B_SC_needThing_23 := (congrArg (fun l => (l.lookup 23).getD []) lbq_126).trans rfl
theorem mL_SC_needThing : mL 126 = 2 := by decide +kernel
theorem L_SC_needChoice_0 : lab 127 0 = B_SC_needChoice_0 := (congrArg (fun l => (l.lookup 0).getD []) lbq_127).trans rfl
theorem L_SC_needChoice_15 : lab 127 15 = B_SC_needChoice_15 := (congrArg (fun l => (l.lookup 15).getD []) lbq_127).trans rfl
theorem L_SC_needChoice_23 : lab 127 23 = B_SC_needChoice_23 := (congrArg (fun l => (l.lookup 23).getD []) lbq_127).trans rfl
theorem mL_SC_needChoice : mL 127 = 2 := by decide +kernel
theorem L_SC_needRule_0 : lab 128 0 = B_SC_needRule_0 := (congrArg (fun l => (l.lookup 0).getD []) lbq_128).trans rfl
theorem L_SC_needRule_15 : lab 128 15 = B_SC_needRule_15 := (congrArg (fun l => (l.lookup 15).getD []) lbq_128).trans rfl
theorem L_SC_needRule_23 : lab 128 23 = B_SC_needRule_23 := (congrArg (fun l => (l.lookup 23).getD []) lbq_128).trans rfl
theorem mL_SC_needRule : mL 128 = 2 := by decide +kernel
theorem L_SC_choice_0 : lab 129 0 = B_SC_choice_0 := (congrArg (fun l => (l.lookup 0).getD []) lbq_129).trans rfl
theorem L_SC_choice_68 : lab 129 68 = B_SC_choice_68 := (congrArg (fun l => (l.lookup 68).getD []) lbq_129).trans rfl
theorem L_SC_choice_78 : lab 129 78 = B_SC_choice_78 := (congrArg (fun l => (l.lookup 78).getD []) lbq_129).trans rfl
theorem L_SC_choice_88 : lab 129 88 = B_SC_choice_88 := (congrArg (fun l => (l.lookup 88).getD []) lbq_129).trans rfl
theorem L_SC_choice_104 : lab 129 104 = B_SC_choice_104 := (congrArg (fun l => (l.lookup 104).getD []) lbq_129).trans rfl
theorem L_SC_choice_105 : lab 129 105 = B_SC_choice_105 := (congrArg (fun l => (l.lookup 105).getD []) lbq_129).trans rfl
theorem L_SC_choice_106 : lab 129 106 = B_SC_choice_106 := (congrArg (fun l => (l.lookup 106).getD []) lbq_129).trans rfl
theorem L_SC_choice_123 : lab 129 123 = B_SC_choice_123 := (congrArg (fun l => (l.lookup 123).getD []) lbq_129).trans rfl
theorem L_SC_choice_124 : lab 129 124 = B_SC_choice_124 := (congrArg (fun l => (l.lookup 124).getD []) lbq_129).trans rfl
theorem L_SC_choice_125 : lab 129 125 = B_SC_choice_125 := (congrArg (fun l => (l.lookup 125).getD []) lbq_129).trans rfl
theorem L_SC_choice_141 : lab 129 141 = B_SC_choice_141 := (congrArg (fun l => (l.lookup 141).getD []) lbq_129).trans rfl
theorem L_SC_choice_142 : lab 129 142 = B_SC_choice_142 := (congrArg (fun l => (l.lookup 142).getD []) lbq_129).trans rfl
theorem L_SC_choice_143 : lab 129 143 = B_SC_choice_143 := (congrArg (fun l => (l.lookup 143).getD []) lbq_129).trans rfl
theorem L_SC_choice_160 : lab 129 160 = B_SC_choice_160 := (congrArg (fun l => (l.lookup 160).getD []) lbq_129).trans rfl
theorem L_SC_choice_177 : lab 129 177 = B_SC_choice_177 := (congrArg (fun l => (l.lookup 177).getD []) lbq_129).trans rfl
theorem L_SC_choice_202 : lab 129 202 = B_SC_choice_202 := (congrArg (fun l => (l.lookup 202).getD []) lbq_129).trans rfl
theorem L_SC_choice_218 : lab 129 218 = B_SC_choice_218 := (congrArg (fun l => (l.lookup 218).getD []) lbq_129).trans rfl
theorem L_SC_choice_228 : lab 129 228 = B_SC_choice_228 := (congrArg (fun l => (l.lookup 228).getD []) lbq_129).trans rfl
theorem mL_SC_choice : mL 129 = 3 := by decide +kernel
theorem L_SC_numberOf_0 : lab 130 0 = B_SC_numberOf_0 := (congrArg (fun l => (l.lookup 0).getD []) lbq_130).trans rfl
theorem mL_SC_numberOf : mL 130 = 2 := by decide +kernel
theorem L_SC_distance_0 : lab 131 0 = B_SC_distance_0 := (congrArg (fun l => (l.lookup 0).getD []) lbq_131).trans rfl
theorem mL_SC_distance : mL 131 = 3 := by decide +kernel
theorem L_SC_swapped_0 : lab 132 0 = B_SC_swapped_0 := (congrArg (fun l => (l.lookup 0).getD []) lbq_132).trans rfl
theorem mL_SC_swapped : mL 132 = 4 := by decide +kernel
theorem L_SC_nearest_0 : lab 133 0 = B_SC_nearest_0 := (congrArg (fun l => (l.lookup 0).getD []) lbq_133).trans rfl
theorem L_SC_nearest_20 : lab 133 20 = B_SC_nearest_20 := (congrArg (fun l => (l.lookup 20).getD []) lbq_133).trans rfl
theorem L_SC_nearest_45 : lab 133 45 = B_SC_nearest_45 := (congrArg (fun l => (l.lookup 45).getD []) lbq_133).trans rfl
theorem L_SC_nearest_51 : lab 133 51 = B_SC_nearest_51 := (congrArg (fun l => (l.lookup 51).getD []) lbq_133).trans rfl
theorem L_SC_nearest_53 : lab 133 53 = B_SC_nearest_53 := (congrArg (fun l => (l.lookup 53).getD []) lbq_133).trans rfl
theorem L_SC_nearest_57 : lab 133 57 = B_SC_nearest_57 := (congrArg (fun l => (l.lookup 57).getD []) lbq_133).trans rfl
theorem L_SC_nearest_75 : lab 133 75 = B_SC_nearest_75 := (congrArg (fun l => (l.lookup 75).getD []) lbq_133).trans rfl
theorem L_SC_nearest_81 : lab 133 81 = B_SC_nearest_81 := (congrArg (fun l => (l.lookup 81).getD []) lbq_133).trans rfl
theorem mL_SC_nearest : mL 133 = 4 := by decide +kernel
theorem L_SC_with_0 : lab 134 0 = B_SC_with_0 := (congrArg (fun l => (l.lookup 0).getD []) lbq_134).trans rfl
theorem L_SC_with_16 : lab 134 16 = B_SC_with_16 := (congrArg (fun l => (l.lookup 16).getD []) lbq_134).trans rfl
theorem L_SC_with_58 : lab 134 58 = B_SC_with_58 := (congrArg (fun l => (l.lookup 58).getD []) lbq_134).trans rfl
theorem L_SC_with_64 : lab 134 64 = B_SC_with_64 := (congrArg (fun l => (l.lookup 64).getD []) lbq_134).trans rfl
theorem mL_SC_with : mL 134 = 4 := by decide +kernel
theorem L_SC_heaviest_0 : lab 135 0 = B_SC_heaviest_0 := (congrArg (fun l => (l.lookup 0).getD []) lbq_135).trans rfl
theorem L_SC_heaviest_13 : lab 135 13 = B_SC_heaviest_13 := (congrArg (fun l => (l.lookup 13).getD []) lbq_135).trans rfl
theorem L_SC_heaviest_61 : lab 135 61 = B_SC_heaviest_61 := (congrArg (fun l => (l.lookup 61).getD []) lbq_135).trans rfl
theorem L_SC_heaviest_67 : lab 135 67 = B_SC_heaviest_67 := (congrArg (fun l => (l.lookup 67).getD []) lbq_135).trans rfl
theorem mL_SC_heaviest : mL 135 = 4 := by decide +kernel
theorem L_SC_holds_0 : lab 136 0 = B_SC_holds_0 := (congrArg (fun l => (l.lookup 0).getD []) lbq_136).trans rfl
theorem L_SC_holds_37 : lab 136 37 = B_SC_holds_37 := (congrArg (fun l => (l.lookup 37).getD []) lbq_136).trans rfl
theorem L_SC_holds_38 : lab 136 38 = B_SC_holds_38 := (congrArg (fun l => (l.lookup 38).getD []) lbq_136).trans rfl
theorem mL_SC_holds : mL 136 = 3 := by decide +kernel
theorem L_SC_rule_0 : lab 137 0 = B_SC_rule_0 := (congrArg (fun l => (l.lookup 0).getD []) lbq_137).trans rfl
theorem L_SC_rule_44 : lab 137 44 = B_SC_rule_44 := (congrArg (fun l => (l.lookup 44).getD []) lbq_137).trans rfl
theorem L_SC_rule_56 : lab 137 56 = B_SC_rule_56 := (congrArg (fun l => (l.lookup 56).getD []) lbq_137).trans rfl
theorem L_SC_rule_65 : lab 137 65 = B_SC_rule_65 := (congrArg (fun l => (l.lookup 65).getD []) lbq_137).trans rfl
theorem L_SC_rule_74 : lab 137 74 = B_SC_rule_74 := (congrArg (fun l => (l.lookup 74).getD []) lbq_137).trans rfl
theorem L_SC_rule_83 : lab 137 83 = B_SC_rule_83 := (congrArg (fun l => (l.lookup 83).getD []) lbq_137).trans rfl
theorem mL_SC_rule : mL 137 = 3 := by decide +kernel
theorem L_SC_why_0 : lab 138 0 = B_SC_why_0 := (congrArg (fun l => (l.lookup 0).getD []) lbq_138).trans rfl
theorem L_SC_why_26 : lab 138 26 = B_SC_why_26 := (congrArg (fun l => (l.lookup 26).getD []) lbq_138).trans rfl
theorem L_SC_why_46 : lab 138 46 = B_SC_why_46 := (congrArg (fun l => (l.lookup 46).getD []) lbq_138).trans rfl
theorem L_SC_why_70 : lab 138 70 = B_SC_why_70 := (congrArg (fun l => (l.lookup 70).getD []) lbq_138).trans rfl
theorem L_SC_why_76 : lab 138 76 = B_SC_why_76 := (congrArg (fun l => (l.lookup 76).getD []) lbq_138).trans rfl
theorem L_SC_why_91 : lab 138 91 = B_SC_why_91 := (congrArg (fun l => (l.lookup 91).getD []) lbq_138).trans rfl
theorem L_SC_why_113 : lab 138 113 = B_SC_why_113 := (congrArg (fun l => (l.lookup 113).getD []) lbq_138).trans rfl
theorem L_SC_why_114 : lab 138 114 = B_SC_why_114 := (congrArg (fun l => (l.lookup 114).getD []) lbq_138).trans rfl
theorem mL_SC_why : mL 138 = 4 := by decide +kernel
theorem L_SC_against_0 : lab 139 0 = B_SC_against_0 := (congrArg (fun l => (l.lookup 0).getD []) lbq_139).trans rfl
theorem mL_SC_against : mL 139 = 2 := by decide +kernel
theorem L_SC_next_0 : lab 140 0 = B_SC_next_0 := (congrArg (fun l => (l.lookup 0).getD []) lbq_140).trans rfl
theorem mL_SC_next : mL 140 = 1 := by decide +kernel
theorem L_SC_trail_0 : lab 141 0 = B_SC_trail_0 := (congrArg (fun l => (l.lookup 0).getD []) lbq_141).trans rfl
theorem L_SC_trail_15 : lab 141 15 = B_SC_trail_15 := (congrArg (fun l => (l.lookup 15).getD []) lbq_141).trans rfl
theorem L_SC_trail_17 : lab 141 17 = B_SC_trail_17 := (congrArg (fun l => (l.lookup 17).getD []) lbq_141).trans rfl
theorem mL_SC_trail : mL 141 = 2 := by decide +kernel
theorem L_SC_swapsToEnd_0 : lab 142 0 = B_SC_swapsToEnd_0 := (congrArg (fun l => (l.lookup 0).getD []) lbq_142).trans rfl
theorem mL_SC_swapsToEnd : mL 142 = 2 := by decide +kernel
theorem L_SC_needMode_0 : lab 143 0 = B_SC_needMode_0 := (congrArg (fun l => (l.lookup 0).getD []) lbq_143).trans rfl
theorem L_SC_needMode_9 : lab 143 9 = B_SC_needMode_9 := (congrArg (fun l => (l.lookup 9).getD []) lbq_143).trans rfl
theorem L_SC_needMode_17 : lab 143 17 = B_SC_needMode_17 := (congrArg (fun l => (l.lookup 17).getD []) lbq_143).trans rfl
theorem mL_SC_needMode : mL 143 = 1 := by decide +kernel
theorem L_SC_bestMode_0 : lab 144 0 = B_SC_bestMode_0 := (congrArg (fun l => (l.lookup 0).getD []) lbq_144).trans rfl
theorem L_SC_bestMode_20 : lab 144 20 = B_SC_bestMode_20 := (congrArg (fun l => (l.lookup 20).getD []) lbq_144).trans rfl
theorem L_SC_bestMode_46 : lab 144 46 = B_SC_bestMode_46 := (congrArg (fun l => (l.lookup 46).getD []) lbq_144).trans rfl
theorem L_SC_bestMode_52 : lab 144 52 = B_SC_bestMode_52 := (congrArg (fun l => (l.lookup 52).getD []) lbq_144).trans rfl
theorem mL_SC_bestMode : mL 144 = 5 := by decide +kernel
theorem L_SC_ahead_0 : lab 145 0 = B_SC_ahead_0 := (congrArg (fun l => (l.lookup 0).getD []) lbq_145).trans rfl
theorem L_SC_ahead_12 : lab 145 12 = B_SC_ahead_12 := (congrArg (fun l => (l.lookup 12).getD []) lbq_145).trans rfl
theorem L_SC_ahead_39 : lab 145 39 = B_SC_ahead_39 := (congrArg (fun l => (l.lookup 39).getD []) lbq_145).trans rfl
theorem mL_SC_ahead : mL 145 = 2 := by decide +kernel
theorem L_SC_far_0 : lab 146 0 = B_SC_far_0 := (congrArg (fun l => (l.lookup 0).getD []) lbq_146).trans rfl
theorem L_SC_far_41 : lab 146 41 = B_SC_far_41 := (congrArg (fun l => (l.lookup 41).getD []) lbq_146).trans rfl
theorem L_SC_far_43 : lab 146 43 = B_SC_far_43 := (congrArg (fun l => (l.lookup 43).getD []) lbq_146).trans rfl
theorem mL_SC_far : mL 146 = 3 := by decide +kernel
theorem L_SC_toward_0 : lab 147 0 = B_SC_toward_0 := (congrArg (fun l => (l.lookup 0).getD []) lbq_147).trans rfl
theorem L_SC_toward_46 : lab 147 46 = B_SC_toward_46 := (congrArg (fun l => (l.lookup 46).getD []) lbq_147).trans rfl
theorem L_SC_toward_48 : lab 147 48 = B_SC_toward_48 := (congrArg (fun l => (l.lookup 48).getD []) lbq_147).trans rfl
theorem mL_SC_toward : mL 147 = 3 := by decide +kernel
theorem L_SC_part_0 : lab 148 0 = B_SC_part_0 := (congrArg (fun l => (l.lookup 0).getD []) lbq_148).trans rfl
theorem L_SC_part_31 : lab 148 31 = B_SC_part_31 := (congrArg (fun l => (l.lookup 31).getD []) lbq_148).trans rfl
theorem L_SC_part_39 : lab 148 39 = B_SC_part_39 := (congrArg (fun l => (l.lookup 39).getD []) lbq_148).trans rfl
theorem L_SC_part_68 : lab 148 68 = B_SC_part_68 := (congrArg (fun l => (l.lookup 68).getD []) lbq_148).trans rfl
theorem L_SC_part_77 : lab 148 77 = B_SC_part_77 := (congrArg (fun l => (l.lookup 77).getD []) lbq_148).trans rfl
theorem L_SC_part_86 : lab 148 86 = B_SC_part_86 := (congrArg (fun l => (l.lookup 86).getD []) lbq_148).trans rfl
theorem L_SC_part_95 : lab 148 95 = B_SC_part_95 := (congrArg (fun l => (l.lookup 95).getD []) lbq_148).trans rfl
theorem mL_SC_part : mL 148 = 4 := by decide +kernel
theorem L_SC_allowedIf_0 : lab 149 0 = B_SC_allowedIf_0 := (congrArg (fun l => (l.lookup 0).getD []) lbq_149).trans rfl
theorem mL_SC_allowedIf : mL 149 = 2 := by decide +kernel
theorem L_SC_partsIf_0 : lab 150 0 = B_SC_partsIf_0 := (congrArg (fun l => (l.lookup 0).getD []) lbq_150).trans rfl
theorem mL_SC_partsIf : mL 150 = 2 := by decide +kernel
theorem L_SC_strictest_0 : lab 151 0 = B_SC_strictest_0 := (congrArg (fun l => (l.lookup 0).getD []) lbq_151).trans rfl
theorem L_SC_strictest_13 : lab 151 13 = B_SC_strictest_13 := (congrArg (fun l => (l.lookup 13).getD []) lbq_151).trans rfl
theorem L_SC_strictest_73 : lab 151 73 = B_SC_strictest_73 := (congrArg (fun l => (l.lookup 73).getD []) lbq_151).trans rfl
theorem L_SC_strictest_79 : lab 151 79 = B_SC_strictest_79 := (congrArg (fun l => (l.lookup 79).getD []) lbq_151).trans rfl
theorem mL_SC_strictest : mL 151 = 5 := by decide +kernel
theorem L_SC_bridge_0 : lab 152 0 = B_SC_bridge_0 := (congrArg (fun l => (l.lookup 0).getD []) lbq_152).trans rfl
theorem L_SC_bridge_27 : lab 152 27 = B_SC_bridge_27 := (congrArg (fun l => (l.lookup 27).getD []) lbq_152).trans rfl
theorem L_SC_bridge_75 : lab 152 75 = B_SC_bridge_75 := (congrArg (fun l => (l.lookup 75).getD []) lbq_152).trans rfl
theorem L_SC_bridge_81 : lab 152 81 = B_SC_bridge_81 := (congrArg (fun l => (l.lookup 81).getD []) lbq_152).trans rfl
theorem mL_SC_bridge : mL 152 = 4 := by decide +kernel
theorem L_SC_meanWeight_0 : lab 153 0 = B_SC_meanWeight_0 := (congrArg (fun l => (l.lookup 0).getD []) lbq_153).trans rfl
theorem L_SC_meanWeight_11 : lab 153 11 = B_SC_meanWeight_11 := (congrArg (fun l => (l.lookup 11).getD []) lbq_153).trans rfl
theorem L_SC_meanWeight_46 : lab 153 46 = B_SC_meanWeight_46 := (congrArg (fun l => (l.lookup 46).getD []) lbq_153).trans rfl
theorem L_SC_meanWeight_52 : lab 153 52 = B_SC_meanWeight_52 := (congrArg (fun l => (l.lookup 52).getD []) lbq_153).trans rfl
theorem L_SC_meanWeight_66 : lab 153 66 = B_SC_meanWeight_66 := (congrArg (fun l => (l.lookup 66).getD []) lbq_153).trans rfl
theorem L_SC_meanWeight_77 : lab 153 77 = B_SC_meanWeight_77 := (congrArg (fun l => (l.lookup 77).getD []) lbq_153).trans rfl
theorem mL_SC_meanWeight : mL 153 = 3 := by decide +kernel
theorem L_SC_visitedShare_0 : lab 154 0 = B_SC_visitedShare_0 := (congrArg (fun l => (l.lookup 0).getD []) lbq_154).trans rfl
theorem L_SC_visitedShare_37 : lab 154 37 = B_SC_visitedShare_37 := (congrArg (fun l => (l.lookup 37).getD []) lbq_154).trans rfl
theorem L_SC_visitedShare_48 : lab 154 48 = B_SC_visitedShare_48 := (congrArg (fun l => (l.lookup 48).getD []) lbq_154).trans rfl
theorem mL_SC_visitedShare : mL 154 = 2 := by decide +kernel
theorem L_SC_step_0 : lab 155 0 = B_SC_step_0 := (congrArg (fun l => (l.lookup 0).getD []) lbq_155).trans rfl
theorem L_SC_step_30 : lab 155 30 = B_SC_step_30 := (congrArg (fun l => (l.lookup 30).getD []) lbq_155).trans rfl
theorem mL_SC_step : mL 155 = 2 := by decide +kernel
theorem L_SC_goTo_0 : lab 156 0 = B_SC_goTo_0 := (congrArg (fun l => (l.lookup 0).getD []) lbq_156).trans rfl
theorem mL_SC_goTo : mL 156 = 2 := by decide +kernel
theorem L_SC_steps_0 : lab 157 0 = B_SC_steps_0 := (congrArg (fun l => (l.lookup 0).getD []) lbq_157).trans rfl
theorem L_SC_steps_12 : lab 157 12 = B_SC_steps_12 := (congrArg (fun l => (l.lookup 12).getD []) lbq_157).trans rfl
theorem L_SC_steps_20 : lab 157 20 = B_SC_steps_20 := (congrArg (fun l => (l.lookup 20).getD []) lbq_157).trans rfl
theorem L_SC_steps_49 : lab 157 49 = B_SC_steps_49 := (congrArg (fun l => (l.lookup 49).getD []) lbq_157).trans rfl
theorem L_SC_steps_98 : lab 157 98 = B_SC_steps_98 := (congrArg (fun l => (l.lookup 98).getD []) lbq_157).trans rfl
theorem mL_SC_steps : mL 157 = 4 := by decide +kernel
theorem L_SC_swap_0 : lab 158 0 = B_SC_swap_0 := (congrArg (fun l => (l.lookup 0).getD []) lbq_158).trans rfl
theorem L_SC_swap_23 : lab 158 23 = B_SC_swap_23 := (congrArg (fun l => (l.lookup 23).getD []) lbq_158).trans rfl
theorem L_SC_swap_48 : lab 158 48 = B_SC_swap_48 := (congrArg (fun l => (l.lookup 48).getD []) lbq_158).trans rfl
theorem L_SC_swap_70 : lab 158 70 = B_SC_swap_70 := (congrArg (fun l => (l.lookup 70).getD []) lbq_158).trans rfl
theorem L_SC_swap_86 : lab 158 86 = B_SC_swap_86 := (congrArg (fun l => (l.lookup 86).getD []) lbq_158).trans rfl
theorem mL_SC_swap : mL 158 = 4 := by decide +kernel
theorem L_SC_back_0 : lab 159 0 = B_SC_back_0 := (congrArg (fun l => (l.lookup 0).getD []) lbq_159).trans rfl
theorem L_SC_back_13 : lab 159 13 = B_SC_back_13 := (congrArg (fun l => (l.lookup 13).getD []) lbq_159).trans rfl
theorem mL_SC_back : mL 159 = 1 := by decide +kernel
theorem L_SC_reset_0 : lab 160 0 = B_SC_reset_0 := (congrArg (fun l => (l.lookup 0).getD []) lbq_160).trans rfl
theorem mL_SC_reset : mL 160 = 2 := by decide +kernel
theorem L_SC_setMode_0 : lab 161 0 = B_SC_setMode_0 := (congrArg (fun l => (l.lookup 0).getD []) lbq_161).trans rfl
theorem mL_SC_setMode : mL 161 = 3 := by decide +kernel
theorem L_SC_setWeight_0 : lab 162 0 = B_SC_setWeight_0 := (congrArg (fun l => (l.lookup 0).getD []) lbq_162).trans rfl
theorem L_SC_setWeight_15 : lab 162 15 = B_SC_setWeight_15 := (congrArg (fun l => (l.lookup 15).getD []) lbq_162).trans rfl
theorem L_SC_setWeight_23 : lab 162 23 = B_SC_setWeight_23 := (congrArg (fun l => (l.lookup 23).getD []) lbq_162).trans rfl
theorem mL_SC_setWeight : mL 162 = 4 := by decide +kernel
theorem L_SC_addRule_0 : lab 163 0 = B_SC_addRule_0 := (congrArg (fun l => (l.lookup 0).getD []) lbq_163).trans rfl
theorem L_SC_addRule_12 : lab 163 12 = B_SC_addRule_12 := (congrArg (fun l => (l.lookup 12).getD []) lbq_163).trans rfl
theorem L_SC_addRule_20 : lab 163 20 = B_SC_addRule_20 := (congrArg (fun l => (l.lookup 20).getD []) lbq_163).trans rfl
theorem L_SC_addRule_35 : lab 163 35 = B_SC_addRule_35 := (congrArg (fun l => (l.lookup 35).getD []) lbq_163).trans rfl
theorem L_SC_addRule_78 : lab 163 78 = B_SC_addRule_78 := (congrArg (fun l => (l.lookup 78).getD []) lbq_163).trans rfl
theorem mL_SC_addRule : mL 163 = 3 := by decide +kernel
theorem L_SC_dropRule_0 : lab 164 0 = B_SC_dropRule_0 := (congrArg (fun l => (l.lookup 0).getD []) lbq_164).trans rfl
theorem mL_SC_dropRule : mL 164 = 2 := by decide +kernel
theorem L_SC_switchRule_0 : lab 165 0 = B_SC_switchRule_0 := (congrArg (fun l => (l.lookup 0).getD []) lbq_165).trans rfl
theorem mL_SC_switchRule : mL 165 = 2 := by decide +kernel
theorem L_SC_strike_0 : lab 166 0 = B_SC_strike_0 := (congrArg (fun l => (l.lookup 0).getD []) lbq_166).trans rfl
theorem L_SC_strike_33 : lab 166 33 = B_SC_strike_33 := (congrArg (fun l => (l.lookup 33).getD []) lbq_166).trans rfl
theorem L_SC_strike_34 : lab 166 34 = B_SC_strike_34 := (congrArg (fun l => (l.lookup 34).getD []) lbq_166).trans rfl
theorem mL_SC_strike : mL 166 = 4 := by decide +kernel
theorem L_SC_many_0 : lab 167 0 = B_SC_many_0 := (congrArg (fun l => (l.lookup 0).getD []) lbq_167).trans rfl
theorem L_SC_many_19 : lab 167 19 = B_SC_many_19 := (congrArg (fun l => (l.lookup 19).getD []) lbq_167).trans rfl
theorem L_SC_many_27 : lab 167 27 = B_SC_many_27 := (congrArg (fun l => (l.lookup 27).getD []) lbq_167).trans rfl
theorem L_SC_many_71 : lab 167 71 = B_SC_many_71 := (congrArg (fun l => (l.lookup 71).getD []) lbq_167).trans rfl
theorem mL_SC_many : mL 167 = 4 := by decide +kernel
theorem L_SC_format_0 : lab 168 0 = B_SC_format_0 := (congrArg (fun l => (l.lookup 0).getD []) lbq_168).trans rfl
theorem L_SC_format_29 : lab 168 29 = B_SC_format_29 := (congrArg (fun l => (l.lookup 29).getD []) lbq_168).trans rfl
theorem L_SC_format_61 : lab 168 61 = B_SC_format_61 := (congrArg (fun l => (l.lookup 61).getD []) lbq_168).trans rfl
theorem L_SC_format_67 : lab 168 67 = B_SC_format_67 := (congrArg (fun l => (l.lookup 67).getD []) lbq_168).trans rfl
theorem L_SC_format_84 : lab 168 84 = B_SC_format_84 := (congrArg (fun l => (l.lookup 84).getD []) lbq_168).trans rfl
theorem L_SC_format_103 : lab 168 103 = B_SC_format_103 := (congrArg (fun l => (l.lookup 103).getD []) lbq_168).trans rfl
theorem L_SC_format_121 : lab 168 121 = B_SC_format_121 := (congrArg (fun l => (l.lookup 121).getD []) lbq_168).trans rfl
theorem mL_SC_format : mL 168 = 4 := by decide +kernel
theorem L_SC_showName_0 : lab 169 0 = B_SC_showName_0 := (congrArg (fun l => (l.lookup 0).getD []) lbq_169).trans rfl
theorem L_SC_showName_13 : lab 169 13 = B_SC_showName_13 := (congrArg (fun l => (l.lookup 13).getD []) lbq_169).trans rfl
theorem L_SC_showName_20 : lab 169 20 = B_SC_showName_20 := (congrArg (fun l => (l.lookup 20).getD []) lbq_169).trans rfl
theorem L_SC_showName_40 : lab 169 40 = B_SC_showName_40 := (congrArg (fun l => (l.lookup 40).getD []) lbq_169).trans rfl
theorem mL_SC_showName : mL 169 = 4 := by decide +kernel
theorem L_SC_show_0 : lab 170 0 = B_SC_show_0 := (congrArg (fun l => (l.lookup 0).getD []) lbq_170).trans rfl
theorem L_SC_show_32 : lab 170 32 = B_SC_show_32 := (congrArg (fun l => (l.lookup 32).getD []) lbq_170).trans rfl
theorem mL_SC_show : mL 170 = 2 := by decide +kernel
theorem L_SC_formattedByte_0 : lab 171 0 = B_SC_formattedByte_0 := (congrArg (fun l => (l.lookup 0).getD []) lbq_171).trans rfl
theorem L_SC_formattedByte_12 : lab 171 12 = B_SC_formattedByte_12 := (congrArg (fun l => (l.lookup 12).getD []) lbq_171).trans rfl
theorem L_SC_formattedByte_14 : lab 171 14 = B_SC_formattedByte_14 := (congrArg (fun l => (l.lookup 14).getD []) lbq_171).trans rfl
theorem mL_SC_formattedByte : mL 171 = 2 := by decide +kernel
theorem L_SC_undoCount_0 : lab 172 0 = B_SC_undoCount_0 := (congrArg (fun l => (l.lookup 0).getD []) lbq_172).trans rfl
theorem mL_SC_undoCount : mL 172 = 1 := by decide +kernel
theorem L_SC_undo_0 : lab 173 0 = B_SC_undo_0 := (congrArg (fun l => (l.lookup 0).getD []) lbq_173).trans rfl
theorem L_SC_undo_12 : lab 173 12 = B_SC_undo_12 := (congrArg (fun l => (l.lookup 12).getD []) lbq_173).trans rfl
theorem mL_SC_undo : mL 173 = 1 := by decide +kernel
theorem L_SC_saveSnapshot_0 : lab 174 0 = B_SC_saveSnapshot_0 := (congrArg (fun l => (l.lookup 0).getD []) lbq_174).trans rfl
theorem mL_SC_saveSnapshot : mL 174 = 1 := by decide +kernel
theorem L_SC_restoreSnapshot_0 : lab 175 0 = B_SC_restoreSnapshot_0 := (congrArg (fun l => (l.lookup 0).getD []) lbq_175).trans rfl
theorem L_SC_restoreSnapshot_12 : lab 175 12 = B_SC_restoreSnapshot_12 := (congrArg (fun l => (l.lookup 12).getD []) lbq_175).trans rfl
theorem mL_SC_restoreSnapshot : mL 175 = 1 := by decide +kernel
theorem L_Mo_init_0 : lab 176 0 = B_Mo_init_0 := (congrArg (fun l => (l.lookup 0).getD []) lbq_176).trans rfl
theorem L_Mo_init_265 : lab 176 265 = B_Mo_init_265 := (congrArg (fun l => (l.lookup 265).getD []) lbq_176).trans rfl
theorem L_Mo_init_301 : lab 176 301 = B_Mo_init_301 := (congrArg (fun l => (l.lookup 301).getD []) lbq_176).trans rfl
theorem mL_Mo_init : mL 176 = 2 := by decide +kernel
theorem L_Mo_thrown_0 : lab 177 0 = B_Mo_thrown_0 := (congrArg (fun l => (l.lookup 0).getD []) lbq_177).trans rfl
theorem mL_Mo_thrown : mL 177 = 1 := by decide +kernel
theorem L_Mo_raise_0 : lab 178 0 = B_Mo_raise_0 := (congrArg (fun l => (l.lookup 0).getD []) lbq_178).trans rfl
theorem mL_Mo_raise : mL 178 = 2 := by decide +kernel
theorem L_Mo_inRange_0 : lab 179 0 = B_Mo_inRange_0 := (congrArg (fun l => (l.lookup 0).getD []) lbq_179).trans rfl
theorem L_Mo_inRange_14 : lab 179 14 = B_Mo_inRange_14 := (congrArg (fun l => (l.lookup 14).getD []) lbq_179).trans rfl
theorem L_Mo_inRange_15 : lab 179 15 = B_Mo_inRange_15 := (congrArg (fun l => (l.lookup 15).getD []) lbq_179).trans rfl
theorem mL_Mo_inRange : mL 179 = 3 := by decide +kernel
theorem L_Mo_lacks_0 : lab 180 0 = B_Mo_lacks_0 := (congrArg (fun l => (l.lookup 0).getD []) lbq_180).trans rfl
theorem L_Mo_lacks_9 : lab 180 9 = B_Mo_lacks_9 := (congrArg (fun l => (l.lookup 9).getD []) lbq_180).trans rfl
theorem L_Mo_lacks_10 : lab 180 10 = B_Mo_lacks_10 := (congrArg (fun l => (l.lookup 10).getD []) lbq_180).trans rfl
theorem L_Mo_lacks_21 : lab 180 21 = B_Mo_lacks_21 := (congrArg (fun l => (l.lookup 21).getD []) lbq_180).trans rfl
theorem L_Mo_lacks_22 : lab 180 22 = B_Mo_lacks_22 := (congrArg (fun l => (l.lookup 22).getD []) lbq_180).trans rfl
theorem mL_Mo_lacks : mL 180 = 2 := by decide +kernel
theorem L_Mo_least_0 : lab 181 0 = B_Mo_least_0 := (congrArg (fun l => (l.lookup 0).getD []) lbq_181).trans rfl
theorem L_Mo_least_9 : lab 181 9 = B_Mo_least_9 := (congrArg (fun l => (l.lookup 9).getD []) lbq_181).trans rfl
theorem L_Mo_least_10 : lab 181 10 = B_Mo_least_10 := (congrArg (fun l => (l.lookup 10).getD []) lbq_181).trans rfl
theorem mL_Mo_least : mL 181 = 2 := by decide +kernel
theorem L_Mo_greatest_0 : lab 182 0 = B_Mo_greatest_0 := (congrArg (fun l => (l.lookup 0).getD []) lbq_182).trans rfl
theorem L_Mo_greatest_9 : lab 182 9 = B_Mo_greatest_9 := (congrArg (fun l => (l.lookup 9).getD []) lbq_182).trans rfl
theorem L_Mo_greatest_10 : lab 182 10 = B_Mo_greatest_10 := (congrArg (fun l => (l.lookup 10).getD []) lbq_182).trans rfl
theorem mL_Mo_greatest : mL 182 = 2 := by decide +kernel
theorem L_Mo_has_0 : lab 183 0 = B_Mo_has_0 := (congrArg (fun l => (l.lookup 0).getD []) lbq_183).trans rfl
theorem L_Mo_has_13 : lab 183 13 = B_Mo_has_13 := (congrArg (fun l => (l.lookup 13).getD []) lbq_183).trans rfl
theorem L_Mo_has_14 : lab 183 14 = B_Mo_has_14 := (congrArg (fun l => (l.lookup 14).getD []) lbq_183).trans rfl
theorem mL_Mo_has : mL 183 = 2 := by decide +kernel
theorem L_Mo_bits_0 : lab 184 0 = B_Mo_bits_0 := (congrArg (fun l => (l.lookup 0).getD []) lbq_184).trans rfl
theorem L_Mo_bits_4 : lab 184 4 = B_Mo_bits_4 := (congrArg (fun l => (l.lookup 4).getD []) lbq_184).trans rfl
theorem L_Mo_bits_21 : lab 184 21 = B_Mo_bits_21 := (congrArg (fun l => (l.lookup 21).getD []) lbq_184).trans rfl
theorem mL_Mo_bits : mL 184 = 3 := by decide +kernel
theorem L_Mo_begin_0 : lab 185 0 = B_Mo_begin_0 := (congrArg (fun l => (l.lookup 0).getD []) lbq_185).trans rfl
theorem L_Mo_begin_2 : lab 185 2 = B_Mo_begin_2 := (congrArg (fun l => (l.lookup 2).getD []) lbq_185).trans rfl
theorem L_Mo_begin_22 : lab 185 22 = B_Mo_begin_22 := (congrArg (fun l => (l.lookup 22).getD []) lbq_185).trans rfl
theorem L_Mo_begin_24 : lab 185 24 = B_Mo_begin_24 := (congrArg (fun l => (l.lookup 24).getD []) lbq_185).trans rfl
theorem L_Mo_begin_46 : lab 185 46 = B_Mo_begin_46 := (congrArg (fun l => (l.lookup 46).getD []) lbq_185).trans rfl
theorem mL_Mo_begin : mL 185 = 3 := by decide +kernel
theorem L_Mo_chosen_0 : lab 186 0 = B_Mo_chosen_0 := (congrArg (fun l => (l.lookup 0).getD []) lbq_186).trans rfl
theorem L_Mo_chosen_4 : lab 186 4 = B_Mo_chosen_4 := (congrArg (fun l => (l.lookup 4).getD []) lbq_186).trans rfl
theorem L_Mo_chosen_25 : lab 186 25 = B_Mo_chosen_25 := (congrArg (fun l => (l.lookup 25).getD []) lbq_186).trans rfl
theorem mL_Mo_chosen : mL 186 = 4 := by decide +kernel
theorem L_Mo_unrank_0 : lab 187 0 = B_Mo_unrank_0 := (congrArg (fun l => (l.lookup 0).getD []) lbq_187).trans rfl
theorem L_Mo_unrank_22 : lab 187 22 = B_Mo_unrank_22 := (congrArg (fun l => (l.lookup 22).getD []) lbq_187).trans rfl
theorem L_Mo_unrank_43 : lab 187 43 = B_Mo_unrank_43 := (congrArg (fun l => (l.lookup 43).getD []) lbq_187).trans rfl
theorem L_Mo_unrank_50 : lab 187 50 = B_Mo_unrank_50 := (congrArg (fun l => (l.lookup 50).getD []) lbq_187).trans rfl
theorem L_Mo_unrank_83 : lab 187 83 = B_Mo_unrank_83 := (congrArg (fun l => (l.lookup 83).getD []) lbq_187).trans rfl
theorem L_Mo_unrank_89 : lab 187 89 = B_Mo_unrank_89 := (congrArg (fun l => (l.lookup 89).getD []) lbq_187).trans rfl
theorem mL_Mo_unrank : mL 187 = 7 := by decide +kernel
theorem L_Mo_layChoices_0 : lab 188 0 = B_Mo_layChoices_0 := (congrArg (fun l => (l.lookup 0).getD []) lbq_188).trans rfl
theorem L_Mo_layChoices_21 : lab 188 21 = B_Mo_layChoices_21 := (congrArg (fun l => (l.lookup 21).getD []) lbq_188).trans rfl
theorem L_Mo_layChoices_41 : lab 188 41 = B_Mo_layChoices_41 := (congrArg (fun l => (l.lookup 41).getD []) lbq_188).trans rfl
theorem L_Mo_layChoices_43 : lab 188 43 = B_Mo_layChoices_43 := (congrArg (fun l => (l.lookup 43).getD []) lbq_188).trans rfl
theorem L_Mo_layChoices_80 : lab 188 80 = B_Mo_layChoices_80 := (congrArg (fun l => (l.lookup 80).getD []) lbq_188).trans rfl
theorem mL_Mo_layChoices : mL 188 = 2 := by decide +kernel
theorem L_Mo_isChoice_0 : lab 189 0 = B_Mo_isChoice_0 := (congrArg (fun l => (l.lookup 0).getD []) lbq_189).trans rfl
theorem mL_Mo_isChoice : mL 189 = 2 := by decide +kernel
theorem L_Mo_areChoices_0 : lab 190 0 = B_Mo_areChoices_0 := (congrArg (fun l => (l.lookup 0).getD []) lbq_190).trans rfl
theorem L_Mo_areChoices_20 : lab 190 20 = B_Mo_areChoices_20 := (congrArg (fun l => (l.lookup 20).getD []) lbq_190).trans rfl
theorem L_Mo_areChoices_21 : lab 190 21 = B_Mo_areChoices_21 := (congrArg (fun l => (l.lookup 21).getD []) lbq_190).trans rfl
theorem mL_Mo_areChoices : mL 190 = 3 := by decide +kernel
theorem L_Mo_isThing_0 : lab 191 0 = B_Mo_isThing_0 := (congrArg (fun l => (l.lookup 0).getD []) lbq_191).trans rfl
theorem mL_Mo_isThing : mL 191 = 2 := by decide +kernel
theorem L_Mo_weightOf_0 : lab 192 0 = B_Mo_weightOf_0 := (congrArg (fun l => (l.lookup 0).getD []) lbq_192).trans rfl
theorem L_Mo_weightOf_4 : lab 192 4 = B_Mo_weightOf_4 := (congrArg (fun l => (l.lookup 4).getD []) lbq_192).trans rfl
theorem L_Mo_weightOf_40 : lab 192 40 = B_Mo_weightOf_40 := (congrArg (fun l => (l.lookup 40).getD []) lbq_192).trans rfl
theorem L_Mo_weightOf_41 : lab 192 41 = B_Mo_weightOf_41 := (congrArg (fun l => (l.lookup 41).getD []) lbq_192).trans rfl
theorem L_Mo_weightOf_49 : lab 192 49 = B_Mo_weightOf_49 := (congrArg (fun l => (l.lookup 49).getD []) lbq_192).trans rfl
theorem mL_Mo_weightOf : mL 192 = 4 := by decide +kernel
theorem L_Mo_apart_0 : lab 193 0 = B_Mo_apart_0 := (congrArg (fun l => (l.lookup 0).getD []) lbq_193).trans rfl
theorem mL_Mo_apart : mL 193 = 3 := by decide +kernel
theorem L_Mo_bySwap_0 : lab 194 0 = B_Mo_bySwap_0 := (congrArg (fun l => (l.lookup 0).getD []) lbq_194).trans rfl
theorem L_Mo_bySwap_26 : lab 194 26 = B_Mo_bySwap_26 := (congrArg (fun l => (l.lookup 26).getD []) lbq_194).trans rfl
theorem L_Mo_bySwap_28 : lab 194 28 = B_Mo_bySwap_28 := (congrArg (fun l => (l.lookup 28).getD []) lbq_194).trans rfl
theorem mL_Mo_bySwap : mL 194 = 4 := by decide +kernel
theorem L_Mo_compares_0 : lab 195 0 = B_Mo_compares_0 := (congrArg (fun l => (l.lookup 0).getD []) lbq_195).trans rfl
theorem L_Mo_compares_14 : lab 195 14 = B_Mo_compares_14 := (congrArg (fun l => (l.lookup 14).getD []) lbq_195).trans rfl
theorem L_Mo_compares_18 : lab 195 18 = B_Mo_compares_18 := (congrArg (fun l => (l.lookup 18).getD []) lbq_195).trans rfl
theorem L_Mo_compares_33 : lab 195 33 = B_Mo_compares_33 := (congrArg (fun l => (l.lookup 33).getD []) lbq_195).trans rfl
theorem L_Mo_compares_37 : lab 195 37 = B_Mo_compares_37 := (congrArg (fun l => (l.lookup 37).getD []) lbq_195).trans rfl
theorem L_Mo_compares_46 : lab 195 46 = B_Mo_compares_46 := (congrArg (fun l => (l.lookup 46).getD []) lbq_195).trans rfl
theorem L_Mo_compares_47 : lab 195 47 = B_Mo_compares_47 := (congrArg (fun l => (l.lookup 47).getD []) lbq_195).trans rfl
theorem mL_Mo_compares : mL 195 = 3 := by decide +kernel
theorem L_Mo_asks_0 : lab 196 0 = B_Mo_asks_0 := (congrArg (fun l => (l.lookup 0).getD []) lbq_196).trans rfl
theorem L_Mo_asks_27 : lab 196 27 = B_Mo_asks_27 := (congrArg (fun l => (l.lookup 27).getD []) lbq_196).trans rfl
theorem L_Mo_asks_44 : lab 196 44 = B_Mo_asks_44 := (congrArg (fun l => (l.lookup 44).getD []) lbq_196).trans rfl
theorem L_Mo_asks_96 : lab 196 96 = B_Mo_asks_96 := (congrArg (fun l => (l.lookup 96).getD []) lbq_196).trans rfl
theorem L_Mo_asks_110 : lab 196 110 = B_Mo_asks_110 := (congrArg (fun l => (l.lookup 110).getD []) lbq_196).trans rfl
theorem L_Mo_asks_111 : lab 196 111 = B_Mo_asks_111 := (congrArg (fun l => (l.lookup 111).getD []) lbq_196).trans rfl
theorem L_Mo_asks_112 : lab 196 112 = B_Mo_asks_112 := (congrArg (fun l => (l.lookup 112).getD []) lbq_196).trans rfl
theorem L_Mo_asks_121 : lab 196 121 = B_Mo_asks_121 := (congrArg (fun l => (l.lookup 121).getD []) lbq_196).trans rfl
theorem L_Mo_asks_122 : lab 196 122 = B_Mo_asks_122 := (congrArg (fun l => (l.lookup 122).getD []) lbq_196).trans rfl
theorem L_Mo_asks_123 : lab 196 123 = B_Mo_asks_123 := (congrArg (fun l => (l.lookup 123).getD []) lbq_196).trans rfl
theorem L_Mo_asks_132 : lab 196 132 = B_Mo_asks_132 := (congrArg (fun l => (l.lookup 132).getD []) lbq_196).trans rfl
theorem L_Mo_asks_133 : lab 196 133 = B_Mo_asks_133 := (congrArg (fun l => (l.lookup 133).getD []) lbq_196).trans rfl
theorem L_Mo_asks_134 : lab 196 134 = B_Mo_asks_134 := (congrArg (fun l => (l.lookup 134).getD []) lbq_196).trans rfl
theorem L_Mo_asks_149 : lab 196 149 = B_Mo_asks_149 := (congrArg (fun l => (l.lookup 149).getD []) lbq_196).trans rfl
theorem L_Mo_asks_150 : lab 196 150 = B_Mo_asks_150 := (congrArg (fun l => (l.lookup 150).getD []) lbq_196).trans rfl
theorem L_Mo_asks_151 : lab 196 151 = B_Mo_asks_151 := (congrArg (fun l => (l.lookup 151).getD []) lbq_196).trans rfl
theorem L_Mo_asks_166 : lab 196 166 = B_Mo_asks_166 := (congrArg (fun l => (l.lookup 166).getD []) lbq_196).trans rfl
theorem L_Mo_asks_167 : lab 196 167 = B_Mo_asks_167 := (congrArg (fun l => (l.lookup 167).getD []) lbq_196).trans rfl
theorem mL_Mo_asks : mL 196 = 7 := by decide +kernel
theorem L_Mo_passes_0 : lab 197 0 = B_Mo_passes_0 := (congrArg (fun l => (l.lookup 0).getD []) lbq_197).trans rfl
theorem L_Mo_passes_6 : lab 197 6 = B_Mo_passes_6 := (congrArg (fun l => (l.lookup 6).getD []) lbq_197).trans rfl
theorem L_Mo_passes_45 : lab 197 45 = B_Mo_passes_45 := (congrArg (fun l => (l.lookup 45).getD []) lbq_197).trans rfl
theorem L_Mo_passes_75 : lab 197 75 = B_Mo_passes_75 := (congrArg (fun l => (l.lookup 75).getD []) lbq_197).trans rfl
theorem L_Mo_passes_76 : lab 197 76 = B_Mo_passes_76 := (congrArg (fun l => (l.lookup 76).getD []) lbq_197).trans rfl
theorem L_Mo_passes_83 : lab 197 83 = B_Mo_passes_83 := (congrArg (fun l => (l.lookup 83).getD []) lbq_197).trans rfl
theorem L_Mo_passes_123 : lab 197 123 = B_Mo_passes_123 := (congrArg (fun l => (l.lookup 123).getD []) lbq_197).trans rfl
theorem L_Mo_passes_140 : lab 197 140 = B_Mo_passes_140 := (congrArg (fun l => (l.lookup 140).getD []) lbq_197).trans rfl
theorem L_Mo_passes_141 : lab 197 141 = B_Mo_passes_141 := (congrArg (fun l => (l.lookup 141).getD []) lbq_197).trans rfl
theorem L_Mo_passes_147 : lab 197 147 = B_Mo_passes_147 := (congrArg (fun l => (l.lookup 147).getD []) lbq_197).trans rfl
theorem L_Mo_passes_161 : lab 197 161 = B_Mo_passes_161 := (congrArg (fun l => (l.lookup 161).getD []) lbq_197).trans rfl
theorem L_Mo_passes_162 : lab 197 162 = B_Mo_passes_162 := (congrArg (fun l => (l.lookup 162).getD []) lbq_197).trans rfl
theorem mL_Mo_passes : mL 197 = 7 := by decide +kernel
theorem L_Mo_ofRule_0 : lab 198 0 = B_Mo_ofRule_0 := (congrArg (fun l => (l.lookup 0).getD []) lbq_198).trans rfl
theorem mL_Mo_ofRule : mL 198 = 3 := by decide +kernel
theorem L_Mo_setRule_0 : lab 199 0 = B_Mo_setRule_0 := (congrArg (fun l => (l.lookup 0).getD []) lbq_199).trans rfl
theorem mL_Mo_setRule : mL 199 = 4 := by decide +kernel
theorem L_Mo_isRule_0 : lab 200 0 = B_Mo_isRule_0 := (congrArg (fun l => (l.lookup 0).getD []) lbq_200).trans rfl
theorem mL_Mo_isRule : mL 200 = 2 := by decide +kernel
theorem L_Mo_isOn_0 : lab 201 0 = B_Mo_isOn_0 := (congrArg (fun l => (l.lookup 0).getD []) lbq_201).trans rfl
theorem L_Mo_isOn_14 : lab 201 14 = B_Mo_isOn_14 := (congrArg (fun l => (l.lookup 14).getD []) lbq_201).trans rfl
theorem L_Mo_isOn_15 : lab 201 15 = B_Mo_isOn_15 := (congrArg (fun l => (l.lookup 15).getD []) lbq_201).trans rfl
theorem mL_Mo_isOn : mL 201 = 2 := by decide +kernel
theorem L_Mo_holdsFor_0 : lab 202 0 = B_Mo_holdsFor_0 := (congrArg (fun l => (l.lookup 0).getD []) lbq_202).trans rfl
theorem mL_Mo_holdsFor : mL 202 = 3 := by decide +kernel
theorem L_Mo_isStruck_0 : lab 203 0 = B_Mo_isStruck_0 := (congrArg (fun l => (l.lookup 0).getD []) lbq_203).trans rfl
theorem L_Mo_isStruck_17 : lab 203 17 = B_Mo_isStruck_17 := (congrArg (fun l => (l.lookup 17).getD []) lbq_203).trans rfl
theorem L_Mo_isStruck_18 : lab 203 18 = B_Mo_isStruck_18 := (congrArg (fun l => (l.lookup 18).getD []) lbq_203).trans rfl
theorem mL_Mo_isStruck : mL 203 = 2 := by decide +kernel
theorem L_Mo_barring_0 : lab 204 0 = B_Mo_barring_0 := (congrArg (fun l => (l.lookup 0).getD []) lbq_204).trans rfl
theorem L_Mo_barring_2 : lab 204 2 = B_Mo_barring_2 := (congrArg (fun l => (l.lookup 2).getD []) lbq_204).trans rfl
theorem L_Mo_barring_32 : lab 204 32 = B_Mo_barring_32 := (congrArg (fun l => (l.lookup 32).getD []) lbq_204).trans rfl
theorem L_Mo_barring_38 : lab 204 38 = B_Mo_barring_38 := (congrArg (fun l => (l.lookup 38).getD []) lbq_204).trans rfl
theorem mL_Mo_barring : mL 204 = 3 := by decide +kernel
theorem L_Mo_layAllowed_0 : lab 205 0 = B_Mo_layAllowed_0 := (congrArg (fun l => (l.lookup 0).getD []) lbq_205).trans rfl
theorem L_Mo_layAllowed_4 : lab 205 4 = B_Mo_layAllowed_4 := (congrArg (fun l => (l.lookup 4).getD []) lbq_205).trans rfl
theorem L_Mo_layAllowed_38 : lab 205 38 = B_Mo_layAllowed_38 := (congrArg (fun l => (l.lookup 38).getD []) lbq_205).trans rfl
theorem L_Mo_layAllowed_39 : lab 205 39 = B_Mo_layAllowed_39 := (congrArg (fun l => (l.lookup 39).getD []) lbq_205).trans rfl
theorem L_Mo_layAllowed_54 : lab 205 54 = B_Mo_layAllowed_54 := (congrArg (fun l => (l.lookup 54).getD []) lbq_205).trans rfl
theorem L_Mo_layAllowed_55 : lab 205 55 = B_Mo_layAllowed_55 := (congrArg (fun l => (l.lookup 55).getD []) lbq_205).trans rfl
theorem L_Mo_layAllowed_63 : lab 205 63 = B_Mo_layAllowed_63 := (congrArg (fun l => (l.lookup 63).getD []) lbq_205).trans rfl
theorem mL_Mo_layAllowed : mL 205 = 3 := by decide +kernel
theorem L_Mo_turn_0 : lab 206 0 = B_Mo_turn_0 := (congrArg (fun l => (l.lookup 0).getD []) lbq_206).trans rfl
theorem mL_Mo_turn : mL 206 = 2 := by decide +kernel
theorem L_Mo_allowedBy_0 : lab 207 0 = B_Mo_allowedBy_0 := (congrArg (fun l => (l.lookup 0).getD []) lbq_207).trans rfl
theorem mL_Mo_allowedBy : mL 207 = 3 := by decide +kernel
theorem L_Mo_spread_0 : lab 208 0 = B_Mo_spread_0 := (congrArg (fun l => (l.lookup 0).getD []) lbq_208).trans rfl
theorem L_Mo_spread_2 : lab 208 2 = B_Mo_spread_2 := (congrArg (fun l => (l.lookup 2).getD []) lbq_208).trans rfl
theorem L_Mo_spread_14 : lab 208 14 = B_Mo_spread_14 := (congrArg (fun l => (l.lookup 14).getD []) lbq_208).trans rfl
theorem L_Mo_spread_98 : lab 208 98 = B_Mo_spread_98 := (congrArg (fun l => (l.lookup 98).getD []) lbq_208).trans rfl
theorem L_Mo_spread_104 : lab 208 104 = B_Mo_spread_104 := (congrArg (fun l => (l.lookup 104).getD []) lbq_208).trans rfl
theorem L_Mo_spread_110 : lab 208 110 = B_Mo_spread_110 := (congrArg (fun l => (l.lookup 110).getD []) lbq_208).trans rfl
theorem mL_Mo_spread : mL 208 = 5 := by decide +kernel
theorem L_Mo_clearWays_0 : lab 209 0 = B_Mo_clearWays_0 := (congrArg (fun l => (l.lookup 0).getD []) lbq_209).trans rfl
theorem L_Mo_clearWays_2 : lab 209 2 = B_Mo_clearWays_2 := (congrArg (fun l => (l.lookup 2).getD []) lbq_209).trans rfl
theorem L_Mo_clearWays_25 : lab 209 25 = B_Mo_clearWays_25 := (congrArg (fun l => (l.lookup 25).getD []) lbq_209).trans rfl
theorem mL_Mo_clearWays : mL 209 = 2 := by decide +kernel
theorem L_Mo_layWays_0 : lab 210 0 = B_Mo_layWays_0 := (congrArg (fun l => (l.lookup 0).getD []) lbq_210).trans rfl
theorem L_Mo_layWays_21 : lab 210 21 = B_Mo_layWays_21 := (congrArg (fun l => (l.lookup 21).getD []) lbq_210).trans rfl
theorem L_Mo_layWays_45 : lab 210 45 = B_Mo_layWays_45 := (congrArg (fun l => (l.lookup 45).getD []) lbq_210).trans rfl
theorem mL_Mo_layWays : mL 210 = 3 := by decide +kernel
theorem L_Mo_layParts_0 : lab 211 0 = B_Mo_layParts_0 := (congrArg (fun l => (l.lookup 0).getD []) lbq_211).trans rfl
theorem L_Mo_layParts_8 : lab 211 8 = B_Mo_layParts_8 := (congrArg (fun l => (l.lookup 8).getD []) lbq_211).trans rfl
theorem L_Mo_layParts_35 : lab 211 35 = B_Mo_layParts_35 := (congrArg (fun l => (l.lookup 35).getD []) lbq_211).trans rfl
theorem L_Mo_layParts_54 : lab 211 54 = B_Mo_layParts_54 := (congrArg (fun l => (l.lookup 54).getD []) lbq_211).trans rfl
theorem L_Mo_layParts_80 : lab 211 80 = B_Mo_layParts_80 := (congrArg (fun l => (l.lookup 80).getD []) lbq_211).trans rfl
theorem L_Mo_layParts_83 : lab 211 83 = B_Mo_layParts_83 := (congrArg (fun l => (l.lookup 83).getD []) lbq_211).trans rfl
theorem L_Mo_layParts_89 : lab 211 89 = B_Mo_layParts_89 := (congrArg (fun l => (l.lookup 89).getD []) lbq_211).trans rfl
theorem mL_Mo_layParts : mL 211 = 4 := by decide +kernel
theorem L_Mo_partsNow_0 : lab 212 0 = B_Mo_partsNow_0 := (congrArg (fun l => (l.lookup 0).getD []) lbq_212).trans rfl
theorem mL_Mo_partsNow : mL 212 = 2 := by decide +kernel
theorem L_Mo_trailAt_0 : lab 213 0 = B_Mo_trailAt_0 := (congrArg (fun l => (l.lookup 0).getD []) lbq_213).trans rfl
theorem mL_Mo_trailAt : mL 213 = 2 := by decide +kernel
theorem L_Mo_placeOf_0 : lab 214 0 = B_Mo_placeOf_0 := (congrArg (fun l => (l.lookup 0).getD []) lbq_214).trans rfl
theorem L_Mo_placeOf_2 : lab 214 2 = B_Mo_placeOf_2 := (congrArg (fun l => (l.lookup 2).getD []) lbq_214).trans rfl
theorem L_Mo_placeOf_24 : lab 214 24 = B_Mo_placeOf_24 := (congrArg (fun l => (l.lookup 24).getD []) lbq_214).trans rfl
theorem L_Mo_placeOf_30 : lab 214 30 = B_Mo_placeOf_30 := (congrArg (fun l => (l.lookup 30).getD []) lbq_214).trans rfl
theorem mL_Mo_placeOf : mL 214 = 3 := by decide +kernel
theorem L_Mo_isVisited_0 : lab 215 0 = B_Mo_isVisited_0 := (congrArg (fun l => (l.lookup 0).getD []) lbq_215).trans rfl
theorem L_Mo_isVisited_13 : lab 215 13 = B_Mo_isVisited_13 := (congrArg (fun l => (l.lookup 13).getD []) lbq_215).trans rfl
theorem L_Mo_isVisited_14 : lab 215 14 = B_Mo_isVisited_14 := (congrArg (fun l => (l.lookup 14).getD []) lbq_215).trans rfl
theorem mL_Mo_isVisited : mL 215 = 2 := by decide +kernel
theorem L_Mo_swapsTo_0 : lab 216 0 = B_Mo_swapsTo_0 := (congrArg (fun l => (l.lookup 0).getD []) lbq_216).trans rfl
theorem L_Mo_swapsTo_14 : lab 216 14 = B_Mo_swapsTo_14 := (congrArg (fun l => (l.lookup 14).getD []) lbq_216).trans rfl
theorem L_Mo_swapsTo_25 : lab 216 25 = B_Mo_swapsTo_25 := (congrArg (fun l => (l.lookup 25).getD []) lbq_216).trans rfl
theorem mL_Mo_swapsTo : mL 216 = 2 := by decide +kernel
theorem L_Mo_rank_0 : lab 217 0 = B_Mo_rank_0 := (congrArg (fun l => (l.lookup 0).getD []) lbq_217).trans rfl
theorem L_Mo_rank_27 : lab 217 27 = B_Mo_rank_27 := (congrArg (fun l => (l.lookup 27).getD []) lbq_217).trans rfl
theorem L_Mo_rank_28 : lab 217 28 = B_Mo_rank_28 := (congrArg (fun l => (l.lookup 28).getD []) lbq_217).trans rfl
theorem L_Mo_rank_29 : lab 217 29 = B_Mo_rank_29 := (congrArg (fun l => (l.lookup 29).getD []) lbq_217).trans rfl
theorem L_Mo_rank_55 : lab 217 55 = B_Mo_rank_55 := (congrArg (fun l => (l.lookup 55).getD []) lbq_217).trans rfl
theorem L_Mo_rank_70 : lab 217 70 = B_Mo_rank_70 := (congrArg (fun l => (l.lookup 70).getD []) lbq_217).trans rfl
theorem mL_Mo_rank : mL 217 = 3 := by decide +kernel
theorem L_Mo_nextOf_0 : lab 218 0 = B_Mo_nextOf_0 := (congrArg (fun l => (l.lookup 0).getD []) lbq_218).trans rfl
theorem L_Mo_nextOf_4 : lab 218 4 = B_Mo_nextOf_4 := (congrArg (fun l => (l.lookup 4).getD []) lbq_218).trans rfl
theorem L_Mo_nextOf_47 : lab 218 47 = B_Mo_nextOf_47 := (congrArg (fun l => (l.lookup 47).getD []) lbq_218).trans rfl
theorem L_Mo_nextOf_49 : lab 218 49 = B_Mo_nextOf_49 := (congrArg (fun l => (l.lookup 49).getD []) lbq_218).trans rfl
theorem L_Mo_nextOf_55 : lab 218 55 = B_Mo_nextOf_55 := (congrArg (fun l => (l.lookup 55).getD []) lbq_218).trans rfl
theorem mL_Mo_nextOf : mL 218 = 3 := by decide +kernel
theorem L_Mo_go_0 : lab 219 0 = B_Mo_go_0 := (congrArg (fun l => (l.lookup 0).getD []) lbq_219).trans rfl
theorem mL_Mo_go : mL 219 = 3 := by decide +kernel
theorem L_Mo_walk_0 : lab 220 0 = B_Mo_walk_0 := (congrArg (fun l => (l.lookup 0).getD []) lbq_220).trans rfl
theorem L_Mo_walk_13 : lab 220 13 = B_Mo_walk_13 := (congrArg (fun l => (l.lookup 13).getD []) lbq_220).trans rfl
theorem L_Mo_walk_42 : lab 220 42 = B_Mo_walk_42 := (congrArg (fun l => (l.lookup 42).getD []) lbq_220).trans rfl
theorem mL_Mo_walk : mL 220 = 5 := by decide +kernel
theorem L_Mo_unwind_0 : lab 221 0 = B_Mo_unwind_0 := (congrArg (fun l => (l.lookup 0).getD []) lbq_221).trans rfl
theorem L_Mo_unwind_35 : lab 221 35 = B_Mo_unwind_35 := (congrArg (fun l => (l.lookup 35).getD []) lbq_221).trans rfl
theorem L_Mo_unwind_42 : lab 221 42 = B_Mo_unwind_42 := (congrArg (fun l => (l.lookup 42).getD []) lbq_221).trans rfl
theorem mL_Mo_unwind : mL 221 = 4 := by decide +kernel
theorem L_Mo_swapsBy_0 : lab 222 0 = B_Mo_swapsBy_0 := (congrArg (fun l => (l.lookup 0).getD []) lbq_222).trans rfl
theorem mL_Mo_swapsBy : mL 222 = 8 := by decide +kernel
theorem L_Mo_struckOnes_0 : lab 223 0 = B_Mo_struckOnes_0 := (congrArg (fun l => (l.lookup 0).getD []) lbq_223).trans rfl
theorem L_Mo_struckOnes_4 : lab 223 4 = B_Mo_struckOnes_4 := (congrArg (fun l => (l.lookup 4).getD []) lbq_223).trans rfl
theorem L_Mo_struckOnes_30 : lab 223 30 = B_Mo_struckOnes_30 := (congrArg (fun l => (l.lookup 30).getD []) lbq_223).trans rfl
theorem mL_Mo_struckOnes : mL 223 = 3 := by decide +kernel
theorem L_Mo_rulesOn_0 : lab 224 0 = B_Mo_rulesOn_0 := (congrArg (fun l => (l.lookup 0).getD []) lbq_224).trans rfl
theorem L_Mo_rulesOn_4 : lab 224 4 = B_Mo_rulesOn_4 := (congrArg (fun l => (l.lookup 4).getD []) lbq_224).trans rfl
theorem L_Mo_rulesOn_30 : lab 224 30 = B_Mo_rulesOn_30 := (congrArg (fun l => (l.lookup 30).getD []) lbq_224).trans rfl
theorem mL_Mo_rulesOn : mL 224 = 3 := by decide +kernel
theorem L_Mo_openOnes_0 : lab 225 0 = B_Mo_openOnes_0 := (congrArg (fun l => (l.lookup 0).getD []) lbq_225).trans rfl
theorem L_Mo_openOnes_7 : lab 225 7 = B_Mo_openOnes_7 := (congrArg (fun l => (l.lookup 7).getD []) lbq_225).trans rfl
theorem L_Mo_openOnes_36 : lab 225 36 = B_Mo_openOnes_36 := (congrArg (fun l => (l.lookup 36).getD []) lbq_225).trans rfl
theorem L_Mo_openOnes_37 : lab 225 37 = B_Mo_openOnes_37 := (congrArg (fun l => (l.lookup 37).getD []) lbq_225).trans rfl
theorem L_Mo_openOnes_45 : lab 225 45 = B_Mo_openOnes_45 := (congrArg (fun l => (l.lookup 45).getD []) lbq_225).trans rfl
theorem mL_Mo_openOnes : mL 225 = 3 := by decide +kernel
theorem L_Mo_size_0 : lab 226 0 = B_Mo_size_0 := (congrArg (fun l => (l.lookup 0).getD []) lbq_226).trans rfl
theorem L_Mo_size_16 : lab 226 16 = B_Mo_size_16 := (congrArg (fun l => (l.lookup 16).getD []) lbq_226).trans rfl
theorem L_Mo_size_84 : lab 226 84 = B_Mo_size_84 := (congrArg (fun l => (l.lookup 84).getD []) lbq_226).trans rfl
theorem L_Mo_size_91 : lab 226 91 = B_Mo_size_91 := (congrArg (fun l => (l.lookup 91).getD []) lbq_226).trans rfl
theorem L_Mo_size_98 : lab 226 98 = B_Mo_size_98 := (congrArg (fun l => (l.lookup 98).getD []) lbq_226).trans rfl
theorem L_Mo_size_103 : lab 226 103 = B_Mo_size_103 := (congrArg (fun l => (l.lookup 103).getD []) lbq_226).trans rfl
theorem L_Mo_size_108 : lab 226 108 = B_Mo_size_108 := (congrArg (fun l => (l.lookup 108).getD []) lbq_226).trans rfl
theorem L_Mo_size_116 : lab 226 116 = B_Mo_size_116 := (congrArg (fun l => (l.lookup 116).getD []) lbq_226).trans rfl
theorem L_Mo_size_121 : lab 226 121 = B_Mo_size_121 := (congrArg (fun l => (l.lookup 121).getD []) lbq_226).trans rfl
theorem L_Mo_size_129 : lab 226 129 = B_Mo_size_129 := (congrArg (fun l => (l.lookup 129).getD []) lbq_226).trans rfl
theorem L_Mo_size_134 : lab 226 134 = B_Mo_size_134 := (congrArg (fun l => (l.lookup 134).getD []) lbq_226).trans rfl
theorem L_Mo_size_141 : lab 226 141 = B_Mo_size_141 := (congrArg (fun l => (l.lookup 141).getD []) lbq_226).trans rfl
theorem L_Mo_size_148 : lab 226 148 = B_Mo_size_148 := (congrArg (fun l => (l.lookup 148).getD []) lbq_226).trans rfl
theorem L_Mo_size_155 : lab 226 155 = B_Mo_size_155 := (congrArg (fun l => (l.lookup 155).getD []) lbq_226).trans rfl
theorem L_Mo_size_162 : lab 226 162 = B_Mo_size_162 := (congrArg (fun l => (l.lookup 162).getD []) lbq_226).trans rfl
theorem L_Mo_size_167 : lab 226 167 = B_Mo_size_167 := (congrArg (fun l => (l.lookup 167).getD []) lbq_226).trans rfl
theorem mL_Mo_size : mL 226 = 2 := by decide +kernel
theorem L_Mo_weight_0 : lab 227 0 = B_Mo_weight_0 := (congrArg (fun l => (l.lookup 0).getD []) lbq_227).trans rfl
theorem L_Mo_weight_16 : lab 227 16 = B_Mo_weight_16 := (congrArg (fun l => (l.lookup 16).getD []) lbq_227).trans rfl
theorem L_Mo_weight_25 : lab 227 25 = B_Mo_weight_25 := (congrArg (fun l => (l.lookup 25).getD []) lbq_227).trans rfl
theorem mL_Mo_weight : mL 227 = 2 := by decide +kernel
theorem L_Mo_lettersOf_0 : lab 228 0 = B_Mo_lettersOf_0 := (congrArg (fun l => (l.lookup 0).getD []) lbq_228).trans rfl
theorem L_Mo_lettersOf_2 : lab 228 2 = B_Mo_lettersOf_2 := (congrArg (fun l => (l.lookup 2).getD []) lbq_228).trans rfl
theorem L_Mo_lettersOf_28 : lab 228 28 = B_Mo_lettersOf_28 := (congrArg (fun l => (l.lookup 28).getD []) lbq_228).trans rfl
theorem mL_Mo_lettersOf : mL 228 = 3 := by decide +kernel
theorem L_Mo_nameByte_0 : lab 229 0 = B_Mo_nameByte_0 := (congrArg (fun l => (l.lookup 0).getD []) lbq_229).trans rfl
theorem L_Mo_nameByte_14 : lab 229 14 = B_Mo_nameByte_14 := (congrArg (fun l => (l.lookup 14).getD []) lbq_229).trans rfl
theorem L_Mo_nameByte_43 : lab 229 43 = B_Mo_nameByte_43 := (congrArg (fun l => (l.lookup 43).getD []) lbq_229).trans rfl
theorem L_Mo_nameByte_44 : lab 229 44 = B_Mo_nameByte_44 := (congrArg (fun l => (l.lookup 44).getD []) lbq_229).trans rfl
theorem mL_Mo_nameByte : mL 229 = 3 := by decide +kernel
theorem L_Mo_only_0 : lab 230 0 = B_Mo_only_0 := (congrArg (fun l => (l.lookup 0).getD []) lbq_230).trans rfl
theorem L_Mo_only_2 : lab 230 2 = B_Mo_only_2 := (congrArg (fun l => (l.lookup 2).getD []) lbq_230).trans rfl
theorem L_Mo_only_16 : lab 230 16 = B_Mo_only_16 := (congrArg (fun l => (l.lookup 16).getD []) lbq_230).trans rfl
theorem mL_Mo_only : mL 230 = 2 := by decide +kernel
theorem L_Mo_neighbours_0 : lab 231 0 = B_Mo_neighbours_0 := (congrArg (fun l => (l.lookup 0).getD []) lbq_231).trans rfl
theorem L_Mo_neighbours_4 : lab 231 4 = B_Mo_neighbours_4 := (congrArg (fun l => (l.lookup 4).getD []) lbq_231).trans rfl
theorem L_Mo_neighbours_45 : lab 231 45 = B_Mo_neighbours_45 := (congrArg (fun l => (l.lookup 45).getD []) lbq_231).trans rfl
theorem L_Mo_neighbours_46 : lab 231 46 = B_Mo_neighbours_46 := (congrArg (fun l => (l.lookup 46).getD []) lbq_231).trans rfl
theorem L_Mo_neighbours_54 : lab 231 54 = B_Mo_neighbours_54 := (congrArg (fun l => (l.lookup 54).getD []) lbq_231).trans rfl
theorem mL_Mo_neighbours : mL 231 = 4 := by decide +kernel
theorem L_Mo_choice_0 : lab 232 0 = B_Mo_choice_0 := (congrArg (fun l => (l.lookup 0).getD []) lbq_232).trans rfl
theorem L_Mo_choice_14 : lab 232 14 = B_Mo_choice_14 := (congrArg (fun l => (l.lookup 14).getD []) lbq_232).trans rfl
theorem L_Mo_choice_31 : lab 232 31 = B_Mo_choice_31 := (congrArg (fun l => (l.lookup 31).getD []) lbq_232).trans rfl
theorem L_Mo_choice_34 : lab 232 34 = B_Mo_choice_34 := (congrArg (fun l => (l.lookup 34).getD []) lbq_232).trans rfl
theorem L_Mo_choice_96 : lab 232 96 = B_Mo_choice_96 := (congrArg (fun l => (l.lookup 96).getD []) lbq_232).trans rfl
theorem L_Mo_choice_103 : lab 232 103 = B_Mo_choice_103 := (congrArg (fun l => (l.lookup 103).getD []) lbq_232).trans rfl
theorem L_Mo_choice_109 : lab 232 109 = B_Mo_choice_109 := (congrArg (fun l => (l.lookup 109).getD []) lbq_232).trans rfl
theorem L_Mo_choice_122 : lab 232 122 = B_Mo_choice_122 := (congrArg (fun l => (l.lookup 122).getD []) lbq_232).trans rfl
theorem L_Mo_choice_123 : lab 232 123 = B_Mo_choice_123 := (congrArg (fun l => (l.lookup 123).getD []) lbq_232).trans rfl
theorem L_Mo_choice_124 : lab 232 124 = B_Mo_choice_124 := (congrArg (fun l => (l.lookup 124).getD []) lbq_232).trans rfl
theorem L_Mo_choice_136 : lab 232 136 = B_Mo_choice_136 := (congrArg (fun l => (l.lookup 136).getD []) lbq_232).trans rfl
theorem L_Mo_choice_137 : lab 232 137 = B_Mo_choice_137 := (congrArg (fun l => (l.lookup 137).getD []) lbq_232).trans rfl
theorem L_Mo_choice_138 : lab 232 138 = B_Mo_choice_138 := (congrArg (fun l => (l.lookup 138).getD []) lbq_232).trans rfl
theorem L_Mo_choice_148 : lab 232 148 = B_Mo_choice_148 := (congrArg (fun l => (l.lookup 148).getD []) lbq_232).trans rfl
theorem L_Mo_choice_162 : lab 232 162 = B_Mo_choice_162 := (congrArg (fun l => (l.lookup 162).getD []) lbq_232).trans rfl
theorem L_Mo_choice_176 : lab 232 176 = B_Mo_choice_176 := (congrArg (fun l => (l.lookup 176).getD []) lbq_232).trans rfl
theorem L_Mo_choice_183 : lab 232 183 = B_Mo_choice_183 := (congrArg (fun l => (l.lookup 183).getD []) lbq_232).trans rfl
theorem L_Mo_choice_189 : lab 232 189 = B_Mo_choice_189 := (congrArg (fun l => (l.lookup 189).getD []) lbq_232).trans rfl
theorem L_Mo_choice_195 : lab 232 195 = B_Mo_choice_195 := (congrArg (fun l => (l.lookup 195).getD []) lbq_232).trans rfl
theorem mL_Mo_choice : mL 232 = 5 := by decide +kernel
theorem L_Mo_numberOf_0 : lab 233 0 = B_Mo_numberOf_0 := (congrArg (fun l => (l.lookup 0).getD []) lbq_233).trans rfl
theorem L_Mo_numberOf_25 : lab 233 25 = B_Mo_numberOf_25 := (congrArg (fun l => (l.lookup 25).getD []) lbq_233).trans rfl
theorem L_Mo_numberOf_26 : lab 233 26 = B_Mo_numberOf_26 := (congrArg (fun l => (l.lookup 26).getD []) lbq_233).trans rfl
theorem mL_Mo_numberOf : mL 233 = 2 := by decide +kernel
theorem L_Mo_distance_0 : lab 234 0 = B_Mo_distance_0 := (congrArg (fun l => (l.lookup 0).getD []) lbq_234).trans rfl
theorem L_Mo_distance_17 : lab 234 17 = B_Mo_distance_17 := (congrArg (fun l => (l.lookup 17).getD []) lbq_234).trans rfl
theorem L_Mo_distance_23 : lab 234 23 = B_Mo_distance_23 := (congrArg (fun l => (l.lookup 23).getD []) lbq_234).trans rfl
theorem mL_Mo_distance : mL 234 = 3 := by decide +kernel
theorem L_Mo_swapped_0 : lab 235 0 = B_Mo_swapped_0 := (congrArg (fun l => (l.lookup 0).getD []) lbq_235).trans rfl
theorem L_Mo_swapped_29 : lab 235 29 = B_Mo_swapped_29 := (congrArg (fun l => (l.lookup 29).getD []) lbq_235).trans rfl
theorem L_Mo_swapped_30 : lab 235 30 = B_Mo_swapped_30 := (congrArg (fun l => (l.lookup 30).getD []) lbq_235).trans rfl
theorem L_Mo_swapped_40 : lab 235 40 = B_Mo_swapped_40 := (congrArg (fun l => (l.lookup 40).getD []) lbq_235).trans rfl
theorem L_Mo_swapped_47 : lab 235 47 = B_Mo_swapped_47 := (congrArg (fun l => (l.lookup 47).getD []) lbq_235).trans rfl
theorem mL_Mo_swapped : mL 235 = 4 := by decide +kernel
theorem L_Mo_nearest_0 : lab 236 0 = B_Mo_nearest_0 := (congrArg (fun l => (l.lookup 0).getD []) lbq_236).trans rfl
theorem L_Mo_nearest_14 : lab 236 14 = B_Mo_nearest_14 := (congrArg (fun l => (l.lookup 14).getD []) lbq_236).trans rfl
theorem L_Mo_nearest_27 : lab 236 27 = B_Mo_nearest_27 := (congrArg (fun l => (l.lookup 27).getD []) lbq_236).trans rfl
theorem L_Mo_nearest_28 : lab 236 28 = B_Mo_nearest_28 := (congrArg (fun l => (l.lookup 28).getD []) lbq_236).trans rfl
theorem L_Mo_nearest_36 : lab 236 36 = B_Mo_nearest_36 := (congrArg (fun l => (l.lookup 36).getD []) lbq_236).trans rfl
theorem L_Mo_nearest_58 : lab 236 58 = B_Mo_nearest_58 := (congrArg (fun l => (l.lookup 58).getD []) lbq_236).trans rfl
theorem L_Mo_nearest_68 : lab 236 68 = B_Mo_nearest_68 := (congrArg (fun l => (l.lookup 68).getD []) lbq_236).trans rfl
theorem mL_Mo_nearest : mL 236 = 6 := by decide +kernel
theorem L_Mo_with_0 : lab 237 0 = B_Mo_with_0 := (congrArg (fun l => (l.lookup 0).getD []) lbq_237).trans rfl
theorem L_Mo_with_14 : lab 237 14 = B_Mo_with_14 := (congrArg (fun l => (l.lookup 14).getD []) lbq_237).trans rfl
theorem L_Mo_with_24 : lab 237 24 = B_Mo_with_24 := (congrArg (fun l => (l.lookup 24).getD []) lbq_237).trans rfl
theorem L_Mo_with_62 : lab 237 62 = B_Mo_with_62 := (congrArg (fun l => (l.lookup 62).getD []) lbq_237).trans rfl
theorem L_Mo_with_63 : lab 237 63 = B_Mo_with_63 := (congrArg (fun l => (l.lookup 63).getD []) lbq_237).trans rfl
theorem L_Mo_with_71 : lab 237 71 = B_Mo_with_71 := (congrArg (fun l => (l.lookup 71).getD []) lbq_237).trans rfl
theorem mL_Mo_with : mL 237 = 5 := by decide +kernel
theorem L_Mo_heaviest_0 : lab 238 0 = B_Mo_heaviest_0 := (congrArg (fun l => (l.lookup 0).getD []) lbq_238).trans rfl
theorem L_Mo_heaviest_14 : lab 238 14 = B_Mo_heaviest_14 := (congrArg (fun l => (l.lookup 14).getD []) lbq_238).trans rfl
theorem L_Mo_heaviest_49 : lab 238 49 = B_Mo_heaviest_49 := (congrArg (fun l => (l.lookup 49).getD []) lbq_238).trans rfl
theorem L_Mo_heaviest_53 : lab 238 53 = B_Mo_heaviest_53 := (congrArg (fun l => (l.lookup 53).getD []) lbq_238).trans rfl
theorem L_Mo_heaviest_54 : lab 238 54 = B_Mo_heaviest_54 := (congrArg (fun l => (l.lookup 54).getD []) lbq_238).trans rfl
theorem L_Mo_heaviest_61 : lab 238 61 = B_Mo_heaviest_61 := (congrArg (fun l => (l.lookup 61).getD []) lbq_238).trans rfl
theorem mL_Mo_heaviest : mL 238 = 4 := by decide +kernel
theorem L_Mo_holds_0 : lab 239 0 = B_Mo_holds_0 := (congrArg (fun l => (l.lookup 0).getD []) lbq_239).trans rfl
theorem L_Mo_holds_21 : lab 239 21 = B_Mo_holds_21 := (congrArg (fun l => (l.lookup 21).getD []) lbq_239).trans rfl
theorem L_Mo_holds_22 : lab 239 22 = B_Mo_holds_22 := (congrArg (fun l => (l.lookup 22).getD []) lbq_239).trans rfl
theorem L_Mo_holds_41 : lab 239 41 = B_Mo_holds_41 := (congrArg (fun l => (l.lookup 41).getD []) lbq_239).trans rfl
theorem L_Mo_holds_42 : lab 239 42 = B_Mo_holds_42 := (congrArg (fun l => (l.lookup 42).getD []) lbq_239).trans rfl
theorem mL_Mo_holds : mL 239 = 3 := by decide +kernel
theorem L_Mo_heldBy_0 : lab 240 0 = B_Mo_heldBy_0 := (congrArg (fun l => (l.lookup 0).getD []) lbq_240).trans rfl
theorem L_Mo_heldBy_4 : lab 240 4 = B_Mo_heldBy_4 := (congrArg (fun l => (l.lookup 4).getD []) lbq_240).trans rfl
theorem L_Mo_heldBy_26 : lab 240 26 = B_Mo_heldBy_26 := (congrArg (fun l => (l.lookup 26).getD []) lbq_240).trans rfl
theorem L_Mo_heldBy_27 : lab 240 27 = B_Mo_heldBy_27 := (congrArg (fun l => (l.lookup 27).getD []) lbq_240).trans rfl
theorem L_Mo_heldBy_35 : lab 240 35 = B_Mo_heldBy_35 := (congrArg (fun l => (l.lookup 35).getD []) lbq_240).trans rfl
theorem mL_Mo_heldBy : mL 240 = 4 := by decide +kernel
theorem L_Mo_rule_0 : lab 241 0 = B_Mo_rule_0 := (congrArg (fun l => (l.lookup 0).getD []) lbq_241).trans rfl
theorem L_Mo_rule_14 : lab 241 14 = B_Mo_rule_14 := (congrArg (fun l => (l.lookup 14).getD []) lbq_241).trans rfl
theorem L_Mo_rule_44 : lab 241 44 = B_Mo_rule_44 := (congrArg (fun l => (l.lookup 44).getD []) lbq_241).trans rfl
theorem L_Mo_rule_51 : lab 241 51 = B_Mo_rule_51 := (congrArg (fun l => (l.lookup 51).getD []) lbq_241).trans rfl
theorem L_Mo_rule_57 : lab 241 57 = B_Mo_rule_57 := (congrArg (fun l => (l.lookup 57).getD []) lbq_241).trans rfl
theorem L_Mo_rule_78 : lab 241 78 = B_Mo_rule_78 := (congrArg (fun l => (l.lookup 78).getD []) lbq_241).trans rfl
theorem L_Mo_rule_79 : lab 241 79 = B_Mo_rule_79 := (congrArg (fun l => (l.lookup 79).getD []) lbq_241).trans rfl
theorem L_Mo_rule_80 : lab 241 80 = B_Mo_rule_80 := (congrArg (fun l => (l.lookup 80).getD []) lbq_241).trans rfl
theorem L_Mo_rule_87 : lab 241 87 = B_Mo_rule_87 := (congrArg (fun l => (l.lookup 87).getD []) lbq_241).trans rfl
theorem mL_Mo_rule : mL 241 = 3 := by decide +kernel
theorem L_Mo_why_0 : lab 242 0 = B_Mo_why_0 := (congrArg (fun l => (l.lookup 0).getD []) lbq_242).trans rfl
theorem L_Mo_why_14 : lab 242 14 = B_Mo_why_14 := (congrArg (fun l => (l.lookup 14).getD []) lbq_242).trans rfl
theorem L_Mo_why_24 : lab 242 24 = B_Mo_why_24 := (congrArg (fun l => (l.lookup 24).getD []) lbq_242).trans rfl
theorem L_Mo_why_42 : lab 242 42 = B_Mo_why_42 := (congrArg (fun l => (l.lookup 42).getD []) lbq_242).trans rfl
theorem L_Mo_why_59 : lab 242 59 = B_Mo_why_59 := (congrArg (fun l => (l.lookup 59).getD []) lbq_242).trans rfl
theorem L_Mo_why_71 : lab 242 71 = B_Mo_why_71 := (congrArg (fun l => (l.lookup 71).getD []) lbq_242).trans rfl
theorem L_Mo_why_72 : lab 242 72 = B_Mo_why_72 := (congrArg (fun l => (l.lookup 72).getD []) lbq_242).trans rfl
theorem mL_Mo_why : mL 242 = 3 := by decide +kernel
theorem L_Mo_against_0 : lab 243 0 = B_Mo_against_0 := (congrArg (fun l => (l.lookup 0).getD []) lbq_243).trans rfl
theorem L_Mo_against_14 : lab 243 14 = B_Mo_against_14 := (congrArg (fun l => (l.lookup 14).getD []) lbq_243).trans rfl
theorem L_Mo_against_18 : lab 243 18 = B_Mo_against_18 := (congrArg (fun l => (l.lookup 18).getD []) lbq_243).trans rfl
theorem L_Mo_against_51 : lab 243 51 = B_Mo_against_51 := (congrArg (fun l => (l.lookup 51).getD []) lbq_243).trans rfl
theorem L_Mo_against_52 : lab 243 52 = B_Mo_against_52 := (congrArg (fun l => (l.lookup 52).getD []) lbq_243).trans rfl
theorem L_Mo_against_60 : lab 243 60 = B_Mo_against_60 := (congrArg (fun l => (l.lookup 60).getD []) lbq_243).trans rfl
theorem mL_Mo_against : mL 243 = 4 := by decide +kernel
theorem L_Mo_next_0 : lab 244 0 = B_Mo_next_0 := (congrArg (fun l => (l.lookup 0).getD []) lbq_244).trans rfl
theorem mL_Mo_next : mL 244 = 2 := by decide +kernel
theorem L_Mo_trail_0 : lab 245 0 = B_Mo_trail_0 := (congrArg (fun l => (l.lookup 0).getD []) lbq_245).trans rfl
theorem L_Mo_trail_30 : lab 245 30 = B_Mo_trail_30 := (congrArg (fun l => (l.lookup 30).getD []) lbq_245).trans rfl
theorem L_Mo_trail_31 : lab 245 31 = B_Mo_trail_31 := (congrArg (fun l => (l.lookup 31).getD []) lbq_245).trans rfl
theorem mL_Mo_trail : mL 245 = 2 := by decide +kernel
theorem L_Mo_isMode_0 : lab 246 0 = B_Mo_isMode_0 := (congrArg (fun l => (l.lookup 0).getD []) lbq_246).trans rfl
theorem mL_Mo_isMode : mL 246 = 1 := by decide +kernel
theorem L_Mo_swapsToEnd_0 : lab 247 0 = B_Mo_swapsToEnd_0 := (congrArg (fun l => (l.lookup 0).getD []) lbq_247).trans rfl
theorem L_Mo_swapsToEnd_15 : lab 247 15 = B_Mo_swapsToEnd_15 := (congrArg (fun l => (l.lookup 15).getD []) lbq_247).trans rfl
theorem L_Mo_swapsToEnd_20 : lab 247 20 = B_Mo_swapsToEnd_20 := (congrArg (fun l => (l.lookup 20).getD []) lbq_247).trans rfl
theorem mL_Mo_swapsToEnd : mL 247 = 2 := by decide +kernel
theorem L_Mo_bestMode_0 : lab 248 0 = B_Mo_bestMode_0 := (congrArg (fun l => (l.lookup 0).getD []) lbq_248).trans rfl
theorem L_Mo_bestMode_9 : lab 248 9 = B_Mo_bestMode_9 := (congrArg (fun l => (l.lookup 9).getD []) lbq_248).trans rfl
theorem L_Mo_bestMode_31 : lab 248 31 = B_Mo_bestMode_31 := (congrArg (fun l => (l.lookup 31).getD []) lbq_248).trans rfl
theorem L_Mo_bestMode_32 : lab 248 32 = B_Mo_bestMode_32 := (congrArg (fun l => (l.lookup 32).getD []) lbq_248).trans rfl
theorem L_Mo_bestMode_39 : lab 248 39 = B_Mo_bestMode_39 := (congrArg (fun l => (l.lookup 39).getD []) lbq_248).trans rfl
theorem mL_Mo_bestMode : mL 248 = 3 := by decide +kernel
theorem L_Mo_ahead_0 : lab 249 0 = B_Mo_ahead_0 := (congrArg (fun l => (l.lookup 0).getD []) lbq_249).trans rfl
theorem L_Mo_ahead_9 : lab 249 9 = B_Mo_ahead_9 := (congrArg (fun l => (l.lookup 9).getD []) lbq_249).trans rfl
theorem L_Mo_ahead_10 : lab 249 10 = B_Mo_ahead_10 := (congrArg (fun l => (l.lookup 10).getD []) lbq_249).trans rfl
theorem L_Mo_ahead_18 : lab 249 18 = B_Mo_ahead_18 := (congrArg (fun l => (l.lookup 18).getD []) lbq_249).trans rfl
theorem L_Mo_ahead_55 : lab 249 55 = B_Mo_ahead_55 := (congrArg (fun l => (l.lookup 55).getD []) lbq_249).trans rfl
theorem L_Mo_ahead_58 : lab 249 58 = B_Mo_ahead_58 := (congrArg (fun l => (l.lookup 58).getD []) lbq_249).trans rfl
theorem L_Mo_ahead_78 : lab 249 78 = B_Mo_ahead_78 := (congrArg (fun l => (l.lookup 78).getD []) lbq_249).trans rfl
theorem L_Mo_ahead_79 : lab 249 79 = B_Mo_ahead_79 := (congrArg (fun l => (l.lookup 79).getD []) lbq_249).trans rfl
theorem mL_Mo_ahead : mL 249 = 7 := by decide +kernel
theorem L_Mo_leadsTo_0 : lab 250 0 = B_Mo_leadsTo_0 := (congrArg (fun l => (l.lookup 0).getD []) lbq_250).trans rfl
theorem L_Mo_leadsTo_27 : lab 250 27 = B_Mo_leadsTo_27 := (congrArg (fun l => (l.lookup 27).getD []) lbq_250).trans rfl
theorem L_Mo_leadsTo_29 : lab 250 29 = B_Mo_leadsTo_29 := (congrArg (fun l => (l.lookup 29).getD []) lbq_250).trans rfl
theorem L_Mo_leadsTo_50 : lab 250 50 = B_Mo_leadsTo_50 := (congrArg (fun l => (l.lookup 50).getD []) lbq_250).trans rfl
theorem L_Mo_leadsTo_51 : lab 250 51 = B_Mo_leadsTo_51 := (congrArg (fun l => (l.lookup 51).getD []) lbq_250).trans rfl
theorem mL_Mo_leadsTo : mL 250 = 4 := by decide +kernel
theorem L_Mo_far_0 : lab 251 0 = B_Mo_far_0 := (congrArg (fun l => (l.lookup 0).getD []) lbq_251).trans rfl
theorem L_Mo_far_15 : lab 251 15 = B_Mo_far_15 := (congrArg (fun l => (l.lookup 15).getD []) lbq_251).trans rfl
theorem L_Mo_far_33 : lab 251 33 = B_Mo_far_33 := (congrArg (fun l => (l.lookup 33).getD []) lbq_251).trans rfl
theorem L_Mo_far_34 : lab 251 34 = B_Mo_far_34 := (congrArg (fun l => (l.lookup 34).getD []) lbq_251).trans rfl
theorem mL_Mo_far : mL 251 = 3 := by decide +kernel
theorem L_Mo_toward_0 : lab 252 0 = B_Mo_toward_0 := (congrArg (fun l => (l.lookup 0).getD []) lbq_252).trans rfl
theorem L_Mo_toward_15 : lab 252 15 = B_Mo_toward_15 := (congrArg (fun l => (l.lookup 15).getD []) lbq_252).trans rfl
theorem L_Mo_toward_29 : lab 252 29 = B_Mo_toward_29 := (congrArg (fun l => (l.lookup 29).getD []) lbq_252).trans rfl
theorem L_Mo_toward_31 : lab 252 31 = B_Mo_toward_31 := (congrArg (fun l => (l.lookup 31).getD []) lbq_252).trans rfl
theorem L_Mo_toward_33 : lab 252 33 = B_Mo_toward_33 := (congrArg (fun l => (l.lookup 33).getD []) lbq_252).trans rfl
theorem L_Mo_toward_69 : lab 252 69 = B_Mo_toward_69 := (congrArg (fun l => (l.lookup 69).getD []) lbq_252).trans rfl
theorem L_Mo_toward_75 : lab 252 75 = B_Mo_toward_75 := (congrArg (fun l => (l.lookup 75).getD []) lbq_252).trans rfl
theorem mL_Mo_toward : mL 252 = 4 := by decide +kernel
theorem L_Mo_part_0 : lab 253 0 = B_Mo_part_0 := (congrArg (fun l => (l.lookup 0).getD []) lbq_253).trans rfl
theorem L_Mo_part_22 : lab 253 22 = B_Mo_part_22 := (congrArg (fun l => (l.lookup 22).getD []) lbq_253).trans rfl
theorem L_Mo_part_34 : lab 253 34 = B_Mo_part_34 := (congrArg (fun l => (l.lookup 34).getD []) lbq_253).trans rfl
theorem L_Mo_part_65 : lab 253 65 = B_Mo_part_65 := (congrArg (fun l => (l.lookup 65).getD []) lbq_253).trans rfl
theorem L_Mo_part_67 : lab 253 67 = B_Mo_part_67 := (congrArg (fun l => (l.lookup 67).getD []) lbq_253).trans rfl
theorem L_Mo_part_86 : lab 253 86 = B_Mo_part_86 := (congrArg (fun l => (l.lookup 86).getD []) lbq_253).trans rfl
theorem L_Mo_part_92 : lab 253 92 = B_Mo_part_92 := (congrArg (fun l => (l.lookup 92).getD []) lbq_253).trans rfl
theorem L_Mo_part_101 : lab 253 101 = B_Mo_part_101 := (congrArg (fun l => (l.lookup 101).getD []) lbq_253).trans rfl
theorem L_Mo_part_111 : lab 253 111 = B_Mo_part_111 := (congrArg (fun l => (l.lookup 111).getD []) lbq_253).trans rfl
theorem L_Mo_part_121 : lab 253 121 = B_Mo_part_121 := (congrArg (fun l => (l.lookup 121).getD []) lbq_253).trans rfl
theorem L_Mo_part_126 : lab 253 126 = B_Mo_part_126 := (congrArg (fun l => (l.lookup 126).getD []) lbq_253).trans rfl
theorem mL_Mo_part : mL 253 = 8 := by decide +kernel
theorem L_Mo_allowedIf_0 : lab 254 0 = B_Mo_allowedIf_0 := (congrArg (fun l => (l.lookup 0).getD []) lbq_254).trans rfl
theorem L_Mo_allowedIf_16 : lab 254 16 = B_Mo_allowedIf_16 := (congrArg (fun l => (l.lookup 16).getD []) lbq_254).trans rfl
theorem L_Mo_allowedIf_21 : lab 254 21 = B_Mo_allowedIf_21 := (congrArg (fun l => (l.lookup 21).getD []) lbq_254).trans rfl
theorem mL_Mo_allowedIf : mL 254 = 2 := by decide +kernel
theorem L_Mo_partsIf_0 : lab 255 0 = B_Mo_partsIf_0 := (congrArg (fun l => (l.lookup 0).getD []) lbq_255).trans rfl
theorem L_Mo_partsIf_14 : lab 255 14 = B_Mo_partsIf_14 := (congrArg (fun l => (l.lookup 14).getD []) lbq_255).trans rfl
theorem mL_Mo_partsIf : mL 255 = 3 := by decide +kernel
theorem L_Mo_strictest_0 : lab 256 0 = B_Mo_strictest_0 := (congrArg (fun l => (l.lookup 0).getD []) lbq_256).trans rfl
theorem L_Mo_strictest_11 : lab 256 11 = B_Mo_strictest_11 := (congrArg (fun l => (l.lookup 11).getD []) lbq_256).trans rfl
theorem L_Mo_strictest_38 : lab 256 38 = B_Mo_strictest_38 := (congrArg (fun l => (l.lookup 38).getD []) lbq_256).trans rfl
theorem L_Mo_strictest_39 : lab 256 39 = B_Mo_strictest_39 := (congrArg (fun l => (l.lookup 39).getD []) lbq_256).trans rfl
theorem L_Mo_strictest_52 : lab 256 52 = B_Mo_strictest_52 := (congrArg (fun l => (l.lookup 52).getD []) lbq_256).trans rfl
theorem L_Mo_strictest_58 : lab 256 58 = B_Mo_strictest_58 := (congrArg (fun l => (l.lookup 58).getD []) lbq_256).trans rfl
theorem mL_Mo_strictest : mL 256 = 5 := by decide +kernel
theorem L_Mo_bridge_0 : lab 257 0 = B_Mo_bridge_0 := (congrArg (fun l => (l.lookup 0).getD []) lbq_257).trans rfl
theorem L_Mo_bridge_17 : lab 257 17 = B_Mo_bridge_17 := (congrArg (fun l => (l.lookup 17).getD []) lbq_257).trans rfl
theorem L_Mo_bridge_39 : lab 257 39 = B_Mo_bridge_39 := (congrArg (fun l => (l.lookup 39).getD []) lbq_257).trans rfl
theorem L_Mo_bridge_73 : lab 257 73 = B_Mo_bridge_73 := (congrArg (fun l => (l.lookup 73).getD []) lbq_257).trans rfl
theorem L_Mo_bridge_79 : lab 257 79 = B_Mo_bridge_79 := (congrArg (fun l => (l.lookup 79).getD []) lbq_257).trans rfl
theorem mL_Mo_bridge : mL 257 = 6 := by decide +kernel
theorem L_Mo_meanWeight_0 : lab 258 0 = B_Mo_meanWeight_0 := (congrArg (fun l => (l.lookup 0).getD []) lbq_258).trans rfl
theorem L_Mo_meanWeight_14 : lab 258 14 = B_Mo_meanWeight_14 := (congrArg (fun l => (l.lookup 14).getD []) lbq_258).trans rfl
theorem L_Mo_meanWeight_40 : lab 258 40 = B_Mo_meanWeight_40 := (congrArg (fun l => (l.lookup 40).getD []) lbq_258).trans rfl
theorem L_Mo_meanWeight_41 : lab 258 41 = B_Mo_meanWeight_41 := (congrArg (fun l => (l.lookup 41).getD []) lbq_258).trans rfl
theorem L_Mo_meanWeight_49 : lab 258 49 = B_Mo_meanWeight_49 := (congrArg (fun l => (l.lookup 49).getD []) lbq_258).trans rfl
theorem L_Mo_meanWeight_57 : lab 258 57 = B_Mo_meanWeight_57 := (congrArg (fun l => (l.lookup 57).getD []) lbq_258).trans rfl
theorem L_Mo_meanWeight_62 : lab 258 62 = B_Mo_meanWeight_62 := (congrArg (fun l => (l.lookup 62).getD []) lbq_258).trans rfl
theorem mL_Mo_meanWeight : mL 258 = 4 := by decide +kernel
theorem L_Mo_visitedShare_0 : lab 259 0 = B_Mo_visitedShare_0 := (congrArg (fun l => (l.lookup 0).getD []) lbq_259).trans rfl
theorem L_Mo_visitedShare_23 : lab 259 23 = B_Mo_visitedShare_23 := (congrArg (fun l => (l.lookup 23).getD []) lbq_259).trans rfl
theorem L_Mo_visitedShare_30 : lab 259 30 = B_Mo_visitedShare_30 := (congrArg (fun l => (l.lookup 30).getD []) lbq_259).trans rfl
theorem mL_Mo_visitedShare : mL 259 = 3 := by decide +kernel
theorem L_Mo_step_0 : lab 260 0 = B_Mo_step_0 := (congrArg (fun l => (l.lookup 0).getD []) lbq_260).trans rfl
theorem L_Mo_step_23 : lab 260 23 = B_Mo_step_23 := (congrArg (fun l => (l.lookup 23).getD []) lbq_260).trans rfl
theorem mL_Mo_step : mL 260 = 3 := by decide +kernel
theorem L_Mo_steps_0 : lab 261 0 = B_Mo_steps_0 := (congrArg (fun l => (l.lookup 0).getD []) lbq_261).trans rfl
theorem L_Mo_steps_17 : lab 261 17 = B_Mo_steps_17 := (congrArg (fun l => (l.lookup 17).getD []) lbq_261).trans rfl
theorem mL_Mo_steps : mL 261 = 2 := by decide +kernel
theorem L_Mo_swapRefusal_0 : lab 262 0 = B_Mo_swapRefusal_0 := (congrArg (fun l => (l.lookup 0).getD []) lbq_262).trans rfl
theorem L_Mo_swapRefusal_8 : lab 262 8 = B_Mo_swapRefusal_8 := (congrArg (fun l => (l.lookup 8).getD []) lbq_262).trans rfl
theorem L_Mo_swapRefusal_27 : lab 262 27 = B_Mo_swapRefusal_27 := (congrArg (fun l => (l.lookup 27).getD []) lbq_262).trans rfl
theorem L_Mo_swapRefusal_40 : lab 262 40 = B_Mo_swapRefusal_40 := (congrArg (fun l => (l.lookup 40).getD []) lbq_262).trans rfl
theorem L_Mo_swapRefusal_41 : lab 262 41 = B_Mo_swapRefusal_41 := (congrArg (fun l => (l.lookup 41).getD []) lbq_262).trans rfl
theorem mL_Mo_swapRefusal : mL 262 = 3 := by decide +kernel
theorem L_Mo_swap_0 : lab 263 0 = B_Mo_swap_0 := (congrArg (fun l => (l.lookup 0).getD []) lbq_263).trans rfl
theorem L_Mo_swap_21 : lab 263 21 = B_Mo_swap_21 := (congrArg (fun l => (l.lookup 21).getD []) lbq_263).trans rfl
theorem L_Mo_swap_22 : lab 263 22 = B_Mo_swap_22 := (congrArg (fun l => (l.lookup 22).getD []) lbq_263).trans rfl
theorem L_Mo_swap_30 : lab 263 30 = B_Mo_swap_30 := (congrArg (fun l => (l.lookup 30).getD []) lbq_263).trans rfl
theorem L_Mo_swap_43 : lab 263 43 = B_Mo_swap_43 := (congrArg (fun l => (l.lookup 43).getD []) lbq_263).trans rfl
theorem L_Mo_swap_70 : lab 263 70 = B_Mo_swap_70 := (congrArg (fun l => (l.lookup 70).getD []) lbq_263).trans rfl
theorem mL_Mo_swap : mL 263 = 4 := by decide +kernel
theorem L_Mo_back_0 : lab 264 0 = B_Mo_back_0 := (congrArg (fun l => (l.lookup 0).getD []) lbq_264).trans rfl
theorem L_Mo_back_20 : lab 264 20 = B_Mo_back_20 := (congrArg (fun l => (l.lookup 20).getD []) lbq_264).trans rfl
theorem mL_Mo_back : mL 264 = 2 := by decide +kernel
theorem L_Mo_reset_0 : lab 265 0 = B_Mo_reset_0 := (congrArg (fun l => (l.lookup 0).getD []) lbq_265).trans rfl
theorem mL_Mo_reset : mL 265 = 2 := by decide +kernel
theorem L_Mo_replace_0 : lab 266 0 = B_Mo_replace_0 := (congrArg (fun l => (l.lookup 0).getD []) lbq_266).trans rfl
theorem mL_Mo_replace : mL 266 = 4 := by decide +kernel
theorem L_Mo_setMode_0 : lab 267 0 = B_Mo_setMode_0 := (congrArg (fun l => (l.lookup 0).getD []) lbq_267).trans rfl
theorem L_Mo_setMode_15 : lab 267 15 = B_Mo_setMode_15 := (congrArg (fun l => (l.lookup 15).getD []) lbq_267).trans rfl
theorem L_Mo_setMode_21 : lab 267 21 = B_Mo_setMode_21 := (congrArg (fun l => (l.lookup 21).getD []) lbq_267).trans rfl
theorem mL_Mo_setMode : mL 267 = 2 := by decide +kernel
theorem L_Mo_setWeight_0 : lab 268 0 = B_Mo_setWeight_0 := (congrArg (fun l => (l.lookup 0).getD []) lbq_268).trans rfl
theorem L_Mo_setWeight_14 : lab 268 14 = B_Mo_setWeight_14 := (congrArg (fun l => (l.lookup 14).getD []) lbq_268).trans rfl
theorem L_Mo_setWeight_36 : lab 268 36 = B_Mo_setWeight_36 := (congrArg (fun l => (l.lookup 36).getD []) lbq_268).trans rfl
theorem L_Mo_setWeight_41 : lab 268 41 = B_Mo_setWeight_41 := (congrArg (fun l => (l.lookup 41).getD []) lbq_268).trans rfl
theorem mL_Mo_setWeight : mL 268 = 3 := by decide +kernel
theorem L_Mo_dropRule_0 : lab 269 0 = B_Mo_dropRule_0 := (congrArg (fun l => (l.lookup 0).getD []) lbq_269).trans rfl
theorem L_Mo_dropRule_14 : lab 269 14 = B_Mo_dropRule_14 := (congrArg (fun l => (l.lookup 14).getD []) lbq_269).trans rfl
theorem L_Mo_dropRule_39 : lab 269 39 = B_Mo_dropRule_39 := (congrArg (fun l => (l.lookup 39).getD []) lbq_269).trans rfl
theorem L_Mo_dropRule_80 : lab 269 80 = B_Mo_dropRule_80 := (congrArg (fun l => (l.lookup 80).getD []) lbq_269).trans rfl
theorem mL_Mo_dropRule : mL 269 = 3 := by decide +kernel
theorem L_Mo_switchRule_0 : lab 270 0 = B_Mo_switchRule_0 := (congrArg (fun l => (l.lookup 0).getD []) lbq_270).trans rfl
theorem L_Mo_switchRule_14 : lab 270 14 = B_Mo_switchRule_14 := (congrArg (fun l => (l.lookup 14).getD []) lbq_270).trans rfl
theorem mL_Mo_switchRule : mL 270 = 2 := by decide +kernel
theorem L_Mo_strike_0 : lab 271 0 = B_Mo_strike_0 := (congrArg (fun l => (l.lookup 0).getD []) lbq_271).trans rfl
theorem L_Mo_strike_14 : lab 271 14 = B_Mo_strike_14 := (congrArg (fun l => (l.lookup 14).getD []) lbq_271).trans rfl
theorem L_Mo_strike_27 : lab 271 27 = B_Mo_strike_27 := (congrArg (fun l => (l.lookup 27).getD []) lbq_271).trans rfl
theorem L_Mo_strike_28 : lab 271 28 = B_Mo_strike_28 := (congrArg (fun l => (l.lookup 28).getD []) lbq_271).trans rfl
theorem L_Mo_strike_39 : lab 271 39 = B_Mo_strike_39 := (congrArg (fun l => (l.lookup 39).getD []) lbq_271).trans rfl
theorem L_Mo_strike_40 : lab 271 40 = B_Mo_strike_40 := (congrArg (fun l => (l.lookup 40).getD []) lbq_271).trans rfl
theorem L_Mo_strike_48 : lab 271 48 = B_Mo_strike_48 := (congrArg (fun l => (l.lookup 48).getD []) lbq_271).trans rfl
theorem L_Mo_strike_49 : lab 271 49 = B_Mo_strike_49 := (congrArg (fun l => (l.lookup 49).getD []) lbq_271).trans rfl
theorem mL_Mo_strike : mL 271 = 3 := by decide +kernel
theorem L_Mo_write_0 : lab 272 0 = B_Mo_write_0 := (congrArg (fun l => (l.lookup 0).getD []) lbq_272).trans rfl
theorem mL_Mo_write : mL 272 = 2 := by decide +kernel
theorem L_Mo_format_0 : lab 273 0 = B_Mo_format_0 := (congrArg (fun l => (l.lookup 0).getD []) lbq_273).trans rfl
theorem L_Mo_format_14 : lab 273 14 = B_Mo_format_14 := (congrArg (fun l => (l.lookup 14).getD []) lbq_273).trans rfl
theorem L_Mo_format_21 : lab 273 21 = B_Mo_format_21 := (congrArg (fun l => (l.lookup 21).getD []) lbq_273).trans rfl
theorem L_Mo_format_47 : lab 273 47 = B_Mo_format_47 := (congrArg (fun l => (l.lookup 47).getD []) lbq_273).trans rfl
theorem L_Mo_format_60 : lab 273 60 = B_Mo_format_60 := (congrArg (fun l => (l.lookup 60).getD []) lbq_273).trans rfl
theorem L_Mo_format_62 : lab 273 62 = B_Mo_format_62 := (congrArg (fun l => (l.lookup 62).getD []) lbq_273).trans rfl
theorem L_Mo_format_92 : lab 273 92 = B_Mo_format_92 := (congrArg (fun l => (l.lookup 92).getD []) lbq_273).trans rfl
theorem L_Mo_format_98 : lab 273 98 = B_Mo_format_98 := (congrArg (fun l => (l.lookup 98).getD []) lbq_273).trans rfl
theorem L_Mo_format_119 : lab 273 119 = B_Mo_format_119 := (congrArg (fun l => (l.lookup 119).getD []) lbq_273).trans rfl
theorem L_Mo_format_133 : lab 273 133 = B_Mo_format_133 := (congrArg (fun l => (l.lookup 133).getD []) lbq_273).trans rfl
theorem L_Mo_format_148 : lab 273 148 = B_Mo_format_148 := (congrArg (fun l => (l.lookup 148).getD []) lbq_273).trans rfl
theorem mL_Mo_format : mL 273 = 4 := by decide +kernel
theorem L_Mo_formattedByte_0 : lab 274 0 = B_Mo_formattedByte_0 := (congrArg (fun l => (l.lookup 0).getD []) lbq_274).trans rfl
theorem L_Mo_formattedByte_28 : lab 274 28 = B_Mo_formattedByte_28 := (congrArg (fun l => (l.lookup 28).getD []) lbq_274).trans rfl
theorem L_Mo_formattedByte_29 : lab 274 29 = B_Mo_formattedByte_29 := (congrArg (fun l => (l.lookup 29).getD []) lbq_274).trans rfl
theorem mL_Mo_formattedByte : mL 274 = 2 := by decide +kernel
theorem L_Mo_copy_0 : lab 275 0 = B_Mo_copy_0 := (congrArg (fun l => (l.lookup 0).getD []) lbq_275).trans rfl
theorem mL_Mo_copy : mL 275 = 4 := by decide +kernel
theorem L_Mo_record_0 : lab 276 0 = B_Mo_record_0 := (congrArg (fun l => (l.lookup 0).getD []) lbq_276).trans rfl
theorem L_Mo_record_11 : lab 276 11 = B_Mo_record_11 := (congrArg (fun l => (l.lookup 11).getD []) lbq_276).trans rfl
theorem L_Mo_record_38 : lab 276 38 = B_Mo_record_38 := (congrArg (fun l => (l.lookup 38).getD []) lbq_276).trans rfl
theorem L_Mo_record_48 : lab 276 48 = B_Mo_record_48 := (congrArg (fun l => (l.lookup 48).getD []) lbq_276).trans rfl
theorem mL_Mo_record : mL 276 = 2 := by decide +kernel
theorem L_Mo_undoCount_0 : lab 277 0 = B_Mo_undoCount_0 := (congrArg (fun l => (l.lookup 0).getD []) lbq_277).trans rfl
theorem mL_Mo_undoCount : mL 277 = 1 := by decide +kernel
theorem L_Mo_undo_0 : lab 278 0 = B_Mo_undo_0 := (congrArg (fun l => (l.lookup 0).getD []) lbq_278).trans rfl
theorem L_Mo_undo_14 : lab 278 14 = B_Mo_undo_14 := (congrArg (fun l => (l.lookup 14).getD []) lbq_278).trans rfl
theorem mL_Mo_undo : mL 278 = 1 := by decide +kernel
theorem L_Mo_saveSnapshot_0 : lab 279 0 = B_Mo_saveSnapshot_0 := (congrArg (fun l => (l.lookup 0).getD []) lbq_279).trans rfl
theorem mL_Mo_saveSnapshot : mL 279 = 1 := by decide +kernel
theorem L_Mo_restoreSnapshot_0 : lab 280 0 = B_Mo_restoreSnapshot_0 := (congrArg (fun l => (l.lookup 0).getD []) lbq_280).trans rfl
theorem L_Mo_restoreSnapshot_14 : lab 280 14 = B_Mo_restoreSnapshot_14 := (congrArg (fun l => (l.lookup 14).getD []) lbq_280).trans rfl
theorem mL_Mo_restoreSnapshot : mL 280 = 1 := by decide +kernel
theorem L_Mo_feed_0 : lab 281 0 = B_Mo_feed_0 := (congrArg (fun l => (l.lookup 0).getD []) lbq_281).trans rfl
theorem L_Mo_feed_20 : lab 281 20 = B_Mo_feed_20 := (congrArg (fun l => (l.lookup 20).getD []) lbq_281).trans rfl
theorem L_Mo_feed_23 : lab 281 23 = B_Mo_feed_23 := (congrArg (fun l => (l.lookup 23).getD []) lbq_281).trans rfl
theorem L_Mo_feed_40 : lab 281 40 = B_Mo_feed_40 := (congrArg (fun l => (l.lookup 40).getD []) lbq_281).trans rfl
theorem L_Mo_feed_51 : lab 281 51 = B_Mo_feed_51 := (congrArg (fun l => (l.lookup 51).getD []) lbq_281).trans rfl
theorem L_Mo_feed_62 : lab 281 62 = B_Mo_feed_62 := (congrArg (fun l => (l.lookup 62).getD []) lbq_281).trans rfl
theorem L_Mo_feed_74 : lab 281 74 = B_Mo_feed_74 := (congrArg (fun l => (l.lookup 74).getD []) lbq_281).trans rfl
theorem L_Mo_feed_76 : lab 281 76 = B_Mo_feed_76 := (congrArg (fun l => (l.lookup 76).getD []) lbq_281).trans rfl
theorem L_Mo_feed_120 : lab 281 120 = B_Mo_feed_120 := (congrArg (fun l => (l.lookup 120).getD []) lbq_281).trans rfl
theorem mL_Mo_feed : mL 281 = 8 := by decide +kernel
theorem L_Mo_errorPosition_0 : lab 282 0 = B_Mo_errorPosition_0 := (congrArg (fun l => (l.lookup 0).getD []) lbq_282).trans rfl
theorem mL_Mo_errorPosition : mL 282 = 1 := by decide +kernel
theorem L_Mo_byteAt_0 : lab 283 0 = B_Mo_byteAt_0 := (congrArg (fun l => (l.lookup 0).getD []) lbq_283).trans rfl
theorem L_Mo_byteAt_17 : lab 283 17 = B_Mo_byteAt_17 := (congrArg (fun l => (l.lookup 17).getD []) lbq_283).trans rfl
theorem L_Mo_byteAt_18 : lab 283 18 = B_Mo_byteAt_18 := (congrArg (fun l => (l.lookup 18).getD []) lbq_283).trans rfl
theorem mL_Mo_byteAt : mL 283 = 2 := by decide +kernel
theorem L_Mo_isLetter_0 : lab 284 0 = B_Mo_isLetter_0 := (congrArg (fun l => (l.lookup 0).getD []) lbq_284).trans rfl
theorem L_Mo_isLetter_24 : lab 284 24 = B_Mo_isLetter_24 := (congrArg (fun l => (l.lookup 24).getD []) lbq_284).trans rfl
theorem L_Mo_isLetter_25 : lab 284 25 = B_Mo_isLetter_25 := (congrArg (fun l => (l.lookup 25).getD []) lbq_284).trans rfl
theorem mL_Mo_isLetter : mL 284 = 2 := by decide +kernel
theorem L_Mo_isDigit_0 : lab 285 0 = B_Mo_isDigit_0 := (congrArg (fun l => (l.lookup 0).getD []) lbq_285).trans rfl
theorem L_Mo_isDigit_24 : lab 285 24 = B_Mo_isDigit_24 := (congrArg (fun l => (l.lookup 24).getD []) lbq_285).trans rfl
theorem L_Mo_isDigit_25 : lab 285 25 = B_Mo_isDigit_25 := (congrArg (fun l => (l.lookup 25).getD []) lbq_285).trans rfl
theorem mL_Mo_isDigit : mL 285 = 2 := by decide +kernel
theorem L_Mo_scan_0 : lab 286 0 = B_Mo_scan_0 := (congrArg (fun l => (l.lookup 0).getD []) lbq_286).trans rfl
theorem L_Mo_scan_10 : lab 286 10 = B_Mo_scan_10 := (congrArg (fun l => (l.lookup 10).getD []) lbq_286).trans rfl
theorem L_Mo_scan_36 : lab 286 36 = B_Mo_scan_36 := (congrArg (fun l => (l.lookup 36).getD []) lbq_286).trans rfl
theorem L_Mo_scan_49 : lab 286 49 = B_Mo_scan_49 := (congrArg (fun l => (l.lookup 49).getD []) lbq_286).trans rfl
theorem L_Mo_scan_76 : lab 286 76 = B_Mo_scan_76 := (congrArg (fun l => (l.lookup 76).getD []) lbq_286).trans rfl
theorem L_Mo_scan_87 : lab 286 87 = B_Mo_scan_87 := (congrArg (fun l => (l.lookup 87).getD []) lbq_286).trans rfl
theorem L_Mo_scan_111 : lab 286 111 = B_Mo_scan_111 := (congrArg (fun l => (l.lookup 111).getD []) lbq_286).trans rfl
theorem L_Mo_scan_119 : lab 286 119 = B_Mo_scan_119 := (congrArg (fun l => (l.lookup 119).getD []) lbq_286).trans rfl
theorem L_Mo_scan_130 : lab 286 130 = B_Mo_scan_130 := (congrArg (fun l => (l.lookup 130).getD []) lbq_286).trans rfl
theorem L_Mo_scan_154 : lab 286 154 = B_Mo_scan_154 := (congrArg (fun l => (l.lookup 154).getD []) lbq_286).trans rfl
theorem L_Mo_scan_162 : lab 286 162 = B_Mo_scan_162 := (congrArg (fun l => (l.lookup 162).getD []) lbq_286).trans rfl
theorem L_Mo_scan_177 : lab 286 177 = B_Mo_scan_177 := (congrArg (fun l => (l.lookup 177).getD []) lbq_286).trans rfl
theorem mL_Mo_scan : mL 286 = 1 := by decide +kernel
theorem L_Mo_startText_0 : lab 287 0 = B_Mo_startText_0 := (congrArg (fun l => (l.lookup 0).getD []) lbq_287).trans rfl
theorem mL_Mo_startText : mL 287 = 2 := by decide +kernel
theorem L_Mo_finish_0 : lab 288 0 = B_Mo_finish_0 := (congrArg (fun l => (l.lookup 0).getD []) lbq_288).trans rfl
theorem L_Mo_finish_17 : lab 288 17 = B_Mo_finish_17 := (congrArg (fun l => (l.lookup 17).getD []) lbq_288).trans rfl
theorem L_Mo_finish_21 : lab 288 21 = B_Mo_finish_21 := (congrArg (fun l => (l.lookup 21).getD []) lbq_288).trans rfl
theorem mL_Mo_finish : mL 288 = 1 := by decide +kernel
theorem L_Mo_check_0 : lab 289 0 = B_Mo_check_0 := (congrArg (fun l => (l.lookup 0).getD []) lbq_289).trans rfl
theorem L_Mo_check_24 : lab 289 24 = B_Mo_check_24 := (congrArg (fun l => (l.lookup 24).getD []) lbq_289).trans rfl
theorem mL_Mo_check : mL 289 = 3 := by decide +kernel
theorem L_Mo_advance_0 : lab 290 0 = B_Mo_advance_0 := (congrArg (fun l => (l.lookup 0).getD []) lbq_290).trans rfl
theorem L_Mo_advance_11 : lab 290 11 = B_Mo_advance_11 := (congrArg (fun l => (l.lookup 11).getD []) lbq_290).trans rfl
theorem mL_Mo_advance : mL 290 = 1 := by decide +kernel
theorem L_Mo_isSymbol_0 : lab 291 0 = B_Mo_isSymbol_0 := (congrArg (fun l => (l.lookup 0).getD []) lbq_291).trans rfl
theorem L_Mo_isSymbol_32 : lab 291 32 = B_Mo_isSymbol_32 := (congrArg (fun l => (l.lookup 32).getD []) lbq_291).trans rfl
theorem L_Mo_isSymbol_33 : lab 291 33 = B_Mo_isSymbol_33 := (congrArg (fun l => (l.lookup 33).getD []) lbq_291).trans rfl
theorem mL_Mo_isSymbol : mL 291 = 2 := by decide +kernel
theorem L_Mo_isWord_0 : lab 292 0 = B_Mo_isWord_0 := (congrArg (fun l => (l.lookup 0).getD []) lbq_292).trans rfl
theorem L_Mo_isWord_35 : lab 292 35 = B_Mo_isWord_35 := (congrArg (fun l => (l.lookup 35).getD []) lbq_292).trans rfl
theorem L_Mo_isWord_36 : lab 292 36 = B_Mo_isWord_36 := (congrArg (fun l => (l.lookup 36).getD []) lbq_292).trans rfl
theorem L_Mo_isWord_39 : lab 292 39 = B_Mo_isWord_39 := (congrArg (fun l => (l.lookup 39).getD []) lbq_292).trans rfl
theorem L_Mo_isWord_74 : lab 292 74 = B_Mo_isWord_74 := (congrArg (fun l => (l.lookup 74).getD []) lbq_292).trans rfl
theorem L_Mo_isWord_75 : lab 292 75 = B_Mo_isWord_75 := (congrArg (fun l => (l.lookup 75).getD []) lbq_292).trans rfl
theorem L_Mo_isWord_82 : lab 292 82 = B_Mo_isWord_82 := (congrArg (fun l => (l.lookup 82).getD []) lbq_292).trans rfl
theorem mL_Mo_isWord : mL 292 = 4 := by decide +kernel
theorem L_Mo_accept_0 : lab 293 0 = B_Mo_accept_0 := (congrArg (fun l => (l.lookup 0).getD []) lbq_293).trans rfl
theorem L_Mo_accept_14 : lab 293 14 = B_Mo_accept_14 := (congrArg (fun l => (l.lookup 14).getD []) lbq_293).trans rfl
theorem mL_Mo_accept : mL 293 = 3 := by decide +kernel
theorem L_Mo_expect_0 : lab 294 0 = B_Mo_expect_0 := (congrArg (fun l => (l.lookup 0).getD []) lbq_294).trans rfl
theorem mL_Mo_expect : mL 294 = 2 := by decide +kernel
theorem L_Mo_value_0 : lab 295 0 = B_Mo_value_0 := (congrArg (fun l => (l.lookup 0).getD []) lbq_295).trans rfl
theorem L_Mo_value_7 : lab 295 7 = B_Mo_value_7 := (congrArg (fun l => (l.lookup 7).getD []) lbq_295).trans rfl
theorem L_Mo_value_34 : lab 295 34 = B_Mo_value_34 := (congrArg (fun l => (l.lookup 34).getD []) lbq_295).trans rfl
theorem L_Mo_value_48 : lab 295 48 = B_Mo_value_48 := (congrArg (fun l => (l.lookup 48).getD []) lbq_295).trans rfl
theorem L_Mo_value_55 : lab 295 55 = B_Mo_value_55 := (congrArg (fun l => (l.lookup 55).getD []) lbq_295).trans rfl
theorem mL_Mo_value : mL 295 = 3 := by decide +kernel
theorem L_Mo_look_0 : lab 296 0 = B_Mo_look_0 := (congrArg (fun l => (l.lookup 0).getD []) lbq_296).trans rfl
theorem L_Mo_look_13 : lab 296 13 = B_Mo_look_13 := (congrArg (fun l => (l.lookup 13).getD []) lbq_296).trans rfl
theorem L_Mo_look_14 : lab 296 14 = B_Mo_look_14 := (congrArg (fun l => (l.lookup 14).getD []) lbq_296).trans rfl
theorem L_Mo_look_45 : lab 296 45 = B_Mo_look_45 := (congrArg (fun l => (l.lookup 45).getD []) lbq_296).trans rfl
theorem L_Mo_look_46 : lab 296 46 = B_Mo_look_46 := (congrArg (fun l => (l.lookup 46).getD []) lbq_296).trans rfl
theorem mL_Mo_look : mL 296 = 4 := by decide +kernel
theorem L_Mo_readNumber_0 : lab 297 0 = B_Mo_readNumber_0 := (congrArg (fun l => (l.lookup 0).getD []) lbq_297).trans rfl
theorem mL_Mo_readNumber : mL 297 = 4 := by decide +kernel
theorem L_Mo_isQuoted_0 : lab 298 0 = B_Mo_isQuoted_0 := (congrArg (fun l => (l.lookup 0).getD []) lbq_298).trans rfl
theorem L_Mo_isQuoted_2 : lab 298 2 = B_Mo_isQuoted_2 := (congrArg (fun l => (l.lookup 2).getD []) lbq_298).trans rfl
theorem L_Mo_isQuoted_26 : lab 298 26 = B_Mo_isQuoted_26 := (congrArg (fun l => (l.lookup 26).getD []) lbq_298).trans rfl
theorem L_Mo_isQuoted_32 : lab 298 32 = B_Mo_isQuoted_32 := (congrArg (fun l => (l.lookup 32).getD []) lbq_298).trans rfl
theorem mL_Mo_isQuoted : mL 298 = 2 := by decide +kernel
theorem L_Mo_isNamed_0 : lab 299 0 = B_Mo_isNamed_0 := (congrArg (fun l => (l.lookup 0).getD []) lbq_299).trans rfl
theorem L_Mo_isNamed_21 : lab 299 21 = B_Mo_isNamed_21 := (congrArg (fun l => (l.lookup 21).getD []) lbq_299).trans rfl
theorem L_Mo_isNamed_22 : lab 299 22 = B_Mo_isNamed_22 := (congrArg (fun l => (l.lookup 22).getD []) lbq_299).trans rfl
theorem L_Mo_isNamed_25 : lab 299 25 = B_Mo_isNamed_25 := (congrArg (fun l => (l.lookup 25).getD []) lbq_299).trans rfl
theorem L_Mo_isNamed_67 : lab 299 67 = B_Mo_isNamed_67 := (congrArg (fun l => (l.lookup 67).getD []) lbq_299).trans rfl
theorem L_Mo_isNamed_68 : lab 299 68 = B_Mo_isNamed_68 := (congrArg (fun l => (l.lookup 68).getD []) lbq_299).trans rfl
theorem L_Mo_isNamed_75 : lab 299 75 = B_Mo_isNamed_75 := (congrArg (fun l => (l.lookup 75).getD []) lbq_299).trans rfl
theorem mL_Mo_isNamed : mL 299 = 4 := by decide +kernel
theorem L_Mo_named_0 : lab 300 0 = B_Mo_named_0 := (congrArg (fun l => (l.lookup 0).getD []) lbq_300).trans rfl
theorem L_Mo_named_2 : lab 300 2 = B_Mo_named_2 := (congrArg (fun l => (l.lookup 2).getD []) lbq_300).trans rfl
theorem L_Mo_named_37 : lab 300 37 = B_Mo_named_37 := (congrArg (fun l => (l.lookup 37).getD []) lbq_300).trans rfl
theorem L_Mo_named_43 : lab 300 43 = B_Mo_named_43 := (congrArg (fun l => (l.lookup 43).getD []) lbq_300).trans rfl
theorem mL_Mo_named : mL 300 = 2 := by decide +kernel
theorem L_Mo_lookName_0 : lab 301 0 = B_Mo_lookName_0 := (congrArg (fun l => (l.lookup 0).getD []) lbq_301).trans rfl
theorem L_Mo_lookName_16 : lab 301 16 = B_Mo_lookName_16 := (congrArg (fun l => (l.lookup 16).getD []) lbq_301).trans rfl
theorem L_Mo_lookName_20 : lab 301 20 = B_Mo_lookName_20 := (congrArg (fun l => (l.lookup 20).getD []) lbq_301).trans rfl
theorem L_Mo_lookName_21 : lab 301 21 = B_Mo_lookName_21 := (congrArg (fun l => (l.lookup 21).getD []) lbq_301).trans rfl
theorem L_Mo_lookName_43 : lab 301 43 = B_Mo_lookName_43 := (congrArg (fun l => (l.lookup 43).getD []) lbq_301).trans rfl
theorem L_Mo_lookName_47 : lab 301 47 = B_Mo_lookName_47 := (congrArg (fun l => (l.lookup 47).getD []) lbq_301).trans rfl
theorem L_Mo_lookName_48 : lab 301 48 = B_Mo_lookName_48 := (congrArg (fun l => (l.lookup 48).getD []) lbq_301).trans rfl
theorem mL_Mo_lookName : mL 301 = 2 := by decide +kernel
theorem L_Mo_emit_0 : lab 302 0 = B_Mo_emit_0 := (congrArg (fun l => (l.lookup 0).getD []) lbq_302).trans rfl
theorem L_Mo_emit_27 : lab 302 27 = B_Mo_emit_27 := (congrArg (fun l => (l.lookup 27).getD []) lbq_302).trans rfl
theorem mL_Mo_emit : mL 302 = 2 := by decide +kernel
theorem L_Mo_enter_0 : lab 303 0 = B_Mo_enter_0 := (congrArg (fun l => (l.lookup 0).getD []) lbq_303).trans rfl
theorem L_Mo_enter_14 : lab 303 14 = B_Mo_enter_14 := (congrArg (fun l => (l.lookup 14).getD []) lbq_303).trans rfl
theorem L_Mo_enter_15 : lab 303 15 = B_Mo_enter_15 := (congrArg (fun l => (l.lookup 15).getD []) lbq_303).trans rfl
theorem mL_Mo_enter : mL 303 = 1 := by decide +kernel
theorem L_Mo_readList_0 : lab 304 0 = B_Mo_readList_0 := (congrArg (fun l => (l.lookup 0).getD []) lbq_304).trans rfl
theorem L_Mo_readList_8 : lab 304 8 = B_Mo_readList_8 := (congrArg (fun l => (l.lookup 8).getD []) lbq_304).trans rfl
theorem L_Mo_readList_27 : lab 304 27 = B_Mo_readList_27 := (congrArg (fun l => (l.lookup 27).getD []) lbq_304).trans rfl
theorem L_Mo_readList_28 : lab 304 28 = B_Mo_readList_28 := (congrArg (fun l => (l.lookup 28).getD []) lbq_304).trans rfl
theorem L_Mo_readList_50 : lab 304 50 = B_Mo_readList_50 := (congrArg (fun l => (l.lookup 50).getD []) lbq_304).trans rfl
theorem mL_Mo_readList : mL 304 = 3 := by decide +kernel
theorem L_Mo_compileCount_0 : lab 305 0 = B_Mo_compileCount_0 := (congrArg (fun l => (l.lookup 0).getD []) lbq_305).trans rfl
theorem mL_Mo_compileCount : mL 305 = 4 := by decide +kernel
theorem L_Mo_compileList_0 : lab 306 0 = B_Mo_compileList_0 := (congrArg (fun l => (l.lookup 0).getD []) lbq_306).trans rfl
theorem mL_Mo_compileList : mL 306 = 2 := by decide +kernel
theorem L_Mo_compileComparison_0 : lab 307 0 = B_Mo_compileComparison_0 := (congrArg (fun l => (l.lookup 0).getD []) lbq_307).trans rfl
theorem L_Mo_compileComparison_17 : lab 307 17 = B_Mo_compileComparison_17 := (congrArg (fun l => (l.lookup 17).getD []) lbq_307).trans rfl
theorem L_Mo_compileComparison_31 : lab 307 31 = B_Mo_compileComparison_31 := (congrArg (fun l => (l.lookup 31).getD []) lbq_307).trans rfl
theorem L_Mo_compileComparison_33 : lab 307 33 = B_Mo_compileComparison_33 := (congrArg (fun l => (l.lookup 33).getD []) lbq_307).trans rfl
theorem L_Mo_compileComparison_50 : lab 307 50 = B_Mo_compileComparison_50 := (congrArg (fun l => (l.lookup 50).getD []) lbq_307).trans rfl
theorem L_Mo_compileComparison_54 : lab 307 54 = B_Mo_compileComparison_54 := (congrArg (fun l => (l.lookup 54).getD []) lbq_307).trans rfl
theorem L_Mo_compileComparison_55 : lab 307 55 = B_Mo_compileComparison_55 := (congrArg (fun l => (l.lookup 55).getD []) lbq_307).trans rfl
theorem mL_Mo_compileComparison : mL 307 = 3 := by decide +kernel
theorem L_Mo_compileName_0 : lab 308 0 = B_Mo_compileName_0 := (congrArg (fun l => (l.lookup 0).getD []) lbq_308).trans rfl
theorem L_Mo_compileName_23 : lab 308 23 = B_Mo_compileName_23 := (congrArg (fun l => (l.lookup 23).getD []) lbq_308).trans rfl
theorem L_Mo_compileName_27 : lab 308 27 = B_Mo_compileName_27 := (congrArg (fun l => (l.lookup 27).getD []) lbq_308).trans rfl
theorem L_Mo_compileName_28 : lab 308 28 = B_Mo_compileName_28 := (congrArg (fun l => (l.lookup 28).getD []) lbq_308).trans rfl
theorem L_Mo_compileName_56 : lab 308 56 = B_Mo_compileName_56 := (congrArg (fun l => (l.lookup 56).getD []) lbq_308).trans rfl
theorem L_Mo_compileName_57 : lab 308 57 = B_Mo_compileName_57 := (congrArg (fun l => (l.lookup 57).getD []) lbq_308).trans rfl
theorem mL_Mo_compileName : mL 308 = 2 := by decide +kernel
theorem L_Mo_compileFactor_0 : lab 309 0 = B_Mo_compileFactor_0 := (congrArg (fun l => (l.lookup 0).getD []) lbq_309).trans rfl
theorem L_Mo_compileFactor_8 : lab 309 8 = B_Mo_compileFactor_8 := (congrArg (fun l => (l.lookup 8).getD []) lbq_309).trans rfl
theorem L_Mo_compileFactor_43 : lab 309 43 = B_Mo_compileFactor_43 := (congrArg (fun l => (l.lookup 43).getD []) lbq_309).trans rfl
theorem L_Mo_compileFactor_79 : lab 309 79 = B_Mo_compileFactor_79 := (congrArg (fun l => (l.lookup 79).getD []) lbq_309).trans rfl
theorem L_Mo_compileFactor_83 : lab 309 83 = B_Mo_compileFactor_83 := (congrArg (fun l => (l.lookup 83).getD []) lbq_309).trans rfl
theorem mL_Mo_compileFactor : mL 309 = 1 := by decide +kernel
theorem L_Mo_compileSimple_0 : lab 310 0 = B_Mo_compileSimple_0 := (congrArg (fun l => (l.lookup 0).getD []) lbq_310).trans rfl
theorem L_Mo_compileSimple_17 : lab 310 17 = B_Mo_compileSimple_17 := (congrArg (fun l => (l.lookup 17).getD []) lbq_310).trans rfl
theorem L_Mo_compileSimple_34 : lab 310 34 = B_Mo_compileSimple_34 := (congrArg (fun l => (l.lookup 34).getD []) lbq_310).trans rfl
theorem L_Mo_compileSimple_51 : lab 310 51 = B_Mo_compileSimple_51 := (congrArg (fun l => (l.lookup 51).getD []) lbq_310).trans rfl
theorem L_Mo_compileSimple_68 : lab 310 68 = B_Mo_compileSimple_68 := (congrArg (fun l => (l.lookup 68).getD []) lbq_310).trans rfl
theorem L_Mo_compileSimple_85 : lab 310 85 = B_Mo_compileSimple_85 := (congrArg (fun l => (l.lookup 85).getD []) lbq_310).trans rfl
theorem L_Mo_compileSimple_102 : lab 310 102 = B_Mo_compileSimple_102 := (congrArg (fun l => (l.lookup 102).getD []) lbq_310).trans rfl
theorem L_Mo_compileSimple_119 : lab 310 119 = B_Mo_compileSimple_119 := (congrArg (fun l => (l.lookup 119).getD []) lbq_310).trans rfl
theorem L_Mo_compileSimple_123 : lab 310 123 = B_Mo_compileSimple_123 := (congrArg (fun l => (l.lookup 123).getD []) lbq_310).trans rfl
theorem mL_Mo_compileSimple : mL 310 = 1 := by decide +kernel
theorem L_Mo_compileConjunction_0 : lab 311 0 = B_Mo_compileConjunction_0 := (congrArg (fun l => (l.lookup 0).getD []) lbq_311).trans rfl
theorem L_Mo_compileConjunction_4 : lab 311 4 = B_Mo_compileConjunction_4 := (congrArg (fun l => (l.lookup 4).getD []) lbq_311).trans rfl
theorem L_Mo_compileConjunction_26 : lab 311 26 = B_Mo_compileConjunction_26 := (congrArg (fun l => (l.lookup 26).getD []) lbq_311).trans rfl
theorem mL_Mo_compileConjunction : mL 311 = 1 := by decide +kernel
theorem L_Mo_compileTest_0 : lab 312 0 = B_Mo_compileTest_0 := (congrArg (fun l => (l.lookup 0).getD []) lbq_312).trans rfl
theorem L_Mo_compileTest_4 : lab 312 4 = B_Mo_compileTest_4 := (congrArg (fun l => (l.lookup 4).getD []) lbq_312).trans rfl
theorem L_Mo_compileTest_26 : lab 312 26 = B_Mo_compileTest_26 := (congrArg (fun l => (l.lookup 26).getD []) lbq_312).trans rfl
theorem mL_Mo_compileTest : mL 312 = 1 := by decide +kernel
theorem L_Mo_many_0 : lab 313 0 = B_Mo_many_0 := (congrArg (fun l => (l.lookup 0).getD []) lbq_313).trans rfl
theorem L_Mo_many_29 : lab 313 29 = B_Mo_many_29 := (congrArg (fun l => (l.lookup 29).getD []) lbq_313).trans rfl
theorem L_Mo_many_58 : lab 313 58 = B_Mo_many_58 := (congrArg (fun l => (l.lookup 58).getD []) lbq_313).trans rfl
theorem L_Mo_many_62 : lab 313 62 = B_Mo_many_62 := (congrArg (fun l => (l.lookup 62).getD []) lbq_313).trans rfl
theorem L_Mo_many_63 : lab 313 63 = B_Mo_many_63 := (congrArg (fun l => (l.lookup 63).getD []) lbq_313).trans rfl
theorem L_Mo_many_83 : lab 313 83 = B_Mo_many_83 := (congrArg (fun l => (l.lookup 83).getD []) lbq_313).trans rfl
theorem L_Mo_many_94 : lab 313 94 = B_Mo_many_94 := (congrArg (fun l => (l.lookup 94).getD []) lbq_313).trans rfl
theorem L_Mo_many_119 : lab 313 119 = B_Mo_many_119 := (congrArg (fun l => (l.lookup 119).getD []) lbq_313).trans rfl
theorem L_Mo_many_141 : lab 313 141 = B_Mo_many_141 := (congrArg (fun l => (l.lookup 141).getD []) lbq_313).trans rfl
theorem L_Mo_many_142 : lab 313 142 = B_Mo_many_142 := (congrArg (fun l => (l.lookup 142).getD []) lbq_313).trans rfl
theorem L_Mo_many_151 : lab 313 151 = B_Mo_many_151 := (congrArg (fun l => (l.lookup 151).getD []) lbq_313).trans rfl
theorem mL_Mo_many : mL 313 = 6 := by decide +kernel
theorem L_Mo_newRule_0 : lab 314 0 = B_Mo_newRule_0 := (congrArg (fun l => (l.lookup 0).getD []) lbq_314).trans rfl
theorem L_Mo_newRule_45 : lab 314 45 = B_Mo_newRule_45 := (congrArg (fun l => (l.lookup 45).getD []) lbq_314).trans rfl
theorem L_Mo_newRule_73 : lab 314 73 = B_Mo_newRule_73 := (congrArg (fun l => (l.lookup 73).getD []) lbq_314).trans rfl
theorem mL_Mo_newRule : mL 314 = 4 := by decide +kernel
theorem L_Mo_addRule_0 : lab 315 0 = B_Mo_addRule_0 := (congrArg (fun l => (l.lookup 0).getD []) lbq_315).trans rfl
theorem L_Mo_addRule_23 : lab 315 23 = B_Mo_addRule_23 := (congrArg (fun l => (l.lookup 23).getD []) lbq_315).trans rfl
theorem L_Mo_addRule_38 : lab 315 38 = B_Mo_addRule_38 := (congrArg (fun l => (l.lookup 38).getD []) lbq_315).trans rfl
theorem L_Mo_addRule_72 : lab 315 72 = B_Mo_addRule_72 := (congrArg (fun l => (l.lookup 72).getD []) lbq_315).trans rfl
theorem L_Mo_addRule_76 : lab 315 76 = B_Mo_addRule_76 := (congrArg (fun l => (l.lookup 76).getD []) lbq_315).trans rfl
theorem L_Mo_addRule_77 : lab 315 77 = B_Mo_addRule_77 := (congrArg (fun l => (l.lookup 77).getD []) lbq_315).trans rfl
theorem L_Mo_addRule_96 : lab 315 96 = B_Mo_addRule_96 := (congrArg (fun l => (l.lookup 96).getD []) lbq_315).trans rfl
theorem mL_Mo_addRule : mL 315 = 3 := by decide +kernel
theorem L_Mo_readThing_0 : lab 316 0 = B_Mo_readThing_0 := (congrArg (fun l => (l.lookup 0).getD []) lbq_316).trans rfl
theorem L_Mo_readThing_16 : lab 316 16 = B_Mo_readThing_16 := (congrArg (fun l => (l.lookup 16).getD []) lbq_316).trans rfl
theorem L_Mo_readThing_17 : lab 316 17 = B_Mo_readThing_17 := (congrArg (fun l => (l.lookup 17).getD []) lbq_316).trans rfl
theorem L_Mo_readThing_41 : lab 316 41 = B_Mo_readThing_41 := (congrArg (fun l => (l.lookup 41).getD []) lbq_316).trans rfl
theorem L_Mo_readThing_45 : lab 316 45 = B_Mo_readThing_45 := (congrArg (fun l => (l.lookup 45).getD []) lbq_316).trans rfl
theorem L_Mo_readThing_46 : lab 316 46 = B_Mo_readThing_46 := (congrArg (fun l => (l.lookup 46).getD []) lbq_316).trans rfl
theorem L_Mo_readThing_69 : lab 316 69 = B_Mo_readThing_69 := (congrArg (fun l => (l.lookup 69).getD []) lbq_316).trans rfl
theorem L_Mo_readThing_70 : lab 316 70 = B_Mo_readThing_70 := (congrArg (fun l => (l.lookup 70).getD []) lbq_316).trans rfl
theorem L_Mo_readThing_100 : lab 316 100 = B_Mo_readThing_100 := (congrArg (fun l => (l.lookup 100).getD []) lbq_316).trans rfl
theorem L_Mo_readThing_104 : lab 316 104 = B_Mo_readThing_104 := (congrArg (fun l => (l.lookup 104).getD []) lbq_316).trans rfl
theorem L_Mo_readThing_105 : lab 316 105 = B_Mo_readThing_105 := (congrArg (fun l => (l.lookup 105).getD []) lbq_316).trans rfl
theorem L_Mo_readThing_118 : lab 316 118 = B_Mo_readThing_118 := (congrArg (fun l => (l.lookup 118).getD []) lbq_316).trans rfl
theorem L_Mo_readThing_158 : lab 316 158 = B_Mo_readThing_158 := (congrArg (fun l => (l.lookup 158).getD []) lbq_316).trans rfl
theorem L_Mo_readThing_203 : lab 316 203 = B_Mo_readThing_203 := (congrArg (fun l => (l.lookup 203).getD []) lbq_316).trans rfl
theorem mL_Mo_readThing : mL 316 = 4 := by decide +kernel
theorem L_Mo_readRule_0 : lab 317 0 = B_Mo_readRule_0 := (congrArg (fun l => (l.lookup 0).getD []) lbq_317).trans rfl
theorem L_Mo_readRule_17 : lab 317 17 = B_Mo_readRule_17 := (congrArg (fun l => (l.lookup 17).getD []) lbq_317).trans rfl
theorem L_Mo_readRule_18 : lab 317 18 = B_Mo_readRule_18 := (congrArg (fun l => (l.lookup 18).getD []) lbq_317).trans rfl
theorem L_Mo_readRule_57 : lab 317 57 = B_Mo_readRule_57 := (congrArg (fun l => (l.lookup 57).getD []) lbq_317).trans rfl
theorem mL_Mo_readRule : mL 317 = 2 := by decide +kernel
theorem L_Mo_readStrike_0 : lab 318 0 = B_Mo_readStrike_0 := (congrArg (fun l => (l.lookup 0).getD []) lbq_318).trans rfl
theorem L_Mo_readStrike_6 : lab 318 6 = B_Mo_readStrike_6 := (congrArg (fun l => (l.lookup 6).getD []) lbq_318).trans rfl
theorem L_Mo_readStrike_27 : lab 318 27 = B_Mo_readStrike_27 := (congrArg (fun l => (l.lookup 27).getD []) lbq_318).trans rfl
theorem L_Mo_readStrike_31 : lab 318 31 = B_Mo_readStrike_31 := (congrArg (fun l => (l.lookup 31).getD []) lbq_318).trans rfl
theorem L_Mo_readStrike_32 : lab 318 32 = B_Mo_readStrike_32 := (congrArg (fun l => (l.lookup 32).getD []) lbq_318).trans rfl
theorem L_Mo_readStrike_57 : lab 318 57 = B_Mo_readStrike_57 := (congrArg (fun l => (l.lookup 57).getD []) lbq_318).trans rfl
theorem L_Mo_readStrike_61 : lab 318 61 = B_Mo_readStrike_61 := (congrArg (fun l => (l.lookup 61).getD []) lbq_318).trans rfl
theorem L_Mo_readStrike_62 : lab 318 62 = B_Mo_readStrike_62 := (congrArg (fun l => (l.lookup 62).getD []) lbq_318).trans rfl
theorem L_Mo_readStrike_80 : lab 318 80 = B_Mo_readStrike_80 := (congrArg (fun l => (l.lookup 80).getD []) lbq_318).trans rfl
theorem L_Mo_readStrike_81 : lab 318 81 = B_Mo_readStrike_81 := (congrArg (fun l => (l.lookup 81).getD []) lbq_318).trans rfl
theorem L_Mo_readStrike_102 : lab 318 102 = B_Mo_readStrike_102 := (congrArg (fun l => (l.lookup 102).getD []) lbq_318).trans rfl
theorem L_Mo_readStrike_140 : lab 318 140 = B_Mo_readStrike_140 := (congrArg (fun l => (l.lookup 140).getD []) lbq_318).trans rfl
theorem L_Mo_readStrike_144 : lab 318 144 = B_Mo_readStrike_144 := (congrArg (fun l => (l.lookup 144).getD []) lbq_318).trans rfl
theorem L_Mo_readStrike_145 : lab 318 145 = B_Mo_readStrike_145 := (congrArg (fun l => (l.lookup 145).getD []) lbq_318).trans rfl
theorem L_Mo_readStrike_178 : lab 318 178 = B_Mo_readStrike_178 := (congrArg (fun l => (l.lookup 178).getD []) lbq_318).trans rfl
theorem mL_Mo_readStrike : mL 318 = 3 := by decide +kernel
theorem L_Mo_readClause_0 : lab 319 0 = B_Mo_readClause_0 := (congrArg (fun l => (l.lookup 0).getD []) lbq_319).trans rfl
theorem L_Mo_readClause_16 : lab 319 16 = B_Mo_readClause_16 := (congrArg (fun l => (l.lookup 16).getD []) lbq_319).trans rfl
theorem L_Mo_readClause_31 : lab 319 31 = B_Mo_readClause_31 := (congrArg (fun l => (l.lookup 31).getD []) lbq_319).trans rfl
theorem mL_Mo_readClause : mL 319 = 1 := by decide +kernel
theorem L_Mo_readText_0 : lab 320 0 = B_Mo_readText_0 := (congrArg (fun l => (l.lookup 0).getD []) lbq_320).trans rfl
theorem L_Mo_readText_51 : lab 320 51 = B_Mo_readText_51 := (congrArg (fun l => (l.lookup 51).getD []) lbq_320).trans rfl
theorem L_Mo_readText_52 : lab 320 52 = B_Mo_readText_52 := (congrArg (fun l => (l.lookup 52).getD []) lbq_320).trans rfl
theorem L_Mo_readText_76 : lab 320 76 = B_Mo_readText_76 := (congrArg (fun l => (l.lookup 76).getD []) lbq_320).trans rfl
theorem L_Mo_readText_80 : lab 320 80 = B_Mo_readText_80 := (congrArg (fun l => (l.lookup 80).getD []) lbq_320).trans rfl
theorem L_Mo_readText_81 : lab 320 81 = B_Mo_readText_81 := (congrArg (fun l => (l.lookup 81).getD []) lbq_320).trans rfl
theorem L_Mo_readText_85 : lab 320 85 = B_Mo_readText_85 := (congrArg (fun l => (l.lookup 85).getD []) lbq_320).trans rfl
theorem L_Mo_readText_101 : lab 320 101 = B_Mo_readText_101 := (congrArg (fun l => (l.lookup 101).getD []) lbq_320).trans rfl
theorem L_Mo_readText_134 : lab 320 134 = B_Mo_readText_134 := (congrArg (fun l => (l.lookup 134).getD []) lbq_320).trans rfl
theorem L_Mo_readText_138 : lab 320 138 = B_Mo_readText_138 := (congrArg (fun l => (l.lookup 138).getD []) lbq_320).trans rfl
theorem L_Mo_readText_139 : lab 320 139 = B_Mo_readText_139 := (congrArg (fun l => (l.lookup 139).getD []) lbq_320).trans rfl
theorem L_Mo_readText_166 : lab 320 166 = B_Mo_readText_166 := (congrArg (fun l => (l.lookup 166).getD []) lbq_320).trans rfl
theorem L_Mo_readText_170 : lab 320 170 = B_Mo_readText_170 := (congrArg (fun l => (l.lookup 170).getD []) lbq_320).trans rfl
theorem L_Mo_readText_171 : lab 320 171 = B_Mo_readText_171 := (congrArg (fun l => (l.lookup 171).getD []) lbq_320).trans rfl
theorem L_Mo_readText_184 : lab 320 184 = B_Mo_readText_184 := (congrArg (fun l => (l.lookup 184).getD []) lbq_320).trans rfl
theorem L_Mo_readText_188 : lab 320 188 = B_Mo_readText_188 := (congrArg (fun l => (l.lookup 188).getD []) lbq_320).trans rfl
theorem L_Mo_readText_209 : lab 320 209 = B_Mo_readText_209 := (congrArg (fun l => (l.lookup 209).getD []) lbq_320).trans rfl
theorem mL_Mo_readText : mL 320 = 2 := by decide +kernel
theorem L_Mo_load_0 : lab 321 0 = B_Mo_load_0 := (congrArg (fun l => (l.lookup 0).getD []) lbq_321).trans rfl
theorem L_Mo_load_23 : lab 321 23 = B_Mo_load_23 := (congrArg (fun l => (l.lookup 23).getD []) lbq_321).trans rfl
theorem L_Mo_load_91 : lab 321 91 = B_Mo_load_91 := (congrArg (fun l => (l.lookup 91).getD []) lbq_321).trans rfl
theorem L_Mo_load_118 : lab 321 118 = B_Mo_load_118 := (congrArg (fun l => (l.lookup 118).getD []) lbq_321).trans rfl
theorem L_Mo_load_128 : lab 321 128 = B_Mo_load_128 := (congrArg (fun l => (l.lookup 128).getD []) lbq_321).trans rfl
theorem L_Mo_load_146 : lab 321 146 = B_Mo_load_146 := (congrArg (fun l => (l.lookup 146).getD []) lbq_321).trans rfl
theorem L_Mo_load_153 : lab 321 153 = B_Mo_load_153 := (congrArg (fun l => (l.lookup 153).getD []) lbq_321).trans rfl
theorem mL_Mo_load : mL 321 = 3 := by decide +kernel
theorem L_TR_readUpTo_0 : lab 322 0 = B_TR_readUpTo_0 := (congrArg (fun l => (l.lookup 0).getD []) lbq_322).trans rfl
theorem L_TR_readUpTo_28 : lab 322 28 = B_TR_readUpTo_28 := (congrArg (fun l => (l.lookup 28).getD []) lbq_322).trans rfl
theorem L_TR_readUpTo_29 : lab 322 29 = B_TR_readUpTo_29 := (congrArg (fun l => (l.lookup 29).getD []) lbq_322).trans rfl
theorem mL_TR_readUpTo : mL 322 = 3 := by decide +kernel
theorem L_Lw_load_0 : lab 323 0 = B_Lw_load_0 := (congrArg (fun l => (l.lookup 0).getD []) lbq_323).trans rfl
theorem L_Lw_load_15 : lab 323 15 = B_Lw_load_15 := (congrArg (fun l => (l.lookup 15).getD []) lbq_323).trans rfl
theorem mL_Lw_load : mL 323 = 4 := by decide +kernel
theorem L_Lw_size_0 : lab 324 0 = B_Lw_size_0 := (congrArg (fun l => (l.lookup 0).getD []) lbq_324).trans rfl
theorem L_Lw_size_15 : lab 324 15 = B_Lw_size_15 := (congrArg (fun l => (l.lookup 15).getD []) lbq_324).trans rfl
theorem mL_Lw_size : mL 324 = 4 := by decide +kernel
theorem L_Lw_weight_0 : lab 325 0 = B_Lw_weight_0 := (congrArg (fun l => (l.lookup 0).getD []) lbq_325).trans rfl
theorem L_Lw_weight_15 : lab 325 15 = B_Lw_weight_15 := (congrArg (fun l => (l.lookup 15).getD []) lbq_325).trans rfl
theorem mL_Lw_weight : mL 325 = 4 := by decide +kernel
theorem L_Lw_nameByte_0 : lab 326 0 = B_Lw_nameByte_0 := (congrArg (fun l => (l.lookup 0).getD []) lbq_326).trans rfl
theorem L_Lw_nameByte_17 : lab 326 17 = B_Lw_nameByte_17 := (congrArg (fun l => (l.lookup 17).getD []) lbq_326).trans rfl
theorem mL_Lw_nameByte : mL 326 = 5 := by decide +kernel
theorem L_Lw_choice_0 : lab 327 0 = B_Lw_choice_0 := (congrArg (fun l => (l.lookup 0).getD []) lbq_327).trans rfl
theorem L_Lw_choice_21 : lab 327 21 = B_Lw_choice_21 := (congrArg (fun l => (l.lookup 21).getD []) lbq_327).trans rfl
theorem mL_Lw_choice : mL 327 = 5 := by decide +kernel
theorem L_Lw_distance_0 : lab 328 0 = B_Lw_distance_0 := (congrArg (fun l => (l.lookup 0).getD []) lbq_328).trans rfl
theorem L_Lw_distance_17 : lab 328 17 = B_Lw_distance_17 := (congrArg (fun l => (l.lookup 17).getD []) lbq_328).trans rfl
theorem mL_Lw_distance : mL 328 = 5 := by decide +kernel
theorem L_Lw_swapped_0 : lab 329 0 = B_Lw_swapped_0 := (congrArg (fun l => (l.lookup 0).getD []) lbq_329).trans rfl
theorem L_Lw_swapped_19 : lab 329 19 = B_Lw_swapped_19 := (congrArg (fun l => (l.lookup 19).getD []) lbq_329).trans rfl
theorem mL_Lw_swapped : mL 329 = 6 := by decide +kernel
theorem L_Lw_nearest_0 : lab 330 0 = B_Lw_nearest_0 := (congrArg (fun l => (l.lookup 0).getD []) lbq_330).trans rfl
theorem L_Lw_nearest_17 : lab 330 17 = B_Lw_nearest_17 := (congrArg (fun l => (l.lookup 17).getD []) lbq_330).trans rfl
theorem mL_Lw_nearest : mL 330 = 5 := by decide +kernel
theorem L_Lw_with_0 : lab 331 0 = B_Lw_with_0 := (congrArg (fun l => (l.lookup 0).getD []) lbq_331).trans rfl
theorem L_Lw_with_15 : lab 331 15 = B_Lw_with_15 := (congrArg (fun l => (l.lookup 15).getD []) lbq_331).trans rfl
theorem mL_Lw_with : mL 331 = 4 := by decide +kernel
theorem L_Lw_holds_0 : lab 332 0 = B_Lw_holds_0 := (congrArg (fun l => (l.lookup 0).getD []) lbq_332).trans rfl
theorem L_Lw_holds_15 : lab 332 15 = B_Lw_holds_15 := (congrArg (fun l => (l.lookup 15).getD []) lbq_332).trans rfl
theorem L_Lw_holds_16 : lab 332 16 = B_Lw_holds_16 := (congrArg (fun l => (l.lookup 16).getD []) lbq_332).trans rfl
theorem L_Lw_holds_24 : lab 332 24 = B_Lw_holds_24 := (congrArg (fun l => (l.lookup 24).getD []) lbq_332).trans rfl
theorem mL_Lw_holds : mL 332 = 5 := by decide +kernel
theorem L_Lw_rule_0 : lab 333 0 = B_Lw_rule_0 := (congrArg (fun l => (l.lookup 0).getD []) lbq_333).trans rfl
theorem L_Lw_rule_21 : lab 333 21 = B_Lw_rule_21 := (congrArg (fun l => (l.lookup 21).getD []) lbq_333).trans rfl
theorem mL_Lw_rule : mL 333 = 5 := by decide +kernel
theorem L_Lw_why_0 : lab 334 0 = B_Lw_why_0 := (congrArg (fun l => (l.lookup 0).getD []) lbq_334).trans rfl
theorem L_Lw_why_15 : lab 334 15 = B_Lw_why_15 := (congrArg (fun l => (l.lookup 15).getD []) lbq_334).trans rfl
theorem mL_Lw_why : mL 334 = 4 := by decide +kernel
theorem L_Lw_against_0 : lab 335 0 = B_Lw_against_0 := (congrArg (fun l => (l.lookup 0).getD []) lbq_335).trans rfl
theorem L_Lw_against_15 : lab 335 15 = B_Lw_against_15 := (congrArg (fun l => (l.lookup 15).getD []) lbq_335).trans rfl
theorem mL_Lw_against : mL 335 = 4 := by decide +kernel
theorem L_Lw_swapsToEnd_0 : lab 336 0 = B_Lw_swapsToEnd_0 := (congrArg (fun l => (l.lookup 0).getD []) lbq_336).trans rfl
theorem L_Lw_swapsToEnd_15 : lab 336 15 = B_Lw_swapsToEnd_15 := (congrArg (fun l => (l.lookup 15).getD []) lbq_336).trans rfl
theorem mL_Lw_swapsToEnd : mL 336 = 4 := by decide +kernel
theorem L_Lw_ahead_0 : lab 337 0 = B_Lw_ahead_0 := (congrArg (fun l => (l.lookup 0).getD []) lbq_337).trans rfl
theorem L_Lw_ahead_15 : lab 337 15 = B_Lw_ahead_15 := (congrArg (fun l => (l.lookup 15).getD []) lbq_337).trans rfl
theorem mL_Lw_ahead : mL 337 = 4 := by decide +kernel
theorem L_Lw_far_0 : lab 338 0 = B_Lw_far_0 := (congrArg (fun l => (l.lookup 0).getD []) lbq_338).trans rfl
theorem L_Lw_far_17 : lab 338 17 = B_Lw_far_17 := (congrArg (fun l => (l.lookup 17).getD []) lbq_338).trans rfl
theorem mL_Lw_far : mL 338 = 5 := by decide +kernel
theorem L_Lw_toward_0 : lab 339 0 = B_Lw_toward_0 := (congrArg (fun l => (l.lookup 0).getD []) lbq_339).trans rfl
theorem L_Lw_toward_17 : lab 339 17 = B_Lw_toward_17 := (congrArg (fun l => (l.lookup 17).getD []) lbq_339).trans rfl
theorem mL_Lw_toward : mL 339 = 5 := by decide +kernel
theorem L_Lw_part_0 : lab 340 0 = B_Lw_part_0 := (congrArg (fun l => (l.lookup 0).getD []) lbq_340).trans rfl
theorem L_Lw_part_21 : lab 340 21 = B_Lw_part_21 := (congrArg (fun l => (l.lookup 21).getD []) lbq_340).trans rfl
theorem mL_Lw_part : mL 340 = 5 := by decide +kernel
theorem L_Lw_allowedIf_0 : lab 341 0 = B_Lw_allowedIf_0 := (congrArg (fun l => (l.lookup 0).getD []) lbq_341).trans rfl
theorem L_Lw_allowedIf_15 : lab 341 15 = B_Lw_allowedIf_15 := (congrArg (fun l => (l.lookup 15).getD []) lbq_341).trans rfl
theorem mL_Lw_allowedIf : mL 341 = 4 := by decide +kernel
theorem L_Lw_partsIf_0 : lab 342 0 = B_Lw_partsIf_0 := (congrArg (fun l => (l.lookup 0).getD []) lbq_342).trans rfl
theorem L_Lw_partsIf_15 : lab 342 15 = B_Lw_partsIf_15 := (congrArg (fun l => (l.lookup 15).getD []) lbq_342).trans rfl
theorem mL_Lw_partsIf : mL 342 = 4 := by decide +kernel
theorem L_Lw_steps_0 : lab 343 0 = B_Lw_steps_0 := (congrArg (fun l => (l.lookup 0).getD []) lbq_343).trans rfl
theorem L_Lw_steps_15 : lab 343 15 = B_Lw_steps_15 := (congrArg (fun l => (l.lookup 15).getD []) lbq_343).trans rfl
theorem mL_Lw_steps : mL 343 = 4 := by decide +kernel
theorem L_Lw_swap_0 : lab 344 0 = B_Lw_swap_0 := (congrArg (fun l => (l.lookup 0).getD []) lbq_344).trans rfl
theorem L_Lw_swap_17 : lab 344 17 = B_Lw_swap_17 := (congrArg (fun l => (l.lookup 17).getD []) lbq_344).trans rfl
theorem mL_Lw_swap : mL 344 = 5 := by decide +kernel
theorem L_Lw_setMode_0 : lab 345 0 = B_Lw_setMode_0 := (congrArg (fun l => (l.lookup 0).getD []) lbq_345).trans rfl
theorem L_Lw_setMode_15 : lab 345 15 = B_Lw_setMode_15 := (congrArg (fun l => (l.lookup 15).getD []) lbq_345).trans rfl
theorem mL_Lw_setMode : mL 345 = 4 := by decide +kernel
theorem L_Lw_setWeight_0 : lab 346 0 = B_Lw_setWeight_0 := (congrArg (fun l => (l.lookup 0).getD []) lbq_346).trans rfl
theorem L_Lw_setWeight_21 : lab 346 21 = B_Lw_setWeight_21 := (congrArg (fun l => (l.lookup 21).getD []) lbq_346).trans rfl
theorem mL_Lw_setWeight : mL 346 = 5 := by decide +kernel
theorem L_Lw_addRule_0 : lab 347 0 = B_Lw_addRule_0 := (congrArg (fun l => (l.lookup 0).getD []) lbq_347).trans rfl
theorem L_Lw_addRule_15 : lab 347 15 = B_Lw_addRule_15 := (congrArg (fun l => (l.lookup 15).getD []) lbq_347).trans rfl
theorem mL_Lw_addRule : mL 347 = 4 := by decide +kernel
theorem L_Lw_dropRule_0 : lab 348 0 = B_Lw_dropRule_0 := (congrArg (fun l => (l.lookup 0).getD []) lbq_348).trans rfl
theorem L_Lw_dropRule_15 : lab 348 15 = B_Lw_dropRule_15 := (congrArg (fun l => (l.lookup 15).getD []) lbq_348).trans rfl
theorem mL_Lw_dropRule : mL 348 = 4 := by decide +kernel
theorem L_Lw_switchRule_0 : lab 349 0 = B_Lw_switchRule_0 := (congrArg (fun l => (l.lookup 0).getD []) lbq_349).trans rfl
theorem L_Lw_switchRule_15 : lab 349 15 = B_Lw_switchRule_15 := (congrArg (fun l => (l.lookup 15).getD []) lbq_349).trans rfl
theorem mL_Lw_switchRule : mL 349 = 4 := by decide +kernel
theorem L_Lw_strike_0 : lab 350 0 = B_Lw_strike_0 := (congrArg (fun l => (l.lookup 0).getD []) lbq_350).trans rfl
theorem L_Lw_strike_15 : lab 350 15 = B_Lw_strike_15 := (congrArg (fun l => (l.lookup 15).getD []) lbq_350).trans rfl
theorem L_Lw_strike_16 : lab 350 16 = B_Lw_strike_16 := (congrArg (fun l => (l.lookup 16).getD []) lbq_350).trans rfl
theorem L_Lw_strike_24 : lab 350 24 = B_Lw_strike_24 := (congrArg (fun l => (l.lookup 24).getD []) lbq_350).trans rfl
theorem mL_Lw_strike : mL 350 = 5 := by decide +kernel
theorem L_Lw_many_0 : lab 351 0 = B_Lw_many_0 := (congrArg (fun l => (l.lookup 0).getD []) lbq_351).trans rfl
theorem L_Lw_many_17 : lab 351 17 = B_Lw_many_17 := (congrArg (fun l => (l.lookup 17).getD []) lbq_351).trans rfl
theorem mL_Lw_many : mL 351 = 5 := by decide +kernel
theorem L_Lw_format_0 : lab 352 0 = B_Lw_format_0 := (congrArg (fun l => (l.lookup 0).getD []) lbq_352).trans rfl
theorem L_Lw_format_15 : lab 352 15 = B_Lw_format_15 := (congrArg (fun l => (l.lookup 15).getD []) lbq_352).trans rfl
theorem mL_Lw_format : mL 352 = 4 := by decide +kernel
theorem L_Lw_law_0 : lab 353 0 = B_Lw_law_0 := (congrArg (fun l => (l.lookup 0).getD []) lbq_353).trans rfl
theorem L_Lw_law_23 : lab 353 23 = B_Lw_law_23 := (congrArg (fun l => (l.lookup 23).getD []) lbq_353).trans rfl
theorem L_Lw_law_252 : lab 353 252 = B_Lw_law_252 := (congrArg (fun l => (l.lookup 252).getD []) lbq_353).trans rfl
theorem L_Lw_law_325 : lab 353 325 = B_Lw_law_325 := (congrArg (fun l => (l.lookup 325).getD []) lbq_353).trans rfl
theorem L_Lw_law_353 : lab 353 353 = B_Lw_law_353 := (congrArg (fun l => (l.lookup 353).getD []) lbq_353).trans rfl
theorem L_Lw_law_366 : lab 353 366 = B_Lw_law_366 := (congrArg (fun l => (l.lookup 366).getD []) lbq_353).trans rfl
theorem L_Lw_law_394 : lab 353 394 = B_Lw_law_394 := (congrArg (fun l => (l.lookup 394).getD []) lbq_353).trans rfl
theorem L_Lw_law_422 : lab 353 422 = B_Lw_law_422 := (congrArg (fun l => (l.lookup 422).getD []) lbq_353).trans rfl
theorem L_Lw_law_462 : lab 353 462 = B_Lw_law_462 := (congrArg (fun l => (l.lookup 462).getD []) lbq_353).trans rfl
theorem L_Lw_law_502 : lab 353 502 = B_Lw_law_502 := (congrArg (fun l => (l.lookup 502).getD []) lbq_353).trans rfl
theorem L_Lw_law_527 : lab 353 527 = B_Lw_law_527 := (congrArg (fun l => (l.lookup 527).getD []) lbq_353).trans rfl
theorem L_Lw_law_567 : lab 353 567 = B_Lw_law_567 := (congrArg (fun l => (l.lookup 567).getD []) lbq_353).trans rfl
theorem L_Lw_law_619 : lab 353 619 = B_Lw_law_619 := (congrArg (fun l => (l.lookup 619).getD []) lbq_353).trans rfl
theorem L_Lw_law_639 : lab 353 639 = B_Lw_law_639 := (congrArg (fun l => (l.lookup 639).getD []) lbq_353).trans rfl
theorem L_Lw_law_640 : lab 353 640 = B_Lw_law_640 := (congrArg (fun l => (l.lookup 640).getD []) lbq_353).trans rfl
theorem L_Lw_law_666 : lab 353 666 = B_Lw_law_666 := (congrArg (fun l => (l.lookup 666).getD []) lbq_353).trans rfl
theorem L_Lw_law_667 : lab 353 667 = B_Lw_law_667 := (congrArg (fun l => (l.lookup 667).getD []) lbq_353).trans rfl
theorem L_Lw_law_675 : lab 353 675 = B_Lw_law_675 := (congrArg (fun l => (l.lookup 675).getD []) lbq_353).trans rfl
theorem L_Lw_law_703 : lab 353 703 = B_Lw_law_703 := (congrArg (fun l => (l.lookup 703).getD []) lbq_353).trans rfl
theorem L_Lw_law_716 : lab 353 716 = B_Lw_law_716 := (congrArg (fun l => (l.lookup 716).getD []) lbq_353).trans rfl
theorem L_Lw_law_764 : lab 353 764 = B_Lw_law_764 := (congrArg (fun l => (l.lookup 764).getD []) lbq_353).trans rfl
theorem L_Lw_law_781 : lab 353 781 = B_Lw_law_781 := (congrArg (fun l => (l.lookup 781).getD []) lbq_353).trans rfl
theorem L_Lw_law_782 : lab 353 782 = B_Lw_law_782 := (congrArg (fun l => (l.lookup 782).getD []) lbq_353).trans rfl
theorem L_Lw_law_788 : lab 353 788 = B_Lw_law_788 := (congrArg (fun l => (l.lookup 788).getD []) lbq_353).trans rfl
theorem L_Lw_law_791 : lab 353 791 = B_Lw_law_791 := (congrArg (fun l => (l.lookup 791).getD []) lbq_353).trans rfl
theorem L_Lw_law_831 : lab 353 831 = B_Lw_law_831 := (congrArg (fun l => (l.lookup 831).getD []) lbq_353).trans rfl
theorem L_Lw_law_859 : lab 353 859 = B_Lw_law_859 := (congrArg (fun l => (l.lookup 859).getD []) lbq_353).trans rfl
theorem L_Lw_law_887 : lab 353 887 = B_Lw_law_887 := (congrArg (fun l => (l.lookup 887).getD []) lbq_353).trans rfl
theorem L_Lw_law_900 : lab 353 900 = B_Lw_law_900 := (congrArg (fun l => (l.lookup 900).getD []) lbq_353).trans rfl
theorem L_Lw_law_925 : lab 353 925 = B_Lw_law_925 := (congrArg (fun l => (l.lookup 925).getD []) lbq_353).trans rfl
theorem L_Lw_law_953 : lab 353 953 = B_Lw_law_953 := (congrArg (fun l => (l.lookup 953).getD []) lbq_353).trans rfl
theorem L_Lw_law_966 : lab 353 966 = B_Lw_law_966 := (congrArg (fun l => (l.lookup 966).getD []) lbq_353).trans rfl
theorem L_Lw_law_994 : lab 353 994 = B_Lw_law_994 := (congrArg (fun l => (l.lookup 994).getD []) lbq_353).trans rfl
theorem L_Lw_law_1034 : lab 353 1034 = B_Lw_law_1034 := (congrArg (fun l => (l.lookup 1034).getD []) lbq_353).trans rfl
theorem L_Lw_law_1074 : lab 353 1074 = B_Lw_law_1074 := (congrArg (fun l => (l.lookup 1074).getD []) lbq_353).trans rfl
theorem L_Lw_law_1114 : lab 353 1114 = B_Lw_law_1114 := (congrArg (fun l => (l.lookup 1114).getD []) lbq_353).trans rfl
theorem L_Lw_law_1142 : lab 353 1142 = B_Lw_law_1142 := (congrArg (fun l => (l.lookup 1142).getD []) lbq_353).trans rfl
theorem L_Lw_law_1170 : lab 353 1170 = B_Lw_law_1170 := (congrArg (fun l => (l.lookup 1170).getD []) lbq_353).trans rfl
theorem L_Lw_law_1183 : lab 353 1183 = B_Lw_law_1183 := (congrArg (fun l => (l.lookup 1183).getD []) lbq_353).trans rfl
theorem L_Lw_law_1196 : lab 353 1196 = B_Lw_law_1196 := (congrArg (fun l => (l.lookup 1196).getD []) lbq_353).trans rfl
theorem L_Lw_law_1211 : lab 353 1211 = B_Lw_law_1211 := (congrArg (fun l => (l.lookup 1211).getD []) lbq_353).trans rfl
theorem L_Lw_law_1228 : lab 353 1228 = B_Lw_law_1228 := (congrArg (fun l => (l.lookup 1228).getD []) lbq_353).trans rfl
theorem L_Lw_law_1241 : lab 353 1241 = B_Lw_law_1241 := (congrArg (fun l => (l.lookup 1241).getD []) lbq_353).trans rfl
theorem L_Lw_law_1269 : lab 353 1269 = B_Lw_law_1269 := (congrArg (fun l => (l.lookup 1269).getD []) lbq_353).trans rfl
theorem L_Lw_law_1309 : lab 353 1309 = B_Lw_law_1309 := (congrArg (fun l => (l.lookup 1309).getD []) lbq_353).trans rfl
theorem L_Lw_law_1322 : lab 353 1322 = B_Lw_law_1322 := (congrArg (fun l => (l.lookup 1322).getD []) lbq_353).trans rfl
theorem L_Lw_law_1335 : lab 353 1335 = B_Lw_law_1335 := (congrArg (fun l => (l.lookup 1335).getD []) lbq_353).trans rfl
theorem L_Lw_law_1363 : lab 353 1363 = B_Lw_law_1363 := (congrArg (fun l => (l.lookup 1363).getD []) lbq_353).trans rfl
theorem L_Lw_law_1403 : lab 353 1403 = B_Lw_law_1403 := (congrArg (fun l => (l.lookup 1403).getD []) lbq_353).trans rfl
theorem L_Lw_law_1431 : lab 353 1431 = B_Lw_law_1431 := (congrArg (fun l => (l.lookup 1431).getD []) lbq_353).trans rfl
theorem L_Lw_law_1459 : lab 353 1459 = B_Lw_law_1459 := (congrArg (fun l => (l.lookup 1459).getD []) lbq_353).trans rfl
theorem L_Lw_law_1487 : lab 353 1487 = B_Lw_law_1487 := (congrArg (fun l => (l.lookup 1487).getD []) lbq_353).trans rfl
theorem L_Lw_law_1507 : lab 353 1507 = B_Lw_law_1507 := (congrArg (fun l => (l.lookup 1507).getD []) lbq_353).trans rfl
theorem L_Lw_law_1508 : lab 353 1508 = B_Lw_law_1508 := (congrArg (fun l => (l.lookup 1508).getD []) lbq_353).trans rfl
theorem L_Lw_law_1534 : lab 353 1534 = B_Lw_law_1534 := (congrArg (fun l => (l.lookup 1534).getD []) lbq_353).trans rfl
theorem L_Lw_law_1535 : lab 353 1535 = B_Lw_law_1535 := (congrArg (fun l => (l.lookup 1535).getD []) lbq_353).trans rfl
theorem L_Lw_law_1543 : lab 353 1543 = B_Lw_law_1543 := (congrArg (fun l => (l.lookup 1543).getD []) lbq_353).trans rfl
theorem L_Lw_law_1563 : lab 353 1563 = B_Lw_law_1563 := (congrArg (fun l => (l.lookup 1563).getD []) lbq_353).trans rfl
theorem L_Lw_law_1564 : lab 353 1564 = B_Lw_law_1564 := (congrArg (fun l => (l.lookup 1564).getD []) lbq_353).trans rfl
theorem L_Lw_law_1590 : lab 353 1590 = B_Lw_law_1590 := (congrArg (fun l => (l.lookup 1590).getD []) lbq_353).trans rfl
theorem L_Lw_law_1591 : lab 353 1591 = B_Lw_law_1591 := (congrArg (fun l => (l.lookup 1591).getD []) lbq_353).trans rfl
theorem L_Lw_law_1599 : lab 353 1599 = B_Lw_law_1599 := (congrArg (fun l => (l.lookup 1599).getD []) lbq_353).trans rfl
theorem L_Lw_law_1627 : lab 353 1627 = B_Lw_law_1627 := (congrArg (fun l => (l.lookup 1627).getD []) lbq_353).trans rfl
theorem L_Lw_law_1652 : lab 353 1652 = B_Lw_law_1652 := (congrArg (fun l => (l.lookup 1652).getD []) lbq_353).trans rfl
theorem L_Lw_law_1665 : lab 353 1665 = B_Lw_law_1665 := (congrArg (fun l => (l.lookup 1665).getD []) lbq_353).trans rfl
theorem L_Lw_law_1678 : lab 353 1678 = B_Lw_law_1678 := (congrArg (fun l => (l.lookup 1678).getD []) lbq_353).trans rfl
theorem L_Lw_law_1689 : lab 353 1689 = B_Lw_law_1689 := (congrArg (fun l => (l.lookup 1689).getD []) lbq_353).trans rfl
theorem L_Lw_law_1702 : lab 353 1702 = B_Lw_law_1702 := (congrArg (fun l => (l.lookup 1702).getD []) lbq_353).trans rfl
theorem L_Lw_law_1708 : lab 353 1708 = B_Lw_law_1708 := (congrArg (fun l => (l.lookup 1708).getD []) lbq_353).trans rfl
theorem mL_Lw_law : mL 353 = 9 := by decide +kernel
