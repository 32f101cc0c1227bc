/-! THE PROGRAM: tables printed by wip/gen/tables.py out of javap's listing; checked against the bytes by the kernel -/
-- 0: FavourTown.<init>()V
def T_0 : List (List pEnt) := [[(0, .aload_n 0, 1, []), (1, .invokespecial 3, 3, [0, 124]), (4, .aload_n 0, 1, []), (5, .new 9, 3, [1, 6, 2, 127, 128, 92]), (8, .dup, 1, []), (9, .invokespecial 11, 3, [15, 0, 129, 0, 6, 197]), (12, .putfield 12, 3, [0, 1, 0, 476, 0, 11]), (15, .aload_n 0, 1, []), (16, .new 16, 3, [1, 9, 15, 143, 144, 93]), (19, .dup, 1, []), (20, .invokespecial 18, 3, [15, 0, 145, 0, 9, 215]), (23, .putfield 19, 3, [1, 1, 0, 477, 0, 11]), (26, .aload_n 0, 1, []), (27, .new 16, 3, [1, 9, 15, 143, 144, 93]), (30, .dup, 1, []), (31, .invokespecial 18, 3, [15, 0, 145, 0, 9, 215]), (34, .putfield 23, 3, [2, 1, 0, 478, 0, 11]), (37, .aload_n 0, 1, []), (38, .new 16, 3, [1, 9, 15, 143, 144, 93]), (41, .dup, 1, []), (42, .invokespecial 18, 3, [15, 0, 145, 0, 9, 215]), (45, .putfield 26, 3, [3, 1, 0, 479, 0, 11]), (48, .aload_n 0, 1, []), (49, .new 29, 3, [1, 10, 18, 304, 305, 97]), (52, .dup, 1, []), (53, .aload_n 0, 1, []), (54, .getfield 12, 3, [0, 1, 0, 476, 0, 11]), (57, .getfield 31, 3, [0, 1, 1, 134, 0, 6]), (60, .aload_n 0, 1, []), (61, .getfield 19, 3, [1, 1, 0, 477, 0, 11]), (64, .invokespecial 35, 3, [14, 2, 306, 0, 10, 241]), (67, .putfield 38, 3, [4, 1, 0, 480, 0, 11]), (70, .aload_n 0, 1, []), (71, .new 42, 3, [1, 8, 12, 380, 381, 98]), (74, .dup, 1, []), (75, .aload_n 0, 1, []), (76, .getfield 12, 3, [0, 1, 0, 476, 0, 11]), (79, .getfield 31, 3, [0, 1, 1, 134, 0, 6]), (82, .invokespecial 44, 3, [14, 1, 382, 0, 8, 205]), (85, .putfield 47, 3, [5, 1, 0, 481, 0, 11]), (88, .aload_n 0, 1, []), (89, .new 51, 3, [1, 4, 6, 404, 405, 99]), (92, .dup, 1, []), (93, .invokespecial 53, 3, [15, 0, 406, 0, 4, 169]), (96, .putfield 54, 3, [6, 1, 0, 482, 0, 11]), (99, .aload_n 0, 1, []), (100, .new 58, 3, [1, 5, 5, 430, 431, 100]), (103, .dup, 1, []), (104, .aload_n 0, 1, []), (105, .getfield 19, 3, [1, 1, 0, 477, 0, 11]), (108, .invokespecial 60, 3, [14, 1, 432, 0, 5, 190]), (111, .putfield 63, 3, [7, 1, 0, 483, 0, 11]), (114, .aload_n 0, 1, []), (115, .new 67, 3, [1, 3, 4, 454, 455, 101]), (118, .dup, 1, []), (119, .invokespecial 69, 3, [15, 0, 456, 0, 3, 165]), (122, .putfield 70, 3, [8, 1, 0, 484, 0, 11]), (125, .aload_n 0, 1, []), (126, .iconst 0, 1, []), (127, .putfield 74, 3, [9, 2, 0, 485, 0, 11]), (130, .aload_n 0, 1, []), (131, .iconst (-1), 1, []), (132, .putfield 78, 3, [10, 0, 0, 486, 0, 11]), (135, .return_, 1, [])]]
def bl_0 : List Nat := [0]
-- 1: FavourTown.feed(IIIII)I
def T_1 : List (List pEnt) := [[(0, .aload_n 0, 1, []), (1, .getfield 12, 3, [0, 1, 0, 476, 0, 11]), (4, .getfield 82, 3, [1, 0, 1, 135, 0, 6]), (7, .bipush 20, 2, []), (9, .iadd, 1, []), (10, .sipush 400, 3, []), (13, .if_icmp .le 5, 3, [1]), (16, .iconst (-1), 1, []), (17, .ireturn, 1, [0])],
  [(18, .aload_n 0, 1, []), (19, .getfield 12, 3, [0, 1, 0, 476, 0, 11]), (22, .iload_n 1, 1, []), (23, .invokevirtual 85, 3, [10, 1, 514, 0, 6, 198]), (26, .aload_n 0, 1, []), (27, .getfield 12, 3, [0, 1, 0, 476, 0, 11]), (30, .iload_n 2, 1, []), (31, .invokevirtual 85, 3, [10, 1, 514, 0, 6, 198]), (34, .aload_n 0, 1, []), (35, .getfield 12, 3, [0, 1, 0, 476, 0, 11]), (38, .iload_n 3, 1, []), (39, .invokevirtual 85, 3, [10, 1, 514, 0, 6, 198]), (42, .aload_n 0, 1, []), (43, .getfield 12, 3, [0, 1, 0, 476, 0, 11]), (46, .iload 4, 2, []), (48, .invokevirtual 85, 3, [10, 1, 514, 0, 6, 198]), (51, .aload_n 0, 1, []), (52, .getfield 12, 3, [0, 1, 0, 476, 0, 11]), (55, .iload 5, 2, []), (57, .invokevirtual 85, 3, [10, 1, 514, 0, 6, 198]), (60, .aload_n 0, 1, []), (61, .getfield 12, 3, [0, 1, 0, 476, 0, 11]), (64, .getfield 82, 3, [1, 0, 1, 135, 0, 6]), (67, .ireturn, 1, [0])]]
def bl_1 : List Nat := [0, 18]
-- 2: FavourTown.end(I)Z
def T_2 : List (List pEnt) := [[(0, .iload_n 1, 1, []), (1, .ifCond .lt 14, 3, [1]), (4, .iload_n 1, 1, []), (5, .aload_n 0, 1, []), (6, .getfield 12, 3, [0, 1, 0, 476, 0, 11]), (9, .getfield 82, 3, [1, 0, 1, 135, 0, 6]), (12, .if_icmp .le 5, 3, [2]), (15, .nop, 0, [1])],
  [(15, .iconst 0, 1, []), (16, .ireturn, 1, [2])],
  [(17, .aload_n 0, 1, []), (18, .getfield 12, 3, [0, 1, 0, 476, 0, 11]), (21, .iload_n 1, 1, []), (22, .putfield 82, 3, [1, 0, 1, 135, 0, 6]), (25, .iconst 1, 1, []), (26, .ireturn, 1, [2])]]
def bl_2 : List Nat := [0, 15, 17]
-- 3: FavourTown.town()I
def T_3 : List (List pEnt) := [[(0, .aload_n 0, 1, []), (1, .getfield 26, 3, [3, 1, 0, 479, 0, 11]), (4, .aload_n 0, 1, []), (5, .getfield 19, 3, [1, 1, 0, 477, 0, 11]), (8, .invokevirtual 89, 3, [10, 1, 533, 0, 9, 216]), (11, .aload_n 0, 1, []), (12, .getfield 38, 3, [4, 1, 0, 480, 0, 11]), (15, .aload_n 0, 1, []), (16, .getfield 12, 3, [0, 1, 0, 476, 0, 11]), (19, .invokevirtual 92, 3, [10, 0, 720, 0, 6, 199]), (22, .invokevirtual 96, 3, [17, 1, 724, 725, 10, 180]), (25, .istore_n 1, 1, []), (26, .aload_n 0, 1, []), (27, .aload_n 0, 1, []), (28, .getfield 38, 3, [4, 1, 0, 480, 0, 11]), (31, .getfield 100, 3, [9, 0, 0, 338, 339, 10]), (34, .putfield 78, 3, [10, 0, 0, 486, 0, 11]), (37, .aload_n 0, 1, []), (38, .getfield 19, 3, [1, 1, 0, 477, 0, 11]), (41, .getfield 103, 3, [12, 0, 1, 267, 0, 9]), (44, .bipush 10, 2, []), (46, .if_icmp .lt 7, 3, [1]), (49, .iconst 1, 1, []), (50, .goto 4, 3, [2])],
  [(53, .iconst 0, 1, []), (54, .nop, 0, [2])],
  [(54, .istore_n 2, 1, []), (55, .iload_n 1, 1, []), (56, .ifCond .eq 7, 3, [3]), (59, .iload_n 2, 1, []), (60, .ifCond .eq 14, 3, [4]), (63, .nop, 0, [3])],
  [(63, .aload_n 0, 1, []), (64, .getfield 19, 3, [1, 1, 0, 477, 0, 11]), (67, .aload_n 0, 1, []), (68, .getfield 26, 3, [3, 1, 0, 479, 0, 11]), (71, .invokevirtual 89, 3, [10, 1, 533, 0, 9, 216]), (74, .nop, 0, [4])],
  [(74, .iload_n 1, 1, []), (75, .ifCond .ne 13, 3, [5]), (78, .new 106, 3, [2, 0, 943, 0, 2, 110])],
  [(88, .iload_n 2, 1, []), (89, .ifCond .eq 13, 3, [6]), (92, .new 113, 3, [2, 2, 1011, 0, 3, 117])],
  [(102, .aload_n 0, 1, []), (103, .getfield 19, 3, [1, 1, 0, 477, 0, 11]), (106, .dup, 1, []), (107, .getfield 103, 3, [12, 0, 1, 267, 0, 9]), (110, .iconst 1, 1, []), (111, .iadd, 1, []), (112, .putfield 103, 3, [12, 0, 1, 267, 0, 9]), (115, .aload_n 0, 1, []), (116, .getfield 19, 3, [1, 1, 0, 477, 0, 11]), (119, .getfield 103, 3, [12, 0, 1, 267, 0, 9]), (122, .ireturn, 1, [0])]]
def bl_3 : List Nat := [0, 53, 54, 63, 74, 88, 102]
-- 4: FavourTown.temper()I
def T_4 : List (List pEnt) := [[(0, .aload_n 0, 1, []), (1, .getfield 47, 3, [5, 1, 0, 481, 0, 11]), (4, .invokevirtual 118, 3, [10, 0, 1034, 0, 8, 206]), (7, .aload_n 0, 1, []), (8, .getfield 47, 3, [5, 1, 0, 481, 0, 11]), (11, .aload_n 0, 1, []), (12, .getfield 12, 3, [0, 1, 0, 476, 0, 11]), (15, .invokevirtual 92, 3, [10, 0, 720, 0, 6, 199]), (18, .invokevirtual 121, 3, [17, 1, 1038, 1039, 8, 180]), (21, .istore_n 1, 1, []), (22, .aload_n 0, 1, []), (23, .aload_n 0, 1, []), (24, .getfield 47, 3, [5, 1, 0, 481, 0, 11]), (27, .getfield 122, 3, [9, 0, 0, 340, 341, 8]), (30, .putfield 78, 3, [10, 0, 0, 486, 0, 11]), (33, .iload_n 1, 1, []), (34, .ifCond .ne 13, 3, [1]), (37, .new 106, 3, [2, 0, 943, 0, 2, 110])],
  [(47, .aload_n 0, 1, []), (48, .getfield 19, 3, [1, 1, 0, 477, 0, 11]), (51, .getfield 123, 3, [9, 0, 1, 259, 0, 9]), (54, .bipush 6, 2, []), (56, .if_icmp .lt 13, 3, [2]), (59, .new 113, 3, [2, 2, 1011, 0, 4, 117])],
  [(69, .aload_n 0, 1, []), (70, .getfield 19, 3, [1, 1, 0, 477, 0, 11]), (73, .aload_n 0, 1, []), (74, .getfield 47, 3, [5, 1, 0, 481, 0, 11]), (77, .invokevirtual 128, 3, [10, 0, 1042, 0, 8, 207]), (80, .invokevirtual 132, 3, [10, 1, 1075, 0, 9, 218]), (83, .ireturn, 1, [0])]]
def bl_4 : List Nat := [0, 47, 69]
-- 5: FavourTown.fault()I
def T_5 : List (List pEnt) := [[(0, .aload_n 0, 1, []), (1, .getfield 78, 3, [10, 0, 0, 486, 0, 11]), (4, .ireturn, 1, [0])]]
def bl_5 : List Nat := [0]
-- 6: FavourTown.has(II)I
def T_6 : List (List pEnt) := [[(0, .aload_n 0, 1, []), (1, .iload_n 1, 1, []), (2, .invokevirtual 136, 3, [10, 1, 1087, 0, 11, 37]), (5, .iload_n 2, 1, []), (6, .iconst (-1), 1, []), (7, .if_icmp .lt 14, 3, [1]), (10, .iload_n 2, 1, []), (11, .aload_n 0, 1, []), (12, .getfield 19, 3, [1, 1, 0, 477, 0, 11]), (15, .getfield 123, 3, [9, 0, 1, 259, 0, 9]), (18, .if_icmp .lt 13, 3, [2]), (21, .nop, 0, [1])],
  [(21, .new 139, 3, [2, 1, 1095, 0, 6, 143])],
  [(31, .aload_n 0, 1, []), (32, .getfield 19, 3, [1, 1, 0, 477, 0, 11]), (35, .getfield 144, 3, [0, 1, 1, 241, 0, 9]), (38, .getfield 148, 3, [1, 1, 1, 158, 0, 2]), (41, .iload_n 1, 1, []), (42, .invokestatic 153, 3, [20, 2, 1112, 0, 44]), (45, .istore_n 3, 1, []), (46, .aload_n 0, 1, []), (47, .getfield 19, 3, [1, 1, 0, 477, 0, 11]), (50, .getfield 144, 3, [0, 1, 1, 241, 0, 9]), (53, .getfield 148, 3, [1, 1, 1, 158, 0, 2]), (56, .iload_n 1, 1, []), (57, .iload_n 2, 1, []), (58, .invokestatic 157, 3, [20, 3, 1113, 0, 45]), (61, .iload_n 3, 1, []), (62, .ireturn, 1, [0])]]
def bl_6 : List Nat := [0, 21, 31]
-- 7: FavourTown.give(IIIIZ)I
def T_7 : List (List pEnt) := [[(0, .aload_n 0, 1, []), (1, .iload_n 1, 1, []), (2, .iload_n 2, 1, []), (3, .invokevirtual 161, 3, [10, 2, 1121, 0, 11, 38]), (6, .iload_n 3, 1, []), (7, .invokestatic 165, 3, [20, 1, 1126, 0, 41]), (10, .iload 4, 2, []), (12, .ifCond .lt 10, 3, [1]), (15, .iload 4, 2, []), (17, .bipush 99, 2, []), (19, .if_icmp .le 13, 3, [2]), (22, .nop, 0, [1])],
  [(22, .new 106, 3, [2, 0, 943, 0, 9, 110])],
  [(32, .aload_n 0, 1, []), (33, .getfield 19, 3, [1, 1, 0, 477, 0, 11]), (36, .iload_n 1, 1, []), (37, .iload_n 2, 1, []), (38, .iload_n 3, 1, []), (39, .iload 4, 2, []), (41, .iload 5, 2, []), (43, .invokevirtual 170, 3, [10, 5, 1131, 0, 9, 228]), (46, .ireturn, 1, [0])]]
def bl_7 : List Nat := [0, 22, 32]
-- 8: FavourTown.pass(II)I
def T_8 : List (List pEnt) := [[(0, .aload_n 0, 1, []), (1, .iload_n 1, 1, []), (2, .invokevirtual 174, 3, [10, 1, 1139, 0, 11, 39]), (5, .aload_n 0, 1, []), (6, .iload_n 2, 1, []), (7, .invokevirtual 136, 3, [10, 1, 1087, 0, 11, 37]), (10, .aload_n 0, 1, []), (11, .getfield 19, 3, [1, 1, 0, 477, 0, 11]), (14, .getfield 177, 3, [1, 1, 1, 246, 0, 9]), (17, .getfield 181, 3, [1, 1, 1, 197, 0, 1]), (20, .iload_n 1, 1, []), (21, .invokestatic 153, 3, [20, 2, 1112, 0, 44]), (24, .iload_n 2, 1, []), (25, .if_icmp .ne 13, 3, [1]), (28, .new 106, 3, [2, 0, 943, 0, 11, 110])],
  [(38, .aload_n 0, 1, []), (39, .getfield 19, 3, [1, 1, 0, 477, 0, 11]), (42, .iload_n 1, 1, []), (43, .iload_n 2, 1, []), (44, .invokevirtual 188, 3, [10, 2, 1145, 0, 9, 231]), (47, .ireturn, 1, [0])]]
def bl_8 : List Nat := [0, 38]
-- 9: FavourTown.call(I)I
def T_9 : List (List pEnt) := [[(0, .aload_n 0, 1, []), (1, .iload_n 1, 1, []), (2, .invokevirtual 174, 3, [10, 1, 1139, 0, 11, 39]), (5, .aload_n 0, 1, []), (6, .getfield 19, 3, [1, 1, 0, 477, 0, 11]), (9, .iload_n 1, 1, []), (10, .invokevirtual 192, 3, [10, 1, 1153, 0, 9, 232]), (13, .ireturn, 1, [0])]]
def bl_9 : List Nat := [0]
-- 10: FavourTown.days(I)I
def T_10 : List (List pEnt) := [[(0, .iload_n 1, 1, []), (1, .iconst 1, 1, []), (2, .if_icmp .lt 9, 3, [1]), (5, .iload_n 1, 1, []), (6, .bipush 99, 2, []), (8, .if_icmp .le 13, 3, [2]), (11, .nop, 0, [1])],
  [(11, .new 106, 3, [2, 0, 943, 0, 12, 110])],
  [(21, .aload_n 0, 1, []), (22, .getfield 19, 3, [1, 1, 0, 477, 0, 11]), (25, .iload_n 1, 1, []), (26, .invokevirtual 198, 3, [10, 1, 1162, 0, 9, 234]), (29, .ireturn, 1, [0])]]
def bl_10 : List Nat := [0, 11, 21]
-- 11: FavourTown.look(II)I
def T_11 : List (List pEnt) := [[(0, .aload_n 0, 1, []), (1, .iload_n 1, 1, []), (2, .invokevirtual 174, 3, [10, 1, 1139, 0, 11, 39]), (5, .aload_n 0, 1, []), (6, .getfield 19, 3, [1, 1, 0, 477, 0, 11]), (9, .getfield 177, 3, [1, 1, 1, 246, 0, 9]), (12, .astore_n 3, 1, []), (13, .iload_n 2, 1, []), (14, .tableswitch 115 0 6 #[42, 51, 60, 69, 78, 97, 106], 42, [10, 1, 2, 3, 4, 5, 8, 9])],
  [(56, .aload_n 3, 1, []), (57, .getfield 201, 3, [0, 1, 1, 195, 0, 1]), (60, .iload_n 1, 1, []), (61, .invokestatic 153, 3, [20, 2, 1112, 0, 44]), (64, .ireturn, 1, [0])],
  [(65, .aload_n 3, 1, []), (66, .getfield 181, 3, [1, 1, 1, 197, 0, 1]), (69, .iload_n 1, 1, []), (70, .invokestatic 153, 3, [20, 2, 1112, 0, 44]), (73, .ireturn, 1, [0])],
  [(74, .aload_n 3, 1, []), (75, .getfield 204, 3, [2, 1, 1, 201, 0, 1]), (78, .iload_n 1, 1, []), (79, .invokestatic 153, 3, [20, 2, 1112, 0, 44]), (82, .ireturn, 1, [0])],
  [(83, .aload_n 3, 1, []), (84, .getfield 207, 3, [3, 1, 1, 204, 0, 1]), (87, .iload_n 1, 1, []), (88, .invokestatic 153, 3, [20, 2, 1112, 0, 44]), (91, .ireturn, 1, [0])],
  [(92, .aload_n 3, 1, []), (93, .iload_n 1, 1, []), (94, .invokevirtual 210, 3, [10, 1, 1171, 0, 1, 146]), (97, .ifCond .eq 7, 3, [6]), (100, .iconst 0, 1, []), (101, .goto 9, 3, [7])],
  [(104, .aload_n 3, 1, []), (105, .iload_n 1, 1, []), (106, .iconst 0, 1, []), (107, .invokevirtual 213, 3, [10, 2, 1172, 0, 1, 147]), (110, .nop, 0, [7])],
  [(110, .ireturn, 1, [0])],
  [(111, .aload_n 3, 1, []), (112, .getfield 216, 3, [4, 1, 1, 207, 0, 1]), (115, .iload_n 1, 1, []), (116, .invokestatic 153, 3, [20, 2, 1112, 0, 44]), (119, .ireturn, 1, [0])],
  [(120, .aload_n 3, 1, []), (121, .getfield 219, 3, [5, 1, 1, 210, 0, 1]), (124, .iload_n 1, 1, []), (125, .invokestatic 153, 3, [20, 2, 1112, 0, 44]), (128, .ireturn, 1, [0])],
  [(129, .new 222, 3, [2, 3, 1173, 0, 13, 226])]]
def bl_11 : List Nat := [0, 56, 65, 74, 83, 92, 104, 110, 111, 120, 129]
-- 12: FavourTown.hand(II)I
def T_12 : List (List pEnt) := [[(0, .aload_n 0, 1, []), (1, .iload_n 1, 1, []), (2, .invokevirtual 174, 3, [10, 1, 1139, 0, 11, 39]), (5, .aload_n 0, 1, []), (6, .getfield 19, 3, [1, 1, 0, 477, 0, 11]), (9, .getfield 177, 3, [1, 1, 1, 246, 0, 9]), (12, .iload_n 1, 1, []), (13, .iload_n 2, 1, []), (14, .invokevirtual 227, 3, [10, 2, 1196, 0, 1, 149]), (17, .ireturn, 1, [0])]]
def bl_12 : List Nat := [0]
-- 13: FavourTown.takes(II)Z
def T_13 : List (List pEnt) := [[(0, .aload_n 0, 1, []), (1, .iload_n 1, 1, []), (2, .invokevirtual 136, 3, [10, 1, 1087, 0, 11, 37]), (5, .aload_n 0, 1, []), (6, .iload_n 2, 1, []), (7, .invokevirtual 174, 3, [10, 1, 1139, 0, 11, 39]), (10, .aload_n 0, 1, []), (11, .getfield 19, 3, [1, 1, 0, 477, 0, 11]), (14, .iload_n 1, 1, []), (15, .iload_n 2, 1, []), (16, .invokevirtual 230, 3, [10, 2, 1207, 0, 9, 223]), (19, .ireturn, 1, [2])]]
def bl_13 : List Nat := [0]
-- 14: FavourTown.rich(I)I
def T_14 : List (List pEnt) := [[(0, .aload_n 0, 1, []), (1, .iload_n 1, 1, []), (2, .invokevirtual 136, 3, [10, 1, 1087, 0, 11, 37]), (5, .aload_n 0, 1, []), (6, .getfield 19, 3, [1, 1, 0, 477, 0, 11]), (9, .getfield 144, 3, [0, 1, 1, 241, 0, 9]), (12, .getfield 234, 3, [3, 1, 1, 164, 0, 2]), (15, .iload_n 1, 1, []), (16, .invokestatic 153, 3, [20, 2, 1112, 0, 44]), (19, .ireturn, 1, [0])]]
def bl_14 : List Nat := [0]
-- 15: FavourTown.debt(I)I
def T_15 : List (List pEnt) := [[(0, .aload_n 0, 1, []), (1, .iload_n 1, 1, []), (2, .invokevirtual 136, 3, [10, 1, 1087, 0, 11, 37]), (5, .aload_n 0, 1, []), (6, .getfield 19, 3, [1, 1, 0, 477, 0, 11]), (9, .getfield 144, 3, [0, 1, 1, 241, 0, 9]), (12, .getfield 237, 3, [4, 1, 1, 167, 0, 2]), (15, .iload_n 1, 1, []), (16, .invokestatic 153, 3, [20, 2, 1112, 0, 44]), (19, .ireturn, 1, [0])]]
def bl_15 : List Nat := [0]
-- 16: FavourTown.owes(II)I
def T_16 : List (List pEnt) := [[(0, .aload_n 0, 1, []), (1, .iload_n 1, 1, []), (2, .invokevirtual 136, 3, [10, 1, 1087, 0, 11, 37]), (5, .aload_n 0, 1, []), (6, .iload_n 2, 1, []), (7, .invokevirtual 136, 3, [10, 1, 1087, 0, 11, 37]), (10, .aload_n 0, 1, []), (11, .getfield 19, 3, [1, 1, 0, 477, 0, 11]), (14, .getfield 177, 3, [1, 1, 1, 246, 0, 9]), (17, .iload_n 1, 1, []), (18, .iload_n 2, 1, []), (19, .invokevirtual 240, 3, [10, 2, 1229, 0, 1, 153]), (22, .ireturn, 1, [0])]]
def bl_16 : List Nat := [0]
-- 17: FavourTown.pays(III)I
def T_17 : List (List pEnt) := [[(0, .aload_n 0, 1, []), (1, .iload_n 1, 1, []), (2, .iload_n 2, 1, []), (3, .invokevirtual 161, 3, [10, 2, 1121, 0, 11, 38]), (6, .iload_n 3, 1, []), (7, .invokestatic 165, 3, [20, 1, 1126, 0, 41]), (10, .aload_n 0, 1, []), (11, .getfield 19, 3, [1, 1, 0, 477, 0, 11]), (14, .iload_n 1, 1, []), (15, .iload_n 2, 1, []), (16, .iload_n 3, 1, []), (17, .invokevirtual 243, 3, [10, 3, 1240, 0, 9, 236]), (20, .ireturn, 1, [0])]]
def bl_17 : List Nat := [0]
-- 18: FavourTown.can(I)Z
def T_18 : List (List pEnt) := [[(0, .aload_n 0, 1, []), (1, .iload_n 1, 1, []), (2, .invokevirtual 247, 3, [10, 1, 1248, 0, 11, 40]), (5, .aload_n 0, 1, []), (6, .getfield 19, 3, [1, 1, 0, 477, 0, 11]), (9, .iload_n 1, 1, []), (10, .invokevirtual 250, 3, [10, 1, 1253, 0, 9, 237]), (13, .ireturn, 1, [2])]]
def bl_18 : List Nat := [0]
-- 19: FavourTown.meet(I)I
def T_19 : List (List pEnt) := [[(0, .aload_n 0, 1, []), (1, .iload_n 1, 1, []), (2, .invokevirtual 247, 3, [10, 1, 1248, 0, 11, 40]), (5, .aload_n 0, 1, []), (6, .getfield 19, 3, [1, 1, 0, 477, 0, 11]), (9, .aload_n 0, 1, []), (10, .getfield 19, 3, [1, 1, 0, 477, 0, 11]), (13, .getfield 253, 3, [4, 1, 1, 250, 0, 9]), (16, .iload_n 1, 1, []), (17, .invokestatic 153, 3, [20, 2, 1112, 0, 44]), (20, .aload_n 0, 1, []), (21, .getfield 19, 3, [1, 1, 0, 477, 0, 11]), (24, .getfield 256, 3, [5, 1, 1, 252, 0, 9]), (27, .iload_n 1, 1, []), (28, .invokestatic 153, 3, [20, 2, 1112, 0, 44]), (31, .aload_n 0, 1, []), (32, .getfield 19, 3, [1, 1, 0, 477, 0, 11]), (35, .getfield 259, 3, [6, 1, 1, 254, 0, 9]), (38, .iload_n 1, 1, []), (39, .invokestatic 153, 3, [20, 2, 1112, 0, 44]), (42, .invokevirtual 261, 3, [10, 3, 1261, 0, 9, 238]), (45, .ireturn, 1, [0])]]
def bl_19 : List Nat := [0]
-- 20: FavourTown.enough(I)Z
def T_20 : List (List pEnt) := [[(0, .aload_n 0, 1, []), (1, .getfield 26, 3, [3, 1, 0, 479, 0, 11]), (4, .aload_n 0, 1, []), (5, .getfield 19, 3, [1, 1, 0, 477, 0, 11]), (8, .invokevirtual 89, 3, [10, 1, 533, 0, 9, 216]), (11, .aload_n 0, 1, []), (12, .getfield 26, 3, [3, 1, 0, 479, 0, 11]), (15, .iload_n 1, 1, []), (16, .invokevirtual 264, 3, [10, 1, 564, 0, 9, 235]), (19, .pop, 1, []), (20, .aload_n 0, 1, []), (21, .getfield 26, 3, [3, 1, 0, 479, 0, 11]), (24, .invokevirtual 267, 3, [10, 0, 591, 0, 9, 239]), (27, .iconst (-1), 1, []), (28, .if_icmp .ne 7, 3, [1]), (31, .iconst 1, 1, []), (32, .goto 4, 3, [2])],
  [(35, .iconst 0, 1, []), (36, .nop, 0, [2])],
  [(36, .ireturn, 1, [2])]]
def bl_20 : List Nat := [0, 35, 36]
-- 21: FavourTown.witness(I)I
def T_21 : List (List pEnt) := [[(0, .aload_n 0, 1, []), (1, .getfield 26, 3, [3, 1, 0, 479, 0, 11]), (4, .aload_n 0, 1, []), (5, .getfield 19, 3, [1, 1, 0, 477, 0, 11]), (8, .invokevirtual 89, 3, [10, 1, 533, 0, 9, 216]), (11, .aload_n 0, 1, []), (12, .getfield 26, 3, [3, 1, 0, 479, 0, 11]), (15, .iload_n 1, 1, []), (16, .invokevirtual 264, 3, [10, 1, 564, 0, 9, 235]), (19, .pop, 1, []), (20, .aload_n 0, 1, []), (21, .getfield 26, 3, [3, 1, 0, 479, 0, 11]), (24, .invokevirtual 267, 3, [10, 0, 591, 0, 9, 239]), (27, .ireturn, 1, [0])]]
def bl_21 : List Nat := [0]
-- 22: FavourTown.fewest()I
def T_22 : List (List pEnt) := [[(0, .iconst 1, 1, []), (1, .aload_n 0, 1, []), (2, .getfield 19, 3, [1, 1, 0, 477, 0, 11]), (5, .getfield 144, 3, [0, 1, 1, 241, 0, 9]), (8, .getfield 270, 3, [5, 0, 1, 173, 0, 2]), (11, .ishl, 1, []), (12, .istore_n 1, 1, []), (13, .aload_n 0, 1, []), (14, .getfield 19, 3, [1, 1, 0, 477, 0, 11]), (17, .getfield 177, 3, [1, 1, 1, 246, 0, 9]), (20, .invokevirtual 273, 3, [10, 0, 667, 0, 1, 152]), (23, .istore_n 2, 1, []), (24, .aload_n 0, 1, []), (25, .getfield 26, 3, [3, 1, 0, 479, 0, 11]), (28, .aload_n 0, 1, []), (29, .getfield 19, 3, [1, 1, 0, 477, 0, 11]), (32, .invokevirtual 89, 3, [10, 1, 533, 0, 9, 216]), (35, .iconst 0, 1, []), (36, .istore_n 3, 1, []), (37, .nop, 0, [1])],
  [(37, .iload_n 3, 1, []), (38, .aload_n 0, 1, []), (39, .getfield 19, 3, [1, 1, 0, 477, 0, 11]), (42, .getfield 144, 3, [0, 1, 1, 241, 0, 9]), (45, .getfield 270, 3, [5, 0, 1, 173, 0, 2]), (48, .if_icmp .gt 77, 3, [5]), (51, .iconst 0, 1, []), (52, .istore 4, 2, []), (54, .nop, 0, [2])],
  [(54, .iload 4, 2, []), (56, .iload_n 1, 1, []), (57, .if_icmp .ge 62, 3, [4]), (60, .iload 4, 2, []), (62, .invokestatic 276, 3, [20, 1, 672, 0, 276]), (65, .iload_n 3, 1, []), (66, .if_icmp .ne 47, 3, [3]), (69, .iload 4, 2, []), (71, .iload_n 2, 1, []), (72, .iconst (-1), 1, []), (73, .ixor, 1, []), (74, .iand, 1, []), (75, .ifCond .ne 38, 3, [3]), (78, .aload_n 0, 1, []), (79, .getfield 26, 3, [3, 1, 0, 479, 0, 11]), (82, .aload_n 0, 1, []), (83, .getfield 19, 3, [1, 1, 0, 477, 0, 11]), (86, .invokevirtual 281, 3, [10, 1, 678, 0, 9, 217]), (89, .aload_n 0, 1, []), (90, .getfield 26, 3, [3, 1, 0, 479, 0, 11]), (93, .iload 4, 2, []), (95, .invokevirtual 264, 3, [10, 1, 564, 0, 9, 235]), (98, .pop, 1, []), (99, .aload_n 0, 1, []), (100, .getfield 26, 3, [3, 1, 0, 479, 0, 11]), (103, .invokevirtual 267, 3, [10, 0, 591, 0, 9, 239]), (106, .iconst (-1), 1, []), (107, .if_icmp .ne 6, 3, [3]), (110, .iload 4, 2, []), (112, .ireturn, 1, [0])],
  [(113, .iinc 4 1, 3, []), (116, .goto (-62), 3, [2])],
  [(119, .iinc 3 1, 3, []), (122, .goto (-85), 3, [1])],
  [(125, .iconst (-1), 1, []), (126, .ireturn, 1, [0])]]
def bl_22 : List Nat := [0, 37, 54, 113, 119, 125]
-- 23: FavourTown.forgive(I)I
def T_23 : List (List pEnt) := [[(0, .aload_n 0, 1, []), (1, .getfield 19, 3, [1, 1, 0, 477, 0, 11]), (4, .iload_n 1, 1, []), (5, .invokevirtual 264, 3, [10, 1, 564, 0, 9, 235]), (8, .ireturn, 1, [0])]]
def bl_23 : List Nat := [0]
-- 24: FavourTown.port(II)I
def T_24 : List (List pEnt) := [[(0, .aload_n 0, 1, []), (1, .iload_n 1, 1, []), (2, .iload_n 2, 1, []), (3, .invokevirtual 161, 3, [10, 2, 1121, 0, 11, 38]), (6, .aload_n 0, 1, []), (7, .getfield 19, 3, [1, 1, 0, 477, 0, 11]), (10, .iload_n 1, 1, []), (11, .iload_n 2, 1, []), (12, .invokevirtual 284, 3, [10, 2, 1274, 0, 9, 240]), (15, .ireturn, 1, [0])]]
def bl_24 : List Nat := [0]
-- 25: FavourTown.most(II)I
def T_25 : List (List pEnt) := [[(0, .aload_n 0, 1, []), (1, .iload_n 1, 1, []), (2, .iload_n 2, 1, []), (3, .invokevirtual 161, 3, [10, 2, 1121, 0, 11, 38]), (6, .aload_n 0, 1, []), (7, .getfield 54, 3, [6, 1, 0, 482, 0, 11]), (10, .aload_n 0, 1, []), (11, .getfield 19, 3, [1, 1, 0, 477, 0, 11]), (14, .invokevirtual 287, 3, [10, 1, 1285, 0, 4, 170]), (17, .aload_n 0, 1, []), (18, .getfield 54, 3, [6, 1, 0, 482, 0, 11]), (21, .iload_n 1, 1, []), (22, .iload_n 2, 1, []), (23, .invokevirtual 290, 3, [10, 2, 1295, 0, 4, 172]), (26, .ireturn, 1, [0])]]
def bl_25 : List Nat := [0]
-- 26: FavourTown.cut(II)I
def T_26 : List (List pEnt) := [[(0, .aload_n 0, 1, []), (1, .iload_n 1, 1, []), (2, .iload_n 2, 1, []), (3, .invokevirtual 161, 3, [10, 2, 1121, 0, 11, 38]), (6, .aload_n 0, 1, []), (7, .getfield 54, 3, [6, 1, 0, 482, 0, 11]), (10, .aload_n 0, 1, []), (11, .getfield 19, 3, [1, 1, 0, 477, 0, 11]), (14, .invokevirtual 287, 3, [10, 1, 1285, 0, 4, 170]), (17, .aload_n 0, 1, []), (18, .getfield 54, 3, [6, 1, 0, 482, 0, 11]), (21, .iload_n 1, 1, []), (22, .iload_n 2, 1, []), (23, .invokevirtual 290, 3, [10, 2, 1295, 0, 4, 172]), (26, .pop, 1, []), (27, .aload_n 0, 1, []), (28, .getfield 54, 3, [6, 1, 0, 482, 0, 11]), (31, .getfield 293, 3, [5, 0, 1, 416, 0, 4]), (34, .ireturn, 1, [0])]]
def bl_26 : List Nat := [0]
-- 27: FavourTown.chain(IIII)I
def T_27 : List (List pEnt) := [[(0, .aload_n 0, 1, []), (1, .iload_n 1, 1, []), (2, .iload_n 2, 1, []), (3, .invokevirtual 161, 3, [10, 2, 1121, 0, 11, 38]), (6, .iload_n 3, 1, []), (7, .invokestatic 165, 3, [20, 1, 1126, 0, 41]), (10, .iload 4, 2, []), (12, .invokestatic 296, 3, [20, 1, 1326, 0, 42]), (15, .aload_n 0, 1, []), (16, .getfield 54, 3, [6, 1, 0, 482, 0, 11]), (19, .aload_n 0, 1, []), (20, .getfield 19, 3, [1, 1, 0, 477, 0, 11]), (23, .invokevirtual 287, 3, [10, 1, 1285, 0, 4, 170]), (26, .aload_n 0, 1, []), (27, .getfield 54, 3, [6, 1, 0, 482, 0, 11]), (30, .iload_n 2, 1, []), (31, .iload_n 3, 1, []), (32, .invokevirtual 299, 3, [10, 2, 1330, 0, 4, 175]), (35, .iload 4, 2, []), (37, .iconst (-1), 1, []), (38, .if_icmp .ne 14, 3, [1]), (41, .aload_n 0, 1, []), (42, .getfield 54, 3, [6, 1, 0, 482, 0, 11]), (45, .iload_n 1, 1, []), (46, .invokevirtual 302, 3, [10, 1, 1337, 0, 4, 176]), (49, .goto 14, 3, [2])],
  [(52, .aload_n 0, 1, []), (53, .getfield 54, 3, [6, 1, 0, 482, 0, 11]), (56, .iload_n 1, 1, []), (57, .iload_n 3, 1, []), (58, .iload 4, 2, []), (60, .invokevirtual 305, 3, [10, 3, 1341, 0, 4, 177]), (63, .nop, 0, [2])],
  [(63, .ireturn, 1, [0])]]
def bl_27 : List Nat := [0, 52, 63]
-- 28: FavourTown.ring()I
def T_28 : List (List pEnt) := [[(0, .aload_n 0, 1, []), (1, .getfield 12, 3, [0, 1, 0, 476, 0, 11]), (4, .invokevirtual 92, 3, [10, 0, 720, 0, 6, 199]), (7, .istore_n 1, 1, []), (8, .aload_n 0, 1, []), (9, .iload_n 1, 1, []), (10, .invokevirtual 308, 3, [10, 1, 1357, 0, 11, 43]), (13, .ifCond .ne 14, 3, [1]), (16, .new 106, 3, [2, 0, 943, 1, 16, 110])],
  [(27, .aload_n 0, 1, []), (28, .getfield 19, 3, [1, 1, 0, 477, 0, 11]), (31, .getfield 313, 3, [11, 0, 1, 265, 0, 9]), (34, .bipush 8, 2, []), (36, .if_icmp .lt 14, 3, [2]), (39, .new 113, 3, [2, 2, 1011, 1, 17, 117])],
  [(50, .aload_n 0, 1, []), (51, .getfield 19, 3, [1, 1, 0, 477, 0, 11]), (54, .aload_n 0, 1, []), (55, .getfield 12, 3, [0, 1, 0, 476, 0, 11]), (58, .getfield 31, 3, [0, 1, 1, 134, 0, 6]), (61, .iload_n 1, 1, []), (62, .invokevirtual 318, 3, [10, 2, 1364, 0, 9, 220]), (65, .ireturn, 1, [0])]]
def bl_28 : List Nat := [0, 27, 50]
-- 29: FavourTown.clear(I)I
def T_29 : List (List pEnt) := [[(0, .iload_n 1, 1, []), (1, .invokestatic 296, 3, [20, 1, 1326, 0, 42]), (4, .aload_n 0, 1, []), (5, .getfield 63, 3, [7, 1, 0, 483, 0, 11]), (8, .invokevirtual 321, 3, [10, 0, 1375, 0, 5, 191]), (11, .iload_n 1, 1, []), (12, .iconst (-1), 1, []), (13, .if_icmp .ne 11, 3, [1]), (16, .aload_n 0, 1, []), (17, .getfield 63, 3, [7, 1, 0, 483, 0, 11]), (20, .getfield 324, 3, [4, 0, 1, 442, 0, 5]), (23, .ireturn, 1, [0])],
  [(24, .iload_n 1, 1, []), (25, .aload_n 0, 1, []), (26, .getfield 19, 3, [1, 1, 0, 477, 0, 11]), (29, .getfield 313, 3, [11, 0, 1, 265, 0, 9]), (32, .if_icmp .ge 17, 3, [2]), (35, .aload_n 0, 1, []), (36, .getfield 63, 3, [7, 1, 0, 483, 0, 11]), (39, .getfield 327, 3, [2, 1, 1, 439, 0, 5]), (42, .iload_n 1, 1, []), (43, .invokestatic 153, 3, [20, 2, 1112, 0, 44]), (46, .goto 4, 3, [3])],
  [(49, .iconst (-1), 1, []), (50, .nop, 0, [3])],
  [(50, .ireturn, 1, [0])]]
def bl_29 : List Nat := [0, 24, 49, 50]
-- 30: FavourTown.loss(II)I
def T_30 : List (List pEnt) := [[(0, .aload_n 0, 1, []), (1, .iload_n 1, 1, []), (2, .invokevirtual 136, 3, [10, 1, 1087, 0, 11, 37]), (5, .aload_n 0, 1, []), (6, .iload_n 2, 1, []), (7, .invokevirtual 136, 3, [10, 1, 1087, 0, 11, 37]), (10, .aload_n 0, 1, []), (11, .getfield 19, 3, [1, 1, 0, 477, 0, 11]), (14, .getfield 177, 3, [1, 1, 1, 246, 0, 9]), (17, .iload_n 1, 1, []), (18, .iload_n 2, 1, []), (19, .invokevirtual 330, 3, [10, 2, 1418, 0, 1, 154]), (22, .ireturn, 1, [0])]]
def bl_30 : List Nat := [0]
-- 31: FavourTown.ruined(I)I
def T_31 : List (List pEnt) := [[(0, .aload_n 0, 1, []), (1, .iload_n 1, 1, []), (2, .invokevirtual 136, 3, [10, 1, 1087, 0, 11, 37]), (5, .iconst (-1), 1, []), (6, .istore_n 2, 1, []), (7, .iconst 0, 1, []), (8, .istore_n 3, 1, []), (9, .iconst 0, 1, []), (10, .istore 4, 2, []), (12, .nop, 0, [1])],
  [(12, .iload 4, 2, []), (14, .aload_n 0, 1, []), (15, .getfield 19, 3, [1, 1, 0, 477, 0, 11]), (18, .getfield 144, 3, [0, 1, 1, 241, 0, 9]), (21, .getfield 270, 3, [5, 0, 1, 173, 0, 2]), (24, .if_icmp .ge 36, 3, [3]), (27, .aload_n 0, 1, []), (28, .getfield 19, 3, [1, 1, 0, 477, 0, 11]), (31, .getfield 177, 3, [1, 1, 1, 246, 0, 9]), (34, .iload_n 1, 1, []), (35, .iload 4, 2, []), (37, .invokevirtual 330, 3, [10, 2, 1418, 0, 1, 154]), (40, .istore 5, 2, []), (42, .iload 5, 2, []), (44, .iload_n 3, 1, []), (45, .if_icmp .le 9, 3, [2]), (48, .iload 5, 2, []), (50, .istore_n 3, 1, []), (51, .iload 4, 2, []), (53, .istore_n 2, 1, []), (54, .nop, 0, [2])],
  [(54, .iinc 4 1, 3, []), (57, .goto (-45), 3, [1])],
  [(60, .iload_n 2, 1, []), (61, .ireturn, 1, [0])]]
def bl_31 : List Nat := [0, 12, 54, 60]
-- 32: FavourTown.fits(I)I
def T_32 : List (List pEnt) := [[(0, .aload_n 0, 1, []), (1, .getfield 12, 3, [0, 1, 0, 476, 0, 11]), (4, .invokevirtual 92, 3, [10, 0, 720, 0, 6, 199]), (7, .istore_n 2, 1, []), (8, .aload_n 0, 1, []), (9, .iload_n 1, 1, []), (10, .invokevirtual 174, 3, [10, 1, 1139, 0, 11, 39]), (13, .aload_n 0, 1, []), (14, .getfield 19, 3, [1, 1, 0, 477, 0, 11]), (17, .getfield 177, 3, [1, 1, 1, 246, 0, 9]), (20, .iload_n 1, 1, []), (21, .invokevirtual 333, 3, [10, 1, 1441, 0, 1, 148]), (24, .istore_n 3, 1, []), (25, .iload_n 2, 1, []), (26, .iload_n 3, 1, []), (27, .invokestatic 336, 3, [2, 544]), (30, .istore 4, 2, []), (32, .iconst 0, 1, []), (33, .istore 5, 2, []), (35, .nop, 0, [1])],
  [(35, .iload 5, 2, []), (37, .iload 4, 2, []), (39, .if_icmp .ge 43, 3, [3]), (42, .aload_n 0, 1, []), (43, .getfield 12, 3, [0, 1, 0, 476, 0, 11]), (46, .getfield 31, 3, [0, 1, 1, 134, 0, 6]), (49, .iload 5, 2, []), (51, .invokestatic 153, 3, [20, 2, 1112, 0, 44]), (54, .bipush 97, 2, []), (56, .isub, 1, []), (57, .aload_n 0, 1, []), (58, .getfield 19, 3, [1, 1, 0, 477, 0, 11]), (61, .getfield 177, 3, [1, 1, 1, 246, 0, 9]), (64, .iload_n 1, 1, []), (65, .iload 5, 2, []), (67, .invokevirtual 227, 3, [10, 2, 1196, 0, 1, 149]), (70, .if_icmp .eq 6, 3, [2]), (73, .iload 5, 2, []), (75, .ireturn, 1, [0])],
  [(76, .iinc 5 1, 3, []), (79, .goto (-44), 3, [1])],
  [(82, .iload_n 2, 1, []), (83, .iload_n 3, 1, []), (84, .if_icmp .ne 7, 3, [4]), (87, .iconst (-1), 1, []), (88, .goto 5, 3, [5])],
  [(91, .iload 4, 2, []), (93, .nop, 0, [5])],
  [(93, .ireturn, 1, [0])]]
def bl_32 : List Nat := [0, 35, 76, 82, 91, 93]
-- 33: FavourTown.play(III)I
def T_33 : List (List pEnt) := [[(0, .iload_n 2, 1, []), (1, .ifCond .lt 9, 3, [1]), (4, .iload_n 2, 1, []), (5, .bipush 60, 2, []), (7, .if_icmp .le 14, 3, [2]), (10, .nop, 0, [1])],
  [(10, .new 106, 3, [2, 0, 943, 1, 18, 110])],
  [(21, .iload_n 3, 1, []), (22, .ifCond .lt 8, 3, [3]), (25, .iload_n 3, 1, []), (26, .iconst 5, 1, []), (27, .if_icmp .le 14, 3, [4]), (30, .nop, 0, [3])],
  [(30, .new 222, 3, [2, 3, 1173, 1, 19, 226])],
  [(41, .aload_n 0, 1, []), (42, .getfield 26, 3, [3, 1, 0, 479, 0, 11]), (45, .aload_n 0, 1, []), (46, .getfield 19, 3, [1, 1, 0, 477, 0, 11]), (49, .invokevirtual 89, 3, [10, 1, 533, 0, 9, 216]), (52, .aload_n 0, 1, []), (53, .getfield 70, 3, [8, 1, 0, 484, 0, 11]), (56, .aload_n 0, 1, []), (57, .getfield 26, 3, [3, 1, 0, 479, 0, 11]), (60, .iload_n 1, 1, []), (61, .iload_n 2, 1, []), (62, .invokevirtual 345, 3, [10, 3, 1451, 0, 3, 166]), (65, .iload_n 3, 1, []), (66, .tableswitch 80 0 4 #[34, 42, 50, 58, 69], 34, [10, 5, 6, 7, 8, 9])],
  [(100, .aload_n 0, 1, []), (101, .getfield 70, 3, [8, 1, 0, 484, 0, 11]), (104, .getfield 349, 3, [1, 0, 1, 462, 0, 3]), (107, .ireturn, 1, [0])],
  [(108, .aload_n 0, 1, []), (109, .getfield 70, 3, [8, 1, 0, 484, 0, 11]), (112, .getfield 352, 3, [2, 0, 1, 464, 0, 3]), (115, .ireturn, 1, [0])],
  [(116, .aload_n 0, 1, []), (117, .getfield 70, 3, [8, 1, 0, 484, 0, 11]), (120, .getfield 355, 3, [3, 0, 1, 466, 0, 3]), (123, .ireturn, 1, [0])],
  [(124, .aload_n 0, 1, []), (125, .getfield 26, 3, [3, 1, 0, 479, 0, 11]), (128, .getfield 177, 3, [1, 1, 1, 246, 0, 9]), (131, .invokevirtual 358, 3, [10, 0, 700, 0, 1, 151]), (134, .ireturn, 1, [0])],
  [(135, .aload_n 0, 1, []), (136, .getfield 26, 3, [3, 1, 0, 479, 0, 11]), (139, .getfield 144, 3, [0, 1, 1, 241, 0, 9]), (142, .invokevirtual 361, 3, [10, 0, 1467, 0, 2, 163]), (145, .ireturn, 1, [0])],
  [(146, .aload_n 0, 1, []), (147, .getfield 26, 3, [3, 1, 0, 479, 0, 11]), (150, .getfield 144, 3, [0, 1, 1, 241, 0, 9]), (153, .invokevirtual 364, 3, [10, 0, 1471, 0, 2, 164]), (156, .ireturn, 1, [0])]]
def bl_33 : List Nat := [0, 10, 21, 30, 41, 100, 108, 116, 124, 135, 146]
-- 34: FavourTown.image()V
def T_34 : List (List pEnt) := [[(0, .aload_n 0, 1, []), (1, .getfield 23, 3, [2, 1, 0, 478, 0, 11]), (4, .aload_n 0, 1, []), (5, .getfield 19, 3, [1, 1, 0, 477, 0, 11]), (8, .invokevirtual 89, 3, [10, 1, 533, 0, 9, 216]), (11, .aload_n 0, 1, []), (12, .iconst 1, 1, []), (13, .putfield 74, 3, [9, 2, 0, 485, 0, 11]), (16, .return_, 1, [])]]
def bl_34 : List Nat := [0]
-- 35: FavourTown.back()Z
def T_35 : List (List pEnt) := [[(0, .aload_n 0, 1, []), (1, .getfield 74, 3, [9, 2, 0, 485, 0, 11]), (4, .ifCond .ne 5, 3, [1]), (7, .iconst 0, 1, []), (8, .ireturn, 1, [2])],
  [(9, .aload_n 0, 1, []), (10, .getfield 19, 3, [1, 1, 0, 477, 0, 11]), (13, .aload_n 0, 1, []), (14, .getfield 23, 3, [2, 1, 0, 478, 0, 11]), (17, .invokevirtual 89, 3, [10, 1, 533, 0, 9, 216]), (20, .iconst 1, 1, []), (21, .ireturn, 1, [2])]]
def bl_35 : List Nat := [0, 9]
-- 36: FavourTown.count(I)I
def T_36 : List (List pEnt) := [[(0, .iload_n 1, 1, []), (1, .tableswitch 147 0 9 #[55, 66, 74, 82, 93, 104, 112, 120, 128, 136], 55, [11, 1, 2, 3, 4, 5, 6, 7, 8, 9, 10])],
  [(56, .aload_n 0, 1, []), (57, .getfield 19, 3, [1, 1, 0, 477, 0, 11]), (60, .getfield 144, 3, [0, 1, 1, 241, 0, 9]), (63, .getfield 270, 3, [5, 0, 1, 173, 0, 2]), (66, .ireturn, 1, [0])],
  [(67, .aload_n 0, 1, []), (68, .getfield 19, 3, [1, 1, 0, 477, 0, 11]), (71, .getfield 103, 3, [12, 0, 1, 267, 0, 9]), (74, .ireturn, 1, [0])],
  [(75, .aload_n 0, 1, []), (76, .getfield 19, 3, [1, 1, 0, 477, 0, 11]), (79, .getfield 123, 3, [9, 0, 1, 259, 0, 9]), (82, .ireturn, 1, [0])],
  [(83, .aload_n 0, 1, []), (84, .getfield 19, 3, [1, 1, 0, 477, 0, 11]), (87, .getfield 177, 3, [1, 1, 1, 246, 0, 9]), (90, .getfield 367, 3, [7, 0, 1, 216, 0, 1]), (93, .ireturn, 1, [0])],
  [(94, .aload_n 0, 1, []), (95, .getfield 19, 3, [1, 1, 0, 477, 0, 11]), (98, .getfield 177, 3, [1, 1, 1, 246, 0, 9]), (101, .invokevirtual 358, 3, [10, 0, 700, 0, 1, 151]), (104, .ireturn, 1, [0])],
  [(105, .aload_n 0, 1, []), (106, .getfield 19, 3, [1, 1, 0, 477, 0, 11]), (109, .getfield 368, 3, [10, 0, 1, 262, 0, 9]), (112, .ireturn, 1, [0])],
  [(113, .aload_n 0, 1, []), (114, .getfield 19, 3, [1, 1, 0, 477, 0, 11]), (117, .getfield 313, 3, [11, 0, 1, 265, 0, 9]), (120, .ireturn, 1, [0])],
  [(121, .aload_n 0, 1, []), (122, .getfield 19, 3, [1, 1, 0, 477, 0, 11]), (125, .getfield 371, 3, [13, 0, 1, 269, 0, 9]), (128, .ireturn, 1, [0])],
  [(129, .aload_n 0, 1, []), (130, .getfield 19, 3, [1, 1, 0, 477, 0, 11]), (133, .getfield 374, 3, [14, 0, 1, 272, 0, 9]), (136, .ireturn, 1, [0])],
  [(137, .aload_n 0, 1, []), (138, .getfield 19, 3, [1, 1, 0, 477, 0, 11]), (141, .getfield 144, 3, [0, 1, 1, 241, 0, 9]), (144, .invokevirtual 377, 3, [10, 0, 705, 0, 2, 162]), (147, .ireturn, 1, [0])],
  [(148, .iconst (-1), 1, []), (149, .ireturn, 1, [0])]]
def bl_36 : List Nat := [0, 56, 67, 75, 83, 94, 105, 113, 121, 129, 137, 148]
-- 37: FavourTown.needPerson(I)V
def T_37 : List (List pEnt) := [[(0, .aload_n 0, 1, []), (1, .getfield 19, 3, [1, 1, 0, 477, 0, 11]), (4, .getfield 144, 3, [0, 1, 1, 241, 0, 9]), (7, .iload_n 1, 1, []), (8, .invokevirtual 380, 3, [10, 1, 1091, 0, 2, 159]), (11, .ifCond .ne 14, 3, [1]), (14, .new 139, 3, [2, 1, 1095, 1, 5, 143])],
  [(25, .return_, 1, [])]]
def bl_37 : List Nat := [0, 25]
-- 38: FavourTown.needTwoPeople(II)V
def T_38 : List (List pEnt) := [[(0, .aload_n 0, 1, []), (1, .iload_n 1, 1, []), (2, .invokevirtual 136, 3, [10, 1, 1087, 0, 11, 37]), (5, .aload_n 0, 1, []), (6, .iload_n 2, 1, []), (7, .invokevirtual 136, 3, [10, 1, 1087, 0, 11, 37]), (10, .iload_n 1, 1, []), (11, .iload_n 2, 1, []), (12, .if_icmp .ne 14, 3, [1]), (15, .new 106, 3, [2, 0, 943, 1, 7, 110])],
  [(26, .return_, 1, [])]]
def bl_38 : List Nat := [0, 26]
-- 39: FavourTown.needFavour(I)V
def T_39 : List (List pEnt) := [[(0, .iload_n 1, 1, []), (1, .ifCond .lt 17, 3, [1]), (4, .iload_n 1, 1, []), (5, .aload_n 0, 1, []), (6, .getfield 19, 3, [1, 1, 0, 477, 0, 11]), (9, .getfield 177, 3, [1, 1, 1, 246, 0, 9]), (12, .getfield 367, 3, [7, 0, 1, 216, 0, 1]), (15, .if_icmp .lt 14, 3, [2]), (18, .nop, 0, [1])],
  [(18, .new 139, 3, [2, 1, 1095, 1, 10, 143])],
  [(29, .return_, 1, [])]]
def bl_39 : List Nat := [0, 18, 29]
-- 40: FavourTown.needNeed(I)V
def T_40 : List (List pEnt) := [[(0, .iload_n 1, 1, []), (1, .ifCond .lt 14, 3, [1]), (4, .iload_n 1, 1, []), (5, .aload_n 0, 1, []), (6, .getfield 19, 3, [1, 1, 0, 477, 0, 11]), (9, .getfield 368, 3, [10, 0, 1, 262, 0, 9]), (12, .if_icmp .lt 14, 3, [2]), (15, .nop, 0, [1])],
  [(15, .new 139, 3, [2, 1, 1095, 1, 14, 143])],
  [(26, .return_, 1, [])]]
def bl_40 : List Nat := [0, 15, 26]
-- 41: FavourTown.needWholes(I)V
def T_41 : List (List pEnt) := [[(0, .iload_n 0, 1, []), (1, .iconst 1, 1, []), (2, .if_icmp .lt 9, 3, [1]), (5, .iload_n 0, 1, []), (6, .bipush 99, 2, []), (8, .if_icmp .le 14, 3, [2]), (11, .nop, 0, [1])],
  [(11, .new 106, 3, [2, 0, 943, 1, 8, 110])],
  [(22, .return_, 1, [])]]
def bl_41 : List Nat := [0, 11, 22]
-- 42: FavourTown.needPlace(I)V
def T_42 : List (List pEnt) := [[(0, .iload_n 0, 1, []), (1, .iconst (-1), 1, []), (2, .if_icmp .ge 14, 3, [1]), (5, .new 106, 3, [2, 0, 943, 1, 15, 110])],
  [(16, .return_, 1, [])]]
def bl_42 : List Nat := [0, 16]
-- 43: FavourTown.isRing(I)Z
def T_43 : List (List pEnt) := [[(0, .iload_n 1, 1, []), (1, .iconst 2, 1, []), (2, .if_icmp .lt 9, 3, [1]), (5, .iload_n 1, 1, []), (6, .bipush 6, 2, []), (8, .if_icmp .le 5, 3, [2]), (11, .nop, 0, [1])],
  [(11, .iconst 0, 1, []), (12, .ireturn, 1, [2])],
  [(13, .iconst 0, 1, []), (14, .istore_n 2, 1, []), (15, .iconst 0, 1, []), (16, .istore_n 3, 1, []), (17, .nop, 0, [3])],
  [(17, .iload_n 3, 1, []), (18, .iload_n 1, 1, []), (19, .if_icmp .ge 58, 3, [6]), (22, .aload_n 0, 1, []), (23, .getfield 12, 3, [0, 1, 0, 476, 0, 11]), (26, .getfield 31, 3, [0, 1, 1, 134, 0, 6]), (29, .iload_n 3, 1, []), (30, .invokestatic 153, 3, [20, 2, 1112, 0, 44]), (33, .bipush 97, 2, []), (35, .isub, 1, []), (36, .istore 4, 2, []), (38, .aload_n 0, 1, []), (39, .getfield 19, 3, [1, 1, 0, 477, 0, 11]), (42, .getfield 144, 3, [0, 1, 1, 241, 0, 9]), (45, .iload 4, 2, []), (47, .invokevirtual 380, 3, [10, 1, 1091, 0, 2, 159]), (50, .ifCond .eq 12, 3, [4]), (53, .iload_n 2, 1, []), (54, .iload 4, 2, []), (56, .invokestatic 395, 3, [20, 2, 1361, 0, 48]), (59, .ifCond .eq 5, 3, [5]), (62, .nop, 0, [4])],
  [(62, .iconst 0, 1, []), (63, .ireturn, 1, [2])],
  [(64, .iload_n 2, 1, []), (65, .iconst 1, 1, []), (66, .iload 4, 2, []), (68, .ishl, 1, []), (69, .ior, 1, []), (70, .istore_n 2, 1, []), (71, .iinc 3 1, 3, []), (74, .goto (-57), 3, [3])],
  [(77, .iconst 1, 1, []), (78, .ireturn, 1, [2])]]
def bl_43 : List Nat := [0, 11, 13, 17, 62, 64, 77]
-- 44: FavourTown.at([II)I
def T_44 : List (List pEnt) := [[(0, .iload_n 1, 1, []), (1, .ifCond .lt 15, 3, [1]), (4, .iload_n 1, 1, []), (5, .aload_n 0, 1, []), (6, .arraylength, 1, []), (7, .if_icmp .ge 9, 3, [1]), (10, .aload_n 0, 1, []), (11, .iload_n 1, 1, []), (12, .iaload, 1, []), (13, .goto 4, 3, [2])],
  [(16, .iconst (-1), 1, []), (17, .nop, 0, [2])],
  [(17, .ireturn, 1, [0])]]
def bl_44 : List Nat := [0, 16, 17]
-- 45: FavourTown.put([III)V
def T_45 : List (List pEnt) := [[(0, .iload_n 1, 1, []), (1, .ifCond .lt 13, 3, [1]), (4, .iload_n 1, 1, []), (5, .aload_n 0, 1, []), (6, .arraylength, 1, []), (7, .if_icmp .ge 7, 3, [1]), (10, .aload_n 0, 1, []), (11, .iload_n 1, 1, []), (12, .iload_n 2, 1, []), (13, .iastore, 1, []), (14, .nop, 0, [1])],
  [(14, .return_, 1, [])]]
def bl_45 : List Nat := [0, 14]
-- 46: FavourTown.addTo([III)V
def T_46 : List (List pEnt) := [[(0, .iload_n 1, 1, []), (1, .ifCond .lt 16, 3, [1]), (4, .iload_n 1, 1, []), (5, .aload_n 0, 1, []), (6, .arraylength, 1, []), (7, .if_icmp .ge 10, 3, [1]), (10, .aload_n 0, 1, []), (11, .iload_n 1, 1, []), (12, .dup2, 1, []), (13, .iaload, 1, []), (14, .iload_n 2, 1, []), (15, .iadd, 1, []), (16, .iastore, 1, []), (17, .nop, 0, [1])],
  [(17, .return_, 1, [])]]
def bl_46 : List Nat := [0, 17]
-- 47: FavourTown.copy([I[I)V
def T_47 : List (List pEnt) := [[(0, .aload_n 0, 1, []), (1, .iconst 0, 1, []), (2, .aload_n 1, 1, []), (3, .iconst 0, 1, []), (4, .aload_n 0, 1, []), (5, .arraylength, 1, []), (6, .aload_n 1, 1, []), (7, .arraylength, 1, []), (8, .invokestatic 336, 3, [2, 544]), (11, .invokestatic 398, 3, [3, 547]), (14, .return_, 1, [])]]
def bl_47 : List Nat := [0]
-- 48: FavourTown.hasBit(II)Z
def T_48 : List (List pEnt) := [[(0, .iload_n 0, 1, []), (1, .iload_n 1, 1, []), (2, .ishr, 1, []), (3, .iconst 1, 1, []), (4, .iand, 1, []), (5, .iconst 1, 1, []), (6, .if_icmp .ne 7, 3, [1]), (9, .iconst 1, 1, []), (10, .goto 4, 3, [2])],
  [(13, .iconst 0, 1, []), (14, .nop, 0, [2])],
  [(14, .ireturn, 1, [2])]]
def bl_48 : List Nat := [0, 13, 14]
-- 49: FavourTown.oneIf(Z)I
def T_49 : List (List pEnt) := [[(0, .iload_n 0, 1, []), (1, .ifCond .eq 7, 3, [1]), (4, .iconst 1, 1, []), (5, .goto 4, 3, [2])],
  [(8, .iconst 0, 1, []), (9, .nop, 0, [2])],
  [(9, .ireturn, 1, [0])]]
def bl_49 : List Nat := [0, 8, 9]
-- 50: FavourTownModel.<init>()V
def T_50 : List (List pEnt) := [[(0, .aload_n 0, 1, []), (1, .invokespecial 1, 3, [0, 1480]), (4, .aload_n 0, 1, []), (5, .sipush 3346, 3, []), (8, .newarray .int, 2, []), (10, .putfield 7, 3, [1, 1, 0, 1482, 0, 12]), (13, .aload_n 0, 1, []), (14, .sipush 3346, 3, []), (17, .newarray .int, 2, []), (19, .putfield 13, 3, [2, 1, 0, 1483, 0, 12]), (22, .aload_n 0, 1, []), (23, .sipush 940, 3, []), (26, .newarray .int, 2, []), (28, .putfield 16, 3, [4, 1, 0, 1485, 0, 12]), (31, .aload_n 0, 1, []), (32, .sipush 400, 3, []), (35, .newarray .int, 2, []), (37, .putfield 19, 3, [5, 1, 0, 1486, 0, 12]), (40, .aload_n 0, 1, []), (41, .iconst (-1), 1, []), (42, .putfield 22, 3, [10, 0, 0, 1491, 0, 12]), (45, .aload_n 0, 1, []), (46, .bipush 6, 2, []), (48, .newarray .int, 2, []), (50, .putfield 26, 3, [13, 1, 0, 1494, 0, 12]), (53, .aload_n 0, 1, []), (54, .sipush 144, 3, []), (57, .newarray .int, 2, []), (59, .putfield 29, 3, [18, 1, 0, 1499, 0, 12]), (62, .aload_n 0, 1, []), (63, .bipush 12, 2, []), (65, .newarray .int, 2, []), (67, .putfield 32, 3, [19, 1, 0, 1500, 0, 12]), (70, .aload_n 0, 1, []), (71, .bipush 12, 2, []), (73, .newarray .int, 2, []), (75, .putfield 35, 3, [20, 1, 0, 1501, 0, 12]), (78, .aload_n 0, 1, []), (79, .bipush 12, 2, []), (81, .newarray .int, 2, []), (83, .putfield 38, 3, [21, 1, 0, 1502, 0, 12]), (86, .aload_n 0, 1, []), (87, .sipush 144, 3, []), (90, .newarray .int, 2, []), (92, .putfield 41, 3, [22, 1, 0, 1503, 0, 12]), (95, .aload_n 0, 1, []), (96, .bipush 8, 2, []), (98, .newarray .int, 2, []), (100, .putfield 44, 3, [23, 1, 0, 1504, 0, 12]), (103, .aload_n 0, 1, []), (104, .bipush 8, 2, []), (106, .newarray .int, 2, []), (108, .putfield 47, 3, [24, 1, 0, 1505, 0, 12]), (111, .aload_n 0, 1, []), (112, .bipush 40, 2, []), (114, .newarray .int, 2, []), (116, .putfield 50, 3, [27, 1, 0, 1508, 0, 12]), (119, .aload_n 0, 1, []), (120, .getfield 7, 3, [1, 1, 0, 1482, 0, 12]), (123, .bipush 7, 2, []), (125, .bipush 10, 2, []), (127, .iastore, 1, []), (128, .return_, 1, [])]]
def bl_50 : List Nat := [0]
-- 51: FavourTownModel.thrown()I
def T_51 : List (List pEnt) := [[(0, .aload_n 0, 1, []), (1, .getfield 53, 3, [0, 0, 0, 1481, 0, 12]), (4, .ireturn, 1, [0])]]
def bl_51 : List Nat := [0]
-- 52: FavourTownModel.isIn(III)Z
def T_52 : List (List pEnt) := [[(0, .iload_n 0, 1, []), (1, .iload_n 1, 1, []), (2, .if_icmp .lt 12, 3, [1]), (5, .iload_n 0, 1, []), (6, .iload_n 2, 1, []), (7, .if_icmp .gt 7, 3, [1]), (10, .iconst 1, 1, []), (11, .goto 4, 3, [2])],
  [(14, .iconst 0, 1, []), (15, .nop, 0, [2])],
  [(15, .ireturn, 1, [2])]]
def bl_52 : List Nat := [0, 14, 15]
-- 53: FavourTownModel.isPerson(I)Z
def T_53 : List (List pEnt) := [[(0, .iload_n 1, 1, []), (1, .iconst 0, 1, []), (2, .aload_n 0, 1, []), (3, .getfield 7, 3, [1, 1, 0, 1482, 0, 12]), (6, .iconst 1, 1, []), (7, .iaload, 1, []), (8, .iconst 1, 1, []), (9, .isub, 1, []), (10, .invokestatic 56, 3, [20, 3, 1581, 0, 52]), (13, .ireturn, 1, [2])]]
def bl_53 : List Nat := [0]
-- 54: FavourTownModel.isFavour(I)Z
def T_54 : List (List pEnt) := [[(0, .iload_n 1, 1, []), (1, .iconst 0, 1, []), (2, .aload_n 0, 1, []), (3, .getfield 7, 3, [1, 1, 0, 1482, 0, 12]), (6, .iconst 3, 1, []), (7, .iaload, 1, []), (8, .iconst 1, 1, []), (9, .isub, 1, []), (10, .invokestatic 56, 3, [20, 3, 1581, 0, 52]), (13, .ireturn, 1, [2])]]
def bl_54 : List Nat := [0]
-- 55: FavourTownModel.of(II)I
def T_55 : List (List pEnt) := [[(0, .aload_n 0, 1, []), (1, .getfield 7, 3, [1, 1, 0, 1482, 0, 12]), (4, .sipush 140, 3, []), (7, .bipush 20, 2, []), (9, .iload_n 1, 1, []), (10, .imul, 1, []), (11, .iadd, 1, []), (12, .iload_n 2, 1, []), (13, .iadd, 1, []), (14, .iaload, 1, []), (15, .ireturn, 1, [0])]]
def bl_55 : List Nat := [0]
-- 56: FavourTownModel.sets(III)V
def T_56 : List (List pEnt) := [[(0, .aload_n 0, 1, []), (1, .getfield 7, 3, [1, 1, 0, 1482, 0, 12]), (4, .sipush 140, 3, []), (7, .bipush 20, 2, []), (9, .iload_n 1, 1, []), (10, .imul, 1, []), (11, .iadd, 1, []), (12, .iload_n 2, 1, []), (13, .iadd, 1, []), (14, .iload_n 3, 1, []), (15, .iastore, 1, []), (16, .return_, 1, [])]]
def bl_56 : List Nat := [0]
-- 57: FavourTownModel.isNearTo(II)Z
def T_57 : List (List pEnt) := [[(0, .aload_n 0, 1, []), (1, .getfield 7, 3, [1, 1, 0, 1482, 0, 12]), (4, .bipush 10, 2, []), (6, .iconst 3, 1, []), (7, .iload_n 1, 1, []), (8, .imul, 1, []), (9, .iadd, 1, []), (10, .iconst 2, 1, []), (11, .iadd, 1, []), (12, .iaload, 1, []), (13, .iload_n 2, 1, []), (14, .ishr, 1, []), (15, .iconst 1, 1, []), (16, .iand, 1, []), (17, .iconst 1, 1, []), (18, .if_icmp .ne 7, 3, [1]), (21, .iconst 1, 1, []), (22, .goto 4, 3, [2])],
  [(25, .iconst 0, 1, []), (26, .nop, 0, [2])],
  [(26, .ireturn, 1, [2])]]
def bl_57 : List Nat := [0, 25, 26]
-- 58: FavourTownModel.feed(IIIII)I
def T_58 : List (List pEnt) := [[(0, .aload_n 0, 1, []), (1, .iconst 0, 1, []), (2, .putfield 53, 3, [0, 0, 0, 1481, 0, 12]), (5, .aload_n 0, 1, []), (6, .getfield 60, 3, [6, 0, 0, 1487, 0, 12]), (9, .bipush 20, 2, []), (11, .iadd, 1, []), (12, .sipush 400, 3, []), (15, .if_icmp .le 5, 3, [1]), (18, .iconst (-1), 1, []), (19, .ireturn, 1, [0])],
  [(20, .iconst 0, 1, []), (21, .istore 6, 2, []), (23, .nop, 0, [2])],
  [(23, .iload 6, 2, []), (25, .bipush 20, 2, []), (27, .if_icmp .ge 93, 3, [8]), (30, .iload 6, 2, []), (32, .iconst 4, 1, []), (33, .if_icmp .ge 7, 3, [3]), (36, .iload_n 1, 1, []), (37, .goto 39, 3, [7])],
  [(40, .iload 6, 2, []), (42, .bipush 8, 2, []), (44, .if_icmp .ge 7, 3, [4]), (47, .iload_n 2, 1, []), (48, .goto 28, 3, [7])],
  [(51, .iload 6, 2, []), (53, .bipush 12, 2, []), (55, .if_icmp .ge 7, 3, [5]), (58, .iload_n 3, 1, []), (59, .goto 17, 3, [7])],
  [(62, .iload 6, 2, []), (64, .bipush 16, 2, []), (66, .if_icmp .ge 8, 3, [6]), (69, .iload 4, 2, []), (71, .goto 5, 3, [7])],
  [(74, .iload 5, 2, []), (76, .nop, 0, [7])],
  [(76, .istore 7, 2, []), (78, .aload_n 0, 1, []), (79, .getfield 19, 3, [5, 1, 0, 1486, 0, 12]), (82, .aload_n 0, 1, []), (83, .getfield 60, 3, [6, 0, 0, 1487, 0, 12]), (86, .iload 7, 2, []), (88, .bipush 24, 2, []), (90, .bipush 8, 2, []), (92, .iload 6, 2, []), (94, .iconst 4, 1, []), (95, .irem, 1, []), (96, .imul, 1, []), (97, .isub, 1, []), (98, .iushr, 1, []), (99, .sipush 255, 3, []), (102, .iand, 1, []), (103, .iastore, 1, []), (104, .aload_n 0, 1, []), (105, .dup, 1, []), (106, .getfield 60, 3, [6, 0, 0, 1487, 0, 12]), (109, .iconst 1, 1, []), (110, .iadd, 1, []), (111, .putfield 60, 3, [6, 0, 0, 1487, 0, 12]), (114, .iinc 6 1, 3, []), (117, .goto (-94), 3, [2])],
  [(120, .aload_n 0, 1, []), (121, .getfield 60, 3, [6, 0, 0, 1487, 0, 12]), (124, .ireturn, 1, [0])]]
def bl_58 : List Nat := [0, 20, 23, 40, 51, 62, 74, 76, 120]
-- 59: FavourTownModel.end(I)Z
def T_59 : List (List pEnt) := [[(0, .aload_n 0, 1, []), (1, .iconst 0, 1, []), (2, .putfield 53, 3, [0, 0, 0, 1481, 0, 12]), (5, .iload_n 1, 1, []), (6, .iconst 0, 1, []), (7, .aload_n 0, 1, []), (8, .getfield 60, 3, [6, 0, 0, 1487, 0, 12]), (11, .invokestatic 56, 3, [20, 3, 1581, 0, 52]), (14, .ifCond .ne 5, 3, [1]), (17, .iconst 0, 1, []), (18, .ireturn, 1, [2])],
  [(19, .aload_n 0, 1, []), (20, .iload_n 1, 1, []), (21, .putfield 60, 3, [6, 0, 0, 1487, 0, 12]), (24, .iconst 1, 1, []), (25, .ireturn, 1, [2])]]
def bl_59 : List Nat := [0, 19]
-- 60: FavourTownModel.letter(I)I
def T_60 : List (List pEnt) := [[(0, .aload_n 0, 1, []), (1, .getfield 63, 3, [7, 0, 0, 1488, 0, 12]), (4, .iconst (-1), 1, []), (5, .if_icmp .ne 12, 3, [1]), (8, .aload_n 0, 1, []), (9, .getfield 19, 3, [5, 1, 0, 1486, 0, 12]), (12, .iload_n 1, 1, []), (13, .iaload, 1, []), (14, .goto 14, 3, [2])],
  [(17, .aload_n 0, 1, []), (18, .getfield 7, 3, [1, 1, 0, 1482, 0, 12]), (21, .aload_n 0, 1, []), (22, .getfield 63, 3, [7, 0, 0, 1488, 0, 12]), (25, .iload_n 1, 1, []), (26, .iadd, 1, []), (27, .iaload, 1, []), (28, .nop, 0, [2])],
  [(28, .ireturn, 1, [0])]]
def bl_60 : List Nat := [0, 17, 28]
-- 61: FavourTownModel.skip()V
def T_61 : List (List pEnt) := [[(0, .aload_n 0, 1, []), (1, .getfield 66, 3, [9, 0, 0, 1490, 0, 12]), (4, .aload_n 0, 1, []), (5, .getfield 69, 3, [8, 0, 0, 1489, 0, 12]), (8, .if_icmp .ge 29, 3, [1]), (11, .aload_n 0, 1, []), (12, .aload_n 0, 1, []), (13, .getfield 66, 3, [9, 0, 0, 1490, 0, 12]), (16, .invokevirtual 72, 3, [10, 1, 1596, 0, 12, 60]), (19, .bipush 32, 2, []), (21, .if_icmp .ne 16, 3, [1]), (24, .aload_n 0, 1, []), (25, .dup, 1, []), (26, .getfield 66, 3, [9, 0, 0, 1490, 0, 12]), (29, .iconst 1, 1, []), (30, .iadd, 1, []), (31, .putfield 66, 3, [9, 0, 0, 1490, 0, 12]), (34, .goto (-34), 3, [0])],
  [(37, .return_, 1, [])]]
def bl_61 : List Nat := [0, 37]
-- 62: FavourTownModel.isSign(I)Z
def T_62 : List (List pEnt) := [[(0, .aload_n 0, 1, []), (1, .invokevirtual 76, 3, [10, 0, 1592, 0, 12, 61]), (4, .aload_n 0, 1, []), (5, .getfield 66, 3, [9, 0, 0, 1490, 0, 12]), (8, .aload_n 0, 1, []), (9, .getfield 69, 3, [8, 0, 0, 1489, 0, 12]), (12, .if_icmp .ge 19, 3, [1]), (15, .aload_n 0, 1, []), (16, .aload_n 0, 1, []), (17, .getfield 66, 3, [9, 0, 0, 1490, 0, 12]), (20, .invokevirtual 72, 3, [10, 1, 1596, 0, 12, 60]), (23, .iload_n 1, 1, []), (24, .if_icmp .ne 7, 3, [1]), (27, .iconst 1, 1, []), (28, .goto 4, 3, [2])],
  [(31, .iconst 0, 1, []), (32, .nop, 0, [2])],
  [(32, .ireturn, 1, [2])]]
def bl_62 : List Nat := [0, 31, 32]
-- 63: FavourTownModel.has0(Ljava/lang/String;)Z
def T_63 : List (List pEnt) := [[(0, .aload_n 0, 1, []), (1, .invokevirtual 76, 3, [10, 0, 1592, 0, 12, 61]), (4, .aload_n 0, 1, []), (5, .getfield 66, 3, [9, 0, 0, 1490, 0, 12]), (8, .istore_n 2, 1, []), (9, .nop, 0, [1])],
  [(9, .iload_n 2, 1, []), (10, .aload_n 0, 1, []), (11, .getfield 69, 3, [8, 0, 0, 1489, 0, 12]), (14, .if_icmp .ge 24, 3, [2]), (17, .aload_n 0, 1, []), (18, .iload_n 2, 1, []), (19, .invokevirtual 72, 3, [10, 1, 1596, 0, 12, 60]), (22, .bipush 97, 2, []), (24, .bipush 122, 2, []), (26, .invokestatic 56, 3, [20, 3, 1581, 0, 52]), (29, .ifCond .eq 9, 3, [2]), (32, .iinc 2 1, 3, []), (35, .goto (-26), 3, [1])],
  [(38, .iload_n 2, 1, []), (39, .aload_n 0, 1, []), (40, .getfield 66, 3, [9, 0, 0, 1490, 0, 12]), (43, .isub, 1, []), (44, .aload_n 1, 1, []), (45, .invokevirtual 79, 3, [19, 0, 1613, 0, 104, 280]), (48, .if_icmp .eq 5, 3, [3]), (51, .iconst 0, 1, []), (52, .ireturn, 1, [2])],
  [(53, .iconst 0, 1, []), (54, .istore_n 3, 1, []), (55, .nop, 0, [4])],
  [(55, .iload_n 3, 1, []), (56, .aload_n 1, 1, []), (57, .invokevirtual 79, 3, [19, 0, 1613, 0, 104, 280]), (60, .if_icmp .ge 29, 3, [6]), (63, .aload_n 0, 1, []), (64, .aload_n 0, 1, []), (65, .getfield 66, 3, [9, 0, 0, 1490, 0, 12]), (68, .iload_n 3, 1, []), (69, .iadd, 1, []), (70, .invokevirtual 72, 3, [10, 1, 1596, 0, 12, 60]), (73, .aload_n 1, 1, []), (74, .iload_n 3, 1, []), (75, .invokevirtual 85, 3, [19, 1, 1614, 0, 104, 281]), (78, .if_icmp .eq 5, 3, [5]), (81, .iconst 0, 1, []), (82, .ireturn, 1, [2])],
  [(83, .iinc 3 1, 3, []), (86, .goto (-31), 3, [4])],
  [(89, .aload_n 0, 1, []), (90, .iload_n 2, 1, []), (91, .putfield 66, 3, [9, 0, 0, 1490, 0, 12]), (94, .iconst 1, 1, []), (95, .ireturn, 1, [2])]]
def bl_63 : List Nat := [0, 9, 38, 53, 55, 83, 89]
-- 64: FavourTownModel.wrong(I)V
def T_64 : List (List pEnt) := [[(0, .aload_n 0, 1, []), (1, .getfield 22, 3, [10, 0, 0, 1491, 0, 12]), (4, .iconst (-1), 1, []), (5, .if_icmp .ne 8, 3, [1]), (8, .aload_n 0, 1, []), (9, .iload_n 1, 1, []), (10, .putfield 22, 3, [10, 0, 0, 1491, 0, 12]), (13, .nop, 0, [1])],
  [(13, .return_, 1, [])]]
def bl_64 : List Nat := [0, 13]
-- 65: FavourTownModel.must(Ljava/lang/String;)V
def T_65 : List (List pEnt) := [[(0, .aload_n 0, 1, []), (1, .getfield 22, 3, [10, 0, 0, 1491, 0, 12]), (4, .iconst (-1), 1, []), (5, .if_icmp .ne 19, 3, [1]), (8, .aload_n 0, 1, []), (9, .aload_n 1, 1, []), (10, .invokevirtual 89, 3, [10, 1, 1609, 0, 12, 63]), (13, .ifCond .ne 11, 3, [1]), (16, .aload_n 0, 1, []), (17, .aload_n 0, 1, []), (18, .getfield 66, 3, [9, 0, 0, 1490, 0, 12]), (21, .invokevirtual 93, 3, [10, 1, 1600, 0, 12, 64]), (24, .nop, 0, [1])],
  [(24, .return_, 1, [])]]
def bl_65 : List Nat := [0, 24]
-- 66: FavourTownModel.figures(II)I
def T_66 : List (List pEnt) := [[(0, .aload_n 0, 1, []), (1, .getfield 22, 3, [10, 0, 0, 1491, 0, 12]), (4, .iconst (-1), 1, []), (5, .if_icmp .eq 5, 3, [1]), (8, .iconst 0, 1, []), (9, .ireturn, 1, [0])],
  [(10, .aload_n 0, 1, []), (11, .invokevirtual 76, 3, [10, 0, 1592, 0, 12, 61]), (14, .aload_n 0, 1, []), (15, .getfield 66, 3, [9, 0, 0, 1490, 0, 12]), (18, .istore_n 3, 1, []), (19, .iconst 0, 1, []), (20, .istore 4, 2, []), (22, .nop, 0, [2])],
  [(22, .aload_n 0, 1, []), (23, .getfield 66, 3, [9, 0, 0, 1490, 0, 12]), (26, .aload_n 0, 1, []), (27, .getfield 69, 3, [8, 0, 0, 1489, 0, 12]), (30, .if_icmp .ge 63, 3, [3]), (33, .aload_n 0, 1, []), (34, .aload_n 0, 1, []), (35, .getfield 66, 3, [9, 0, 0, 1490, 0, 12]), (38, .invokevirtual 72, 3, [10, 1, 1596, 0, 12, 60]), (41, .bipush 48, 2, []), (43, .bipush 57, 2, []), (45, .invokestatic 56, 3, [20, 3, 1581, 0, 52]), (48, .ifCond .eq 45, 3, [3]), (51, .aload_n 0, 1, []), (52, .getfield 66, 3, [9, 0, 0, 1490, 0, 12]), (55, .iload_n 3, 1, []), (56, .isub, 1, []), (57, .iconst 4, 1, []), (58, .if_icmp .ge 35, 3, [3]), (61, .bipush 10, 2, []), (63, .iload 4, 2, []), (65, .imul, 1, []), (66, .aload_n 0, 1, []), (67, .aload_n 0, 1, []), (68, .getfield 66, 3, [9, 0, 0, 1490, 0, 12]), (71, .invokevirtual 72, 3, [10, 1, 1596, 0, 12, 60]), (74, .iadd, 1, []), (75, .bipush 48, 2, []), (77, .isub, 1, []), (78, .istore 4, 2, []), (80, .aload_n 0, 1, []), (81, .dup, 1, []), (82, .getfield 66, 3, [9, 0, 0, 1490, 0, 12]), (85, .iconst 1, 1, []), (86, .iadd, 1, []), (87, .putfield 66, 3, [9, 0, 0, 1490, 0, 12]), (90, .goto (-68), 3, [2])],
  [(93, .aload_n 0, 1, []), (94, .getfield 66, 3, [9, 0, 0, 1490, 0, 12]), (97, .iload_n 3, 1, []), (98, .if_icmp .eq 25, 3, [4]), (101, .aload_n 0, 1, []), (102, .getfield 66, 3, [9, 0, 0, 1490, 0, 12]), (105, .iload_n 3, 1, []), (106, .isub, 1, []), (107, .iconst 3, 1, []), (108, .if_icmp .gt 15, 3, [4]), (111, .iload 4, 2, []), (113, .iload_n 1, 1, []), (114, .if_icmp .lt 9, 3, [4]), (117, .iload 4, 2, []), (119, .iload_n 2, 1, []), (120, .if_icmp .le 8, 3, [5]), (123, .nop, 0, [4])],
  [(123, .aload_n 0, 1, []), (124, .iload_n 3, 1, []), (125, .invokevirtual 93, 3, [10, 1, 1600, 0, 12, 64]), (128, .nop, 0, [5])],
  [(128, .iload 4, 2, []), (130, .ireturn, 1, [0])]]
def bl_66 : List Nat := [0, 10, 22, 93, 123, 128]
-- 67: FavourTownModel.person(I)I
def T_67 : List (List pEnt) := [[(0, .aload_n 0, 1, []), (1, .invokevirtual 76, 3, [10, 0, 1592, 0, 12, 61]), (4, .aload_n 0, 1, []), (5, .getfield 66, 3, [9, 0, 0, 1490, 0, 12]), (8, .istore_n 2, 1, []), (9, .aload_n 0, 1, []), (10, .iconst 0, 1, []), (11, .aload_n 0, 1, []), (12, .getfield 7, 3, [1, 1, 0, 1482, 0, 12]), (15, .iconst 1, 1, []), (16, .iaload, 1, []), (17, .iconst 1, 1, []), (18, .isub, 1, []), (19, .invokevirtual 97, 3, [10, 2, 1649, 0, 12, 66]), (22, .istore_n 3, 1, []), (23, .aload_n 0, 1, []), (24, .getfield 22, 3, [10, 0, 0, 1491, 0, 12]), (27, .iconst (-1), 1, []), (28, .if_icmp .ne 13, 3, [1]), (31, .iload_n 3, 1, []), (32, .iload_n 1, 1, []), (33, .if_icmp .ne 8, 3, [1]), (36, .aload_n 0, 1, []), (37, .iload_n 2, 1, []), (38, .invokevirtual 93, 3, [10, 1, 1600, 0, 12, 64]), (41, .nop, 0, [1])],
  [(41, .iload_n 3, 1, []), (42, .ireturn, 1, [0])]]
def bl_67 : List Nat := [0, 41]
-- 68: FavourTownModel.townLine()V
def T_68 : List (List pEnt) := [[(0, .aload_n 0, 1, []), (1, .invokevirtual 76, 3, [10, 0, 1592, 0, 12, 61]), (4, .aload_n 0, 1, []), (5, .getfield 66, 3, [9, 0, 0, 1490, 0, 12]), (8, .istore_n 1, 1, []), (9, .aload_n 0, 1, []), (10, .ldc 101, 2, [1, 900036]), (12, .invokevirtual 89, 3, [10, 1, 1609, 0, 12, 63]), (15, .ifCond .eq 87, 3, [3]), (18, .aload_n 0, 1, []), (19, .getfield 7, 3, [1, 1, 0, 1482, 0, 12]), (22, .iconst 1, 1, []), (23, .iaload, 1, []), (24, .bipush 12, 2, []), (26, .if_icmp .ne 8, 3, [1]), (29, .aload_n 0, 1, []), (30, .iload_n 1, 1, []), (31, .invokevirtual 93, 3, [10, 1, 1600, 0, 12, 64]), (34, .nop, 0, [1])],
  [(34, .aload_n 0, 1, []), (35, .iconst 0, 1, []), (36, .sipush 999, 3, []), (39, .invokevirtual 97, 3, [10, 2, 1649, 0, 12, 66]), (42, .istore_n 2, 1, []), (43, .aload_n 0, 1, []), (44, .getfield 22, 3, [10, 0, 0, 1491, 0, 12]), (47, .iconst (-1), 1, []), (48, .if_icmp .eq 4, 3, [2]), (51, .return_, 1, [])],
  [(52, .bipush 10, 2, []), (54, .iconst 3, 1, []), (55, .aload_n 0, 1, []), (56, .getfield 7, 3, [1, 1, 0, 1482, 0, 12]), (59, .iconst 1, 1, []), (60, .iaload, 1, []), (61, .imul, 1, []), (62, .iadd, 1, []), (63, .istore_n 3, 1, []), (64, .aload_n 0, 1, []), (65, .getfield 7, 3, [1, 1, 0, 1482, 0, 12]), (68, .iload_n 3, 1, []), (69, .iload_n 2, 1, []), (70, .iastore, 1, []), (71, .aload_n 0, 1, []), (72, .getfield 7, 3, [1, 1, 0, 1482, 0, 12]), (75, .iload_n 3, 1, []), (76, .iconst 1, 1, []), (77, .iadd, 1, []), (78, .iconst (-1), 1, []), (79, .iastore, 1, []), (80, .aload_n 0, 1, []), (81, .getfield 7, 3, [1, 1, 0, 1482, 0, 12]), (84, .iload_n 3, 1, []), (85, .iconst 2, 1, []), (86, .iadd, 1, []), (87, .iconst 0, 1, []), (88, .iastore, 1, []), (89, .aload_n 0, 1, []), (90, .getfield 7, 3, [1, 1, 0, 1482, 0, 12]), (93, .iconst 1, 1, []), (94, .dup2, 1, []), (95, .iaload, 1, []), (96, .iconst 1, 1, []), (97, .iadd, 1, []), (98, .iastore, 1, []), (99, .goto 497, 3, [21])],
  [(102, .aload_n 0, 1, []), (103, .ldc 103, 2, [1, 900025]), (105, .invokevirtual 89, 3, [10, 1, 1609, 0, 12, 63]), (108, .ifCond .eq 87, 3, [5]), (111, .aload_n 0, 1, []), (112, .iconst (-1), 1, []), (113, .invokevirtual 105, 3, [10, 1, 1666, 0, 12, 67]), (116, .istore_n 2, 1, []), (117, .aload_n 0, 1, []), (118, .iload_n 2, 1, []), (119, .invokevirtual 105, 3, [10, 1, 1666, 0, 12, 67]), (122, .istore_n 3, 1, []), (123, .aload_n 0, 1, []), (124, .getfield 22, 3, [10, 0, 0, 1491, 0, 12]), (127, .iconst (-1), 1, []), (128, .if_icmp .eq 4, 3, [4]), (131, .return_, 1, [])],
  [(132, .aload_n 0, 1, []), (133, .getfield 7, 3, [1, 1, 0, 1482, 0, 12]), (136, .bipush 10, 2, []), (138, .iconst 3, 1, []), (139, .iload_n 2, 1, []), (140, .imul, 1, []), (141, .iadd, 1, []), (142, .iconst 2, 1, []), (143, .iadd, 1, []), (144, .aload_n 0, 1, []), (145, .getfield 7, 3, [1, 1, 0, 1482, 0, 12]), (148, .bipush 10, 2, []), (150, .iconst 3, 1, []), (151, .iload_n 2, 1, []), (152, .imul, 1, []), (153, .iadd, 1, []), (154, .iconst 2, 1, []), (155, .iadd, 1, []), (156, .iaload, 1, []), (157, .iconst 1, 1, []), (158, .iload_n 3, 1, []), (159, .ishl, 1, []), (160, .ior, 1, []), (161, .iastore, 1, []), (162, .aload_n 0, 1, []), (163, .getfield 7, 3, [1, 1, 0, 1482, 0, 12]), (166, .bipush 10, 2, []), (168, .iconst 3, 1, []), (169, .iload_n 3, 1, []), (170, .imul, 1, []), (171, .iadd, 1, []), (172, .iconst 2, 1, []), (173, .iadd, 1, []), (174, .aload_n 0, 1, []), (175, .getfield 7, 3, [1, 1, 0, 1482, 0, 12]), (178, .bipush 10, 2, []), (180, .iconst 3, 1, []), (181, .iload_n 3, 1, []), (182, .imul, 1, []), (183, .iadd, 1, []), (184, .iconst 2, 1, []), (185, .iadd, 1, []), (186, .iaload, 1, []), (187, .iconst 1, 1, []), (188, .iload_n 2, 1, []), (189, .ishl, 1, []), (190, .ior, 1, []), (191, .iastore, 1, []), (192, .goto 404, 3, [21])],
  [(195, .aload_n 0, 1, []), (196, .ldc 107, 2, [1, 900037]), (198, .invokevirtual 89, 3, [10, 1, 1609, 0, 12, 63]), (201, .ifCond .eq 20, 3, [6]), (204, .aload_n 0, 1, []), (205, .getfield 7, 3, [1, 1, 0, 1482, 0, 12]), (208, .bipush 7, 2, []), (210, .aload_n 0, 1, []), (211, .iconst 0, 1, []), (212, .bipush 10, 2, []), (214, .invokevirtual 97, 3, [10, 2, 1649, 0, 12, 66]), (217, .iastore, 1, []), (218, .goto 378, 3, [21])],
  [(221, .aload_n 0, 1, []), (222, .ldc 109, 2, [1, 900038]), (224, .invokevirtual 89, 3, [10, 1, 1609, 0, 12, 63]), (227, .ifCond .eq 107, 3, [11]), (230, .aload_n 0, 1, []), (231, .iconst (-1), 1, []), (232, .invokevirtual 105, 3, [10, 1, 1666, 0, 12, 67]), (235, .istore_n 2, 1, []), (236, .aload_n 0, 1, []), (237, .ldc 111, 2, [1, 900039]), (239, .invokevirtual 113, 3, [10, 1, 1673, 0, 12, 65]), (242, .aload_n 0, 1, []), (243, .iload_n 2, 1, []), (244, .invokevirtual 105, 3, [10, 1, 1666, 0, 12, 67]), (247, .istore_n 3, 1, []), (248, .aload_n 0, 1, []), (249, .iconst 1, 1, []), (250, .bipush 99, 2, []), (252, .invokevirtual 97, 3, [10, 2, 1649, 0, 12, 66]), (255, .istore 4, 2, []), (257, .iconst 0, 1, []), (258, .istore 5, 2, []), (260, .aload_n 0, 1, []), (261, .getfield 22, 3, [10, 0, 0, 1491, 0, 12]), (264, .iconst (-1), 1, []), (265, .if_icmp .ne 21, 3, [7]), (268, .aload_n 0, 1, []), (269, .ldc 117, 2, [1, 900040]), (271, .invokevirtual 89, 3, [10, 1, 1609, 0, 12, 63]), (274, .ifCond .eq 12, 3, [7]), (277, .aload_n 0, 1, []), (278, .iconst 1, 1, []), (279, .bipush 99, 2, []), (281, .invokevirtual 97, 3, [10, 2, 1649, 0, 12, 66]), (284, .istore 5, 2, []), (286, .nop, 0, [7])],
  [(286, .aload_n 0, 1, []), (287, .getfield 22, 3, [10, 0, 0, 1491, 0, 12]), (290, .iconst (-1), 1, []), (291, .if_icmp .ne 16, 3, [8]), (294, .aload_n 0, 1, []), (295, .ldc 119, 2, [1, 900041]), (297, .invokevirtual 89, 3, [10, 1, 1609, 0, 12, 63]), (300, .ifCond .eq 7, 3, [8]), (303, .iconst 1, 1, []), (304, .goto 4, 3, [9])],
  [(307, .iconst 0, 1, []), (308, .nop, 0, [9])],
  [(308, .istore 6, 2, []), (310, .aload_n 0, 1, []), (311, .getfield 22, 3, [10, 0, 0, 1491, 0, 12]), (314, .iconst (-1), 1, []), (315, .if_icmp .ne 16, 3, [10]), (318, .aload_n 0, 1, []), (319, .iload_n 2, 1, []), (320, .iload_n 3, 1, []), (321, .iload 4, 2, []), (323, .iload 5, 2, []), (325, .iload 6, 2, []), (327, .invokevirtual 121, 3, [10, 5, 1679, 0, 12, 87]), (330, .pop, 1, []), (331, .nop, 0, [10])],
  [(331, .goto 265, 3, [21])],
  [(334, .aload_n 0, 1, []), (335, .ldc 125, 2, [1, 900042]), (337, .invokevirtual 89, 3, [10, 1, 1609, 0, 12, 63]), (340, .ifCond .eq 57, 3, [13]), (343, .aload_n 0, 1, []), (344, .iconst 0, 1, []), (345, .aload_n 0, 1, []), (346, .getfield 7, 3, [1, 1, 0, 1482, 0, 12]), (349, .iconst 3, 1, []), (350, .iaload, 1, []), (351, .iconst 1, 1, []), (352, .isub, 1, []), (353, .invokevirtual 97, 3, [10, 2, 1649, 0, 12, 66]), (356, .istore_n 2, 1, []), (357, .aload_n 0, 1, []), (358, .ldc 111, 2, [1, 900039]), (360, .invokevirtual 113, 3, [10, 1, 1673, 0, 12, 65]), (363, .aload_n 0, 1, []), (364, .iconst (-1), 1, []), (365, .invokevirtual 105, 3, [10, 1, 1666, 0, 12, 67]), (368, .istore_n 3, 1, []), (369, .aload_n 0, 1, []), (370, .getfield 22, 3, [10, 0, 0, 1491, 0, 12]), (373, .iconst (-1), 1, []), (374, .if_icmp .ne 20, 3, [12]), (377, .aload_n 0, 1, []), (378, .iload_n 2, 1, []), (379, .iconst 2, 1, []), (380, .invokevirtual 127, 3, [10, 2, 1691, 0, 12, 55]), (383, .iload_n 3, 1, []), (384, .if_icmp .eq 10, 3, [12]), (387, .aload_n 0, 1, []), (388, .iload_n 2, 1, []), (389, .iload_n 3, 1, []), (390, .invokevirtual 130, 3, [10, 2, 1715, 0, 12, 89]), (393, .pop, 1, []), (394, .nop, 0, [12])],
  [(394, .goto 202, 3, [21])],
  [(397, .aload_n 0, 1, []), (398, .ldc 133, 2, [1, 900043]), (400, .invokevirtual 89, 3, [10, 1, 1609, 0, 12, 63]), (403, .ifCond .eq 35, 3, [15]), (406, .aload_n 0, 1, []), (407, .iconst 0, 1, []), (408, .aload_n 0, 1, []), (409, .getfield 7, 3, [1, 1, 0, 1482, 0, 12]), (412, .iconst 3, 1, []), (413, .iaload, 1, []), (414, .iconst 1, 1, []), (415, .isub, 1, []), (416, .invokevirtual 97, 3, [10, 2, 1649, 0, 12, 66]), (419, .istore_n 2, 1, []), (420, .aload_n 0, 1, []), (421, .getfield 22, 3, [10, 0, 0, 1491, 0, 12]), (424, .iconst (-1), 1, []), (425, .if_icmp .ne 10, 3, [14]), (428, .aload_n 0, 1, []), (429, .iload_n 2, 1, []), (430, .iconst 2, 1, []), (431, .iconst (-1), 1, []), (432, .invokevirtual 135, 3, [10, 3, 1710, 0, 12, 56]), (435, .nop, 0, [14])],
  [(435, .goto 161, 3, [21])],
  [(438, .aload_n 0, 1, []), (439, .ldc 139, 2, [1, 900044]), (441, .invokevirtual 89, 3, [10, 1, 1609, 0, 12, 63]), (444, .ifCond .eq 28, 3, [17]), (447, .aload_n 0, 1, []), (448, .iconst 1, 1, []), (449, .bipush 99, 2, []), (451, .invokevirtual 97, 3, [10, 2, 1649, 0, 12, 66]), (454, .istore_n 2, 1, []), (455, .aload_n 0, 1, []), (456, .getfield 22, 3, [10, 0, 0, 1491, 0, 12]), (459, .iconst (-1), 1, []), (460, .if_icmp .ne 9, 3, [16]), (463, .aload_n 0, 1, []), (464, .iload_n 2, 1, []), (465, .invokevirtual 141, 3, [10, 1, 1729, 0, 12, 90]), (468, .pop, 1, []), (469, .nop, 0, [16])],
  [(469, .goto 127, 3, [21])],
  [(472, .aload_n 0, 1, []), (473, .ldc 144, 2, [1, 900045]), (475, .invokevirtual 89, 3, [10, 1, 1609, 0, 12, 63]), (478, .ifCond .eq 110, 3, [20]), (481, .aload_n 0, 1, []), (482, .getfield 7, 3, [1, 1, 0, 1482, 0, 12]), (485, .iconst 4, 1, []), (486, .iaload, 1, []), (487, .bipush 12, 2, []), (489, .if_icmp .ne 8, 3, [18]), (492, .aload_n 0, 1, []), (493, .iload_n 1, 1, []), (494, .invokevirtual 93, 3, [10, 1, 1600, 0, 12, 64]), (497, .nop, 0, [18])],
  [(497, .aload_n 0, 1, []), (498, .iconst (-1), 1, []), (499, .invokevirtual 105, 3, [10, 1, 1666, 0, 12, 67]), (502, .istore_n 2, 1, []), (503, .aload_n 0, 1, []), (504, .ldc 146, 2, [1, 900046]), (506, .invokevirtual 113, 3, [10, 1, 1673, 0, 12, 65]), (509, .aload_n 0, 1, []), (510, .iload_n 2, 1, []), (511, .invokevirtual 105, 3, [10, 1, 1666, 0, 12, 67]), (514, .istore_n 3, 1, []), (515, .aload_n 0, 1, []), (516, .iconst 1, 1, []), (517, .bipush 99, 2, []), (519, .invokevirtual 97, 3, [10, 2, 1649, 0, 12, 66]), (522, .istore 4, 2, []), (524, .aload_n 0, 1, []), (525, .getfield 22, 3, [10, 0, 0, 1491, 0, 12]), (528, .iconst (-1), 1, []), (529, .if_icmp .eq 4, 3, [19]), (532, .return_, 1, [])],
  [(533, .bipush 46, 2, []), (535, .iconst 3, 1, []), (536, .aload_n 0, 1, []), (537, .getfield 7, 3, [1, 1, 0, 1482, 0, 12]), (540, .iconst 4, 1, []), (541, .iaload, 1, []), (542, .imul, 1, []), (543, .iadd, 1, []), (544, .istore 5, 2, []), (546, .aload_n 0, 1, []), (547, .getfield 7, 3, [1, 1, 0, 1482, 0, 12]), (550, .iload 5, 2, []), (552, .iload_n 2, 1, []), (553, .iastore, 1, []), (554, .aload_n 0, 1, []), (555, .getfield 7, 3, [1, 1, 0, 1482, 0, 12]), (558, .iload 5, 2, []), (560, .iconst 1, 1, []), (561, .iadd, 1, []), (562, .iload_n 3, 1, []), (563, .iastore, 1, []), (564, .aload_n 0, 1, []), (565, .getfield 7, 3, [1, 1, 0, 1482, 0, 12]), (568, .iload 5, 2, []), (570, .iconst 2, 1, []), (571, .iadd, 1, []), (572, .iload 4, 2, []), (574, .iastore, 1, []), (575, .aload_n 0, 1, []), (576, .getfield 7, 3, [1, 1, 0, 1482, 0, 12]), (579, .iconst 4, 1, []), (580, .dup2, 1, []), (581, .iaload, 1, []), (582, .iconst 1, 1, []), (583, .iadd, 1, []), (584, .iastore, 1, []), (585, .goto 11, 3, [21])],
  [(588, .aload_n 0, 1, []), (589, .aload_n 0, 1, []), (590, .getfield 66, 3, [9, 0, 0, 1490, 0, 12]), (593, .invokevirtual 93, 3, [10, 1, 1600, 0, 12, 64]), (596, .nop, 0, [21])],
  [(596, .return_, 1, [])]]
def bl_68 : List Nat := [0, 34, 52, 102, 132, 195, 221, 286, 307, 308, 331, 334, 394, 397, 435, 438, 469, 472, 497, 533, 588, 596]
-- 69: FavourTownModel.read(Z)V
def T_69 : List (List pEnt) := [[(0, .aload_n 0, 1, []), (1, .iconst 0, 1, []), (2, .putfield 66, 3, [9, 0, 0, 1490, 0, 12]), (5, .aload_n 0, 1, []), (6, .iconst 0, 1, []), (7, .putfield 147, 3, [11, 0, 0, 1492, 0, 12]), (10, .aload_n 0, 1, []), (11, .iconst 0, 1, []), (12, .putfield 150, 3, [12, 0, 0, 1493, 0, 12]), (15, .aload_n 0, 1, []), (16, .invokevirtual 76, 3, [10, 0, 1592, 0, 12, 61]), (19, .aload_n 0, 1, []), (20, .getfield 66, 3, [9, 0, 0, 1490, 0, 12]), (23, .aload_n 0, 1, []), (24, .getfield 69, 3, [8, 0, 0, 1489, 0, 12]), (27, .if_icmp .ge 7, 3, [1]), (30, .iconst 1, 1, []), (31, .goto 4, 3, [2])],
  [(34, .iconst 0, 1, []), (35, .nop, 0, [2])],
  [(35, .istore_n 2, 1, []), (36, .nop, 0, [3])],
  [(36, .iload_n 2, 1, []), (37, .ifCond .eq 130, 3, [12]), (40, .aload_n 0, 1, []), (41, .getfield 22, 3, [10, 0, 0, 1491, 0, 12]), (44, .iconst (-1), 1, []), (45, .if_icmp .ne 122, 3, [12]), (48, .aload_n 0, 1, []), (49, .invokevirtual 76, 3, [10, 0, 1592, 0, 12, 61]), (52, .aload_n 0, 1, []), (53, .getfield 150, 3, [12, 0, 0, 1493, 0, 12]), (56, .iload_n 1, 1, []), (57, .ifCond .eq 8, 3, [4]), (60, .bipush 12, 2, []), (62, .goto 5, 3, [5])],
  [(65, .bipush 14, 2, []), (67, .nop, 0, [5])],
  [(67, .if_icmp .ne 14, 3, [6]), (70, .aload_n 0, 1, []), (71, .aload_n 0, 1, []), (72, .getfield 66, 3, [9, 0, 0, 1490, 0, 12]), (75, .invokevirtual 93, 3, [10, 1, 1600, 0, 12, 64]), (78, .goto 18, 3, [8])],
  [(81, .iload_n 1, 1, []), (82, .ifCond .eq 10, 3, [7]), (85, .aload_n 0, 1, []), (86, .invokevirtual 153, 3, [10, 0, 1604, 0, 12, 77]), (89, .goto 7, 3, [8])],
  [(92, .aload_n 0, 1, []), (93, .invokevirtual 156, 3, [10, 0, 1661, 0, 12, 68]), (96, .nop, 0, [8])],
  [(96, .aload_n 0, 1, []), (97, .dup, 1, []), (98, .getfield 150, 3, [12, 0, 0, 1493, 0, 12]), (101, .iconst 1, 1, []), (102, .iadd, 1, []), (103, .putfield 150, 3, [12, 0, 0, 1493, 0, 12]), (106, .aload_n 0, 1, []), (107, .invokevirtual 76, 3, [10, 0, 1592, 0, 12, 61]), (110, .aload_n 0, 1, []), (111, .getfield 22, 3, [10, 0, 0, 1491, 0, 12]), (114, .iconst (-1), 1, []), (115, .if_icmp .ne 14, 3, [9]), (118, .aload_n 0, 1, []), (119, .getfield 66, 3, [9, 0, 0, 1490, 0, 12]), (122, .aload_n 0, 1, []), (123, .getfield 69, 3, [8, 0, 0, 1489, 0, 12]), (126, .if_icmp .ne 8, 3, [10]), (129, .nop, 0, [9])],
  [(129, .iconst 0, 1, []), (130, .istore_n 2, 1, []), (131, .goto (-95), 3, [3])],
  [(134, .aload_n 0, 1, []), (135, .bipush 59, 2, []), (137, .invokevirtual 159, 3, [10, 1, 1630, 0, 12, 62]), (140, .ifCond .eq 16, 3, [11]), (143, .aload_n 0, 1, []), (144, .dup, 1, []), (145, .getfield 66, 3, [9, 0, 0, 1490, 0, 12]), (148, .iconst 1, 1, []), (149, .iadd, 1, []), (150, .putfield 66, 3, [9, 0, 0, 1490, 0, 12]), (153, .goto (-117), 3, [3])],
  [(156, .aload_n 0, 1, []), (157, .aload_n 0, 1, []), (158, .getfield 66, 3, [9, 0, 0, 1490, 0, 12]), (161, .invokevirtual 93, 3, [10, 1, 1600, 0, 12, 64]), (164, .goto (-128), 3, [3])],
  [(167, .return_, 1, [])]]
def bl_69 : List Nat := [0, 34, 35, 36, 65, 67, 81, 92, 96, 129, 134, 156, 167]
-- 70: FavourTownModel.town()I
def T_70 : List (List pEnt) := [[(0, .iconst 0, 1, []), (1, .istore_n 1, 1, []), (2, .nop, 0, [1])],
  [(2, .iload_n 1, 1, []), (3, .sipush 940, 3, []), (6, .if_icmp .ge 21, 3, [2]), (9, .aload_n 0, 1, []), (10, .getfield 16, 3, [4, 1, 0, 1485, 0, 12]), (13, .iload_n 1, 1, []), (14, .aload_n 0, 1, []), (15, .getfield 7, 3, [1, 1, 0, 1482, 0, 12]), (18, .iload_n 1, 1, []), (19, .iaload, 1, []), (20, .iastore, 1, []), (21, .iinc 1 1, 3, []), (24, .goto (-22), 3, [1])],
  [(27, .aload_n 0, 1, []), (28, .iconst (-1), 1, []), (29, .putfield 22, 3, [10, 0, 0, 1491, 0, 12]), (32, .aload_n 0, 1, []), (33, .iconst (-1), 1, []), (34, .putfield 63, 3, [7, 0, 0, 1488, 0, 12]), (37, .aload_n 0, 1, []), (38, .aload_n 0, 1, []), (39, .getfield 60, 3, [6, 0, 0, 1487, 0, 12]), (42, .putfield 69, 3, [8, 0, 0, 1489, 0, 12]), (45, .aload_n 0, 1, []), (46, .iconst 0, 1, []), (47, .putfield 60, 3, [6, 0, 0, 1487, 0, 12]), (50, .aload_n 0, 1, []), (51, .iconst 0, 1, []), (52, .invokevirtual 163, 3, [10, 1, 1588, 0, 12, 69]), (55, .aload_n 0, 1, []), (56, .aload_n 0, 1, []), (57, .getfield 22, 3, [10, 0, 0, 1491, 0, 12]), (60, .iconst (-1), 1, []), (61, .if_icmp .eq 7, 3, [3]), (64, .iconst 1, 1, []), (65, .goto 19, 3, [5])],
  [(68, .aload_n 0, 1, []), (69, .getfield 7, 3, [1, 1, 0, 1482, 0, 12]), (72, .iconst 0, 1, []), (73, .iaload, 1, []), (74, .bipush 10, 2, []), (76, .if_icmp .ne 7, 3, [4]), (79, .iconst 2, 1, []), (80, .goto 4, 3, [5])],
  [(83, .iconst 0, 1, []), (84, .nop, 0, [5])],
  [(84, .putfield 53, 3, [0, 0, 0, 1481, 0, 12]), (87, .aload_n 0, 1, []), (88, .getfield 53, 3, [0, 0, 0, 1481, 0, 12]), (91, .ifCond .le 32, 3, [8]), (94, .iconst 0, 1, []), (95, .istore_n 1, 1, []), (96, .nop, 0, [6])],
  [(96, .iload_n 1, 1, []), (97, .sipush 940, 3, []), (100, .if_icmp .ge 21, 3, [7]), (103, .aload_n 0, 1, []), (104, .getfield 7, 3, [1, 1, 0, 1482, 0, 12]), (107, .iload_n 1, 1, []), (108, .aload_n 0, 1, []), (109, .getfield 16, 3, [4, 1, 0, 1485, 0, 12]), (112, .iload_n 1, 1, []), (113, .iaload, 1, []), (114, .iastore, 1, []), (115, .iinc 1 1, 3, []), (118, .goto (-22), 3, [6])],
  [(121, .iconst 0, 1, []), (122, .ireturn, 1, [0])],
  [(123, .aload_n 0, 1, []), (124, .getfield 7, 3, [1, 1, 0, 1482, 0, 12]), (127, .iconst 0, 1, []), (128, .dup2, 1, []), (129, .iaload, 1, []), (130, .iconst 1, 1, []), (131, .iadd, 1, []), (132, .iastore, 1, []), (133, .aload_n 0, 1, []), (134, .getfield 7, 3, [1, 1, 0, 1482, 0, 12]), (137, .iconst 0, 1, []), (138, .iaload, 1, []), (139, .ireturn, 1, [0])]]
def bl_70 : List Nat := [0, 2, 27, 68, 83, 84, 96, 121, 123]
-- 71: FavourTownModel.part()I
def T_71 : List (List pEnt) := [[(0, .aload_n 0, 1, []), (1, .getfield 22, 3, [10, 0, 0, 1491, 0, 12]), (4, .iconst (-1), 1, []), (5, .if_icmp .eq 5, 3, [1]), (8, .iconst 0, 1, []), (9, .ireturn, 1, [0])],
  [(10, .aload_n 0, 1, []), (11, .invokevirtual 76, 3, [10, 0, 1592, 0, 12, 61]), (14, .aload_n 0, 1, []), (15, .getfield 66, 3, [9, 0, 0, 1490, 0, 12]), (18, .aload_n 0, 1, []), (19, .getfield 69, 3, [8, 0, 0, 1489, 0, 12]), (22, .if_icmp .ge 30, 3, [2]), (25, .aload_n 0, 1, []), (26, .aload_n 0, 1, []), (27, .getfield 66, 3, [9, 0, 0, 1490, 0, 12]), (30, .invokevirtual 72, 3, [10, 1, 1596, 0, 12, 60]), (33, .bipush 48, 2, []), (35, .bipush 57, 2, []), (37, .invokestatic 56, 3, [20, 3, 1581, 0, 52]), (40, .ifCond .eq 12, 3, [2]), (43, .aload_n 0, 1, []), (44, .iconst 0, 1, []), (45, .sipush 999, 3, []), (48, .invokevirtual 97, 3, [10, 2, 1649, 0, 12, 66]), (51, .ireturn, 1, [0])],
  [(52, .aload_n 0, 1, []), (53, .ldc 167, 2, [1, 900028]), (55, .invokevirtual 89, 3, [10, 1, 1609, 0, 12, 63]), (58, .ifCond .eq 7, 3, [3]), (61, .iconst 0, 1, []), (62, .goto 69, 3, [9])],
  [(65, .aload_n 0, 1, []), (66, .ldc 169, 2, [1, 900029]), (68, .invokevirtual 89, 3, [10, 1, 1609, 0, 12, 63]), (71, .ifCond .eq 7, 3, [4]), (74, .iconst 1, 1, []), (75, .goto 56, 3, [9])],
  [(78, .aload_n 0, 1, []), (79, .ldc 171, 2, [1, 900030]), (81, .invokevirtual 89, 3, [10, 1, 1609, 0, 12, 63]), (84, .ifCond .eq 7, 3, [5]), (87, .iconst 2, 1, []), (88, .goto 43, 3, [9])],
  [(91, .aload_n 0, 1, []), (92, .ldc 173, 2, [1, 900031]), (94, .invokevirtual 89, 3, [10, 1, 1609, 0, 12, 63]), (97, .ifCond .eq 7, 3, [6]), (100, .iconst 3, 1, []), (101, .goto 30, 3, [9])],
  [(104, .aload_n 0, 1, []), (105, .ldc 175, 2, [1, 900032]), (107, .invokevirtual 89, 3, [10, 1, 1609, 0, 12, 63]), (110, .ifCond .eq 7, 3, [7]), (113, .iconst 4, 1, []), (114, .goto 17, 3, [9])],
  [(117, .aload_n 0, 1, []), (118, .ldc 176, 2, [1, 900033]), (120, .invokevirtual 89, 3, [10, 1, 1609, 0, 12, 63]), (123, .ifCond .eq 7, 3, [8]), (126, .iconst 5, 1, []), (127, .goto 4, 3, [9])],
  [(130, .iconst (-1), 1, []), (131, .nop, 0, [9])],
  [(131, .istore_n 1, 1, []), (132, .iload_n 1, 1, []), (133, .iconst (-1), 1, []), (134, .if_icmp .ne 13, 3, [10]), (137, .aload_n 0, 1, []), (138, .aload_n 0, 1, []), (139, .getfield 66, 3, [9, 0, 0, 1490, 0, 12]), (142, .invokevirtual 93, 3, [10, 1, 1600, 0, 12, 64]), (145, .iconst 0, 1, []), (146, .ireturn, 1, [0])],
  [(147, .aload_n 0, 1, []), (148, .getfield 26, 3, [13, 1, 0, 1494, 0, 12]), (151, .iload_n 1, 1, []), (152, .iaload, 1, []), (153, .ireturn, 1, [0])]]
def bl_71 : List Nat := [0, 10, 52, 65, 78, 91, 104, 117, 130, 131, 147]
-- 72: FavourTownModel.sum()I
def T_72 : List (List pEnt) := [[(0, .aload_n 0, 1, []), (1, .invokevirtual 178, 3, [10, 0, 1645, 0, 12, 71]), (4, .istore_n 1, 1, []), (5, .nop, 0, [1])],
  [(5, .aload_n 0, 1, []), (6, .getfield 22, 3, [10, 0, 0, 1491, 0, 12]), (9, .iconst (-1), 1, []), (10, .if_icmp .ne 32, 3, [2]), (13, .aload_n 0, 1, []), (14, .bipush 43, 2, []), (16, .invokevirtual 159, 3, [10, 1, 1630, 0, 12, 62]), (19, .ifCond .eq 23, 3, [2]), (22, .aload_n 0, 1, []), (23, .dup, 1, []), (24, .getfield 66, 3, [9, 0, 0, 1490, 0, 12]), (27, .iconst 1, 1, []), (28, .iadd, 1, []), (29, .putfield 66, 3, [9, 0, 0, 1490, 0, 12]), (32, .iload_n 1, 1, []), (33, .aload_n 0, 1, []), (34, .invokevirtual 178, 3, [10, 0, 1645, 0, 12, 71]), (37, .iadd, 1, []), (38, .istore_n 1, 1, []), (39, .goto (-34), 3, [1])],
  [(42, .iload_n 1, 1, []), (43, .ireturn, 1, [0])]]
def bl_72 : List Nat := [0, 5, 42]
-- 73: FavourTownModel.plain()Z
def T_73 : List (List pEnt) := [[(0, .aload_n 0, 1, []), (1, .ldc 103, 2, [1, 900025]), (3, .invokevirtual 89, 3, [10, 1, 1609, 0, 12, 63]), (6, .ifCond .eq 8, 3, [1]), (9, .aload_n 0, 1, []), (10, .getfield 181, 3, [14, 2, 0, 1495, 0, 12]), (13, .ireturn, 1, [2])],
  [(14, .aload_n 0, 1, []), (15, .ldc 185, 2, [1, 900026]), (17, .invokevirtual 89, 3, [10, 1, 1609, 0, 12, 63]), (20, .ifCond .eq 8, 3, [2]), (23, .aload_n 0, 1, []), (24, .getfield 187, 3, [15, 2, 0, 1496, 0, 12]), (27, .ireturn, 1, [2])],
  [(28, .aload_n 0, 1, []), (29, .ldc 190, 2, [1, 900027]), (31, .invokevirtual 89, 3, [10, 1, 1609, 0, 12, 63]), (34, .ifCond .eq 8, 3, [3]), (37, .aload_n 0, 1, []), (38, .getfield 192, 3, [16, 2, 0, 1497, 0, 12]), (41, .ireturn, 1, [2])],
  [(42, .aload_n 0, 1, []), (43, .invokevirtual 195, 3, [10, 0, 1641, 0, 12, 72]), (46, .istore_n 1, 1, []), (47, .aload_n 0, 1, []), (48, .getfield 22, 3, [10, 0, 0, 1491, 0, 12]), (51, .iconst (-1), 1, []), (52, .if_icmp .eq 5, 3, [4]), (55, .iconst 0, 1, []), (56, .ireturn, 1, [2])],
  [(57, .aload_n 0, 1, []), (58, .bipush 60, 2, []), (60, .invokevirtual 159, 3, [10, 1, 1630, 0, 12, 62]), (63, .istore_n 2, 1, []), (64, .iload_n 2, 1, []), (65, .ifCond .ne 22, 3, [5]), (68, .aload_n 0, 1, []), (69, .bipush 62, 2, []), (71, .invokevirtual 159, 3, [10, 1, 1630, 0, 12, 62]), (74, .ifCond .ne 13, 3, [5]), (77, .aload_n 0, 1, []), (78, .aload_n 0, 1, []), (79, .getfield 66, 3, [9, 0, 0, 1490, 0, 12]), (82, .invokevirtual 93, 3, [10, 1, 1600, 0, 12, 64]), (85, .iconst 0, 1, []), (86, .ireturn, 1, [2])],
  [(87, .aload_n 0, 1, []), (88, .dup, 1, []), (89, .getfield 66, 3, [9, 0, 0, 1490, 0, 12]), (92, .iconst 1, 1, []), (93, .iadd, 1, []), (94, .putfield 66, 3, [9, 0, 0, 1490, 0, 12]), (97, .aload_n 0, 1, []), (98, .invokevirtual 195, 3, [10, 0, 1641, 0, 12, 72]), (101, .istore_n 3, 1, []), (102, .iload_n 2, 1, []), (103, .ifCond .eq 16, 3, [7]), (106, .iload_n 1, 1, []), (107, .iload_n 3, 1, []), (108, .if_icmp .ge 7, 3, [6]), (111, .iconst 1, 1, []), (112, .goto 17, 3, [9])],
  [(115, .iconst 0, 1, []), (116, .goto 13, 3, [9])],
  [(119, .iload_n 1, 1, []), (120, .iload_n 3, 1, []), (121, .if_icmp .le 7, 3, [8]), (124, .iconst 1, 1, []), (125, .goto 4, 3, [9])],
  [(128, .iconst 0, 1, []), (129, .nop, 0, [9])],
  [(129, .ireturn, 1, [2])]]
def bl_73 : List Nat := [0, 14, 28, 42, 57, 87, 115, 119, 128, 129]
-- 74: FavourTownModel.atom()Z
def T_74 : List (List pEnt) := [[(0, .aload_n 0, 1, []), (1, .getfield 22, 3, [10, 0, 0, 1491, 0, 12]), (4, .iconst (-1), 1, []), (5, .if_icmp .eq 5, 3, [1]), (8, .iconst 0, 1, []), (9, .ireturn, 1, [2])],
  [(10, .aload_n 0, 1, []), (11, .invokevirtual 76, 3, [10, 0, 1592, 0, 12, 61]), (14, .aload_n 0, 1, []), (15, .getfield 66, 3, [9, 0, 0, 1490, 0, 12]), (18, .istore_n 1, 1, []), (19, .aload_n 0, 1, []), (20, .ldc 198, 2, [1, 900024]), (22, .invokevirtual 89, 3, [10, 1, 1609, 0, 12, 63]), (25, .istore_n 2, 1, []), (26, .iload_n 2, 1, []), (27, .ifCond .ne 17, 3, [2]), (30, .aload_n 0, 1, []), (31, .bipush 40, 2, []), (33, .invokevirtual 159, 3, [10, 1, 1630, 0, 12, 62]), (36, .ifCond .ne 8, 3, [2]), (39, .aload_n 0, 1, []), (40, .invokevirtual 200, 3, [10, 0, 1634, 0, 12, 73]), (43, .ireturn, 1, [2])],
  [(44, .aload_n 0, 1, []), (45, .getfield 147, 3, [11, 0, 0, 1492, 0, 12]), (48, .bipush 6, 2, []), (50, .if_icmp .ne 10, 3, [3]), (53, .aload_n 0, 1, []), (54, .iload_n 1, 1, []), (55, .invokevirtual 93, 3, [10, 1, 1600, 0, 12, 64]), (58, .iconst 0, 1, []), (59, .ireturn, 1, [2])],
  [(60, .aload_n 0, 1, []), (61, .dup, 1, []), (62, .getfield 147, 3, [11, 0, 0, 1492, 0, 12]), (65, .iconst 1, 1, []), (66, .iadd, 1, []), (67, .putfield 147, 3, [11, 0, 0, 1492, 0, 12]), (70, .iconst 0, 1, []), (71, .istore_n 3, 1, []), (72, .iload_n 2, 1, []), (73, .ifCond .eq 19, 3, [6]), (76, .aload_n 0, 1, []), (77, .invokevirtual 204, 3, [10, 0, 1625, 0, 12, 74]), (80, .ifCond .ne 7, 3, [4]), (83, .iconst 1, 1, []), (84, .goto 4, 3, [5])],
  [(87, .iconst 0, 1, []), (88, .nop, 0, [5])],
  [(88, .istore_n 3, 1, []), (89, .goto 53, 3, [8])],
  [(92, .aload_n 0, 1, []), (93, .dup, 1, []), (94, .getfield 66, 3, [9, 0, 0, 1490, 0, 12]), (97, .iconst 1, 1, []), (98, .iadd, 1, []), (99, .putfield 66, 3, [9, 0, 0, 1490, 0, 12]), (102, .aload_n 0, 1, []), (103, .invokevirtual 207, 3, [10, 0, 1617, 0, 12, 76]), (106, .istore_n 3, 1, []), (107, .aload_n 0, 1, []), (108, .getfield 22, 3, [10, 0, 0, 1491, 0, 12]), (111, .iconst (-1), 1, []), (112, .if_icmp .ne 20, 3, [7]), (115, .aload_n 0, 1, []), (116, .bipush 41, 2, []), (118, .invokevirtual 159, 3, [10, 1, 1630, 0, 12, 62]), (121, .ifCond .ne 11, 3, [7]), (124, .aload_n 0, 1, []), (125, .aload_n 0, 1, []), (126, .getfield 66, 3, [9, 0, 0, 1490, 0, 12]), (129, .invokevirtual 93, 3, [10, 1, 1600, 0, 12, 64]), (132, .nop, 0, [7])],
  [(132, .aload_n 0, 1, []), (133, .dup, 1, []), (134, .getfield 66, 3, [9, 0, 0, 1490, 0, 12]), (137, .iconst 1, 1, []), (138, .iadd, 1, []), (139, .putfield 66, 3, [9, 0, 0, 1490, 0, 12]), (142, .nop, 0, [8])],
  [(142, .aload_n 0, 1, []), (143, .dup, 1, []), (144, .getfield 147, 3, [11, 0, 0, 1492, 0, 12]), (147, .iconst 1, 1, []), (148, .isub, 1, []), (149, .putfield 147, 3, [11, 0, 0, 1492, 0, 12]), (152, .iload_n 3, 1, []), (153, .ireturn, 1, [2])]]
def bl_74 : List Nat := [0, 10, 44, 60, 87, 88, 92, 132, 142]
-- 75: FavourTownModel.every()Z
def T_75 : List (List pEnt) := [[(0, .aload_n 0, 1, []), (1, .invokevirtual 204, 3, [10, 0, 1625, 0, 12, 74]), (4, .istore_n 1, 1, []), (5, .nop, 0, [1])],
  [(5, .aload_n 0, 1, []), (6, .getfield 22, 3, [10, 0, 0, 1491, 0, 12]), (9, .iconst (-1), 1, []), (10, .if_icmp .ne 34, 3, [4]), (13, .aload_n 0, 1, []), (14, .ldc 210, 2, [1, 900034]), (16, .invokevirtual 89, 3, [10, 1, 1609, 0, 12, 63]), (19, .ifCond .eq 25, 3, [4]), (22, .aload_n 0, 1, []), (23, .invokevirtual 204, 3, [10, 0, 1625, 0, 12, 74]), (26, .istore_n 2, 1, []), (27, .iload_n 1, 1, []), (28, .ifCond .eq 11, 3, [2]), (31, .iload_n 2, 1, []), (32, .ifCond .eq 7, 3, [2]), (35, .iconst 1, 1, []), (36, .goto 4, 3, [3])],
  [(39, .iconst 0, 1, []), (40, .nop, 0, [3])],
  [(40, .istore_n 1, 1, []), (41, .goto (-36), 3, [1])],
  [(44, .iload_n 1, 1, []), (45, .ireturn, 1, [2])]]
def bl_75 : List Nat := [0, 5, 39, 40, 44]
-- 76: FavourTownModel.some()Z
def T_76 : List (List pEnt) := [[(0, .aload_n 0, 1, []), (1, .invokevirtual 212, 3, [10, 0, 1621, 0, 12, 75]), (4, .istore_n 1, 1, []), (5, .nop, 0, [1])],
  [(5, .aload_n 0, 1, []), (6, .getfield 22, 3, [10, 0, 0, 1491, 0, 12]), (9, .iconst (-1), 1, []), (10, .if_icmp .ne 34, 3, [5]), (13, .aload_n 0, 1, []), (14, .ldc 215, 2, [1, 900035]), (16, .invokevirtual 89, 3, [10, 1, 1609, 0, 12, 63]), (19, .ifCond .eq 25, 3, [5]), (22, .aload_n 0, 1, []), (23, .invokevirtual 212, 3, [10, 0, 1621, 0, 12, 75]), (26, .istore_n 2, 1, []), (27, .iload_n 1, 1, []), (28, .ifCond .ne 7, 3, [2]), (31, .iload_n 2, 1, []), (32, .ifCond .eq 7, 3, [3]), (35, .nop, 0, [2])],
  [(35, .iconst 1, 1, []), (36, .goto 4, 3, [4])],
  [(39, .iconst 0, 1, []), (40, .nop, 0, [4])],
  [(40, .istore_n 1, 1, []), (41, .goto (-36), 3, [1])],
  [(44, .iload_n 1, 1, []), (45, .ireturn, 1, [2])]]
def bl_76 : List Nat := [0, 5, 35, 39, 40, 44]
-- 77: FavourTownModel.temperLine()V
def T_77 : List (List pEnt) := [[(0, .aload_n 0, 1, []), (1, .ldc 217, 2, [1, 900021]), (3, .invokevirtual 89, 3, [10, 1, 1609, 0, 12, 63]), (6, .istore_n 1, 1, []), (7, .iload_n 1, 1, []), (8, .ifCond .ne 21, 3, [1]), (11, .aload_n 0, 1, []), (12, .ldc 219, 2, [1, 900022]), (14, .invokevirtual 89, 3, [10, 1, 1609, 0, 12, 63]), (17, .ifCond .ne 12, 3, [1]), (20, .aload_n 0, 1, []), (21, .aload_n 0, 1, []), (22, .getfield 66, 3, [9, 0, 0, 1490, 0, 12]), (25, .invokevirtual 93, 3, [10, 1, 1600, 0, 12, 64]), (28, .return_, 1, [])],
  [(29, .aload_n 0, 1, []), (30, .ldc 221, 2, [1, 900023]), (32, .invokevirtual 89, 3, [10, 1, 1609, 0, 12, 63]), (35, .ifCond .eq 10, 3, [2]), (38, .aload_n 0, 1, []), (39, .invokevirtual 207, 3, [10, 0, 1617, 0, 12, 76]), (42, .ifCond .eq 7, 3, [3]), (45, .nop, 0, [2])],
  [(45, .iconst 1, 1, []), (46, .goto 4, 3, [4])],
  [(49, .iconst 0, 1, []), (50, .nop, 0, [4])],
  [(50, .istore_n 2, 1, []), (51, .aload_n 0, 1, []), (52, .getfield 22, 3, [10, 0, 0, 1491, 0, 12]), (55, .iconst (-1), 1, []), (56, .if_icmp .ne 28, 3, [7]), (59, .iload_n 2, 1, []), (60, .ifCond .eq 24, 3, [7]), (63, .aload_n 0, 1, []), (64, .getfield 223, 3, [17, 0, 0, 1498, 0, 12]), (67, .iconst (-1), 1, []), (68, .if_icmp .ne 16, 3, [7]), (71, .aload_n 0, 1, []), (72, .iload_n 1, 1, []), (73, .ifCond .eq 7, 3, [5]), (76, .iconst 1, 1, []), (77, .goto 4, 3, [6])],
  [(80, .iconst 0, 1, []), (81, .nop, 0, [6])],
  [(81, .putfield 223, 3, [17, 0, 0, 1498, 0, 12]), (84, .nop, 0, [7])],
  [(84, .return_, 1, [])]]
def bl_77 : List Nat := [0, 29, 45, 49, 50, 80, 81, 84]
-- 78: FavourTownModel.temper()I
def T_78 : List (List pEnt) := [[(0, .aload_n 0, 1, []), (1, .iconst (-1), 1, []), (2, .putfield 22, 3, [10, 0, 0, 1491, 0, 12]), (5, .aload_n 0, 1, []), (6, .iconst (-1), 1, []), (7, .putfield 63, 3, [7, 0, 0, 1488, 0, 12]), (10, .aload_n 0, 1, []), (11, .aload_n 0, 1, []), (12, .getfield 60, 3, [6, 0, 0, 1487, 0, 12]), (15, .putfield 69, 3, [8, 0, 0, 1489, 0, 12]), (18, .aload_n 0, 1, []), (19, .iconst (-1), 1, []), (20, .putfield 223, 3, [17, 0, 0, 1498, 0, 12]), (23, .aload_n 0, 1, []), (24, .iconst 1, 1, []), (25, .invokevirtual 163, 3, [10, 1, 1588, 0, 12, 69]), (28, .aload_n 0, 1, []), (29, .getfield 60, 3, [6, 0, 0, 1487, 0, 12]), (32, .istore_n 1, 1, []), (33, .aload_n 0, 1, []), (34, .iconst 0, 1, []), (35, .putfield 60, 3, [6, 0, 0, 1487, 0, 12]), (38, .aload_n 0, 1, []), (39, .aload_n 0, 1, []), (40, .getfield 22, 3, [10, 0, 0, 1491, 0, 12]), (43, .iconst (-1), 1, []), (44, .if_icmp .eq 7, 3, [1]), (47, .iconst 1, 1, []), (48, .goto 19, 3, [3])],
  [(51, .aload_n 0, 1, []), (52, .getfield 7, 3, [1, 1, 0, 1482, 0, 12]), (55, .iconst 2, 1, []), (56, .iaload, 1, []), (57, .bipush 6, 2, []), (59, .if_icmp .ne 7, 3, [2]), (62, .iconst 2, 1, []), (63, .goto 4, 3, [3])],
  [(66, .iconst 0, 1, []), (67, .nop, 0, [3])],
  [(67, .putfield 53, 3, [0, 0, 0, 1481, 0, 12]), (70, .aload_n 0, 1, []), (71, .getfield 53, 3, [0, 0, 0, 1481, 0, 12]), (74, .ifCond .le 5, 3, [4]), (77, .iconst 0, 1, []), (78, .ireturn, 1, [0])],
  [(79, .sipush 940, 3, []), (82, .sipush 401, 3, []), (85, .aload_n 0, 1, []), (86, .getfield 7, 3, [1, 1, 0, 1482, 0, 12]), (89, .iconst 2, 1, []), (90, .iaload, 1, []), (91, .imul, 1, []), (92, .iadd, 1, []), (93, .istore_n 2, 1, []), (94, .aload_n 0, 1, []), (95, .getfield 7, 3, [1, 1, 0, 1482, 0, 12]), (98, .iload_n 2, 1, []), (99, .iload_n 1, 1, []), (100, .iastore, 1, []), (101, .iconst 0, 1, []), (102, .istore_n 3, 1, []), (103, .nop, 0, [5])],
  [(103, .iload_n 3, 1, []), (104, .iload_n 1, 1, []), (105, .if_icmp .ge 25, 3, [6]), (108, .aload_n 0, 1, []), (109, .getfield 7, 3, [1, 1, 0, 1482, 0, 12]), (112, .iload_n 2, 1, []), (113, .iconst 1, 1, []), (114, .iadd, 1, []), (115, .iload_n 3, 1, []), (116, .iadd, 1, []), (117, .aload_n 0, 1, []), (118, .getfield 19, 3, [5, 1, 0, 1486, 0, 12]), (121, .iload_n 3, 1, []), (122, .iaload, 1, []), (123, .iastore, 1, []), (124, .iinc 3 1, 3, []), (127, .goto (-24), 3, [5])],
  [(130, .aload_n 0, 1, []), (131, .getfield 7, 3, [1, 1, 0, 1482, 0, 12]), (134, .iconst 2, 1, []), (135, .dup2, 1, []), (136, .iaload, 1, []), (137, .iconst 1, 1, []), (138, .iadd, 1, []), (139, .iastore, 1, []), (140, .aload_n 0, 1, []), (141, .getfield 7, 3, [1, 1, 0, 1482, 0, 12]), (144, .iconst 2, 1, []), (145, .iaload, 1, []), (146, .iconst 1, 1, []), (147, .isub, 1, []), (148, .ireturn, 1, [0])]]
def bl_78 : List Nat := [0, 51, 66, 67, 79, 103, 130]
-- 79: FavourTownModel.fault()I
def T_79 : List (List pEnt) := [[(0, .aload_n 0, 1, []), (1, .iconst 0, 1, []), (2, .putfield 53, 3, [0, 0, 0, 1481, 0, 12]), (5, .aload_n 0, 1, []), (6, .getfield 22, 3, [10, 0, 0, 1491, 0, 12]), (9, .ireturn, 1, [0])]]
def bl_79 : List Nat := [0]
-- 80: FavourTownModel.has(II)I
def T_80 : List (List pEnt) := [[(0, .aload_n 0, 1, []), (1, .aload_n 0, 1, []), (2, .iload_n 1, 1, []), (3, .invokevirtual 226, 3, [10, 1, 1747, 0, 12, 53]), (6, .ifCond .eq 19, 3, [1]), (9, .iload_n 2, 1, []), (10, .iconst (-1), 1, []), (11, .aload_n 0, 1, []), (12, .getfield 7, 3, [1, 1, 0, 1482, 0, 12]), (15, .iconst 2, 1, []), (16, .iaload, 1, []), (17, .iconst 1, 1, []), (18, .isub, 1, []), (19, .invokestatic 56, 3, [20, 3, 1581, 0, 52]), (22, .ifCond .ne 7, 3, [2]), (25, .nop, 0, [1])],
  [(25, .iconst 1, 1, []), (26, .goto 4, 3, [3])],
  [(29, .iconst 0, 1, []), (30, .nop, 0, [3])],
  [(30, .putfield 53, 3, [0, 0, 0, 1481, 0, 12]), (33, .aload_n 0, 1, []), (34, .getfield 53, 3, [0, 0, 0, 1481, 0, 12]), (37, .ifCond .le 5, 3, [4]), (40, .iconst 0, 1, []), (41, .ireturn, 1, [0])],
  [(42, .aload_n 0, 1, []), (43, .getfield 7, 3, [1, 1, 0, 1482, 0, 12]), (46, .bipush 10, 2, []), (48, .iconst 3, 1, []), (49, .iload_n 1, 1, []), (50, .imul, 1, []), (51, .iadd, 1, []), (52, .iconst 1, 1, []), (53, .iadd, 1, []), (54, .iaload, 1, []), (55, .istore_n 3, 1, []), (56, .aload_n 0, 1, []), (57, .getfield 7, 3, [1, 1, 0, 1482, 0, 12]), (60, .bipush 10, 2, []), (62, .iconst 3, 1, []), (63, .iload_n 1, 1, []), (64, .imul, 1, []), (65, .iadd, 1, []), (66, .iconst 1, 1, []), (67, .iadd, 1, []), (68, .iload_n 2, 1, []), (69, .iastore, 1, []), (70, .iload_n 3, 1, []), (71, .ireturn, 1, [0])]]
def bl_80 : List Nat := [0, 25, 29, 30, 42]
-- 81: FavourTownModel.worthOf(II)I
def T_81 : List (List pEnt) := [[(0, .iload_n 0, 1, []), (1, .sipush 1024, 3, []), (4, .imul, 1, []), (5, .iload_n 1, 1, []), (6, .ishr, 1, []), (7, .ireturn, 1, [0])]]
def bl_81 : List Nat := [0]
-- 82: FavourTownModel.richOf(I)I
def T_82 : List (List pEnt) := [[(0, .iconst 0, 1, []), (1, .istore_n 2, 1, []), (2, .iconst 0, 1, []), (3, .istore_n 3, 1, []), (4, .nop, 0, [1])],
  [(4, .iload_n 3, 1, []), (5, .aload_n 0, 1, []), (6, .getfield 7, 3, [1, 1, 0, 1482, 0, 12]), (9, .iconst 3, 1, []), (10, .iaload, 1, []), (11, .if_icmp .ge 41, 3, [4]), (14, .iload_n 2, 1, []), (15, .aload_n 0, 1, []), (16, .iload_n 3, 1, []), (17, .iconst 2, 1, []), (18, .invokevirtual 127, 3, [10, 2, 1691, 0, 12, 55]), (21, .iload_n 1, 1, []), (22, .if_icmp .ne 21, 3, [2]), (25, .aload_n 0, 1, []), (26, .iload_n 3, 1, []), (27, .iconst 1, 1, []), (28, .invokevirtual 127, 3, [10, 2, 1691, 0, 12, 55]), (31, .aload_n 0, 1, []), (32, .iload_n 3, 1, []), (33, .iconst 3, 1, []), (34, .invokevirtual 127, 3, [10, 2, 1691, 0, 12, 55]), (37, .invokestatic 229, 3, [20, 2, 1699, 0, 81]), (40, .goto 4, 3, [3])],
  [(43, .iconst 0, 1, []), (44, .nop, 0, [3])],
  [(44, .iadd, 1, []), (45, .istore_n 2, 1, []), (46, .iinc 3 1, 3, []), (49, .goto (-45), 3, [1])],
  [(52, .iload_n 2, 1, []), (53, .ireturn, 1, [0])]]
def bl_82 : List Nat := [0, 4, 43, 44, 52]
-- 83: FavourTownModel.debtOf(I)I
def T_83 : List (List pEnt) := [[(0, .iconst 0, 1, []), (1, .istore_n 2, 1, []), (2, .iconst 0, 1, []), (3, .istore_n 3, 1, []), (4, .nop, 0, [1])],
  [(4, .iload_n 3, 1, []), (5, .aload_n 0, 1, []), (6, .getfield 7, 3, [1, 1, 0, 1482, 0, 12]), (9, .iconst 3, 1, []), (10, .iaload, 1, []), (11, .if_icmp .ge 42, 3, [4]), (14, .iload_n 2, 1, []), (15, .aload_n 0, 1, []), (16, .iload_n 3, 1, []), (17, .iconst 0, 1, []), (18, .invokevirtual 127, 3, [10, 2, 1691, 0, 12, 55]), (21, .iload_n 1, 1, []), (22, .if_icmp .ne 22, 3, [2]), (25, .aload_n 0, 1, []), (26, .iload_n 3, 1, []), (27, .iconst 2, 1, []), (28, .invokevirtual 127, 3, [10, 2, 1691, 0, 12, 55]), (31, .iconst (-1), 1, []), (32, .if_icmp .eq 12, 3, [2]), (35, .aload_n 0, 1, []), (36, .iload_n 3, 1, []), (37, .iconst 1, 1, []), (38, .invokevirtual 127, 3, [10, 2, 1691, 0, 12, 55]), (41, .goto 4, 3, [3])],
  [(44, .iconst 0, 1, []), (45, .nop, 0, [3])],
  [(45, .iadd, 1, []), (46, .istore_n 2, 1, []), (47, .iinc 3 1, 3, []), (50, .goto (-46), 3, [1])],
  [(53, .iload_n 2, 1, []), (54, .ireturn, 1, [0])]]
def bl_83 : List Nat := [0, 4, 44, 45, 53]
-- 84: FavourTownModel.wouldTake(IIIIIZZ)Z
def T_84 : List (List pEnt) := [[(0, .aload_n 0, 1, []), (1, .getfield 7, 3, [1, 1, 0, 1482, 0, 12]), (4, .bipush 10, 2, []), (6, .iconst 3, 1, []), (7, .iload_n 1, 1, []), (8, .imul, 1, []), (9, .iadd, 1, []), (10, .iconst 1, 1, []), (11, .iadd, 1, []), (12, .iaload, 1, []), (13, .istore 8, 2, []), (15, .iload 6, 2, []), (17, .ifCond .ne 9, 3, [1]), (20, .iload 8, 2, []), (22, .iconst (-1), 1, []), (23, .if_icmp .ne 5, 3, [2]), (26, .nop, 0, [1])],
  [(26, .iconst 1, 1, []), (27, .ireturn, 1, [2])],
  [(28, .aload_n 0, 1, []), (29, .getfield 26, 3, [13, 1, 0, 1494, 0, 12]), (32, .iconst 0, 1, []), (33, .iload_n 3, 1, []), (34, .iload 4, 2, []), (36, .invokestatic 229, 3, [20, 2, 1699, 0, 81]), (39, .sipush 1024, 3, []), (42, .idiv, 1, []), (43, .iastore, 1, []), (44, .aload_n 0, 1, []), (45, .getfield 26, 3, [13, 1, 0, 1494, 0, 12]), (48, .iconst 1, 1, []), (49, .iload_n 3, 1, []), (50, .iastore, 1, []), (51, .aload_n 0, 1, []), (52, .getfield 26, 3, [13, 1, 0, 1494, 0, 12]), (55, .iconst 2, 1, []), (56, .iload 4, 2, []), (58, .iastore, 1, []), (59, .aload_n 0, 1, []), (60, .getfield 26, 3, [13, 1, 0, 1494, 0, 12]), (63, .iconst 3, 1, []), (64, .iload 5, 2, []), (66, .iconst (-1), 1, []), (67, .if_icmp .ne 9, 3, [3]), (70, .sipush 999, 3, []), (73, .goto 13, 3, [4])],
  [(76, .iload 5, 2, []), (78, .aload_n 0, 1, []), (79, .getfield 7, 3, [1, 1, 0, 1482, 0, 12]), (82, .bipush 6, 2, []), (84, .iaload, 1, []), (85, .isub, 1, []), (86, .nop, 0, [4])],
  [(86, .iastore, 1, []), (87, .aload_n 0, 1, []), (88, .getfield 26, 3, [13, 1, 0, 1494, 0, 12]), (91, .iconst 4, 1, []), (92, .aload_n 0, 1, []), (93, .iload_n 1, 1, []), (94, .invokevirtual 232, 3, [10, 1, 1702, 0, 12, 82]), (97, .sipush 1024, 3, []), (100, .idiv, 1, []), (101, .iastore, 1, []), (102, .aload_n 0, 1, []), (103, .getfield 26, 3, [13, 1, 0, 1494, 0, 12]), (106, .iconst 5, 1, []), (107, .aload_n 0, 1, []), (108, .iload_n 2, 1, []), (109, .invokevirtual 235, 3, [10, 1, 1687, 0, 12, 83]), (112, .iastore, 1, []), (113, .aload_n 0, 1, []), (114, .aload_n 0, 1, []), (115, .iload_n 2, 1, []), (116, .iload_n 1, 1, []), (117, .invokevirtual 238, 3, [10, 2, 1706, 0, 12, 57]), (120, .putfield 181, 3, [14, 2, 0, 1495, 0, 12]), (123, .aload_n 0, 1, []), (124, .iload 5, 2, []), (126, .iconst (-1), 1, []), (127, .if_icmp .eq 7, 3, [5]), (130, .iconst 1, 1, []), (131, .goto 4, 3, [6])],
  [(134, .iconst 0, 1, []), (135, .nop, 0, [6])],
  [(135, .putfield 187, 3, [15, 2, 0, 1496, 0, 12]), (138, .aload_n 0, 1, []), (139, .iload 7, 2, []), (141, .putfield 192, 3, [16, 2, 0, 1497, 0, 12]), (144, .aload_n 0, 1, []), (145, .getfield 22, 3, [10, 0, 0, 1491, 0, 12]), (148, .istore 9, 2, []), (150, .aload_n 0, 1, []), (151, .getfield 63, 3, [7, 0, 0, 1488, 0, 12]), (154, .istore 10, 2, []), (156, .aload_n 0, 1, []), (157, .getfield 69, 3, [8, 0, 0, 1489, 0, 12]), (160, .istore 11, 2, []), (162, .aload_n 0, 1, []), (163, .getfield 66, 3, [9, 0, 0, 1490, 0, 12]), (166, .istore 12, 2, []), (168, .aload_n 0, 1, []), (169, .getfield 150, 3, [12, 0, 0, 1493, 0, 12]), (172, .istore 13, 2, []), (174, .aload_n 0, 1, []), (175, .iconst (-1), 1, []), (176, .putfield 22, 3, [10, 0, 0, 1491, 0, 12]), (179, .aload_n 0, 1, []), (180, .sipush 940, 3, []), (183, .sipush 401, 3, []), (186, .iload 8, 2, []), (188, .imul, 1, []), (189, .iadd, 1, []), (190, .iconst 1, 1, []), (191, .iadd, 1, []), (192, .putfield 63, 3, [7, 0, 0, 1488, 0, 12]), (195, .aload_n 0, 1, []), (196, .aload_n 0, 1, []), (197, .getfield 7, 3, [1, 1, 0, 1482, 0, 12]), (200, .aload_n 0, 1, []), (201, .getfield 63, 3, [7, 0, 0, 1488, 0, 12]), (204, .iconst 1, 1, []), (205, .isub, 1, []), (206, .iaload, 1, []), (207, .putfield 69, 3, [8, 0, 0, 1489, 0, 12]), (210, .aload_n 0, 1, []), (211, .iconst (-1), 1, []), (212, .putfield 223, 3, [17, 0, 0, 1498, 0, 12]), (215, .aload_n 0, 1, []), (216, .iconst 1, 1, []), (217, .invokevirtual 163, 3, [10, 1, 1588, 0, 12, 69]), (220, .aload_n 0, 1, []), (221, .iload 9, 2, []), (223, .putfield 22, 3, [10, 0, 0, 1491, 0, 12]), (226, .aload_n 0, 1, []), (227, .iload 10, 2, []), (229, .putfield 63, 3, [7, 0, 0, 1488, 0, 12]), (232, .aload_n 0, 1, []), (233, .iload 11, 2, []), (235, .putfield 69, 3, [8, 0, 0, 1489, 0, 12]), (238, .aload_n 0, 1, []), (239, .iload 12, 2, []), (241, .putfield 66, 3, [9, 0, 0, 1490, 0, 12]), (244, .aload_n 0, 1, []), (245, .iload 13, 2, []), (247, .putfield 150, 3, [12, 0, 0, 1493, 0, 12]), (250, .aload_n 0, 1, []), (251, .getfield 223, 3, [17, 0, 0, 1498, 0, 12]), (254, .iconst 1, 1, []), (255, .if_icmp .ne 7, 3, [7]), (258, .iconst 1, 1, []), (259, .goto 4, 3, [8])],
  [(262, .iconst 0, 1, []), (263, .nop, 0, [8])],
  [(263, .ireturn, 1, [2])]]
def bl_84 : List Nat := [0, 26, 28, 76, 86, 134, 135, 262, 263]
-- 85: FavourTownModel.wouldPass(II)Z
def T_85 : List (List pEnt) := [[(0, .iconst 0, 1, []), (1, .istore_n 3, 1, []), (2, .iconst 1, 1, []), (3, .istore 4, 2, []), (5, .nop, 0, [1])],
  [(5, .iload 4, 2, []), (7, .aload_n 0, 1, []), (8, .iload_n 2, 1, []), (9, .bipush 6, 2, []), (11, .invokevirtual 127, 3, [10, 2, 1691, 0, 12, 55]), (14, .if_icmp .ge 33, 3, [5]), (17, .iload_n 3, 1, []), (18, .ifCond .ne 17, 3, [2]), (21, .aload_n 0, 1, []), (22, .iload_n 2, 1, []), (23, .bipush 7, 2, []), (25, .iload 4, 2, []), (27, .iadd, 1, []), (28, .invokevirtual 127, 3, [10, 2, 1691, 0, 12, 55]), (31, .iload_n 1, 1, []), (32, .if_icmp .ne 7, 3, [3]), (35, .nop, 0, [2])],
  [(35, .iconst 1, 1, []), (36, .goto 4, 3, [4])],
  [(39, .iconst 0, 1, []), (40, .nop, 0, [4])],
  [(40, .istore_n 3, 1, []), (41, .iinc 4 1, 3, []), (44, .goto (-39), 3, [1])],
  [(47, .aload_n 0, 1, []), (48, .iload_n 1, 1, []), (49, .aload_n 0, 1, []), (50, .iload_n 2, 1, []), (51, .iconst 0, 1, []), (52, .invokevirtual 127, 3, [10, 2, 1691, 0, 12, 55]), (55, .aload_n 0, 1, []), (56, .iload_n 2, 1, []), (57, .iconst 1, 1, []), (58, .invokevirtual 127, 3, [10, 2, 1691, 0, 12, 55]), (61, .aload_n 0, 1, []), (62, .iload_n 2, 1, []), (63, .iconst 3, 1, []), (64, .invokevirtual 127, 3, [10, 2, 1691, 0, 12, 55]), (67, .iconst 1, 1, []), (68, .iadd, 1, []), (69, .aload_n 0, 1, []), (70, .iload_n 2, 1, []), (71, .iconst 4, 1, []), (72, .invokevirtual 127, 3, [10, 2, 1691, 0, 12, 55]), (75, .aload_n 0, 1, []), (76, .iload_n 2, 1, []), (77, .iconst 5, 1, []), (78, .invokevirtual 127, 3, [10, 2, 1691, 0, 12, 55]), (81, .iconst 1, 1, []), (82, .if_icmp .ne 7, 3, [6]), (85, .iconst 1, 1, []), (86, .goto 4, 3, [7])],
  [(89, .iconst 0, 1, []), (90, .nop, 0, [7])],
  [(90, .iload_n 3, 1, []), (91, .invokevirtual 242, 3, [10, 7, 1695, 0, 12, 84]), (94, .ireturn, 1, [2])]]
def bl_85 : List Nat := [0, 5, 35, 39, 40, 47, 89, 90]
-- 86: FavourTownModel.canGive(IIIIZ)Z
def T_86 : List (List pEnt) := [[(0, .aload_n 0, 1, []), (1, .iload_n 1, 1, []), (2, .invokevirtual 235, 3, [10, 1, 1687, 0, 12, 83]), (5, .iload_n 3, 1, []), (6, .iadd, 1, []), (7, .aload_n 0, 1, []), (8, .getfield 7, 3, [1, 1, 0, 1482, 0, 12]), (11, .bipush 10, 2, []), (13, .iconst 3, 1, []), (14, .iload_n 1, 1, []), (15, .imul, 1, []), (16, .iadd, 1, []), (17, .iaload, 1, []), (18, .if_icmp .gt 34, 3, [1]), (21, .aload_n 0, 1, []), (22, .iload_n 2, 1, []), (23, .iload_n 1, 1, []), (24, .iload_n 3, 1, []), (25, .iconst 0, 1, []), (26, .iload 4, 2, []), (28, .iload 5, 2, []), (30, .iconst 0, 1, []), (31, .invokevirtual 242, 3, [10, 7, 1695, 0, 12, 84]), (34, .ifCond .eq 18, 3, [1]), (37, .aload_n 0, 1, []), (38, .getfield 7, 3, [1, 1, 0, 1482, 0, 12]), (41, .iconst 3, 1, []), (42, .iaload, 1, []), (43, .bipush 40, 2, []), (45, .if_icmp .ge 7, 3, [1]), (48, .iconst 1, 1, []), (49, .goto 4, 3, [2])],
  [(52, .iconst 0, 1, []), (53, .nop, 0, [2])],
  [(53, .ireturn, 1, [2])]]
def bl_86 : List Nat := [0, 52, 53]
-- 87: FavourTownModel.gives(IIIIZ)I
def T_87 : List (List pEnt) := [[(0, .iload 4, 2, []), (2, .ifCond .ne 7, 3, [1]), (5, .iconst (-1), 1, []), (6, .goto 13, 3, [2])],
  [(9, .aload_n 0, 1, []), (10, .getfield 7, 3, [1, 1, 0, 1482, 0, 12]), (13, .bipush 6, 2, []), (15, .iaload, 1, []), (16, .iload 4, 2, []), (18, .iadd, 1, []), (19, .nop, 0, [2])],
  [(19, .istore 6, 2, []), (21, .aload_n 0, 1, []), (22, .iload_n 1, 1, []), (23, .iload_n 2, 1, []), (24, .iload_n 3, 1, []), (25, .iload 6, 2, []), (27, .iload 5, 2, []), (29, .invokevirtual 246, 3, [10, 5, 1683, 0, 12, 86]), (32, .ifCond .ne 5, 3, [3]), (35, .iconst (-1), 1, []), (36, .ireturn, 1, [0])],
  [(37, .aload_n 0, 1, []), (38, .getfield 7, 3, [1, 1, 0, 1482, 0, 12]), (41, .iconst 3, 1, []), (42, .iaload, 1, []), (43, .istore 7, 2, []), (45, .aload_n 0, 1, []), (46, .getfield 7, 3, [1, 1, 0, 1482, 0, 12]), (49, .iconst 3, 1, []), (50, .dup2, 1, []), (51, .iaload, 1, []), (52, .iconst 1, 1, []), (53, .iadd, 1, []), (54, .iastore, 1, []), (55, .iconst 0, 1, []), (56, .istore 8, 2, []), (58, .nop, 0, [4])],
  [(58, .iload 8, 2, []), (60, .bipush 20, 2, []), (62, .if_icmp .ge 18, 3, [5]), (65, .aload_n 0, 1, []), (66, .iload 7, 2, []), (68, .iload 8, 2, []), (70, .iconst 0, 1, []), (71, .invokevirtual 135, 3, [10, 3, 1710, 0, 12, 56]), (74, .iinc 8 1, 3, []), (77, .goto (-19), 3, [4])],
  [(80, .aload_n 0, 1, []), (81, .iload 7, 2, []), (83, .iconst 0, 1, []), (84, .iload_n 1, 1, []), (85, .invokevirtual 135, 3, [10, 3, 1710, 0, 12, 56]), (88, .aload_n 0, 1, []), (89, .iload 7, 2, []), (91, .iconst 1, 1, []), (92, .iload_n 3, 1, []), (93, .invokevirtual 135, 3, [10, 3, 1710, 0, 12, 56]), (96, .aload_n 0, 1, []), (97, .iload 7, 2, []), (99, .iconst 2, 1, []), (100, .iload_n 2, 1, []), (101, .invokevirtual 135, 3, [10, 3, 1710, 0, 12, 56]), (104, .aload_n 0, 1, []), (105, .iload 7, 2, []), (107, .iconst 4, 1, []), (108, .iload 6, 2, []), (110, .invokevirtual 135, 3, [10, 3, 1710, 0, 12, 56]), (113, .aload_n 0, 1, []), (114, .iload 7, 2, []), (116, .iconst 5, 1, []), (117, .iload 5, 2, []), (119, .ifCond .eq 7, 3, [6]), (122, .iconst 1, 1, []), (123, .goto 4, 3, [7])],
  [(126, .iconst 0, 1, []), (127, .nop, 0, [7])],
  [(127, .invokevirtual 135, 3, [10, 3, 1710, 0, 12, 56]), (130, .aload_n 0, 1, []), (131, .iload 7, 2, []), (133, .bipush 6, 2, []), (135, .iconst 2, 1, []), (136, .invokevirtual 135, 3, [10, 3, 1710, 0, 12, 56]), (139, .aload_n 0, 1, []), (140, .iload 7, 2, []), (142, .bipush 7, 2, []), (144, .iload_n 1, 1, []), (145, .invokevirtual 135, 3, [10, 3, 1710, 0, 12, 56]), (148, .aload_n 0, 1, []), (149, .iload 7, 2, []), (151, .bipush 8, 2, []), (153, .iload_n 2, 1, []), (154, .invokevirtual 135, 3, [10, 3, 1710, 0, 12, 56]), (157, .iload 7, 2, []), (159, .ireturn, 1, [0])]]
def bl_87 : List Nat := [0, 9, 19, 37, 58, 80, 126, 127]
-- 88: FavourTownModel.canPass(II)Z
def T_88 : List (List pEnt) := [[(0, .aload_n 0, 1, []), (1, .iload_n 1, 1, []), (2, .iconst 2, 1, []), (3, .invokevirtual 127, 3, [10, 2, 1691, 0, 12, 55]), (6, .iconst (-1), 1, []), (7, .if_icmp .eq 19, 3, [1]), (10, .aload_n 0, 1, []), (11, .iload_n 1, 1, []), (12, .iconst 3, 1, []), (13, .invokevirtual 127, 3, [10, 2, 1691, 0, 12, 55]), (16, .aload_n 0, 1, []), (17, .getfield 7, 3, [1, 1, 0, 1482, 0, 12]), (20, .bipush 7, 2, []), (22, .iaload, 1, []), (23, .if_icmp .lt 5, 3, [2]), (26, .nop, 0, [1])],
  [(26, .iconst 0, 1, []), (27, .ireturn, 1, [2])],
  [(28, .aload_n 0, 1, []), (29, .iload_n 1, 1, []), (30, .iconst 0, 1, []), (31, .invokevirtual 127, 3, [10, 2, 1691, 0, 12, 55]), (34, .iload_n 2, 1, []), (35, .if_icmp .eq 12, 3, [3]), (38, .aload_n 0, 1, []), (39, .iload_n 2, 1, []), (40, .iload_n 1, 1, []), (41, .invokevirtual 250, 3, [10, 2, 1723, 0, 12, 85]), (44, .ifCond .eq 7, 3, [4]), (47, .nop, 0, [3])],
  [(47, .iconst 1, 1, []), (48, .goto 4, 3, [5])],
  [(51, .iconst 0, 1, []), (52, .nop, 0, [5])],
  [(52, .ireturn, 1, [2])]]
def bl_88 : List Nat := [0, 26, 28, 47, 51, 52]
-- 89: FavourTownModel.passes(II)I
def T_89 : List (List pEnt) := [[(0, .aload_n 0, 1, []), (1, .iload_n 1, 1, []), (2, .iload_n 2, 1, []), (3, .invokevirtual 253, 3, [10, 2, 1719, 0, 12, 88]), (6, .ifCond .ne 5, 3, [1]), (9, .iconst (-1), 1, []), (10, .ireturn, 1, [0])],
  [(11, .aload_n 0, 1, []), (12, .iload_n 1, 1, []), (13, .iconst 3, 1, []), (14, .aload_n 0, 1, []), (15, .iload_n 1, 1, []), (16, .iconst 3, 1, []), (17, .invokevirtual 127, 3, [10, 2, 1691, 0, 12, 55]), (20, .iconst 1, 1, []), (21, .iadd, 1, []), (22, .invokevirtual 135, 3, [10, 3, 1710, 0, 12, 56]), (25, .aload_n 0, 1, []), (26, .iload_n 1, 1, []), (27, .bipush 7, 2, []), (29, .aload_n 0, 1, []), (30, .iload_n 1, 1, []), (31, .bipush 6, 2, []), (33, .invokevirtual 127, 3, [10, 2, 1691, 0, 12, 55]), (36, .iadd, 1, []), (37, .iload_n 2, 1, []), (38, .invokevirtual 135, 3, [10, 3, 1710, 0, 12, 56]), (41, .aload_n 0, 1, []), (42, .iload_n 1, 1, []), (43, .bipush 6, 2, []), (45, .aload_n 0, 1, []), (46, .iload_n 1, 1, []), (47, .bipush 6, 2, []), (49, .invokevirtual 127, 3, [10, 2, 1691, 0, 12, 55]), (52, .iconst 1, 1, []), (53, .iadd, 1, []), (54, .invokevirtual 135, 3, [10, 3, 1710, 0, 12, 56]), (57, .aload_n 0, 1, []), (58, .iload_n 1, 1, []), (59, .iconst 0, 1, []), (60, .invokevirtual 127, 3, [10, 2, 1691, 0, 12, 55]), (63, .iload_n 2, 1, []), (64, .if_icmp .ne 7, 3, [2]), (67, .iconst 1, 1, []), (68, .goto 4, 3, [3])],
  [(71, .iconst 0, 1, []), (72, .nop, 0, [3])],
  [(72, .istore_n 3, 1, []), (73, .aload_n 0, 1, []), (74, .iload_n 1, 1, []), (75, .iconst 2, 1, []), (76, .iload_n 3, 1, []), (77, .ifCond .eq 7, 3, [4]), (80, .iconst (-1), 1, []), (81, .goto 4, 3, [5])],
  [(84, .iload_n 2, 1, []), (85, .nop, 0, [5])],
  [(85, .invokevirtual 135, 3, [10, 3, 1710, 0, 12, 56]), (88, .iload_n 3, 1, []), (89, .ifCond .eq 7, 3, [6]), (92, .iconst 0, 1, []), (93, .goto 18, 3, [7])],
  [(96, .aload_n 0, 1, []), (97, .iload_n 1, 1, []), (98, .iconst 1, 1, []), (99, .invokevirtual 127, 3, [10, 2, 1691, 0, 12, 55]), (102, .aload_n 0, 1, []), (103, .iload_n 1, 1, []), (104, .iconst 3, 1, []), (105, .invokevirtual 127, 3, [10, 2, 1691, 0, 12, 55]), (108, .invokestatic 229, 3, [20, 2, 1699, 0, 81]), (111, .nop, 0, [7])],
  [(111, .ireturn, 1, [0])]]
def bl_89 : List Nat := [0, 11, 71, 72, 84, 85, 96, 111]
-- 90: FavourTownModel.goOn(I)I
def T_90 : List (List pEnt) := [[(0, .aload_n 0, 1, []), (1, .getfield 7, 3, [1, 1, 0, 1482, 0, 12]), (4, .bipush 6, 2, []), (6, .dup2, 1, []), (7, .iaload, 1, []), (8, .iload_n 1, 1, []), (9, .iadd, 1, []), (10, .iastore, 1, []), (11, .iconst 0, 1, []), (12, .istore_n 2, 1, []), (13, .iconst 0, 1, []), (14, .istore_n 3, 1, []), (15, .nop, 0, [1])],
  [(15, .iload_n 3, 1, []), (16, .aload_n 0, 1, []), (17, .getfield 7, 3, [1, 1, 0, 1482, 0, 12]), (20, .iconst 3, 1, []), (21, .iaload, 1, []), (22, .if_icmp .ge 58, 3, [4]), (25, .aload_n 0, 1, []), (26, .iload_n 3, 1, []), (27, .iconst 2, 1, []), (28, .invokevirtual 127, 3, [10, 2, 1691, 0, 12, 55]), (31, .iconst (-1), 1, []), (32, .if_icmp .eq 42, 3, [3]), (35, .aload_n 0, 1, []), (36, .iload_n 3, 1, []), (37, .iconst 4, 1, []), (38, .invokevirtual 127, 3, [10, 2, 1691, 0, 12, 55]), (41, .iconst (-1), 1, []), (42, .if_icmp .eq 32, 3, [3]), (45, .aload_n 0, 1, []), (46, .iload_n 3, 1, []), (47, .iconst 4, 1, []), (48, .invokevirtual 127, 3, [10, 2, 1691, 0, 12, 55]), (51, .aload_n 0, 1, []), (52, .getfield 7, 3, [1, 1, 0, 1482, 0, 12]), (55, .bipush 6, 2, []), (57, .iaload, 1, []), (58, .if_icmp .le 6, 3, [2]), (61, .goto 13, 3, [3])],
  [(64, .aload_n 0, 1, []), (65, .iload_n 3, 1, []), (66, .iconst 2, 1, []), (67, .iconst (-1), 1, []), (68, .invokevirtual 135, 3, [10, 3, 1710, 0, 12, 56]), (71, .iinc 2 1, 3, []), (74, .nop, 0, [3])],
  [(74, .iinc 3 1, 3, []), (77, .goto (-62), 3, [1])],
  [(80, .iload_n 2, 1, []), (81, .ireturn, 1, [0])]]
def bl_90 : List Nat := [0, 15, 64, 74, 80]
-- 91: FavourTownModel.give(IIIIZ)I
def T_91 : List (List pEnt) := [[(0, .aload_n 0, 1, []), (1, .aload_n 0, 1, []), (2, .iload_n 1, 1, []), (3, .invokevirtual 226, 3, [10, 1, 1747, 0, 12, 53]), (6, .ifCond .eq 11, 3, [1]), (9, .aload_n 0, 1, []), (10, .iload_n 2, 1, []), (11, .invokevirtual 226, 3, [10, 1, 1747, 0, 12, 53]), (14, .ifCond .ne 7, 3, [2]), (17, .nop, 0, [1])],
  [(17, .iconst 1, 1, []), (18, .goto 34, 3, [5])],
  [(21, .iload_n 1, 1, []), (22, .iload_n 2, 1, []), (23, .if_icmp .eq 24, 3, [3]), (26, .iload_n 3, 1, []), (27, .iconst 1, 1, []), (28, .bipush 99, 2, []), (30, .invokestatic 56, 3, [20, 3, 1581, 0, 52]), (33, .ifCond .eq 14, 3, [3]), (36, .iload 4, 2, []), (38, .iconst 0, 1, []), (39, .bipush 99, 2, []), (41, .invokestatic 56, 3, [20, 3, 1581, 0, 52]), (44, .ifCond .ne 7, 3, [4]), (47, .nop, 0, [3])],
  [(47, .iconst 2, 1, []), (48, .goto 4, 3, [5])],
  [(51, .iconst 0, 1, []), (52, .nop, 0, [5])],
  [(52, .putfield 53, 3, [0, 0, 0, 1481, 0, 12]), (55, .aload_n 0, 1, []), (56, .getfield 53, 3, [0, 0, 0, 1481, 0, 12]), (59, .ifCond .le 5, 3, [6]), (62, .iconst 0, 1, []), (63, .ireturn, 1, [0])],
  [(64, .aload_n 0, 1, []), (65, .iload_n 1, 1, []), (66, .iload_n 2, 1, []), (67, .iload_n 3, 1, []), (68, .iload 4, 2, []), (70, .iload 5, 2, []), (72, .invokevirtual 121, 3, [10, 5, 1679, 0, 12, 87]), (75, .ireturn, 1, [0])]]
def bl_91 : List Nat := [0, 17, 21, 47, 51, 52, 64]
-- 92: FavourTownModel.pass(II)I
def T_92 : List (List pEnt) := [[(0, .aload_n 0, 1, []), (1, .aload_n 0, 1, []), (2, .iload_n 1, 1, []), (3, .invokevirtual 256, 3, [10, 1, 1759, 0, 12, 54]), (6, .ifCond .eq 11, 3, [1]), (9, .aload_n 0, 1, []), (10, .iload_n 2, 1, []), (11, .invokevirtual 226, 3, [10, 1, 1747, 0, 12, 53]), (14, .ifCond .ne 7, 3, [2]), (17, .nop, 0, [1])],
  [(17, .iconst 1, 1, []), (18, .goto 18, 3, [4])],
  [(21, .aload_n 0, 1, []), (22, .iload_n 1, 1, []), (23, .iconst 2, 1, []), (24, .invokevirtual 127, 3, [10, 2, 1691, 0, 12, 55]), (27, .iload_n 2, 1, []), (28, .if_icmp .ne 7, 3, [3]), (31, .iconst 2, 1, []), (32, .goto 4, 3, [4])],
  [(35, .iconst 0, 1, []), (36, .nop, 0, [4])],
  [(36, .putfield 53, 3, [0, 0, 0, 1481, 0, 12]), (39, .aload_n 0, 1, []), (40, .getfield 53, 3, [0, 0, 0, 1481, 0, 12]), (43, .ifCond .le 5, 3, [5]), (46, .iconst 0, 1, []), (47, .ireturn, 1, [0])],
  [(48, .aload_n 0, 1, []), (49, .iload_n 1, 1, []), (50, .iload_n 2, 1, []), (51, .invokevirtual 130, 3, [10, 2, 1715, 0, 12, 89]), (54, .ireturn, 1, [0])]]
def bl_92 : List Nat := [0, 17, 21, 35, 36, 48]
-- 93: FavourTownModel.call(I)I
def T_93 : List (List pEnt) := [[(0, .aload_n 0, 1, []), (1, .aload_n 0, 1, []), (2, .iload_n 1, 1, []), (3, .invokevirtual 256, 3, [10, 1, 1759, 0, 12, 54]), (6, .ifCond .ne 7, 3, [1]), (9, .iconst 1, 1, []), (10, .goto 4, 3, [2])],
  [(13, .iconst 0, 1, []), (14, .nop, 0, [2])],
  [(14, .putfield 53, 3, [0, 0, 0, 1481, 0, 12]), (17, .aload_n 0, 1, []), (18, .getfield 53, 3, [0, 0, 0, 1481, 0, 12]), (21, .ifCond .le 5, 3, [3]), (24, .iconst 0, 1, []), (25, .ireturn, 1, [0])],
  [(26, .aload_n 0, 1, []), (27, .iload_n 1, 1, []), (28, .iconst 2, 1, []), (29, .invokevirtual 127, 3, [10, 2, 1691, 0, 12, 55]), (32, .iconst (-1), 1, []), (33, .if_icmp .ne 5, 3, [4]), (36, .iconst (-1), 1, []), (37, .ireturn, 1, [0])],
  [(38, .aload_n 0, 1, []), (39, .iload_n 1, 1, []), (40, .iconst 2, 1, []), (41, .iconst (-1), 1, []), (42, .invokevirtual 135, 3, [10, 3, 1710, 0, 12, 56]), (45, .aload_n 0, 1, []), (46, .iload_n 1, 1, []), (47, .iconst 1, 1, []), (48, .invokevirtual 127, 3, [10, 2, 1691, 0, 12, 55]), (51, .aload_n 0, 1, []), (52, .iload_n 1, 1, []), (53, .iconst 3, 1, []), (54, .invokevirtual 127, 3, [10, 2, 1691, 0, 12, 55]), (57, .invokestatic 229, 3, [20, 2, 1699, 0, 81]), (60, .ireturn, 1, [0])]]
def bl_93 : List Nat := [0, 13, 14, 26, 38]
-- 94: FavourTownModel.days(I)I
def T_94 : List (List pEnt) := [[(0, .aload_n 0, 1, []), (1, .iload_n 1, 1, []), (2, .iconst 1, 1, []), (3, .bipush 99, 2, []), (5, .invokestatic 56, 3, [20, 3, 1581, 0, 52]), (8, .ifCond .ne 7, 3, [1]), (11, .iconst 1, 1, []), (12, .goto 4, 3, [2])],
  [(15, .iconst 0, 1, []), (16, .nop, 0, [2])],
  [(16, .putfield 53, 3, [0, 0, 0, 1481, 0, 12]), (19, .aload_n 0, 1, []), (20, .getfield 53, 3, [0, 0, 0, 1481, 0, 12]), (23, .ifCond .le 5, 3, [3]), (26, .iconst 0, 1, []), (27, .ireturn, 1, [0])],
  [(28, .aload_n 0, 1, []), (29, .iload_n 1, 1, []), (30, .invokevirtual 141, 3, [10, 1, 1729, 0, 12, 90]), (33, .ireturn, 1, [0])]]
def bl_94 : List Nat := [0, 15, 16, 28]
-- 95: FavourTownModel.look(II)I
def T_95 : List (List pEnt) := [[(0, .aload_n 0, 1, []), (1, .aload_n 0, 1, []), (2, .iload_n 1, 1, []), (3, .invokevirtual 256, 3, [10, 1, 1759, 0, 12, 54]), (6, .ifCond .ne 7, 3, [1]), (9, .iconst 1, 1, []), (10, .goto 18, 3, [3])],
  [(13, .iload_n 2, 1, []), (14, .iconst 0, 1, []), (15, .bipush 6, 2, []), (17, .invokestatic 56, 3, [20, 3, 1581, 0, 52]), (20, .ifCond .ne 7, 3, [2]), (23, .iconst 2, 1, []), (24, .goto 4, 3, [3])],
  [(27, .iconst 0, 1, []), (28, .nop, 0, [3])],
  [(28, .putfield 53, 3, [0, 0, 0, 1481, 0, 12]), (31, .aload_n 0, 1, []), (32, .getfield 53, 3, [0, 0, 0, 1481, 0, 12]), (35, .ifCond .le 5, 3, [4]), (38, .iconst 0, 1, []), (39, .ireturn, 1, [0])],
  [(40, .iload_n 2, 1, []), (41, .iconst 4, 1, []), (42, .if_icmp .ne 33, 3, [7]), (45, .aload_n 0, 1, []), (46, .iload_n 1, 1, []), (47, .iconst 2, 1, []), (48, .invokevirtual 127, 3, [10, 2, 1691, 0, 12, 55]), (51, .iconst (-1), 1, []), (52, .if_icmp .ne 7, 3, [5]), (55, .iconst 0, 1, []), (56, .goto 18, 3, [6])],
  [(59, .aload_n 0, 1, []), (60, .iload_n 1, 1, []), (61, .iconst 1, 1, []), (62, .invokevirtual 127, 3, [10, 2, 1691, 0, 12, 55]), (65, .aload_n 0, 1, []), (66, .iload_n 1, 1, []), (67, .iconst 3, 1, []), (68, .invokevirtual 127, 3, [10, 2, 1691, 0, 12, 55]), (71, .invokestatic 229, 3, [20, 2, 1699, 0, 81]), (74, .nop, 0, [6])],
  [(74, .ireturn, 1, [0])],
  [(75, .iload_n 2, 1, []), (76, .ifCond .ne 12, 3, [8]), (79, .aload_n 0, 1, []), (80, .iload_n 1, 1, []), (81, .iconst 0, 1, []), (82, .invokevirtual 127, 3, [10, 2, 1691, 0, 12, 55]), (85, .goto 65, 3, [13])],
  [(88, .iload_n 2, 1, []), (89, .iconst 1, 1, []), (90, .if_icmp .ne 12, 3, [9]), (93, .aload_n 0, 1, []), (94, .iload_n 1, 1, []), (95, .iconst 2, 1, []), (96, .invokevirtual 127, 3, [10, 2, 1691, 0, 12, 55]), (99, .goto 51, 3, [13])],
  [(102, .iload_n 2, 1, []), (103, .iconst 2, 1, []), (104, .if_icmp .ne 12, 3, [10]), (107, .aload_n 0, 1, []), (108, .iload_n 1, 1, []), (109, .iconst 1, 1, []), (110, .invokevirtual 127, 3, [10, 2, 1691, 0, 12, 55]), (113, .goto 37, 3, [13])],
  [(116, .iload_n 2, 1, []), (117, .iconst 3, 1, []), (118, .if_icmp .ne 12, 3, [11]), (121, .aload_n 0, 1, []), (122, .iload_n 1, 1, []), (123, .iconst 3, 1, []), (124, .invokevirtual 127, 3, [10, 2, 1691, 0, 12, 55]), (127, .goto 23, 3, [13])],
  [(130, .iload_n 2, 1, []), (131, .iconst 5, 1, []), (132, .if_icmp .ne 12, 3, [12]), (135, .aload_n 0, 1, []), (136, .iload_n 1, 1, []), (137, .iconst 4, 1, []), (138, .invokevirtual 127, 3, [10, 2, 1691, 0, 12, 55]), (141, .goto 9, 3, [13])],
  [(144, .aload_n 0, 1, []), (145, .iload_n 1, 1, []), (146, .iconst 5, 1, []), (147, .invokevirtual 127, 3, [10, 2, 1691, 0, 12, 55]), (150, .nop, 0, [13])],
  [(150, .ireturn, 1, [0])]]
def bl_95 : List Nat := [0, 13, 27, 28, 40, 59, 74, 75, 88, 102, 116, 130, 144, 150]
-- 96: FavourTownModel.hand(II)I
def T_96 : List (List pEnt) := [[(0, .aload_n 0, 1, []), (1, .aload_n 0, 1, []), (2, .iload_n 1, 1, []), (3, .invokevirtual 256, 3, [10, 1, 1759, 0, 12, 54]), (6, .ifCond .ne 7, 3, [1]), (9, .iconst 1, 1, []), (10, .goto 4, 3, [2])],
  [(13, .iconst 0, 1, []), (14, .nop, 0, [2])],
  [(14, .putfield 53, 3, [0, 0, 0, 1481, 0, 12]), (17, .aload_n 0, 1, []), (18, .getfield 53, 3, [0, 0, 0, 1481, 0, 12]), (21, .ifCond .le 5, 3, [3]), (24, .iconst 0, 1, []), (25, .ireturn, 1, [0])],
  [(26, .iload_n 2, 1, []), (27, .iconst 0, 1, []), (28, .aload_n 0, 1, []), (29, .iload_n 1, 1, []), (30, .bipush 6, 2, []), (32, .invokevirtual 127, 3, [10, 2, 1691, 0, 12, 55]), (35, .iconst 1, 1, []), (36, .isub, 1, []), (37, .invokestatic 56, 3, [20, 3, 1581, 0, 52]), (40, .ifCond .eq 15, 3, [4]), (43, .aload_n 0, 1, []), (44, .iload_n 1, 1, []), (45, .bipush 7, 2, []), (47, .iload_n 2, 1, []), (48, .iadd, 1, []), (49, .invokevirtual 127, 3, [10, 2, 1691, 0, 12, 55]), (52, .goto 4, 3, [5])],
  [(55, .iconst (-1), 1, []), (56, .nop, 0, [5])],
  [(56, .ireturn, 1, [0])]]
def bl_96 : List Nat := [0, 13, 14, 26, 55, 56]
-- 97: FavourTownModel.takes(II)Z
def T_97 : List (List pEnt) := [[(0, .aload_n 0, 1, []), (1, .aload_n 0, 1, []), (2, .iload_n 1, 1, []), (3, .invokevirtual 226, 3, [10, 1, 1747, 0, 12, 53]), (6, .ifCond .eq 11, 3, [1]), (9, .aload_n 0, 1, []), (10, .iload_n 2, 1, []), (11, .invokevirtual 256, 3, [10, 1, 1759, 0, 12, 54]), (14, .ifCond .ne 7, 3, [2]), (17, .nop, 0, [1])],
  [(17, .iconst 1, 1, []), (18, .goto 4, 3, [3])],
  [(21, .iconst 0, 1, []), (22, .nop, 0, [3])],
  [(22, .putfield 53, 3, [0, 0, 0, 1481, 0, 12]), (25, .aload_n 0, 1, []), (26, .getfield 53, 3, [0, 0, 0, 1481, 0, 12]), (29, .ifCond .le 5, 3, [4]), (32, .iconst 0, 1, []), (33, .ireturn, 1, [2])],
  [(34, .aload_n 0, 1, []), (35, .iload_n 1, 1, []), (36, .iload_n 2, 1, []), (37, .invokevirtual 250, 3, [10, 2, 1723, 0, 12, 85]), (40, .ireturn, 1, [2])]]
def bl_97 : List Nat := [0, 17, 21, 22, 34]
-- 98: FavourTownModel.rich(I)I
def T_98 : List (List pEnt) := [[(0, .aload_n 0, 1, []), (1, .aload_n 0, 1, []), (2, .iload_n 1, 1, []), (3, .invokevirtual 226, 3, [10, 1, 1747, 0, 12, 53]), (6, .ifCond .ne 7, 3, [1]), (9, .iconst 1, 1, []), (10, .goto 4, 3, [2])],
  [(13, .iconst 0, 1, []), (14, .nop, 0, [2])],
  [(14, .putfield 53, 3, [0, 0, 0, 1481, 0, 12]), (17, .aload_n 0, 1, []), (18, .getfield 53, 3, [0, 0, 0, 1481, 0, 12]), (21, .ifCond .le 5, 3, [3]), (24, .iconst 0, 1, []), (25, .ireturn, 1, [0])],
  [(26, .aload_n 0, 1, []), (27, .iload_n 1, 1, []), (28, .invokevirtual 232, 3, [10, 1, 1702, 0, 12, 82]), (31, .ireturn, 1, [0])]]
def bl_98 : List Nat := [0, 13, 14, 26]
-- 99: FavourTownModel.debt(I)I
def T_99 : List (List pEnt) := [[(0, .aload_n 0, 1, []), (1, .aload_n 0, 1, []), (2, .iload_n 1, 1, []), (3, .invokevirtual 226, 3, [10, 1, 1747, 0, 12, 53]), (6, .ifCond .ne 7, 3, [1]), (9, .iconst 1, 1, []), (10, .goto 4, 3, [2])],
  [(13, .iconst 0, 1, []), (14, .nop, 0, [2])],
  [(14, .putfield 53, 3, [0, 0, 0, 1481, 0, 12]), (17, .aload_n 0, 1, []), (18, .getfield 53, 3, [0, 0, 0, 1481, 0, 12]), (21, .ifCond .le 5, 3, [3]), (24, .iconst 0, 1, []), (25, .ireturn, 1, [0])],
  [(26, .aload_n 0, 1, []), (27, .iload_n 1, 1, []), (28, .invokevirtual 235, 3, [10, 1, 1687, 0, 12, 83]), (31, .ireturn, 1, [0])]]
def bl_99 : List Nat := [0, 13, 14, 26]
-- 100: FavourTownModel.owesOf(II)I
def T_100 : List (List pEnt) := [[(0, .iconst 0, 1, []), (1, .istore_n 3, 1, []), (2, .iconst 0, 1, []), (3, .istore 4, 2, []), (5, .nop, 0, [1])],
  [(5, .iload 4, 2, []), (7, .aload_n 0, 1, []), (8, .getfield 7, 3, [1, 1, 0, 1482, 0, 12]), (11, .iconst 3, 1, []), (12, .iaload, 1, []), (13, .if_icmp .ge 45, 3, [4]), (16, .iload_n 3, 1, []), (17, .aload_n 0, 1, []), (18, .iload 4, 2, []), (20, .iconst 0, 1, []), (21, .invokevirtual 127, 3, [10, 2, 1691, 0, 12, 55]), (24, .iload_n 1, 1, []), (25, .if_icmp .ne 24, 3, [2]), (28, .aload_n 0, 1, []), (29, .iload 4, 2, []), (31, .iconst 2, 1, []), (32, .invokevirtual 127, 3, [10, 2, 1691, 0, 12, 55]), (35, .iload_n 2, 1, []), (36, .if_icmp .ne 13, 3, [2]), (39, .aload_n 0, 1, []), (40, .iload 4, 2, []), (42, .iconst 1, 1, []), (43, .invokevirtual 127, 3, [10, 2, 1691, 0, 12, 55]), (46, .goto 4, 3, [3])],
  [(49, .iconst 0, 1, []), (50, .nop, 0, [3])],
  [(50, .iadd, 1, []), (51, .istore_n 3, 1, []), (52, .iinc 4 1, 3, []), (55, .goto (-50), 3, [1])],
  [(58, .iload_n 3, 1, []), (59, .ireturn, 1, [0])]]
def bl_100 : List Nat := [0, 5, 49, 50, 58]
-- 101: FavourTownModel.owes(II)I
def T_101 : List (List pEnt) := [[(0, .aload_n 0, 1, []), (1, .aload_n 0, 1, []), (2, .iload_n 1, 1, []), (3, .invokevirtual 226, 3, [10, 1, 1747, 0, 12, 53]), (6, .ifCond .eq 11, 3, [1]), (9, .aload_n 0, 1, []), (10, .iload_n 2, 1, []), (11, .invokevirtual 226, 3, [10, 1, 1747, 0, 12, 53]), (14, .ifCond .ne 7, 3, [2]), (17, .nop, 0, [1])],
  [(17, .iconst 1, 1, []), (18, .goto 4, 3, [3])],
  [(21, .iconst 0, 1, []), (22, .nop, 0, [3])],
  [(22, .putfield 53, 3, [0, 0, 0, 1481, 0, 12]), (25, .aload_n 0, 1, []), (26, .getfield 53, 3, [0, 0, 0, 1481, 0, 12]), (29, .ifCond .le 5, 3, [4]), (32, .iconst 0, 1, []), (33, .ireturn, 1, [0])],
  [(34, .aload_n 0, 1, []), (35, .iload_n 1, 1, []), (36, .iload_n 2, 1, []), (37, .invokevirtual 259, 3, [10, 2, 1795, 0, 12, 100]), (40, .ireturn, 1, [0])]]
def bl_101 : List Nat := [0, 17, 21, 22, 34]
-- 102: FavourTownModel.goes(III)Z
def T_102 : List (List pEnt) := [[(0, .aload_n 0, 1, []), (1, .iload_n 1, 1, []), (2, .iconst 2, 1, []), (3, .invokevirtual 127, 3, [10, 2, 1691, 0, 12, 55]), (6, .iload_n 2, 1, []), (7, .if_icmp .ne 26, 3, [1]), (10, .aload_n 0, 1, []), (11, .iload_n 1, 1, []), (12, .iconst 0, 1, []), (13, .invokevirtual 127, 3, [10, 2, 1691, 0, 12, 55]), (16, .iload_n 3, 1, []), (17, .if_icmp .eq 16, 3, [1]), (20, .aload_n 0, 1, []), (21, .iload_n 1, 1, []), (22, .iload_n 3, 1, []), (23, .invokevirtual 253, 3, [10, 2, 1719, 0, 12, 88]), (26, .ifCond .eq 7, 3, [1]), (29, .iconst 1, 1, []), (30, .goto 4, 3, [2])],
  [(33, .iconst 0, 1, []), (34, .nop, 0, [2])],
  [(34, .ireturn, 1, [2])]]
def bl_102 : List Nat := [0, 33, 34]
-- 103: FavourTownModel.paysBy(III)I
def T_103 : List (List pEnt) := [[(0, .iconst (-1), 1, []), (1, .istore 4, 2, []), (3, .iconst 0, 1, []), (4, .istore 5, 2, []), (6, .iconst 0, 1, []), (7, .istore 6, 2, []), (9, .nop, 0, [1])],
  [(9, .iload 6, 2, []), (11, .aload_n 0, 1, []), (12, .getfield 7, 3, [1, 1, 0, 1482, 0, 12]), (15, .iconst 3, 1, []), (16, .iaload, 1, []), (17, .if_icmp .ge 86, 3, [5]), (20, .aload_n 0, 1, []), (21, .iload 6, 2, []), (23, .iconst 1, 1, []), (24, .invokevirtual 127, 3, [10, 2, 1691, 0, 12, 55]), (27, .aload_n 0, 1, []), (28, .iload 6, 2, []), (30, .iconst 3, 1, []), (31, .invokevirtual 127, 3, [10, 2, 1691, 0, 12, 55]), (34, .iconst 1, 1, []), (35, .iadd, 1, []), (36, .invokestatic 229, 3, [20, 2, 1699, 0, 81]), (39, .istore 7, 2, []), (41, .aload_n 0, 1, []), (42, .iload 6, 2, []), (44, .iconst 2, 1, []), (45, .invokevirtual 127, 3, [10, 2, 1691, 0, 12, 55]), (48, .iload_n 1, 1, []), (49, .if_icmp .ne 48, 3, [4]), (52, .iload 7, 2, []), (54, .sipush 1024, 3, []), (57, .iload_n 3, 1, []), (58, .imul, 1, []), (59, .if_icmp .lt 38, 3, [4]), (62, .iload 4, 2, []), (64, .iconst (-1), 1, []), (65, .if_icmp .eq 10, 3, [2]), (68, .iload 7, 2, []), (70, .iload 5, 2, []), (72, .if_icmp .ge 25, 3, [4]), (75, .nop, 0, [2])],
  [(75, .aload_n 0, 1, []), (76, .iload 6, 2, []), (78, .iload_n 1, 1, []), (79, .iload_n 2, 1, []), (80, .invokevirtual 262, 3, [10, 3, 1807, 0, 12, 102]), (83, .ifCond .ne 6, 3, [3]), (86, .goto 11, 3, [4])],
  [(89, .iload 6, 2, []), (91, .istore 4, 2, []), (93, .iload 7, 2, []), (95, .istore 5, 2, []), (97, .nop, 0, [4])],
  [(97, .iinc 6 1, 3, []), (100, .goto (-91), 3, [1])],
  [(103, .iload 4, 2, []), (105, .ireturn, 1, [0])]]
def bl_103 : List Nat := [0, 9, 75, 89, 97, 103]
-- 104: FavourTownModel.pays(III)I
def T_104 : List (List pEnt) := [[(0, .aload_n 0, 1, []), (1, .aload_n 0, 1, []), (2, .iload_n 1, 1, []), (3, .invokevirtual 226, 3, [10, 1, 1747, 0, 12, 53]), (6, .ifCond .eq 11, 3, [1]), (9, .aload_n 0, 1, []), (10, .iload_n 2, 1, []), (11, .invokevirtual 226, 3, [10, 1, 1747, 0, 12, 53]), (14, .ifCond .ne 7, 3, [2]), (17, .nop, 0, [1])],
  [(17, .iconst 1, 1, []), (18, .goto 23, 3, [5])],
  [(21, .iload_n 1, 1, []), (22, .iload_n 2, 1, []), (23, .if_icmp .eq 13, 3, [3]), (26, .iload_n 3, 1, []), (27, .iconst 1, 1, []), (28, .bipush 99, 2, []), (30, .invokestatic 56, 3, [20, 3, 1581, 0, 52]), (33, .ifCond .ne 7, 3, [4]), (36, .nop, 0, [3])],
  [(36, .iconst 2, 1, []), (37, .goto 4, 3, [5])],
  [(40, .iconst 0, 1, []), (41, .nop, 0, [5])],
  [(41, .putfield 53, 3, [0, 0, 0, 1481, 0, 12]), (44, .aload_n 0, 1, []), (45, .getfield 53, 3, [0, 0, 0, 1481, 0, 12]), (48, .ifCond .le 5, 3, [6]), (51, .iconst 0, 1, []), (52, .ireturn, 1, [0])],
  [(53, .aload_n 0, 1, []), (54, .iload_n 1, 1, []), (55, .iload_n 2, 1, []), (56, .iload_n 3, 1, []), (57, .invokevirtual 265, 3, [10, 3, 1803, 0, 12, 103]), (60, .ireturn, 1, [0])]]
def bl_104 : List Nat := [0, 17, 21, 36, 40, 41, 53]
-- 105: FavourTownModel.isNeed(I)Z
def T_105 : List (List pEnt) := [[(0, .iload_n 1, 1, []), (1, .iconst 0, 1, []), (2, .aload_n 0, 1, []), (3, .getfield 7, 3, [1, 1, 0, 1482, 0, 12]), (6, .iconst 4, 1, []), (7, .iaload, 1, []), (8, .iconst 1, 1, []), (9, .isub, 1, []), (10, .invokestatic 56, 3, [20, 3, 1581, 0, 52]), (13, .ireturn, 1, [2])]]
def bl_105 : List Nat := [0]
-- 106: FavourTownModel.canMeet(III)Z
def T_106 : List (List pEnt) := [[(0, .aload_n 0, 1, []), (1, .iload_n 1, 1, []), (2, .iload_n 2, 1, []), (3, .iload_n 3, 1, []), (4, .invokevirtual 265, 3, [10, 3, 1803, 0, 12, 103]), (7, .iconst (-1), 1, []), (8, .if_icmp .ne 15, 3, [1]), (11, .aload_n 0, 1, []), (12, .iload_n 1, 1, []), (13, .iload_n 2, 1, []), (14, .iload_n 3, 1, []), (15, .iconst (-1), 1, []), (16, .iconst 0, 1, []), (17, .invokevirtual 246, 3, [10, 5, 1683, 0, 12, 86]), (20, .ifCond .eq 7, 3, [2]), (23, .nop, 0, [1])],
  [(23, .iconst 1, 1, []), (24, .goto 4, 3, [3])],
  [(27, .iconst 0, 1, []), (28, .nop, 0, [3])],
  [(28, .ireturn, 1, [2])]]
def bl_106 : List Nat := [0, 23, 27, 28]
-- 107: FavourTownModel.canNeed(I)Z
def T_107 : List (List pEnt) := [[(0, .aload_n 0, 1, []), (1, .aload_n 0, 1, []), (2, .getfield 7, 3, [1, 1, 0, 1482, 0, 12]), (5, .bipush 46, 2, []), (7, .iconst 3, 1, []), (8, .iload_n 1, 1, []), (9, .imul, 1, []), (10, .iadd, 1, []), (11, .iaload, 1, []), (12, .aload_n 0, 1, []), (13, .getfield 7, 3, [1, 1, 0, 1482, 0, 12]), (16, .bipush 46, 2, []), (18, .iconst 3, 1, []), (19, .iload_n 1, 1, []), (20, .imul, 1, []), (21, .iadd, 1, []), (22, .iconst 1, 1, []), (23, .iadd, 1, []), (24, .iaload, 1, []), (25, .aload_n 0, 1, []), (26, .getfield 7, 3, [1, 1, 0, 1482, 0, 12]), (29, .bipush 46, 2, []), (31, .iconst 3, 1, []), (32, .iload_n 1, 1, []), (33, .imul, 1, []), (34, .iadd, 1, []), (35, .iconst 2, 1, []), (36, .iadd, 1, []), (37, .iaload, 1, []), (38, .invokevirtual 269, 3, [10, 3, 1823, 0, 12, 106]), (41, .ireturn, 1, [2])]]
def bl_107 : List Nat := [0]
-- 108: FavourTownModel.can(I)Z
def T_108 : List (List pEnt) := [[(0, .aload_n 0, 1, []), (1, .aload_n 0, 1, []), (2, .iload_n 1, 1, []), (3, .invokevirtual 272, 3, [10, 1, 1815, 0, 12, 105]), (6, .ifCond .ne 7, 3, [1]), (9, .iconst 1, 1, []), (10, .goto 4, 3, [2])],
  [(13, .iconst 0, 1, []), (14, .nop, 0, [2])],
  [(14, .putfield 53, 3, [0, 0, 0, 1481, 0, 12]), (17, .aload_n 0, 1, []), (18, .getfield 53, 3, [0, 0, 0, 1481, 0, 12]), (21, .ifCond .le 5, 3, [3]), (24, .iconst 0, 1, []), (25, .ireturn, 1, [2])],
  [(26, .aload_n 0, 1, []), (27, .iload_n 1, 1, []), (28, .invokevirtual 275, 3, [10, 1, 1819, 0, 12, 107]), (31, .ireturn, 1, [2])]]
def bl_108 : List Nat := [0, 13, 14, 26]
-- 109: FavourTownModel.meets(III)I
def T_109 : List (List pEnt) := [[(0, .aload_n 0, 1, []), (1, .iload_n 1, 1, []), (2, .iload_n 2, 1, []), (3, .iload_n 3, 1, []), (4, .invokevirtual 265, 3, [10, 3, 1803, 0, 12, 103]), (7, .istore 4, 2, []), (9, .aload_n 0, 1, []), (10, .iload 4, 2, []), (12, .iconst (-1), 1, []), (13, .if_icmp .eq 7, 3, [1]), (16, .iconst 1, 1, []), (17, .goto 4, 3, [2])],
  [(20, .iconst 0, 1, []), (21, .nop, 0, [2])],
  [(21, .putfield 278, 3, [26, 2, 0, 1507, 0, 12]), (24, .iload 4, 2, []), (26, .iconst (-1), 1, []), (27, .if_icmp .ne 13, 3, [3]), (30, .aload_n 0, 1, []), (31, .iload_n 1, 1, []), (32, .iload_n 2, 1, []), (33, .iload_n 3, 1, []), (34, .iconst 0, 1, []), (35, .iconst 0, 1, []), (36, .invokevirtual 121, 3, [10, 5, 1679, 0, 12, 87]), (39, .ireturn, 1, [0])],
  [(40, .aload_n 0, 1, []), (41, .iload 4, 2, []), (43, .iload_n 2, 1, []), (44, .invokevirtual 130, 3, [10, 2, 1715, 0, 12, 89]), (47, .iconst (-1), 1, []), (48, .if_icmp .ne 7, 3, [4]), (51, .iconst (-1), 1, []), (52, .goto 5, 3, [5])],
  [(55, .iload 4, 2, []), (57, .nop, 0, [5])],
  [(57, .ireturn, 1, [0])]]
def bl_109 : List Nat := [0, 20, 21, 40, 55, 57]
-- 110: FavourTownModel.meet(I)I
def T_110 : List (List pEnt) := [[(0, .aload_n 0, 1, []), (1, .aload_n 0, 1, []), (2, .iload_n 1, 1, []), (3, .invokevirtual 272, 3, [10, 1, 1815, 0, 12, 105]), (6, .ifCond .ne 7, 3, [1]), (9, .iconst 1, 1, []), (10, .goto 4, 3, [2])],
  [(13, .iconst 0, 1, []), (14, .nop, 0, [2])],
  [(14, .putfield 53, 3, [0, 0, 0, 1481, 0, 12]), (17, .aload_n 0, 1, []), (18, .getfield 53, 3, [0, 0, 0, 1481, 0, 12]), (21, .ifCond .le 5, 3, [3]), (24, .iconst 0, 1, []), (25, .ireturn, 1, [0])],
  [(26, .aload_n 0, 1, []), (27, .aload_n 0, 1, []), (28, .getfield 7, 3, [1, 1, 0, 1482, 0, 12]), (31, .bipush 46, 2, []), (33, .iconst 3, 1, []), (34, .iload_n 1, 1, []), (35, .imul, 1, []), (36, .iadd, 1, []), (37, .iaload, 1, []), (38, .aload_n 0, 1, []), (39, .getfield 7, 3, [1, 1, 0, 1482, 0, 12]), (42, .bipush 46, 2, []), (44, .iconst 3, 1, []), (45, .iload_n 1, 1, []), (46, .imul, 1, []), (47, .iadd, 1, []), (48, .iconst 1, 1, []), (49, .iadd, 1, []), (50, .iaload, 1, []), (51, .aload_n 0, 1, []), (52, .getfield 7, 3, [1, 1, 0, 1482, 0, 12]), (55, .bipush 46, 2, []), (57, .iconst 3, 1, []), (58, .iload_n 1, 1, []), (59, .imul, 1, []), (60, .iadd, 1, []), (61, .iconst 2, 1, []), (62, .iadd, 1, []), (63, .iaload, 1, []), (64, .invokevirtual 281, 3, [10, 3, 1831, 0, 12, 109]), (67, .ireturn, 1, [0])]]
def bl_110 : List Nat := [0, 13, 14, 26]
-- 111: FavourTownModel.lets(I)I
def T_111 : List (List pEnt) := [[(0, .iconst 0, 1, []), (1, .istore_n 2, 1, []), (2, .iconst 0, 1, []), (3, .istore_n 3, 1, []), (4, .nop, 0, [1])],
  [(4, .iload_n 3, 1, []), (5, .aload_n 0, 1, []), (6, .getfield 7, 3, [1, 1, 0, 1482, 0, 12]), (9, .iconst 3, 1, []), (10, .iaload, 1, []), (11, .if_icmp .ge 45, 3, [4]), (14, .aload_n 0, 1, []), (15, .iload_n 3, 1, []), (16, .iconst 2, 1, []), (17, .invokevirtual 127, 3, [10, 2, 1691, 0, 12, 55]), (20, .istore 4, 2, []), (22, .iload 4, 2, []), (24, .iconst (-1), 1, []), (25, .if_icmp .eq 25, 3, [3]), (28, .iload_n 1, 1, []), (29, .iload 4, 2, []), (31, .ishr, 1, []), (32, .iconst 1, 1, []), (33, .iand, 1, []), (34, .ifCond .ne 6, 3, [2]), (37, .goto 13, 3, [3])],
  [(40, .aload_n 0, 1, []), (41, .iload_n 3, 1, []), (42, .iconst 2, 1, []), (43, .iconst (-1), 1, []), (44, .invokevirtual 135, 3, [10, 3, 1710, 0, 12, 56]), (47, .iinc 2 1, 3, []), (50, .nop, 0, [3])],
  [(50, .iinc 3 1, 3, []), (53, .goto (-49), 3, [1])],
  [(56, .iload_n 2, 1, []), (57, .ireturn, 1, [0])]]
def bl_111 : List Nat := [0, 4, 40, 50, 56]
-- 112: FavourTownModel.witnessOf(I)I
def T_112 : List (List pEnt) := [[(0, .iconst 0, 1, []), (1, .istore_n 2, 1, []), (2, .nop, 0, [1])],
  [(2, .iload_n 2, 1, []), (3, .aload_n 0, 1, []), (4, .getfield 7, 3, [1, 1, 0, 1482, 0, 12]), (7, .iconst 3, 1, []), (8, .iaload, 1, []), (9, .if_icmp .ge 21, 3, [2]), (12, .aload_n 0, 1, []), (13, .getfield 50, 3, [27, 1, 0, 1508, 0, 12]), (16, .iload_n 2, 1, []), (17, .aload_n 0, 1, []), (18, .iload_n 2, 1, []), (19, .iconst 2, 1, []), (20, .invokevirtual 127, 3, [10, 2, 1691, 0, 12, 55]), (23, .iastore, 1, []), (24, .iinc 2 1, 3, []), (27, .goto (-25), 3, [1])],
  [(30, .aload_n 0, 1, []), (31, .iload_n 1, 1, []), (32, .invokevirtual 284, 3, [10, 1, 1843, 0, 12, 111]), (35, .pop, 1, []), (36, .iconst 0, 1, []), (37, .istore_n 2, 1, []), (38, .nop, 0, [3])],
  [(38, .iload_n 2, 1, []), (39, .aload_n 0, 1, []), (40, .getfield 7, 3, [1, 1, 0, 1482, 0, 12]), (43, .iconst 4, 1, []), (44, .iaload, 1, []), (45, .if_icmp .ge 17, 3, [4]), (48, .aload_n 0, 1, []), (49, .iload_n 2, 1, []), (50, .invokevirtual 275, 3, [10, 1, 1819, 0, 12, 107]), (53, .ifCond .eq 9, 3, [4]), (56, .iinc 2 1, 3, []), (59, .goto (-21), 3, [3])],
  [(62, .iconst 0, 1, []), (63, .istore_n 3, 1, []), (64, .nop, 0, [5])],
  [(64, .iload_n 3, 1, []), (65, .aload_n 0, 1, []), (66, .getfield 7, 3, [1, 1, 0, 1482, 0, 12]), (69, .iconst 3, 1, []), (70, .iaload, 1, []), (71, .if_icmp .ge 21, 3, [6]), (74, .aload_n 0, 1, []), (75, .iload_n 3, 1, []), (76, .iconst 2, 1, []), (77, .aload_n 0, 1, []), (78, .getfield 50, 3, [27, 1, 0, 1508, 0, 12]), (81, .iload_n 3, 1, []), (82, .iaload, 1, []), (83, .invokevirtual 135, 3, [10, 3, 1710, 0, 12, 56]), (86, .iinc 3 1, 3, []), (89, .goto (-25), 3, [5])],
  [(92, .iload_n 2, 1, []), (93, .aload_n 0, 1, []), (94, .getfield 7, 3, [1, 1, 0, 1482, 0, 12]), (97, .iconst 4, 1, []), (98, .iaload, 1, []), (99, .if_icmp .ge 7, 3, [7]), (102, .iload_n 2, 1, []), (103, .goto 4, 3, [8])],
  [(106, .iconst (-1), 1, []), (107, .nop, 0, [8])],
  [(107, .ireturn, 1, [0])]]
def bl_112 : List Nat := [0, 2, 30, 38, 62, 64, 92, 106, 107]
-- 113: FavourTownModel.enough(I)Z
def T_113 : List (List pEnt) := [[(0, .aload_n 0, 1, []), (1, .iconst 0, 1, []), (2, .putfield 53, 3, [0, 0, 0, 1481, 0, 12]), (5, .aload_n 0, 1, []), (6, .iload_n 1, 1, []), (7, .invokevirtual 287, 3, [10, 1, 1839, 0, 12, 112]), (10, .iconst (-1), 1, []), (11, .if_icmp .ne 7, 3, [1]), (14, .iconst 1, 1, []), (15, .goto 4, 3, [2])],
  [(18, .iconst 0, 1, []), (19, .nop, 0, [2])],
  [(19, .ireturn, 1, [2])]]
def bl_113 : List Nat := [0, 18, 19]
-- 114: FavourTownModel.witness(I)I
def T_114 : List (List pEnt) := [[(0, .aload_n 0, 1, []), (1, .iconst 0, 1, []), (2, .putfield 53, 3, [0, 0, 0, 1481, 0, 12]), (5, .aload_n 0, 1, []), (6, .iload_n 1, 1, []), (7, .invokevirtual 287, 3, [10, 1, 1839, 0, 12, 112]), (10, .ireturn, 1, [0])]]
def bl_114 : List Nat := [0]
-- 115: FavourTownModel.bits(I)I
def T_115 : List (List pEnt) := [[(0, .iconst 0, 1, []), (1, .istore_n 1, 1, []), (2, .iconst 0, 1, []), (3, .istore_n 2, 1, []), (4, .nop, 0, [1])],
  [(4, .iload_n 2, 1, []), (5, .bipush 12, 2, []), (7, .if_icmp .ge 17, 3, [2]), (10, .iload_n 1, 1, []), (11, .iload_n 0, 1, []), (12, .iload_n 2, 1, []), (13, .ishr, 1, []), (14, .iconst 1, 1, []), (15, .iand, 1, []), (16, .iadd, 1, []), (17, .istore_n 1, 1, []), (18, .iinc 2 1, 3, []), (21, .goto (-17), 3, [1])],
  [(24, .iload_n 1, 1, []), (25, .ireturn, 1, [0])]]
def bl_115 : List Nat := [0, 4, 24]
-- 116: FavourTownModel.fewest()I
def T_116 : List (List pEnt) := [[(0, .aload_n 0, 1, []), (1, .iconst 0, 1, []), (2, .putfield 53, 3, [0, 0, 0, 1481, 0, 12]), (5, .iconst 0, 1, []), (6, .istore_n 1, 1, []), (7, .nop, 0, [1])],
  [(7, .iload_n 1, 1, []), (8, .aload_n 0, 1, []), (9, .getfield 7, 3, [1, 1, 0, 1482, 0, 12]), (12, .iconst 1, 1, []), (13, .iaload, 1, []), (14, .if_icmp .gt 48, 3, [5]), (17, .iconst 0, 1, []), (18, .istore_n 2, 1, []), (19, .nop, 0, [2])],
  [(19, .iload_n 2, 1, []), (20, .iconst 1, 1, []), (21, .aload_n 0, 1, []), (22, .getfield 7, 3, [1, 1, 0, 1482, 0, 12]), (25, .iconst 1, 1, []), (26, .iaload, 1, []), (27, .ishl, 1, []), (28, .if_icmp .ge 28, 3, [4]), (31, .iload_n 2, 1, []), (32, .invokestatic 290, 3, [20, 1, 1855, 0, 115]), (35, .iload_n 1, 1, []), (36, .if_icmp .ne 14, 3, [3]), (39, .aload_n 0, 1, []), (40, .iload_n 2, 1, []), (41, .invokevirtual 287, 3, [10, 1, 1839, 0, 12, 112]), (44, .iconst (-1), 1, []), (45, .if_icmp .ne 5, 3, [3]), (48, .iload_n 2, 1, []), (49, .ireturn, 1, [0])],
  [(50, .iinc 2 1, 3, []), (53, .goto (-34), 3, [2])],
  [(56, .iinc 1 1, 3, []), (59, .goto (-52), 3, [1])],
  [(62, .iconst (-1), 1, []), (63, .ireturn, 1, [0])]]
def bl_116 : List Nat := [0, 7, 19, 50, 56, 62]
-- 117: FavourTownModel.forgive(I)I
def T_117 : List (List pEnt) := [[(0, .aload_n 0, 1, []), (1, .iconst 0, 1, []), (2, .putfield 53, 3, [0, 0, 0, 1481, 0, 12]), (5, .aload_n 0, 1, []), (6, .iload_n 1, 1, []), (7, .invokevirtual 284, 3, [10, 1, 1843, 0, 12, 111]), (10, .ireturn, 1, [0])]]
def bl_117 : List Nat := [0]
-- 118: FavourTownModel.portOf(II)I
def T_118 : List (List pEnt) := [[(0, .iconst 0, 1, []), (1, .istore_n 3, 1, []), (2, .iconst 0, 1, []), (3, .istore 4, 2, []), (5, .nop, 0, [1])],
  [(5, .iload 4, 2, []), (7, .aload_n 0, 1, []), (8, .getfield 7, 3, [1, 1, 0, 1482, 0, 12]), (11, .iconst 3, 1, []), (12, .iaload, 1, []), (13, .if_icmp .ge 57, 3, [3]), (16, .aload_n 0, 1, []), (17, .iload 4, 2, []), (19, .iconst 2, 1, []), (20, .invokevirtual 127, 3, [10, 2, 1691, 0, 12, 55]), (23, .iload_n 1, 1, []), (24, .if_icmp .ne 40, 3, [2]), (27, .aload_n 0, 1, []), (28, .iload 4, 2, []), (30, .iload_n 1, 1, []), (31, .iload_n 2, 1, []), (32, .invokevirtual 262, 3, [10, 3, 1807, 0, 12, 102]), (35, .ifCond .eq 29, 3, [2]), (38, .iload_n 3, 1, []), (39, .aload_n 0, 1, []), (40, .iload 4, 2, []), (42, .iconst 1, 1, []), (43, .invokevirtual 127, 3, [10, 2, 1691, 0, 12, 55]), (46, .aload_n 0, 1, []), (47, .iload 4, 2, []), (49, .iconst 3, 1, []), (50, .invokevirtual 127, 3, [10, 2, 1691, 0, 12, 55]), (53, .iconst 1, 1, []), (54, .iadd, 1, []), (55, .invokestatic 229, 3, [20, 2, 1699, 0, 81]), (58, .sipush 1024, 3, []), (61, .idiv, 1, []), (62, .iadd, 1, []), (63, .istore_n 3, 1, []), (64, .nop, 0, [2])],
  [(64, .iinc 4 1, 3, []), (67, .goto (-62), 3, [1])],
  [(70, .iload_n 3, 1, []), (71, .ireturn, 1, [0])]]
def bl_118 : List Nat := [0, 5, 64, 70]
-- 119: FavourTownModel.twoOf(II)I
def T_119 : List (List pEnt) := [[(0, .aload_n 0, 1, []), (1, .iload_n 1, 1, []), (2, .invokevirtual 226, 3, [10, 1, 1747, 0, 12, 53]), (5, .ifCond .eq 11, 3, [1]), (8, .aload_n 0, 1, []), (9, .iload_n 2, 1, []), (10, .invokevirtual 226, 3, [10, 1, 1747, 0, 12, 53]), (13, .ifCond .ne 7, 3, [2]), (16, .nop, 0, [1])],
  [(16, .iconst 1, 1, []), (17, .goto 13, 3, [4])],
  [(20, .iload_n 1, 1, []), (21, .iload_n 2, 1, []), (22, .if_icmp .ne 7, 3, [3]), (25, .iconst 2, 1, []), (26, .goto 4, 3, [4])],
  [(29, .iconst 0, 1, []), (30, .nop, 0, [4])],
  [(30, .ireturn, 1, [0])]]
def bl_119 : List Nat := [0, 16, 20, 29, 30]
-- 120: FavourTownModel.port(II)I
def T_120 : List (List pEnt) := [[(0, .aload_n 0, 1, []), (1, .aload_n 0, 1, []), (2, .iload_n 1, 1, []), (3, .iload_n 2, 1, []), (4, .invokevirtual 293, 3, [10, 2, 1866, 0, 12, 119]), (7, .putfield 53, 3, [0, 0, 0, 1481, 0, 12]), (10, .aload_n 0, 1, []), (11, .getfield 53, 3, [0, 0, 0, 1481, 0, 12]), (14, .ifCond .le 5, 3, [1]), (17, .iconst 0, 1, []), (18, .ireturn, 1, [0])],
  [(19, .aload_n 0, 1, []), (20, .iload_n 1, 1, []), (21, .iload_n 2, 1, []), (22, .invokevirtual 296, 3, [10, 2, 1870, 0, 12, 118]), (25, .ireturn, 1, [0])]]
def bl_120 : List Nat := [0, 19]
-- 121: FavourTownModel.allPorts()V
def T_121 : List (List pEnt) := [[(0, .iconst 0, 1, []), (1, .istore_n 1, 1, []), (2, .nop, 0, [1])],
  [(2, .iload_n 1, 1, []), (3, .aload_n 0, 1, []), (4, .getfield 7, 3, [1, 1, 0, 1482, 0, 12]), (7, .iconst 1, 1, []), (8, .iaload, 1, []), (9, .if_icmp .ge 53, 3, [6]), (12, .iconst 0, 1, []), (13, .istore_n 2, 1, []), (14, .nop, 0, [2])],
  [(14, .iload_n 2, 1, []), (15, .aload_n 0, 1, []), (16, .getfield 7, 3, [1, 1, 0, 1482, 0, 12]), (19, .iconst 1, 1, []), (20, .iaload, 1, []), (21, .if_icmp .ge 35, 3, [5]), (24, .aload_n 0, 1, []), (25, .getfield 29, 3, [18, 1, 0, 1499, 0, 12]), (28, .bipush 12, 2, []), (30, .iload_n 1, 1, []), (31, .imul, 1, []), (32, .iload_n 2, 1, []), (33, .iadd, 1, []), (34, .iload_n 1, 1, []), (35, .iload_n 2, 1, []), (36, .if_icmp .ne 7, 3, [3]), (39, .iconst 0, 1, []), (40, .goto 9, 3, [4])],
  [(43, .aload_n 0, 1, []), (44, .iload_n 1, 1, []), (45, .iload_n 2, 1, []), (46, .invokevirtual 296, 3, [10, 2, 1870, 0, 12, 118]), (49, .nop, 0, [4])],
  [(49, .iastore, 1, []), (50, .iinc 2 1, 3, []), (53, .goto (-39), 3, [2])],
  [(56, .iinc 1 1, 3, []), (59, .goto (-57), 3, [1])],
  [(62, .return_, 1, [])]]
def bl_121 : List Nat := [0, 2, 14, 43, 49, 56, 62]
-- 122: FavourTownModel.reaches(I)I
def T_122 : List (List pEnt) := [[(0, .iconst 1, 1, []), (1, .iload_n 1, 1, []), (2, .ishl, 1, []), (3, .istore_n 2, 1, []), (4, .iconst 1, 1, []), (5, .istore_n 3, 1, []), (6, .aload_n 0, 1, []), (7, .getfield 35, 3, [20, 1, 0, 1501, 0, 12]), (10, .iconst 0, 1, []), (11, .iload_n 1, 1, []), (12, .iastore, 1, []), (13, .iconst 0, 1, []), (14, .istore 4, 2, []), (16, .nop, 0, [1])],
  [(16, .iload 4, 2, []), (18, .iload_n 3, 1, []), (19, .if_icmp .ge 94, 3, [6]), (22, .aload_n 0, 1, []), (23, .getfield 35, 3, [20, 1, 0, 1501, 0, 12]), (26, .iload 4, 2, []), (28, .iaload, 1, []), (29, .istore 5, 2, []), (31, .iconst 0, 1, []), (32, .istore 6, 2, []), (34, .nop, 0, [2])],
  [(34, .iload 6, 2, []), (36, .aload_n 0, 1, []), (37, .getfield 7, 3, [1, 1, 0, 1482, 0, 12]), (40, .iconst 1, 1, []), (41, .iaload, 1, []), (42, .if_icmp .ge 65, 3, [5]), (45, .aload_n 0, 1, []), (46, .getfield 29, 3, [18, 1, 0, 1499, 0, 12]), (49, .bipush 12, 2, []), (51, .iload 5, 2, []), (53, .imul, 1, []), (54, .iload 6, 2, []), (56, .iadd, 1, []), (57, .iaload, 1, []), (58, .ifCond .eq 43, 3, [4]), (61, .iload_n 2, 1, []), (62, .iload 6, 2, []), (64, .ishr, 1, []), (65, .iconst 1, 1, []), (66, .iand, 1, []), (67, .iconst 1, 1, []), (68, .if_icmp .ne 6, 3, [3]), (71, .goto 30, 3, [4])],
  [(74, .iload_n 2, 1, []), (75, .iconst 1, 1, []), (76, .iload 6, 2, []), (78, .ishl, 1, []), (79, .ior, 1, []), (80, .istore_n 2, 1, []), (81, .aload_n 0, 1, []), (82, .getfield 32, 3, [19, 1, 0, 1500, 0, 12]), (85, .iload 6, 2, []), (87, .iload 5, 2, []), (89, .iastore, 1, []), (90, .aload_n 0, 1, []), (91, .getfield 35, 3, [20, 1, 0, 1501, 0, 12]), (94, .iload_n 3, 1, []), (95, .iload 6, 2, []), (97, .iastore, 1, []), (98, .iinc 3 1, 3, []), (101, .nop, 0, [4])],
  [(101, .iinc 6 1, 3, []), (104, .goto (-70), 3, [2])],
  [(107, .iinc 4 1, 3, []), (110, .goto (-94), 3, [1])],
  [(113, .iload_n 2, 1, []), (114, .ireturn, 1, [0])]]
def bl_122 : List Nat := [0, 16, 34, 74, 101, 107, 113]
-- 123: FavourTownModel.flows(II)I
def T_123 : List (List pEnt) := [[(0, .aload_n 0, 1, []), (1, .invokevirtual 299, 3, [10, 0, 1882, 0, 12, 121]), (4, .iconst 0, 1, []), (5, .istore_n 3, 1, []), (6, .nop, 0, [1])],
  [(6, .aload_n 0, 1, []), (7, .iload_n 1, 1, []), (8, .invokevirtual 302, 3, [10, 1, 1886, 0, 12, 122]), (11, .iload_n 2, 1, []), (12, .ishr, 1, []), (13, .iconst 1, 1, []), (14, .iand, 1, []), (15, .iconst 1, 1, []), (16, .if_icmp .ne 165, 3, [8]), (19, .aload_n 0, 1, []), (20, .getfield 29, 3, [18, 1, 0, 1499, 0, 12]), (23, .bipush 12, 2, []), (25, .aload_n 0, 1, []), (26, .getfield 32, 3, [19, 1, 0, 1500, 0, 12]), (29, .iload_n 2, 1, []), (30, .iaload, 1, []), (31, .imul, 1, []), (32, .iload_n 2, 1, []), (33, .iadd, 1, []), (34, .iaload, 1, []), (35, .istore 4, 2, []), (37, .iload_n 2, 1, []), (38, .istore 5, 2, []), (40, .nop, 0, [2])],
  [(40, .iload 5, 2, []), (42, .iload_n 1, 1, []), (43, .if_icmp .eq 63, 3, [5]), (46, .aload_n 0, 1, []), (47, .getfield 29, 3, [18, 1, 0, 1499, 0, 12]), (50, .bipush 12, 2, []), (52, .aload_n 0, 1, []), (53, .getfield 32, 3, [19, 1, 0, 1500, 0, 12]), (56, .iload 5, 2, []), (58, .iaload, 1, []), (59, .imul, 1, []), (60, .iload 5, 2, []), (62, .iadd, 1, []), (63, .iaload, 1, []), (64, .iload 4, 2, []), (66, .if_icmp .ge 24, 3, [3]), (69, .aload_n 0, 1, []), (70, .getfield 29, 3, [18, 1, 0, 1499, 0, 12]), (73, .bipush 12, 2, []), (75, .aload_n 0, 1, []), (76, .getfield 32, 3, [19, 1, 0, 1500, 0, 12]), (79, .iload 5, 2, []), (81, .iaload, 1, []), (82, .imul, 1, []), (83, .iload 5, 2, []), (85, .iadd, 1, []), (86, .iaload, 1, []), (87, .goto 5, 3, [4])],
  [(90, .iload 4, 2, []), (92, .nop, 0, [4])],
  [(92, .istore 4, 2, []), (94, .aload_n 0, 1, []), (95, .getfield 32, 3, [19, 1, 0, 1500, 0, 12]), (98, .iload 5, 2, []), (100, .iaload, 1, []), (101, .istore 5, 2, []), (103, .goto (-63), 3, [2])],
  [(106, .iload_n 2, 1, []), (107, .istore 5, 2, []), (109, .nop, 0, [6])],
  [(109, .iload 5, 2, []), (111, .iload_n 1, 1, []), (112, .if_icmp .eq 61, 3, [7]), (115, .aload_n 0, 1, []), (116, .getfield 29, 3, [18, 1, 0, 1499, 0, 12]), (119, .bipush 12, 2, []), (121, .aload_n 0, 1, []), (122, .getfield 32, 3, [19, 1, 0, 1500, 0, 12]), (125, .iload 5, 2, []), (127, .iaload, 1, []), (128, .imul, 1, []), (129, .iload 5, 2, []), (131, .iadd, 1, []), (132, .dup2, 1, []), (133, .iaload, 1, []), (134, .iload 4, 2, []), (136, .isub, 1, []), (137, .iastore, 1, []), (138, .aload_n 0, 1, []), (139, .getfield 29, 3, [18, 1, 0, 1499, 0, 12]), (142, .bipush 12, 2, []), (144, .iload 5, 2, []), (146, .imul, 1, []), (147, .aload_n 0, 1, []), (148, .getfield 32, 3, [19, 1, 0, 1500, 0, 12]), (151, .iload 5, 2, []), (153, .iaload, 1, []), (154, .iadd, 1, []), (155, .dup2, 1, []), (156, .iaload, 1, []), (157, .iload 4, 2, []), (159, .iadd, 1, []), (160, .iastore, 1, []), (161, .aload_n 0, 1, []), (162, .getfield 32, 3, [19, 1, 0, 1500, 0, 12]), (165, .iload 5, 2, []), (167, .iaload, 1, []), (168, .istore 5, 2, []), (170, .goto (-61), 3, [6])],
  [(173, .iload_n 3, 1, []), (174, .iload 4, 2, []), (176, .iadd, 1, []), (177, .istore_n 3, 1, []), (178, .goto (-172), 3, [1])],
  [(181, .iload_n 3, 1, []), (182, .ireturn, 1, [0])]]
def bl_123 : List Nat := [0, 6, 40, 90, 92, 106, 109, 173, 181]
-- 124: FavourTownModel.most(II)I
def T_124 : List (List pEnt) := [[(0, .aload_n 0, 1, []), (1, .aload_n 0, 1, []), (2, .iload_n 1, 1, []), (3, .iload_n 2, 1, []), (4, .invokevirtual 293, 3, [10, 2, 1866, 0, 12, 119]), (7, .putfield 53, 3, [0, 0, 0, 1481, 0, 12]), (10, .aload_n 0, 1, []), (11, .getfield 53, 3, [0, 0, 0, 1481, 0, 12]), (14, .ifCond .le 5, 3, [1]), (17, .iconst 0, 1, []), (18, .ireturn, 1, [0])],
  [(19, .aload_n 0, 1, []), (20, .iload_n 1, 1, []), (21, .iload_n 2, 1, []), (22, .invokevirtual 305, 3, [10, 2, 1878, 0, 12, 123]), (25, .ireturn, 1, [0])]]
def bl_124 : List Nat := [0, 19]
-- 125: FavourTownModel.cut(II)I
def T_125 : List (List pEnt) := [[(0, .aload_n 0, 1, []), (1, .aload_n 0, 1, []), (2, .iload_n 1, 1, []), (3, .iload_n 2, 1, []), (4, .invokevirtual 293, 3, [10, 2, 1866, 0, 12, 119]), (7, .putfield 53, 3, [0, 0, 0, 1481, 0, 12]), (10, .aload_n 0, 1, []), (11, .getfield 53, 3, [0, 0, 0, 1481, 0, 12]), (14, .ifCond .le 5, 3, [1]), (17, .iconst 0, 1, []), (18, .ireturn, 1, [0])],
  [(19, .aload_n 0, 1, []), (20, .iload_n 1, 1, []), (21, .iload_n 2, 1, []), (22, .invokevirtual 305, 3, [10, 2, 1878, 0, 12, 123]), (25, .ifCond .ge 7, 3, [2]), (28, .iconst 0, 1, []), (29, .goto 8, 3, [3])],
  [(32, .aload_n 0, 1, []), (33, .iload_n 1, 1, []), (34, .invokevirtual 302, 3, [10, 1, 1886, 0, 12, 122]), (37, .nop, 0, [3])],
  [(37, .ireturn, 1, [0])]]
def bl_125 : List Nat := [0, 19, 32, 37]
-- 126: FavourTownModel.chain(IIII)I
def T_126 : List (List pEnt) := [[(0, .aload_n 0, 1, []), (1, .aload_n 0, 1, []), (2, .iload_n 1, 1, []), (3, .iload_n 2, 1, []), (4, .invokevirtual 293, 3, [10, 2, 1866, 0, 12, 119]), (7, .putfield 53, 3, [0, 0, 0, 1481, 0, 12]), (10, .aload_n 0, 1, []), (11, .getfield 53, 3, [0, 0, 0, 1481, 0, 12]), (14, .ifCond .ne 24, 3, [2]), (17, .iload_n 3, 1, []), (18, .iconst 1, 1, []), (19, .bipush 99, 2, []), (21, .invokestatic 56, 3, [20, 3, 1581, 0, 52]), (24, .ifCond .eq 9, 3, [1]), (27, .iload 4, 2, []), (29, .iconst (-1), 1, []), (30, .if_icmp .ge 8, 3, [2]), (33, .nop, 0, [1])],
  [(33, .aload_n 0, 1, []), (34, .iconst 2, 1, []), (35, .putfield 53, 3, [0, 0, 0, 1481, 0, 12]), (38, .nop, 0, [2])],
  [(38, .aload_n 0, 1, []), (39, .getfield 53, 3, [0, 0, 0, 1481, 0, 12]), (42, .ifCond .le 5, 3, [3]), (45, .iconst 0, 1, []), (46, .ireturn, 1, [0])],
  [(47, .aload_n 0, 1, []), (48, .invokevirtual 299, 3, [10, 0, 1882, 0, 12, 121]), (51, .iconst 0, 1, []), (52, .istore 5, 2, []), (54, .nop, 0, [4])],
  [(54, .iload 5, 2, []), (56, .bipush 12, 2, []), (58, .if_icmp .ge 27, 3, [7]), (61, .aload_n 0, 1, []), (62, .getfield 38, 3, [21, 1, 0, 1502, 0, 12]), (65, .iload 5, 2, []), (67, .iload 5, 2, []), (69, .iload_n 2, 1, []), (70, .if_icmp .ne 7, 3, [5]), (73, .iconst 0, 1, []), (74, .goto 4, 3, [6])],
  [(77, .iconst (-1), 1, []), (78, .nop, 0, [6])],
  [(78, .iastore, 1, []), (79, .iinc 5 1, 3, []), (82, .goto (-28), 3, [4])],
  [(85, .iconst 1, 1, []), (86, .istore 5, 2, []), (88, .nop, 0, [8])],
  [(88, .iload 5, 2, []), (90, .aload_n 0, 1, []), (91, .getfield 7, 3, [1, 1, 0, 1482, 0, 12]), (94, .iconst 1, 1, []), (95, .iaload, 1, []), (96, .if_icmp .ge 103, 3, [15]), (99, .iconst 0, 1, []), (100, .istore 6, 2, []), (102, .nop, 0, [9])],
  [(102, .iload 6, 2, []), (104, .aload_n 0, 1, []), (105, .getfield 7, 3, [1, 1, 0, 1482, 0, 12]), (108, .iconst 1, 1, []), (109, .iaload, 1, []), (110, .if_icmp .ge 83, 3, [14]), (113, .aload_n 0, 1, []), (114, .getfield 38, 3, [21, 1, 0, 1502, 0, 12]), (117, .iload 6, 2, []), (119, .iaload, 1, []), (120, .iconst (-1), 1, []), (121, .if_icmp .eq 6, 3, [10]), (124, .goto 63, 3, [13])],
  [(127, .iconst 0, 1, []), (128, .istore 7, 2, []), (130, .nop, 0, [11])],
  [(130, .iload 7, 2, []), (132, .aload_n 0, 1, []), (133, .getfield 7, 3, [1, 1, 0, 1482, 0, 12]), (136, .iconst 1, 1, []), (137, .iaload, 1, []), (138, .if_icmp .ge 49, 3, [13]), (141, .aload_n 0, 1, []), (142, .getfield 38, 3, [21, 1, 0, 1502, 0, 12]), (145, .iload 7, 2, []), (147, .iaload, 1, []), (148, .iload 5, 2, []), (150, .iconst 1, 1, []), (151, .isub, 1, []), (152, .if_icmp .ne 29, 3, [12]), (155, .aload_n 0, 1, []), (156, .getfield 29, 3, [18, 1, 0, 1499, 0, 12]), (159, .bipush 12, 2, []), (161, .iload 6, 2, []), (163, .imul, 1, []), (164, .iload 7, 2, []), (166, .iadd, 1, []), (167, .iaload, 1, []), (168, .iload_n 3, 1, []), (169, .if_icmp .lt 12, 3, [12]), (172, .aload_n 0, 1, []), (173, .getfield 38, 3, [21, 1, 0, 1502, 0, 12]), (176, .iload 6, 2, []), (178, .iload 5, 2, []), (180, .iastore, 1, []), (181, .nop, 0, [12])],
  [(181, .iinc 7 1, 3, []), (184, .goto (-54), 3, [11])],
  [(187, .iinc 6 1, 3, []), (190, .goto (-88), 3, [9])],
  [(193, .iinc 5 1, 3, []), (196, .goto (-108), 3, [8])],
  [(199, .aload_n 0, 1, []), (200, .getfield 38, 3, [21, 1, 0, 1502, 0, 12]), (203, .iload_n 1, 1, []), (204, .iaload, 1, []), (205, .iconst (-1), 1, []), (206, .if_icmp .eq 9, 3, [16]), (209, .iload 4, 2, []), (211, .iconst (-1), 1, []), (212, .if_icmp .ne 10, 3, [17]), (215, .nop, 0, [16])],
  [(215, .aload_n 0, 1, []), (216, .getfield 38, 3, [21, 1, 0, 1502, 0, 12]), (219, .iload_n 1, 1, []), (220, .iaload, 1, []), (221, .ireturn, 1, [0])],
  [(222, .iload 4, 2, []), (224, .aload_n 0, 1, []), (225, .getfield 38, 3, [21, 1, 0, 1502, 0, 12]), (228, .iload_n 1, 1, []), (229, .iaload, 1, []), (230, .if_icmp .le 5, 3, [18]), (233, .iconst (-1), 1, []), (234, .ireturn, 1, [0])],
  [(235, .iload_n 1, 1, []), (236, .istore 5, 2, []), (238, .iconst 0, 1, []), (239, .istore 6, 2, []), (241, .nop, 0, [19])],
  [(241, .iload 6, 2, []), (243, .iload 4, 2, []), (245, .if_icmp .ge 58, 3, [23]), (248, .iconst 0, 1, []), (249, .istore 7, 2, []), (251, .nop, 0, [20])],
  [(251, .aload_n 0, 1, []), (252, .getfield 38, 3, [21, 1, 0, 1502, 0, 12]), (255, .iload 7, 2, []), (257, .iaload, 1, []), (258, .aload_n 0, 1, []), (259, .getfield 38, 3, [21, 1, 0, 1502, 0, 12]), (262, .iload 5, 2, []), (264, .iaload, 1, []), (265, .iconst 1, 1, []), (266, .isub, 1, []), (267, .if_icmp .ne 20, 3, [21]), (270, .aload_n 0, 1, []), (271, .getfield 29, 3, [18, 1, 0, 1499, 0, 12]), (274, .bipush 12, 2, []), (276, .iload 5, 2, []), (278, .imul, 1, []), (279, .iload 7, 2, []), (281, .iadd, 1, []), (282, .iaload, 1, []), (283, .iload_n 3, 1, []), (284, .if_icmp .ge 9, 3, [22]), (287, .nop, 0, [21])],
  [(287, .iinc 7 1, 3, []), (290, .goto (-39), 3, [20])],
  [(293, .iload 7, 2, []), (295, .istore 5, 2, []), (297, .iinc 6 1, 3, []), (300, .goto (-59), 3, [19])],
  [(303, .iload 5, 2, []), (305, .ireturn, 1, [0])]]
def bl_126 : List Nat := [0, 33, 38, 47, 54, 77, 78, 85, 88, 102, 127, 130, 181, 187, 193, 199, 215, 222, 235, 241, 251, 287, 293, 303]
-- 127: FavourTownModel.ring()I
def T_127 : List (List pEnt) := [[(0, .aload_n 0, 1, []), (1, .getfield 60, 3, [6, 0, 0, 1487, 0, 12]), (4, .istore_n 1, 1, []), (5, .aload_n 0, 1, []), (6, .iconst 0, 1, []), (7, .putfield 60, 3, [6, 0, 0, 1487, 0, 12]), (10, .iload_n 1, 1, []), (11, .iconst 2, 1, []), (12, .bipush 6, 2, []), (14, .invokestatic 56, 3, [20, 3, 1581, 0, 52]), (17, .istore_n 2, 1, []), (18, .iconst 0, 1, []), (19, .istore_n 3, 1, []), (20, .nop, 0, [1])],
  [(20, .iload_n 2, 1, []), (21, .ifCond .eq 69, 3, [6]), (24, .iload_n 3, 1, []), (25, .iload_n 1, 1, []), (26, .if_icmp .ge 64, 3, [6]), (29, .aload_n 0, 1, []), (30, .aload_n 0, 1, []), (31, .getfield 19, 3, [5, 1, 0, 1486, 0, 12]), (34, .iload_n 3, 1, []), (35, .iaload, 1, []), (36, .bipush 97, 2, []), (38, .isub, 1, []), (39, .invokevirtual 226, 3, [10, 1, 1747, 0, 12, 53]), (42, .istore_n 2, 1, []), (43, .iconst 0, 1, []), (44, .istore 4, 2, []), (46, .nop, 0, [2])],
  [(46, .iload 4, 2, []), (48, .iload_n 3, 1, []), (49, .if_icmp .ge 35, 3, [5]), (52, .iload_n 2, 1, []), (53, .ifCond .eq 23, 3, [3]), (56, .aload_n 0, 1, []), (57, .getfield 19, 3, [5, 1, 0, 1486, 0, 12]), (60, .iload 4, 2, []), (62, .iaload, 1, []), (63, .aload_n 0, 1, []), (64, .getfield 19, 3, [5, 1, 0, 1486, 0, 12]), (67, .iload_n 3, 1, []), (68, .iaload, 1, []), (69, .if_icmp .eq 7, 3, [3]), (72, .iconst 1, 1, []), (73, .goto 4, 3, [4])],
  [(76, .iconst 0, 1, []), (77, .nop, 0, [4])],
  [(77, .istore_n 2, 1, []), (78, .iinc 4 1, 3, []), (81, .goto (-35), 3, [2])],
  [(84, .iinc 3 1, 3, []), (87, .goto (-67), 3, [1])],
  [(90, .aload_n 0, 1, []), (91, .iload_n 2, 1, []), (92, .ifCond .ne 7, 3, [7]), (95, .iconst 1, 1, []), (96, .goto 19, 3, [9])],
  [(99, .aload_n 0, 1, []), (100, .getfield 7, 3, [1, 1, 0, 1482, 0, 12]), (103, .iconst 5, 1, []), (104, .iaload, 1, []), (105, .bipush 8, 2, []), (107, .if_icmp .ne 7, 3, [8]), (110, .iconst 2, 1, []), (111, .goto 4, 3, [9])],
  [(114, .iconst 0, 1, []), (115, .nop, 0, [9])],
  [(115, .putfield 53, 3, [0, 0, 0, 1481, 0, 12]), (118, .aload_n 0, 1, []), (119, .getfield 53, 3, [0, 0, 0, 1481, 0, 12]), (122, .ifCond .le 5, 3, [10]), (125, .iconst 0, 1, []), (126, .ireturn, 1, [0])],
  [(127, .bipush 82, 2, []), (129, .bipush 7, 2, []), (131, .aload_n 0, 1, []), (132, .getfield 7, 3, [1, 1, 0, 1482, 0, 12]), (135, .iconst 5, 1, []), (136, .iaload, 1, []), (137, .imul, 1, []), (138, .iadd, 1, []), (139, .istore_n 3, 1, []), (140, .aload_n 0, 1, []), (141, .getfield 7, 3, [1, 1, 0, 1482, 0, 12]), (144, .iload_n 3, 1, []), (145, .iload_n 1, 1, []), (146, .iastore, 1, []), (147, .iconst 0, 1, []), (148, .istore 4, 2, []), (150, .nop, 0, [11])],
  [(150, .iload 4, 2, []), (152, .iload_n 1, 1, []), (153, .if_icmp .ge 30, 3, [12]), (156, .aload_n 0, 1, []), (157, .getfield 7, 3, [1, 1, 0, 1482, 0, 12]), (160, .iload_n 3, 1, []), (161, .iconst 1, 1, []), (162, .iadd, 1, []), (163, .iload 4, 2, []), (165, .iadd, 1, []), (166, .aload_n 0, 1, []), (167, .getfield 19, 3, [5, 1, 0, 1486, 0, 12]), (170, .iload 4, 2, []), (172, .iaload, 1, []), (173, .bipush 97, 2, []), (175, .isub, 1, []), (176, .iastore, 1, []), (177, .iinc 4 1, 3, []), (180, .goto (-30), 3, [11])],
  [(183, .aload_n 0, 1, []), (184, .getfield 7, 3, [1, 1, 0, 1482, 0, 12]), (187, .iconst 5, 1, []), (188, .dup2, 1, []), (189, .iaload, 1, []), (190, .iconst 1, 1, []), (191, .iadd, 1, []), (192, .iastore, 1, []), (193, .aload_n 0, 1, []), (194, .getfield 7, 3, [1, 1, 0, 1482, 0, 12]), (197, .iconst 5, 1, []), (198, .iaload, 1, []), (199, .iconst 1, 1, []), (200, .isub, 1, []), (201, .ireturn, 1, [0])]]
def bl_127 : List Nat := [0, 20, 46, 76, 77, 84, 90, 99, 114, 115, 127, 150, 183]
-- 128: FavourTownModel.putsBack(II)V
def T_128 : List (List pEnt) := [[(0, .bipush 82, 2, []), (2, .bipush 7, 2, []), (4, .iload_n 1, 1, []), (5, .imul, 1, []), (6, .iadd, 1, []), (7, .istore_n 3, 1, []), (8, .iconst 0, 1, []), (9, .istore 4, 2, []), (11, .nop, 0, [1])],
  [(11, .iload 4, 2, []), (13, .aload_n 0, 1, []), (14, .getfield 7, 3, [1, 1, 0, 1482, 0, 12]), (17, .iload_n 3, 1, []), (18, .iaload, 1, []), (19, .if_icmp .ge 53, 3, [2]), (22, .aload_n 0, 1, []), (23, .getfield 41, 3, [22, 1, 0, 1503, 0, 12]), (26, .bipush 12, 2, []), (28, .aload_n 0, 1, []), (29, .getfield 7, 3, [1, 1, 0, 1482, 0, 12]), (32, .iload_n 3, 1, []), (33, .iconst 1, 1, []), (34, .iadd, 1, []), (35, .iload 4, 2, []), (37, .iadd, 1, []), (38, .iaload, 1, []), (39, .imul, 1, []), (40, .aload_n 0, 1, []), (41, .getfield 7, 3, [1, 1, 0, 1482, 0, 12]), (44, .iload_n 3, 1, []), (45, .iconst 1, 1, []), (46, .iadd, 1, []), (47, .iload 4, 2, []), (49, .iconst 1, 1, []), (50, .iadd, 1, []), (51, .aload_n 0, 1, []), (52, .getfield 7, 3, [1, 1, 0, 1482, 0, 12]), (55, .iload_n 3, 1, []), (56, .iaload, 1, []), (57, .irem, 1, []), (58, .iadd, 1, []), (59, .iaload, 1, []), (60, .iadd, 1, []), (61, .dup2, 1, []), (62, .iaload, 1, []), (63, .iload_n 2, 1, []), (64, .iadd, 1, []), (65, .iastore, 1, []), (66, .iinc 4 1, 3, []), (69, .goto (-58), 3, [1])],
  [(72, .return_, 1, [])]]
def bl_128 : List Nat := [0, 11, 72]
-- 129: FavourTownModel.ringOf(I)I
def T_129 : List (List pEnt) := [[(0, .bipush 82, 2, []), (2, .bipush 7, 2, []), (4, .iload_n 1, 1, []), (5, .imul, 1, []), (6, .iadd, 1, []), (7, .istore_n 2, 1, []), (8, .aload_n 0, 1, []), (9, .getfield 7, 3, [1, 1, 0, 1482, 0, 12]), (12, .iload_n 2, 1, []), (13, .iaload, 1, []), (14, .istore_n 3, 1, []), (15, .iconst (-1), 1, []), (16, .istore 4, 2, []), (18, .iconst 0, 1, []), (19, .istore 5, 2, []), (21, .nop, 0, [1])],
  [(21, .iload 5, 2, []), (23, .iload_n 3, 1, []), (24, .if_icmp .ge 73, 3, [5]), (27, .bipush 12, 2, []), (29, .aload_n 0, 1, []), (30, .getfield 7, 3, [1, 1, 0, 1482, 0, 12]), (33, .iload_n 2, 1, []), (34, .iconst 1, 1, []), (35, .iadd, 1, []), (36, .iload 5, 2, []), (38, .iadd, 1, []), (39, .iaload, 1, []), (40, .imul, 1, []), (41, .aload_n 0, 1, []), (42, .getfield 7, 3, [1, 1, 0, 1482, 0, 12]), (45, .iload_n 2, 1, []), (46, .iconst 1, 1, []), (47, .iadd, 1, []), (48, .iload 5, 2, []), (50, .iconst 1, 1, []), (51, .iadd, 1, []), (52, .iload_n 3, 1, []), (53, .irem, 1, []), (54, .iadd, 1, []), (55, .iaload, 1, []), (56, .iadd, 1, []), (57, .istore 6, 2, []), (59, .iload 4, 2, []), (61, .iconst (-1), 1, []), (62, .if_icmp .eq 15, 3, [2]), (65, .aload_n 0, 1, []), (66, .getfield 41, 3, [22, 1, 0, 1503, 0, 12]), (69, .iload 6, 2, []), (71, .iaload, 1, []), (72, .iload 4, 2, []), (74, .if_icmp .ge 13, 3, [3]), (77, .nop, 0, [2])],
  [(77, .aload_n 0, 1, []), (78, .getfield 41, 3, [22, 1, 0, 1503, 0, 12]), (81, .iload 6, 2, []), (83, .iaload, 1, []), (84, .goto 5, 3, [4])],
  [(87, .iload 4, 2, []), (89, .nop, 0, [4])],
  [(89, .istore 4, 2, []), (91, .iinc 5 1, 3, []), (94, .goto (-73), 3, [1])],
  [(97, .aload_n 0, 1, []), (98, .iload_n 1, 1, []), (99, .iload 4, 2, []), (101, .ineg, 1, []), (102, .invokevirtual 308, 3, [10, 2, 1914, 0, 12, 128]), (105, .iload 4, 2, []), (107, .ireturn, 1, [0])]]
def bl_129 : List Nat := [0, 21, 77, 87, 89, 97]
-- 130: FavourTownModel.orders(III)V
def T_130 : List (List pEnt) := [[(0, .iload_n 1, 1, []), (1, .aload_n 0, 1, []), (2, .getfield 7, 3, [1, 1, 0, 1482, 0, 12]), (5, .iconst 5, 1, []), (6, .iaload, 1, []), (7, .if_icmp .ne 47, 3, [4]), (10, .iload_n 3, 1, []), (11, .aload_n 0, 1, []), (12, .getfield 312, 3, [25, 0, 0, 1506, 0, 12]), (15, .if_icmp .gt 4, 3, [1]), (18, .return_, 1, [])],
  [(19, .aload_n 0, 1, []), (20, .iload_n 3, 1, []), (21, .putfield 312, 3, [25, 0, 0, 1506, 0, 12]), (24, .iconst 0, 1, []), (25, .istore 4, 2, []), (27, .nop, 0, [2])],
  [(27, .iload 4, 2, []), (29, .iload_n 1, 1, []), (30, .if_icmp .ge 23, 3, [3]), (33, .aload_n 0, 1, []), (34, .getfield 47, 3, [24, 1, 0, 1505, 0, 12]), (37, .iload 4, 2, []), (39, .aload_n 0, 1, []), (40, .getfield 44, 3, [23, 1, 0, 1504, 0, 12]), (43, .iload 4, 2, []), (45, .iaload, 1, []), (46, .iastore, 1, []), (47, .iinc 4 1, 3, []), (50, .goto (-23), 3, [2])],
  [(53, .return_, 1, [])],
  [(54, .iconst 0, 1, []), (55, .istore 4, 2, []), (57, .nop, 0, [5])],
  [(57, .iload 4, 2, []), (59, .aload_n 0, 1, []), (60, .getfield 7, 3, [1, 1, 0, 1482, 0, 12]), (63, .iconst 5, 1, []), (64, .iaload, 1, []), (65, .if_icmp .ge 77, 3, [8]), (68, .iload_n 2, 1, []), (69, .iload 4, 2, []), (71, .ishr, 1, []), (72, .iconst 1, 1, []), (73, .iand, 1, []), (74, .iconst 1, 1, []), (75, .if_icmp .ne 6, 3, [6]), (78, .goto 58, 3, [7])],
  [(81, .aload_n 0, 1, []), (82, .getfield 44, 3, [23, 1, 0, 1504, 0, 12]), (85, .iload_n 1, 1, []), (86, .iload 4, 2, []), (88, .iastore, 1, []), (89, .aload_n 0, 1, []), (90, .iload 4, 2, []), (92, .invokevirtual 315, 3, [10, 1, 1910, 0, 12, 129]), (95, .istore 5, 2, []), (97, .aload_n 0, 1, []), (98, .iload_n 1, 1, []), (99, .iconst 1, 1, []), (100, .iadd, 1, []), (101, .iload_n 2, 1, []), (102, .iconst 1, 1, []), (103, .iload 4, 2, []), (105, .ishl, 1, []), (106, .ior, 1, []), (107, .iload_n 3, 1, []), (108, .iload 5, 2, []), (110, .aload_n 0, 1, []), (111, .getfield 7, 3, [1, 1, 0, 1482, 0, 12]), (114, .bipush 82, 2, []), (116, .bipush 7, 2, []), (118, .iload 4, 2, []), (120, .imul, 1, []), (121, .iadd, 1, []), (122, .iaload, 1, []), (123, .imul, 1, []), (124, .iadd, 1, []), (125, .invokevirtual 318, 3, [10, 3, 1906, 0, 12, 130]), (128, .aload_n 0, 1, []), (129, .iload 4, 2, []), (131, .iload 5, 2, []), (133, .invokevirtual 308, 3, [10, 2, 1914, 0, 12, 128]), (136, .nop, 0, [7])],
  [(136, .iinc 4 1, 3, []), (139, .goto (-82), 3, [5])],
  [(142, .return_, 1, [])]]
def bl_130 : List Nat := [0, 19, 27, 53, 54, 57, 81, 136, 142]
-- 131: FavourTownModel.clear(I)I
def T_131 : List (List pEnt) := [[(0, .aload_n 0, 1, []), (1, .iload_n 1, 1, []), (2, .iconst (-1), 1, []), (3, .if_icmp .ge 7, 3, [1]), (6, .iconst 1, 1, []), (7, .goto 4, 3, [2])],
  [(10, .iconst 0, 1, []), (11, .nop, 0, [2])],
  [(11, .putfield 53, 3, [0, 0, 0, 1481, 0, 12]), (14, .aload_n 0, 1, []), (15, .getfield 53, 3, [0, 0, 0, 1481, 0, 12]), (18, .ifCond .le 5, 3, [3]), (21, .iconst 0, 1, []), (22, .ireturn, 1, [0])],
  [(23, .iconst 0, 1, []), (24, .istore_n 2, 1, []), (25, .nop, 0, [4])],
  [(25, .iload_n 2, 1, []), (26, .aload_n 0, 1, []), (27, .getfield 7, 3, [1, 1, 0, 1482, 0, 12]), (30, .iconst 1, 1, []), (31, .iaload, 1, []), (32, .if_icmp .ge 44, 3, [7]), (35, .iconst 0, 1, []), (36, .istore_n 3, 1, []), (37, .nop, 0, [5])],
  [(37, .iload_n 3, 1, []), (38, .aload_n 0, 1, []), (39, .getfield 7, 3, [1, 1, 0, 1482, 0, 12]), (42, .iconst 1, 1, []), (43, .iaload, 1, []), (44, .if_icmp .ge 26, 3, [6]), (47, .aload_n 0, 1, []), (48, .getfield 41, 3, [22, 1, 0, 1503, 0, 12]), (51, .bipush 12, 2, []), (53, .iload_n 2, 1, []), (54, .imul, 1, []), (55, .iload_n 3, 1, []), (56, .iadd, 1, []), (57, .aload_n 0, 1, []), (58, .iload_n 2, 1, []), (59, .iload_n 3, 1, []), (60, .invokevirtual 259, 3, [10, 2, 1795, 0, 12, 100]), (63, .iastore, 1, []), (64, .iinc 3 1, 3, []), (67, .goto (-30), 3, [5])],
  [(70, .iinc 2 1, 3, []), (73, .goto (-48), 3, [4])],
  [(76, .aload_n 0, 1, []), (77, .iconst (-1), 1, []), (78, .putfield 312, 3, [25, 0, 0, 1506, 0, 12]), (81, .aload_n 0, 1, []), (82, .iconst 0, 1, []), (83, .iconst 0, 1, []), (84, .iconst 0, 1, []), (85, .invokevirtual 318, 3, [10, 3, 1906, 0, 12, 130]), (88, .iload_n 1, 1, []), (89, .iconst (-1), 1, []), (90, .if_icmp .ne 10, 3, [8]), (93, .aload_n 0, 1, []), (94, .getfield 312, 3, [25, 0, 0, 1506, 0, 12]), (97, .goto 23, 3, [10])],
  [(100, .iload_n 1, 1, []), (101, .aload_n 0, 1, []), (102, .getfield 7, 3, [1, 1, 0, 1482, 0, 12]), (105, .iconst 5, 1, []), (106, .iaload, 1, []), (107, .if_icmp .ge 12, 3, [9]), (110, .aload_n 0, 1, []), (111, .getfield 47, 3, [24, 1, 0, 1505, 0, 12]), (114, .iload_n 1, 1, []), (115, .iaload, 1, []), (116, .goto 4, 3, [10])],
  [(119, .iconst (-1), 1, []), (120, .nop, 0, [10])],
  [(120, .ireturn, 1, [0])]]
def bl_131 : List Nat := [0, 10, 11, 23, 25, 37, 70, 76, 100, 119, 120]
-- 132: FavourTownModel.lossOf(II)I
def T_132 : List (List pEnt) := [[(0, .iconst 0, 1, []), (1, .istore_n 3, 1, []), (2, .iconst 0, 1, []), (3, .istore 4, 2, []), (5, .nop, 0, [1])],
  [(5, .iload 4, 2, []), (7, .aload_n 0, 1, []), (8, .getfield 7, 3, [1, 1, 0, 1482, 0, 12]), (11, .iconst 3, 1, []), (12, .iaload, 1, []), (13, .if_icmp .ge 109, 3, [6]), (16, .iconst 2, 1, []), (17, .istore 5, 2, []), (19, .nop, 0, [2])],
  [(19, .iload 5, 2, []), (21, .aload_n 0, 1, []), (22, .iload 4, 2, []), (24, .bipush 6, 2, []), (26, .invokevirtual 127, 3, [10, 2, 1691, 0, 12, 55]), (29, .if_icmp .ge 87, 3, [5]), (32, .aload_n 0, 1, []), (33, .iload 4, 2, []), (35, .bipush 7, 2, []), (37, .iload 5, 2, []), (39, .iadd, 1, []), (40, .invokevirtual 127, 3, [10, 2, 1691, 0, 12, 55]), (43, .iload_n 1, 1, []), (44, .if_icmp .ne 66, 3, [4]), (47, .aload_n 0, 1, []), (48, .iload 4, 2, []), (50, .bipush 7, 2, []), (52, .iload 5, 2, []), (54, .iadd, 1, []), (55, .iconst 1, 1, []), (56, .isub, 1, []), (57, .invokevirtual 127, 3, [10, 2, 1691, 0, 12, 55]), (60, .iload_n 2, 1, []), (61, .if_icmp .ne 49, 3, [4]), (64, .iload_n 1, 1, []), (65, .aload_n 0, 1, []), (66, .iload 4, 2, []), (68, .iconst 0, 1, []), (69, .invokevirtual 127, 3, [10, 2, 1691, 0, 12, 55]), (72, .if_icmp .ne 6, 3, [3]), (75, .goto 35, 3, [4])],
  [(78, .iload_n 3, 1, []), (79, .aload_n 0, 1, []), (80, .iload 4, 2, []), (82, .iconst 1, 1, []), (83, .invokevirtual 127, 3, [10, 2, 1691, 0, 12, 55]), (86, .iload 5, 2, []), (88, .iconst 2, 1, []), (89, .isub, 1, []), (90, .invokestatic 229, 3, [20, 2, 1699, 0, 81]), (93, .aload_n 0, 1, []), (94, .iload 4, 2, []), (96, .iconst 1, 1, []), (97, .invokevirtual 127, 3, [10, 2, 1691, 0, 12, 55]), (100, .iload 5, 2, []), (102, .iconst 1, 1, []), (103, .isub, 1, []), (104, .invokestatic 229, 3, [20, 2, 1699, 0, 81]), (107, .isub, 1, []), (108, .iadd, 1, []), (109, .istore_n 3, 1, []), (110, .nop, 0, [4])],
  [(110, .iinc 5 1, 3, []), (113, .goto (-94), 3, [2])],
  [(116, .iinc 4 1, 3, []), (119, .goto (-114), 3, [1])],
  [(122, .iload_n 3, 1, []), (123, .ireturn, 1, [0])]]
def bl_132 : List Nat := [0, 5, 19, 78, 110, 116, 122]
-- 133: FavourTownModel.loss(II)I
def T_133 : List (List pEnt) := [[(0, .aload_n 0, 1, []), (1, .aload_n 0, 1, []), (2, .iload_n 1, 1, []), (3, .invokevirtual 226, 3, [10, 1, 1747, 0, 12, 53]), (6, .ifCond .eq 11, 3, [1]), (9, .aload_n 0, 1, []), (10, .iload_n 2, 1, []), (11, .invokevirtual 226, 3, [10, 1, 1747, 0, 12, 53]), (14, .ifCond .ne 7, 3, [2]), (17, .nop, 0, [1])],
  [(17, .iconst 1, 1, []), (18, .goto 4, 3, [3])],
  [(21, .iconst 0, 1, []), (22, .nop, 0, [3])],
  [(22, .putfield 53, 3, [0, 0, 0, 1481, 0, 12]), (25, .aload_n 0, 1, []), (26, .getfield 53, 3, [0, 0, 0, 1481, 0, 12]), (29, .ifCond .le 5, 3, [4]), (32, .iconst 0, 1, []), (33, .ireturn, 1, [0])],
  [(34, .aload_n 0, 1, []), (35, .iload_n 1, 1, []), (36, .iload_n 2, 1, []), (37, .invokevirtual 321, 3, [10, 2, 1922, 0, 12, 132]), (40, .ireturn, 1, [0])]]
def bl_133 : List Nat := [0, 17, 21, 22, 34]
-- 134: FavourTownModel.ruined(I)I
def T_134 : List (List pEnt) := [[(0, .aload_n 0, 1, []), (1, .aload_n 0, 1, []), (2, .iload_n 1, 1, []), (3, .invokevirtual 226, 3, [10, 1, 1747, 0, 12, 53]), (6, .ifCond .ne 7, 3, [1]), (9, .iconst 1, 1, []), (10, .goto 4, 3, [2])],
  [(13, .iconst 0, 1, []), (14, .nop, 0, [2])],
  [(14, .putfield 53, 3, [0, 0, 0, 1481, 0, 12]), (17, .aload_n 0, 1, []), (18, .getfield 53, 3, [0, 0, 0, 1481, 0, 12]), (21, .ifCond .le 5, 3, [3]), (24, .iconst 0, 1, []), (25, .ireturn, 1, [0])],
  [(26, .iconst (-1), 1, []), (27, .istore_n 2, 1, []), (28, .iconst 0, 1, []), (29, .istore_n 3, 1, []), (30, .iconst 0, 1, []), (31, .istore 4, 2, []), (33, .nop, 0, [4])],
  [(33, .iload 4, 2, []), (35, .aload_n 0, 1, []), (36, .getfield 7, 3, [1, 1, 0, 1482, 0, 12]), (39, .iconst 1, 1, []), (40, .iaload, 1, []), (41, .if_icmp .ge 33, 3, [7]), (44, .aload_n 0, 1, []), (45, .iload_n 1, 1, []), (46, .iload 4, 2, []), (48, .invokevirtual 321, 3, [10, 2, 1922, 0, 12, 132]), (51, .istore 5, 2, []), (53, .iload 5, 2, []), (55, .iload_n 3, 1, []), (56, .if_icmp .gt 6, 3, [5]), (59, .goto 9, 3, [6])],
  [(62, .iload 4, 2, []), (64, .istore_n 2, 1, []), (65, .iload 5, 2, []), (67, .istore_n 3, 1, []), (68, .nop, 0, [6])],
  [(68, .iinc 4 1, 3, []), (71, .goto (-38), 3, [4])],
  [(74, .iload_n 2, 1, []), (75, .ireturn, 1, [0])]]
def bl_134 : List Nat := [0, 13, 14, 26, 33, 62, 68, 74]
-- 135: FavourTownModel.fits(I)I
def T_135 : List (List pEnt) := [[(0, .aload_n 0, 1, []), (1, .getfield 60, 3, [6, 0, 0, 1487, 0, 12]), (4, .istore_n 2, 1, []), (5, .aload_n 0, 1, []), (6, .iconst 0, 1, []), (7, .putfield 60, 3, [6, 0, 0, 1487, 0, 12]), (10, .aload_n 0, 1, []), (11, .aload_n 0, 1, []), (12, .iload_n 1, 1, []), (13, .invokevirtual 256, 3, [10, 1, 1759, 0, 12, 54]), (16, .ifCond .ne 7, 3, [1]), (19, .iconst 1, 1, []), (20, .goto 4, 3, [2])],
  [(23, .iconst 0, 1, []), (24, .nop, 0, [2])],
  [(24, .putfield 53, 3, [0, 0, 0, 1481, 0, 12]), (27, .aload_n 0, 1, []), (28, .getfield 53, 3, [0, 0, 0, 1481, 0, 12]), (31, .ifCond .le 5, 3, [3]), (34, .iconst 0, 1, []), (35, .ireturn, 1, [0])],
  [(36, .iconst 0, 1, []), (37, .istore_n 3, 1, []), (38, .nop, 0, [4])],
  [(38, .iload_n 3, 1, []), (39, .iload_n 2, 1, []), (40, .if_icmp .ge 41, 3, [5]), (43, .iload_n 3, 1, []), (44, .aload_n 0, 1, []), (45, .iload_n 1, 1, []), (46, .bipush 6, 2, []), (48, .invokevirtual 127, 3, [10, 2, 1691, 0, 12, 55]), (51, .if_icmp .ge 30, 3, [5]), (54, .aload_n 0, 1, []), (55, .getfield 19, 3, [5, 1, 0, 1486, 0, 12]), (58, .iload_n 3, 1, []), (59, .iaload, 1, []), (60, .bipush 97, 2, []), (62, .isub, 1, []), (63, .aload_n 0, 1, []), (64, .iload_n 1, 1, []), (65, .bipush 7, 2, []), (67, .iload_n 3, 1, []), (68, .iadd, 1, []), (69, .invokevirtual 127, 3, [10, 2, 1691, 0, 12, 55]), (72, .if_icmp .ne 9, 3, [5]), (75, .iinc 3 1, 3, []), (78, .goto (-40), 3, [4])],
  [(81, .iload_n 3, 1, []), (82, .iload_n 2, 1, []), (83, .if_icmp .ne 18, 3, [6]), (86, .iload_n 3, 1, []), (87, .aload_n 0, 1, []), (88, .iload_n 1, 1, []), (89, .bipush 6, 2, []), (91, .invokevirtual 127, 3, [10, 2, 1691, 0, 12, 55]), (94, .if_icmp .ne 7, 3, [6]), (97, .iconst (-1), 1, []), (98, .goto 4, 3, [7])],
  [(101, .iload_n 3, 1, []), (102, .nop, 0, [7])],
  [(102, .ireturn, 1, [0])]]
def bl_135 : List Nat := [0, 23, 24, 36, 38, 81, 101, 102]
-- 136: FavourTownModel.draws(I)I
def T_136 : List (List pEnt) := [[(0, .aload_n 0, 1, []), (1, .ldc_w 324, 3, [0, 1103515245, 0, 1942]), (4, .aload_n 0, 1, []), (5, .getfield 325, 3, [28, 0, 0, 1509, 0, 12]), (8, .imul, 1, []), (9, .sipush 12345, 3, []), (12, .iadd, 1, []), (13, .putfield 325, 3, [28, 0, 0, 1509, 0, 12]), (16, .aload_n 0, 1, []), (17, .getfield 325, 3, [28, 0, 0, 1509, 0, 12]), (20, .bipush 16, 2, []), (22, .iushr, 1, []), (23, .sipush 32767, 3, []), (26, .iand, 1, []), (27, .iload_n 1, 1, []), (28, .irem, 1, []), (29, .ireturn, 1, [0])]]
def bl_136 : List Nat := [0]
-- 137: FavourTownModel.play(III)I
def T_137 : List (List pEnt) := [[(0, .aload_n 0, 1, []), (1, .iload_n 2, 1, []), (2, .iconst 0, 1, []), (3, .bipush 60, 2, []), (5, .invokestatic 56, 3, [20, 3, 1581, 0, 52]), (8, .ifCond .ne 7, 3, [1]), (11, .iconst 1, 1, []), (12, .goto 17, 3, [3])],
  [(15, .iload_n 3, 1, []), (16, .iconst 0, 1, []), (17, .iconst 5, 1, []), (18, .invokestatic 56, 3, [20, 3, 1581, 0, 52]), (21, .ifCond .ne 7, 3, [2]), (24, .iconst 2, 1, []), (25, .goto 4, 3, [3])],
  [(28, .iconst 0, 1, []), (29, .nop, 0, [3])],
  [(29, .putfield 53, 3, [0, 0, 0, 1481, 0, 12]), (32, .aload_n 0, 1, []), (33, .getfield 53, 3, [0, 0, 0, 1481, 0, 12]), (36, .ifCond .le 5, 3, [4]), (39, .iconst 0, 1, []), (40, .ireturn, 1, [0])],
  [(41, .iconst 0, 1, []), (42, .istore 4, 2, []), (44, .nop, 0, [5])],
  [(44, .iload 4, 2, []), (46, .sipush 940, 3, []), (49, .if_icmp .ge 23, 3, [6]), (52, .aload_n 0, 1, []), (53, .getfield 16, 3, [4, 1, 0, 1485, 0, 12]), (56, .iload 4, 2, []), (58, .aload_n 0, 1, []), (59, .getfield 7, 3, [1, 1, 0, 1482, 0, 12]), (62, .iload 4, 2, []), (64, .iaload, 1, []), (65, .iastore, 1, []), (66, .iinc 4 1, 3, []), (69, .goto (-25), 3, [5])],
  [(72, .aload_n 0, 1, []), (73, .iload_n 1, 1, []), (74, .putfield 325, 3, [28, 0, 0, 1509, 0, 12]), (77, .iconst 0, 1, []), (78, .istore 4, 2, []), (80, .iconst 0, 1, []), (81, .istore 5, 2, []), (83, .iconst 0, 1, []), (84, .istore 6, 2, []), (86, .iconst 0, 1, []), (87, .istore 7, 2, []), (89, .nop, 0, [7])],
  [(89, .iload 7, 2, []), (91, .iload_n 2, 1, []), (92, .if_icmp .ge 141, 3, [18]), (95, .iconst 0, 1, []), (96, .istore 8, 2, []), (98, .nop, 0, [8])],
  [(98, .iload 8, 2, []), (100, .aload_n 0, 1, []), (101, .getfield 7, 3, [1, 1, 0, 1482, 0, 12]), (104, .iconst 1, 1, []), (105, .iaload, 1, []), (106, .if_icmp .ge 115, 3, [17]), (109, .aload_n 0, 1, []), (110, .aload_n 0, 1, []), (111, .getfield 7, 3, [1, 1, 0, 1482, 0, 12]), (114, .iconst 1, 1, []), (115, .iaload, 1, []), (116, .invokevirtual 328, 3, [10, 1, 1938, 0, 12, 136]), (119, .istore 9, 2, []), (121, .iload 9, 2, []), (123, .iload 8, 2, []), (125, .if_icmp .ne 6, 3, [9]), (128, .goto 87, 3, [16])],
  [(131, .aload_n 0, 1, []), (132, .bipush 9, 2, []), (134, .invokevirtual 328, 3, [10, 1, 1938, 0, 12, 136]), (137, .iconst 1, 1, []), (138, .iadd, 1, []), (139, .istore 10, 2, []), (141, .aload_n 0, 1, []), (142, .iload 8, 2, []), (144, .iload 9, 2, []), (146, .iload 10, 2, []), (148, .invokevirtual 281, 3, [10, 3, 1831, 0, 12, 109]), (151, .istore 11, 2, []), (153, .iload 6, 2, []), (155, .iload 11, 2, []), (157, .iconst (-1), 1, []), (158, .if_icmp .ne 7, 3, [10]), (161, .iconst 1, 1, []), (162, .goto 4, 3, [11])],
  [(165, .iconst 0, 1, []), (166, .nop, 0, [11])],
  [(166, .iadd, 1, []), (167, .istore 6, 2, []), (169, .iload 4, 2, []), (171, .iload 11, 2, []), (173, .iconst (-1), 1, []), (174, .if_icmp .eq 14, 3, [12]), (177, .aload_n 0, 1, []), (178, .getfield 278, 3, [26, 2, 0, 1507, 0, 12]), (181, .ifCond .eq 7, 3, [12]), (184, .iconst 1, 1, []), (185, .goto 4, 3, [13])],
  [(188, .iconst 0, 1, []), (189, .nop, 0, [13])],
  [(189, .iadd, 1, []), (190, .istore 4, 2, []), (192, .iload 5, 2, []), (194, .iload 11, 2, []), (196, .iconst (-1), 1, []), (197, .if_icmp .eq 14, 3, [14]), (200, .aload_n 0, 1, []), (201, .getfield 278, 3, [26, 2, 0, 1507, 0, 12]), (204, .ifCond .ne 7, 3, [14]), (207, .iconst 1, 1, []), (208, .goto 4, 3, [15])],
  [(211, .iconst 0, 1, []), (212, .nop, 0, [15])],
  [(212, .iadd, 1, []), (213, .istore 5, 2, []), (215, .nop, 0, [16])],
  [(215, .iinc 8 1, 3, []), (218, .goto (-120), 3, [8])],
  [(221, .aload_n 0, 1, []), (222, .iconst 1, 1, []), (223, .invokevirtual 141, 3, [10, 1, 1729, 0, 12, 90]), (226, .pop, 1, []), (227, .iinc 7 1, 3, []), (230, .goto (-141), 3, [7])],
  [(233, .iconst 0, 1, []), (234, .istore 7, 2, []), (236, .iconst 0, 1, []), (237, .istore 8, 2, []), (239, .iconst (-1), 1, []), (240, .istore 9, 2, []), (242, .iconst 0, 1, []), (243, .istore 10, 2, []), (245, .nop, 0, [19])],
  [(245, .iload 10, 2, []), (247, .aload_n 0, 1, []), (248, .getfield 7, 3, [1, 1, 0, 1482, 0, 12]), (251, .iconst 3, 1, []), (252, .iaload, 1, []), (253, .if_icmp .ge 30, 3, [22]), (256, .iload 7, 2, []), (258, .aload_n 0, 1, []), (259, .iload 10, 2, []), (261, .iconst 2, 1, []), (262, .invokevirtual 127, 3, [10, 2, 1691, 0, 12, 55]), (265, .iconst (-1), 1, []), (266, .if_icmp .ne 7, 3, [20]), (269, .iconst 0, 1, []), (270, .goto 4, 3, [21])],
  [(273, .iconst 1, 1, []), (274, .nop, 0, [21])],
  [(274, .iadd, 1, []), (275, .istore 7, 2, []), (277, .iinc 10 1, 3, []), (280, .goto (-35), 3, [19])],
  [(283, .iconst 0, 1, []), (284, .istore 10, 2, []), (286, .nop, 0, [23])],
  [(286, .iload 10, 2, []), (288, .aload_n 0, 1, []), (289, .getfield 7, 3, [1, 1, 0, 1482, 0, 12]), (292, .iconst 1, 1, []), (293, .iaload, 1, []), (294, .if_icmp .ge 50, 3, [27]), (297, .iload 8, 2, []), (299, .aload_n 0, 1, []), (300, .iload 10, 2, []), (302, .invokevirtual 232, 3, [10, 1, 1702, 0, 12, 82]), (305, .iadd, 1, []), (306, .istore 8, 2, []), (308, .iload 9, 2, []), (310, .iconst (-1), 1, []), (311, .if_icmp .eq 18, 3, [24]), (314, .aload_n 0, 1, []), (315, .iload 10, 2, []), (317, .invokevirtual 232, 3, [10, 1, 1702, 0, 12, 82]), (320, .aload_n 0, 1, []), (321, .iload 9, 2, []), (323, .invokevirtual 232, 3, [10, 1, 1702, 0, 12, 82]), (326, .if_icmp .le 8, 3, [25]), (329, .nop, 0, [24])],
  [(329, .iload 10, 2, []), (331, .goto 5, 3, [26])],
  [(334, .iload 9, 2, []), (336, .nop, 0, [26])],
  [(336, .istore 9, 2, []), (338, .iinc 10 1, 3, []), (341, .goto (-55), 3, [23])],
  [(344, .iconst 0, 1, []), (345, .istore 10, 2, []), (347, .nop, 0, [28])],
  [(347, .iload 10, 2, []), (349, .sipush 940, 3, []), (352, .if_icmp .ge 23, 3, [29]), (355, .aload_n 0, 1, []), (356, .getfield 7, 3, [1, 1, 0, 1482, 0, 12]), (359, .iload 10, 2, []), (361, .aload_n 0, 1, []), (362, .getfield 16, 3, [4, 1, 0, 1485, 0, 12]), (365, .iload 10, 2, []), (367, .iaload, 1, []), (368, .iastore, 1, []), (369, .iinc 10 1, 3, []), (372, .goto (-25), 3, [28])],
  [(375, .iload_n 3, 1, []), (376, .ifCond .ne 8, 3, [30]), (379, .iload 4, 2, []), (381, .goto 45, 3, [35])],
  [(384, .iload_n 3, 1, []), (385, .iconst 1, 1, []), (386, .if_icmp .ne 8, 3, [31]), (389, .iload 5, 2, []), (391, .goto 35, 3, [35])],
  [(394, .iload_n 3, 1, []), (395, .iconst 2, 1, []), (396, .if_icmp .ne 8, 3, [32]), (399, .iload 6, 2, []), (401, .goto 25, 3, [35])],
  [(404, .iload_n 3, 1, []), (405, .iconst 3, 1, []), (406, .if_icmp .ne 8, 3, [33]), (409, .iload 7, 2, []), (411, .goto 15, 3, [35])],
  [(414, .iload_n 3, 1, []), (415, .iconst 4, 1, []), (416, .if_icmp .ne 8, 3, [34]), (419, .iload 8, 2, []), (421, .goto 5, 3, [35])],
  [(424, .iload 9, 2, []), (426, .nop, 0, [35])],
  [(426, .ireturn, 1, [0])]]
def bl_137 : List Nat := [0, 15, 28, 29, 41, 44, 72, 89, 98, 131, 165, 166, 188, 189, 211, 212, 215, 221, 233, 245, 273, 274, 283, 286, 329, 334, 336, 344, 347, 375, 384, 394, 404, 414, 424, 426]
-- 138: FavourTownModel.image()V
def T_138 : List (List pEnt) := [[(0, .aload_n 0, 1, []), (1, .iconst 0, 1, []), (2, .putfield 53, 3, [0, 0, 0, 1481, 0, 12]), (5, .iconst 0, 1, []), (6, .istore_n 1, 1, []), (7, .nop, 0, [1])],
  [(7, .iload_n 1, 1, []), (8, .sipush 3346, 3, []), (11, .if_icmp .ge 21, 3, [2]), (14, .aload_n 0, 1, []), (15, .getfield 13, 3, [2, 1, 0, 1483, 0, 12]), (18, .iload_n 1, 1, []), (19, .aload_n 0, 1, []), (20, .getfield 7, 3, [1, 1, 0, 1482, 0, 12]), (23, .iload_n 1, 1, []), (24, .iaload, 1, []), (25, .iastore, 1, []), (26, .iinc 1 1, 3, []), (29, .goto (-22), 3, [1])],
  [(32, .aload_n 0, 1, []), (33, .iconst 1, 1, []), (34, .putfield 331, 3, [3, 2, 0, 1484, 0, 12]), (37, .return_, 1, [])]]
def bl_138 : List Nat := [0, 7, 32]
-- 139: FavourTownModel.back()Z
def T_139 : List (List pEnt) := [[(0, .aload_n 0, 1, []), (1, .iconst 0, 1, []), (2, .putfield 53, 3, [0, 0, 0, 1481, 0, 12]), (5, .aload_n 0, 1, []), (6, .getfield 331, 3, [3, 2, 0, 1484, 0, 12]), (9, .ifCond .ne 5, 3, [1]), (12, .iconst 0, 1, []), (13, .ireturn, 1, [2])],
  [(14, .iconst 0, 1, []), (15, .istore_n 1, 1, []), (16, .nop, 0, [2])],
  [(16, .iload_n 1, 1, []), (17, .sipush 3346, 3, []), (20, .if_icmp .ge 21, 3, [3]), (23, .aload_n 0, 1, []), (24, .getfield 7, 3, [1, 1, 0, 1482, 0, 12]), (27, .iload_n 1, 1, []), (28, .aload_n 0, 1, []), (29, .getfield 13, 3, [2, 1, 0, 1483, 0, 12]), (32, .iload_n 1, 1, []), (33, .iaload, 1, []), (34, .iastore, 1, []), (35, .iinc 1 1, 3, []), (38, .goto (-22), 3, [2])],
  [(41, .iconst 1, 1, []), (42, .ireturn, 1, [2])]]
def bl_139 : List Nat := [0, 14, 16, 41]
-- 140: FavourTownModel.count(I)I
def T_140 : List (List pEnt) := [[(0, .aload_n 0, 1, []), (1, .iconst 0, 1, []), (2, .putfield 53, 3, [0, 0, 0, 1481, 0, 12]), (5, .iconst 0, 1, []), (6, .istore_n 2, 1, []), (7, .iconst 0, 1, []), (8, .istore_n 3, 1, []), (9, .iconst 0, 1, []), (10, .istore 4, 2, []), (12, .nop, 0, [1])],
  [(12, .iload 4, 2, []), (14, .aload_n 0, 1, []), (15, .getfield 7, 3, [1, 1, 0, 1482, 0, 12]), (18, .iconst 3, 1, []), (19, .iaload, 1, []), (20, .if_icmp .ge 28, 3, [4]), (23, .iload_n 2, 1, []), (24, .aload_n 0, 1, []), (25, .iload 4, 2, []), (27, .iconst 2, 1, []), (28, .invokevirtual 127, 3, [10, 2, 1691, 0, 12, 55]), (31, .iconst (-1), 1, []), (32, .if_icmp .ne 7, 3, [2]), (35, .iconst 0, 1, []), (36, .goto 4, 3, [3])],
  [(39, .iconst 1, 1, []), (40, .nop, 0, [3])],
  [(40, .iadd, 1, []), (41, .istore_n 2, 1, []), (42, .iinc 4 1, 3, []), (45, .goto (-33), 3, [1])],
  [(48, .iconst 0, 1, []), (49, .istore 4, 2, []), (51, .nop, 0, [5])],
  [(51, .iload 4, 2, []), (53, .aload_n 0, 1, []), (54, .getfield 7, 3, [1, 1, 0, 1482, 0, 12]), (57, .iconst 1, 1, []), (58, .iaload, 1, []), (59, .if_icmp .ge 29, 3, [6]), (62, .iload_n 3, 1, []), (63, .aload_n 0, 1, []), (64, .getfield 7, 3, [1, 1, 0, 1482, 0, 12]), (67, .bipush 10, 2, []), (69, .iconst 3, 1, []), (70, .iload 4, 2, []), (72, .imul, 1, []), (73, .iadd, 1, []), (74, .iconst 2, 1, []), (75, .iadd, 1, []), (76, .iaload, 1, []), (77, .invokestatic 290, 3, [20, 1, 1855, 0, 115]), (80, .iadd, 1, []), (81, .istore_n 3, 1, []), (82, .iinc 4 1, 3, []), (85, .goto (-34), 3, [5])],
  [(88, .iload_n 1, 1, []), (89, .ifCond .ne 12, 3, [7]), (92, .aload_n 0, 1, []), (93, .getfield 7, 3, [1, 1, 0, 1482, 0, 12]), (96, .iconst 1, 1, []), (97, .iaload, 1, []), (98, .goto 128, 3, [17])],
  [(101, .iload_n 1, 1, []), (102, .iconst 1, 1, []), (103, .if_icmp .ne 12, 3, [8]), (106, .aload_n 0, 1, []), (107, .getfield 7, 3, [1, 1, 0, 1482, 0, 12]), (110, .iconst 0, 1, []), (111, .iaload, 1, []), (112, .goto 114, 3, [17])],
  [(115, .iload_n 1, 1, []), (116, .iconst 2, 1, []), (117, .if_icmp .ne 12, 3, [9]), (120, .aload_n 0, 1, []), (121, .getfield 7, 3, [1, 1, 0, 1482, 0, 12]), (124, .iconst 2, 1, []), (125, .iaload, 1, []), (126, .goto 100, 3, [17])],
  [(129, .iload_n 1, 1, []), (130, .iconst 3, 1, []), (131, .if_icmp .ne 12, 3, [10]), (134, .aload_n 0, 1, []), (135, .getfield 7, 3, [1, 1, 0, 1482, 0, 12]), (138, .iconst 3, 1, []), (139, .iaload, 1, []), (140, .goto 86, 3, [17])],
  [(143, .iload_n 1, 1, []), (144, .iconst 4, 1, []), (145, .if_icmp .ne 7, 3, [11]), (148, .iload_n 2, 1, []), (149, .goto 77, 3, [17])],
  [(152, .iload_n 1, 1, []), (153, .iconst 5, 1, []), (154, .if_icmp .ne 12, 3, [12]), (157, .aload_n 0, 1, []), (158, .getfield 7, 3, [1, 1, 0, 1482, 0, 12]), (161, .iconst 4, 1, []), (162, .iaload, 1, []), (163, .goto 63, 3, [17])],
  [(166, .iload_n 1, 1, []), (167, .bipush 6, 2, []), (169, .if_icmp .ne 12, 3, [13]), (172, .aload_n 0, 1, []), (173, .getfield 7, 3, [1, 1, 0, 1482, 0, 12]), (176, .iconst 5, 1, []), (177, .iaload, 1, []), (178, .goto 48, 3, [17])],
  [(181, .iload_n 1, 1, []), (182, .bipush 7, 2, []), (184, .if_icmp .ne 13, 3, [14]), (187, .aload_n 0, 1, []), (188, .getfield 7, 3, [1, 1, 0, 1482, 0, 12]), (191, .bipush 6, 2, []), (193, .iaload, 1, []), (194, .goto 32, 3, [17])],
  [(197, .iload_n 1, 1, []), (198, .bipush 8, 2, []), (200, .if_icmp .ne 13, 3, [15]), (203, .aload_n 0, 1, []), (204, .getfield 7, 3, [1, 1, 0, 1482, 0, 12]), (207, .bipush 7, 2, []), (209, .iaload, 1, []), (210, .goto 16, 3, [17])],
  [(213, .iload_n 1, 1, []), (214, .bipush 9, 2, []), (216, .if_icmp .ne 9, 3, [16]), (219, .iload_n 3, 1, []), (220, .iconst 2, 1, []), (221, .idiv, 1, []), (222, .goto 4, 3, [17])],
  [(225, .iconst (-1), 1, []), (226, .nop, 0, [17])],
  [(226, .ireturn, 1, [0])]]
def bl_140 : List Nat := [0, 12, 39, 40, 48, 51, 88, 101, 115, 129, 143, 152, 166, 181, 197, 213, 225, 226]
-- 141: FavourTown$Favours.<init>()V
def T_141 : List (List pEnt) := [[(0, .aload_n 0, 1, []), (1, .invokespecial 3, 3, [0, 192]), (4, .aload_n 0, 1, []), (5, .bipush 40, 2, []), (7, .newarray .int, 2, []), (9, .putfield 9, 3, [0, 1, 0, 193, 0, 1]), (12, .aload_n 0, 1, []), (13, .bipush 40, 2, []), (15, .newarray .int, 2, []), (17, .putfield 15, 3, [1, 1, 0, 196, 0, 1]), (20, .aload_n 0, 1, []), (21, .bipush 40, 2, []), (23, .newarray .int, 2, []), (25, .putfield 18, 3, [2, 1, 0, 199, 0, 1]), (28, .aload_n 0, 1, []), (29, .bipush 40, 2, []), (31, .newarray .int, 2, []), (33, .putfield 21, 3, [3, 1, 0, 202, 0, 1]), (36, .aload_n 0, 1, []), (37, .bipush 40, 2, []), (39, .newarray .int, 2, []), (41, .putfield 24, 3, [4, 1, 0, 205, 0, 1]), (44, .aload_n 0, 1, []), (45, .bipush 40, 2, []), (47, .newarray .int, 2, []), (49, .putfield 27, 3, [5, 1, 0, 208, 0, 1]), (52, .aload_n 0, 1, []), (53, .sipush 480, 3, []), (56, .newarray .int, 2, []), (58, .putfield 30, 3, [6, 1, 0, 211, 0, 1]), (61, .return_, 1, [])]]
def bl_141 : List Nat := [0]
-- 142: FavourTown$Favours.become(LFavourTown$Favours;)V
def T_142 : List (List pEnt) := [[(0, .aload_n 0, 1, []), (1, .aload_n 1, 1, []), (2, .getfield 33, 3, [7, 0, 0, 212, 0, 1]), (5, .putfield 33, 3, [7, 0, 0, 212, 0, 1]), (8, .aload_n 1, 1, []), (9, .getfield 9, 3, [0, 1, 0, 193, 0, 1]), (12, .aload_n 0, 1, []), (13, .getfield 9, 3, [0, 1, 0, 193, 0, 1]), (16, .invokestatic 37, 3, [21, 2, 558, 0, 47]), (19, .aload_n 1, 1, []), (20, .getfield 18, 3, [2, 1, 0, 199, 0, 1]), (23, .aload_n 0, 1, []), (24, .getfield 18, 3, [2, 1, 0, 199, 0, 1]), (27, .invokestatic 37, 3, [21, 2, 558, 0, 47]), (30, .aload_n 1, 1, []), (31, .getfield 21, 3, [3, 1, 0, 202, 0, 1]), (34, .aload_n 0, 1, []), (35, .getfield 21, 3, [3, 1, 0, 202, 0, 1]), (38, .invokestatic 37, 3, [21, 2, 558, 0, 47]), (41, .aload_n 1, 1, []), (42, .getfield 24, 3, [4, 1, 0, 205, 0, 1]), (45, .aload_n 0, 1, []), (46, .getfield 24, 3, [4, 1, 0, 205, 0, 1]), (49, .invokestatic 37, 3, [21, 2, 558, 0, 47]), (52, .aload_n 1, 1, []), (53, .getfield 27, 3, [5, 1, 0, 208, 0, 1]), (56, .aload_n 0, 1, []), (57, .getfield 27, 3, [5, 1, 0, 208, 0, 1]), (60, .invokestatic 37, 3, [21, 2, 558, 0, 47]), (63, .aload_n 1, 1, []), (64, .getfield 30, 3, [6, 1, 0, 211, 0, 1]), (67, .aload_n 0, 1, []), (68, .getfield 30, 3, [6, 1, 0, 211, 0, 1]), (71, .invokestatic 37, 3, [21, 2, 558, 0, 47]), (74, .aload_n 0, 1, []), (75, .aload_n 1, 1, []), (76, .invokevirtual 41, 3, [10, 1, 559, 0, 1, 143]), (79, .return_, 1, [])]]
def bl_142 : List Nat := [0]
-- 143: FavourTown$Favours.holdAs(LFavourTown$Favours;)V
def T_143 : List (List pEnt) := [[(0, .aload_n 1, 1, []), (1, .getfield 15, 3, [1, 1, 0, 196, 0, 1]), (4, .aload_n 0, 1, []), (5, .getfield 15, 3, [1, 1, 0, 196, 0, 1]), (8, .invokestatic 37, 3, [21, 2, 558, 0, 47]), (11, .return_, 1, [])]]
def bl_143 : List Nat := [0]
-- 144: FavourTown$Favours.add(IIIIZ)I
def T_144 : List (List pEnt) := [[(0, .aload_n 0, 1, []), (1, .getfield 33, 3, [7, 0, 0, 212, 0, 1]), (4, .istore 6, 2, []), (6, .aload_n 0, 1, []), (7, .getfield 9, 3, [0, 1, 0, 193, 0, 1]), (10, .iload 6, 2, []), (12, .iload_n 1, 1, []), (13, .invokestatic 45, 3, [21, 3, 916, 0, 45]), (16, .aload_n 0, 1, []), (17, .getfield 15, 3, [1, 1, 0, 196, 0, 1]), (20, .iload 6, 2, []), (22, .iload_n 2, 1, []), (23, .invokestatic 45, 3, [21, 3, 916, 0, 45]), (26, .aload_n 0, 1, []), (27, .getfield 18, 3, [2, 1, 0, 199, 0, 1]), (30, .iload 6, 2, []), (32, .iload_n 3, 1, []), (33, .invokestatic 45, 3, [21, 3, 916, 0, 45]), (36, .aload_n 0, 1, []), (37, .getfield 21, 3, [3, 1, 0, 202, 0, 1]), (40, .iload 6, 2, []), (42, .iconst 0, 1, []), (43, .invokestatic 45, 3, [21, 3, 916, 0, 45]), (46, .aload_n 0, 1, []), (47, .getfield 24, 3, [4, 1, 0, 205, 0, 1]), (50, .iload 6, 2, []), (52, .iload 4, 2, []), (54, .invokestatic 45, 3, [21, 3, 916, 0, 45]), (57, .aload_n 0, 1, []), (58, .getfield 27, 3, [5, 1, 0, 208, 0, 1]), (61, .iload 6, 2, []), (63, .iload 5, 2, []), (65, .invokestatic 49, 3, [21, 1, 704, 0, 49]), (68, .invokestatic 45, 3, [21, 3, 916, 0, 45]), (71, .aload_n 0, 1, []), (72, .getfield 30, 3, [6, 1, 0, 211, 0, 1]), (75, .iload 6, 2, []), (77, .bipush 12, 2, []), (79, .imul, 1, []), (80, .iload_n 1, 1, []), (81, .invokestatic 45, 3, [21, 3, 916, 0, 45]), (84, .aload_n 0, 1, []), (85, .getfield 30, 3, [6, 1, 0, 211, 0, 1]), (88, .iload 6, 2, []), (90, .bipush 12, 2, []), (92, .imul, 1, []), (93, .iconst 1, 1, []), (94, .iadd, 1, []), (95, .iload_n 2, 1, []), (96, .invokestatic 45, 3, [21, 3, 916, 0, 45]), (99, .aload_n 0, 1, []), (100, .dup, 1, []), (101, .getfield 33, 3, [7, 0, 0, 212, 0, 1]), (104, .iconst 1, 1, []), (105, .iadd, 1, []), (106, .putfield 33, 3, [7, 0, 0, 212, 0, 1]), (109, .iload 6, 2, []), (111, .ireturn, 1, [0])]]
def bl_144 : List Nat := [0]
-- 145: FavourTown$Favours.comeInto(II)V
def T_145 : List (List pEnt) := [[(0, .aload_n 0, 1, []), (1, .iload_n 1, 1, []), (2, .invokevirtual 53, 3, [10, 1, 925, 0, 1, 148]), (5, .istore_n 3, 1, []), (6, .iload_n 3, 1, []), (7, .bipush 12, 2, []), (9, .if_icmp .ge 35, 3, [1]), (12, .aload_n 0, 1, []), (13, .getfield 30, 3, [6, 1, 0, 211, 0, 1]), (16, .iload_n 1, 1, []), (17, .bipush 12, 2, []), (19, .imul, 1, []), (20, .iload_n 3, 1, []), (21, .iadd, 1, []), (22, .iload_n 2, 1, []), (23, .invokestatic 45, 3, [21, 3, 916, 0, 45]), (26, .aload_n 0, 1, []), (27, .getfield 21, 3, [3, 1, 0, 202, 0, 1]), (30, .iload_n 1, 1, []), (31, .iconst 1, 1, []), (32, .invokestatic 57, 3, [21, 3, 929, 0, 46]), (35, .aload_n 0, 1, []), (36, .getfield 15, 3, [1, 1, 0, 196, 0, 1]), (39, .iload_n 1, 1, []), (40, .iload_n 2, 1, []), (41, .invokestatic 45, 3, [21, 3, 916, 0, 45]), (44, .nop, 0, [1])],
  [(44, .return_, 1, [])]]
def bl_145 : List Nat := [0, 44]
-- 146: FavourTown$Favours.isGone(I)Z
def T_146 : List (List pEnt) := [[(0, .aload_n 0, 1, []), (1, .getfield 15, 3, [1, 1, 0, 196, 0, 1]), (4, .iload_n 1, 1, []), (5, .invokestatic 60, 3, [21, 2, 572, 0, 44]), (8, .iconst (-1), 1, []), (9, .if_icmp .ne 7, 3, [1]), (12, .iconst 1, 1, []), (13, .goto 4, 3, [2])],
  [(16, .iconst 0, 1, []), (17, .nop, 0, [2])],
  [(17, .ireturn, 1, [2])]]
def bl_146 : List Nat := [0, 16, 17]
-- 147: FavourTown$Favours.worth(II)I
def T_147 : List (List pEnt) := [[(0, .aload_n 0, 1, []), (1, .getfield 18, 3, [2, 1, 0, 199, 0, 1]), (4, .iload_n 1, 1, []), (5, .invokestatic 60, 3, [21, 2, 572, 0, 44]), (8, .sipush 1024, 3, []), (11, .imul, 1, []), (12, .aload_n 0, 1, []), (13, .getfield 21, 3, [3, 1, 0, 202, 0, 1]), (16, .iload_n 1, 1, []), (17, .invokestatic 60, 3, [21, 2, 572, 0, 44]), (20, .iload_n 2, 1, []), (21, .iadd, 1, []), (22, .ishr, 1, []), (23, .ireturn, 1, [0])]]
def bl_147 : List Nat := [0]
-- 148: FavourTown$Favours.rowLength(I)I
def T_148 : List (List pEnt) := [[(0, .aload_n 0, 1, []), (1, .getfield 21, 3, [3, 1, 0, 202, 0, 1]), (4, .iload_n 1, 1, []), (5, .invokestatic 60, 3, [21, 2, 572, 0, 44]), (8, .iconst 2, 1, []), (9, .iadd, 1, []), (10, .ireturn, 1, [0])]]
def bl_148 : List Nat := [0]
-- 149: FavourTown$Favours.inRow(II)I
def T_149 : List (List pEnt) := [[(0, .iload_n 2, 1, []), (1, .ifCond .lt 28, 3, [1]), (4, .iload_n 2, 1, []), (5, .aload_n 0, 1, []), (6, .iload_n 1, 1, []), (7, .invokevirtual 53, 3, [10, 1, 925, 0, 1, 148]), (10, .if_icmp .ge 19, 3, [1]), (13, .aload_n 0, 1, []), (14, .getfield 30, 3, [6, 1, 0, 211, 0, 1]), (17, .iload_n 1, 1, []), (18, .bipush 12, 2, []), (20, .imul, 1, []), (21, .iload_n 2, 1, []), (22, .iadd, 1, []), (23, .invokestatic 60, 3, [21, 2, 572, 0, 44]), (26, .goto 4, 3, [2])],
  [(29, .iconst (-1), 1, []), (30, .nop, 0, [2])],
  [(30, .ireturn, 1, [0])]]
def bl_149 : List Nat := [0, 29, 30]
-- 150: FavourTown$Favours.wasHeldBy(II)Z
def T_150 : List (List pEnt) := [[(0, .iconst 1, 1, []), (1, .istore_n 3, 1, []), (2, .nop, 0, [1])],
  [(2, .iload_n 3, 1, []), (3, .aload_n 0, 1, []), (4, .getfield 21, 3, [3, 1, 0, 202, 0, 1]), (7, .iload_n 1, 1, []), (8, .invokestatic 60, 3, [21, 2, 572, 0, 44]), (11, .iconst 2, 1, []), (12, .iadd, 1, []), (13, .if_icmp .ge 28, 3, [3]), (16, .aload_n 0, 1, []), (17, .getfield 30, 3, [6, 1, 0, 211, 0, 1]), (20, .iload_n 1, 1, []), (21, .bipush 12, 2, []), (23, .imul, 1, []), (24, .iload_n 3, 1, []), (25, .iadd, 1, []), (26, .invokestatic 60, 3, [21, 2, 572, 0, 44]), (29, .iload_n 2, 1, []), (30, .if_icmp .ne 5, 3, [2]), (33, .iconst 1, 1, []), (34, .ireturn, 1, [2])],
  [(35, .iinc 3 1, 3, []), (38, .goto (-36), 3, [1])],
  [(41, .iconst 0, 1, []), (42, .ireturn, 1, [2])]]
def bl_150 : List Nat := [0, 2, 35, 41]
-- 151: FavourTown$Favours.countLeft()I
def T_151 : List (List pEnt) := [[(0, .iconst 0, 1, []), (1, .istore_n 1, 1, []), (2, .iconst 0, 1, []), (3, .istore_n 2, 1, []), (4, .nop, 0, [1])],
  [(4, .iload_n 2, 1, []), (5, .aload_n 0, 1, []), (6, .getfield 33, 3, [7, 0, 0, 212, 0, 1]), (9, .if_icmp .ge 28, 3, [4]), (12, .iload_n 1, 1, []), (13, .aload_n 0, 1, []), (14, .iload_n 2, 1, []), (15, .invokevirtual 64, 3, [10, 1, 671, 0, 1, 146]), (18, .ifCond .ne 7, 3, [2]), (21, .iconst 1, 1, []), (22, .goto 4, 3, [3])],
  [(25, .iconst 0, 1, []), (26, .nop, 0, [3])],
  [(26, .invokestatic 49, 3, [21, 1, 704, 0, 49]), (29, .iadd, 1, []), (30, .istore_n 1, 1, []), (31, .iinc 2 1, 3, []), (34, .goto (-30), 3, [1])],
  [(37, .iload_n 1, 1, []), (38, .ireturn, 1, [0])]]
def bl_151 : List Nat := [0, 4, 25, 26, 37]
-- 152: FavourTown$Favours.holders()I
def T_152 : List (List pEnt) := [[(0, .iconst 0, 1, []), (1, .istore_n 1, 1, []), (2, .iconst 0, 1, []), (3, .istore_n 2, 1, []), (4, .nop, 0, [1])],
  [(4, .iload_n 2, 1, []), (5, .aload_n 0, 1, []), (6, .getfield 33, 3, [7, 0, 0, 212, 0, 1]), (9, .if_icmp .ge 30, 3, [3]), (12, .aload_n 0, 1, []), (13, .iload_n 2, 1, []), (14, .invokevirtual 64, 3, [10, 1, 671, 0, 1, 146]), (17, .ifCond .ne 16, 3, [2]), (20, .iload_n 1, 1, []), (21, .iconst 1, 1, []), (22, .aload_n 0, 1, []), (23, .getfield 15, 3, [1, 1, 0, 196, 0, 1]), (26, .iload_n 2, 1, []), (27, .invokestatic 60, 3, [21, 2, 572, 0, 44]), (30, .ishl, 1, []), (31, .ior, 1, []), (32, .istore_n 1, 1, []), (33, .nop, 0, [2])],
  [(33, .iinc 2 1, 3, []), (36, .goto (-32), 3, [1])],
  [(39, .iload_n 1, 1, []), (40, .ireturn, 1, [0])]]
def bl_152 : List Nat := [0, 4, 33, 39]
-- 153: FavourTown$Favours.owedBetween(II)I
def T_153 : List (List pEnt) := [[(0, .iconst 0, 1, []), (1, .istore_n 3, 1, []), (2, .iconst 0, 1, []), (3, .istore 4, 2, []), (5, .nop, 0, [1])],
  [(5, .iload 4, 2, []), (7, .aload_n 0, 1, []), (8, .getfield 33, 3, [7, 0, 0, 212, 0, 1]), (11, .if_icmp .ge 47, 3, [3]), (14, .aload_n 0, 1, []), (15, .getfield 9, 3, [0, 1, 0, 193, 0, 1]), (18, .iload 4, 2, []), (20, .invokestatic 60, 3, [21, 2, 572, 0, 44]), (23, .iload_n 1, 1, []), (24, .if_icmp .ne 28, 3, [2]), (27, .aload_n 0, 1, []), (28, .getfield 15, 3, [1, 1, 0, 196, 0, 1]), (31, .iload 4, 2, []), (33, .invokestatic 60, 3, [21, 2, 572, 0, 44]), (36, .iload_n 2, 1, []), (37, .if_icmp .ne 15, 3, [2]), (40, .iload_n 3, 1, []), (41, .aload_n 0, 1, []), (42, .getfield 18, 3, [2, 1, 0, 199, 0, 1]), (45, .iload 4, 2, []), (47, .invokestatic 60, 3, [21, 2, 572, 0, 44]), (50, .iadd, 1, []), (51, .istore_n 3, 1, []), (52, .nop, 0, [2])],
  [(52, .iinc 4 1, 3, []), (55, .goto (-50), 3, [1])],
  [(58, .iload_n 3, 1, []), (59, .ireturn, 1, [0])]]
def bl_153 : List Nat := [0, 5, 52, 58]
-- 154: FavourTown$Favours.lossOf(II)I
def T_154 : List (List pEnt) := [[(0, .iconst 0, 1, []), (1, .istore_n 3, 1, []), (2, .iconst 0, 1, []), (3, .istore 4, 2, []), (5, .nop, 0, [1])],
  [(5, .iload 4, 2, []), (7, .aload_n 0, 1, []), (8, .getfield 33, 3, [7, 0, 0, 212, 0, 1]), (11, .if_icmp .ge 33, 3, [3]), (14, .aload_n 0, 1, []), (15, .getfield 9, 3, [0, 1, 0, 193, 0, 1]), (18, .iload 4, 2, []), (20, .invokestatic 60, 3, [21, 2, 572, 0, 44]), (23, .iload_n 1, 1, []), (24, .if_icmp .eq 14, 3, [2]), (27, .iload_n 3, 1, []), (28, .aload_n 0, 1, []), (29, .iload 4, 2, []), (31, .iload_n 1, 1, []), (32, .iload_n 2, 1, []), (33, .invokevirtual 68, 3, [10, 3, 1422, 0, 1, 155]), (36, .iadd, 1, []), (37, .istore_n 3, 1, []), (38, .nop, 0, [2])],
  [(38, .iinc 4 1, 3, []), (41, .goto (-36), 3, [1])],
  [(44, .iload_n 3, 1, []), (45, .ireturn, 1, [0])]]
def bl_154 : List Nat := [0, 5, 38, 44]
-- 155: FavourTown$Favours.lossOn(III)I
def T_155 : List (List pEnt) := [[(0, .iconst 0, 1, []), (1, .istore 4, 2, []), (3, .aload_n 0, 1, []), (4, .getfield 18, 3, [2, 1, 0, 199, 0, 1]), (7, .iload_n 1, 1, []), (8, .invokestatic 60, 3, [21, 2, 572, 0, 44]), (11, .sipush 1024, 3, []), (14, .imul, 1, []), (15, .istore 5, 2, []), (17, .iconst 2, 1, []), (18, .istore 6, 2, []), (20, .nop, 0, [1])],
  [(20, .iload 6, 2, []), (22, .aload_n 0, 1, []), (23, .iload_n 1, 1, []), (24, .invokevirtual 53, 3, [10, 1, 925, 0, 1, 148]), (27, .if_icmp .ge 53, 3, [3]), (30, .aload_n 0, 1, []), (31, .iload_n 1, 1, []), (32, .iload 6, 2, []), (34, .iconst 1, 1, []), (35, .isub, 1, []), (36, .invokevirtual 72, 3, [10, 2, 1426, 0, 1, 149]), (39, .iload_n 3, 1, []), (40, .if_icmp .ne 34, 3, [2]), (43, .aload_n 0, 1, []), (44, .iload_n 1, 1, []), (45, .iload 6, 2, []), (47, .invokevirtual 72, 3, [10, 2, 1426, 0, 1, 149]), (50, .iload_n 2, 1, []), (51, .if_icmp .ne 23, 3, [2]), (54, .iload 4, 2, []), (56, .iload 5, 2, []), (58, .iload 6, 2, []), (60, .iconst 2, 1, []), (61, .isub, 1, []), (62, .ishr, 1, []), (63, .iload 5, 2, []), (65, .iload 6, 2, []), (67, .iconst 1, 1, []), (68, .isub, 1, []), (69, .ishr, 1, []), (70, .isub, 1, []), (71, .iadd, 1, []), (72, .istore 4, 2, []), (74, .nop, 0, [2])],
  [(74, .iinc 6 1, 3, []), (77, .goto (-57), 3, [1])],
  [(80, .iload 4, 2, []), (82, .ireturn, 1, [0])]]
def bl_155 : List Nat := [0, 20, 74, 80]
-- 156: FavourTown$People.<init>()V
def T_156 : List (List pEnt) := [[(0, .aload_n 0, 1, []), (1, .invokespecial 3, 3, [0, 154]), (4, .aload_n 0, 1, []), (5, .bipush 12, 2, []), (7, .newarray .int, 2, []), (9, .putfield 9, 3, [0, 1, 0, 155, 0, 2]), (12, .aload_n 0, 1, []), (13, .bipush 12, 2, []), (15, .newarray .int, 2, []), (17, .putfield 15, 3, [1, 1, 0, 157, 0, 2]), (20, .aload_n 0, 1, []), (21, .bipush 12, 2, []), (23, .newarray .int, 2, []), (25, .putfield 18, 3, [2, 1, 0, 160, 0, 2]), (28, .aload_n 0, 1, []), (29, .bipush 12, 2, []), (31, .newarray .int, 2, []), (33, .putfield 21, 3, [3, 1, 0, 162, 0, 2]), (36, .aload_n 0, 1, []), (37, .bipush 12, 2, []), (39, .newarray .int, 2, []), (41, .putfield 24, 3, [4, 1, 0, 165, 0, 2]), (44, .return_, 1, [])]]
def bl_156 : List Nat := [0]
-- 157: FavourTown$People.become(LFavourTown$People;)V
def T_157 : List (List pEnt) := [[(0, .aload_n 0, 1, []), (1, .aload_n 1, 1, []), (2, .getfield 27, 3, [5, 0, 0, 168, 0, 2]), (5, .putfield 27, 3, [5, 0, 0, 168, 0, 2]), (8, .aload_n 1, 1, []), (9, .getfield 9, 3, [0, 1, 0, 155, 0, 2]), (12, .aload_n 0, 1, []), (13, .getfield 9, 3, [0, 1, 0, 155, 0, 2]), (16, .invokestatic 31, 3, [21, 2, 541, 0, 47]), (19, .aload_n 1, 1, []), (20, .getfield 15, 3, [1, 1, 0, 157, 0, 2]), (23, .aload_n 0, 1, []), (24, .getfield 15, 3, [1, 1, 0, 157, 0, 2]), (27, .invokestatic 31, 3, [21, 2, 541, 0, 47]), (30, .aload_n 1, 1, []), (31, .getfield 18, 3, [2, 1, 0, 160, 0, 2]), (34, .aload_n 0, 1, []), (35, .getfield 18, 3, [2, 1, 0, 160, 0, 2]), (38, .invokestatic 31, 3, [21, 2, 541, 0, 47]), (41, .aload_n 0, 1, []), (42, .aload_n 1, 1, []), (43, .invokevirtual 35, 3, [10, 1, 550, 0, 2, 158]), (46, .return_, 1, [])]]
def bl_157 : List Nat := [0]
-- 158: FavourTown$People.holdAs(LFavourTown$People;)V
def T_158 : List (List pEnt) := [[(0, .aload_n 1, 1, []), (1, .getfield 21, 3, [3, 1, 0, 162, 0, 2]), (4, .aload_n 0, 1, []), (5, .getfield 21, 3, [3, 1, 0, 162, 0, 2]), (8, .invokestatic 31, 3, [21, 2, 541, 0, 47]), (11, .aload_n 1, 1, []), (12, .getfield 24, 3, [4, 1, 0, 165, 0, 2]), (15, .aload_n 0, 1, []), (16, .getfield 24, 3, [4, 1, 0, 165, 0, 2]), (19, .invokestatic 31, 3, [21, 2, 541, 0, 47]), (22, .return_, 1, [])]]
def bl_158 : List Nat := [0]
-- 159: FavourTown$People.isThere(I)Z
def T_159 : List (List pEnt) := [[(0, .iload_n 1, 1, []), (1, .ifCond .lt 15, 3, [1]), (4, .iload_n 1, 1, []), (5, .aload_n 0, 1, []), (6, .getfield 27, 3, [5, 0, 0, 168, 0, 2]), (9, .if_icmp .ge 7, 3, [1]), (12, .iconst 1, 1, []), (13, .goto 4, 3, [2])],
  [(16, .iconst 0, 1, []), (17, .nop, 0, [2])],
  [(17, .ireturn, 1, [2])]]
def bl_159 : List Nat := [0, 16, 17]
-- 160: FavourTown$People.add(I)V
def T_160 : List (List pEnt) := [[(0, .aload_n 0, 1, []), (1, .getfield 9, 3, [0, 1, 0, 155, 0, 2]), (4, .aload_n 0, 1, []), (5, .getfield 27, 3, [5, 0, 0, 168, 0, 2]), (8, .iload_n 1, 1, []), (9, .invokestatic 39, 3, [21, 3, 903, 0, 45]), (12, .aload_n 0, 1, []), (13, .getfield 15, 3, [1, 1, 0, 157, 0, 2]), (16, .aload_n 0, 1, []), (17, .getfield 27, 3, [5, 0, 0, 168, 0, 2]), (20, .iconst (-1), 1, []), (21, .invokestatic 39, 3, [21, 3, 903, 0, 45]), (24, .aload_n 0, 1, []), (25, .getfield 18, 3, [2, 1, 0, 160, 0, 2]), (28, .aload_n 0, 1, []), (29, .getfield 27, 3, [5, 0, 0, 168, 0, 2]), (32, .iconst 0, 1, []), (33, .invokestatic 39, 3, [21, 3, 903, 0, 45]), (36, .aload_n 0, 1, []), (37, .getfield 21, 3, [3, 1, 0, 162, 0, 2]), (40, .aload_n 0, 1, []), (41, .getfield 27, 3, [5, 0, 0, 168, 0, 2]), (44, .iconst 0, 1, []), (45, .invokestatic 39, 3, [21, 3, 903, 0, 45]), (48, .aload_n 0, 1, []), (49, .getfield 24, 3, [4, 1, 0, 165, 0, 2]), (52, .aload_n 0, 1, []), (53, .getfield 27, 3, [5, 0, 0, 168, 0, 2]), (56, .iconst 0, 1, []), (57, .invokestatic 39, 3, [21, 3, 903, 0, 45]), (60, .aload_n 0, 1, []), (61, .dup, 1, []), (62, .getfield 27, 3, [5, 0, 0, 168, 0, 2]), (65, .iconst 1, 1, []), (66, .iadd, 1, []), (67, .putfield 27, 3, [5, 0, 0, 168, 0, 2]), (70, .return_, 1, [])]]
def bl_160 : List Nat := [0]
-- 161: FavourTown$People.makeNear(II)V
def T_161 : List (List pEnt) := [[(0, .aload_n 0, 1, []), (1, .getfield 18, 3, [2, 1, 0, 160, 0, 2]), (4, .iload_n 1, 1, []), (5, .aload_n 0, 1, []), (6, .getfield 18, 3, [2, 1, 0, 160, 0, 2]), (9, .iload_n 1, 1, []), (10, .invokestatic 43, 3, [21, 2, 709, 0, 44]), (13, .iconst 1, 1, []), (14, .iload_n 2, 1, []), (15, .ishl, 1, []), (16, .ior, 1, []), (17, .invokestatic 39, 3, [21, 3, 903, 0, 45]), (20, .aload_n 0, 1, []), (21, .getfield 18, 3, [2, 1, 0, 160, 0, 2]), (24, .iload_n 2, 1, []), (25, .aload_n 0, 1, []), (26, .getfield 18, 3, [2, 1, 0, 160, 0, 2]), (29, .iload_n 2, 1, []), (30, .invokestatic 43, 3, [21, 2, 709, 0, 44]), (33, .iconst 1, 1, []), (34, .iload_n 1, 1, []), (35, .ishl, 1, []), (36, .ior, 1, []), (37, .invokestatic 39, 3, [21, 3, 903, 0, 45]), (40, .return_, 1, [])]]
def bl_161 : List Nat := [0]
-- 162: FavourTown$People.nearPairs()I
def T_162 : List (List pEnt) := [[(0, .iconst 0, 1, []), (1, .istore_n 1, 1, []), (2, .iconst 0, 1, []), (3, .istore_n 2, 1, []), (4, .nop, 0, [1])],
  [(4, .iload_n 2, 1, []), (5, .aload_n 0, 1, []), (6, .getfield 27, 3, [5, 0, 0, 168, 0, 2]), (9, .if_icmp .ge 23, 3, [2]), (12, .iload_n 1, 1, []), (13, .aload_n 0, 1, []), (14, .getfield 18, 3, [2, 1, 0, 160, 0, 2]), (17, .iload_n 2, 1, []), (18, .invokestatic 43, 3, [21, 2, 709, 0, 44]), (21, .invokestatic 47, 3, [20, 1, 710, 0, 276]), (24, .iadd, 1, []), (25, .istore_n 1, 1, []), (26, .iinc 2 1, 3, []), (29, .goto (-25), 3, [1])],
  [(32, .iload_n 1, 1, []), (33, .iconst 2, 1, []), (34, .idiv, 1, []), (35, .ireturn, 1, [0])]]
def bl_162 : List Nat := [0, 4, 32]
-- 163: FavourTown$People.richTogether()I
def T_163 : List (List pEnt) := [[(0, .iconst 0, 1, []), (1, .istore_n 1, 1, []), (2, .iconst 0, 1, []), (3, .istore_n 2, 1, []), (4, .nop, 0, [1])],
  [(4, .iload_n 2, 1, []), (5, .aload_n 0, 1, []), (6, .getfield 27, 3, [5, 0, 0, 168, 0, 2]), (9, .if_icmp .ge 20, 3, [2]), (12, .iload_n 1, 1, []), (13, .aload_n 0, 1, []), (14, .getfield 21, 3, [3, 1, 0, 162, 0, 2]), (17, .iload_n 2, 1, []), (18, .invokestatic 43, 3, [21, 2, 709, 0, 44]), (21, .iadd, 1, []), (22, .istore_n 1, 1, []), (23, .iinc 2 1, 3, []), (26, .goto (-22), 3, [1])],
  [(29, .iload_n 1, 1, []), (30, .ireturn, 1, [0])]]
def bl_163 : List Nat := [0, 4, 29]
-- 164: FavourTown$People.richest()I
def T_164 : List (List pEnt) := [[(0, .iconst (-1), 1, []), (1, .istore_n 1, 1, []), (2, .iconst 0, 1, []), (3, .istore_n 2, 1, []), (4, .nop, 0, [1])],
  [(4, .iload_n 2, 1, []), (5, .aload_n 0, 1, []), (6, .getfield 27, 3, [5, 0, 0, 168, 0, 2]), (9, .if_icmp .ge 35, 3, [4]), (12, .iload_n 1, 1, []), (13, .iconst (-1), 1, []), (14, .if_icmp .eq 22, 3, [2]), (17, .aload_n 0, 1, []), (18, .getfield 21, 3, [3, 1, 0, 162, 0, 2]), (21, .iload_n 2, 1, []), (22, .invokestatic 43, 3, [21, 2, 709, 0, 44]), (25, .aload_n 0, 1, []), (26, .getfield 21, 3, [3, 1, 0, 162, 0, 2]), (29, .iload_n 1, 1, []), (30, .invokestatic 43, 3, [21, 2, 709, 0, 44]), (33, .if_icmp .le 5, 3, [3]), (36, .nop, 0, [2])],
  [(36, .iload_n 2, 1, []), (37, .istore_n 1, 1, []), (38, .nop, 0, [3])],
  [(38, .iinc 2 1, 3, []), (41, .goto (-37), 3, [1])],
  [(44, .iload_n 1, 1, []), (45, .ireturn, 1, [0])]]
def bl_164 : List Nat := [0, 4, 36, 38, 44]
-- 165: FavourTown$Played.<init>()V
def T_165 : List (List pEnt) := [[(0, .aload_n 0, 1, []), (1, .invokespecial 3, 3, [0, 459]), (4, .return_, 1, [])]]
def bl_165 : List Nat := [0]
-- 166: FavourTown$Played.run(LFavourTown$Town;II)V
def T_166 : List (List pEnt) := [[(0, .aload_n 0, 1, []), (1, .iload_n 2, 1, []), (2, .putfield 9, 3, [0, 0, 0, 460, 0, 3]), (5, .aload_n 0, 1, []), (6, .iconst 0, 1, []), (7, .putfield 15, 3, [1, 0, 0, 461, 0, 3]), (10, .aload_n 0, 1, []), (11, .iconst 0, 1, []), (12, .putfield 18, 3, [2, 0, 0, 463, 0, 3]), (15, .aload_n 0, 1, []), (16, .iconst 0, 1, []), (17, .putfield 21, 3, [3, 0, 0, 465, 0, 3]), (20, .iconst 0, 1, []), (21, .istore 4, 2, []), (23, .nop, 0, [1])],
  [(23, .iload 4, 2, []), (25, .iload_n 3, 1, []), (26, .if_icmp .ge 112, 3, [7]), (29, .iconst 0, 1, []), (30, .istore 5, 2, []), (32, .nop, 0, [2])],
  [(32, .iload 5, 2, []), (34, .aload_n 1, 1, []), (35, .getfield 24, 3, [0, 1, 1, 239, 0, 9]), (38, .getfield 30, 3, [5, 0, 1, 171, 0, 2]), (41, .if_icmp .ge 85, 3, [6]), (44, .aload_n 0, 1, []), (45, .invokevirtual 35, 3, [10, 0, 1455, 0, 3, 168]), (48, .iconst 1, 1, []), (49, .aload_n 1, 1, []), (50, .getfield 24, 3, [0, 1, 1, 239, 0, 9]), (53, .getfield 30, 3, [5, 0, 1, 171, 0, 2]), (56, .invokestatic 39, 3, [1, 1460]), (59, .irem, 1, []), (60, .istore 6, 2, []), (62, .iload 6, 2, []), (64, .iload 5, 2, []), (66, .if_icmp .eq 54, 3, [5]), (69, .aload_n 1, 1, []), (70, .getfield 45, 3, [1, 1, 1, 244, 0, 9]), (73, .getfield 49, 3, [7, 0, 1, 213, 0, 1]), (76, .istore 7, 2, []), (78, .aload_n 1, 1, []), (79, .iload 5, 2, []), (81, .iload 6, 2, []), (83, .aload_n 0, 1, []), (84, .invokevirtual 35, 3, [10, 0, 1455, 0, 3, 168]), (87, .bipush 9, 2, []), (89, .irem, 1, []), (90, .iconst 1, 1, []), (91, .iadd, 1, []), (92, .invokevirtual 52, 3, [10, 3, 1461, 0, 9, 238]), (95, .istore 8, 2, []), (97, .aload_n 0, 1, []), (98, .iload 8, 2, []), (100, .aload_n 1, 1, []), (101, .getfield 45, 3, [1, 1, 1, 244, 0, 9]), (104, .getfield 49, 3, [7, 0, 1, 213, 0, 1]), (107, .iload 7, 2, []), (109, .if_icmp .le 7, 3, [3]), (112, .iconst 1, 1, []), (113, .goto 4, 3, [4])],
  [(116, .iconst 0, 1, []), (117, .nop, 0, [4])],
  [(117, .invokevirtual 56, 3, [10, 2, 1462, 0, 3, 167]), (120, .nop, 0, [5])],
  [(120, .iinc 5 1, 3, []), (123, .goto (-91), 3, [2])],
  [(126, .aload_n 1, 1, []), (127, .iconst 1, 1, []), (128, .invokevirtual 60, 3, [10, 1, 1466, 0, 9, 234]), (131, .pop, 1, []), (132, .iinc 4 1, 3, []), (135, .goto (-112), 3, [1])],
  [(138, .return_, 1, [])]]
def bl_166 : List Nat := [0, 23, 32, 116, 117, 120, 126, 138]
-- 167: FavourTown$Played.tally(IZ)V
def T_167 : List (List pEnt) := [[(0, .iload_n 1, 1, []), (1, .iconst (-1), 1, []), (2, .if_icmp .ne 16, 3, [1]), (5, .aload_n 0, 1, []), (6, .dup, 1, []), (7, .getfield 21, 3, [3, 0, 0, 465, 0, 3]), (10, .iconst 1, 1, []), (11, .iadd, 1, []), (12, .putfield 21, 3, [3, 0, 0, 465, 0, 3]), (15, .goto 30, 3, [3])],
  [(18, .iload_n 2, 1, []), (19, .ifCond .eq 16, 3, [2]), (22, .aload_n 0, 1, []), (23, .dup, 1, []), (24, .getfield 18, 3, [2, 0, 0, 463, 0, 3]), (27, .iconst 1, 1, []), (28, .iadd, 1, []), (29, .putfield 18, 3, [2, 0, 0, 463, 0, 3]), (32, .goto 13, 3, [3])],
  [(35, .aload_n 0, 1, []), (36, .dup, 1, []), (37, .getfield 15, 3, [1, 0, 0, 461, 0, 3]), (40, .iconst 1, 1, []), (41, .iadd, 1, []), (42, .putfield 15, 3, [1, 0, 0, 461, 0, 3]), (45, .nop, 0, [3])],
  [(45, .return_, 1, [])]]
def bl_167 : List Nat := [0, 18, 35, 45]
-- 168: FavourTown$Played.drawn()I
def T_168 : List (List pEnt) := [[(0, .aload_n 0, 1, []), (1, .ldc 64, 2, [0, 1103515245, 0, 1459]), (3, .aload_n 0, 1, []), (4, .getfield 9, 3, [0, 0, 0, 460, 0, 3]), (7, .imul, 1, []), (8, .sipush 12345, 3, []), (11, .iadd, 1, []), (12, .putfield 9, 3, [0, 0, 0, 460, 0, 3]), (15, .aload_n 0, 1, []), (16, .getfield 9, 3, [0, 0, 0, 460, 0, 3]), (19, .bipush 16, 2, []), (21, .ishr, 1, []), (22, .sipush 32767, 3, []), (25, .iand, 1, []), (26, .ireturn, 1, [0])]]
def bl_168 : List Nat := [0]
-- 169: FavourTown$Ports.<init>()V
def T_169 : List (List pEnt) := [[(0, .aload_n 0, 1, []), (1, .invokespecial 3, 3, [0, 409]), (4, .aload_n 0, 1, []), (5, .sipush 144, 3, []), (8, .newarray .int, 2, []), (10, .putfield 9, 3, [0, 1, 0, 410, 0, 4]), (13, .aload_n 0, 1, []), (14, .bipush 12, 2, []), (16, .newarray .int, 2, []), (18, .putfield 15, 3, [1, 1, 0, 411, 0, 4]), (21, .aload_n 0, 1, []), (22, .bipush 12, 2, []), (24, .newarray .int, 2, []), (26, .putfield 18, 3, [2, 1, 0, 412, 0, 4]), (29, .aload_n 0, 1, []), (30, .bipush 12, 2, []), (32, .newarray .int, 2, []), (34, .putfield 21, 3, [3, 1, 0, 413, 0, 4]), (37, .return_, 1, [])]]
def bl_169 : List Nat := [0]
-- 170: FavourTown$Ports.open(LFavourTown$Town;)V
def T_170 : List (List pEnt) := [[(0, .aload_n 0, 1, []), (1, .aload_n 1, 1, []), (2, .getfield 24, 3, [0, 1, 1, 237, 0, 9]), (5, .getfield 30, 3, [5, 0, 1, 169, 0, 2]), (8, .bipush 12, 2, []), (10, .invokestatic 36, 3, [2, 1289]), (13, .putfield 42, 3, [4, 0, 0, 414, 0, 4]), (16, .iconst 0, 1, []), (17, .istore_n 2, 1, []), (18, .nop, 0, [1])],
  [(18, .iload_n 2, 1, []), (19, .aload_n 0, 1, []), (20, .getfield 42, 3, [4, 0, 0, 414, 0, 4]), (23, .if_icmp .ge 52, 3, [6]), (26, .iconst 0, 1, []), (27, .istore_n 3, 1, []), (28, .nop, 0, [2])],
  [(28, .iload_n 3, 1, []), (29, .aload_n 0, 1, []), (30, .getfield 42, 3, [4, 0, 0, 414, 0, 4]), (33, .if_icmp .ge 36, 3, [5]), (36, .aload_n 0, 1, []), (37, .getfield 9, 3, [0, 1, 0, 410, 0, 4]), (40, .iload_n 2, 1, []), (41, .iload_n 3, 1, []), (42, .invokestatic 43, 3, [20, 2, 1290, 0, 171]), (45, .iload_n 2, 1, []), (46, .iload_n 3, 1, []), (47, .if_icmp .ne 7, 3, [3]), (50, .iconst 0, 1, []), (51, .goto 9, 3, [4])],
  [(54, .aload_n 1, 1, []), (55, .iload_n 2, 1, []), (56, .iload_n 3, 1, []), (57, .invokevirtual 46, 3, [10, 2, 1293, 0, 9, 240]), (60, .nop, 0, [4])],
  [(60, .invokestatic 49, 3, [21, 3, 1294, 0, 45]), (63, .iinc 3 1, 3, []), (66, .goto (-38), 3, [2])],
  [(69, .iinc 2 1, 3, []), (72, .goto (-54), 3, [1])],
  [(75, .return_, 1, [])]]
def bl_170 : List Nat := [0, 18, 28, 54, 60, 69, 75]
-- 171: FavourTown$Ports.place(II)I
def T_171 : List (List pEnt) := [[(0, .iload_n 0, 1, []), (1, .bipush 12, 2, []), (3, .imul, 1, []), (4, .iload_n 1, 1, []), (5, .iadd, 1, []), (6, .ireturn, 1, [0])]]
def bl_171 : List Nat := [0]
-- 172: FavourTown$Ports.greatestFlow(II)I
def T_172 : List (List pEnt) := [[(0, .iconst 0, 1, []), (1, .istore_n 3, 1, []), (2, .iconst 0, 1, []), (3, .istore 4, 2, []), (5, .nop, 0, [1])],
  [(5, .iload 4, 2, []), (7, .ldc 53, 2, [0, 100000, 0, 1299]), (9, .if_icmp .ge 27, 3, [2]), (12, .aload_n 0, 1, []), (13, .iload_n 1, 1, []), (14, .iload_n 2, 1, []), (15, .invokevirtual 54, 3, [10, 2, 1300, 0, 4, 173]), (18, .ifCond .eq 18, 3, [2]), (21, .iload_n 3, 1, []), (22, .aload_n 0, 1, []), (23, .iload_n 1, 1, []), (24, .iload_n 2, 1, []), (25, .invokevirtual 58, 3, [10, 2, 1306, 0, 4, 174]), (28, .iadd, 1, []), (29, .istore_n 3, 1, []), (30, .iinc 4 1, 3, []), (33, .goto (-28), 3, [1])],
  [(36, .iload_n 3, 1, []), (37, .ireturn, 1, [0])]]
def bl_172 : List Nat := [0, 5, 36]
-- 173: FavourTown$Ports.findWay(II)Z
def T_173 : List (List pEnt) := [[(0, .aload_n 0, 1, []), (1, .iconst 1, 1, []), (2, .iload_n 1, 1, []), (3, .ishl, 1, []), (4, .putfield 61, 3, [5, 0, 0, 415, 0, 4]), (7, .aload_n 0, 1, []), (8, .getfield 15, 3, [1, 1, 0, 411, 0, 4]), (11, .iconst 0, 1, []), (12, .iload_n 1, 1, []), (13, .invokestatic 49, 3, [21, 3, 1294, 0, 45]), (16, .iconst 1, 1, []), (17, .istore_n 3, 1, []), (18, .iconst 0, 1, []), (19, .istore 4, 2, []), (21, .nop, 0, [1])],
  [(21, .iload 4, 2, []), (23, .iload_n 3, 1, []), (24, .if_icmp .ge 113, 3, [5]), (27, .iload 4, 2, []), (29, .aload_n 0, 1, []), (30, .getfield 42, 3, [4, 0, 0, 414, 0, 4]), (33, .if_icmp .ge 104, 3, [5]), (36, .aload_n 0, 1, []), (37, .getfield 15, 3, [1, 1, 0, 411, 0, 4]), (40, .iload 4, 2, []), (42, .invokestatic 64, 3, [21, 2, 1304, 0, 44]), (45, .istore 5, 2, []), (47, .iconst 0, 1, []), (48, .istore 6, 2, []), (50, .nop, 0, [2])],
  [(50, .iload 6, 2, []), (52, .aload_n 0, 1, []), (53, .getfield 42, 3, [4, 0, 0, 414, 0, 4]), (56, .if_icmp .ge 75, 3, [4]), (59, .aload_n 0, 1, []), (60, .getfield 61, 3, [5, 0, 0, 415, 0, 4]), (63, .iload 6, 2, []), (65, .invokestatic 68, 3, [21, 2, 1305, 0, 48]), (68, .ifCond .ne 57, 3, [3]), (71, .aload_n 0, 1, []), (72, .getfield 9, 3, [0, 1, 0, 410, 0, 4]), (75, .iload 5, 2, []), (77, .iload 6, 2, []), (79, .invokestatic 43, 3, [20, 2, 1290, 0, 171]), (82, .invokestatic 64, 3, [21, 2, 1304, 0, 44]), (85, .ifCond .le 40, 3, [3]), (88, .aload_n 0, 1, []), (89, .dup, 1, []), (90, .getfield 61, 3, [5, 0, 0, 415, 0, 4]), (93, .iconst 1, 1, []), (94, .iload 6, 2, []), (96, .ishl, 1, []), (97, .ior, 1, []), (98, .putfield 61, 3, [5, 0, 0, 415, 0, 4]), (101, .aload_n 0, 1, []), (102, .getfield 18, 3, [2, 1, 0, 412, 0, 4]), (105, .iload 6, 2, []), (107, .iload 5, 2, []), (109, .invokestatic 49, 3, [21, 3, 1294, 0, 45]), (112, .aload_n 0, 1, []), (113, .getfield 15, 3, [1, 1, 0, 411, 0, 4]), (116, .iload_n 3, 1, []), (117, .iload 6, 2, []), (119, .invokestatic 49, 3, [21, 3, 1294, 0, 45]), (122, .iinc 3 1, 3, []), (125, .nop, 0, [3])],
  [(125, .iinc 6 1, 3, []), (128, .goto (-78), 3, [2])],
  [(131, .iinc 4 1, 3, []), (134, .goto (-113), 3, [1])],
  [(137, .aload_n 0, 1, []), (138, .getfield 61, 3, [5, 0, 0, 415, 0, 4]), (141, .iload_n 2, 1, []), (142, .invokestatic 68, 3, [21, 2, 1305, 0, 48]), (145, .ireturn, 1, [2])]]
def bl_173 : List Nat := [0, 21, 50, 125, 131, 137]
-- 174: FavourTown$Ports.carry(II)I
def T_174 : List (List pEnt) := [[(0, .ldc 71, 2, [0, 1000000, 0, 1310]), (2, .istore_n 3, 1, []), (3, .iload_n 2, 1, []), (4, .istore 4, 2, []), (6, .iconst 0, 1, []), (7, .istore 5, 2, []), (9, .nop, 0, [1])],
  [(9, .iload 5, 2, []), (11, .aload_n 0, 1, []), (12, .getfield 42, 3, [4, 0, 0, 414, 0, 4]), (15, .if_icmp .ge 52, 3, [2]), (18, .iload 4, 2, []), (20, .iload_n 1, 1, []), (21, .if_icmp .eq 46, 3, [2]), (24, .iload_n 3, 1, []), (25, .aload_n 0, 1, []), (26, .getfield 9, 3, [0, 1, 0, 410, 0, 4]), (29, .aload_n 0, 1, []), (30, .getfield 18, 3, [2, 1, 0, 412, 0, 4]), (33, .iload 4, 2, []), (35, .invokestatic 64, 3, [21, 2, 1304, 0, 44]), (38, .iload 4, 2, []), (40, .invokestatic 43, 3, [20, 2, 1290, 0, 171]), (43, .invokestatic 64, 3, [21, 2, 1304, 0, 44]), (46, .invokestatic 36, 3, [2, 1289]), (49, .istore_n 3, 1, []), (50, .aload_n 0, 1, []), (51, .getfield 18, 3, [2, 1, 0, 412, 0, 4]), (54, .iload 4, 2, []), (56, .invokestatic 64, 3, [21, 2, 1304, 0, 44]), (59, .istore 4, 2, []), (61, .iinc 5 1, 3, []), (64, .goto (-55), 3, [1])],
  [(67, .iload_n 2, 1, []), (68, .istore 4, 2, []), (70, .iconst 0, 1, []), (71, .istore 5, 2, []), (73, .nop, 0, [3])],
  [(73, .iload 5, 2, []), (75, .aload_n 0, 1, []), (76, .getfield 42, 3, [4, 0, 0, 414, 0, 4]), (79, .if_icmp .ge 61, 3, [4]), (82, .iload 4, 2, []), (84, .iload_n 1, 1, []), (85, .if_icmp .eq 55, 3, [4]), (88, .aload_n 0, 1, []), (89, .getfield 18, 3, [2, 1, 0, 412, 0, 4]), (92, .iload 4, 2, []), (94, .invokestatic 64, 3, [21, 2, 1304, 0, 44]), (97, .istore 6, 2, []), (99, .aload_n 0, 1, []), (100, .getfield 9, 3, [0, 1, 0, 410, 0, 4]), (103, .iload 6, 2, []), (105, .iload 4, 2, []), (107, .invokestatic 43, 3, [20, 2, 1290, 0, 171]), (110, .iload_n 3, 1, []), (111, .ineg, 1, []), (112, .invokestatic 72, 3, [21, 3, 1311, 0, 46]), (115, .aload_n 0, 1, []), (116, .getfield 9, 3, [0, 1, 0, 410, 0, 4]), (119, .iload 4, 2, []), (121, .iload 6, 2, []), (123, .invokestatic 43, 3, [20, 2, 1290, 0, 171]), (126, .iload_n 3, 1, []), (127, .invokestatic 72, 3, [21, 3, 1311, 0, 46]), (130, .iload 6, 2, []), (132, .istore 4, 2, []), (134, .iinc 5 1, 3, []), (137, .goto (-64), 3, [3])],
  [(140, .iload_n 3, 1, []), (141, .ireturn, 1, [0])]]
def bl_174 : List Nat := [0, 9, 67, 73, 140]
-- 175: FavourTown$Ports.countSteps(II)V
def T_175 : List (List pEnt) := [[(0, .aload_n 0, 1, []), (1, .getfield 21, 3, [3, 1, 0, 413, 0, 4]), (4, .iconst (-1), 1, []), (5, .invokestatic 75, 3, [20, 2, 1334, 0, 277]), (8, .aload_n 0, 1, []), (9, .getfield 21, 3, [3, 1, 0, 413, 0, 4]), (12, .iload_n 1, 1, []), (13, .iconst 0, 1, []), (14, .invokestatic 49, 3, [21, 3, 1294, 0, 45]), (17, .aload_n 0, 1, []), (18, .getfield 15, 3, [1, 1, 0, 411, 0, 4]), (21, .iconst 0, 1, []), (22, .iload_n 1, 1, []), (23, .invokestatic 49, 3, [21, 3, 1294, 0, 45]), (26, .iconst 1, 1, []), (27, .istore_n 3, 1, []), (28, .iconst 0, 1, []), (29, .istore 4, 2, []), (31, .nop, 0, [1])],
  [(31, .iload 4, 2, []), (33, .iload_n 3, 1, []), (34, .if_icmp .ge 111, 3, [5]), (37, .iload 4, 2, []), (39, .aload_n 0, 1, []), (40, .getfield 42, 3, [4, 0, 0, 414, 0, 4]), (43, .if_icmp .ge 102, 3, [5]), (46, .aload_n 0, 1, []), (47, .getfield 15, 3, [1, 1, 0, 411, 0, 4]), (50, .iload 4, 2, []), (52, .invokestatic 64, 3, [21, 2, 1304, 0, 44]), (55, .istore 5, 2, []), (57, .iconst 0, 1, []), (58, .istore 6, 2, []), (60, .nop, 0, [2])],
  [(60, .iload 6, 2, []), (62, .aload_n 0, 1, []), (63, .getfield 42, 3, [4, 0, 0, 414, 0, 4]), (66, .if_icmp .ge 73, 3, [4]), (69, .aload_n 0, 1, []), (70, .getfield 21, 3, [3, 1, 0, 413, 0, 4]), (73, .iload 6, 2, []), (75, .invokestatic 64, 3, [21, 2, 1304, 0, 44]), (78, .iconst (-1), 1, []), (79, .if_icmp .ne 54, 3, [3]), (82, .aload_n 0, 1, []), (83, .getfield 9, 3, [0, 1, 0, 410, 0, 4]), (86, .iload 6, 2, []), (88, .iload 5, 2, []), (90, .invokestatic 43, 3, [20, 2, 1290, 0, 171]), (93, .invokestatic 64, 3, [21, 2, 1304, 0, 44]), (96, .iload_n 2, 1, []), (97, .if_icmp .lt 36, 3, [3]), (100, .aload_n 0, 1, []), (101, .getfield 21, 3, [3, 1, 0, 413, 0, 4]), (104, .iload 6, 2, []), (106, .aload_n 0, 1, []), (107, .getfield 21, 3, [3, 1, 0, 413, 0, 4]), (110, .iload 5, 2, []), (112, .invokestatic 64, 3, [21, 2, 1304, 0, 44]), (115, .iconst 1, 1, []), (116, .iadd, 1, []), (117, .invokestatic 49, 3, [21, 3, 1294, 0, 45]), (120, .aload_n 0, 1, []), (121, .getfield 15, 3, [1, 1, 0, 411, 0, 4]), (124, .iload_n 3, 1, []), (125, .iload 6, 2, []), (127, .invokestatic 49, 3, [21, 3, 1294, 0, 45]), (130, .iinc 3 1, 3, []), (133, .nop, 0, [3])],
  [(133, .iinc 6 1, 3, []), (136, .goto (-76), 3, [2])],
  [(139, .iinc 4 1, 3, []), (142, .goto (-111), 3, [1])],
  [(145, .return_, 1, [])]]
def bl_175 : List Nat := [0, 31, 60, 133, 139, 145]
-- 176: FavourTown$Ports.stepsFrom(I)I
def T_176 : List (List pEnt) := [[(0, .aload_n 0, 1, []), (1, .getfield 21, 3, [3, 1, 0, 413, 0, 4]), (4, .iload_n 1, 1, []), (5, .invokestatic 64, 3, [21, 2, 1304, 0, 44]), (8, .ireturn, 1, [0])]]
def bl_176 : List Nat := [0]
-- 177: FavourTown$Ports.onChain(III)I
def T_177 : List (List pEnt) := [[(0, .iload_n 3, 1, []), (1, .aload_n 0, 1, []), (2, .iload_n 1, 1, []), (3, .invokevirtual 81, 3, [10, 1, 1345, 0, 4, 176]), (6, .if_icmp .le 5, 3, [1]), (9, .iconst (-1), 1, []), (10, .ireturn, 1, [0])],
  [(11, .iload_n 1, 1, []), (12, .istore 4, 2, []), (14, .iconst 0, 1, []), (15, .istore 5, 2, []), (17, .nop, 0, [2])],
  [(17, .iload 5, 2, []), (19, .iload_n 3, 1, []), (20, .if_icmp .ge 27, 3, [3]), (23, .iload 5, 2, []), (25, .aload_n 0, 1, []), (26, .getfield 42, 3, [4, 0, 0, 414, 0, 4]), (29, .if_icmp .ge 18, 3, [3]), (32, .aload_n 0, 1, []), (33, .iload 4, 2, []), (35, .iload_n 2, 1, []), (36, .invokevirtual 85, 3, [10, 2, 1346, 0, 4, 178]), (39, .istore 4, 2, []), (41, .iinc 5 1, 3, []), (44, .goto (-27), 3, [2])],
  [(47, .iload 4, 2, []), (49, .ireturn, 1, [0])]]
def bl_177 : List Nat := [0, 11, 17, 47]
-- 178: FavourTown$Ports.nextOnChain(II)I
def T_178 : List (List pEnt) := [[(0, .iconst 0, 1, []), (1, .istore_n 3, 1, []), (2, .nop, 0, [1])],
  [(2, .iload_n 3, 1, []), (3, .aload_n 0, 1, []), (4, .getfield 42, 3, [4, 0, 0, 414, 0, 4]), (7, .if_icmp .ge 72, 3, [5]), (10, .aload_n 0, 1, []), (11, .getfield 21, 3, [3, 1, 0, 413, 0, 4]), (14, .iload_n 3, 1, []), (15, .invokestatic 64, 3, [21, 2, 1304, 0, 44]), (18, .iconst (-1), 1, []), (19, .if_icmp .eq 28, 3, [2]), (22, .aload_n 0, 1, []), (23, .getfield 21, 3, [3, 1, 0, 413, 0, 4]), (26, .iload_n 3, 1, []), (27, .invokestatic 64, 3, [21, 2, 1304, 0, 44]), (30, .aload_n 0, 1, []), (31, .getfield 21, 3, [3, 1, 0, 413, 0, 4]), (34, .iload_n 1, 1, []), (35, .invokestatic 64, 3, [21, 2, 1304, 0, 44]), (38, .iconst 1, 1, []), (39, .isub, 1, []), (40, .if_icmp .ne 7, 3, [2]), (43, .iconst 1, 1, []), (44, .goto 4, 3, [3])],
  [(47, .iconst 0, 1, []), (48, .nop, 0, [3])],
  [(48, .istore 4, 2, []), (50, .iload 4, 2, []), (52, .ifCond .eq 21, 3, [4]), (55, .aload_n 0, 1, []), (56, .getfield 9, 3, [0, 1, 0, 410, 0, 4]), (59, .iload_n 1, 1, []), (60, .iload_n 3, 1, []), (61, .invokestatic 43, 3, [20, 2, 1290, 0, 171]), (64, .invokestatic 64, 3, [21, 2, 1304, 0, 44]), (67, .iload_n 2, 1, []), (68, .if_icmp .lt 5, 3, [4]), (71, .iload_n 3, 1, []), (72, .ireturn, 1, [0])],
  [(73, .iinc 3 1, 3, []), (76, .goto (-74), 3, [1])],
  [(79, .iconst (-1), 1, []), (80, .ireturn, 1, [0])]]
def bl_178 : List Nat := [0, 2, 47, 48, 73, 79]
-- 179: FavourTown$Reader.<init>([ILjava/lang/String;I)V
def T_179 : List (List pEnt) := [[(0, .aload_n 0, 1, []), (1, .invokespecial 3, 3, [0, 313]), (4, .aload_n 0, 1, []), (5, .sipush 401, 3, []), (8, .newarray .int, 2, []), (10, .putfield 11, 3, [3, 1, 0, 325, 0, 8, 10]), (13, .aload_n 0, 1, []), (14, .sipush 401, 3, []), (17, .newarray .int, 2, []), (19, .putfield 17, 3, [4, 1, 0, 326, 0, 8, 10]), (22, .aload_n 0, 1, []), (23, .aload_n 1, 1, []), (24, .putfield 20, 3, [0, 1, 0, 322, 0, 8, 10]), (27, .aload_n 0, 1, []), (28, .aload_n 2, 1, []), (29, .putfield 23, 3, [1, 1, 0, 323, 0, 8, 10]), (32, .aload_n 0, 1, []), (33, .iload_n 3, 1, []), (34, .putfield 27, 3, [2, 0, 0, 324, 0, 8, 10]), (37, .aload_n 0, 1, []), (38, .iconst (-1), 1, []), (39, .putfield 31, 3, [9, 0, 0, 337, 0, 8, 10]), (42, .return_, 1, [])]]
def bl_179 : List Nat := [0]
-- 180: FavourTown$Reader.read(I)Z
def T_180 : List (List pEnt) := [[(0, .aload_n 0, 1, []), (1, .iconst 0, 1, []), (2, .iload_n 1, 1, []), (3, .sipush 400, 3, []), (6, .invokestatic 34, 3, [2, 730]), (9, .invokestatic 40, 3, [1, 731]), (12, .putfield 43, 3, [5, 0, 0, 327, 0, 8, 10]), (15, .aload_n 0, 1, []), (16, .iconst (-1), 1, []), (17, .putfield 31, 3, [9, 0, 0, 337, 0, 8, 10]), (20, .aload_n 0, 1, []), (21, .invokevirtual 46, 3, [17, 0, 734, 1956, 8, 181, 10, 181]), (24, .aload_n 0, 1, []), (25, .getfield 49, 3, [7, 0, 0, 331, 0, 8, 10]), (28, .sipush 3000, 3, []), (31, .if_icmp .ne 5, 3, [1]), (34, .iconst 1, 1, []), (35, .ireturn, 1, [2])],
  [(36, .iconst 0, 1, []), (37, .istore_n 2, 1, []), (38, .nop, 0, [2])],
  [(38, .iload_n 2, 1, []), (39, .aload_n 0, 1, []), (40, .getfield 27, 3, [2, 0, 0, 324, 0, 8, 10]), (43, .if_icmp .ge 42, 3, [6]), (46, .aload_n 0, 1, []), (47, .invokevirtual 52, 3, [18, 0, 803, 805, 8, 208, 10, 242]), (50, .ifCond .ne 5, 3, [3]), (53, .iconst 0, 1, []), (54, .ireturn, 1, [2])],
  [(55, .aload_n 0, 1, []), (56, .getfield 49, 3, [7, 0, 0, 331, 0, 8, 10]), (59, .sipush 3000, 3, []), (62, .if_icmp .ne 5, 3, [4]), (65, .iconst 1, 1, []), (66, .ireturn, 1, [2])],
  [(67, .aload_n 0, 1, []), (68, .sipush 2059, 3, []), (71, .invokevirtual 56, 3, [17, 1, 942, 1966, 8, 187, 10, 187]), (74, .ifCond .ne 5, 3, [5]), (77, .iconst 0, 1, []), (78, .ireturn, 1, [2])],
  [(79, .iinc 2 1, 3, []), (82, .goto (-44), 3, [2])],
  [(85, .aload_n 0, 1, []), (86, .invokevirtual 60, 3, [17, 0, 843, 1960, 8, 189, 10, 189]), (89, .ireturn, 1, [2])]]
def bl_180 : List Nat := [0, 36, 38, 55, 67, 79, 85]
-- 181: FavourTown$Reader.cutUp()V
def T_181 : List (List pEnt) := [[(0, .iconst 0, 1, []), (1, .istore_n 1, 1, []), (2, .iconst 0, 1, []), (3, .istore_n 2, 1, []), (4, .iconst 0, 1, []), (5, .istore_n 3, 1, []), (6, .nop, 0, [1])],
  [(6, .iload_n 3, 1, []), (7, .aload_n 0, 1, []), (8, .getfield 43, 3, [5, 0, 0, 327, 0, 8, 10]), (11, .if_icmp .ge 69, 3, [4]), (14, .aload_n 0, 1, []), (15, .getfield 20, 3, [0, 1, 0, 322, 0, 8, 10]), (18, .iload_n 3, 1, []), (19, .invokestatic 63, 3, [21, 2, 738, 0, 44]), (22, .invokestatic 67, 3, [20, 1, 739, 0, 182]), (25, .istore 4, 2, []), (27, .iload 4, 2, []), (29, .ifCond .eq 42, 3, [3]), (32, .iload 4, 2, []), (34, .iconst 3, 1, []), (35, .if_icmp .eq 9, 3, [2]), (38, .iload 4, 2, []), (40, .iload_n 2, 1, []), (41, .if_icmp .eq 30, 3, [3]), (44, .nop, 0, [2])],
  [(44, .aload_n 0, 1, []), (45, .getfield 11, 3, [3, 1, 0, 325, 0, 8, 10]), (48, .iload_n 1, 1, []), (49, .aload_n 0, 1, []), (50, .iload_n 3, 1, []), (51, .iload 4, 2, []), (53, .invokevirtual 71, 3, [17, 2, 742, 1957, 8, 183, 10, 183]), (56, .invokestatic 74, 3, [21, 3, 802, 0, 45]), (59, .aload_n 0, 1, []), (60, .getfield 17, 3, [4, 1, 0, 326, 0, 8, 10]), (63, .iload_n 1, 1, []), (64, .iload_n 3, 1, []), (65, .invokestatic 74, 3, [21, 3, 802, 0, 45]), (68, .iinc 1 1, 3, []), (71, .nop, 0, [3])],
  [(71, .iload 4, 2, []), (73, .istore_n 2, 1, []), (74, .iinc 3 1, 3, []), (77, .goto (-71), 3, [1])],
  [(80, .aload_n 0, 1, []), (81, .getfield 11, 3, [3, 1, 0, 325, 0, 8, 10]), (84, .iload_n 1, 1, []), (85, .sipush 3000, 3, []), (88, .invokestatic 74, 3, [21, 3, 802, 0, 45]), (91, .aload_n 0, 1, []), (92, .getfield 17, 3, [4, 1, 0, 326, 0, 8, 10]), (95, .iload_n 1, 1, []), (96, .aload_n 0, 1, []), (97, .getfield 43, 3, [5, 0, 0, 327, 0, 8, 10]), (100, .invokestatic 74, 3, [21, 3, 802, 0, 45]), (103, .aload_n 0, 1, []), (104, .iconst 0, 1, []), (105, .putfield 78, 3, [6, 0, 0, 328, 0, 8, 10]), (108, .aload_n 0, 1, []), (109, .aload_n 0, 1, []), (110, .getfield 11, 3, [3, 1, 0, 325, 0, 8, 10]), (113, .iconst 0, 1, []), (114, .invokestatic 63, 3, [21, 2, 738, 0, 44]), (117, .putfield 49, 3, [7, 0, 0, 331, 0, 8, 10]), (120, .return_, 1, [])]]
def bl_181 : List Nat := [0, 6, 44, 71, 80]
-- 182: FavourTown$Reader.kindOf(I)I
def T_182 : List (List pEnt) := [[(0, .iload_n 0, 1, []), (1, .bipush 97, 2, []), (3, .if_icmp .lt 11, 3, [1]), (6, .iload_n 0, 1, []), (7, .bipush 122, 2, []), (9, .if_icmp .gt 5, 3, [1]), (12, .iconst 1, 1, []), (13, .ireturn, 1, [0])],
  [(14, .iload_n 0, 1, []), (15, .bipush 48, 2, []), (17, .if_icmp .lt 11, 3, [2]), (20, .iload_n 0, 1, []), (21, .bipush 57, 2, []), (23, .if_icmp .gt 5, 3, [2]), (26, .iconst 2, 1, []), (27, .ireturn, 1, [0])],
  [(28, .iload_n 0, 1, []), (29, .bipush 32, 2, []), (31, .if_icmp .ne 7, 3, [3]), (34, .iconst 0, 1, []), (35, .goto 4, 3, [4])],
  [(38, .iconst 3, 1, []), (39, .nop, 0, [4])],
  [(39, .ireturn, 1, [0])]]
def bl_182 : List Nat := [0, 14, 28, 38, 39]
-- 183: FavourTown$Reader.thingAt(II)I
def T_183 : List (List pEnt) := [[(0, .iload_n 2, 1, []), (1, .iconst 3, 1, []), (2, .if_icmp .ne 16, 3, [1]), (5, .sipush 2000, 3, []), (8, .aload_n 0, 1, []), (9, .getfield 20, 3, [0, 1, 0, 322, 0, 8, 10]), (12, .iload_n 1, 1, []), (13, .invokestatic 63, 3, [21, 2, 738, 0, 44]), (16, .iadd, 1, []), (17, .ireturn, 1, [0])],
  [(18, .iload_n 1, 1, []), (19, .istore_n 3, 1, []), (20, .iload_n 1, 1, []), (21, .istore 4, 2, []), (23, .nop, 0, [2])],
  [(23, .iload 4, 2, []), (25, .aload_n 0, 1, []), (26, .getfield 43, 3, [5, 0, 0, 327, 0, 8, 10]), (29, .if_icmp .ge 30, 3, [3]), (32, .aload_n 0, 1, []), (33, .getfield 20, 3, [0, 1, 0, 322, 0, 8, 10]), (36, .iload 4, 2, []), (38, .invokestatic 63, 3, [21, 2, 738, 0, 44]), (41, .invokestatic 67, 3, [20, 1, 739, 0, 182]), (44, .iload_n 2, 1, []), (45, .if_icmp .ne 14, 3, [3]), (48, .iload 4, 2, []), (50, .iconst 1, 1, []), (51, .iadd, 1, []), (52, .istore_n 3, 1, []), (53, .iinc 4 1, 3, []), (56, .goto (-33), 3, [2])],
  [(59, .iload_n 2, 1, []), (60, .iconst 1, 1, []), (61, .if_icmp .ne 14, 3, [4]), (64, .aload_n 0, 1, []), (65, .iload_n 1, 1, []), (66, .iload_n 3, 1, []), (67, .iload_n 1, 1, []), (68, .isub, 1, []), (69, .invokevirtual 81, 3, [17, 2, 746, 1958, 8, 185, 10, 185]), (72, .goto 11, 3, [5])],
  [(75, .aload_n 0, 1, []), (76, .iload_n 1, 1, []), (77, .iload_n 3, 1, []), (78, .iload_n 1, 1, []), (79, .isub, 1, []), (80, .invokevirtual 84, 3, [17, 2, 798, 1959, 8, 184, 10, 184]), (83, .nop, 0, [5])],
  [(83, .ireturn, 1, [0])]]
def bl_183 : List Nat := [0, 18, 23, 59, 75, 83]
-- 184: FavourTown$Reader.numberIn(II)I
def T_184 : List (List pEnt) := [[(0, .iload_n 2, 1, []), (1, .iconst 3, 1, []), (2, .if_icmp .le 7, 3, [1]), (5, .sipush 3001, 3, []), (8, .ireturn, 1, [0])],
  [(9, .iconst 0, 1, []), (10, .istore_n 3, 1, []), (11, .iconst 0, 1, []), (12, .istore 4, 2, []), (14, .nop, 0, [2])],
  [(14, .iload 4, 2, []), (16, .iload_n 2, 1, []), (17, .if_icmp .ge 29, 3, [3]), (20, .iload_n 3, 1, []), (21, .bipush 10, 2, []), (23, .imul, 1, []), (24, .aload_n 0, 1, []), (25, .getfield 20, 3, [0, 1, 0, 322, 0, 8, 10]), (28, .iload_n 1, 1, []), (29, .iload 4, 2, []), (31, .iadd, 1, []), (32, .invokestatic 63, 3, [21, 2, 738, 0, 44]), (35, .iadd, 1, []), (36, .bipush 48, 2, []), (38, .isub, 1, []), (39, .istore_n 3, 1, []), (40, .iinc 4 1, 3, []), (43, .goto (-29), 3, [2])],
  [(46, .iload_n 3, 1, []), (47, .ireturn, 1, [0])]]
def bl_184 : List Nat := [0, 9, 14, 46]
-- 185: FavourTown$Reader.wordIn(II)I
def T_185 : List (List pEnt) := [[(0, .sipush 1000, 3, []), (3, .istore_n 3, 1, []), (4, .iconst 0, 1, []), (5, .istore 4, 2, []), (7, .iconst 0, 1, []), (8, .istore 5, 2, []), (10, .nop, 0, [1])],
  [(10, .iload 5, 2, []), (12, .aload_n 0, 1, []), (13, .getfield 23, 3, [1, 1, 0, 323, 0, 8, 10]), (16, .invokevirtual 87, 3, [19, 0, 750, 0, 104, 280]), (19, .if_icmp .gt 110, 3, [11]), (22, .iload 5, 2, []), (24, .aload_n 0, 1, []), (25, .getfield 23, 3, [1, 1, 0, 323, 0, 8, 10]), (28, .invokevirtual 87, 3, [19, 0, 750, 0, 104, 280]), (31, .if_icmp .ge 15, 3, [2]), (34, .aload_n 0, 1, []), (35, .getfield 23, 3, [1, 1, 0, 323, 0, 8, 10]), (38, .iload 5, 2, []), (40, .invokevirtual 92, 3, [19, 1, 760, 0, 104, 281]), (43, .goto 5, 3, [3])],
  [(46, .bipush 32, 2, []), (48, .nop, 0, [3])],
  [(48, .istore 6, 2, []), (50, .iload 6, 2, []), (52, .bipush 32, 2, []), (54, .if_icmp .ne 20, 3, [5]), (57, .iload 4, 2, []), (59, .iload_n 2, 1, []), (60, .if_icmp .ne 5, 3, [4]), (63, .iload_n 3, 1, []), (64, .ireturn, 1, [0])],
  [(65, .iinc 3 1, 3, []), (68, .iconst 0, 1, []), (69, .istore 4, 2, []), (71, .goto 52, 3, [10])],
  [(74, .iload 4, 2, []), (76, .ifCond .lt 29, 3, [6]), (79, .iload 4, 2, []), (81, .iload_n 2, 1, []), (82, .if_icmp .ge 23, 3, [6]), (85, .aload_n 0, 1, []), (86, .getfield 20, 3, [0, 1, 0, 322, 0, 8, 10]), (89, .iload_n 1, 1, []), (90, .iload 4, 2, []), (92, .iadd, 1, []), (93, .invokestatic 63, 3, [21, 2, 738, 0, 44]), (96, .iload 6, 2, []), (98, .if_icmp .ne 7, 3, [6]), (101, .iconst 1, 1, []), (102, .goto 4, 3, [7])],
  [(105, .iconst 0, 1, []), (106, .nop, 0, [7])],
  [(106, .istore 7, 2, []), (108, .iload 7, 2, []), (110, .ifCond .eq 10, 3, [8]), (113, .iload 4, 2, []), (115, .iconst 1, 1, []), (116, .iadd, 1, []), (117, .goto 4, 3, [9])],
  [(120, .iconst (-1), 1, []), (121, .nop, 0, [9])],
  [(121, .istore 4, 2, []), (123, .nop, 0, [10])],
  [(123, .iinc 5 1, 3, []), (126, .goto (-116), 3, [1])],
  [(129, .sipush 3001, 3, []), (132, .ireturn, 1, [0])]]
def bl_185 : List Nat := [0, 10, 46, 48, 65, 74, 105, 106, 120, 121, 123, 129]
-- 186: FavourTown$Reader.step()V
def T_186 : List (List pEnt) := [[(0, .aload_n 0, 1, []), (1, .dup, 1, []), (2, .getfield 78, 3, [6, 0, 0, 328, 0, 8, 10]), (5, .iconst 1, 1, []), (6, .iadd, 1, []), (7, .putfield 78, 3, [6, 0, 0, 328, 0, 8, 10]), (10, .aload_n 0, 1, []), (11, .aload_n 0, 1, []), (12, .getfield 78, 3, [6, 0, 0, 328, 0, 8, 10]), (15, .ifCond .lt 27, 3, [1]), (18, .aload_n 0, 1, []), (19, .getfield 78, 3, [6, 0, 0, 328, 0, 8, 10]), (22, .aload_n 0, 1, []), (23, .getfield 11, 3, [3, 1, 0, 325, 0, 8, 10]), (26, .arraylength, 1, []), (27, .if_icmp .ge 15, 3, [1]), (30, .aload_n 0, 1, []), (31, .getfield 11, 3, [3, 1, 0, 325, 0, 8, 10]), (34, .aload_n 0, 1, []), (35, .getfield 78, 3, [6, 0, 0, 328, 0, 8, 10]), (38, .iaload, 1, []), (39, .goto 6, 3, [2])],
  [(42, .sipush 3000, 3, []), (45, .nop, 0, [2])],
  [(45, .putfield 49, 3, [7, 0, 0, 331, 0, 8, 10]), (48, .return_, 1, [])]]
def bl_186 : List Nat := [0, 42, 45]
-- 187: FavourTown$Reader.follows(I)Z
def T_187 : List (List pEnt) := [[(0, .aload_n 0, 1, []), (1, .getfield 49, 3, [7, 0, 0, 331, 0, 8, 10]), (4, .iload_n 1, 1, []), (5, .if_icmp .eq 8, 3, [1]), (8, .aload_n 0, 1, []), (9, .invokevirtual 60, 3, [17, 0, 843, 1960, 8, 189, 10, 189]), (12, .ireturn, 1, [2])],
  [(13, .aload_n 0, 1, []), (14, .invokevirtual 96, 3, [17, 0, 844, 1963, 8, 186, 10, 186]), (17, .iconst 1, 1, []), (18, .ireturn, 1, [2])]]
def bl_187 : List Nat := [0, 13]
-- 188: FavourTown$Reader.number(II)Z
def T_188 : List (List pEnt) := [[(0, .aload_n 0, 1, []), (1, .getfield 49, 3, [7, 0, 0, 331, 0, 8, 10]), (4, .iload_n 1, 1, []), (5, .if_icmp .lt 11, 3, [1]), (8, .aload_n 0, 1, []), (9, .getfield 49, 3, [7, 0, 0, 331, 0, 8, 10]), (12, .iload_n 2, 1, []), (13, .if_icmp .le 8, 3, [2]), (16, .nop, 0, [1])],
  [(16, .aload_n 0, 1, []), (17, .invokevirtual 60, 3, [17, 0, 843, 1960, 8, 189, 10, 189]), (20, .ireturn, 1, [2])],
  [(21, .aload_n 0, 1, []), (22, .aload_n 0, 1, []), (23, .getfield 49, 3, [7, 0, 0, 331, 0, 8, 10]), (26, .putfield 99, 3, [8, 0, 0, 336, 0, 8, 10]), (29, .aload_n 0, 1, []), (30, .invokevirtual 96, 3, [17, 0, 844, 1963, 8, 186, 10, 186]), (33, .iconst 1, 1, []), (34, .ireturn, 1, [2])]]
def bl_188 : List Nat := [0, 16, 21]
-- 189: FavourTown$Reader.wrong()Z
def T_189 : List (List pEnt) := [[(0, .aload_n 0, 1, []), (1, .aload_n 0, 1, []), (2, .getfield 78, 3, [6, 0, 0, 328, 0, 8, 10]), (5, .ifCond .lt 27, 3, [1]), (8, .aload_n 0, 1, []), (9, .getfield 78, 3, [6, 0, 0, 328, 0, 8, 10]), (12, .aload_n 0, 1, []), (13, .getfield 17, 3, [4, 1, 0, 326, 0, 8, 10]), (16, .arraylength, 1, []), (17, .if_icmp .ge 15, 3, [1]), (20, .aload_n 0, 1, []), (21, .getfield 17, 3, [4, 1, 0, 326, 0, 8, 10]), (24, .aload_n 0, 1, []), (25, .getfield 78, 3, [6, 0, 0, 328, 0, 8, 10]), (28, .iaload, 1, []), (29, .goto 4, 3, [2])],
  [(32, .iconst (-1), 1, []), (33, .nop, 0, [2])],
  [(33, .putfield 31, 3, [9, 0, 0, 337, 0, 8, 10]), (36, .iconst 0, 1, []), (37, .ireturn, 1, [2])]]
def bl_189 : List Nat := [0, 32, 33]
-- 190: FavourTown$RingOrder.<init>(LFavourTown$Town;)V
def T_190 : List (List pEnt) := [[(0, .aload_n 0, 1, []), (1, .invokespecial 3, 3, [0, 435]), (4, .aload_n 0, 1, []), (5, .sipush 144, 3, []), (8, .newarray .int, 2, []), (10, .putfield 9, 3, [0, 1, 0, 436, 0, 5]), (13, .aload_n 0, 1, []), (14, .bipush 8, 2, []), (16, .newarray .int, 2, []), (18, .putfield 15, 3, [1, 1, 0, 437, 0, 5]), (21, .aload_n 0, 1, []), (22, .bipush 8, 2, []), (24, .newarray .int, 2, []), (26, .putfield 18, 3, [2, 1, 0, 438, 0, 5]), (29, .aload_n 0, 1, []), (30, .aload_n 1, 1, []), (31, .putfield 21, 3, [3, 1, 0, 440, 0, 5]), (34, .return_, 1, [])]]
def bl_190 : List Nat := [0]
-- 191: FavourTown$RingOrder.find()V
def T_191 : List (List pEnt) := [[(0, .aload_n 0, 1, []), (1, .iconst (-1), 1, []), (2, .putfield 25, 3, [4, 0, 0, 441, 0, 5]), (5, .iconst 0, 1, []), (6, .istore_n 1, 1, []), (7, .nop, 0, [1])],
  [(7, .iload_n 1, 1, []), (8, .aload_n 0, 1, []), (9, .getfield 21, 3, [3, 1, 0, 440, 0, 5]), (12, .getfield 29, 3, [0, 1, 1, 238, 0, 9]), (15, .getfield 35, 3, [5, 0, 1, 170, 0, 2]), (18, .if_icmp .ge 56, 3, [4]), (21, .iconst 0, 1, []), (22, .istore_n 2, 1, []), (23, .nop, 0, [2])],
  [(23, .iload_n 2, 1, []), (24, .aload_n 0, 1, []), (25, .getfield 21, 3, [3, 1, 0, 440, 0, 5]), (28, .getfield 29, 3, [0, 1, 1, 238, 0, 9]), (31, .getfield 35, 3, [5, 0, 1, 170, 0, 2]), (34, .if_icmp .ge 34, 3, [3]), (37, .aload_n 0, 1, []), (38, .getfield 9, 3, [0, 1, 0, 436, 0, 5]), (41, .iload_n 1, 1, []), (42, .bipush 12, 2, []), (44, .imul, 1, []), (45, .iload_n 2, 1, []), (46, .iadd, 1, []), (47, .aload_n 0, 1, []), (48, .getfield 21, 3, [3, 1, 0, 440, 0, 5]), (51, .getfield 40, 3, [1, 1, 1, 243, 0, 9]), (54, .iload_n 1, 1, []), (55, .iload_n 2, 1, []), (56, .invokevirtual 44, 3, [10, 2, 1379, 0, 1, 153]), (59, .invokestatic 50, 3, [21, 3, 1380, 0, 45]), (62, .iinc 2 1, 3, []), (65, .goto (-42), 3, [2])],
  [(68, .iinc 1 1, 3, []), (71, .goto (-64), 3, [1])],
  [(74, .aload_n 0, 1, []), (75, .iconst 0, 1, []), (76, .iconst 0, 1, []), (77, .iconst 0, 1, []), (78, .invokevirtual 54, 3, [10, 3, 1381, 0, 5, 192]), (81, .return_, 1, [])]]
def bl_191 : List Nat := [0, 7, 23, 68, 74]
-- 192: FavourTown$RingOrder.tryRings(III)V
def T_192 : List (List pEnt) := [[(0, .iload_n 1, 1, []), (1, .aload_n 0, 1, []), (2, .getfield 21, 3, [3, 1, 0, 440, 0, 5]), (5, .getfield 58, 3, [11, 0, 1, 264, 0, 9]), (8, .if_icmp .ge 9, 3, [1]), (11, .iload_n 1, 1, []), (12, .bipush 8, 2, []), (14, .if_icmp .lt 28, 3, [3]), (17, .nop, 0, [1])],
  [(17, .iload_n 3, 1, []), (18, .aload_n 0, 1, []), (19, .getfield 25, 3, [4, 0, 0, 441, 0, 5]), (22, .if_icmp .le 19, 3, [2]), (25, .aload_n 0, 1, []), (26, .iload_n 3, 1, []), (27, .putfield 25, 3, [4, 0, 0, 441, 0, 5]), (30, .aload_n 0, 1, []), (31, .getfield 15, 3, [1, 1, 0, 437, 0, 5]), (34, .aload_n 0, 1, []), (35, .getfield 18, 3, [2, 1, 0, 438, 0, 5]), (38, .invokestatic 61, 3, [21, 2, 1385, 0, 47]), (41, .nop, 0, [2])],
  [(41, .return_, 1, [])],
  [(42, .iload_n 3, 1, []), (43, .aload_n 0, 1, []), (44, .iload_n 2, 1, []), (45, .invokevirtual 65, 3, [10, 1, 1386, 0, 5, 193]), (48, .iadd, 1, []), (49, .aload_n 0, 1, []), (50, .getfield 25, 3, [4, 0, 0, 441, 0, 5]), (53, .if_icmp .gt 4, 3, [4]), (56, .return_, 1, [])],
  [(57, .iconst 0, 1, []), (58, .istore 4, 2, []), (60, .nop, 0, [5])],
  [(60, .iload 4, 2, []), (62, .aload_n 0, 1, []), (63, .getfield 21, 3, [3, 1, 0, 440, 0, 5]), (66, .getfield 58, 3, [11, 0, 1, 264, 0, 9]), (69, .if_icmp .ge 83, 3, [7]), (72, .iload_n 2, 1, []), (73, .iload 4, 2, []), (75, .invokestatic 69, 3, [21, 2, 1390, 0, 48]), (78, .ifCond .ne 68, 3, [6]), (81, .aload_n 0, 1, []), (82, .iload 4, 2, []), (84, .invokevirtual 73, 3, [10, 1, 1391, 0, 5, 195]), (87, .istore 5, 2, []), (89, .aload_n 0, 1, []), (90, .getfield 15, 3, [1, 1, 0, 437, 0, 5]), (93, .iload_n 1, 1, []), (94, .iload 4, 2, []), (96, .invokestatic 50, 3, [21, 3, 1380, 0, 45]), (99, .aload_n 0, 1, []), (100, .iload 4, 2, []), (102, .iload 5, 2, []), (104, .invokevirtual 76, 3, [10, 2, 1406, 0, 5, 196]), (107, .aload_n 0, 1, []), (108, .iload_n 1, 1, []), (109, .iconst 1, 1, []), (110, .iadd, 1, []), (111, .iload_n 2, 1, []), (112, .iconst 1, 1, []), (113, .iload 4, 2, []), (115, .ishl, 1, []), (116, .ior, 1, []), (117, .iload_n 3, 1, []), (118, .iload 5, 2, []), (120, .aload_n 0, 1, []), (121, .getfield 21, 3, [3, 1, 0, 440, 0, 5]), (124, .getfield 80, 3, [7, 1, 1, 256, 0, 9]), (127, .iload 4, 2, []), (129, .invokestatic 83, 3, [21, 2, 1396, 0, 44]), (132, .imul, 1, []), (133, .iadd, 1, []), (134, .invokevirtual 54, 3, [10, 3, 1381, 0, 5, 192]), (137, .aload_n 0, 1, []), (138, .iload 4, 2, []), (140, .iload 5, 2, []), (142, .ineg, 1, []), (143, .invokevirtual 76, 3, [10, 2, 1406, 0, 5, 196]), (146, .nop, 0, [6])],
  [(146, .iinc 4 1, 3, []), (149, .goto (-89), 3, [5])],
  [(152, .return_, 1, [])]]
def bl_192 : List Nat := [0, 17, 41, 42, 57, 60, 146, 152]
-- 193: FavourTown$RingOrder.mostToCome(I)I
def T_193 : List (List pEnt) := [[(0, .iconst 0, 1, []), (1, .istore_n 2, 1, []), (2, .iconst 0, 1, []), (3, .istore_n 3, 1, []), (4, .nop, 0, [1])],
  [(4, .iload_n 3, 1, []), (5, .aload_n 0, 1, []), (6, .getfield 21, 3, [3, 1, 0, 440, 0, 5]), (9, .getfield 58, 3, [11, 0, 1, 264, 0, 9]), (12, .if_icmp .ge 37, 3, [3]), (15, .iload_n 1, 1, []), (16, .iload_n 3, 1, []), (17, .invokestatic 69, 3, [21, 2, 1390, 0, 48]), (20, .ifCond .ne 23, 3, [2]), (23, .iload_n 2, 1, []), (24, .aload_n 0, 1, []), (25, .iload_n 3, 1, []), (26, .invokevirtual 73, 3, [10, 1, 1391, 0, 5, 195]), (29, .aload_n 0, 1, []), (30, .getfield 21, 3, [3, 1, 0, 440, 0, 5]), (33, .getfield 80, 3, [7, 1, 1, 256, 0, 9]), (36, .iload_n 3, 1, []), (37, .invokestatic 83, 3, [21, 2, 1396, 0, 44]), (40, .imul, 1, []), (41, .iadd, 1, []), (42, .istore_n 2, 1, []), (43, .nop, 0, [2])],
  [(43, .iinc 3 1, 3, []), (46, .goto (-42), 3, [1])],
  [(49, .iload_n 2, 1, []), (50, .ireturn, 1, [0])]]
def bl_193 : List Nat := [0, 4, 43, 49]
-- 194: FavourTown$RingOrder.debtPlace(II)I
def T_194 : List (List pEnt) := [[(0, .aload_n 0, 1, []), (1, .getfield 21, 3, [3, 1, 0, 440, 0, 5]), (4, .iload_n 1, 1, []), (5, .iload_n 2, 1, []), (6, .invokevirtual 87, 3, [10, 2, 1401, 0, 9, 221]), (9, .bipush 12, 2, []), (11, .imul, 1, []), (12, .aload_n 0, 1, []), (13, .getfield 21, 3, [3, 1, 0, 440, 0, 5]), (16, .iload_n 1, 1, []), (17, .iload_n 2, 1, []), (18, .iconst 1, 1, []), (19, .iadd, 1, []), (20, .invokevirtual 87, 3, [10, 2, 1401, 0, 9, 221]), (23, .iadd, 1, []), (24, .ireturn, 1, [0])]]
def bl_194 : List Nat := [0]
-- 195: FavourTown$RingOrder.leastOwed(I)I
def T_195 : List (List pEnt) := [[(0, .ldc 90, 2, [0, 1000000, 0, 1395]), (2, .istore_n 2, 1, []), (3, .iconst 0, 1, []), (4, .istore_n 3, 1, []), (5, .nop, 0, [1])],
  [(5, .iload_n 3, 1, []), (6, .aload_n 0, 1, []), (7, .getfield 21, 3, [3, 1, 0, 440, 0, 5]), (10, .getfield 80, 3, [7, 1, 1, 256, 0, 9]), (13, .iload_n 1, 1, []), (14, .invokestatic 83, 3, [21, 2, 1396, 0, 44]), (17, .if_icmp .ge 27, 3, [2]), (20, .iload_n 2, 1, []), (21, .aload_n 0, 1, []), (22, .getfield 9, 3, [0, 1, 0, 436, 0, 5]), (25, .aload_n 0, 1, []), (26, .iload_n 1, 1, []), (27, .iload_n 3, 1, []), (28, .invokevirtual 91, 3, [10, 2, 1397, 0, 5, 194]), (31, .invokestatic 83, 3, [21, 2, 1396, 0, 44]), (34, .invokestatic 94, 3, [2, 1405]), (37, .istore_n 2, 1, []), (38, .iinc 3 1, 3, []), (41, .goto (-36), 3, [1])],
  [(44, .iload_n 2, 1, []), (45, .ireturn, 1, [0])]]
def bl_195 : List Nat := [0, 5, 44]
-- 196: FavourTown$RingOrder.takeFrom(II)V
def T_196 : List (List pEnt) := [[(0, .iconst 0, 1, []), (1, .istore_n 3, 1, []), (2, .nop, 0, [1])],
  [(2, .iload_n 3, 1, []), (3, .aload_n 0, 1, []), (4, .getfield 21, 3, [3, 1, 0, 440, 0, 5]), (7, .getfield 80, 3, [7, 1, 1, 256, 0, 9]), (10, .iload_n 1, 1, []), (11, .invokestatic 83, 3, [21, 2, 1396, 0, 44]), (14, .if_icmp .ge 24, 3, [2]), (17, .aload_n 0, 1, []), (18, .getfield 9, 3, [0, 1, 0, 436, 0, 5]), (21, .aload_n 0, 1, []), (22, .iload_n 1, 1, []), (23, .iload_n 3, 1, []), (24, .invokevirtual 91, 3, [10, 2, 1397, 0, 5, 194]), (27, .iload_n 2, 1, []), (28, .ineg, 1, []), (29, .invokestatic 99, 3, [21, 3, 1410, 0, 46]), (32, .iinc 3 1, 3, []), (35, .goto (-33), 3, [1])],
  [(38, .return_, 1, [])]]
def bl_196 : List Nat := [0, 2, 38]
-- 197: FavourTown$Tape.<init>()V
def T_197 : List (List pEnt) := [[(0, .aload_n 0, 1, []), (1, .invokespecial 1, 3, [0, 132]), (4, .aload_n 0, 1, []), (5, .sipush 400, 3, []), (8, .newarray .int, 2, []), (10, .putfield 9, 3, [0, 1, 0, 133, 0, 6]), (13, .return_, 1, [])]]
def bl_197 : List Nat := [0]
-- 198: FavourTown$Tape.add(I)V
def T_198 : List (List pEnt) := [[(0, .bipush 24, 2, []), (2, .istore_n 2, 1, []), (3, .nop, 0, [1])],
  [(3, .iload_n 2, 1, []), (4, .ifCond .lt 37, 3, [2]), (7, .aload_n 0, 1, []), (8, .getfield 9, 3, [0, 1, 0, 133, 0, 6]), (11, .aload_n 0, 1, []), (12, .getfield 13, 3, [1, 0, 0, 136, 0, 6]), (15, .iload_n 1, 1, []), (16, .iload_n 2, 1, []), (17, .ishr, 1, []), (18, .sipush 255, 3, []), (21, .iand, 1, []), (22, .invokestatic 17, 3, [21, 3, 518, 0, 45]), (25, .aload_n 0, 1, []), (26, .dup, 1, []), (27, .getfield 13, 3, [1, 0, 0, 136, 0, 6]), (30, .iconst 1, 1, []), (31, .iadd, 1, []), (32, .putfield 13, 3, [1, 0, 0, 136, 0, 6]), (35, .iinc 2 (-8), 3, []), (38, .goto (-35), 3, [1])],
  [(41, .return_, 1, [])]]
def bl_198 : List Nat := [0, 3, 41]
-- 199: FavourTown$Tape.useUp()I
def T_199 : List (List pEnt) := [[(0, .aload_n 0, 1, []), (1, .getfield 13, 3, [1, 0, 0, 136, 0, 6]), (4, .istore_n 1, 1, []), (5, .aload_n 0, 1, []), (6, .iconst 0, 1, []), (7, .putfield 13, 3, [1, 0, 0, 136, 0, 6]), (10, .iload_n 1, 1, []), (11, .ireturn, 1, [0])]]
def bl_199 : List Nat := [0]
-- 200: FavourTown$Temper.<init>([II)V
def T_200 : List (List pEnt) := [[(0, .aload_n 0, 1, []), (1, .invokespecial 5, 3, [0, 1050]), (4, .aload_n 0, 1, []), (5, .bipush 20, 2, []), (7, .newarray .int, 2, []), (9, .putfield 11, 3, [1, 1, 0, 1066, 0, 7]), (12, .aload_n 0, 1, []), (13, .aload_n 1, 1, []), (14, .iconst 0, 1, []), (15, .iload_n 2, 1, []), (16, .aload_n 1, 1, []), (17, .arraylength, 1, []), (18, .invokestatic 15, 3, [2, 1051]), (21, .invokestatic 21, 3, [1, 1052]), (24, .invokestatic 24, 3, [20, 2, 1053, 0, 278]), (27, .putfield 30, 3, [0, 1, 0, 1065, 0, 7]), (30, .return_, 1, [])]]
def bl_200 : List Nat := [0]
-- 201: FavourTown$Temper.says([I)Z
def T_201 : List (List pEnt) := [[(0, .aload_n 0, 1, []), (1, .iconst 0, 1, []), (2, .putfield 33, 3, [2, 0, 0, 1067, 0, 7]), (5, .aload_n 0, 1, []), (6, .getfield 30, 3, [0, 1, 0, 1065, 0, 7]), (9, .astore_n 2, 1, []), (10, .aload_n 2, 1, []), (11, .arraylength, 1, []), (12, .istore_n 3, 1, []), (13, .iconst 0, 1, []), (14, .istore 4, 2, []), (16, .nop, 0, [1])],
  [(16, .iload 4, 2, []), (18, .iload_n 3, 1, []), (19, .if_icmp .ge 140, 3, [9]), (22, .aload_n 2, 1, []), (23, .iload 4, 2, []), (25, .iaload, 1, []), (26, .istore 5, 2, []), (28, .iload 5, 2, []), (30, .sipush 1000, 3, []), (33, .if_icmp .ge 12, 3, [2]), (36, .aload_n 0, 1, []), (37, .iload 5, 2, []), (39, .invokevirtual 37, 3, [10, 1, 638, 0, 7, 203]), (42, .goto 111, 3, [8])],
  [(45, .iload 5, 2, []), (47, .sipush 1009, 3, []), (50, .if_icmp .ge 20, 3, [3]), (53, .aload_n 0, 1, []), (54, .aload_n 1, 1, []), (55, .iload 5, 2, []), (57, .sipush 1000, 3, []), (60, .isub, 1, []), (61, .invokestatic 41, 3, [21, 2, 643, 0, 44]), (64, .invokevirtual 37, 3, [10, 1, 638, 0, 7, 203]), (67, .goto 86, 3, [8])],
  [(70, .iload 5, 2, []), (72, .sipush 1012, 3, []), (75, .if_icmp .ne 16, 3, [4]), (78, .aload_n 0, 1, []), (79, .iconst 1, 1, []), (80, .aload_n 0, 1, []), (81, .invokevirtual 47, 3, [10, 0, 644, 0, 7, 204]), (84, .isub, 1, []), (85, .invokevirtual 37, 3, [10, 1, 638, 0, 7, 203]), (88, .goto 65, 3, [8])],
  [(91, .iload 5, 2, []), (93, .sipush 1009, 3, []), (96, .if_icmp .eq 35, 3, [5]), (99, .iload 5, 2, []), (101, .sipush 1010, 3, []), (104, .if_icmp .eq 27, 3, [5]), (107, .aload_n 0, 1, []), (108, .invokevirtual 47, 3, [10, 0, 644, 0, 7, 204]), (111, .istore 6, 2, []), (113, .aload_n 0, 1, []), (114, .iload 5, 2, []), (116, .aload_n 0, 1, []), (117, .invokevirtual 47, 3, [10, 0, 644, 0, 7, 204]), (120, .iload 6, 2, []), (122, .invokestatic 51, 3, [20, 3, 648, 0, 202]), (125, .invokevirtual 37, 3, [10, 1, 638, 0, 7, 203]), (128, .goto 25, 3, [8])],
  [(131, .aload_n 0, 1, []), (132, .invokevirtual 47, 3, [10, 0, 644, 0, 7, 204]), (135, .iconst 1, 1, []), (136, .if_icmp .ne 17, 3, [8]), (139, .iload 5, 2, []), (141, .sipush 1009, 3, []), (144, .if_icmp .ne 7, 3, [6]), (147, .iconst 1, 1, []), (148, .goto 4, 3, [7])],
  [(151, .iconst 0, 1, []), (152, .nop, 0, [7])],
  [(152, .ireturn, 1, [2])],
  [(153, .iinc 4 1, 3, []), (156, .goto (-140), 3, [1])],
  [(159, .iconst 0, 1, []), (160, .ireturn, 1, [2])]]
def bl_201 : List Nat := [0, 16, 45, 70, 91, 131, 151, 152, 153, 159]
-- 202: FavourTown$Temper.joined(III)I
def T_202 : List (List pEnt) := [[(0, .iload_n 0, 1, []), (1, .lookupswitch 73 #[(1013, 69), (2043, 43), (2060, 47), (2062, 58)], 43, [9, 8, 1, 2, 5])],
  [(44, .iload_n 1, 1, []), (45, .iload_n 2, 1, []), (46, .iadd, 1, []), (47, .ireturn, 1, [0])],
  [(48, .iload_n 1, 1, []), (49, .iload_n 2, 1, []), (50, .if_icmp .ge 7, 3, [3]), (53, .iconst 1, 1, []), (54, .goto 4, 3, [4])],
  [(57, .iconst 0, 1, []), (58, .nop, 0, [4])],
  [(58, .ireturn, 1, [0])],
  [(59, .iload_n 1, 1, []), (60, .iload_n 2, 1, []), (61, .if_icmp .le 7, 3, [6]), (64, .iconst 1, 1, []), (65, .goto 4, 3, [7])],
  [(68, .iconst 0, 1, []), (69, .nop, 0, [7])],
  [(69, .ireturn, 1, [0])],
  [(70, .iload_n 1, 1, []), (71, .iload_n 2, 1, []), (72, .iand, 1, []), (73, .ireturn, 1, [0])],
  [(74, .iload_n 1, 1, []), (75, .iload_n 2, 1, []), (76, .ior, 1, []), (77, .ireturn, 1, [0])]]
def bl_202 : List Nat := [0, 44, 48, 57, 58, 59, 68, 69, 70, 74]
-- 203: FavourTown$Temper.push(I)V
def T_203 : List (List pEnt) := [[(0, .aload_n 0, 1, []), (1, .getfield 33, 3, [2, 0, 0, 1067, 0, 7]), (4, .ifCond .lt 35, 3, [1]), (7, .aload_n 0, 1, []), (8, .getfield 33, 3, [2, 0, 0, 1067, 0, 7]), (11, .aload_n 0, 1, []), (12, .getfield 11, 3, [1, 1, 0, 1066, 0, 7]), (15, .arraylength, 1, []), (16, .if_icmp .ge 23, 3, [1]), (19, .aload_n 0, 1, []), (20, .getfield 11, 3, [1, 1, 0, 1066, 0, 7]), (23, .aload_n 0, 1, []), (24, .getfield 33, 3, [2, 0, 0, 1067, 0, 7]), (27, .iload_n 1, 1, []), (28, .iastore, 1, []), (29, .aload_n 0, 1, []), (30, .dup, 1, []), (31, .getfield 33, 3, [2, 0, 0, 1067, 0, 7]), (34, .iconst 1, 1, []), (35, .iadd, 1, []), (36, .putfield 33, 3, [2, 0, 0, 1067, 0, 7]), (39, .nop, 0, [1])],
  [(39, .return_, 1, [])]]
def bl_203 : List Nat := [0, 39]
-- 204: FavourTown$Temper.pop()I
def T_204 : List (List pEnt) := [[(0, .aload_n 0, 1, []), (1, .getfield 33, 3, [2, 0, 0, 1067, 0, 7]), (4, .ifCond .le 15, 3, [1]), (7, .aload_n 0, 1, []), (8, .getfield 33, 3, [2, 0, 0, 1067, 0, 7]), (11, .aload_n 0, 1, []), (12, .getfield 11, 3, [1, 1, 0, 1066, 0, 7]), (15, .arraylength, 1, []), (16, .if_icmp .le 5, 3, [2]), (19, .nop, 0, [1])],
  [(19, .iconst 0, 1, []), (20, .ireturn, 1, [0])],
  [(21, .aload_n 0, 1, []), (22, .dup, 1, []), (23, .getfield 33, 3, [2, 0, 0, 1067, 0, 7]), (26, .iconst 1, 1, []), (27, .isub, 1, []), (28, .putfield 33, 3, [2, 0, 0, 1067, 0, 7]), (31, .aload_n 0, 1, []), (32, .getfield 11, 3, [1, 1, 0, 1066, 0, 7]), (35, .aload_n 0, 1, []), (36, .getfield 33, 3, [2, 0, 0, 1067, 0, 7]), (39, .iaload, 1, []), (40, .ireturn, 1, [0])]]
def bl_204 : List Nat := [0, 19, 21]
-- 205: FavourTown$TemperText.<init>([I)V
def T_205 : List (List pEnt) := [[(0, .aload_n 0, 1, []), (1, .aload_n 1, 1, []), (2, .ldc 3, 2, [1, 900002]), (4, .bipush 12, 2, []), (6, .invokespecial 7, 3, [14, 3, 386, 0, 8, 179]), (9, .aload_n 0, 1, []), (10, .sipush 400, 3, []), (13, .newarray .int, 2, []), (15, .putfield 15, 3, [10, 1, 0, 387, 0, 8]), (18, .return_, 1, [])]]
def bl_205 : List Nat := [0]
-- 206: FavourTown$TemperText.forget()V
def T_206 : List (List pEnt) := [[(0, .aload_n 0, 1, []), (1, .iconst 0, 1, []), (2, .putfield 19, 3, [11, 0, 0, 388, 0, 8]), (5, .return_, 1, [])]]
def bl_206 : List Nat := [0]
-- 207: FavourTown$TemperText.made()LFavourTown$Temper;
def T_207 : List (List pEnt) := [[(0, .new 1, 3, [1, 7, 3, 1046, 641, 109]), (3, .dup, 1, []), (4, .aload_n 0, 1, []), (5, .getfield 15, 3, [10, 1, 0, 387, 0, 8]), (8, .aload_n 0, 1, []), (9, .getfield 19, 3, [11, 0, 0, 388, 0, 8]), (12, .invokespecial 23, 3, [14, 2, 1047, 0, 7, 200]), (15, .areturn, 1, [])]]
def bl_207 : List Nat := [0]
-- 208: FavourTown$TemperText.readLine()Z
def T_208 : List (List pEnt) := [[(0, .aload_n 0, 1, []), (1, .getfield 26, 3, [7, 0, 0, 332, 333, 8]), (4, .istore_n 1, 1, []), (5, .iload_n 1, 1, []), (6, .sipush 1009, 3, []), (9, .if_icmp .eq 15, 3, [1]), (12, .iload_n 1, 1, []), (13, .sipush 1010, 3, []), (16, .if_icmp .eq 8, 3, [1]), (19, .aload_n 0, 1, []), (20, .invokevirtual 29, 3, [17, 0, 809, 810, 8, 189]), (23, .ireturn, 1, [2])],
  [(24, .aload_n 0, 1, []), (25, .invokevirtual 33, 3, [17, 0, 815, 816, 8, 186]), (28, .aload_n 0, 1, []), (29, .getfield 26, 3, [7, 0, 0, 332, 333, 8]), (32, .sipush 1011, 3, []), (35, .if_icmp .ne 17, 3, [2]), (38, .aload_n 0, 1, []), (39, .invokevirtual 33, 3, [17, 0, 815, 816, 8, 186]), (42, .aload_n 0, 1, []), (43, .iconst 0, 1, []), (44, .invokevirtual 37, 3, [10, 1, 821, 0, 8, 209]), (47, .ifCond .ne 10, 3, [3]), (50, .iconst 0, 1, []), (51, .ireturn, 1, [2])],
  [(52, .aload_n 0, 1, []), (53, .iconst 1, 1, []), (54, .invokevirtual 41, 3, [10, 1, 833, 0, 8, 214]), (57, .nop, 0, [3])],
  [(57, .aload_n 0, 1, []), (58, .iload_n 1, 1, []), (59, .invokevirtual 41, 3, [10, 1, 833, 0, 8, 214]), (62, .iconst 1, 1, []), (63, .ireturn, 1, [2])]]
def bl_208 : List Nat := [0, 24, 52, 57]
-- 209: FavourTown$TemperText.condition(I)Z
def T_209 : List (List pEnt) := [[(0, .iconst 0, 1, []), (1, .istore_n 2, 1, []), (2, .iconst 0, 1, []), (3, .istore_n 3, 1, []), (4, .iconst 0, 1, []), (5, .istore 4, 2, []), (7, .nop, 0, [1])],
  [(7, .iload 4, 2, []), (9, .sipush 400, 3, []), (12, .if_icmp .ge 91, 3, [11]), (15, .aload_n 0, 1, []), (16, .iload_n 1, 1, []), (17, .invokevirtual 45, 3, [10, 1, 825, 0, 8, 210]), (20, .ifCond .ne 5, 3, [2]), (23, .iconst 0, 1, []), (24, .ireturn, 1, [2])],
  [(25, .iload_n 2, 1, []), (26, .ifCond .eq 10, 3, [3]), (29, .aload_n 0, 1, []), (30, .sipush 1013, 3, []), (33, .invokevirtual 41, 3, [10, 1, 833, 0, 8, 214]), (36, .nop, 0, [3])],
  [(36, .aload_n 0, 1, []), (37, .getfield 26, 3, [7, 0, 0, 332, 333, 8]), (40, .sipush 1013, 3, []), (43, .if_icmp .ne 7, 3, [4]), (46, .iconst 1, 1, []), (47, .goto 4, 3, [5])],
  [(50, .iconst 0, 1, []), (51, .nop, 0, [5])],
  [(51, .istore_n 2, 1, []), (52, .iload_n 2, 1, []), (53, .ifCond .ne 30, 3, [9]), (56, .iload_n 3, 1, []), (57, .ifCond .eq 10, 3, [6]), (60, .aload_n 0, 1, []), (61, .sipush 1014, 3, []), (64, .invokevirtual 41, 3, [10, 1, 833, 0, 8, 214]), (67, .nop, 0, [6])],
  [(67, .aload_n 0, 1, []), (68, .getfield 26, 3, [7, 0, 0, 332, 333, 8]), (71, .sipush 1014, 3, []), (74, .if_icmp .ne 7, 3, [7]), (77, .iconst 1, 1, []), (78, .goto 4, 3, [8])],
  [(81, .iconst 0, 1, []), (82, .nop, 0, [8])],
  [(82, .istore_n 3, 1, []), (83, .nop, 0, [9])],
  [(83, .iload_n 2, 1, []), (84, .ifCond .ne 9, 3, [10]), (87, .iload_n 3, 1, []), (88, .ifCond .ne 5, 3, [10]), (91, .iconst 1, 1, []), (92, .ireturn, 1, [2])],
  [(93, .aload_n 0, 1, []), (94, .invokevirtual 33, 3, [17, 0, 815, 816, 8, 186]), (97, .iinc 4 1, 3, []), (100, .goto (-93), 3, [1])],
  [(103, .aload_n 0, 1, []), (104, .invokevirtual 29, 3, [17, 0, 809, 810, 8, 189]), (107, .ireturn, 1, [2])]]
def bl_209 : List Nat := [0, 7, 25, 36, 50, 51, 67, 81, 82, 83, 93, 103]
-- 210: FavourTown$TemperText.atom(I)Z
def T_210 : List (List pEnt) := [[(0, .aload_n 0, 1, []), (1, .getfield 26, 3, [7, 0, 0, 332, 333, 8]), (4, .sipush 1012, 3, []), (7, .if_icmp .ne 7, 3, [1]), (10, .iconst 1, 1, []), (11, .goto 4, 3, [2])],
  [(14, .iconst 0, 1, []), (15, .nop, 0, [2])],
  [(15, .istore_n 2, 1, []), (16, .iload_n 2, 1, []), (17, .ifCond .ne 13, 3, [3]), (20, .aload_n 0, 1, []), (21, .getfield 26, 3, [7, 0, 0, 332, 333, 8]), (24, .sipush 2040, 3, []), (27, .if_icmp .ne 58, 3, [8]), (30, .nop, 0, [3])],
  [(30, .iload_n 1, 1, []), (31, .bipush 6, 2, []), (33, .if_icmp .lt 8, 3, [4]), (36, .aload_n 0, 1, []), (37, .invokevirtual 29, 3, [17, 0, 809, 810, 8, 189]), (40, .ireturn, 1, [2])],
  [(41, .aload_n 0, 1, []), (42, .invokevirtual 33, 3, [17, 0, 815, 816, 8, 186]), (45, .iload_n 2, 1, []), (46, .ifCond .eq 13, 3, [5]), (49, .aload_n 0, 1, []), (50, .iload_n 1, 1, []), (51, .iconst 1, 1, []), (52, .iadd, 1, []), (53, .invokevirtual 48, 3, [10, 1, 829, 0, 8, 211]), (56, .goto 28, 3, [7])],
  [(59, .aload_n 0, 1, []), (60, .iload_n 1, 1, []), (61, .iconst 1, 1, []), (62, .iadd, 1, []), (63, .invokevirtual 37, 3, [10, 1, 821, 0, 8, 209]), (66, .ifCond .eq 17, 3, [6]), (69, .aload_n 0, 1, []), (70, .sipush 2041, 3, []), (73, .invokevirtual 51, 3, [17, 1, 837, 838, 8, 187]), (76, .ifCond .eq 7, 3, [6]), (79, .iconst 1, 1, []), (80, .goto 4, 3, [7])],
  [(83, .iconst 0, 1, []), (84, .nop, 0, [7])],
  [(84, .ireturn, 1, [2])],
  [(85, .aload_n 0, 1, []), (86, .getfield 26, 3, [7, 0, 0, 332, 333, 8]), (89, .sipush 1006, 3, []), (92, .if_icmp .lt 13, 3, [9]), (95, .aload_n 0, 1, []), (96, .getfield 26, 3, [7, 0, 0, 332, 333, 8]), (99, .sipush 1008, 3, []), (102, .if_icmp .le 8, 3, [10]), (105, .nop, 0, [9])],
  [(105, .aload_n 0, 1, []), (106, .invokevirtual 54, 3, [10, 0, 845, 0, 8, 212]), (109, .ireturn, 1, [2])],
  [(110, .aload_n 0, 1, []), (111, .aload_n 0, 1, []), (112, .getfield 26, 3, [7, 0, 0, 332, 333, 8]), (115, .invokevirtual 41, 3, [10, 1, 833, 0, 8, 214]), (118, .aload_n 0, 1, []), (119, .invokevirtual 33, 3, [17, 0, 815, 816, 8, 186]), (122, .iconst 1, 1, []), (123, .ireturn, 1, [2])]]
def bl_210 : List Nat := [0, 14, 15, 30, 41, 59, 83, 84, 85, 105, 110]
-- 211: FavourTown$TemperText.opposite(I)Z
def T_211 : List (List pEnt) := [[(0, .aload_n 0, 1, []), (1, .iload_n 1, 1, []), (2, .invokevirtual 45, 3, [10, 1, 825, 0, 8, 210]), (5, .istore_n 2, 1, []), (6, .aload_n 0, 1, []), (7, .sipush 1012, 3, []), (10, .invokevirtual 41, 3, [10, 1, 833, 0, 8, 214]), (13, .iload_n 2, 1, []), (14, .ireturn, 1, [2])]]
def bl_211 : List Nat := [0]
-- 212: FavourTown$TemperText.comparison()Z
def T_212 : List (List pEnt) := [[(0, .aload_n 0, 1, []), (1, .invokevirtual 57, 3, [10, 0, 849, 0, 8, 213]), (4, .ifCond .ne 5, 3, [1]), (7, .iconst 0, 1, []), (8, .ireturn, 1, [2])],
  [(9, .aload_n 0, 1, []), (10, .getfield 26, 3, [7, 0, 0, 332, 333, 8]), (13, .istore_n 1, 1, []), (14, .iload_n 1, 1, []), (15, .sipush 2060, 3, []), (18, .if_icmp .eq 15, 3, [2]), (21, .iload_n 1, 1, []), (22, .sipush 2062, 3, []), (25, .if_icmp .eq 8, 3, [2]), (28, .aload_n 0, 1, []), (29, .invokevirtual 29, 3, [17, 0, 809, 810, 8, 189]), (32, .ireturn, 1, [2])],
  [(33, .aload_n 0, 1, []), (34, .invokevirtual 33, 3, [17, 0, 815, 816, 8, 186]), (37, .aload_n 0, 1, []), (38, .invokevirtual 57, 3, [10, 0, 849, 0, 8, 213]), (41, .istore_n 2, 1, []), (42, .aload_n 0, 1, []), (43, .iload_n 1, 1, []), (44, .invokevirtual 41, 3, [10, 1, 833, 0, 8, 214]), (47, .iload_n 2, 1, []), (48, .ireturn, 1, [2])]]
def bl_212 : List Nat := [0, 9, 33]
-- 213: FavourTown$TemperText.sum()Z
def T_213 : List (List pEnt) := [[(0, .iconst 0, 1, []), (1, .istore_n 1, 1, []), (2, .nop, 0, [1])],
  [(2, .iload_n 1, 1, []), (3, .sipush 400, 3, []), (6, .if_icmp .ge 93, 3, [8]), (9, .aload_n 0, 1, []), (10, .getfield 26, 3, [7, 0, 0, 332, 333, 8]), (13, .sipush 999, 3, []), (16, .if_icmp .gt 7, 3, [2]), (19, .iconst 1, 1, []), (20, .goto 4, 3, [3])],
  [(23, .iconst 0, 1, []), (24, .nop, 0, [3])],
  [(24, .istore_n 2, 1, []), (25, .iload_n 2, 1, []), (26, .ifCond .ne 28, 3, [5]), (29, .aload_n 0, 1, []), (30, .getfield 26, 3, [7, 0, 0, 332, 333, 8]), (33, .sipush 1000, 3, []), (36, .if_icmp .lt 13, 3, [4]), (39, .aload_n 0, 1, []), (40, .getfield 26, 3, [7, 0, 0, 332, 333, 8]), (43, .sipush 1005, 3, []), (46, .if_icmp .le 8, 3, [5]), (49, .nop, 0, [4])],
  [(49, .aload_n 0, 1, []), (50, .invokevirtual 29, 3, [17, 0, 809, 810, 8, 189]), (53, .ireturn, 1, [2])],
  [(54, .aload_n 0, 1, []), (55, .aload_n 0, 1, []), (56, .getfield 26, 3, [7, 0, 0, 332, 333, 8]), (59, .invokevirtual 41, 3, [10, 1, 833, 0, 8, 214]), (62, .aload_n 0, 1, []), (63, .invokevirtual 33, 3, [17, 0, 815, 816, 8, 186]), (66, .iload_n 1, 1, []), (67, .ifCond .le 10, 3, [6]), (70, .aload_n 0, 1, []), (71, .sipush 2043, 3, []), (74, .invokevirtual 41, 3, [10, 1, 833, 0, 8, 214]), (77, .nop, 0, [6])],
  [(77, .aload_n 0, 1, []), (78, .getfield 26, 3, [7, 0, 0, 332, 333, 8]), (81, .sipush 2043, 3, []), (84, .if_icmp .eq 5, 3, [7]), (87, .iconst 1, 1, []), (88, .ireturn, 1, [2])],
  [(89, .aload_n 0, 1, []), (90, .invokevirtual 33, 3, [17, 0, 815, 816, 8, 186]), (93, .iinc 1 1, 3, []), (96, .goto (-94), 3, [1])],
  [(99, .aload_n 0, 1, []), (100, .invokevirtual 29, 3, [17, 0, 809, 810, 8, 189]), (103, .ireturn, 1, [2])]]
def bl_213 : List Nat := [0, 2, 23, 24, 49, 54, 77, 89, 99]
-- 214: FavourTown$TemperText.emit(I)V
def T_214 : List (List pEnt) := [[(0, .aload_n 0, 1, []), (1, .getfield 19, 3, [11, 0, 0, 388, 0, 8]), (4, .ifCond .lt 35, 3, [1]), (7, .aload_n 0, 1, []), (8, .getfield 19, 3, [11, 0, 0, 388, 0, 8]), (11, .aload_n 0, 1, []), (12, .getfield 15, 3, [10, 1, 0, 387, 0, 8]), (15, .arraylength, 1, []), (16, .if_icmp .ge 23, 3, [1]), (19, .aload_n 0, 1, []), (20, .getfield 15, 3, [10, 1, 0, 387, 0, 8]), (23, .aload_n 0, 1, []), (24, .getfield 19, 3, [11, 0, 0, 388, 0, 8]), (27, .iload_n 1, 1, []), (28, .iastore, 1, []), (29, .aload_n 0, 1, []), (30, .dup, 1, []), (31, .getfield 19, 3, [11, 0, 0, 388, 0, 8]), (34, .iconst 1, 1, []), (35, .iadd, 1, []), (36, .putfield 19, 3, [11, 0, 0, 388, 0, 8]), (39, .nop, 0, [1])],
  [(39, .return_, 1, [])]]
def bl_214 : List Nat := [0, 39]
-- 215: FavourTown$Town.<init>()V
def T_215 : List (List pEnt) := [[(0, .aload_n 0, 1, []), (1, .invokespecial 3, 3, [0, 148]), (4, .aload_n 0, 1, []), (5, .new 9, 3, [1, 2, 6, 149, 150, 94]), (8, .dup, 1, []), (9, .invokespecial 11, 3, [15, 0, 151, 0, 2, 156]), (12, .putfield 12, 3, [0, 1, 0, 236, 0, 9]), (15, .aload_n 0, 1, []), (16, .new 18, 3, [1, 1, 8, 187, 188, 95]), (19, .dup, 1, []), (20, .invokespecial 20, 3, [15, 0, 189, 0, 1, 141]), (23, .putfield 21, 3, [1, 1, 0, 242, 0, 9]), (26, .aload_n 0, 1, []), (27, .bipush 6, 2, []), (29, .anewarray 25, 3, [234]), (32, .putfield 27, 3, [2, 1, 0, 247, 0, 9]), (35, .aload_n 0, 1, []), (36, .bipush 9, 2, []), (38, .newarray .int, 2, []), (40, .putfield 31, 3, [3, 1, 0, 248, 0, 9]), (43, .aload_n 0, 1, []), (44, .bipush 12, 2, []), (46, .newarray .int, 2, []), (48, .putfield 35, 3, [4, 1, 0, 249, 0, 9]), (51, .aload_n 0, 1, []), (52, .bipush 12, 2, []), (54, .newarray .int, 2, []), (56, .putfield 38, 3, [5, 1, 0, 251, 0, 9]), (59, .aload_n 0, 1, []), (60, .bipush 12, 2, []), (62, .newarray .int, 2, []), (64, .putfield 41, 3, [6, 1, 0, 253, 0, 9]), (67, .aload_n 0, 1, []), (68, .bipush 8, 2, []), (70, .newarray .int, 2, []), (72, .putfield 44, 3, [7, 1, 0, 255, 0, 9]), (75, .aload_n 0, 1, []), (76, .bipush 48, 2, []), (78, .newarray .int, 2, []), (80, .putfield 47, 3, [8, 1, 0, 257, 0, 9]), (83, .aload_n 0, 1, []), (84, .bipush 10, 2, []), (86, .putfield 50, 3, [14, 0, 0, 270, 0, 9]), (89, .return_, 1, [])]]
def bl_215 : List Nat := [0]
-- 216: FavourTown$Town.become(LFavourTown$Town;)V
def T_216 : List (List pEnt) := [[(0, .aload_n 0, 1, []), (1, .getfield 12, 3, [0, 1, 0, 236, 0, 9]), (4, .aload_n 1, 1, []), (5, .getfield 12, 3, [0, 1, 0, 236, 0, 9]), (8, .invokevirtual 54, 3, [10, 1, 537, 0, 2, 157]), (11, .aload_n 0, 1, []), (12, .getfield 21, 3, [1, 1, 0, 242, 0, 9]), (15, .aload_n 1, 1, []), (16, .getfield 21, 3, [1, 1, 0, 242, 0, 9]), (19, .invokevirtual 58, 3, [10, 1, 554, 0, 1, 142]), (22, .iconst 0, 1, []), (23, .istore_n 2, 1, []), (24, .nop, 0, [1])],
  [(24, .iload_n 2, 1, []), (25, .aload_n 0, 1, []), (26, .getfield 27, 3, [2, 1, 0, 247, 0, 9]), (29, .arraylength, 1, []), (30, .if_icmp .ge 30, 3, [2]), (33, .iload_n 2, 1, []), (34, .aload_n 1, 1, []), (35, .getfield 27, 3, [2, 1, 0, 247, 0, 9]), (38, .arraylength, 1, []), (39, .if_icmp .ge 21, 3, [2]), (42, .aload_n 0, 1, []), (43, .getfield 27, 3, [2, 1, 0, 247, 0, 9]), (46, .iload_n 2, 1, []), (47, .aload_n 1, 1, []), (48, .getfield 27, 3, [2, 1, 0, 247, 0, 9]), (51, .iload_n 2, 1, []), (52, .aaload, 1, []), (53, .aastore, 1, []), (54, .iinc 2 1, 3, []), (57, .goto (-33), 3, [1])],
  [(60, .aload_n 1, 1, []), (61, .getfield 35, 3, [4, 1, 0, 249, 0, 9]), (64, .aload_n 0, 1, []), (65, .getfield 35, 3, [4, 1, 0, 249, 0, 9]), (68, .invokestatic 61, 3, [21, 2, 563, 0, 47]), (71, .aload_n 1, 1, []), (72, .getfield 38, 3, [5, 1, 0, 251, 0, 9]), (75, .aload_n 0, 1, []), (76, .getfield 38, 3, [5, 1, 0, 251, 0, 9]), (79, .invokestatic 61, 3, [21, 2, 563, 0, 47]), (82, .aload_n 1, 1, []), (83, .getfield 41, 3, [6, 1, 0, 253, 0, 9]), (86, .aload_n 0, 1, []), (87, .getfield 41, 3, [6, 1, 0, 253, 0, 9]), (90, .invokestatic 61, 3, [21, 2, 563, 0, 47]), (93, .aload_n 1, 1, []), (94, .getfield 44, 3, [7, 1, 0, 255, 0, 9]), (97, .aload_n 0, 1, []), (98, .getfield 44, 3, [7, 1, 0, 255, 0, 9]), (101, .invokestatic 61, 3, [21, 2, 563, 0, 47]), (104, .aload_n 1, 1, []), (105, .getfield 47, 3, [8, 1, 0, 257, 0, 9]), (108, .aload_n 0, 1, []), (109, .getfield 47, 3, [8, 1, 0, 257, 0, 9]), (112, .invokestatic 61, 3, [21, 2, 563, 0, 47]), (115, .aload_n 0, 1, []), (116, .aload_n 1, 1, []), (117, .getfield 65, 3, [9, 0, 0, 258, 0, 9]), (120, .putfield 65, 3, [9, 0, 0, 258, 0, 9]), (123, .aload_n 0, 1, []), (124, .aload_n 1, 1, []), (125, .getfield 68, 3, [10, 0, 0, 260, 0, 9]), (128, .putfield 68, 3, [10, 0, 0, 260, 0, 9]), (131, .aload_n 0, 1, []), (132, .aload_n 1, 1, []), (133, .getfield 71, 3, [11, 0, 0, 263, 0, 9]), (136, .putfield 71, 3, [11, 0, 0, 263, 0, 9]), (139, .aload_n 0, 1, []), (140, .aload_n 1, 1, []), (141, .getfield 74, 3, [12, 0, 0, 266, 0, 9]), (144, .putfield 74, 3, [12, 0, 0, 266, 0, 9]), (147, .aload_n 0, 1, []), (148, .aload_n 1, 1, []), (149, .getfield 77, 3, [13, 0, 0, 268, 0, 9]), (152, .putfield 77, 3, [13, 0, 0, 268, 0, 9]), (155, .aload_n 0, 1, []), (156, .aload_n 1, 1, []), (157, .getfield 50, 3, [14, 0, 0, 270, 0, 9]), (160, .putfield 50, 3, [14, 0, 0, 270, 0, 9]), (163, .return_, 1, [])]]
def bl_216 : List Nat := [0, 24, 60]
-- 217: FavourTown$Town.holdAs(LFavourTown$Town;)V
def T_217 : List (List pEnt) := [[(0, .aload_n 0, 1, []), (1, .getfield 12, 3, [0, 1, 0, 236, 0, 9]), (4, .aload_n 1, 1, []), (5, .getfield 12, 3, [0, 1, 0, 236, 0, 9]), (8, .invokevirtual 80, 3, [10, 1, 682, 0, 2, 158]), (11, .aload_n 0, 1, []), (12, .getfield 21, 3, [1, 1, 0, 242, 0, 9]), (15, .aload_n 1, 1, []), (16, .getfield 21, 3, [1, 1, 0, 242, 0, 9]), (19, .invokevirtual 83, 3, [10, 1, 683, 0, 1, 143]), (22, .return_, 1, [])]]
def bl_217 : List Nat := [0]
-- 218: FavourTown$Town.addTemper(LFavourTown$Temper;)I
def T_218 : List (List pEnt) := [[(0, .aload_n 0, 1, []), (1, .getfield 65, 3, [9, 0, 0, 258, 0, 9]), (4, .istore_n 2, 1, []), (5, .iload_n 2, 1, []), (6, .ifCond .lt 19, 3, [1]), (9, .iload_n 2, 1, []), (10, .aload_n 0, 1, []), (11, .getfield 27, 3, [2, 1, 0, 247, 0, 9]), (14, .arraylength, 1, []), (15, .if_icmp .ge 10, 3, [1]), (18, .aload_n 0, 1, []), (19, .getfield 27, 3, [2, 1, 0, 247, 0, 9]), (22, .iload_n 2, 1, []), (23, .aload_n 1, 1, []), (24, .aastore, 1, []), (25, .nop, 0, [1])],
  [(25, .aload_n 0, 1, []), (26, .dup, 1, []), (27, .getfield 65, 3, [9, 0, 0, 258, 0, 9]), (30, .iconst 1, 1, []), (31, .iadd, 1, []), (32, .putfield 65, 3, [9, 0, 0, 258, 0, 9]), (35, .iload_n 2, 1, []), (36, .ireturn, 1, [0])]]
def bl_218 : List Nat := [0, 25]
-- 219: FavourTown$Town.addNeed(III)V
def T_219 : List (List pEnt) := [[(0, .aload_n 0, 1, []), (1, .getfield 35, 3, [4, 1, 0, 249, 0, 9]), (4, .aload_n 0, 1, []), (5, .getfield 68, 3, [10, 0, 0, 260, 0, 9]), (8, .iload_n 1, 1, []), (9, .invokestatic 85, 3, [21, 3, 590, 0, 45]), (12, .aload_n 0, 1, []), (13, .getfield 38, 3, [5, 1, 0, 251, 0, 9]), (16, .aload_n 0, 1, []), (17, .getfield 68, 3, [10, 0, 0, 260, 0, 9]), (20, .iload_n 2, 1, []), (21, .invokestatic 85, 3, [21, 3, 590, 0, 45]), (24, .aload_n 0, 1, []), (25, .getfield 41, 3, [6, 1, 0, 253, 0, 9]), (28, .aload_n 0, 1, []), (29, .getfield 68, 3, [10, 0, 0, 260, 0, 9]), (32, .iload_n 3, 1, []), (33, .invokestatic 85, 3, [21, 3, 590, 0, 45]), (36, .aload_n 0, 1, []), (37, .dup, 1, []), (38, .getfield 68, 3, [10, 0, 0, 260, 0, 9]), (41, .iconst 1, 1, []), (42, .iadd, 1, []), (43, .putfield 68, 3, [10, 0, 0, 260, 0, 9]), (46, .return_, 1, [])]]
def bl_219 : List Nat := [0]
-- 220: FavourTown$Town.addRing([II)I
def T_220 : List (List pEnt) := [[(0, .aload_n 0, 1, []), (1, .getfield 71, 3, [11, 0, 0, 263, 0, 9]), (4, .istore_n 3, 1, []), (5, .aload_n 0, 1, []), (6, .getfield 44, 3, [7, 1, 0, 255, 0, 9]), (9, .iload_n 3, 1, []), (10, .iload_n 2, 1, []), (11, .invokestatic 85, 3, [21, 3, 590, 0, 45]), (14, .iconst 0, 1, []), (15, .istore 4, 2, []), (17, .nop, 0, [1])],
  [(17, .iload 4, 2, []), (19, .iload_n 2, 1, []), (20, .if_icmp .ge 32, 3, [2]), (23, .aload_n 0, 1, []), (24, .getfield 47, 3, [8, 1, 0, 257, 0, 9]), (27, .iload_n 3, 1, []), (28, .bipush 6, 2, []), (30, .imul, 1, []), (31, .iload 4, 2, []), (33, .iadd, 1, []), (34, .aload_n 1, 1, []), (35, .iload 4, 2, []), (37, .invokestatic 89, 3, [21, 2, 575, 0, 44]), (40, .bipush 97, 2, []), (42, .isub, 1, []), (43, .invokestatic 85, 3, [21, 3, 590, 0, 45]), (46, .iinc 4 1, 3, []), (49, .goto (-32), 3, [1])],
  [(52, .aload_n 0, 1, []), (53, .dup, 1, []), (54, .getfield 71, 3, [11, 0, 0, 263, 0, 9]), (57, .iconst 1, 1, []), (58, .iadd, 1, []), (59, .putfield 71, 3, [11, 0, 0, 263, 0, 9]), (62, .iload_n 3, 1, []), (63, .ireturn, 1, [0])]]
def bl_220 : List Nat := [0, 17, 52]
-- 221: FavourTown$Town.inRing(II)I
def T_221 : List (List pEnt) := [[(0, .iload_n 2, 1, []), (1, .aload_n 0, 1, []), (2, .getfield 44, 3, [7, 1, 0, 255, 0, 9]), (5, .iload_n 1, 1, []), (6, .invokestatic 89, 3, [21, 2, 575, 0, 44]), (9, .if_icmp .ge 7, 3, [1]), (12, .iload_n 2, 1, []), (13, .goto 4, 3, [2])],
  [(16, .iconst 0, 1, []), (17, .nop, 0, [2])],
  [(17, .istore_n 3, 1, []), (18, .aload_n 0, 1, []), (19, .getfield 47, 3, [8, 1, 0, 257, 0, 9]), (22, .iload_n 1, 1, []), (23, .bipush 6, 2, []), (25, .imul, 1, []), (26, .iload_n 3, 1, []), (27, .iadd, 1, []), (28, .invokestatic 89, 3, [21, 2, 575, 0, 44]), (31, .ireturn, 1, [0])]]
def bl_221 : List Nat := [0, 16, 17]
-- 222: FavourTown$Town.temperOf(I)LFavourTown$Temper;
def T_222 : List (List pEnt) := [[(0, .aload_n 0, 1, []), (1, .getfield 12, 3, [0, 1, 0, 236, 0, 9]), (4, .getfield 93, 3, [1, 1, 1, 159, 0, 2]), (7, .iload_n 1, 1, []), (8, .invokestatic 89, 3, [21, 2, 575, 0, 44]), (11, .istore_n 2, 1, []), (12, .iload_n 2, 1, []), (13, .ifCond .lt 21, 3, [1]), (16, .iload_n 2, 1, []), (17, .aload_n 0, 1, []), (18, .getfield 27, 3, [2, 1, 0, 247, 0, 9]), (21, .arraylength, 1, []), (22, .if_icmp .ge 12, 3, [1]), (25, .aload_n 0, 1, []), (26, .getfield 27, 3, [2, 1, 0, 247, 0, 9]), (29, .iload_n 2, 1, []), (30, .aaload, 1, []), (31, .goto 4, 3, [2])],
  [(34, .aconst_null, 1, []), (35, .nop, 0, [2])],
  [(35, .areturn, 1, [])]]
def bl_222 : List Nat := [0, 34, 35]
-- 223: FavourTown$Town.wouldTake(II)Z
def T_223 : List (List pEnt) := [[(0, .aload_n 0, 1, []), (1, .iload_n 1, 1, []), (2, .invokevirtual 96, 3, [10, 1, 615, 0, 9, 222]), (5, .astore_n 3, 1, []), (6, .aload_n 3, 1, []), (7, .ifnull 18, 3, [1]), (10, .aload_n 0, 1, []), (11, .getfield 21, 3, [1, 1, 0, 242, 0, 9]), (14, .getfield 100, 3, [5, 1, 1, 209, 0, 1]), (17, .iload_n 2, 1, []), (18, .invokestatic 89, 3, [21, 2, 575, 0, 44]), (21, .iconst 1, 1, []), (22, .if_icmp .ne 5, 3, [2]), (25, .nop, 0, [1])],
  [(25, .iconst 1, 1, []), (26, .ireturn, 1, [2])],
  [(27, .aload_n 0, 1, []), (28, .getfield 21, 3, [1, 1, 0, 242, 0, 9]), (31, .getfield 103, 3, [4, 1, 1, 206, 0, 1]), (34, .iload_n 2, 1, []), (35, .invokestatic 89, 3, [21, 2, 575, 0, 44]), (38, .istore 4, 2, []), (40, .aload_n 0, 1, []), (41, .sipush 1001, 3, []), (44, .aload_n 0, 1, []), (45, .getfield 21, 3, [1, 1, 0, 242, 0, 9]), (48, .getfield 106, 3, [2, 1, 1, 200, 0, 1]), (51, .iload_n 2, 1, []), (52, .invokestatic 89, 3, [21, 2, 575, 0, 44]), (55, .invokevirtual 109, 3, [10, 2, 619, 0, 9, 226]), (58, .aload_n 0, 1, []), (59, .sipush 1000, 3, []), (62, .aload_n 0, 1, []), (63, .getfield 21, 3, [1, 1, 0, 242, 0, 9]), (66, .iload_n 2, 1, []), (67, .iconst 1, 1, []), (68, .invokevirtual 113, 3, [10, 2, 583, 0, 1, 147]), (71, .sipush 1024, 3, []), (74, .idiv, 1, []), (75, .invokevirtual 109, 3, [10, 2, 619, 0, 9, 226]), (78, .aload_n 0, 1, []), (79, .sipush 1002, 3, []), (82, .aload_n 0, 1, []), (83, .getfield 21, 3, [1, 1, 0, 242, 0, 9]), (86, .getfield 117, 3, [3, 1, 1, 203, 0, 1]), (89, .iload_n 2, 1, []), (90, .invokestatic 89, 3, [21, 2, 575, 0, 44]), (93, .iconst 1, 1, []), (94, .iadd, 1, []), (95, .invokevirtual 109, 3, [10, 2, 619, 0, 9, 226]), (98, .aload_n 0, 1, []), (99, .sipush 1003, 3, []), (102, .iload 4, 2, []), (104, .iconst (-1), 1, []), (105, .if_icmp .ne 9, 3, [3]), (108, .sipush 999, 3, []), (111, .goto 10, 3, [4])],
  [(114, .iload 4, 2, []), (116, .aload_n 0, 1, []), (117, .getfield 77, 3, [13, 0, 0, 268, 0, 9]), (120, .isub, 1, []), (121, .nop, 0, [4])],
  [(121, .invokevirtual 109, 3, [10, 2, 619, 0, 9, 226]), (124, .aload_n 0, 1, []), (125, .sipush 1007, 3, []), (128, .iload 4, 2, []), (130, .iconst (-1), 1, []), (131, .if_icmp .eq 7, 3, [5]), (134, .iconst 1, 1, []), (135, .goto 4, 3, [6])],
  [(138, .iconst 0, 1, []), (139, .nop, 0, [6])],
  [(139, .invokestatic 120, 3, [21, 1, 623, 0, 49]), (142, .invokevirtual 109, 3, [10, 2, 619, 0, 9, 226]), (145, .aload_n 0, 1, []), (146, .sipush 1008, 3, []), (149, .aload_n 0, 1, []), (150, .getfield 21, 3, [1, 1, 0, 242, 0, 9]), (153, .iload_n 2, 1, []), (154, .iload_n 1, 1, []), (155, .invokevirtual 124, 3, [10, 2, 626, 0, 1, 150]), (158, .invokestatic 120, 3, [21, 1, 623, 0, 49]), (161, .invokevirtual 109, 3, [10, 2, 619, 0, 9, 226]), (164, .aload_n 0, 1, []), (165, .iload_n 1, 1, []), (166, .aload_n 0, 1, []), (167, .getfield 21, 3, [1, 1, 0, 242, 0, 9]), (170, .getfield 128, 3, [0, 1, 1, 194, 0, 1]), (173, .iload_n 2, 1, []), (174, .invokestatic 89, 3, [21, 2, 575, 0, 44]), (177, .invokevirtual 131, 3, [10, 2, 630, 0, 9, 225]), (180, .aload_n 3, 1, []), (181, .aload_n 0, 1, []), (182, .getfield 31, 3, [3, 1, 0, 248, 0, 9]), (185, .invokevirtual 134, 3, [10, 1, 634, 0, 7, 201]), (188, .ireturn, 1, [2])]]
def bl_223 : List Nat := [0, 25, 27, 114, 121, 138, 139]
-- 224: FavourTown$Town.wouldTakeNew(IIII)Z
def T_224 : List (List pEnt) := [[(0, .aload_n 0, 1, []), (1, .iload_n 1, 1, []), (2, .invokevirtual 96, 3, [10, 1, 615, 0, 9, 222]), (5, .astore 5, 2, []), (7, .aload 5, 2, []), (9, .ifnonnull 5, 3, [1]), (12, .iconst 1, 1, []), (13, .ireturn, 1, [2])],
  [(14, .aload_n 0, 1, []), (15, .sipush 1001, 3, []), (18, .iload_n 3, 1, []), (19, .invokevirtual 109, 3, [10, 2, 619, 0, 9, 226]), (22, .aload_n 0, 1, []), (23, .sipush 1000, 3, []), (26, .iload_n 3, 1, []), (27, .invokevirtual 109, 3, [10, 2, 619, 0, 9, 226]), (30, .aload_n 0, 1, []), (31, .sipush 1002, 3, []), (34, .iconst 0, 1, []), (35, .invokevirtual 109, 3, [10, 2, 619, 0, 9, 226]), (38, .aload_n 0, 1, []), (39, .sipush 1003, 3, []), (42, .iload 4, 2, []), (44, .ifCond .ne 9, 3, [2]), (47, .sipush 999, 3, []), (50, .goto 5, 3, [3])],
  [(53, .iload 4, 2, []), (55, .nop, 0, [3])],
  [(55, .invokevirtual 109, 3, [10, 2, 619, 0, 9, 226]), (58, .aload_n 0, 1, []), (59, .sipush 1007, 3, []), (62, .iload 4, 2, []), (64, .ifCond .eq 7, 3, [4]), (67, .iconst 1, 1, []), (68, .goto 4, 3, [5])],
  [(71, .iconst 0, 1, []), (72, .nop, 0, [5])],
  [(72, .invokestatic 120, 3, [21, 1, 623, 0, 49]), (75, .invokevirtual 109, 3, [10, 2, 619, 0, 9, 226]), (78, .aload_n 0, 1, []), (79, .sipush 1008, 3, []), (82, .iconst 0, 1, []), (83, .invokevirtual 109, 3, [10, 2, 619, 0, 9, 226]), (86, .aload_n 0, 1, []), (87, .iload_n 1, 1, []), (88, .iload_n 2, 1, []), (89, .invokevirtual 131, 3, [10, 2, 630, 0, 9, 225]), (92, .aload 5, 2, []), (94, .aload_n 0, 1, []), (95, .getfield 31, 3, [3, 1, 0, 248, 0, 9]), (98, .invokevirtual 134, 3, [10, 1, 634, 0, 7, 201]), (101, .ireturn, 1, [2])]]
def bl_224 : List Nat := [0, 14, 53, 55, 71, 72]
-- 225: FavourTown$Town.tellOfPeople(II)V
def T_225 : List (List pEnt) := [[(0, .aload_n 0, 1, []), (1, .sipush 1004, 3, []), (4, .aload_n 0, 1, []), (5, .getfield 12, 3, [0, 1, 0, 236, 0, 9]), (8, .getfield 138, 3, [3, 1, 1, 163, 0, 2]), (11, .iload_n 1, 1, []), (12, .invokestatic 89, 3, [21, 2, 575, 0, 44]), (15, .sipush 1024, 3, []), (18, .idiv, 1, []), (19, .invokevirtual 109, 3, [10, 2, 619, 0, 9, 226]), (22, .aload_n 0, 1, []), (23, .sipush 1005, 3, []), (26, .aload_n 0, 1, []), (27, .getfield 12, 3, [0, 1, 0, 236, 0, 9]), (30, .getfield 141, 3, [4, 1, 1, 166, 0, 2]), (33, .iload_n 2, 1, []), (34, .invokestatic 89, 3, [21, 2, 575, 0, 44]), (37, .invokevirtual 109, 3, [10, 2, 619, 0, 9, 226]), (40, .aload_n 0, 1, []), (41, .sipush 1006, 3, []), (44, .aload_n 0, 1, []), (45, .getfield 12, 3, [0, 1, 0, 236, 0, 9]), (48, .getfield 144, 3, [2, 1, 1, 161, 0, 2]), (51, .iload_n 1, 1, []), (52, .invokestatic 89, 3, [21, 2, 575, 0, 44]), (55, .iload_n 2, 1, []), (56, .invokestatic 147, 3, [21, 2, 576, 0, 48]), (59, .ifCond .eq 7, 3, [1]), (62, .iconst 1, 1, []), (63, .goto 4, 3, [2])],
  [(66, .iconst 0, 1, []), (67, .nop, 0, [2])],
  [(67, .invokevirtual 109, 3, [10, 2, 619, 0, 9, 226]), (70, .return_, 1, [])]]
def bl_225 : List Nat := [0, 66, 67]
-- 226: FavourTown$Town.tell(II)V
def T_226 : List (List pEnt) := [[(0, .iload_n 1, 1, []), (1, .sipush 1000, 3, []), (4, .isub, 1, []), (5, .istore_n 3, 1, []), (6, .iload_n 3, 1, []), (7, .ifCond .lt 19, 3, [1]), (10, .iload_n 3, 1, []), (11, .aload_n 0, 1, []), (12, .getfield 31, 3, [3, 1, 0, 248, 0, 9]), (15, .arraylength, 1, []), (16, .if_icmp .ge 10, 3, [1]), (19, .aload_n 0, 1, []), (20, .getfield 31, 3, [3, 1, 0, 248, 0, 9]), (23, .iload_n 3, 1, []), (24, .iload_n 2, 1, []), (25, .iastore, 1, []), (26, .nop, 0, [1])],
  [(26, .return_, 1, [])]]
def bl_226 : List Nat := [0, 26]
-- 227: FavourTown$Town.couldGive(IIIIZ)Z
def T_227 : List (List pEnt) := [[(0, .aload_n 0, 1, []), (1, .getfield 12, 3, [0, 1, 0, 236, 0, 9]), (4, .getfield 141, 3, [4, 1, 1, 166, 0, 2]), (7, .iload_n 1, 1, []), (8, .invokestatic 89, 3, [21, 2, 575, 0, 44]), (11, .iload_n 3, 1, []), (12, .iadd, 1, []), (13, .aload_n 0, 1, []), (14, .getfield 12, 3, [0, 1, 0, 236, 0, 9]), (17, .getfield 150, 3, [0, 1, 1, 156, 0, 2]), (20, .iload_n 1, 1, []), (21, .invokestatic 89, 3, [21, 2, 575, 0, 44]), (24, .if_icmp .gt 36, 3, [2]), (27, .aload_n 0, 1, []), (28, .getfield 21, 3, [1, 1, 0, 242, 0, 9]), (31, .getfield 153, 3, [7, 0, 1, 215, 0, 1]), (34, .bipush 40, 2, []), (36, .if_icmp .ge 24, 3, [2]), (39, .iload 5, 2, []), (41, .ifCond .ne 15, 3, [1]), (44, .aload_n 0, 1, []), (45, .iload_n 2, 1, []), (46, .iload_n 1, 1, []), (47, .iload_n 3, 1, []), (48, .iload 4, 2, []), (50, .invokevirtual 156, 3, [10, 4, 655, 0, 9, 224]), (53, .ifCond .eq 7, 3, [2]), (56, .nop, 0, [1])],
  [(56, .iconst 1, 1, []), (57, .goto 4, 3, [3])],
  [(60, .iconst 0, 1, []), (61, .nop, 0, [3])],
  [(61, .ireturn, 1, [2])]]
def bl_227 : List Nat := [0, 56, 60, 61]
-- 228: FavourTown$Town.giveFavour(IIIIZ)I
def T_228 : List (List pEnt) := [[(0, .aload_n 0, 1, []), (1, .iload_n 1, 1, []), (2, .iload_n 2, 1, []), (3, .iload_n 3, 1, []), (4, .iload 4, 2, []), (6, .iload 5, 2, []), (8, .invokevirtual 160, 3, [10, 5, 651, 0, 9, 227]), (11, .ifCond .ne 5, 3, [1]), (14, .iconst (-1), 1, []), (15, .ireturn, 1, [0])],
  [(16, .aload_n 0, 1, []), (17, .getfield 12, 3, [0, 1, 0, 236, 0, 9]), (20, .getfield 141, 3, [4, 1, 1, 166, 0, 2]), (23, .iload_n 1, 1, []), (24, .iload_n 3, 1, []), (25, .invokestatic 164, 3, [21, 3, 587, 0, 46]), (28, .aload_n 0, 1, []), (29, .getfield 12, 3, [0, 1, 0, 236, 0, 9]), (32, .getfield 138, 3, [3, 1, 1, 163, 0, 2]), (35, .iload_n 2, 1, []), (36, .iload_n 3, 1, []), (37, .sipush 1024, 3, []), (40, .imul, 1, []), (41, .invokestatic 164, 3, [21, 3, 587, 0, 46]), (44, .aload_n 0, 1, []), (45, .getfield 21, 3, [1, 1, 0, 242, 0, 9]), (48, .iload_n 1, 1, []), (49, .iload_n 2, 1, []), (50, .iload_n 3, 1, []), (51, .iload 4, 2, []), (53, .ifCond .ne 7, 3, [2]), (56, .iconst (-1), 1, []), (57, .goto 10, 3, [3])],
  [(60, .aload_n 0, 1, []), (61, .getfield 77, 3, [13, 0, 0, 268, 0, 9]), (64, .iload 4, 2, []), (66, .iadd, 1, []), (67, .nop, 0, [3])],
  [(67, .iload 5, 2, []), (69, .invokevirtual 167, 3, [10, 5, 912, 0, 1, 144]), (72, .ireturn, 1, [0])]]
def bl_228 : List Nat := [0, 16, 60, 67]
-- 229: FavourTown$Town.mayMove(I)Z
def T_229 : List (List pEnt) := [[(0, .aload_n 0, 1, []), (1, .getfield 21, 3, [1, 1, 0, 242, 0, 9]), (4, .iload_n 1, 1, []), (5, .invokevirtual 171, 3, [10, 1, 568, 0, 1, 146]), (8, .ifCond .ne 25, 3, [1]), (11, .aload_n 0, 1, []), (12, .getfield 21, 3, [1, 1, 0, 242, 0, 9]), (15, .getfield 117, 3, [3, 1, 1, 203, 0, 1]), (18, .iload_n 1, 1, []), (19, .invokestatic 89, 3, [21, 2, 575, 0, 44]), (22, .aload_n 0, 1, []), (23, .getfield 50, 3, [14, 0, 0, 270, 0, 9]), (26, .if_icmp .ge 7, 3, [1]), (29, .iconst 1, 1, []), (30, .goto 4, 3, [2])],
  [(33, .iconst 0, 1, []), (34, .nop, 0, [2])],
  [(34, .ireturn, 1, [2])]]
def bl_229 : List Nat := [0, 33, 34]
-- 230: FavourTown$Town.couldGoTo(II)Z
def T_230 : List (List pEnt) := [[(0, .aload_n 0, 1, []), (1, .iload_n 1, 1, []), (2, .invokevirtual 175, 3, [10, 1, 607, 0, 9, 229]), (5, .ifCond .eq 31, 3, [1]), (8, .aload_n 0, 1, []), (9, .getfield 21, 3, [1, 1, 0, 242, 0, 9]), (12, .getfield 128, 3, [0, 1, 1, 194, 0, 1]), (15, .iload_n 1, 1, []), (16, .invokestatic 89, 3, [21, 2, 575, 0, 44]), (19, .iload_n 2, 1, []), (20, .if_icmp .eq 16, 3, [1]), (23, .aload_n 0, 1, []), (24, .iload_n 2, 1, []), (25, .iload_n 1, 1, []), (26, .invokevirtual 178, 3, [10, 2, 611, 0, 9, 223]), (29, .ifCond .eq 7, 3, [1]), (32, .iconst 1, 1, []), (33, .goto 4, 3, [2])],
  [(36, .iconst 0, 1, []), (37, .nop, 0, [2])],
  [(37, .ireturn, 1, [2])]]
def bl_230 : List Nat := [0, 36, 37]
-- 231: FavourTown$Town.passFavour(II)I
def T_231 : List (List pEnt) := [[(0, .aload_n 0, 1, []), (1, .getfield 21, 3, [1, 1, 0, 242, 0, 9]), (4, .getfield 181, 3, [1, 1, 1, 198, 0, 1]), (7, .iload_n 1, 1, []), (8, .invokestatic 89, 3, [21, 2, 575, 0, 44]), (11, .istore_n 3, 1, []), (12, .aload_n 0, 1, []), (13, .getfield 21, 3, [1, 1, 0, 242, 0, 9]), (16, .getfield 128, 3, [0, 1, 1, 194, 0, 1]), (19, .iload_n 1, 1, []), (20, .invokestatic 89, 3, [21, 2, 575, 0, 44]), (23, .iload_n 2, 1, []), (24, .if_icmp .ne 7, 3, [1]), (27, .iconst 1, 1, []), (28, .goto 4, 3, [2])],
  [(31, .iconst 0, 1, []), (32, .nop, 0, [2])],
  [(32, .istore 4, 2, []), (34, .iload_n 3, 1, []), (35, .iload_n 2, 1, []), (36, .if_icmp .eq 28, 3, [4]), (39, .iload 4, 2, []), (41, .ifCond .eq 14, 3, [3]), (44, .aload_n 0, 1, []), (45, .iload_n 1, 1, []), (46, .invokevirtual 175, 3, [10, 1, 607, 0, 9, 229]), (49, .ifCond .eq 15, 3, [4]), (52, .goto 14, 3, [5])],
  [(55, .aload_n 0, 1, []), (56, .iload_n 1, 1, []), (57, .iload_n 2, 1, []), (58, .invokevirtual 184, 3, [10, 2, 603, 0, 9, 230]), (61, .ifCond .ne 5, 3, [5]), (64, .nop, 0, [4])],
  [(64, .iconst (-1), 1, []), (65, .ireturn, 1, [0])],
  [(66, .aload_n 0, 1, []), (67, .getfield 12, 3, [0, 1, 0, 236, 0, 9]), (70, .getfield 138, 3, [3, 1, 1, 163, 0, 2]), (73, .iload_n 3, 1, []), (74, .aload_n 0, 1, []), (75, .getfield 21, 3, [1, 1, 0, 242, 0, 9]), (78, .iload_n 1, 1, []), (79, .iconst 0, 1, []), (80, .invokevirtual 113, 3, [10, 2, 583, 0, 1, 147]), (83, .ineg, 1, []), (84, .invokestatic 164, 3, [21, 3, 587, 0, 46]), (87, .aload_n 0, 1, []), (88, .getfield 21, 3, [1, 1, 0, 242, 0, 9]), (91, .iload_n 1, 1, []), (92, .iload_n 2, 1, []), (93, .invokevirtual 187, 3, [10, 2, 921, 0, 1, 145]), (96, .aload_n 0, 1, []), (97, .getfield 12, 3, [0, 1, 0, 236, 0, 9]), (100, .getfield 138, 3, [3, 1, 1, 163, 0, 2]), (103, .iload_n 2, 1, []), (104, .aload_n 0, 1, []), (105, .getfield 21, 3, [1, 1, 0, 242, 0, 9]), (108, .iload_n 1, 1, []), (109, .iconst 0, 1, []), (110, .invokevirtual 113, 3, [10, 2, 583, 0, 1, 147]), (113, .invokestatic 164, 3, [21, 3, 587, 0, 46]), (116, .iload 4, 2, []), (118, .ifCond .eq 10, 3, [6]), (121, .aload_n 0, 1, []), (122, .iload_n 1, 1, []), (123, .invokevirtual 190, 3, [10, 1, 579, 0, 9, 233]), (126, .iconst 0, 1, []), (127, .ireturn, 1, [0])],
  [(128, .aload_n 0, 1, []), (129, .getfield 21, 3, [1, 1, 0, 242, 0, 9]), (132, .iload_n 1, 1, []), (133, .iconst 0, 1, []), (134, .invokevirtual 113, 3, [10, 2, 583, 0, 1, 147]), (137, .ireturn, 1, [0])]]
def bl_231 : List Nat := [0, 31, 32, 55, 64, 66, 128]
-- 232: FavourTown$Town.callIn(I)I
def T_232 : List (List pEnt) := [[(0, .aload_n 0, 1, []), (1, .getfield 21, 3, [1, 1, 0, 242, 0, 9]), (4, .iload_n 1, 1, []), (5, .invokevirtual 171, 3, [10, 1, 568, 0, 1, 146]), (8, .ifCond .eq 5, 3, [1]), (11, .iconst (-1), 1, []), (12, .ireturn, 1, [0])],
  [(13, .aload_n 0, 1, []), (14, .iload_n 1, 1, []), (15, .invokevirtual 190, 3, [10, 1, 579, 0, 9, 233]), (18, .aload_n 0, 1, []), (19, .getfield 21, 3, [1, 1, 0, 242, 0, 9]), (22, .iload_n 1, 1, []), (23, .iconst 0, 1, []), (24, .invokevirtual 113, 3, [10, 2, 583, 0, 1, 147]), (27, .ireturn, 1, [0])]]
def bl_232 : List Nat := [0, 13]
-- 233: FavourTown$Town.vanish(I)V
def T_233 : List (List pEnt) := [[(0, .aload_n 0, 1, []), (1, .getfield 12, 3, [0, 1, 0, 236, 0, 9]), (4, .getfield 138, 3, [3, 1, 1, 163, 0, 2]), (7, .aload_n 0, 1, []), (8, .getfield 21, 3, [1, 1, 0, 242, 0, 9]), (11, .getfield 181, 3, [1, 1, 1, 198, 0, 1]), (14, .iload_n 1, 1, []), (15, .invokestatic 89, 3, [21, 2, 575, 0, 44]), (18, .aload_n 0, 1, []), (19, .getfield 21, 3, [1, 1, 0, 242, 0, 9]), (22, .iload_n 1, 1, []), (23, .iconst 0, 1, []), (24, .invokevirtual 113, 3, [10, 2, 583, 0, 1, 147]), (27, .ineg, 1, []), (28, .invokestatic 164, 3, [21, 3, 587, 0, 46]), (31, .aload_n 0, 1, []), (32, .getfield 12, 3, [0, 1, 0, 236, 0, 9]), (35, .getfield 141, 3, [4, 1, 1, 166, 0, 2]), (38, .aload_n 0, 1, []), (39, .getfield 21, 3, [1, 1, 0, 242, 0, 9]), (42, .getfield 128, 3, [0, 1, 1, 194, 0, 1]), (45, .iload_n 1, 1, []), (46, .invokestatic 89, 3, [21, 2, 575, 0, 44]), (49, .aload_n 0, 1, []), (50, .getfield 21, 3, [1, 1, 0, 242, 0, 9]), (53, .getfield 106, 3, [2, 1, 1, 200, 0, 1]), (56, .iload_n 1, 1, []), (57, .invokestatic 89, 3, [21, 2, 575, 0, 44]), (60, .ineg, 1, []), (61, .invokestatic 164, 3, [21, 3, 587, 0, 46]), (64, .aload_n 0, 1, []), (65, .getfield 21, 3, [1, 1, 0, 242, 0, 9]), (68, .getfield 181, 3, [1, 1, 1, 198, 0, 1]), (71, .iload_n 1, 1, []), (72, .iconst (-1), 1, []), (73, .invokestatic 85, 3, [21, 3, 590, 0, 45]), (76, .return_, 1, [])]]
def bl_233 : List Nat := [0]
-- 234: FavourTown$Town.letDaysPass(I)I
def T_234 : List (List pEnt) := [[(0, .aload_n 0, 1, []), (1, .dup, 1, []), (2, .getfield 77, 3, [13, 0, 0, 268, 0, 9]), (5, .iload_n 1, 1, []), (6, .iadd, 1, []), (7, .putfield 77, 3, [13, 0, 0, 268, 0, 9]), (10, .iconst 0, 1, []), (11, .istore_n 2, 1, []), (12, .iconst 0, 1, []), (13, .istore_n 3, 1, []), (14, .nop, 0, [1])],
  [(14, .iload_n 3, 1, []), (15, .aload_n 0, 1, []), (16, .getfield 21, 3, [1, 1, 0, 242, 0, 9]), (19, .getfield 153, 3, [7, 0, 1, 215, 0, 1]), (22, .if_icmp .ge 56, 3, [3]), (25, .aload_n 0, 1, []), (26, .getfield 21, 3, [1, 1, 0, 242, 0, 9]), (29, .getfield 103, 3, [4, 1, 1, 206, 0, 1]), (32, .iload_n 3, 1, []), (33, .invokestatic 89, 3, [21, 2, 575, 0, 44]), (36, .istore 4, 2, []), (38, .aload_n 0, 1, []), (39, .getfield 21, 3, [1, 1, 0, 242, 0, 9]), (42, .iload_n 3, 1, []), (43, .invokevirtual 171, 3, [10, 1, 568, 0, 1, 146]), (46, .ifCond .ne 26, 3, [2]), (49, .iload 4, 2, []), (51, .iconst (-1), 1, []), (52, .if_icmp .eq 20, 3, [2]), (55, .iload 4, 2, []), (57, .aload_n 0, 1, []), (58, .getfield 77, 3, [13, 0, 0, 268, 0, 9]), (61, .if_icmp .gt 11, 3, [2]), (64, .aload_n 0, 1, []), (65, .iload_n 3, 1, []), (66, .invokevirtual 190, 3, [10, 1, 579, 0, 9, 233]), (69, .iinc 2 1, 3, []), (72, .nop, 0, [2])],
  [(72, .iinc 3 1, 3, []), (75, .goto (-61), 3, [1])],
  [(78, .iload_n 2, 1, []), (79, .ireturn, 1, [0])]]
def bl_234 : List Nat := [0, 14, 72, 78]
-- 235: FavourTown$Town.letGo(I)I
def T_235 : List (List pEnt) := [[(0, .iconst 0, 1, []), (1, .istore_n 2, 1, []), (2, .iconst 0, 1, []), (3, .istore_n 3, 1, []), (4, .nop, 0, [1])],
  [(4, .iload_n 3, 1, []), (5, .aload_n 0, 1, []), (6, .getfield 21, 3, [1, 1, 0, 242, 0, 9]), (9, .getfield 153, 3, [7, 0, 1, 215, 0, 1]), (12, .if_icmp .ge 46, 3, [3]), (15, .aload_n 0, 1, []), (16, .getfield 21, 3, [1, 1, 0, 242, 0, 9]), (19, .iload_n 3, 1, []), (20, .invokevirtual 171, 3, [10, 1, 568, 0, 1, 146]), (23, .ifCond .ne 29, 3, [2]), (26, .iload_n 1, 1, []), (27, .aload_n 0, 1, []), (28, .getfield 21, 3, [1, 1, 0, 242, 0, 9]), (31, .getfield 181, 3, [1, 1, 1, 198, 0, 1]), (34, .iload_n 3, 1, []), (35, .invokestatic 89, 3, [21, 2, 575, 0, 44]), (38, .invokestatic 147, 3, [21, 2, 576, 0, 48]), (41, .ifCond .eq 11, 3, [2]), (44, .aload_n 0, 1, []), (45, .iload_n 3, 1, []), (46, .invokevirtual 190, 3, [10, 1, 579, 0, 9, 233]), (49, .iinc 2 1, 3, []), (52, .nop, 0, [2])],
  [(52, .iinc 3 1, 3, []), (55, .goto (-51), 3, [1])],
  [(58, .iload_n 2, 1, []), (59, .ireturn, 1, [0])]]
def bl_235 : List Nat := [0, 4, 52, 58]
-- 236: FavourTown$Town.favourToPay(III)I
def T_236 : List (List pEnt) := [[(0, .iconst (-1), 1, []), (1, .istore 4, 2, []), (3, .iconst 0, 1, []), (4, .istore 5, 2, []), (6, .nop, 0, [1])],
  [(6, .iload 5, 2, []), (8, .aload_n 0, 1, []), (9, .getfield 21, 3, [1, 1, 0, 242, 0, 9]), (12, .getfield 153, 3, [7, 0, 1, 215, 0, 1]), (15, .if_icmp .ge 94, 3, [6]), (18, .aload_n 0, 1, []), (19, .getfield 21, 3, [1, 1, 0, 242, 0, 9]), (22, .iload 5, 2, []), (24, .iconst 1, 1, []), (25, .invokevirtual 113, 3, [10, 2, 583, 0, 1, 147]), (28, .istore 6, 2, []), (30, .iload 6, 2, []), (32, .iload_n 3, 1, []), (33, .sipush 1024, 3, []), (36, .imul, 1, []), (37, .if_icmp .lt 28, 3, [3]), (40, .iload 4, 2, []), (42, .iconst (-1), 1, []), (43, .if_icmp .eq 18, 3, [2]), (46, .iload 6, 2, []), (48, .aload_n 0, 1, []), (49, .getfield 21, 3, [1, 1, 0, 242, 0, 9]), (52, .iload 4, 2, []), (54, .iconst 1, 1, []), (55, .invokevirtual 113, 3, [10, 2, 583, 0, 1, 147]), (58, .if_icmp .ge 7, 3, [3]), (61, .nop, 0, [2])],
  [(61, .iconst 1, 1, []), (62, .goto 4, 3, [4])],
  [(65, .iconst 0, 1, []), (66, .nop, 0, [4])],
  [(66, .istore 7, 2, []), (68, .iload 7, 2, []), (70, .ifCond .eq 33, 3, [5]), (73, .aload_n 0, 1, []), (74, .getfield 21, 3, [1, 1, 0, 242, 0, 9]), (77, .getfield 181, 3, [1, 1, 1, 198, 0, 1]), (80, .iload 5, 2, []), (82, .invokestatic 89, 3, [21, 2, 575, 0, 44]), (85, .iload_n 1, 1, []), (86, .if_icmp .ne 17, 3, [5]), (89, .aload_n 0, 1, []), (90, .iload 5, 2, []), (92, .iload_n 2, 1, []), (93, .invokevirtual 184, 3, [10, 2, 603, 0, 9, 230]), (96, .ifCond .eq 7, 3, [5]), (99, .iload 5, 2, []), (101, .istore 4, 2, []), (103, .nop, 0, [5])],
  [(103, .iinc 5 1, 3, []), (106, .goto (-100), 3, [1])],
  [(109, .iload 4, 2, []), (111, .ireturn, 1, [0])]]
def bl_236 : List Nat := [0, 6, 61, 65, 66, 103, 109]
-- 237: FavourTown$Town.couldMeet(I)Z
def T_237 : List (List pEnt) := [[(0, .aload_n 0, 1, []), (1, .getfield 35, 3, [4, 1, 0, 249, 0, 9]), (4, .iload_n 1, 1, []), (5, .invokestatic 89, 3, [21, 2, 575, 0, 44]), (8, .istore_n 2, 1, []), (9, .aload_n 0, 1, []), (10, .getfield 38, 3, [5, 1, 0, 251, 0, 9]), (13, .iload_n 1, 1, []), (14, .invokestatic 89, 3, [21, 2, 575, 0, 44]), (17, .istore_n 3, 1, []), (18, .aload_n 0, 1, []), (19, .getfield 41, 3, [6, 1, 0, 253, 0, 9]), (22, .iload_n 1, 1, []), (23, .invokestatic 89, 3, [21, 2, 575, 0, 44]), (26, .istore 4, 2, []), (28, .aload_n 0, 1, []), (29, .iload_n 2, 1, []), (30, .iload_n 3, 1, []), (31, .iload 4, 2, []), (33, .invokevirtual 194, 3, [10, 3, 599, 0, 9, 236]), (36, .iconst (-1), 1, []), (37, .if_icmp .ne 16, 3, [1]), (40, .aload_n 0, 1, []), (41, .iload_n 2, 1, []), (42, .iload_n 3, 1, []), (43, .iload 4, 2, []), (45, .iconst 0, 1, []), (46, .iconst 0, 1, []), (47, .invokevirtual 160, 3, [10, 5, 651, 0, 9, 227]), (50, .ifCond .eq 7, 3, [2]), (53, .nop, 0, [1])],
  [(53, .iconst 1, 1, []), (54, .goto 4, 3, [3])],
  [(57, .iconst 0, 1, []), (58, .nop, 0, [3])],
  [(58, .ireturn, 1, [2])]]
def bl_237 : List Nat := [0, 53, 57, 58]
-- 238: FavourTown$Town.settle(III)I
def T_238 : List (List pEnt) := [[(0, .aload_n 0, 1, []), (1, .iload_n 1, 1, []), (2, .iload_n 2, 1, []), (3, .iload_n 3, 1, []), (4, .invokevirtual 194, 3, [10, 3, 599, 0, 9, 236]), (7, .istore 4, 2, []), (9, .iload 4, 2, []), (11, .iconst (-1), 1, []), (12, .if_icmp .ne 13, 3, [1]), (15, .aload_n 0, 1, []), (16, .iload_n 1, 1, []), (17, .iload_n 2, 1, []), (18, .iload_n 3, 1, []), (19, .iconst 0, 1, []), (20, .iconst 0, 1, []), (21, .invokevirtual 198, 3, [10, 5, 1265, 0, 9, 228]), (24, .ireturn, 1, [0])],
  [(25, .aload_n 0, 1, []), (26, .iload 4, 2, []), (28, .iload_n 2, 1, []), (29, .invokevirtual 201, 3, [10, 2, 1266, 0, 9, 231]), (32, .pop, 1, []), (33, .iload 4, 2, []), (35, .ireturn, 1, [0])]]
def bl_238 : List Nat := [0, 25]
-- 239: FavourTown$Town.firstUnmet()I
def T_239 : List (List pEnt) := [[(0, .iconst 0, 1, []), (1, .istore_n 1, 1, []), (2, .nop, 0, [1])],
  [(2, .iload_n 1, 1, []), (3, .aload_n 0, 1, []), (4, .getfield 68, 3, [10, 0, 0, 260, 0, 9]), (7, .if_icmp .ge 19, 3, [3]), (10, .aload_n 0, 1, []), (11, .iload_n 1, 1, []), (12, .invokevirtual 204, 3, [10, 1, 595, 0, 9, 237]), (15, .ifCond .ne 5, 3, [2]), (18, .iload_n 1, 1, []), (19, .ireturn, 1, [0])],
  [(20, .iinc 1 1, 3, []), (23, .goto (-21), 3, [1])],
  [(26, .iconst (-1), 1, []), (27, .ireturn, 1, [0])]]
def bl_239 : List Nat := [0, 2, 20, 26]
-- 240: FavourTown$Town.portBetween(II)I
def T_240 : List (List pEnt) := [[(0, .iconst 0, 1, []), (1, .istore_n 3, 1, []), (2, .iconst 0, 1, []), (3, .istore 4, 2, []), (5, .nop, 0, [1])],
  [(5, .iload 4, 2, []), (7, .aload_n 0, 1, []), (8, .getfield 21, 3, [1, 1, 0, 242, 0, 9]), (11, .getfield 153, 3, [7, 0, 1, 215, 0, 1]), (14, .if_icmp .ge 52, 3, [3]), (17, .aload_n 0, 1, []), (18, .getfield 21, 3, [1, 1, 0, 242, 0, 9]), (21, .getfield 181, 3, [1, 1, 1, 198, 0, 1]), (24, .iload 4, 2, []), (26, .invokestatic 89, 3, [21, 2, 575, 0, 44]), (29, .iload_n 1, 1, []), (30, .if_icmp .ne 30, 3, [2]), (33, .aload_n 0, 1, []), (34, .iload 4, 2, []), (36, .iload_n 2, 1, []), (37, .invokevirtual 184, 3, [10, 2, 603, 0, 9, 230]), (40, .ifCond .eq 20, 3, [2]), (43, .iload_n 3, 1, []), (44, .aload_n 0, 1, []), (45, .getfield 21, 3, [1, 1, 0, 242, 0, 9]), (48, .iload 4, 2, []), (50, .iconst 1, 1, []), (51, .invokevirtual 113, 3, [10, 2, 583, 0, 1, 147]), (54, .sipush 1024, 3, []), (57, .idiv, 1, []), (58, .iadd, 1, []), (59, .istore_n 3, 1, []), (60, .nop, 0, [2])],
  [(60, .iinc 4 1, 3, []), (63, .goto (-58), 3, [1])],
  [(66, .iload_n 3, 1, []), (67, .ireturn, 1, [0])]]
def bl_240 : List Nat := [0, 5, 60, 66]
-- 241: FavourTown$TownText.<init>([ILFavourTown$Town;)V
def T_241 : List (List pEnt) := [[(0, .aload_n 0, 1, []), (1, .aload_n 1, 1, []), (2, .ldc 7, 2, [1, 900001]), (4, .bipush 14, 2, []), (6, .invokespecial 9, 3, [14, 3, 310, 0, 10, 179]), (9, .aload_n 0, 1, []), (10, .aload_n 2, 1, []), (11, .putfield 13, 3, [10, 1, 0, 314, 0, 10]), (14, .return_, 1, [])]]
def bl_241 : List Nat := [0]
-- 242: FavourTown$TownText.readLine()Z
def T_242 : List (List pEnt) := [[(0, .aload_n 0, 1, []), (1, .invokevirtual 17, 3, [10, 0, 856, 0, 10, 243]), (4, .ifCond .eq 10, 3, [1]), (7, .aload_n 0, 1, []), (8, .invokevirtual 21, 3, [10, 0, 866, 0, 10, 244]), (11, .ifCond .ne 5, 3, [2]), (14, .nop, 0, [1])],
  [(14, .iconst 0, 1, []), (15, .ireturn, 1, [2])],
  [(16, .aload_n 0, 1, []), (17, .getfield 24, 3, [11, 0, 0, 315, 0, 10]), (20, .tableswitch 176 1000 1006 #[44, 61, 82, 96, 127, 146, 161], 44, [10, 3, 4, 5, 6, 7, 8, 9])],
  [(64, .aload_n 0, 1, []), (65, .getfield 13, 3, [10, 1, 0, 314, 0, 10]), (68, .getfield 28, 3, [0, 1, 1, 240, 0, 9]), (71, .aload_n 0, 1, []), (72, .getfield 34, 3, [15, 0, 0, 319, 0, 10]), (75, .invokevirtual 37, 3, [10, 1, 899, 0, 2, 160]), (78, .goto 137, 3, [11])],
  [(81, .aload_n 0, 1, []), (82, .getfield 13, 3, [10, 1, 0, 314, 0, 10]), (85, .getfield 28, 3, [0, 1, 1, 240, 0, 9]), (88, .aload_n 0, 1, []), (89, .getfield 43, 3, [13, 0, 0, 317, 0, 10]), (92, .aload_n 0, 1, []), (93, .getfield 46, 3, [14, 0, 0, 318, 0, 10]), (96, .invokevirtual 49, 3, [10, 2, 904, 0, 2, 161]), (99, .goto 116, 3, [11])],
  [(102, .aload_n 0, 1, []), (103, .getfield 13, 3, [10, 1, 0, 314, 0, 10]), (106, .aload_n 0, 1, []), (107, .getfield 34, 3, [15, 0, 0, 319, 0, 10]), (110, .putfield 53, 3, [14, 0, 1, 271, 0, 9]), (113, .goto 102, 3, [11])],
  [(116, .aload_n 0, 1, []), (117, .getfield 13, 3, [10, 1, 0, 314, 0, 10]), (120, .aload_n 0, 1, []), (121, .getfield 43, 3, [13, 0, 0, 317, 0, 10]), (124, .aload_n 0, 1, []), (125, .getfield 46, 3, [14, 0, 0, 318, 0, 10]), (128, .aload_n 0, 1, []), (129, .getfield 34, 3, [15, 0, 0, 319, 0, 10]), (132, .aload_n 0, 1, []), (133, .getfield 56, 3, [16, 0, 0, 320, 0, 10]), (136, .aload_n 0, 1, []), (137, .getfield 59, 3, [17, 2, 0, 321, 0, 10]), (140, .invokevirtual 63, 3, [10, 5, 908, 0, 9, 228]), (143, .pop, 1, []), (144, .goto 71, 3, [11])],
  [(147, .aload_n 0, 1, []), (148, .getfield 13, 3, [10, 1, 0, 314, 0, 10]), (151, .aload_n 0, 1, []), (152, .getfield 67, 3, [12, 0, 0, 316, 0, 10]), (155, .aload_n 0, 1, []), (156, .getfield 43, 3, [13, 0, 0, 317, 0, 10]), (159, .invokevirtual 70, 3, [10, 2, 917, 0, 9, 231]), (162, .pop, 1, []), (163, .goto 52, 3, [11])],
  [(166, .aload_n 0, 1, []), (167, .getfield 13, 3, [10, 1, 0, 314, 0, 10]), (170, .aload_n 0, 1, []), (171, .getfield 67, 3, [12, 0, 0, 316, 0, 10]), (174, .invokevirtual 74, 3, [10, 1, 930, 0, 9, 232]), (177, .pop, 1, []), (178, .goto 37, 3, [11])],
  [(181, .aload_n 0, 1, []), (182, .getfield 13, 3, [10, 1, 0, 314, 0, 10]), (185, .aload_n 0, 1, []), (186, .getfield 34, 3, [15, 0, 0, 319, 0, 10]), (189, .invokevirtual 78, 3, [10, 1, 934, 0, 9, 234]), (192, .pop, 1, []), (193, .goto 22, 3, [11])],
  [(196, .aload_n 0, 1, []), (197, .getfield 13, 3, [10, 1, 0, 314, 0, 10]), (200, .aload_n 0, 1, []), (201, .getfield 43, 3, [13, 0, 0, 317, 0, 10]), (204, .aload_n 0, 1, []), (205, .getfield 46, 3, [14, 0, 0, 318, 0, 10]), (208, .aload_n 0, 1, []), (209, .getfield 34, 3, [15, 0, 0, 319, 0, 10]), (212, .invokevirtual 81, 3, [10, 3, 938, 0, 9, 219]), (215, .nop, 0, [11])],
  [(215, .iconst 1, 1, []), (216, .ireturn, 1, [2])]]
def bl_242 : List Nat := [0, 14, 16, 64, 81, 102, 116, 147, 166, 181, 196, 215]
-- 243: FavourTown$TownText.readVerb()Z
def T_243 : List (List pEnt) := [[(0, .aload_n 0, 1, []), (1, .getfield 85, 3, [7, 0, 0, 329, 330, 10]), (4, .sipush 1000, 3, []), (7, .if_icmp .ne 18, 3, [1]), (10, .aload_n 0, 1, []), (11, .getfield 13, 3, [10, 1, 0, 314, 0, 10]), (14, .getfield 28, 3, [0, 1, 1, 240, 0, 9]), (17, .getfield 88, 3, [5, 0, 1, 172, 0, 2]), (20, .bipush 12, 2, []), (22, .if_icmp .ge 25, 3, [2]), (25, .nop, 0, [1])],
  [(25, .aload_n 0, 1, []), (26, .getfield 85, 3, [7, 0, 0, 329, 330, 10]), (29, .sipush 1007, 3, []), (32, .if_icmp .ne 19, 3, [3]), (35, .aload_n 0, 1, []), (36, .getfield 13, 3, [10, 1, 0, 314, 0, 10]), (39, .getfield 91, 3, [10, 0, 1, 261, 0, 9]), (42, .bipush 12, 2, []), (44, .if_icmp .lt 7, 3, [3]), (47, .nop, 0, [2])],
  [(47, .iconst 1, 1, []), (48, .goto 4, 3, [4])],
  [(51, .iconst 0, 1, []), (52, .nop, 0, [4])],
  [(52, .istore_n 1, 1, []), (53, .iload_n 1, 1, []), (54, .ifCond .ne 23, 3, [5]), (57, .aload_n 0, 1, []), (58, .getfield 85, 3, [7, 0, 0, 329, 330, 10]), (61, .sipush 1000, 3, []), (64, .if_icmp .lt 13, 3, [5]), (67, .aload_n 0, 1, []), (68, .getfield 85, 3, [7, 0, 0, 329, 330, 10]), (71, .sipush 1007, 3, []), (74, .if_icmp .le 8, 3, [6]), (77, .nop, 0, [5])],
  [(77, .aload_n 0, 1, []), (78, .invokevirtual 94, 3, [17, 0, 860, 861, 10, 189]), (81, .ireturn, 1, [2])],
  [(82, .aload_n 0, 1, []), (83, .aload_n 0, 1, []), (84, .getfield 85, 3, [7, 0, 0, 329, 330, 10]), (87, .putfield 24, 3, [11, 0, 0, 315, 0, 10]), (90, .aload_n 0, 1, []), (91, .invokevirtual 97, 3, [17, 0, 863, 864, 10, 186]), (94, .iconst 1, 1, []), (95, .ireturn, 1, [2])]]
def bl_243 : List Nat := [0, 25, 47, 51, 52, 77, 82]
-- 244: FavourTown$TownText.readParts()Z
def T_244 : List (List pEnt) := [[(0, .aload_n 0, 1, []), (1, .getfield 24, 3, [11, 0, 0, 315, 0, 10]), (4, .tableswitch 129 1000 1006 #[44, 53, 73, 81, 86, 116, 121], 44, [12, 1, 2, 5, 6, 7, 10, 11])],
  [(48, .aload_n 0, 1, []), (49, .iconst 0, 1, []), (50, .sipush 999, 3, []), (53, .invokevirtual 101, 3, [10, 2, 870, 0, 10, 246]), (56, .ireturn, 1, [2])],
  [(57, .aload_n 0, 1, []), (58, .invokevirtual 105, 3, [10, 0, 880, 0, 10, 248]), (61, .ifCond .eq 14, 3, [3]), (64, .aload_n 0, 1, []), (65, .invokevirtual 108, 3, [10, 0, 884, 0, 10, 249]), (68, .ifCond .eq 7, 3, [3]), (71, .iconst 1, 1, []), (72, .goto 4, 3, [4])],
  [(75, .iconst 0, 1, []), (76, .nop, 0, [4])],
  [(76, .ireturn, 1, [2])],
  [(77, .aload_n 0, 1, []), (78, .iconst 0, 1, []), (79, .bipush 10, 2, []), (81, .invokevirtual 101, 3, [10, 2, 870, 0, 10, 246]), (84, .ireturn, 1, [2])],
  [(85, .aload_n 0, 1, []), (86, .invokevirtual 111, 3, [10, 0, 888, 0, 10, 245]), (89, .ireturn, 1, [2])],
  [(90, .aload_n 0, 1, []), (91, .invokevirtual 114, 3, [10, 0, 895, 0, 10, 247]), (94, .ifCond .eq 24, 3, [8]), (97, .aload_n 0, 1, []), (98, .sipush 1008, 3, []), (101, .invokevirtual 117, 3, [17, 1, 892, 893, 10, 187]), (104, .ifCond .eq 14, 3, [8]), (107, .aload_n 0, 1, []), (108, .invokevirtual 105, 3, [10, 0, 880, 0, 10, 248]), (111, .ifCond .eq 7, 3, [8]), (114, .iconst 1, 1, []), (115, .goto 4, 3, [9])],
  [(118, .iconst 0, 1, []), (119, .nop, 0, [9])],
  [(119, .ireturn, 1, [2])],
  [(120, .aload_n 0, 1, []), (121, .invokevirtual 114, 3, [10, 0, 895, 0, 10, 247]), (124, .ireturn, 1, [2])],
  [(125, .aload_n 0, 1, []), (126, .iconst 1, 1, []), (127, .bipush 99, 2, []), (129, .invokevirtual 101, 3, [10, 2, 870, 0, 10, 246]), (132, .ireturn, 1, [2])],
  [(133, .aload_n 0, 1, []), (134, .invokevirtual 105, 3, [10, 0, 880, 0, 10, 248]), (137, .ifCond .eq 34, 3, [13]), (140, .aload_n 0, 1, []), (141, .sipush 1009, 3, []), (144, .invokevirtual 117, 3, [17, 1, 892, 893, 10, 187]), (147, .ifCond .eq 24, 3, [13]), (150, .aload_n 0, 1, []), (151, .invokevirtual 108, 3, [10, 0, 884, 0, 10, 249]), (154, .ifCond .eq 17, 3, [13]), (157, .aload_n 0, 1, []), (158, .iconst 1, 1, []), (159, .bipush 99, 2, []), (161, .invokevirtual 101, 3, [10, 2, 870, 0, 10, 246]), (164, .ifCond .eq 7, 3, [13]), (167, .iconst 1, 1, []), (168, .goto 4, 3, [14])],
  [(171, .iconst 0, 1, []), (172, .nop, 0, [14])],
  [(172, .ireturn, 1, [2])]]
def bl_244 : List Nat := [0, 48, 57, 75, 76, 77, 85, 90, 118, 119, 120, 125, 133, 171, 172]
-- 245: FavourTown$TownText.readGift()Z
def T_245 : List (List pEnt) := [[(0, .aload_n 0, 1, []), (1, .invokevirtual 105, 3, [10, 0, 880, 0, 10, 248]), (4, .ifCond .eq 30, 3, [1]), (7, .aload_n 0, 1, []), (8, .sipush 1008, 3, []), (11, .invokevirtual 117, 3, [17, 1, 892, 893, 10, 187]), (14, .ifCond .eq 20, 3, [1]), (17, .aload_n 0, 1, []), (18, .invokevirtual 108, 3, [10, 0, 884, 0, 10, 249]), (21, .ifCond .eq 13, 3, [1]), (24, .aload_n 0, 1, []), (25, .iconst 1, 1, []), (26, .bipush 99, 2, []), (28, .invokevirtual 101, 3, [10, 2, 870, 0, 10, 246]), (31, .ifCond .ne 5, 3, [2]), (34, .nop, 0, [1])],
  [(34, .iconst 0, 1, []), (35, .ireturn, 1, [2])],
  [(36, .aload_n 0, 1, []), (37, .iconst 0, 1, []), (38, .putfield 56, 3, [16, 0, 0, 320, 0, 10]), (41, .aload_n 0, 1, []), (42, .getfield 85, 3, [7, 0, 0, 329, 330, 10]), (45, .sipush 1010, 3, []), (48, .if_icmp .ne 27, 3, [4]), (51, .aload_n 0, 1, []), (52, .invokevirtual 97, 3, [17, 0, 863, 864, 10, 186]), (55, .aload_n 0, 1, []), (56, .iconst 1, 1, []), (57, .bipush 99, 2, []), (59, .invokevirtual 121, 3, [17, 2, 874, 875, 10, 188]), (62, .ifCond .ne 5, 3, [3]), (65, .iconst 0, 1, []), (66, .ireturn, 1, [2])],
  [(67, .aload_n 0, 1, []), (68, .aload_n 0, 1, []), (69, .getfield 124, 3, [8, 0, 0, 334, 335, 10]), (72, .putfield 56, 3, [16, 0, 0, 320, 0, 10]), (75, .nop, 0, [4])],
  [(75, .aload_n 0, 1, []), (76, .aload_n 0, 1, []), (77, .getfield 85, 3, [7, 0, 0, 329, 330, 10]), (80, .sipush 1011, 3, []), (83, .if_icmp .ne 7, 3, [5]), (86, .iconst 1, 1, []), (87, .goto 4, 3, [6])],
  [(90, .iconst 0, 1, []), (91, .nop, 0, [6])],
  [(91, .putfield 59, 3, [17, 2, 0, 321, 0, 10]), (94, .aload_n 0, 1, []), (95, .getfield 59, 3, [17, 2, 0, 321, 0, 10]), (98, .ifCond .eq 7, 3, [7]), (101, .aload_n 0, 1, []), (102, .invokevirtual 97, 3, [17, 0, 863, 864, 10, 186]), (105, .nop, 0, [7])],
  [(105, .iconst 1, 1, []), (106, .ireturn, 1, [2])]]
def bl_245 : List Nat := [0, 34, 36, 67, 75, 90, 91, 105]
-- 246: FavourTown$TownText.readAmount(II)Z
def T_246 : List (List pEnt) := [[(0, .aload_n 0, 1, []), (1, .iload_n 1, 1, []), (2, .iload_n 2, 1, []), (3, .invokevirtual 121, 3, [17, 2, 874, 875, 10, 188]), (6, .istore_n 3, 1, []), (7, .aload_n 0, 1, []), (8, .aload_n 0, 1, []), (9, .getfield 124, 3, [8, 0, 0, 334, 335, 10]), (12, .putfield 34, 3, [15, 0, 0, 319, 0, 10]), (15, .iload_n 3, 1, []), (16, .ireturn, 1, [2])]]
def bl_246 : List Nat := [0]
-- 247: FavourTown$TownText.readFavour()Z
def T_247 : List (List pEnt) := [[(0, .aload_n 0, 1, []), (1, .iconst 0, 1, []), (2, .aload_n 0, 1, []), (3, .getfield 13, 3, [10, 1, 0, 314, 0, 10]), (6, .getfield 127, 3, [1, 1, 1, 245, 0, 9]), (9, .getfield 131, 3, [7, 0, 1, 214, 0, 1]), (12, .iconst 1, 1, []), (13, .isub, 1, []), (14, .invokevirtual 121, 3, [17, 2, 874, 875, 10, 188]), (17, .istore_n 1, 1, []), (18, .aload_n 0, 1, []), (19, .aload_n 0, 1, []), (20, .getfield 124, 3, [8, 0, 0, 334, 335, 10]), (23, .putfield 67, 3, [12, 0, 0, 316, 0, 10]), (26, .iload_n 1, 1, []), (27, .ireturn, 1, [2])]]
def bl_247 : List Nat := [0]
-- 248: FavourTown$TownText.readFirst()Z
def T_248 : List (List pEnt) := [[(0, .aload_n 0, 1, []), (1, .iconst 0, 1, []), (2, .aload_n 0, 1, []), (3, .getfield 13, 3, [10, 1, 0, 314, 0, 10]), (6, .getfield 28, 3, [0, 1, 1, 240, 0, 9]), (9, .getfield 88, 3, [5, 0, 1, 172, 0, 2]), (12, .iconst 1, 1, []), (13, .isub, 1, []), (14, .invokevirtual 121, 3, [17, 2, 874, 875, 10, 188]), (17, .istore_n 1, 1, []), (18, .aload_n 0, 1, []), (19, .aload_n 0, 1, []), (20, .getfield 124, 3, [8, 0, 0, 334, 335, 10]), (23, .putfield 43, 3, [13, 0, 0, 317, 0, 10]), (26, .iload_n 1, 1, []), (27, .ireturn, 1, [2])]]
def bl_248 : List Nat := [0]
-- 249: FavourTown$TownText.readSecond()Z
def T_249 : List (List pEnt) := [[(0, .aload_n 0, 1, []), (1, .getfield 85, 3, [7, 0, 0, 329, 330, 10]), (4, .aload_n 0, 1, []), (5, .getfield 43, 3, [13, 0, 0, 317, 0, 10]), (8, .if_icmp .ne 8, 3, [1]), (11, .aload_n 0, 1, []), (12, .invokevirtual 94, 3, [17, 0, 860, 861, 10, 189]), (15, .ireturn, 1, [2])],
  [(16, .aload_n 0, 1, []), (17, .iconst 0, 1, []), (18, .aload_n 0, 1, []), (19, .getfield 13, 3, [10, 1, 0, 314, 0, 10]), (22, .getfield 28, 3, [0, 1, 1, 240, 0, 9]), (25, .getfield 88, 3, [5, 0, 1, 172, 0, 2]), (28, .iconst 1, 1, []), (29, .isub, 1, []), (30, .invokevirtual 121, 3, [17, 2, 874, 875, 10, 188]), (33, .istore_n 1, 1, []), (34, .aload_n 0, 1, []), (35, .aload_n 0, 1, []), (36, .getfield 124, 3, [8, 0, 0, 334, 335, 10]), (39, .putfield 46, 3, [14, 0, 0, 318, 0, 10]), (42, .iload_n 1, 1, []), (43, .ireturn, 1, [2])]]
def bl_249 : List Nat := [0, 16]
-- 250: FavourTownLaw.town(LFavourTown;[J)I
def T_250 : List (List pEnt) := [[(0, .aload_n 1, 1, []), (1, .iconst 0, 1, []), (2, .aload_n 0, 1, []), (3, .invokevirtual 7, 3, [10, 0, 716, 0, 11, 3]), (6, .i2l, 1, []), (7, .lastore, 1, []), (8, .goto 9, 3, [3])],
  [(12, .iconst 1, 1, []), (13, .ireturn, 1, [0])],
  [(15, .iconst 2, 1, []), (16, .ireturn, 1, [0])],
  [(17, .iconst 0, 1, []), (18, .ireturn, 1, [0])]]
def bl_250 : List Nat := [0, 12, 15, 17]
-- 251: FavourTownLaw.temper(LFavourTown;[J)I
def T_251 : List (List pEnt) := [[(0, .aload_n 1, 1, []), (1, .iconst 0, 1, []), (2, .aload_n 0, 1, []), (3, .invokevirtual 17, 3, [10, 0, 1030, 0, 11, 4]), (6, .i2l, 1, []), (7, .lastore, 1, []), (8, .goto 9, 3, [3])],
  [(12, .iconst 1, 1, []), (13, .ireturn, 1, [0])],
  [(15, .iconst 2, 1, []), (16, .ireturn, 1, [0])],
  [(17, .iconst 0, 1, []), (18, .ireturn, 1, [0])]]
def bl_251 : List Nat := [0, 12, 15, 17]
-- 252: FavourTownLaw.has(LFavourTown;II[J)I
def T_252 : List (List pEnt) := [[(0, .aload_n 3, 1, []), (1, .iconst 0, 1, []), (2, .aload_n 0, 1, []), (3, .iload_n 1, 1, []), (4, .iload_n 2, 1, []), (5, .invokevirtual 20, 3, [10, 2, 1083, 0, 11, 6]), (8, .i2l, 1, []), (9, .lastore, 1, []), (10, .goto 7, 3, [2])],
  [(15, .iconst 1, 1, []), (16, .ireturn, 1, [0])],
  [(17, .iconst 0, 1, []), (18, .ireturn, 1, [0])]]
def bl_252 : List Nat := [0, 15, 17]
-- 253: FavourTownLaw.give(LFavourTown;IIIIZ[J)I
def T_253 : List (List pEnt) := [[(0, .aload 6, 2, []), (2, .iconst 0, 1, []), (3, .aload_n 0, 1, []), (4, .iload_n 1, 1, []), (5, .iload_n 2, 1, []), (6, .iload_n 3, 1, []), (7, .iload 4, 2, []), (9, .iload 5, 2, []), (11, .invokevirtual 26, 3, [10, 5, 1117, 0, 11, 7]), (14, .i2l, 1, []), (15, .lastore, 1, []), (16, .goto 11, 3, [3])],
  [(21, .iconst 1, 1, []), (22, .ireturn, 1, [0])],
  [(25, .iconst 2, 1, []), (26, .ireturn, 1, [0])],
  [(27, .iconst 0, 1, []), (28, .ireturn, 1, [0])]]
def bl_253 : List Nat := [0, 21, 25, 27]
-- 254: FavourTownLaw.pass(LFavourTown;II[J)I
def T_254 : List (List pEnt) := [[(0, .aload_n 3, 1, []), (1, .iconst 0, 1, []), (2, .aload_n 0, 1, []), (3, .iload_n 1, 1, []), (4, .iload_n 2, 1, []), (5, .invokevirtual 30, 3, [10, 2, 1135, 0, 11, 8]), (8, .i2l, 1, []), (9, .lastore, 1, []), (10, .goto 11, 3, [3])],
  [(15, .iconst 1, 1, []), (16, .ireturn, 1, [0])],
  [(19, .iconst 2, 1, []), (20, .ireturn, 1, [0])],
  [(21, .iconst 0, 1, []), (22, .ireturn, 1, [0])]]
def bl_254 : List Nat := [0, 15, 19, 21]
-- 255: FavourTownLaw.call(LFavourTown;I[J)I
def T_255 : List (List pEnt) := [[(0, .aload_n 2, 1, []), (1, .iconst 0, 1, []), (2, .aload_n 0, 1, []), (3, .iload_n 1, 1, []), (4, .invokevirtual 33, 3, [10, 1, 1149, 0, 11, 9]), (7, .i2l, 1, []), (8, .lastore, 1, []), (9, .goto 6, 3, [2])],
  [(13, .iconst 1, 1, []), (14, .ireturn, 1, [0])],
  [(15, .iconst 0, 1, []), (16, .ireturn, 1, [0])]]
def bl_255 : List Nat := [0, 13, 15]
-- 256: FavourTownLaw.days(LFavourTown;I[J)I
def T_256 : List (List pEnt) := [[(0, .aload_n 2, 1, []), (1, .iconst 0, 1, []), (2, .aload_n 0, 1, []), (3, .iload_n 1, 1, []), (4, .invokevirtual 37, 3, [10, 1, 1157, 0, 11, 10]), (7, .i2l, 1, []), (8, .lastore, 1, []), (9, .goto 6, 3, [2])],
  [(13, .iconst 1, 1, []), (14, .ireturn, 1, [0])],
  [(15, .iconst 0, 1, []), (16, .ireturn, 1, [0])]]
def bl_256 : List Nat := [0, 13, 15]
-- 257: FavourTownLaw.look(LFavourTown;II[J)I
def T_257 : List (List pEnt) := [[(0, .aload_n 3, 1, []), (1, .iconst 0, 1, []), (2, .aload_n 0, 1, []), (3, .iload_n 1, 1, []), (4, .iload_n 2, 1, []), (5, .invokevirtual 40, 3, [10, 2, 1167, 0, 11, 11]), (8, .i2l, 1, []), (9, .lastore, 1, []), (10, .goto 11, 3, [3])],
  [(15, .iconst 1, 1, []), (16, .ireturn, 1, [0])],
  [(19, .iconst 2, 1, []), (20, .ireturn, 1, [0])],
  [(21, .iconst 0, 1, []), (22, .ireturn, 1, [0])]]
def bl_257 : List Nat := [0, 15, 19, 21]
-- 258: FavourTownLaw.hand(LFavourTown;II[J)I
def T_258 : List (List pEnt) := [[(0, .aload_n 3, 1, []), (1, .iconst 0, 1, []), (2, .aload_n 0, 1, []), (3, .iload_n 1, 1, []), (4, .iload_n 2, 1, []), (5, .invokevirtual 45, 3, [10, 2, 1192, 0, 11, 12]), (8, .i2l, 1, []), (9, .lastore, 1, []), (10, .goto 7, 3, [2])],
  [(15, .iconst 1, 1, []), (16, .ireturn, 1, [0])],
  [(17, .iconst 0, 1, []), (18, .ireturn, 1, [0])]]
def bl_258 : List Nat := [0, 15, 17]
-- 259: FavourTownLaw.takes(LFavourTown;II[J)I
def T_259 : List (List pEnt) := [[(0, .aload_n 3, 1, []), (1, .iconst 0, 1, []), (2, .aload_n 0, 1, []), (3, .iload_n 1, 1, []), (4, .iload_n 2, 1, []), (5, .invokevirtual 48, 3, [10, 2, 1203, 0, 11, 13]), (8, .ifCond .eq 7, 3, [1]), (11, .lconst 1, 1, []), (12, .goto 4, 3, [2])],
  [(15, .lconst 0, 1, []), (16, .nop, 0, [2])],
  [(16, .lastore, 1, []), (17, .goto 7, 3, [4])],
  [(22, .iconst 1, 1, []), (23, .ireturn, 1, [0])],
  [(24, .iconst 0, 1, []), (25, .ireturn, 1, [0])]]
def bl_259 : List Nat := [0, 15, 16, 22, 24]
-- 260: FavourTownLaw.rich(LFavourTown;I[J)I
def T_260 : List (List pEnt) := [[(0, .aload_n 2, 1, []), (1, .iconst 0, 1, []), (2, .aload_n 0, 1, []), (3, .iload_n 1, 1, []), (4, .invokevirtual 52, 3, [10, 1, 1211, 0, 11, 14]), (7, .i2l, 1, []), (8, .lastore, 1, []), (9, .goto 6, 3, [2])],
  [(13, .iconst 1, 1, []), (14, .ireturn, 1, [0])],
  [(15, .iconst 0, 1, []), (16, .ireturn, 1, [0])]]
def bl_260 : List Nat := [0, 13, 15]
-- 261: FavourTownLaw.debt(LFavourTown;I[J)I
def T_261 : List (List pEnt) := [[(0, .aload_n 2, 1, []), (1, .iconst 0, 1, []), (2, .aload_n 0, 1, []), (3, .iload_n 1, 1, []), (4, .invokevirtual 55, 3, [10, 1, 1218, 0, 11, 15]), (7, .i2l, 1, []), (8, .lastore, 1, []), (9, .goto 6, 3, [2])],
  [(13, .iconst 1, 1, []), (14, .ireturn, 1, [0])],
  [(15, .iconst 0, 1, []), (16, .ireturn, 1, [0])]]
def bl_261 : List Nat := [0, 13, 15]
-- 262: FavourTownLaw.owes(LFavourTown;II[J)I
def T_262 : List (List pEnt) := [[(0, .aload_n 3, 1, []), (1, .iconst 0, 1, []), (2, .aload_n 0, 1, []), (3, .iload_n 1, 1, []), (4, .iload_n 2, 1, []), (5, .invokevirtual 58, 3, [10, 2, 1225, 0, 11, 16]), (8, .i2l, 1, []), (9, .lastore, 1, []), (10, .goto 7, 3, [2])],
  [(15, .iconst 1, 1, []), (16, .ireturn, 1, [0])],
  [(17, .iconst 0, 1, []), (18, .ireturn, 1, [0])]]
def bl_262 : List Nat := [0, 15, 17]
-- 263: FavourTownLaw.pays(LFavourTown;III[J)I
def T_263 : List (List pEnt) := [[(0, .aload 4, 2, []), (2, .iconst 0, 1, []), (3, .aload_n 0, 1, []), (4, .iload_n 1, 1, []), (5, .iload_n 2, 1, []), (6, .iload_n 3, 1, []), (7, .invokevirtual 61, 3, [10, 3, 1236, 0, 11, 17]), (10, .i2l, 1, []), (11, .lastore, 1, []), (12, .goto 11, 3, [3])],
  [(17, .iconst 1, 1, []), (18, .ireturn, 1, [0])],
  [(21, .iconst 2, 1, []), (22, .ireturn, 1, [0])],
  [(23, .iconst 0, 1, []), (24, .ireturn, 1, [0])]]
def bl_263 : List Nat := [0, 17, 21, 23]
-- 264: FavourTownLaw.can(LFavourTown;I[J)I
def T_264 : List (List pEnt) := [[(0, .aload_n 2, 1, []), (1, .iconst 0, 1, []), (2, .aload_n 0, 1, []), (3, .iload_n 1, 1, []), (4, .invokevirtual 65, 3, [10, 1, 1244, 0, 11, 18]), (7, .ifCond .eq 7, 3, [1]), (10, .lconst 1, 1, []), (11, .goto 4, 3, [2])],
  [(14, .lconst 0, 1, []), (15, .nop, 0, [2])],
  [(15, .lastore, 1, []), (16, .goto 6, 3, [4])],
  [(20, .iconst 1, 1, []), (21, .ireturn, 1, [0])],
  [(22, .iconst 0, 1, []), (23, .ireturn, 1, [0])]]
def bl_264 : List Nat := [0, 14, 15, 20, 22]
-- 265: FavourTownLaw.meet(LFavourTown;I[J)I
def T_265 : List (List pEnt) := [[(0, .aload_n 2, 1, []), (1, .iconst 0, 1, []), (2, .aload_n 0, 1, []), (3, .iload_n 1, 1, []), (4, .invokevirtual 69, 3, [10, 1, 1257, 0, 11, 19]), (7, .i2l, 1, []), (8, .lastore, 1, []), (9, .goto 6, 3, [2])],
  [(13, .iconst 1, 1, []), (14, .ireturn, 1, [0])],
  [(15, .iconst 0, 1, []), (16, .ireturn, 1, [0])]]
def bl_265 : List Nat := [0, 13, 15]
-- 266: FavourTownLaw.port(LFavourTown;II[J)I
def T_266 : List (List pEnt) := [[(0, .aload_n 3, 1, []), (1, .iconst 0, 1, []), (2, .aload_n 0, 1, []), (3, .iload_n 1, 1, []), (4, .iload_n 2, 1, []), (5, .invokevirtual 72, 3, [10, 2, 1270, 0, 11, 24]), (8, .i2l, 1, []), (9, .lastore, 1, []), (10, .goto 11, 3, [3])],
  [(15, .iconst 1, 1, []), (16, .ireturn, 1, [0])],
  [(19, .iconst 2, 1, []), (20, .ireturn, 1, [0])],
  [(21, .iconst 0, 1, []), (22, .ireturn, 1, [0])]]
def bl_266 : List Nat := [0, 15, 19, 21]
-- 267: FavourTownLaw.most(LFavourTown;II[J)I
def T_267 : List (List pEnt) := [[(0, .aload_n 3, 1, []), (1, .iconst 0, 1, []), (2, .aload_n 0, 1, []), (3, .iload_n 1, 1, []), (4, .iload_n 2, 1, []), (5, .invokevirtual 75, 3, [10, 2, 1281, 0, 11, 25]), (8, .i2l, 1, []), (9, .lastore, 1, []), (10, .goto 11, 3, [3])],
  [(15, .iconst 1, 1, []), (16, .ireturn, 1, [0])],
  [(19, .iconst 2, 1, []), (20, .ireturn, 1, [0])],
  [(21, .iconst 0, 1, []), (22, .ireturn, 1, [0])]]
def bl_267 : List Nat := [0, 15, 19, 21]
-- 268: FavourTownLaw.cut(LFavourTown;II[J)I
def T_268 : List (List pEnt) := [[(0, .aload_n 3, 1, []), (1, .iconst 0, 1, []), (2, .aload_n 0, 1, []), (3, .iload_n 1, 1, []), (4, .iload_n 2, 1, []), (5, .invokevirtual 78, 3, [10, 2, 1315, 0, 11, 26]), (8, .i2l, 1, []), (9, .lastore, 1, []), (10, .goto 11, 3, [3])],
  [(15, .iconst 1, 1, []), (16, .ireturn, 1, [0])],
  [(19, .iconst 2, 1, []), (20, .ireturn, 1, [0])],
  [(21, .iconst 0, 1, []), (22, .ireturn, 1, [0])]]
def bl_268 : List Nat := [0, 15, 19, 21]
-- 269: FavourTownLaw.chain(LFavourTown;IIII[J)I
def T_269 : List (List pEnt) := [[(0, .aload 5, 2, []), (2, .iconst 0, 1, []), (3, .aload_n 0, 1, []), (4, .iload_n 1, 1, []), (5, .iload_n 2, 1, []), (6, .iload_n 3, 1, []), (7, .iload 4, 2, []), (9, .invokevirtual 81, 3, [10, 4, 1322, 0, 11, 27]), (12, .i2l, 1, []), (13, .lastore, 1, []), (14, .goto 11, 3, [3])],
  [(19, .iconst 1, 1, []), (20, .ireturn, 1, [0])],
  [(23, .iconst 2, 1, []), (24, .ireturn, 1, [0])],
  [(25, .iconst 0, 1, []), (26, .ireturn, 1, [0])]]
def bl_269 : List Nat := [0, 19, 23, 25]
-- 270: FavourTownLaw.ring(LFavourTown;[J)I
def T_270 : List (List pEnt) := [[(0, .aload_n 1, 1, []), (1, .iconst 0, 1, []), (2, .aload_n 0, 1, []), (3, .invokevirtual 85, 3, [10, 0, 1353, 0, 11, 28]), (6, .i2l, 1, []), (7, .lastore, 1, []), (8, .goto 9, 3, [3])],
  [(12, .iconst 1, 1, []), (13, .ireturn, 1, [0])],
  [(15, .iconst 2, 1, []), (16, .ireturn, 1, [0])],
  [(17, .iconst 0, 1, []), (18, .ireturn, 1, [0])]]
def bl_270 : List Nat := [0, 12, 15, 17]
-- 271: FavourTownLaw.clear(LFavourTown;I[J)I
def T_271 : List (List pEnt) := [[(0, .aload_n 2, 1, []), (1, .iconst 0, 1, []), (2, .aload_n 0, 1, []), (3, .iload_n 1, 1, []), (4, .invokevirtual 88, 3, [10, 1, 1371, 0, 11, 29]), (7, .i2l, 1, []), (8, .lastore, 1, []), (9, .goto 6, 3, [2])],
  [(13, .iconst 1, 1, []), (14, .ireturn, 1, [0])],
  [(15, .iconst 0, 1, []), (16, .ireturn, 1, [0])]]
def bl_271 : List Nat := [0, 13, 15]
-- 272: FavourTownLaw.loss(LFavourTown;II[J)I
def T_272 : List (List pEnt) := [[(0, .aload_n 3, 1, []), (1, .iconst 0, 1, []), (2, .aload_n 0, 1, []), (3, .iload_n 1, 1, []), (4, .iload_n 2, 1, []), (5, .invokevirtual 91, 3, [10, 2, 1414, 0, 11, 30]), (8, .i2l, 1, []), (9, .lastore, 1, []), (10, .goto 7, 3, [2])],
  [(15, .iconst 1, 1, []), (16, .ireturn, 1, [0])],
  [(17, .iconst 0, 1, []), (18, .ireturn, 1, [0])]]
def bl_272 : List Nat := [0, 15, 17]
-- 273: FavourTownLaw.ruined(LFavourTown;I[J)I
def T_273 : List (List pEnt) := [[(0, .aload_n 2, 1, []), (1, .iconst 0, 1, []), (2, .aload_n 0, 1, []), (3, .iload_n 1, 1, []), (4, .invokevirtual 94, 3, [10, 1, 1430, 0, 11, 31]), (7, .i2l, 1, []), (8, .lastore, 1, []), (9, .goto 6, 3, [2])],
  [(13, .iconst 1, 1, []), (14, .ireturn, 1, [0])],
  [(15, .iconst 0, 1, []), (16, .ireturn, 1, [0])]]
def bl_273 : List Nat := [0, 13, 15]
-- 274: FavourTownLaw.fits(LFavourTown;I[J)I
def T_274 : List (List pEnt) := [[(0, .aload_n 2, 1, []), (1, .iconst 0, 1, []), (2, .aload_n 0, 1, []), (3, .iload_n 1, 1, []), (4, .invokevirtual 97, 3, [10, 1, 1437, 0, 11, 32]), (7, .i2l, 1, []), (8, .lastore, 1, []), (9, .goto 6, 3, [2])],
  [(13, .iconst 1, 1, []), (14, .ireturn, 1, [0])],
  [(15, .iconst 0, 1, []), (16, .ireturn, 1, [0])]]
def bl_274 : List Nat := [0, 13, 15]
-- 275: FavourTownLaw.play(LFavourTown;III[J)I
def T_275 : List (List pEnt) := [[(0, .aload 4, 2, []), (2, .iconst 0, 1, []), (3, .aload_n 0, 1, []), (4, .iload_n 1, 1, []), (5, .iload_n 2, 1, []), (6, .iload_n 3, 1, []), (7, .invokevirtual 100, 3, [10, 3, 1445, 0, 11, 33]), (10, .i2l, 1, []), (11, .lastore, 1, []), (12, .goto 11, 3, [3])],
  [(17, .iconst 1, 1, []), (18, .ireturn, 1, [0])],
  [(21, .iconst 2, 1, []), (22, .ireturn, 1, [0])],
  [(23, .iconst 0, 1, []), (24, .ireturn, 1, [0])]]
def bl_275 : List Nat := [0, 17, 21, 23]
-- 276: java/lang/Integer.bitCount(I)I
def T_276 : List (List pEnt) := [[(0, .iload_n 0, 1, []), (1, .iload_n 0, 1, []), (2, .iconst 1, 1, []), (3, .iushr, 1, []), (4, .ldc_w 265, 3, [0, 1431655765, 0, 675]), (7, .iand, 1, []), (8, .isub, 1, []), (9, .istore_n 0, 1, []), (10, .iload_n 0, 1, []), (11, .ldc_w 266, 3, [0, 858993459, 0, 676]), (14, .iand, 1, []), (15, .iload_n 0, 1, []), (16, .iconst 2, 1, []), (17, .iushr, 1, []), (18, .ldc_w 266, 3, [0, 858993459, 0, 676]), (21, .iand, 1, []), (22, .iadd, 1, []), (23, .istore_n 0, 1, []), (24, .iload_n 0, 1, []), (25, .iload_n 0, 1, []), (26, .iconst 4, 1, []), (27, .iushr, 1, []), (28, .iadd, 1, []), (29, .ldc_w 267, 3, [0, 252645135, 0, 677]), (32, .iand, 1, []), (33, .istore_n 0, 1, []), (34, .iload_n 0, 1, []), (35, .iload_n 0, 1, []), (36, .bipush 8, 2, []), (38, .iushr, 1, []), (39, .iadd, 1, []), (40, .istore_n 0, 1, []), (41, .iload_n 0, 1, []), (42, .iload_n 0, 1, []), (43, .bipush 16, 2, []), (45, .iushr, 1, []), (46, .iadd, 1, []), (47, .istore_n 0, 1, []), (48, .iload_n 0, 1, []), (49, .bipush 63, 2, []), (51, .iand, 1, []), (52, .ireturn, 1, [0])]]
def bl_276 : List Nat := [0]
-- 277: java/util/Arrays.fill([II)V
def T_277 : List (List pEnt) := [[(0, .iconst 0, 1, []), (1, .istore_n 2, 1, []), (2, .aload_n 0, 1, []), (3, .arraylength, 1, []), (4, .istore_n 3, 1, []), (5, .nop, 0, [1])],
  [(5, .iload_n 2, 1, []), (6, .iload_n 3, 1, []), (7, .if_icmp .ge 13, 3, [2]), (10, .aload_n 0, 1, []), (11, .iload_n 2, 1, []), (12, .iload_n 1, 1, []), (13, .iastore, 1, []), (14, .iinc 2 1, 3, []), (17, .goto (-12), 3, [1])],
  [(20, .return_, 1, [])]]
def bl_277 : List Nat := [0, 5, 20]
-- 278: java/util/Arrays.copyOf([II)[I
def T_278 : List (List pEnt) := [[(0, .iload_n 1, 1, []), (1, .aload_n 0, 1, []), (2, .arraylength, 1, []), (3, .if_icmp .ne 11, 3, [1]), (6, .aload_n 0, 1, [])],
  [(14, .iload_n 1, 1, []), (15, .newarray .int, 2, []), (17, .astore_n 2, 1, []), (18, .aload_n 0, 1, []), (19, .iconst 0, 1, []), (20, .aload_n 2, 1, []), (21, .iconst 0, 1, []), (22, .aload_n 0, 1, []), (23, .arraylength, 1, []), (24, .iload_n 1, 1, []), (25, .invokestatic 304, 3, [2, 1063]), (28, .invokestatic 150, 3, [3, 1064]), (31, .aload_n 2, 1, []), (32, .areturn, 1, [])]]
def bl_278 : List Nat := [0, 14]
-- 279: FavourTownLaw.law([I)Z
def T_279_0 : List pEnt := [(0, .new 8, 3, [1, 11, 11, 119, 120, 91]), (3, .dup, 1, []), (4, .invokespecial 103, 3, [14, 0, 121, 0, 11, 0]), (7, .astore_n 1, 1, []), (8, .new 104, 3, [1, 12, 29, 1475, 1476, 102]), (11, .dup, 1, []), (12, .invokespecial 106, 3, [14, 0, 1477, 0, 12, 50]), (15, .astore_n 2, 1, []), (16, .iconst 1, 1, []), (17, .newarray .long, 2, []), (19, .astore_n 3, 1, []), (20, .iconst 0, 1, []), (21, .istore 4, 2, []), (23, .nop, 0, [1])]
def T_279_1 : List pEnt := [(23, .iload 4, 2, []), (25, .aload_n 0, 1, []), (26, .arraylength, 1, []), (27, .bipush 6, 2, []), (29, .isub, 1, []), (30, .if_icmp .gt 2126, 3, [99]), (33, .aload_n 0, 1, []), (34, .iload 4, 2, []), (36, .iaload, 1, []), (37, .bipush 63, 2, []), (39, .iand, 1, []), (40, .tableswitch 2110 0 35 #[160, 233, 258, 302, 346, 359, 427, 547, 615, 671, 727, 795, 863, 938, 994, 1050, 1118, 1198, 1261, 1317, 1342, 1367, 1380, 1405, 1473, 1541, 1609, 1701, 1745, 1801, 1869, 1925, 1981, 2061, 2072, 2085], 160, [98, 2, 3, 4, 7, 10, 11, 14, 21, 24, 27, 30, 33, 36, 41, 44, 47, 50, 53, 58, 61, 62, 63, 64, 65, 68, 71, 74, 77, 80, 83, 86, 89, 92, 95, 96, 97])]
def T_279_2 : List pEnt := [(200, .aload_n 1, 1, []), (201, .aload_n 0, 1, []), (202, .iload 4, 2, []), (204, .iconst 1, 1, []), (205, .iadd, 1, []), (206, .iaload, 1, []), (207, .aload_n 0, 1, []), (208, .iload 4, 2, []), (210, .iconst 2, 1, []), (211, .iadd, 1, []), (212, .iaload, 1, []), (213, .aload_n 0, 1, []), (214, .iload 4, 2, []), (216, .iconst 3, 1, []), (217, .iadd, 1, []), (218, .iaload, 1, []), (219, .aload_n 0, 1, []), (220, .iload 4, 2, []), (222, .iconst 4, 1, []), (223, .iadd, 1, []), (224, .iaload, 1, []), (225, .aload_n 0, 1, []), (226, .iload 4, 2, []), (228, .iconst 5, 1, []), (229, .iadd, 1, []), (230, .iaload, 1, []), (231, .invokevirtual 107, 3, [10, 5, 510, 0, 11, 1]), (234, .aload_n 2, 1, []), (235, .aload_n 0, 1, []), (236, .iload 4, 2, []), (238, .iconst 1, 1, []), (239, .iadd, 1, []), (240, .iaload, 1, []), (241, .aload_n 0, 1, []), (242, .iload 4, 2, []), (244, .iconst 2, 1, []), (245, .iadd, 1, []), (246, .iaload, 1, []), (247, .aload_n 0, 1, []), (248, .iload 4, 2, []), (250, .iconst 3, 1, []), (251, .iadd, 1, []), (252, .iaload, 1, []), (253, .aload_n 0, 1, []), (254, .iload 4, 2, []), (256, .iconst 4, 1, []), (257, .iadd, 1, []), (258, .iaload, 1, []), (259, .aload_n 0, 1, []), (260, .iload 4, 2, []), (262, .iconst 5, 1, []), (263, .iadd, 1, []), (264, .iaload, 1, []), (265, .invokevirtual 111, 3, [10, 5, 1573, 0, 12, 58]), (268, .if_icmp .eq 1882, 3, [98]), (271, .iconst 0, 1, []), (272, .ireturn, 1, [2])]
def T_279_3 : List pEnt := [(273, .aload_n 1, 1, []), (274, .aload_n 0, 1, []), (275, .iload 4, 2, []), (277, .iconst 1, 1, []), (278, .iadd, 1, []), (279, .iaload, 1, []), (280, .invokevirtual 112, 3, [10, 1, 521, 0, 11, 2]), (283, .aload_n 2, 1, []), (284, .aload_n 0, 1, []), (285, .iload 4, 2, []), (287, .iconst 1, 1, []), (288, .iadd, 1, []), (289, .iaload, 1, []), (290, .invokevirtual 115, 3, [10, 1, 1577, 0, 12, 59]), (293, .if_icmp .eq 1857, 3, [98]), (296, .iconst 0, 1, []), (297, .ireturn, 1, [2])]
def T_279_4 : List pEnt := [(298, .aload_n 1, 1, []), (299, .aload_n 3, 1, []), (300, .invokestatic 116, 3, [22, 2, 711, 0, 250]), (303, .istore 5, 2, []), (305, .aload_n 2, 1, []), (306, .invokevirtual 121, 3, [10, 0, 1584, 0, 12, 70]), (309, .istore 6, 2, []), (311, .aload_n 2, 1, []), (312, .invokevirtual 122, 3, [10, 0, 1569, 0, 12, 51]), (315, .iload 5, 2, []), (317, .if_icmp .eq 5, 3, [5]), (320, .iconst 0, 1, []), (321, .ireturn, 1, [2])]
def T_279_5 : List pEnt := [(322, .iload 5, 2, []), (324, .ifCond .ne 15, 3, [6]), (327, .aload_n 3, 1, []), (328, .iconst 0, 1, []), (329, .laload, 1, []), (330, .iload 6, 2, []), (332, .i2l, 1, []), (333, .lcmp, 1, []), (334, .ifCond .eq 5, 3, [6]), (337, .iconst 0, 1, []), (338, .ireturn, 1, [2])]
def T_279_6 : List pEnt := [(339, .goto 1811, 3, [98])]
def T_279_7 : List pEnt := [(342, .aload_n 1, 1, []), (343, .aload_n 3, 1, []), (344, .invokestatic 125, 3, [22, 2, 1027, 0, 251]), (347, .istore 5, 2, []), (349, .aload_n 2, 1, []), (350, .invokevirtual 127, 3, [10, 0, 1735, 0, 12, 78]), (353, .istore 6, 2, []), (355, .aload_n 2, 1, []), (356, .invokevirtual 122, 3, [10, 0, 1569, 0, 12, 51]), (359, .iload 5, 2, []), (361, .if_icmp .eq 5, 3, [8]), (364, .iconst 0, 1, []), (365, .ireturn, 1, [2])]
def T_279_8 : List pEnt := [(366, .iload 5, 2, []), (368, .ifCond .ne 15, 3, [9]), (371, .aload_n 3, 1, []), (372, .iconst 0, 1, []), (373, .laload, 1, []), (374, .iload 6, 2, []), (376, .i2l, 1, []), (377, .lcmp, 1, []), (378, .ifCond .eq 5, 3, [9]), (381, .iconst 0, 1, []), (382, .ireturn, 1, [2])]
def T_279_9 : List pEnt := [(383, .goto 1767, 3, [98])]
def T_279_10 : List pEnt := [(386, .aload_n 1, 1, []), (387, .invokevirtual 128, 3, [10, 0, 525, 0, 11, 5]), (390, .aload_n 2, 1, []), (391, .invokevirtual 131, 3, [10, 0, 1739, 0, 12, 79]), (394, .if_icmp .eq 1756, 3, [98]), (397, .iconst 0, 1, []), (398, .ireturn, 1, [2])]
def T_279_11 : List pEnt := [(399, .aload_n 1, 1, []), (400, .aload_n 0, 1, []), (401, .iload 4, 2, []), (403, .iconst 1, 1, []), (404, .iadd, 1, []), (405, .iaload, 1, []), (406, .aload_n 0, 1, []), (407, .iload 4, 2, []), (409, .iconst 2, 1, []), (410, .iadd, 1, []), (411, .iaload, 1, []), (412, .aload_n 3, 1, []), (413, .invokestatic 132, 3, [22, 4, 1079, 0, 252]), (416, .istore 5, 2, []), (418, .aload_n 2, 1, []), (419, .aload_n 0, 1, []), (420, .iload 4, 2, []), (422, .iconst 1, 1, []), (423, .iadd, 1, []), (424, .iaload, 1, []), (425, .aload_n 0, 1, []), (426, .iload 4, 2, []), (428, .iconst 2, 1, []), (429, .iadd, 1, []), (430, .iaload, 1, []), (431, .invokevirtual 135, 3, [10, 2, 1743, 0, 12, 80]), (434, .istore 6, 2, []), (436, .aload_n 2, 1, []), (437, .invokevirtual 122, 3, [10, 0, 1569, 0, 12, 51]), (440, .iload 5, 2, []), (442, .if_icmp .eq 5, 3, [12]), (445, .iconst 0, 1, []), (446, .ireturn, 1, [2])]
def T_279_12 : List pEnt := [(447, .iload 5, 2, []), (449, .ifCond .ne 15, 3, [13]), (452, .aload_n 3, 1, []), (453, .iconst 0, 1, []), (454, .laload, 1, []), (455, .iload 6, 2, []), (457, .i2l, 1, []), (458, .lcmp, 1, []), (459, .ifCond .eq 5, 3, [13]), (462, .iconst 0, 1, []), (463, .ireturn, 1, [2])]
def T_279_13 : List pEnt := [(464, .goto 1686, 3, [98])]
def T_279_14 : List pEnt := [(467, .aload_n 1, 1, []), (468, .aload_n 0, 1, []), (469, .iload 4, 2, []), (471, .iconst 1, 1, []), (472, .iadd, 1, []), (473, .iaload, 1, []), (474, .aload_n 0, 1, []), (475, .iload 4, 2, []), (477, .iconst 2, 1, []), (478, .iadd, 1, []), (479, .iaload, 1, []), (480, .aload_n 0, 1, []), (481, .iload 4, 2, []), (483, .iconst 3, 1, []), (484, .iadd, 1, []), (485, .iaload, 1, []), (486, .aload_n 0, 1, []), (487, .iload 4, 2, []), (489, .iconst 4, 1, []), (490, .iadd, 1, []), (491, .iaload, 1, []), (492, .aload_n 0, 1, []), (493, .iload 4, 2, []), (495, .iconst 5, 1, []), (496, .iadd, 1, []), (497, .iaload, 1, []), (498, .ifCond .eq 7, 3, [15]), (501, .iconst 1, 1, []), (502, .goto 4, 3, [16])]
def T_279_15 : List pEnt := [(505, .iconst 0, 1, []), (506, .nop, 0, [16])]
def T_279_16 : List pEnt := [(506, .aload_n 3, 1, []), (507, .invokestatic 136, 3, [22, 7, 1114, 0, 253]), (510, .istore 5, 2, []), (512, .aload_n 2, 1, []), (513, .aload_n 0, 1, []), (514, .iload 4, 2, []), (516, .iconst 1, 1, []), (517, .iadd, 1, []), (518, .iaload, 1, []), (519, .aload_n 0, 1, []), (520, .iload 4, 2, []), (522, .iconst 2, 1, []), (523, .iadd, 1, []), (524, .iaload, 1, []), (525, .aload_n 0, 1, []), (526, .iload 4, 2, []), (528, .iconst 3, 1, []), (529, .iadd, 1, []), (530, .iaload, 1, []), (531, .aload_n 0, 1, []), (532, .iload 4, 2, []), (534, .iconst 4, 1, []), (535, .iadd, 1, []), (536, .iaload, 1, []), (537, .aload_n 0, 1, []), (538, .iload 4, 2, []), (540, .iconst 5, 1, []), (541, .iadd, 1, []), (542, .iaload, 1, []), (543, .ifCond .eq 7, 3, [17]), (546, .iconst 1, 1, []), (547, .goto 4, 3, [18])]
def T_279_17 : List pEnt := [(550, .iconst 0, 1, []), (551, .nop, 0, [18])]
def T_279_18 : List pEnt := [(551, .invokevirtual 139, 3, [10, 5, 1751, 0, 12, 91]), (554, .istore 6, 2, []), (556, .aload_n 2, 1, []), (557, .invokevirtual 122, 3, [10, 0, 1569, 0, 12, 51]), (560, .iload 5, 2, []), (562, .if_icmp .eq 5, 3, [19]), (565, .iconst 0, 1, []), (566, .ireturn, 1, [2])]
def T_279_19 : List pEnt := [(567, .iload 5, 2, []), (569, .ifCond .ne 15, 3, [20]), (572, .aload_n 3, 1, []), (573, .iconst 0, 1, []), (574, .laload, 1, []), (575, .iload 6, 2, []), (577, .i2l, 1, []), (578, .lcmp, 1, []), (579, .ifCond .eq 5, 3, [20]), (582, .iconst 0, 1, []), (583, .ireturn, 1, [2])]
def T_279_20 : List pEnt := [(584, .goto 1566, 3, [98])]
def T_279_21 : List pEnt := [(587, .aload_n 1, 1, []), (588, .aload_n 0, 1, []), (589, .iload 4, 2, []), (591, .iconst 1, 1, []), (592, .iadd, 1, []), (593, .iaload, 1, []), (594, .aload_n 0, 1, []), (595, .iload 4, 2, []), (597, .iconst 2, 1, []), (598, .iadd, 1, []), (599, .iaload, 1, []), (600, .aload_n 3, 1, []), (601, .invokestatic 140, 3, [22, 4, 1132, 0, 254]), (604, .istore 5, 2, []), (606, .aload_n 2, 1, []), (607, .aload_n 0, 1, []), (608, .iload 4, 2, []), (610, .iconst 1, 1, []), (611, .iadd, 1, []), (612, .iaload, 1, []), (613, .aload_n 0, 1, []), (614, .iload 4, 2, []), (616, .iconst 2, 1, []), (617, .iadd, 1, []), (618, .iaload, 1, []), (619, .invokevirtual 142, 3, [10, 2, 1755, 0, 12, 92]), (622, .istore 6, 2, []), (624, .aload_n 2, 1, []), (625, .invokevirtual 122, 3, [10, 0, 1569, 0, 12, 51]), (628, .iload 5, 2, []), (630, .if_icmp .eq 5, 3, [22]), (633, .iconst 0, 1, []), (634, .ireturn, 1, [2])]
def T_279_22 : List pEnt := [(635, .iload 5, 2, []), (637, .ifCond .ne 15, 3, [23]), (640, .aload_n 3, 1, []), (641, .iconst 0, 1, []), (642, .laload, 1, []), (643, .iload 6, 2, []), (645, .i2l, 1, []), (646, .lcmp, 1, []), (647, .ifCond .eq 5, 3, [23]), (650, .iconst 0, 1, []), (651, .ireturn, 1, [2])]
def T_279_23 : List pEnt := [(652, .goto 1498, 3, [98])]
def T_279_24 : List pEnt := [(655, .aload_n 1, 1, []), (656, .aload_n 0, 1, []), (657, .iload 4, 2, []), (659, .iconst 1, 1, []), (660, .iadd, 1, []), (661, .iaload, 1, []), (662, .aload_n 3, 1, []), (663, .invokestatic 143, 3, [22, 3, 1146, 0, 255]), (666, .istore 5, 2, []), (668, .aload_n 2, 1, []), (669, .aload_n 0, 1, []), (670, .iload 4, 2, []), (672, .iconst 1, 1, []), (673, .iadd, 1, []), (674, .iaload, 1, []), (675, .invokevirtual 146, 3, [10, 1, 1763, 0, 12, 93]), (678, .istore 6, 2, []), (680, .aload_n 2, 1, []), (681, .invokevirtual 122, 3, [10, 0, 1569, 0, 12, 51]), (684, .iload 5, 2, []), (686, .if_icmp .eq 5, 3, [25]), (689, .iconst 0, 1, []), (690, .ireturn, 1, [2])]
def T_279_25 : List pEnt := [(691, .iload 5, 2, []), (693, .ifCond .ne 15, 3, [26]), (696, .aload_n 3, 1, []), (697, .iconst 0, 1, []), (698, .laload, 1, []), (699, .iload 6, 2, []), (701, .i2l, 1, []), (702, .lcmp, 1, []), (703, .ifCond .eq 5, 3, [26]), (706, .iconst 0, 1, []), (707, .ireturn, 1, [2])]
def T_279_26 : List pEnt := [(708, .goto 1442, 3, [98])]
def T_279_27 : List pEnt := [(711, .aload_n 1, 1, []), (712, .aload_n 0, 1, []), (713, .iload 4, 2, []), (715, .iconst 1, 1, []), (716, .iadd, 1, []), (717, .iaload, 1, []), (718, .aload_n 3, 1, []), (719, .invokestatic 147, 3, [22, 3, 1154, 0, 256]), (722, .istore 5, 2, []), (724, .aload_n 2, 1, []), (725, .aload_n 0, 1, []), (726, .iload 4, 2, []), (728, .iconst 1, 1, []), (729, .iadd, 1, []), (730, .iaload, 1, []), (731, .invokevirtual 149, 3, [10, 1, 1767, 0, 12, 94]), (734, .istore 6, 2, []), (736, .aload_n 2, 1, []), (737, .invokevirtual 122, 3, [10, 0, 1569, 0, 12, 51]), (740, .iload 5, 2, []), (742, .if_icmp .eq 5, 3, [28]), (745, .iconst 0, 1, []), (746, .ireturn, 1, [2])]
def T_279_28 : List pEnt := [(747, .iload 5, 2, []), (749, .ifCond .ne 15, 3, [29]), (752, .aload_n 3, 1, []), (753, .iconst 0, 1, []), (754, .laload, 1, []), (755, .iload 6, 2, []), (757, .i2l, 1, []), (758, .lcmp, 1, []), (759, .ifCond .eq 5, 3, [29]), (762, .iconst 0, 1, []), (763, .ireturn, 1, [2])]
def T_279_29 : List pEnt := [(764, .goto 1386, 3, [98])]
def T_279_30 : List pEnt := [(767, .aload_n 1, 1, []), (768, .aload_n 0, 1, []), (769, .iload 4, 2, []), (771, .iconst 1, 1, []), (772, .iadd, 1, []), (773, .iaload, 1, []), (774, .aload_n 0, 1, []), (775, .iload 4, 2, []), (777, .iconst 2, 1, []), (778, .iadd, 1, []), (779, .iaload, 1, []), (780, .aload_n 3, 1, []), (781, .invokestatic 150, 3, [22, 4, 1163, 0, 257]), (784, .istore 5, 2, []), (786, .aload_n 2, 1, []), (787, .aload_n 0, 1, []), (788, .iload 4, 2, []), (790, .iconst 1, 1, []), (791, .iadd, 1, []), (792, .iaload, 1, []), (793, .aload_n 0, 1, []), (794, .iload 4, 2, []), (796, .iconst 2, 1, []), (797, .iadd, 1, []), (798, .iaload, 1, []), (799, .invokevirtual 152, 3, [10, 2, 1771, 0, 12, 95]), (802, .istore 6, 2, []), (804, .aload_n 2, 1, []), (805, .invokevirtual 122, 3, [10, 0, 1569, 0, 12, 51]), (808, .iload 5, 2, []), (810, .if_icmp .eq 5, 3, [31]), (813, .iconst 0, 1, []), (814, .ireturn, 1, [2])]
def T_279_31 : List pEnt := [(815, .iload 5, 2, []), (817, .ifCond .ne 15, 3, [32]), (820, .aload_n 3, 1, []), (821, .iconst 0, 1, []), (822, .laload, 1, []), (823, .iload 6, 2, []), (825, .i2l, 1, []), (826, .lcmp, 1, []), (827, .ifCond .eq 5, 3, [32]), (830, .iconst 0, 1, []), (831, .ireturn, 1, [2])]
def T_279_32 : List pEnt := [(832, .goto 1318, 3, [98])]
def T_279_33 : List pEnt := [(835, .aload_n 1, 1, []), (836, .aload_n 0, 1, []), (837, .iload 4, 2, []), (839, .iconst 1, 1, []), (840, .iadd, 1, []), (841, .iaload, 1, []), (842, .aload_n 0, 1, []), (843, .iload 4, 2, []), (845, .iconst 2, 1, []), (846, .iadd, 1, []), (847, .iaload, 1, []), (848, .aload_n 3, 1, []), (849, .invokestatic 153, 3, [22, 4, 1189, 0, 258]), (852, .istore 5, 2, []), (854, .aload_n 2, 1, []), (855, .aload_n 0, 1, []), (856, .iload 4, 2, []), (858, .iconst 1, 1, []), (859, .iadd, 1, []), (860, .iaload, 1, []), (861, .aload_n 0, 1, []), (862, .iload 4, 2, []), (864, .iconst 2, 1, []), (865, .iadd, 1, []), (866, .iaload, 1, []), (867, .invokevirtual 155, 3, [10, 2, 1775, 0, 12, 96]), (870, .istore 6, 2, []), (872, .aload_n 2, 1, []), (873, .invokevirtual 122, 3, [10, 0, 1569, 0, 12, 51]), (876, .iload 5, 2, []), (878, .if_icmp .eq 5, 3, [34]), (881, .iconst 0, 1, []), (882, .ireturn, 1, [2])]
def T_279_34 : List pEnt := [(883, .iload 5, 2, []), (885, .ifCond .ne 15, 3, [35]), (888, .aload_n 3, 1, []), (889, .iconst 0, 1, []), (890, .laload, 1, []), (891, .iload 6, 2, []), (893, .i2l, 1, []), (894, .lcmp, 1, []), (895, .ifCond .eq 5, 3, [35]), (898, .iconst 0, 1, []), (899, .ireturn, 1, [2])]
def T_279_35 : List pEnt := [(900, .goto 1250, 3, [98])]
def T_279_36 : List pEnt := [(903, .aload_n 1, 1, []), (904, .aload_n 0, 1, []), (905, .iload 4, 2, []), (907, .iconst 1, 1, []), (908, .iadd, 1, []), (909, .iaload, 1, []), (910, .aload_n 0, 1, []), (911, .iload 4, 2, []), (913, .iconst 2, 1, []), (914, .iadd, 1, []), (915, .iaload, 1, []), (916, .aload_n 3, 1, []), (917, .invokestatic 156, 3, [22, 4, 1200, 0, 259]), (920, .istore 5, 2, []), (922, .aload_n 2, 1, []), (923, .aload_n 0, 1, []), (924, .iload 4, 2, []), (926, .iconst 1, 1, []), (927, .iadd, 1, []), (928, .iaload, 1, []), (929, .aload_n 0, 1, []), (930, .iload 4, 2, []), (932, .iconst 2, 1, []), (933, .iadd, 1, []), (934, .iaload, 1, []), (935, .invokevirtual 158, 3, [10, 2, 1779, 0, 12, 97]), (938, .istore 6, 2, []), (940, .aload_n 2, 1, []), (941, .invokevirtual 122, 3, [10, 0, 1569, 0, 12, 51]), (944, .iload 5, 2, []), (946, .if_icmp .eq 5, 3, [37]), (949, .iconst 0, 1, []), (950, .ireturn, 1, [2])]
def T_279_37 : List pEnt := [(951, .iload 5, 2, []), (953, .ifCond .ne 22, 3, [40]), (956, .aload_n 3, 1, []), (957, .iconst 0, 1, []), (958, .laload, 1, []), (959, .iload 6, 2, []), (961, .ifCond .eq 7, 3, [38]), (964, .lconst 1, 1, []), (965, .goto 4, 3, [39])]
def T_279_38 : List pEnt := [(968, .lconst 0, 1, []), (969, .nop, 0, [39])]
def T_279_39 : List pEnt := [(969, .lcmp, 1, []), (970, .ifCond .eq 5, 3, [40]), (973, .iconst 0, 1, []), (974, .ireturn, 1, [2])]
def T_279_40 : List pEnt := [(975, .goto 1175, 3, [98])]
def T_279_41 : List pEnt := [(978, .aload_n 1, 1, []), (979, .aload_n 0, 1, []), (980, .iload 4, 2, []), (982, .iconst 1, 1, []), (983, .iadd, 1, []), (984, .iaload, 1, []), (985, .aload_n 3, 1, []), (986, .invokestatic 159, 3, [22, 3, 1208, 0, 260]), (989, .istore 5, 2, []), (991, .aload_n 2, 1, []), (992, .aload_n 0, 1, []), (993, .iload 4, 2, []), (995, .iconst 1, 1, []), (996, .iadd, 1, []), (997, .iaload, 1, []), (998, .invokevirtual 161, 3, [10, 1, 1783, 0, 12, 98]), (1001, .istore 6, 2, []), (1003, .aload_n 2, 1, []), (1004, .invokevirtual 122, 3, [10, 0, 1569, 0, 12, 51]), (1007, .iload 5, 2, []), (1009, .if_icmp .eq 5, 3, [42]), (1012, .iconst 0, 1, []), (1013, .ireturn, 1, [2])]
def T_279_42 : List pEnt := [(1014, .iload 5, 2, []), (1016, .ifCond .ne 15, 3, [43]), (1019, .aload_n 3, 1, []), (1020, .iconst 0, 1, []), (1021, .laload, 1, []), (1022, .iload 6, 2, []), (1024, .i2l, 1, []), (1025, .lcmp, 1, []), (1026, .ifCond .eq 5, 3, [43]), (1029, .iconst 0, 1, []), (1030, .ireturn, 1, [2])]
def T_279_43 : List pEnt := [(1031, .goto 1119, 3, [98])]
def T_279_44 : List pEnt := [(1034, .aload_n 1, 1, []), (1035, .aload_n 0, 1, []), (1036, .iload 4, 2, []), (1038, .iconst 1, 1, []), (1039, .iadd, 1, []), (1040, .iaload, 1, []), (1041, .aload_n 3, 1, []), (1042, .invokestatic 162, 3, [22, 3, 1215, 0, 261]), (1045, .istore 5, 2, []), (1047, .aload_n 2, 1, []), (1048, .aload_n 0, 1, []), (1049, .iload 4, 2, []), (1051, .iconst 1, 1, []), (1052, .iadd, 1, []), (1053, .iaload, 1, []), (1054, .invokevirtual 164, 3, [10, 1, 1787, 0, 12, 99]), (1057, .istore 6, 2, []), (1059, .aload_n 2, 1, []), (1060, .invokevirtual 122, 3, [10, 0, 1569, 0, 12, 51]), (1063, .iload 5, 2, []), (1065, .if_icmp .eq 5, 3, [45]), (1068, .iconst 0, 1, []), (1069, .ireturn, 1, [2])]
def T_279_45 : List pEnt := [(1070, .iload 5, 2, []), (1072, .ifCond .ne 15, 3, [46]), (1075, .aload_n 3, 1, []), (1076, .iconst 0, 1, []), (1077, .laload, 1, []), (1078, .iload 6, 2, []), (1080, .i2l, 1, []), (1081, .lcmp, 1, []), (1082, .ifCond .eq 5, 3, [46]), (1085, .iconst 0, 1, []), (1086, .ireturn, 1, [2])]
def T_279_46 : List pEnt := [(1087, .goto 1063, 3, [98])]
def T_279_47 : List pEnt := [(1090, .aload_n 1, 1, []), (1091, .aload_n 0, 1, []), (1092, .iload 4, 2, []), (1094, .iconst 1, 1, []), (1095, .iadd, 1, []), (1096, .iaload, 1, []), (1097, .aload_n 0, 1, []), (1098, .iload 4, 2, []), (1100, .iconst 2, 1, []), (1101, .iadd, 1, []), (1102, .iaload, 1, []), (1103, .aload_n 3, 1, []), (1104, .invokestatic 165, 3, [22, 4, 1222, 0, 262]), (1107, .istore 5, 2, []), (1109, .aload_n 2, 1, []), (1110, .aload_n 0, 1, []), (1111, .iload 4, 2, []), (1113, .iconst 1, 1, []), (1114, .iadd, 1, []), (1115, .iaload, 1, []), (1116, .aload_n 0, 1, []), (1117, .iload 4, 2, []), (1119, .iconst 2, 1, []), (1120, .iadd, 1, []), (1121, .iaload, 1, []), (1122, .invokevirtual 167, 3, [10, 2, 1791, 0, 12, 101]), (1125, .istore 6, 2, []), (1127, .aload_n 2, 1, []), (1128, .invokevirtual 122, 3, [10, 0, 1569, 0, 12, 51]), (1131, .iload 5, 2, []), (1133, .if_icmp .eq 5, 3, [48]), (1136, .iconst 0, 1, []), (1137, .ireturn, 1, [2])]
def T_279_48 : List pEnt := [(1138, .iload 5, 2, []), (1140, .ifCond .ne 15, 3, [49]), (1143, .aload_n 3, 1, []), (1144, .iconst 0, 1, []), (1145, .laload, 1, []), (1146, .iload 6, 2, []), (1148, .i2l, 1, []), (1149, .lcmp, 1, []), (1150, .ifCond .eq 5, 3, [49]), (1153, .iconst 0, 1, []), (1154, .ireturn, 1, [2])]
def T_279_49 : List pEnt := [(1155, .goto 995, 3, [98])]
def T_279_50 : List pEnt := [(1158, .aload_n 1, 1, []), (1159, .aload_n 0, 1, []), (1160, .iload 4, 2, []), (1162, .iconst 1, 1, []), (1163, .iadd, 1, []), (1164, .iaload, 1, []), (1165, .aload_n 0, 1, []), (1166, .iload 4, 2, []), (1168, .iconst 2, 1, []), (1169, .iadd, 1, []), (1170, .iaload, 1, []), (1171, .aload_n 0, 1, []), (1172, .iload 4, 2, []), (1174, .iconst 3, 1, []), (1175, .iadd, 1, []), (1176, .iaload, 1, []), (1177, .aload_n 3, 1, []), (1178, .invokestatic 168, 3, [22, 5, 1233, 0, 263]), (1181, .istore 5, 2, []), (1183, .aload_n 2, 1, []), (1184, .aload_n 0, 1, []), (1185, .iload 4, 2, []), (1187, .iconst 1, 1, []), (1188, .iadd, 1, []), (1189, .iaload, 1, []), (1190, .aload_n 0, 1, []), (1191, .iload 4, 2, []), (1193, .iconst 2, 1, []), (1194, .iadd, 1, []), (1195, .iaload, 1, []), (1196, .aload_n 0, 1, []), (1197, .iload 4, 2, []), (1199, .iconst 3, 1, []), (1200, .iadd, 1, []), (1201, .iaload, 1, []), (1202, .invokevirtual 171, 3, [10, 3, 1799, 0, 12, 104]), (1205, .istore 6, 2, []), (1207, .aload_n 2, 1, []), (1208, .invokevirtual 122, 3, [10, 0, 1569, 0, 12, 51]), (1211, .iload 5, 2, []), (1213, .if_icmp .eq 5, 3, [51]), (1216, .iconst 0, 1, []), (1217, .ireturn, 1, [2])]
def T_279_51 : List pEnt := [(1218, .iload 5, 2, []), (1220, .ifCond .ne 15, 3, [52]), (1223, .aload_n 3, 1, []), (1224, .iconst 0, 1, []), (1225, .laload, 1, []), (1226, .iload 6, 2, []), (1228, .i2l, 1, []), (1229, .lcmp, 1, []), (1230, .ifCond .eq 5, 3, [52]), (1233, .iconst 0, 1, []), (1234, .ireturn, 1, [2])]
def T_279_52 : List pEnt := [(1235, .goto 915, 3, [98])]
def T_279_53 : List pEnt := [(1238, .aload_n 1, 1, []), (1239, .aload_n 0, 1, []), (1240, .iload 4, 2, []), (1242, .iconst 1, 1, []), (1243, .iadd, 1, []), (1244, .iaload, 1, []), (1245, .aload_n 3, 1, []), (1246, .invokestatic 172, 3, [22, 3, 1241, 0, 264]), (1249, .istore 5, 2, []), (1251, .aload_n 2, 1, []), (1252, .aload_n 0, 1, []), (1253, .iload 4, 2, []), (1255, .iconst 1, 1, []), (1256, .iadd, 1, []), (1257, .iaload, 1, []), (1258, .invokevirtual 174, 3, [10, 1, 1811, 0, 12, 108]), (1261, .istore 6, 2, []), (1263, .aload_n 2, 1, []), (1264, .invokevirtual 122, 3, [10, 0, 1569, 0, 12, 51]), (1267, .iload 5, 2, []), (1269, .if_icmp .eq 5, 3, [54]), (1272, .iconst 0, 1, []), (1273, .ireturn, 1, [2])]
def T_279_54 : List pEnt := [(1274, .iload 5, 2, []), (1276, .ifCond .ne 22, 3, [57]), (1279, .aload_n 3, 1, []), (1280, .iconst 0, 1, []), (1281, .laload, 1, []), (1282, .iload 6, 2, []), (1284, .ifCond .eq 7, 3, [55]), (1287, .lconst 1, 1, []), (1288, .goto 4, 3, [56])]
def T_279_55 : List pEnt := [(1291, .lconst 0, 1, []), (1292, .nop, 0, [56])]
def T_279_56 : List pEnt := [(1292, .lcmp, 1, []), (1293, .ifCond .eq 5, 3, [57]), (1296, .iconst 0, 1, []), (1297, .ireturn, 1, [2])]
def T_279_57 : List pEnt := [(1298, .goto 852, 3, [98])]
def T_279_58 : List pEnt := [(1301, .aload_n 1, 1, []), (1302, .aload_n 0, 1, []), (1303, .iload 4, 2, []), (1305, .iconst 1, 1, []), (1306, .iadd, 1, []), (1307, .iaload, 1, []), (1308, .aload_n 3, 1, []), (1309, .invokestatic 175, 3, [22, 3, 1254, 0, 265]), (1312, .istore 5, 2, []), (1314, .aload_n 2, 1, []), (1315, .aload_n 0, 1, []), (1316, .iload 4, 2, []), (1318, .iconst 1, 1, []), (1319, .iadd, 1, []), (1320, .iaload, 1, []), (1321, .invokevirtual 177, 3, [10, 1, 1827, 0, 12, 110]), (1324, .istore 6, 2, []), (1326, .aload_n 2, 1, []), (1327, .invokevirtual 122, 3, [10, 0, 1569, 0, 12, 51]), (1330, .iload 5, 2, []), (1332, .if_icmp .eq 5, 3, [59]), (1335, .iconst 0, 1, []), (1336, .ireturn, 1, [2])]
def T_279_59 : List pEnt := [(1337, .iload 5, 2, []), (1339, .ifCond .ne 15, 3, [60]), (1342, .aload_n 3, 1, []), (1343, .iconst 0, 1, []), (1344, .laload, 1, []), (1345, .iload 6, 2, []), (1347, .i2l, 1, []), (1348, .lcmp, 1, []), (1349, .ifCond .eq 5, 3, [60]), (1352, .iconst 0, 1, []), (1353, .ireturn, 1, [2])]
def T_279_60 : List pEnt := [(1354, .goto 796, 3, [98])]
def T_279_61 : List pEnt := [(1357, .aload_n 1, 1, []), (1358, .aload_n 0, 1, []), (1359, .iload 4, 2, []), (1361, .iconst 1, 1, []), (1362, .iadd, 1, []), (1363, .iaload, 1, []), (1364, .invokevirtual 178, 3, [10, 1, 529, 0, 11, 20]), (1367, .aload_n 2, 1, []), (1368, .aload_n 0, 1, []), (1369, .iload 4, 2, []), (1371, .iconst 1, 1, []), (1372, .iadd, 1, []), (1373, .iaload, 1, []), (1374, .invokevirtual 181, 3, [10, 1, 1835, 0, 12, 113]), (1377, .if_icmp .eq 773, 3, [98]), (1380, .iconst 0, 1, []), (1381, .ireturn, 1, [2])]
def T_279_62 : List pEnt := [(1382, .aload_n 1, 1, []), (1383, .aload_n 0, 1, []), (1384, .iload 4, 2, []), (1386, .iconst 1, 1, []), (1387, .iadd, 1, []), (1388, .iaload, 1, []), (1389, .invokevirtual 182, 3, [10, 1, 659, 0, 11, 21]), (1392, .aload_n 2, 1, []), (1393, .aload_n 0, 1, []), (1394, .iload 4, 2, []), (1396, .iconst 1, 1, []), (1397, .iadd, 1, []), (1398, .iaload, 1, []), (1399, .invokevirtual 185, 3, [10, 1, 1847, 0, 12, 114]), (1402, .if_icmp .eq 748, 3, [98]), (1405, .iconst 0, 1, []), (1406, .ireturn, 1, [2])]
def T_279_63 : List pEnt := [(1407, .aload_n 1, 1, []), (1408, .invokevirtual 186, 3, [10, 0, 663, 0, 11, 22]), (1411, .aload_n 2, 1, []), (1412, .invokevirtual 189, 3, [10, 0, 1851, 0, 12, 116]), (1415, .if_icmp .eq 735, 3, [98]), (1418, .iconst 0, 1, []), (1419, .ireturn, 1, [2])]
def T_279_64 : List pEnt := [(1420, .aload_n 1, 1, []), (1421, .aload_n 0, 1, []), (1422, .iload 4, 2, []), (1424, .iconst 1, 1, []), (1425, .iadd, 1, []), (1426, .iaload, 1, []), (1427, .invokevirtual 190, 3, [10, 1, 684, 0, 11, 23]), (1430, .aload_n 2, 1, []), (1431, .aload_n 0, 1, []), (1432, .iload 4, 2, []), (1434, .iconst 1, 1, []), (1435, .iadd, 1, []), (1436, .iaload, 1, []), (1437, .invokevirtual 193, 3, [10, 1, 1858, 0, 12, 117]), (1440, .if_icmp .eq 710, 3, [98]), (1443, .iconst 0, 1, []), (1444, .ireturn, 1, [2])]
def T_279_65 : List pEnt := [(1445, .aload_n 1, 1, []), (1446, .aload_n 0, 1, []), (1447, .iload 4, 2, []), (1449, .iconst 1, 1, []), (1450, .iadd, 1, []), (1451, .iaload, 1, []), (1452, .aload_n 0, 1, []), (1453, .iload 4, 2, []), (1455, .iconst 2, 1, []), (1456, .iadd, 1, []), (1457, .iaload, 1, []), (1458, .aload_n 3, 1, []), (1459, .invokestatic 194, 3, [22, 4, 1267, 0, 266]), (1462, .istore 5, 2, []), (1464, .aload_n 2, 1, []), (1465, .aload_n 0, 1, []), (1466, .iload 4, 2, []), (1468, .iconst 1, 1, []), (1469, .iadd, 1, []), (1470, .iaload, 1, []), (1471, .aload_n 0, 1, []), (1472, .iload 4, 2, []), (1474, .iconst 2, 1, []), (1475, .iadd, 1, []), (1476, .iaload, 1, []), (1477, .invokevirtual 196, 3, [10, 2, 1862, 0, 12, 120]), (1480, .istore 6, 2, []), (1482, .aload_n 2, 1, []), (1483, .invokevirtual 122, 3, [10, 0, 1569, 0, 12, 51]), (1486, .iload 5, 2, []), (1488, .if_icmp .eq 5, 3, [66]), (1491, .iconst 0, 1, []), (1492, .ireturn, 1, [2])]
def T_279_66 : List pEnt := [(1493, .iload 5, 2, []), (1495, .ifCond .ne 15, 3, [67]), (1498, .aload_n 3, 1, []), (1499, .iconst 0, 1, []), (1500, .laload, 1, []), (1501, .iload 6, 2, []), (1503, .i2l, 1, []), (1504, .lcmp, 1, []), (1505, .ifCond .eq 5, 3, [67]), (1508, .iconst 0, 1, []), (1509, .ireturn, 1, [2])]
def T_279_67 : List pEnt := [(1510, .goto 640, 3, [98])]
def T_279_68 : List pEnt := [(1513, .aload_n 1, 1, []), (1514, .aload_n 0, 1, []), (1515, .iload 4, 2, []), (1517, .iconst 1, 1, []), (1518, .iadd, 1, []), (1519, .iaload, 1, []), (1520, .aload_n 0, 1, []), (1521, .iload 4, 2, []), (1523, .iconst 2, 1, []), (1524, .iadd, 1, []), (1525, .iaload, 1, []), (1526, .aload_n 3, 1, []), (1527, .invokestatic 197, 3, [22, 4, 1278, 0, 267]), (1530, .istore 5, 2, []), (1532, .aload_n 2, 1, []), (1533, .aload_n 0, 1, []), (1534, .iload 4, 2, []), (1536, .iconst 1, 1, []), (1537, .iadd, 1, []), (1538, .iaload, 1, []), (1539, .aload_n 0, 1, []), (1540, .iload 4, 2, []), (1542, .iconst 2, 1, []), (1543, .iadd, 1, []), (1544, .iaload, 1, []), (1545, .invokevirtual 199, 3, [10, 2, 1874, 0, 12, 124]), (1548, .istore 6, 2, []), (1550, .aload_n 2, 1, []), (1551, .invokevirtual 122, 3, [10, 0, 1569, 0, 12, 51]), (1554, .iload 5, 2, []), (1556, .if_icmp .eq 5, 3, [69]), (1559, .iconst 0, 1, []), (1560, .ireturn, 1, [2])]
def T_279_69 : List pEnt := [(1561, .iload 5, 2, []), (1563, .ifCond .ne 15, 3, [70]), (1566, .aload_n 3, 1, []), (1567, .iconst 0, 1, []), (1568, .laload, 1, []), (1569, .iload 6, 2, []), (1571, .i2l, 1, []), (1572, .lcmp, 1, []), (1573, .ifCond .eq 5, 3, [70]), (1576, .iconst 0, 1, []), (1577, .ireturn, 1, [2])]
def T_279_70 : List pEnt := [(1578, .goto 572, 3, [98])]
def T_279_71 : List pEnt := [(1581, .aload_n 1, 1, []), (1582, .aload_n 0, 1, []), (1583, .iload 4, 2, []), (1585, .iconst 1, 1, []), (1586, .iadd, 1, []), (1587, .iaload, 1, []), (1588, .aload_n 0, 1, []), (1589, .iload 4, 2, []), (1591, .iconst 2, 1, []), (1592, .iadd, 1, []), (1593, .iaload, 1, []), (1594, .aload_n 3, 1, []), (1595, .invokestatic 200, 3, [22, 4, 1312, 0, 268]), (1598, .istore 5, 2, []), (1600, .aload_n 2, 1, []), (1601, .aload_n 0, 1, []), (1602, .iload 4, 2, []), (1604, .iconst 1, 1, []), (1605, .iadd, 1, []), (1606, .iaload, 1, []), (1607, .aload_n 0, 1, []), (1608, .iload 4, 2, []), (1610, .iconst 2, 1, []), (1611, .iadd, 1, []), (1612, .iaload, 1, []), (1613, .invokevirtual 202, 3, [10, 2, 1890, 0, 12, 125]), (1616, .istore 6, 2, []), (1618, .aload_n 2, 1, []), (1619, .invokevirtual 122, 3, [10, 0, 1569, 0, 12, 51]), (1622, .iload 5, 2, []), (1624, .if_icmp .eq 5, 3, [72]), (1627, .iconst 0, 1, []), (1628, .ireturn, 1, [2])]
def T_279_72 : List pEnt := [(1629, .iload 5, 2, []), (1631, .ifCond .ne 15, 3, [73]), (1634, .aload_n 3, 1, []), (1635, .iconst 0, 1, []), (1636, .laload, 1, []), (1637, .iload 6, 2, []), (1639, .i2l, 1, []), (1640, .lcmp, 1, []), (1641, .ifCond .eq 5, 3, [73]), (1644, .iconst 0, 1, []), (1645, .ireturn, 1, [2])]
def T_279_73 : List pEnt := [(1646, .goto 504, 3, [98])]
def T_279_74 : List pEnt := [(1649, .aload_n 1, 1, []), (1650, .aload_n 0, 1, []), (1651, .iload 4, 2, []), (1653, .iconst 1, 1, []), (1654, .iadd, 1, []), (1655, .iaload, 1, []), (1656, .aload_n 0, 1, []), (1657, .iload 4, 2, []), (1659, .iconst 2, 1, []), (1660, .iadd, 1, []), (1661, .iaload, 1, []), (1662, .aload_n 0, 1, []), (1663, .iload 4, 2, []), (1665, .iconst 3, 1, []), (1666, .iadd, 1, []), (1667, .iaload, 1, []), (1668, .aload_n 0, 1, []), (1669, .iload 4, 2, []), (1671, .iconst 4, 1, []), (1672, .iadd, 1, []), (1673, .iaload, 1, []), (1674, .aload_n 3, 1, []), (1675, .invokestatic 203, 3, [22, 6, 1319, 0, 269]), (1678, .istore 5, 2, []), (1680, .aload_n 2, 1, []), (1681, .aload_n 0, 1, []), (1682, .iload 4, 2, []), (1684, .iconst 1, 1, []), (1685, .iadd, 1, []), (1686, .iaload, 1, []), (1687, .aload_n 0, 1, []), (1688, .iload 4, 2, []), (1690, .iconst 2, 1, []), (1691, .iadd, 1, []), (1692, .iaload, 1, []), (1693, .aload_n 0, 1, []), (1694, .iload 4, 2, []), (1696, .iconst 3, 1, []), (1697, .iadd, 1, []), (1698, .iaload, 1, []), (1699, .aload_n 0, 1, []), (1700, .iload 4, 2, []), (1702, .iconst 4, 1, []), (1703, .iadd, 1, []), (1704, .iaload, 1, []), (1705, .invokevirtual 206, 3, [10, 4, 1894, 0, 12, 126]), (1708, .istore 6, 2, []), (1710, .aload_n 2, 1, []), (1711, .invokevirtual 122, 3, [10, 0, 1569, 0, 12, 51]), (1714, .iload 5, 2, []), (1716, .if_icmp .eq 5, 3, [75]), (1719, .iconst 0, 1, []), (1720, .ireturn, 1, [2])]
def T_279_75 : List pEnt := [(1721, .iload 5, 2, []), (1723, .ifCond .ne 15, 3, [76]), (1726, .aload_n 3, 1, []), (1727, .iconst 0, 1, []), (1728, .laload, 1, []), (1729, .iload 6, 2, []), (1731, .i2l, 1, []), (1732, .lcmp, 1, []), (1733, .ifCond .eq 5, 3, [76]), (1736, .iconst 0, 1, []), (1737, .ireturn, 1, [2])]
def T_279_76 : List pEnt := [(1738, .goto 412, 3, [98])]
def T_279_77 : List pEnt := [(1741, .aload_n 1, 1, []), (1742, .aload_n 3, 1, []), (1743, .invokestatic 207, 3, [22, 2, 1350, 0, 270]), (1746, .istore 5, 2, []), (1748, .aload_n 2, 1, []), (1749, .invokevirtual 209, 3, [10, 0, 1898, 0, 12, 127]), (1752, .istore 6, 2, []), (1754, .aload_n 2, 1, []), (1755, .invokevirtual 122, 3, [10, 0, 1569, 0, 12, 51]), (1758, .iload 5, 2, []), (1760, .if_icmp .eq 5, 3, [78]), (1763, .iconst 0, 1, []), (1764, .ireturn, 1, [2])]
def T_279_78 : List pEnt := [(1765, .iload 5, 2, []), (1767, .ifCond .ne 15, 3, [79]), (1770, .aload_n 3, 1, []), (1771, .iconst 0, 1, []), (1772, .laload, 1, []), (1773, .iload 6, 2, []), (1775, .i2l, 1, []), (1776, .lcmp, 1, []), (1777, .ifCond .eq 5, 3, [79]), (1780, .iconst 0, 1, []), (1781, .ireturn, 1, [2])]
def T_279_79 : List pEnt := [(1782, .goto 368, 3, [98])]
def T_279_80 : List pEnt := [(1785, .aload_n 1, 1, []), (1786, .aload_n 0, 1, []), (1787, .iload 4, 2, []), (1789, .iconst 1, 1, []), (1790, .iadd, 1, []), (1791, .iaload, 1, []), (1792, .aload_n 3, 1, []), (1793, .invokestatic 210, 3, [22, 3, 1368, 0, 271]), (1796, .istore 5, 2, []), (1798, .aload_n 2, 1, []), (1799, .aload_n 0, 1, []), (1800, .iload 4, 2, []), (1802, .iconst 1, 1, []), (1803, .iadd, 1, []), (1804, .iaload, 1, []), (1805, .invokevirtual 212, 3, [10, 1, 1902, 0, 12, 131]), (1808, .istore 6, 2, []), (1810, .aload_n 2, 1, []), (1811, .invokevirtual 122, 3, [10, 0, 1569, 0, 12, 51]), (1814, .iload 5, 2, []), (1816, .if_icmp .eq 5, 3, [81]), (1819, .iconst 0, 1, []), (1820, .ireturn, 1, [2])]
def T_279_81 : List pEnt := [(1821, .iload 5, 2, []), (1823, .ifCond .ne 15, 3, [82]), (1826, .aload_n 3, 1, []), (1827, .iconst 0, 1, []), (1828, .laload, 1, []), (1829, .iload 6, 2, []), (1831, .i2l, 1, []), (1832, .lcmp, 1, []), (1833, .ifCond .eq 5, 3, [82]), (1836, .iconst 0, 1, []), (1837, .ireturn, 1, [2])]
def T_279_82 : List pEnt := [(1838, .goto 312, 3, [98])]
def T_279_83 : List pEnt := [(1841, .aload_n 1, 1, []), (1842, .aload_n 0, 1, []), (1843, .iload 4, 2, []), (1845, .iconst 1, 1, []), (1846, .iadd, 1, []), (1847, .iaload, 1, []), (1848, .aload_n 0, 1, []), (1849, .iload 4, 2, []), (1851, .iconst 2, 1, []), (1852, .iadd, 1, []), (1853, .iaload, 1, []), (1854, .aload_n 3, 1, []), (1855, .invokestatic 213, 3, [22, 4, 1411, 0, 272]), (1858, .istore 5, 2, []), (1860, .aload_n 2, 1, []), (1861, .aload_n 0, 1, []), (1862, .iload 4, 2, []), (1864, .iconst 1, 1, []), (1865, .iadd, 1, []), (1866, .iaload, 1, []), (1867, .aload_n 0, 1, []), (1868, .iload 4, 2, []), (1870, .iconst 2, 1, []), (1871, .iadd, 1, []), (1872, .iaload, 1, []), (1873, .invokevirtual 215, 3, [10, 2, 1918, 0, 12, 133]), (1876, .istore 6, 2, []), (1878, .aload_n 2, 1, []), (1879, .invokevirtual 122, 3, [10, 0, 1569, 0, 12, 51]), (1882, .iload 5, 2, []), (1884, .if_icmp .eq 5, 3, [84]), (1887, .iconst 0, 1, []), (1888, .ireturn, 1, [2])]
def T_279_84 : List pEnt := [(1889, .iload 5, 2, []), (1891, .ifCond .ne 15, 3, [85]), (1894, .aload_n 3, 1, []), (1895, .iconst 0, 1, []), (1896, .laload, 1, []), (1897, .iload 6, 2, []), (1899, .i2l, 1, []), (1900, .lcmp, 1, []), (1901, .ifCond .eq 5, 3, [85]), (1904, .iconst 0, 1, []), (1905, .ireturn, 1, [2])]
def T_279_85 : List pEnt := [(1906, .goto 244, 3, [98])]
def T_279_86 : List pEnt := [(1909, .aload_n 1, 1, []), (1910, .aload_n 0, 1, []), (1911, .iload 4, 2, []), (1913, .iconst 1, 1, []), (1914, .iadd, 1, []), (1915, .iaload, 1, []), (1916, .aload_n 3, 1, []), (1917, .invokestatic 216, 3, [22, 3, 1427, 0, 273]), (1920, .istore 5, 2, []), (1922, .aload_n 2, 1, []), (1923, .aload_n 0, 1, []), (1924, .iload 4, 2, []), (1926, .iconst 1, 1, []), (1927, .iadd, 1, []), (1928, .iaload, 1, []), (1929, .invokevirtual 218, 3, [10, 1, 1926, 0, 12, 134]), (1932, .istore 6, 2, []), (1934, .aload_n 2, 1, []), (1935, .invokevirtual 122, 3, [10, 0, 1569, 0, 12, 51]), (1938, .iload 5, 2, []), (1940, .if_icmp .eq 5, 3, [87]), (1943, .iconst 0, 1, []), (1944, .ireturn, 1, [2])]
def T_279_87 : List pEnt := [(1945, .iload 5, 2, []), (1947, .ifCond .ne 15, 3, [88]), (1950, .aload_n 3, 1, []), (1951, .iconst 0, 1, []), (1952, .laload, 1, []), (1953, .iload 6, 2, []), (1955, .i2l, 1, []), (1956, .lcmp, 1, []), (1957, .ifCond .eq 5, 3, [88]), (1960, .iconst 0, 1, []), (1961, .ireturn, 1, [2])]
def T_279_88 : List pEnt := [(1962, .goto 188, 3, [98])]
def T_279_89 : List pEnt := [(1965, .aload_n 1, 1, []), (1966, .aload_n 0, 1, []), (1967, .iload 4, 2, []), (1969, .iconst 1, 1, []), (1970, .iadd, 1, []), (1971, .iaload, 1, []), (1972, .aload_n 3, 1, []), (1973, .invokestatic 219, 3, [22, 3, 1434, 0, 274]), (1976, .istore 5, 2, []), (1978, .aload_n 2, 1, []), (1979, .aload_n 0, 1, []), (1980, .iload 4, 2, []), (1982, .iconst 1, 1, []), (1983, .iadd, 1, []), (1984, .iaload, 1, []), (1985, .invokevirtual 221, 3, [10, 1, 1930, 0, 12, 135]), (1988, .istore 6, 2, []), (1990, .aload_n 2, 1, []), (1991, .invokevirtual 122, 3, [10, 0, 1569, 0, 12, 51]), (1994, .iload 5, 2, []), (1996, .if_icmp .eq 5, 3, [90]), (1999, .iconst 0, 1, []), (2000, .ireturn, 1, [2])]
def T_279_90 : List pEnt := [(2001, .iload 5, 2, []), (2003, .ifCond .ne 15, 3, [91]), (2006, .aload_n 3, 1, []), (2007, .iconst 0, 1, []), (2008, .laload, 1, []), (2009, .iload 6, 2, []), (2011, .i2l, 1, []), (2012, .lcmp, 1, []), (2013, .ifCond .eq 5, 3, [91]), (2016, .iconst 0, 1, []), (2017, .ireturn, 1, [2])]
def T_279_91 : List pEnt := [(2018, .goto 132, 3, [98])]
def T_279_92 : List pEnt := [(2021, .aload_n 1, 1, []), (2022, .aload_n 0, 1, []), (2023, .iload 4, 2, []), (2025, .iconst 1, 1, []), (2026, .iadd, 1, []), (2027, .iaload, 1, []), (2028, .aload_n 0, 1, []), (2029, .iload 4, 2, []), (2031, .iconst 2, 1, []), (2032, .iadd, 1, []), (2033, .iaload, 1, []), (2034, .aload_n 0, 1, []), (2035, .iload 4, 2, []), (2037, .iconst 3, 1, []), (2038, .iadd, 1, []), (2039, .iaload, 1, []), (2040, .aload_n 3, 1, []), (2041, .invokestatic 222, 3, [22, 5, 1442, 0, 275]), (2044, .istore 5, 2, []), (2046, .aload_n 2, 1, []), (2047, .aload_n 0, 1, []), (2048, .iload 4, 2, []), (2050, .iconst 1, 1, []), (2051, .iadd, 1, []), (2052, .iaload, 1, []), (2053, .aload_n 0, 1, []), (2054, .iload 4, 2, []), (2056, .iconst 2, 1, []), (2057, .iadd, 1, []), (2058, .iaload, 1, []), (2059, .aload_n 0, 1, []), (2060, .iload 4, 2, []), (2062, .iconst 3, 1, []), (2063, .iadd, 1, []), (2064, .iaload, 1, []), (2065, .invokevirtual 224, 3, [10, 3, 1934, 0, 12, 137]), (2068, .istore 6, 2, []), (2070, .aload_n 2, 1, []), (2071, .invokevirtual 122, 3, [10, 0, 1569, 0, 12, 51]), (2074, .iload 5, 2, []), (2076, .if_icmp .eq 5, 3, [93]), (2079, .iconst 0, 1, []), (2080, .ireturn, 1, [2])]
def T_279_93 : List pEnt := [(2081, .iload 5, 2, []), (2083, .ifCond .ne 15, 3, [94]), (2086, .aload_n 3, 1, []), (2087, .iconst 0, 1, []), (2088, .laload, 1, []), (2089, .iload 6, 2, []), (2091, .i2l, 1, []), (2092, .lcmp, 1, []), (2093, .ifCond .eq 5, 3, [94]), (2096, .iconst 0, 1, []), (2097, .ireturn, 1, [2])]
def T_279_94 : List pEnt := [(2098, .goto 52, 3, [98])]
def T_279_95 : List pEnt := [(2101, .aload_n 1, 1, []), (2102, .invokevirtual 225, 3, [10, 0, 688, 0, 11, 34]), (2105, .aload_n 2, 1, []), (2106, .invokevirtual 228, 3, [10, 0, 1943, 0, 12, 138]), (2109, .goto 41, 3, [98])]
def T_279_96 : List pEnt := [(2112, .aload_n 1, 1, []), (2113, .invokevirtual 229, 3, [10, 0, 692, 0, 11, 35]), (2116, .aload_n 2, 1, []), (2117, .invokevirtual 233, 3, [10, 0, 1947, 0, 12, 139]), (2120, .if_icmp .eq 30, 3, [98]), (2123, .iconst 0, 1, []), (2124, .ireturn, 1, [2])]
def T_279_97 : List pEnt := [(2125, .aload_n 1, 1, []), (2126, .aload_n 0, 1, []), (2127, .iload 4, 2, []), (2129, .iconst 1, 1, []), (2130, .iadd, 1, []), (2131, .iaload, 1, []), (2132, .invokevirtual 234, 3, [10, 1, 696, 0, 11, 36]), (2135, .aload_n 2, 1, []), (2136, .aload_n 0, 1, []), (2137, .iload 4, 2, []), (2139, .iconst 1, 1, []), (2140, .iadd, 1, []), (2141, .iaload, 1, []), (2142, .invokevirtual 237, 3, [10, 1, 1951, 0, 12, 140]), (2145, .if_icmp .eq 5, 3, [98]), (2148, .iconst 0, 1, []), (2149, .ireturn, 1, [2])]
def T_279_98 : List pEnt := [(2150, .iinc 4 6, 3, []), (2153, .goto (-2130), 3, [1])]
def T_279_99 : List pEnt := [(2156, .iconst 1, 1, []), (2157, .ireturn, 1, [2])]
set_option maxRecDepth 100000 in
def T_279 : List (List pEnt) := [T_279_0, T_279_1, T_279_2, T_279_3, T_279_4, T_279_5, T_279_6, T_279_7, T_279_8, T_279_9, T_279_10, T_279_11, T_279_12, T_279_13, T_279_14, T_279_15, T_279_16, T_279_17, T_279_18, T_279_19, T_279_20, T_279_21, T_279_22, T_279_23, T_279_24, T_279_25, T_279_26, T_279_27, T_279_28, T_279_29, T_279_30, T_279_31, T_279_32, T_279_33, T_279_34, T_279_35, T_279_36, T_279_37, T_279_38, T_279_39, T_279_40, T_279_41, T_279_42, T_279_43, T_279_44, T_279_45, T_279_46, T_279_47, T_279_48, T_279_49, T_279_50, T_279_51, T_279_52, T_279_53, T_279_54, T_279_55, T_279_56, T_279_57, T_279_58, T_279_59, T_279_60, T_279_61, T_279_62, T_279_63, T_279_64, T_279_65, T_279_66, T_279_67, T_279_68, T_279_69, T_279_70, T_279_71, T_279_72, T_279_73, T_279_74, T_279_75, T_279_76, T_279_77, T_279_78, T_279_79, T_279_80, T_279_81, T_279_82, T_279_83, T_279_84, T_279_85, T_279_86, T_279_87, T_279_88, T_279_89, T_279_90, T_279_91, T_279_92, T_279_93, T_279_94, T_279_95, T_279_96, T_279_97, T_279_98, T_279_99]
set_option maxRecDepth 100000 in
def bl_279 : List Nat := [0, 23, 200, 273, 298, 322, 339, 342, 366, 383, 386, 399, 447, 464, 467, 505, 506, 550, 551, 567, 584, 587, 635, 652, 655, 691, 708, 711, 747, 764, 767, 815, 832, 835, 883, 900, 903, 951, 968, 969, 975, 978, 1014, 1031, 1034, 1070, 1087, 1090, 1138, 1155, 1158, 1218, 1235, 1238, 1274, 1291, 1292, 1298, 1301, 1337, 1354, 1357, 1382, 1407, 1420, 1445, 1493, 1510, 1513, 1561, 1578, 1581, 1629, 1646, 1649, 1721, 1738, 1741, 1765, 1782, 1785, 1821, 1838, 1841, 1889, 1906, 1909, 1945, 1962, 1965, 2001, 2018, 2021, 2081, 2098, 2101, 2112, 2125, 2150, 2156]
