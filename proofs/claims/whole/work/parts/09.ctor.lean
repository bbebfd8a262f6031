/-! ===== the constructors, run by an interpreter ===== -/
def cd0 : List (Nat × OP) := [
  (0, oi (.aload_n 0)),
  (1, (.invokespecial 3, 0, 999, 0, 0, 239)),
  (4, oi (.aload_n 0)),
  (5, (.new 9, 0, 9, 202, 46, 240)),
  (8, oi .dup),
  (9, (.invokespecial 11, 0, 9, 0, 0, 241)),
  (12, (.putfield 12, 0, 0, 0, 2, 242)),
  (15, oi (.aload_n 0)),
  (16, oi (.bipush 60)),
  (18, (.newarray .int, 0, 0, 0, 0, 103)),
  (20, (.putfield 20, 1, 0, 1, 2, 244)),
  (23, oi (.aload_n 0)),
  (24, oi (.bipush 8)),
  (26, (.newarray .int, 0, 0, 0, 0, 103)),
  (28, (.putfield 24, 2, 0, 2, 2, 245)),
  (31, oi (.aload_n 0)),
  (32, oi (.bipush 8)),
  (34, (.newarray .int, 0, 0, 0, 0, 103)),
  (36, (.putfield 27, 3, 0, 3, 2, 246)),
  (39, oi (.aload_n 0)),
  (40, oi (.bipush 8)),
  (42, (.newarray .int, 0, 0, 0, 0, 103)),
  (44, (.putfield 30, 4, 0, 4, 2, 247)),
  (47, oi (.aload_n 0)),
  (48, oi (.bipush 8)),
  (50, (.newarray .int, 0, 0, 0, 0, 103)),
  (52, (.putfield 33, 5, 0, 5, 2, 248)),
  (55, oi .return_)]
def cd1 : List (Nat × OP) := [
  (0, oi (.aload_n 0)),
  (1, (.invokespecial 1, 0, 999, 0, 0, 77)),
  (4, oi (.aload_n 0)),
  (5, oi (.bipush 44)),
  (7, (.newarray .int, 0, 0, 0, 0, 103)),
  (9, (.putfield 11, 0, 1, 0, 2, 78)),
  (12, oi (.aload_n 0)),
  (13, oi (.bipush 16)),
  (15, (.newarray .int, 0, 0, 0, 0, 103)),
  (17, (.putfield 15, 1, 1, 1, 2, 79)),
  (20, oi (.aload_n 0)),
  (21, oi (.iconst 4)),
  (22, (.newarray .int, 0, 0, 0, 0, 103)),
  (24, (.putfield 18, 2, 1, 2, 2, 80)),
  (27, oi (.aload_n 0)),
  (28, oi (.iconst 4)),
  (29, (.newarray .int, 0, 0, 0, 0, 103)),
  (31, (.putfield 21, 3, 1, 3, 2, 81)),
  (34, oi .return_)]
def cd2 : List (Nat × OP) := [
  (0, oi (.aload_n 0)),
  (1, (.invokespecial 1, 0, 999, 0, 0, 149)),
  (4, oi (.aload_n 0)),
  (5, oi (.bipush 60)),
  (7, (.newarray .int, 0, 0, 0, 0, 103)),
  (9, (.putfield 9, 0, 2, 0, 2, 150)),
  (12, oi (.aload_n 0)),
  (13, oi (.bipush 24)),
  (15, (.newarray .int, 0, 0, 0, 0, 103)),
  (17, (.putfield 13, 1, 2, 1, 2, 153)),
  (20, oi (.aload_n 0)),
  (21, oi (.bipush 8)),
  (23, (.putfield 16, 2, 2, 2, 0, 154)),
  (26, oi (.aload_n 0)),
  (27, oi (.sipush 255)),
  (30, (.putfield 20, 3, 2, 3, 0, 158)),
  (33, oi (.iconst 0)),
  (34, oi (.istore_n 1)),
  (35, oi (.iload_n 1)),
  (36, oi (.bipush 60)),
  (38, (.if_icmp .ge 17, 0, 0, 55, 0, 0)),
  (41, oi (.aload_n 0)),
  (42, (.getfield 9, 0, 2, 0, 2, 150)),
  (45, oi (.iload_n 1)),
  (46, oi (.bipush 40)),
  (48, oi .iastore),
  (49, oi (.iinc 1 1)),
  (52, (.goto (-17), 0, 0, 35, 0, 0)),
  (55, oi (.iconst 0)),
  (56, oi (.istore_n 1)),
  (57, oi (.iload_n 1)),
  (58, oi (.bipush 24)),
  (60, (.if_icmp .ge 21, 0, 0, 81, 0, 0)),
  (63, oi (.aload_n 0)),
  (64, (.getfield 13, 1, 2, 1, 2, 153)),
  (67, oi (.iload_n 1)),
  (68, oi (.bipush 20)),
  (70, oi (.iload_n 1)),
  (71, oi (.iconst 3)),
  (72, oi .irem),
  (73, oi .ishl),
  (74, oi .iastore),
  (75, oi (.iinc 1 1)),
  (78, (.goto (-21), 0, 0, 57, 0, 0)),
  (81, oi .return_)]
def cd3 : List (Nat × OP) := [
  (0, oi (.aload_n 0)),
  (1, (.invokespecial 1, 0, 999, 0, 0, 71)),
  (4, oi (.aload_n 0)),
  (5, oi (.sipush 160)),
  (8, (.newarray .int, 0, 0, 0, 0, 103)),
  (10, (.putfield 9, 0, 3, 0, 2, 105)),
  (13, oi (.aload_n 0)),
  (14, oi (.sipush 160)),
  (17, (.newarray .int, 0, 0, 0, 0, 103)),
  (19, (.putfield 13, 1, 3, 1, 2, 107)),
  (22, oi (.aload_n 0)),
  (23, oi (.bipush 10)),
  (25, (.newarray .boolean, 0, 0, 0, 1, 104)),
  (27, (.putfield 16, 2, 3, 2, 2, 110)),
  (30, oi (.aload_n 0)),
  (31, oi (.bipush 40)),
  (33, (.newarray .int, 0, 0, 0, 0, 103)),
  (35, (.putfield 20, 3, 3, 3, 2, 112)),
  (38, oi (.aload_n 0)),
  (39, oi (.bipush 10)),
  (41, (.newarray .int, 0, 0, 0, 0, 103)),
  (43, (.putfield 23, 4, 3, 4, 2, 115)),
  (46, oi (.aload_n 0)),
  (47, oi (.bipush 10)),
  (49, (.newarray .int, 0, 0, 0, 0, 103)),
  (51, (.putfield 26, 5, 3, 5, 2, 118)),
  (54, oi (.aload_n 0)),
  (55, (.new 29, 0, 1, 73, 43, 72)),
  (58, oi .dup),
  (59, (.invokespecial 31, 0, 1, 0, 0, 74)),
  (62, (.putfield 32, 6, 3, 6, 2, 121)),
  (65, oi .return_)]
def cd4 : List (Nat × OP) := [
  (0, oi (.aload_n 0)),
  (1, (.invokespecial 1, 0, 999, 0, 0, 347)),
  (4, oi (.aload_n 0)),
  (5, oi (.bipush 24)),
  (7, (.newarray .int, 0, 0, 0, 0, 103)),
  (9, (.putfield 9, 0, 4, 0, 2, 348)),
  (12, oi .return_)]
def cd5 : List (Nat × OP) := [
  (0, oi (.aload_n 0)),
  (1, (.invokespecial 3, 0, 999, 0, 0, 337)),
  (4, oi (.aload_n 0)),
  (5, oi (.bipush 8)),
  (7, (.newarray .int, 0, 0, 0, 0, 103)),
  (9, (.putfield 11, 0, 5, 0, 2, 338)),
  (12, oi .return_)]
def cd6 : List (Nat × OP) := [
  (0, oi (.aload_n 0)),
  (1, (.invokespecial 3, 0, 999, 0, 0, 357)),
  (4, oi (.aload_n 0)),
  (5, oi (.bipush 10)),
  (7, (.newarray .int, 0, 0, 0, 0, 103)),
  (9, oi .dup),
  (10, oi (.iconst 0)),
  (11, oi (.iconst 0)),
  (12, oi .iastore),
  (13, oi .dup),
  (14, oi (.iconst 1)),
  (15, oi (.iconst 0)),
  (16, oi .iastore),
  (17, oi .dup),
  (18, oi (.iconst 2)),
  (19, oi (.iconst 0)),
  (20, oi .iastore),
  (21, oi .dup),
  (22, oi (.iconst 3)),
  (23, oi (.iconst 1)),
  (24, oi .iastore),
  (25, oi .dup),
  (26, oi (.iconst 4)),
  (27, oi (.iconst 1)),
  (28, oi .iastore),
  (29, oi .dup),
  (30, oi (.iconst 5)),
  (31, oi (.iconst 2)),
  (32, oi .iastore),
  (33, oi .dup),
  (34, oi (.bipush 6)),
  (36, oi (.iconst 2)),
  (37, oi .iastore),
  (38, oi .dup),
  (39, oi (.bipush 7)),
  (41, oi (.iconst 3)),
  (42, oi .iastore),
  (43, oi .dup),
  (44, oi (.bipush 8)),
  (46, oi (.iconst 3)),
  (47, oi .iastore),
  (48, oi .dup),
  (49, oi (.bipush 9)),
  (51, oi (.iconst 4)),
  (52, oi .iastore),
  (53, (.putfield 9, 0, 6, 0, 2, 358)),
  (56, oi (.aload_n 0)),
  (57, oi (.bipush 10)),
  (59, (.newarray .int, 0, 0, 0, 0, 103)),
  (61, oi .dup),
  (62, oi (.iconst 0)),
  (63, oi (.iconst 0)),
  (64, oi .iastore),
  (65, oi .dup),
  (66, oi (.iconst 1)),
  (67, oi (.bipush 10)),
  (69, oi .iastore),
  (70, oi .dup),
  (71, oi (.iconst 2)),
  (72, oi (.bipush 10)),
  (74, oi .iastore),
  (75, oi .dup),
  (76, oi (.iconst 3)),
  (77, oi (.bipush 10)),
  (79, oi .iastore),
  (80, oi .dup),
  (81, oi (.iconst 4)),
  (82, oi (.bipush 10)),
  (84, oi .iastore),
  (85, oi .dup),
  (86, oi (.iconst 5)),
  (87, oi (.bipush 10)),
  (89, oi .iastore),
  (90, oi .dup),
  (91, oi (.bipush 6)),
  (93, oi (.bipush 10)),
  (95, oi .iastore),
  (96, oi .dup),
  (97, oi (.bipush 7)),
  (99, oi (.bipush 10)),
  (101, oi .iastore),
  (102, oi .dup),
  (103, oi (.bipush 8)),
  (105, oi (.bipush 10)),
  (107, oi .iastore),
  (108, oi .dup),
  (109, oi (.bipush 9)),
  (111, oi (.bipush 10)),
  (113, oi .iastore),
  (114, (.putfield 15, 1, 6, 1, 2, 359)),
  (117, oi (.aload_n 0)),
  (118, oi (.bipush 10)),
  (120, (.newarray .boolean, 0, 0, 0, 1, 104)),
  (122, (.putfield 18, 2, 6, 2, 2, 360)),
  (125, oi .return_)]
def cd7 : List (Nat × OP) := [
  (0, oi (.aload_n 0)),
  (1, (.invokespecial 1, 0, 999, 0, 0, 301)),
  (4, oi (.aload_n 0)),
  (5, oi (.bipush 12)),
  (7, (.newarray .int, 0, 0, 0, 0, 103)),
  (9, (.putfield 9, 0, 7, 0, 2, 302)),
  (12, oi (.aload_n 0)),
  (13, oi (.bipush 12)),
  (15, (.newarray .int, 0, 0, 0, 0, 103)),
  (17, (.putfield 13, 1, 7, 1, 2, 303)),
  (20, oi (.aload_n 0)),
  (21, oi (.bipush 12)),
  (23, (.newarray .int, 0, 0, 0, 0, 103)),
  (25, (.putfield 16, 2, 7, 2, 2, 304)),
  (28, oi (.aload_n 0)),
  (29, oi (.bipush 12)),
  (31, (.newarray .int, 0, 0, 0, 0, 103)),
  (33, (.putfield 19, 3, 7, 3, 2, 305)),
  (36, oi (.aload_n 0)),
  (37, oi (.bipush 12)),
  (39, (.newarray .int, 0, 0, 0, 0, 103)),
  (41, (.putfield 22, 4, 7, 4, 2, 306)),
  (44, oi (.aload_n 0)),
  (45, oi (.bipush 8)),
  (47, (.newarray .int, 0, 0, 0, 0, 103)),
  (49, (.putfield 25, 6, 7, 6, 2, 309)),
  (52, oi (.aload_n 0)),
  (53, oi (.bipush 48)),
  (55, (.newarray .long, 0, 0, 0, 2, 331)),
  (57, (.putfield 30, 7, 7, 7, 2, 310)),
  (60, oi (.aload_n 0)),
  (61, oi (.bipush 48)),
  (63, (.newarray .int, 0, 0, 0, 0, 103)),
  (65, (.putfield 34, 8, 7, 8, 2, 311)),
  (68, oi .return_)]
def cd8 : List (Nat × OP) := [
  (0, oi (.aload_n 0)),
  (1, (.invokespecial 5, 0, 999, 0, 0, 174)),
  (4, oi (.aload_n 0)),
  (5, oi (.bipush 40)),
  (7, (.newarray .int, 0, 0, 0, 0, 103)),
  (9, (.putfield 11, 0, 8, 0, 2, 175)),
  (12, oi (.aload_n 0)),
  (13, oi (.bipush 6)),
  (15, (.newarray .int, 0, 0, 0, 0, 103)),
  (17, (.putfield 15, 2, 8, 2, 2, 178)),
  (20, oi (.aload_n 0)),
  (21, oi (.bipush 6)),
  (23, (.newarray .boolean, 0, 0, 0, 1, 104)),
  (25, (.putfield 18, 3, 8, 3, 2, 179)),
  (28, oi (.aload_n 0)),
  (29, oi (.bipush 6)),
  (31, (.newarray .int, 0, 0, 0, 0, 103)),
  (33, (.putfield 22, 4, 8, 4, 2, 180)),
  (36, oi (.aload_n 0)),
  (37, oi (.bipush 6)),
  (39, (.newarray .int, 0, 0, 0, 0, 103)),
  (41, (.putfield 25, 5, 8, 5, 2, 181)),
  (44, oi .return_)]
def cd9 : List (Nat × OP) := [
  (0, oi (.aload_n 0)),
  (1, (.invokespecial 3, 0, 999, 0, 0, 206)),
  (4, oi (.aload_n 0)),
  (5, oi (.bipush 8)),
  (7, (.newarray .int, 0, 0, 0, 0, 103)),
  (9, (.putfield 11, 0, 9, 0, 2, 207)),
  (12, oi .return_)]
def cd10 : List (Nat × OP) := [
  (0, oi (.aload_n 0)),
  (1, (.invokespecial 1, 0, 999, 0, 0, 282)),
  (4, oi (.aload_n 0)),
  (5, oi (.iconst 4)),
  (6, (.newarray .int, 0, 0, 0, 0, 103)),
  (8, oi .dup),
  (9, oi (.iconst 0)),
  (10, oi (.bipush 10)),
  (12, oi .iastore),
  (13, oi .dup),
  (14, oi (.iconst 1)),
  (15, oi (.bipush 10)),
  (17, oi .iastore),
  (18, oi .dup),
  (19, oi (.iconst 2)),
  (20, oi (.bipush 10)),
  (22, oi .iastore),
  (23, oi .dup),
  (24, oi (.iconst 3)),
  (25, oi (.bipush 10)),
  (27, oi .iastore),
  (28, (.putfield 7, 0, 10, 0, 2, 283)),
  (31, oi (.aload_n 0)),
  (32, oi (.iconst 4)),
  (33, (.newarray .int, 0, 0, 0, 0, 103)),
  (35, oi .dup),
  (36, oi (.iconst 0)),
  (37, oi (.bipush 10)),
  (39, oi .iastore),
  (40, oi .dup),
  (41, oi (.iconst 1)),
  (42, oi (.bipush 10)),
  (44, oi .iastore),
  (45, oi .dup),
  (46, oi (.iconst 2)),
  (47, oi (.bipush 10)),
  (49, oi .iastore),
  (50, oi .dup),
  (51, oi (.iconst 3)),
  (52, oi (.bipush 10)),
  (54, oi .iastore),
  (55, (.putfield 13, 1, 10, 1, 2, 284)),
  (58, oi (.aload_n 0)),
  (59, oi (.bipush 6)),
  (61, (.newarray .int, 0, 0, 0, 0, 103)),
  (63, oi .dup),
  (64, oi (.iconst 0)),
  (65, oi (.iconst 5)),
  (66, oi .iastore),
  (67, oi .dup),
  (68, oi (.iconst 1)),
  (69, oi (.iconst 5)),
  (70, oi .iastore),
  (71, oi .dup),
  (72, oi (.iconst 2)),
  (73, oi (.iconst 5)),
  (74, oi .iastore),
  (75, oi .dup),
  (76, oi (.iconst 3)),
  (77, oi (.iconst 5)),
  (78, oi .iastore),
  (79, oi .dup),
  (80, oi (.iconst 4)),
  (81, oi (.iconst 5)),
  (82, oi .iastore),
  (83, oi .dup),
  (84, oi (.iconst 5)),
  (85, oi (.iconst 5)),
  (86, oi .iastore),
  (87, (.putfield 16, 2, 10, 2, 2, 285)),
  (90, oi (.aload_n 0)),
  (91, oi (.bipush 24)),
  (93, (.newarray .int, 0, 0, 0, 0, 103)),
  (95, (.putfield 19, 3, 10, 3, 2, 286)),
  (98, oi .return_)]
def cd11 : List (Nat × OP) := [
  (0, oi (.aload_n 0)),
  (1, (.invokespecial 1, 0, 999, 0, 0, 63)),
  (4, oi (.aload_n 0)),
  (5, oi (.bipush 7)),
  (7, (.newarray .int, 0, 0, 0, 0, 103)),
  (9, oi .dup),
  (10, oi (.iconst 0)),
  (11, oi (.bipush 30)),
  (13, oi .iastore),
  (14, oi .dup),
  (15, oi (.iconst 1)),
  (16, oi (.bipush 60)),
  (18, oi .iastore),
  (19, oi .dup),
  (20, oi (.iconst 2)),
  (21, oi (.iconst 2)),
  (22, oi .iastore),
  (23, oi .dup),
  (24, oi (.iconst 3)),
  (25, oi (.iconst 3)),
  (26, oi .iastore),
  (27, oi .dup),
  (28, oi (.iconst 4)),
  (29, oi (.iconst 5)),
  (30, oi .iastore),
  (31, oi .dup),
  (32, oi (.iconst 5)),
  (33, oi (.bipush 30)),
  (35, oi .iastore),
  (36, oi .dup),
  (37, oi (.bipush 6)),
  (39, oi (.iconst 2)),
  (40, oi .iastore),
  (41, (.putfield 7, 0, 11, 0, 2, 369)),
  (44, oi (.aload_n 0)),
  (45, (.new 13, 0, 3, 67, 42, 66)),
  (48, oi .dup),
  (49, (.invokespecial 15, 0, 3, 0, 0, 68)),
  (52, (.putfield 16, 1, 11, 1, 2, 370)),
  (55, oi (.aload_n 0)),
  (56, (.new 20, 0, 2, 145, 44, 144)),
  (59, oi .dup),
  (60, (.invokespecial 22, 0, 2, 0, 0, 146)),
  (63, (.putfield 23, 2, 11, 2, 2, 371)),
  (66, oi (.aload_n 0)),
  (67, (.new 27, 0, 8, 170, 45, 169)),
  (70, oi .dup),
  (71, (.invokespecial 29, 0, 8, 0, 0, 171)),
  (74, (.putfield 30, 3, 11, 3, 2, 372)),
  (77, oi (.aload_n 0)),
  (78, (.new 34, 0, 9, 202, 46, 201)),
  (81, oi .dup),
  (82, (.invokespecial 36, 0, 9, 0, 0, 203)),
  (85, (.putfield 37, 4, 11, 4, 2, 373)),
  (88, oi (.aload_n 0)),
  (89, (.new 41, 0, 0, 235, 47, 234)),
  (92, oi .dup),
  (93, (.invokespecial 43, 0, 0, 0, 0, 236)),
  (96, (.putfield 44, 5, 11, 5, 2, 374)),
  (99, oi (.aload_n 0)),
  (100, (.new 48, 0, 10, 278, 48, 277)),
  (103, oi .dup),
  (104, (.invokespecial 50, 0, 10, 0, 0, 279)),
  (107, (.putfield 51, 6, 11, 6, 2, 375)),
  (110, oi (.aload_n 0)),
  (111, (.new 55, 0, 7, 297, 49, 296)),
  (114, oi .dup),
  (115, (.invokespecial 57, 0, 7, 0, 0, 298)),
  (118, (.putfield 58, 7, 11, 7, 2, 376)),
  (121, oi (.aload_n 0)),
  (122, (.new 62, 0, 5, 333, 50, 332)),
  (125, oi .dup),
  (126, (.invokespecial 64, 0, 5, 0, 0, 334)),
  (129, (.putfield 65, 8, 11, 8, 2, 377)),
  (132, oi (.aload_n 0)),
  (133, (.new 69, 0, 4, 343, 51, 342)),
  (136, oi .dup),
  (137, (.invokespecial 71, 0, 4, 0, 0, 344)),
  (140, (.putfield 72, 9, 11, 9, 2, 378)),
  (143, oi (.aload_n 0)),
  (144, (.new 76, 0, 6, 353, 52, 352)),
  (147, oi .dup),
  (148, (.invokespecial 78, 0, 6, 0, 0, 354)),
  (151, (.putfield 79, 10, 11, 10, 2, 379)),
  (154, oi .return_)]
def cd12 : List (Nat × OP) := [
  (0, oi (.aload_n 0)),
  (1, (.invokespecial 1, 0, 999, 0, 0, 966)),
  (4, oi (.aload_n 0)),
  (5, oi (.sipush 160)),
  (8, (.newarray .int, 0, 0, 0, 0, 103)),
  (10, (.putfield 7, 1, 12, 1, 2, 968)),
  (13, oi (.aload_n 0)),
  (14, oi (.bipush 10)),
  (16, (.newarray .boolean, 0, 0, 0, 1, 104)),
  (18, (.putfield 13, 2, 12, 2, 2, 969)),
  (21, oi (.aload_n 0)),
  (22, oi (.bipush 7)),
  (24, (.newarray .int, 0, 0, 0, 0, 103)),
  (26, (.putfield 17, 3, 12, 3, 2, 970)),
  (29, oi (.aload_n 0)),
  (30, oi (.bipush 24)),
  (32, (.newarray .int, 0, 0, 0, 0, 103)),
  (34, (.putfield 20, 5, 12, 5, 2, 972)),
  (37, oi (.aload_n 0)),
  (38, oi (.bipush 60)),
  (40, (.newarray .int, 0, 0, 0, 0, 103)),
  (42, (.putfield 23, 7, 12, 7, 2, 974)),
  (45, oi (.aload_n 0)),
  (46, oi (.bipush 40)),
  (48, (.newarray .int, 0, 0, 0, 0, 103)),
  (50, (.putfield 26, 9, 12, 9, 2, 976)),
  (53, oi (.aload_n 0)),
  (54, oi (.bipush 40)),
  (56, (.newarray .int, 0, 0, 0, 0, 103)),
  (58, (.putfield 29, 11, 12, 11, 2, 978)),
  (61, oi (.aload_n 0)),
  (62, oi (.iconst 4)),
  (63, (.newarray .int, 0, 0, 0, 0, 103)),
  (65, (.putfield 32, 12, 12, 12, 2, 979)),
  (68, oi (.aload_n 0)),
  (69, oi (.iconst 4)),
  (70, (.newarray .int, 0, 0, 0, 0, 103)),
  (72, (.putfield 35, 13, 12, 13, 2, 980)),
  (75, oi (.aload_n 0)),
  (76, oi (.bipush 6)),
  (78, (.newarray .int, 0, 0, 0, 0, 103)),
  (80, (.putfield 38, 14, 12, 14, 2, 981)),
  (83, oi (.aload_n 0)),
  (84, oi (.bipush 24)),
  (86, (.newarray .int, 0, 0, 0, 0, 103)),
  (88, (.putfield 41, 15, 12, 15, 2, 982)),
  (91, oi (.aload_n 0)),
  (92, oi (.bipush 60)),
  (94, (.newarray .int, 0, 0, 0, 0, 103)),
  (96, (.putfield 44, 17, 12, 17, 2, 984)),
  (99, oi (.aload_n 0)),
  (100, oi (.bipush 8)),
  (102, (.newarray .int, 0, 0, 0, 0, 103)),
  (104, (.putfield 47, 18, 12, 18, 2, 985)),
  (107, oi (.aload_n 0)),
  (108, oi (.sipush 2880)),
  (111, (.newarray .boolean, 0, 0, 0, 1, 104)),
  (113, (.putfield 50, 19, 12, 19, 2, 986)),
  (116, oi (.aload_n 0)),
  (117, oi (.bipush 48)),
  (119, (.newarray .int, 0, 0, 0, 0, 103)),
  (121, (.putfield 53, 20, 12, 20, 2, 987)),
  (124, oi (.aload_n 0)),
  (125, oi (.bipush 8)),
  (127, (.newarray .int, 0, 0, 0, 0, 103)),
  (129, (.putfield 56, 21, 12, 21, 2, 988)),
  (132, oi (.aload_n 0)),
  (133, oi (.bipush 24)),
  (135, (.newarray .int, 0, 0, 0, 0, 103)),
  (137, (.putfield 59, 22, 12, 22, 2, 989)),
  (140, oi (.aload_n 0)),
  (141, oi (.bipush 10)),
  (143, (.newarray .int, 0, 0, 0, 0, 103)),
  (145, (.putfield 62, 23, 12, 23, 2, 990)),
  (148, oi (.aload_n 0)),
  (149, oi (.bipush 10)),
  (151, (.newarray .int, 0, 0, 0, 0, 103)),
  (153, (.putfield 65, 24, 12, 24, 2, 991)),
  (156, oi (.aload_n 0)),
  (157, oi (.bipush 10)),
  (159, (.newarray .boolean, 0, 0, 0, 1, 104)),
  (161, (.putfield 68, 25, 12, 25, 2, 992)),
  (164, oi (.aload_n 0)),
  (165, oi (.bipush 40)),
  (167, (.newarray .int, 0, 0, 0, 0, 103)),
  (169, (.putfield 71, 26, 12, 26, 2, 993)),
  (172, oi (.aload_n 0)),
  (173, oi (.sipush 160)),
  (176, (.newarray .int, 0, 0, 0, 0, 103)),
  (178, (.putfield 74, 27, 12, 27, 2, 994)),
  (181, oi (.aload_n 0)),
  (182, oi (.bipush 10)),
  (184, (.newarray .int, 0, 0, 0, 0, 103)),
  (186, (.putfield 77, 28, 12, 28, 2, 995)),
  (189, oi (.aload_n 0)),
  (190, oi (.bipush 10)),
  (192, (.newarray .int, 0, 0, 0, 0, 103)),
  (194, (.putfield 80, 29, 12, 29, 2, 996)),
  (197, oi (.aload_n 0)),
  (198, oi (.bipush 44)),
  (200, (.newarray .int, 0, 0, 0, 0, 103)),
  (202, (.putfield 83, 30, 12, 30, 2, 997)),
  (205, oi (.aload_n 0)),
  (206, oi (.bipush 8)),
  (208, (.newarray .int, 0, 0, 0, 0, 103)),
  (210, (.putfield 86, 35, 12, 35, 2, 1002)),
  (213, oi (.aload_n 0)),
  (214, oi (.bipush 8)),
  (216, (.newarray .int, 0, 0, 0, 0, 103)),
  (218, (.putfield 89, 36, 12, 36, 2, 1003)),
  (221, oi (.aload_n 0)),
  (222, (.getfield 17, 3, 12, 3, 2, 970)),
  (225, oi (.iconst 0)),
  (226, oi (.bipush 30)),
  (228, oi .iastore),
  (229, oi (.aload_n 0)),
  (230, (.getfield 17, 3, 12, 3, 2, 970)),
  (233, oi (.iconst 1)),
  (234, oi (.bipush 60)),
  (236, oi .iastore),
  (237, oi (.aload_n 0)),
  (238, (.getfield 17, 3, 12, 3, 2, 970)),
  (241, oi (.iconst 2)),
  (242, oi (.iconst 2)),
  (243, oi .iastore),
  (244, oi (.aload_n 0)),
  (245, (.getfield 17, 3, 12, 3, 2, 970)),
  (248, oi (.iconst 3)),
  (249, oi (.iconst 3)),
  (250, oi .iastore),
  (251, oi (.aload_n 0)),
  (252, (.getfield 17, 3, 12, 3, 2, 970)),
  (255, oi (.iconst 4)),
  (256, oi (.iconst 5)),
  (257, oi .iastore),
  (258, oi (.aload_n 0)),
  (259, (.getfield 17, 3, 12, 3, 2, 970)),
  (262, oi (.iconst 5)),
  (263, oi (.bipush 30)),
  (265, oi .iastore),
  (266, oi (.aload_n 0)),
  (267, (.getfield 17, 3, 12, 3, 2, 970)),
  (270, oi (.bipush 6)),
  (272, oi (.iconst 2)),
  (273, oi .iastore),
  (274, oi (.aload_n 0)),
  (275, oi (.bipush 8)),
  (277, (.putfield 92, 4, 12, 4, 0, 971)),
  (280, oi (.aload_n 0)),
  (281, oi (.sipush 255)),
  (284, (.putfield 96, 6, 12, 6, 0, 973)),
  (287, oi (.iconst 0)),
  (288, oi (.istore_n 1)),
  (289, oi (.iload_n 1)),
  (290, oi (.bipush 8)),
  (292, (.if_icmp .ge 43, 0, 0, 335, 0, 0)),
  (295, oi (.aload_n 0)),
  (296, (.getfield 20, 5, 12, 5, 2, 972)),
  (299, oi (.iconst 3)),
  (300, oi (.iload_n 1)),
  (301, oi .imul),
  (302, oi (.bipush 20)),
  (304, oi .iastore),
  (305, oi (.aload_n 0)),
  (306, (.getfield 20, 5, 12, 5, 2, 972)),
  (309, oi (.iconst 3)),
  (310, oi (.iload_n 1)),
  (311, oi .imul),
  (312, oi (.iconst 1)),
  (313, oi .iadd),
  (314, oi (.bipush 40)),
  (316, oi .iastore),
  (317, oi (.aload_n 0)),
  (318, (.getfield 20, 5, 12, 5, 2, 972)),
  (321, oi (.iconst 3)),
  (322, oi (.iload_n 1)),
  (323, oi .imul),
  (324, oi (.iconst 2)),
  (325, oi .iadd),
  (326, oi (.bipush 80)),
  (328, oi .iastore),
  (329, oi (.iinc 1 1)),
  (332, (.goto (-43), 0, 0, 289, 0, 0)),
  (335, oi (.iconst 0)),
  (336, oi (.istore_n 1)),
  (337, oi (.iload_n 1)),
  (338, oi (.bipush 60)),
  (340, (.if_icmp .ge 17, 0, 0, 357, 0, 0)),
  (343, oi (.aload_n 0)),
  (344, (.getfield 23, 7, 12, 7, 2, 974)),
  (347, oi (.iload_n 1)),
  (348, oi (.bipush 40)),
  (350, oi .iastore),
  (351, oi (.iinc 1 1)),
  (354, (.goto (-17), 0, 0, 337, 0, 0)),
  (357, oi (.iconst 0)),
  (358, oi (.istore_n 1)),
  (359, oi (.iload_n 1)),
  (360, oi (.iconst 4)),
  (361, (.if_icmp .ge 25, 0, 0, 386, 0, 0)),
  (364, oi (.aload_n 0)),
  (365, (.getfield 32, 12, 12, 12, 2, 979)),
  (368, oi (.iload_n 1)),
  (369, oi (.bipush 10)),
  (371, oi .iastore),
  (372, oi (.aload_n 0)),
  (373, (.getfield 35, 13, 12, 13, 2, 980)),
  (376, oi (.iload_n 1)),
  (377, oi (.bipush 10)),
  (379, oi .iastore),
  (380, oi (.iinc 1 1)),
  (383, (.goto (-24), 0, 0, 359, 0, 0)),
  (386, oi (.iconst 0)),
  (387, oi (.istore_n 1)),
  (388, oi (.iload_n 1)),
  (389, oi (.bipush 6)),
  (391, (.if_icmp .ge 16, 0, 0, 407, 0, 0)),
  (394, oi (.aload_n 0)),
  (395, (.getfield 38, 14, 12, 14, 2, 981)),
  (398, oi (.iload_n 1)),
  (399, oi (.iconst 5)),
  (400, oi .iastore),
  (401, oi (.iinc 1 1)),
  (404, (.goto (-16), 0, 0, 388, 0, 0)),
  (407, oi (.iconst 0)),
  (408, oi (.istore_n 1)),
  (409, oi (.iload_n 1)),
  (410, oi (.bipush 10)),
  (412, (.if_icmp .ge 37, 0, 0, 449, 0, 0)),
  (415, oi (.aload_n 0)),
  (416, (.getfield 62, 23, 12, 23, 2, 990)),
  (419, oi (.iload_n 1)),
  (420, oi (.iload_n 1)),
  (421, (.ifCond .ne 8, 0, 0, 429, 0, 0)),
  (424, oi (.bipush (-6))),
  (426, (.goto 8, 0, 0, 434, 0, 0)),
  (429, oi (.iload_n 1)),
  (430, oi (.iconst 1)),
  (431, oi .isub),
  (432, oi (.iconst 2)),
  (433, oi .idiv),
  (434, oi .iastore),
  (435, oi (.aload_n 0)),
  (436, (.getfield 65, 24, 12, 24, 2, 991)),
  (439, oi (.iload_n 1)),
  (440, oi (.bipush 10)),
  (442, oi .iastore),
  (443, oi (.iinc 1 1)),
  (446, (.goto (-37), 0, 0, 409, 0, 0)),
  (449, oi .return_)]
def ccd : Nat → List (Nat × OP)
  | 0 => cd0
  | 1 => cd1
  | 2 => cd2
  | 3 => cd3
  | 4 => cd4
  | 5 => cd5
  | 6 => cd6
  | 7 => cd7
  | 8 => cd8
  | 9 => cd9
  | 10 => cd10
  | 11 => cd11
  | _ => cd12
def cxC : Nat → MX
  | 0 => (yX0_init, cX0_init, 1, none)
  | 1 => (yX1_init, cX1_init, 1, none)
  | 2 => (yX2_init, cX2_init, 2, none)
  | 3 => (yX3_init, cX3_init, 1, none)
  | 4 => (yX4_init, cX4_init, 1, none)
  | 5 => (yX5_init, cX5_init, 1, none)
  | 6 => (yX6_init, cX6_init, 1, none)
  | 7 => (yX7_init, cX7_init, 1, none)
  | 8 => (yX8_init, cX8_init, 1, none)
  | 9 => (yX9_init, cX9_init, 1, none)
  | 10 => (yX10_init, cX10_init, 1, none)
  | 11 => (yX11_init, cX11_init, 1, none)
  | _ => (yX12_init, cX12_init, 2, none)
def cfind : List (Nat × OP) → Nat → Option OP
  | [], _ => none
  | (q, x) :: r, pc => match Nat.beq q pc with
    | true => some x
    | false => cfind r pc
def isRefTy : Option FieldType → Bool
  | some (.array _) => true
  | some (.object _) => true
  | _ => false
def okC (cx : MX) (pc : Nat) (ins : Instr) (z : Int) (a b t pos : Nat) : Bool := match ins with
  | .return_ => decide (decode cx.2.1 pc = .ok (.return_, 1))
  | .new i => decide (decode cx.2.1 pc = .ok (.new i, 3)) && (match gt classes a with
    | some (C, _, N) => okL pos (.classLink cx.1.cls i C) && okL b (.instantiable C N) && okL t (.initialized C)
    | none => false)
  | .newarray ty => decide (decode cx.2.1 pc = .ok (.newarray ty, 2)) && decide (ty = atyp t) && decide (t < 3) && okL pos (.arrayClass (newarray.typeOf ty))
  | .invokespecial i => decide (decode cx.2.1 pc = .ok (.invokespecial i, 3)) && (match Nat.beq a 999 with
    | true => okL pos (.methodLink cx.1.cls i objectInit)
    | false => okL pos (.methodLink cx.1.cls i (cxC a).1) && decide (a < 13))
  | .if_icmp c off => decide (decode cx.2.1 pc = .ok (.if_icmp c off, 3)) && decide ((pc : Int) + off = (b : Int))
  | .ifCond c off => decide (decode cx.2.1 pc = .ok (.ifCond c off, 3)) && decide ((pc : Int) + off = (b : Int))
  | .putfield i => match Nat.beq t 2 with
    | true => decide (decode cx.2.1 pc = .ok (.putfield i, 3)) && (match gt classes a with
      | some (_, T, N) => decide (b < N) && okL pos (.fieldLink cx.1.cls i (T b).1 (T b).2.1 (T b).2.2.1) && decide ((T b).2.2.2 = true) && decide (cx.1.name = "<init>") && decide ((T b).1 = cx.1.cls) && isRefTy (parseFieldDescriptor (T b).2.2.1)
      | none => false)
    | false => decide (decode cx.2.1 pc = .ok (ins, iln ins)) && okX cx pc ins z a b t pos
  | _ => decide (decode cx.2.1 pc = .ok (ins, iln ins)) && okX cx pc ins z a b t pos
def okCs (cx : MX) : List (Nat × OP) → Bool
  | [] => true
  | (pc, ins, z, a, b, t, pos) :: r => okC cx pc ins z a b t pos && okCs cx r
theorem okc0 : okCs (cxC 0) cd0 = true := by decide +kernel
theorem okc1 : okCs (cxC 1) cd1 = true := by decide +kernel
theorem okc2 : okCs (cxC 2) cd2 = true := by decide +kernel
theorem okc3 : okCs (cxC 3) cd3 = true := by decide +kernel
theorem okc4 : okCs (cxC 4) cd4 = true := by decide +kernel
theorem okc5 : okCs (cxC 5) cd5 = true := by decide +kernel
theorem okc6 : okCs (cxC 6) cd6 = true := by decide +kernel
theorem okc7 : okCs (cxC 7) cd7 = true := by decide +kernel
theorem okc8 : okCs (cxC 8) cd8 = true := by decide +kernel
theorem okc9 : okCs (cxC 9) cd9 = true := by decide +kernel
theorem okc10 : okCs (cxC 10) cd10 = true := by decide +kernel
theorem okc11 : okCs (cxC 11) cd11 = true := by decide +kernel
theorem okc12 : okCs (cxC 12) cd12 = true := by decide +kernel
theorem okc_all : ∀ mi, mi < 13 → okCs (cxC mi) (ccd mi) = true := by
  intro mi h
  match mi, h with
  | 0, _ => exact okc0
  | 1, _ => exact okc1
  | 2, _ => exact okc2
  | 3, _ => exact okc3
  | 4, _ => exact okc4
  | 5, _ => exact okc5
  | 6, _ => exact okc6
  | 7, _ => exact okc7
  | 8, _ => exact okc8
  | 9, _ => exact okc9
  | 10, _ => exact okc10
  | 11, _ => exact okc11
  | 12, _ => exact okc12
  | n + 13, h => omega
theorem okCs_find {cx : MX} : ∀ (l : List (Nat × OP)) {pc : Nat} {ins : Instr} {z : Int} {a b t pos : Nat}, okCs cx l = true → cfind l pc = some (ins, z, a, b, t, pos) → okC cx pc ins z a b t pos = true
  | [], _, _, _, _, _, _, _, _, h => by cases h
  | (q, i2, z2, a2, b2, t2, p2) :: r, pc, ins, z, a, b, t, pos, ho, h => by
    simp only [okCs, Bool.and_eq_true] at ho
    simp only [cfind] at h
    split at h
    · rename_i hq
      have := Nat.eq_of_beq_eq_true hq
      subst this
      cases h
      exact ho.1
    · exact okCs_find r ho.2 h
def mkI : Nat → Nat × Nat × Nat
  | 0 => (47, 238, 237)
  | 1 => (43, 76, 75)
  | 2 => (44, 148, 147)
  | 3 => (42, 70, 69)
  | 4 => (51, 346, 345)
  | 5 => (50, 336, 335)
  | 6 => (52, 356, 355)
  | 7 => (49, 300, 299)
  | 8 => (45, 173, 172)
  | 9 => (46, 205, 204)
  | 10 => (48, 281, 280)
  | 11 => (41, 62, 61)
  | _ => (53, 965, 964)
set_option maxRecDepth 100000 in
theorem mkI_ok : ∀ mi, mi < 13 → MokB (cxC mi) 0 ∧ Cond.instanceMethod (cxC mi).1 ∈ lwg ∧ (cxC mi).1.name = "<init>" ∧ (cxC mi).2.2.2 = none ∧ 8 + ((cxC mi).2.2.1 + 11) ≤ 64 ∧ 1 ≤ (cxC mi).2.2.1 := by
  intro mi h
  have hb : mokB (cxC mi) 0 (mkI mi).1 = true ∧ okL (mkI mi).2.2 (.instanceMethod (cxC mi).1) = true ∧ (cxC mi).1.name = "<init>" ∧ (cxC mi).2.2.2 = none ∧ 8 + ((cxC mi).2.2.1 + 11) ≤ 64 ∧ 1 ≤ (cxC mi).2.2.1 := by
    revert mi
    decide +kernel
  have hc : lw_tbl[(mkI mi).2.1]? = some (.code (cxC mi).1 (cxC mi).2.1 (cxC mi).2.2.1 (cxC mi).2.2.2) := by
    match mi, h with
    | 0, _ => rfl
    | 1, _ => rfl
    | 2, _ => rfl
    | 3, _ => rfl
    | 4, _ => rfl
    | 5, _ => rfl
    | 6, _ => rfl
    | 7, _ => rfl
    | 8, _ => rfl
    | 9, _ => rfl
    | 10, _ => rfl
    | 11, _ => rfl
    | 12, _ => rfl
    | n + 13, h => omega
  exact ⟨mokB_of hc hb.1, okL_mem hb.2.1, hb.2.2⟩
def cmpb : Jvm.ClassFile.Cond → Int → Int → Bool
  | .eq, x, y => decide (x = y)
  | .ne, x, y => decide (¬ x = y)
  | .lt, x, y => decide (x < y)
  | .ge, x, y => decide (y ≤ x)
  | .gt, x, y => decide (y < x)
  | .le, x, y => decide (x ≤ y)
def r32b (x : Int) : Bool := decide (R32 x)
def csb : List (Int × Int) → Bool
  | [] => true
  | (i, n) :: r => decide (0 ≤ i) && decide (i < n) && csb r
theorem csb_ok : ∀ (l : List (Int × Int)), csb l = true → CS l
  | [], _ => trivial
  | (i, n) :: r, h => by
    simp only [csb, Bool.and_eq_true, decide_eq_true_eq] at h
    exact ⟨h.1, csb_ok r h.2⟩
def crun : Nat → Nat → Nat → Nat → List AV → List AV → List SH → MM → ML → Option (List SH × MM × ML)
  | 0, _, _, _, _, _, _, _, _ => none
  | f + 1, d, mi, pc, ls, st, S, μ, ν => match cfind (ccd mi) pc with
    | none => none
    | some (ins, z, a, b, t, _) => match ins with
      | .return_ => match st with
        | [] => some (S, μ, ν)
        | _ => none
      | .new _ => match gt classes a with
        | some (_, T, N) => crun f d mi (pc + 3) ls (aR S.length :: st) (S ++ [.inr (a, dflT T N)]) (clr μ S.length) (clrL ν S.length)
        | none => none
      | .newarray _ => match st with
        | .inl n :: r => match decide (0 ≤ n) && decide (n < 10000) with
          | true => crun f d mi (pc + 2) ls (aR S.length :: r) (S ++ [.inl (t, n.toNat)]) (clr μ S.length) (clrL ν S.length)
          | false => none
        | _ => none
      | .invokespecial _ => match st with
        | .inr (.inr (.inl x)) :: r => match Nat.ble (2 * r.length) 8 with
          | true => match d with
            | 0 => none
            | d' + 1 => match Nat.beq a 999 with
              | true => crun f (d' + 1) mi (pc + 3) ls r S μ ν
              | false => match crun f d' a 0 (entL [aR x] (cxC a).2.2.1) [] S μ ν with
                | some (S1, μ1, ν1) => crun f (d' + 1) mi (pc + 3) ls r S1 μ1 ν1
                | none => none
          | false => none
        | _ => none
      | .if_icmp c _ => match st with
        | .inl y :: .inl x :: r => match r32b x && r32b y with
          | true => crun f d mi (if cmpb c x y = true then b else pc + 3) ls r S μ ν
          | false => none
        | _ => none
      | .ifCond c _ => match st with
        | .inl x :: r => match r32b x with
          | true => crun f d mi (if cmpb c x 0 = true then b else pc + 3) ls r S μ ν
          | false => none
        | _ => none
      | .putfield i => match Nat.beq t 2 with
        | true => match st with
          | .inr (.inr (.inl y)) :: .inr (.inr (.inl x)) :: r => match gt S x with
            | some (.inr (ci, fs)) => match Nat.beq ci a && Nat.blt b fs.length with
              | true => crun f d mi (pc + 3) ls r (S.set x (.inr (a, fs.set b (some (aR y))))) μ ν
              | false => none
            | _ => none
          | _ => none
        | false => match sstep (.putfield i) z a b t ls st S μ ν [] with
          | some (ls', st', μ', ν', cs) => match csb cs with
            | true => crun f d mi (npc (.putfield i) b pc) ls' st' S μ' ν'
            | false => none
          | none => none
      | i => match sstep i z a b t ls st S μ ν [] with
        | some (ls', st', μ', ν', cs) => match csb cs with
          | true => crun f d mi (npc i b pc) ls' st' S μ' ν'
          | false => none
        | none => none
def PostEq (S1 : List SH) (μ1 : MM) (ν1 : ML) : Option AV → List SH → MM → ML → Prop := fun r S μ ν => r = none ∧ S = S1 ∧ μ = μ1 ∧ ν = ν1
theorem SmallS.push {S : List SH} {sh : SH} (h : SmallS S) (hs : ∀ t n, sh = .inl (t, n) → n < 2147483648) : SmallS (S ++ [sh]) := by
  intro x t n hx
  by_cases hl : x < S.length
  · rw [List.getElem?_append_left hl] at hx
    exact h x t n hx
  · rw [List.getElem?_append_right (by omega)] at hx
    have := List.mem_of_getElem? hx
    exact hs t n (List.mem_singleton.mp this).symm
theorem SmallS.set {S : List SH} {x ci : Nat} {fs : List (Option AV)} (h : SmallS S) : SmallS (S.set x (.inr (ci, fs))) := by
  intro y t n hy
  by_cases hxy : x = y
  · subst hxy
    by_cases hl : x < S.length
    · rw [List.getElem?_set_self hl] at hy
      cases hy
    · rw [List.getElem?_eq_none (by simp; omega)] at hy
      cases hy
  · rw [List.getElem?_set_ne hxy] at hy
    exact h y t n hy
set_option maxHeartbeats 4000000 in
theorem crun_ok (κ : KX) : ∀ (f d mi pc : Nat) (ls st : List AV) (S S1 : List SH) (μ μ1 : MM) (ν ν1 : ML), mi < 13 → crun f d mi pc ls st S μ ν = some (S1, μ1, ν1) → S.length ≤ S1.length ∧ szS S ≤ szS S1 ∧ ∀ cells slots mc ms : Nat, cells + (S1.length - S.length) = mc → slots + (szS S1 - szS S) = ms → AW κ (cxC mi) (rmv d mc ms) (mq κ (PostEq S1 μ1 ν1) mc ms) cells slots S pc ls st μ ν := by
  intro f
  induction f with
  | zero => intro d mi pc ls st S S1 μ μ1 ν ν1 _ h; cases h
  | succ f ih =>
    intro d mi pc ls st S S1 μ μ1 ν ν1 hmi h
    simp only [crun] at h
    split at h
    · cases h
    · rename_i ins z a b t pos hf
      have hok := okCs_find (ccd mi) (okc_all mi hmi) hf
      split at h
      · -- return
        split at h
        · cases h
          refine ⟨Nat.le_refl _, Nat.le_refl _, fun cells slots mc ms h1 h2 => ?_⟩
          exact aw_vret (of_decide_eq_true hok) (mkI_ok mi hmi).2.2.2.1 (by omega) (by omega) ⟨rfl, rfl, rfl, rfl⟩
        · cases h
      · -- new
        rename_i i
        simp only [okC, Bool.and_eq_true] at hok
        split at h
        · rename_i C T N hg
          rw [hg] at hok
          simp only [Bool.and_eq_true] at hok
          rw [gt_eq] at hg
          obtain ⟨h1, h2, h3⟩ := ih d mi _ _ _ _ _ _ _ _ _ hmi h
          have hz : szS (S ++ [Sum.inr (a, dflT T N)]) = szS S + N := by rw [szS_app]; simp [shSz, dflT]
          rw [hz] at h2
          rw [List.length_append, List.length_singleton] at h1
          refine ⟨by omega, by omega, fun cells slots mc ms hc hs => ?_⟩
          intro hSm p l e s m args below meth c F
          refine ss_new F (of_decide_eq_true hok.1) hg (okL_mem hok.2.1.1) (okL_mem hok.2.1.2) (okL_mem hok.2.2) (by show cells + 1 ≤ mc; omega) (by show slots + N ≤ ms; omega) ?_
          exact h3 (cells + 1) (slots + N) mc ms (by rw [List.length_append, List.length_singleton]; omega) (by rw [hz]; omega) (hSm.push (fun t n he => by cases he)) p l e s m args below meth c F
        · cases h
      · -- newarray
        rename_i ty
        simp only [okC, Bool.and_eq_true, decide_eq_true_eq] at hok
        obtain ⟨⟨⟨ho1, ho2⟩, ho3⟩, ho4⟩ := hok
        subst ho2
        split at h
        · rename_i n r
          split at h
          · rename_i hn
            simp only [Bool.and_eq_true, decide_eq_true_eq] at hn
            obtain ⟨h1, h2, h3⟩ := ih d mi _ _ _ _ _ _ _ _ _ hmi h
            have hz : szS (S ++ [Sum.inl (t, n.toNat)]) = szS S + n.toNat := by rw [szS_app]; simp [shSz]
            rw [hz] at h2
            rw [List.length_append, List.length_singleton] at h1
            refine ⟨by omega, by omega, fun cells slots mc ms hc hs => ?_⟩
            intro hSm p l e s m args below meth c F
            refine ss_newa F ho3 ho1 (okL_mem ho4) hn.1 hn.2 (by show cells + 1 ≤ mc; omega) (by show slots + n.toNat ≤ ms; omega) ?_
            exact h3 (cells + 1) (slots + n.toNat) mc ms (by rw [List.length_append, List.length_singleton]; omega) (by rw [hz]; omega) (hSm.push (fun t n he => by cases he; omega)) p l e s m args below meth c F
          · cases h
        · cases h
      · -- invokespecial
        rename_i i
        simp only [okC, Bool.and_eq_true, decide_eq_true_eq] at hok
        split at h
        · rename_i x r
          split at h
          · rename_i hr
            have hr := Nat.le_of_ble_eq_true hr
            split at h
            · cases h
            · rename_i d'
              split at h
              · rename_i ha
                rw [ha] at hok
                obtain ⟨h1, h2, h3⟩ := ih _ mi _ _ _ _ _ _ _ _ _ hmi h
                refine ⟨h1, h2, fun cells slots mc ms hc hs => ?_⟩
                intro hSm p l e s m args below meth c F
                refine ss_objInit F hok.1 (okL_mem hok.2) (okL_mem (pos := 64) (by decide +kernel)) (okL_mem (pos := 65) (by decide +kernel)) hr (by show 1 ≤ d' + 1; omega) (by show 20 ≤ 64 * (d' + 1); omega) ?_
                exact h3 cells slots mc ms hc hs hSm p l e s m args below meth c F
              · rename_i ha
                rw [ha] at hok
                simp only [Bool.and_eq_true, decide_eq_true_eq] at hok
                obtain ⟨hk1, hk2, hk3, hk4, hk5, hk6⟩ := mkI_ok a hok.2.2
                split at h
                · rename_i S2 μ2 ν2 hcall
                  obtain ⟨g1, g2, g3⟩ := ih _ a _ _ _ _ _ _ _ _ _ hok.2.2 hcall
                  obtain ⟨h1, h2, h3⟩ := ih _ mi _ _ _ _ _ _ _ _ _ hmi h
                  refine ⟨by omega, by omega, fun cells slots mc ms hc hs => ?_⟩
                  intro hSm p l e s m args below meth c F
                  have hM : AMet κ d' (cxC a) [aR x] S μ ν (PostEq S2 μ2 ν2) (S2.length - S.length) (szS S2 - szS S) := AMet.of hk1 (by simp [flatA]; exact hk6) rfl (g3 0 0 _ _ (by omega) (by omega))
                  refine ss_callI F hSm hM hk1 hk2 hk3 hk4 hok.1 (okL_mem hok.2.1) hr ⟨by show d' + 1 ≤ d' + 1; omega, by show 8 + ((cxC a).2.2.1 + 11) + 64 * d' ≤ 64 * (d' + 1); omega⟩ ⟨by show cells + _ ≤ mc; omega, by show slots + _ ≤ ms; omega⟩ ?_
                  intro r2 S3 μ3 ν3 hp hsm
                  obtain ⟨rfl, rfl, rfl, rfl⟩ := hp
                  exact h3 _ _ mc ms (by omega) (by omega) hsm p l e s m args below meth c F
                · cases h
          · cases h
        · cases h
      · -- if_icmp
        rename_i cc off
        simp only [okC, Bool.and_eq_true, decide_eq_true_eq] at hok
        split at h
        · rename_i y x r
          split at h
          · rename_i hr
            simp only [r32b, Bool.and_eq_true, decide_eq_true_eq] at hr
            obtain ⟨h1, h2, h3⟩ := ih d mi _ _ _ _ _ _ _ _ _ hmi h
            refine ⟨h1, h2, fun cells slots mc ms hc hs => ?_⟩
            have h4 := h3 cells slots mc ms hc hs
            cases cc
            · exact aw_icmp_eq hok.1 hok.2 hr.1 hr.2 (fun q => by simpa [cmpb, q] using h4) (fun q => by simpa [cmpb, q] using h4)
            · exact aw_icmp_ne hok.1 hok.2 hr.1 hr.2 (fun q => by simpa [cmpb, q] using h4) (fun q => by simpa [cmpb, q] using h4)
            · exact aw_icmp_lt hok.1 hok.2 hr.1 hr.2 (fun q => by simpa [cmpb, q] using h4) (fun q => by simp only [cmpb, q, decide_false, Bool.false_eq_true, if_false] at h4; exact h4)
            · exact aw_icmp_ge hok.1 hok.2 hr.1 hr.2 (fun q => by simpa [cmpb, q] using h4) (fun q => by simp only [cmpb, q, decide_false, Bool.false_eq_true, if_false] at h4; exact h4)
            · exact aw_icmp_gt hok.1 hok.2 hr.1 hr.2 (fun q => by simpa [cmpb, q] using h4) (fun q => by simp only [cmpb, q, decide_false, Bool.false_eq_true, if_false] at h4; exact h4)
            · exact aw_icmp_le hok.1 hok.2 hr.1 hr.2 (fun q => by simpa [cmpb, q] using h4) (fun q => by simp only [cmpb, q, decide_false, Bool.false_eq_true, if_false] at h4; exact h4)
          · cases h
        · cases h
      · -- ifCond
        rename_i cc off
        simp only [okC, Bool.and_eq_true, decide_eq_true_eq] at hok
        split at h
        · rename_i x r
          split at h
          · rename_i hr
            simp only [r32b, decide_eq_true_eq] at hr
            obtain ⟨h1, h2, h3⟩ := ih d mi _ _ _ _ _ _ _ _ _ hmi h
            refine ⟨h1, h2, fun cells slots mc ms hc hs => ?_⟩
            have h4 := h3 cells slots mc ms hc hs
            cases cc
            · exact aw_if_eq hok.1 hok.2 hr (fun q => by simpa [cmpb, q] using h4) (fun q => by simpa [cmpb, q] using h4)
            · exact aw_if_ne hok.1 hok.2 hr (fun q => by simpa [cmpb, q] using h4) (fun q => by simpa [cmpb, q] using h4)
            · exact aw_if_lt hok.1 hok.2 hr (fun q => by simpa [cmpb, q] using h4) (fun q => by simp only [cmpb, q, decide_false, Bool.false_eq_true, if_false] at h4; exact h4)
            · exact aw_if_ge hok.1 hok.2 hr (fun q => by simpa [cmpb, q] using h4) (fun q => by simp only [cmpb, q, decide_false, Bool.false_eq_true, if_false] at h4; exact h4)
            · exact aw_if_gt hok.1 hok.2 hr (fun q => by simpa [cmpb, q] using h4) (fun q => by simp only [cmpb, q, decide_false, Bool.false_eq_true, if_false] at h4; exact h4)
            · exact aw_if_le hok.1 hok.2 hr (fun q => by simpa [cmpb, q] using h4) (fun q => by simp only [cmpb, q, decide_false, Bool.false_eq_true, if_false] at h4; exact h4)
          · cases h
        · cases h
      · -- putfield
        rename_i i
        simp only [okC] at hok
        split at h
        · rename_i ht
          rw [ht] at hok
          simp only [Bool.and_eq_true, decide_eq_true_eq] at hok
          split at h
          · rename_i y x r
            split at h
            · rename_i ci fs hsh
              rw [gt_eq] at hsh
              split at h
              · rename_i hb
                simp only [Bool.and_eq_true, Nat.blt_eq] at hb
                have hci := Nat.eq_of_beq_eq_true hb.1
                subst hci
                cases hg : gt classes ci with
                | none => rw [hg] at hok; cases hok.2
                | some q =>
                  obtain ⟨C, T, N⟩ := q
                  rw [hg] at hok
                  simp only [Bool.and_eq_true, decide_eq_true_eq] at hok
                  rw [gt_eq] at hg
                  obtain ⟨ho1, ⟨⟨⟨⟨ho2, ho3⟩, ho4⟩, ho5⟩, ho6⟩, ho7⟩ := hok
                  obtain ⟨h1, h2, h3⟩ := ih d mi _ _ _ _ _ _ _ _ _ hmi h
                  rw [List.length_set] at h1
                  have hz : szS (S.set x (.inr (ci, fs.set b (some (aR y))))) = szS S := szS_set S x _ _ hsh (by simp [shSz])
                  rw [hz] at h2
                  refine ⟨h1, h2, fun cells slots mc ms hc hs => ?_⟩
                  intro hSm p l e s m args below meth c F
                  cases hty : parseFieldDescriptor (T b).2.2.1 with
                  | none => rw [hty] at ho7; cases ho7
                  | some ty =>
                    rw [hty] at ho7
                    have hnf : narrow ty (cvA κ (aR y)) = cvA κ (aR y) ∧ fits ty (cvA κ (aR y)) = true := by
                      cases ty <;> first | exact ⟨rfl, rfl⟩ | cases ho7
                    refine ss_putR F ho1 hg ho2 (okL_mem ho3) ho4 ho5 ho6 hty hnf.1 hnf.2 hsh hb.2 ?_
                    exact h3 cells slots mc ms (by rw [List.length_set]; exact hc) (by rw [hz]; exact hs) hSm.set p l e s m args below meth c F
              · cases h
            · cases h
          · cases h
        · rename_i ht
          rw [ht] at hok
          simp only [Bool.and_eq_true, decide_eq_true_eq] at hok
          split at h
          · rename_i ls2 st2 μ2 ν2 cs hs
            split at h
            · rename_i hcs
              obtain ⟨h1, h2, h3⟩ := ih d mi _ _ _ _ _ _ _ _ _ hmi h
              refine ⟨h1, h2, fun cells slots mc ms hc hsl => ?_⟩
              intro hSm p l e s m args below meth c F
              exact (sstep_ok F hSm hok.1 hok.2 hs (csb_ok cs hcs) (h3 cells slots mc ms hc hsl hSm p l e s m args below meth c F)).2
            · cases h
          · cases h
      · -- the rest
        rename_i h1 h2 h3 h4 h5 h6 h7
        have hok2 : decode (cxC mi).2.1 pc = .ok (ins, iln ins) ∧ okX (cxC mi) pc ins z a b t pos = true := by
          cases ins
          case return_ => exact absurd rfl h1
          case new i => exact absurd rfl (h2 i)
          case newarray i => exact absurd rfl (h3 i)
          case invokespecial i => exact absurd rfl (h4 i)
          case if_icmp i j => exact absurd rfl (h5 i j)
          case ifCond i j => exact absurd rfl (h6 i j)
          case putfield i => exact absurd rfl (h7 i)
          all_goals (simp only [okC, Bool.and_eq_true, decide_eq_true_eq] at hok; exact hok)
        split at h
        · rename_i ls2 st2 μ2 ν2 cs hs
          split at h
          · rename_i hcs
            obtain ⟨h1, h2, h3⟩ := ih d mi _ _ _ _ _ _ _ _ _ hmi h
            refine ⟨h1, h2, fun cells slots mc ms hc hsl => ?_⟩
            intro hSm p l e s m args below meth c F
            exact (sstep_ok F hSm hok2.1 hok2.2 hs (csb_ok cs hcs) (h3 cells slots mc ms hc hsl hSm p l e s m args below meth c F)).2
          · cases h
        · cases h
