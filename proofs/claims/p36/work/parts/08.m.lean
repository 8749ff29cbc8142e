section
/-! ===== the fourth reading_w: this claim's tables_w (written_w by wip/tools/qtab.py) ===== -/
def r_F : Nat → IT := fun k => [(1, 0, 1), (0, 0, 0), (1, 0, 1000), (1, 0, 1000), (0, 0, 0), (0, 0, 0), (0, 0, 0), (1, (-2147483648), 2147483647), (1, (-2147483648), 2147483647), (0, 0, 0), (0, 0, 0), (0, 0, 0), (1, (-2147483648), 2147483647), (0, 0, 0), (0, 0, 0), (0, 0, 0), (0, 0, 0), (0, 0, 0), (1, 0, 8), (1, (-2147483648), 2147483647), (0, 0, 0), (0, 0, 0), (0, 0, 0), (0, 0, 0), (0, 0, 0), (1, (-2147483648), 2147483647), (0, 0, 0), (0, 0, 0), (0, 0, 0), (2, 0, 2147483647)].getD k (0, 0, 0)
def r_O : Nat → Nat := fun k => [0, 183, 0, 0, 184, 185, 186, 0, 0, 187, 188, 189, 0, 190, 191, 192, 193, 194, 0, 0, 195, 196, 197, 198, 199, 0, 200, 201, 202, 0].getD k 0
def r_As : List RG := [(1000, 0, [(0, 1000, (1, 0, 255))]),
  (1002, 0, [(0, 1002, (1, 0, 4))]),
  (1002, 0, [(0, 1002, (1, 0, 1000))]),
  (1002, 0, [(0, 1002, (2, (-9223372036854775808), 9223372036854775807))]),
  (24, 0, [(0, 24, (2, (-9223372036854775808), 9223372036854775807))]),
  (190, 0, [(0, 1, (1, 0, 12)), (1, 2, (8, 0, 0)), (2, 3, (1, 0, 4)), (3, 4, (7, 0, 0)), (4, 5, (1, (-1), 1099)), (5, 17, (1, 0, 9999)), (91, 95, (1, (-2147483648), 2147483647)), (17, 18, (1, 0, 999)), (18, 19, (1, 0, 12)), (19, 31, (1, 0, 99)), (31, 32, (1, 0, 999)), (32, 33, (1, 0, 12)), (33, 45, (1, 0, 99)), (45, 46, (1, 0, 999)), (46, 47, (1, 0, 12)), (47, 59, (1, 0, 99)), (59, 60, (1, 0, 999)), (60, 61, (1, 0, 12)), (61, 73, (1, 0, 99)), (73, 76, (1, 0, 3)), (76, 79, (1, 0, 3)), (79, 82, (1, 0, 3)), (82, 85, (1, 0, 3)), (85, 88, (1, 0, 3)), (88, 91, (1, 0, 3)), (95, 96, (1, 0, 12)), (96, 97, (1, 0, 4)), (97, 98, (1, 0, 4)), (98, 99, (1, 0, 6)), (99, 100, (1, (-1), 1099)), (100, 112, (1, 0, 9999)), (186, 190, (1, (-2147483648), 2147483647)), (112, 113, (1, 0, 999)), (113, 114, (1, 0, 12)), (114, 126, (1, 0, 99)), (126, 127, (1, 0, 999)), (127, 128, (1, 0, 12)), (128, 140, (1, 0, 99)), (140, 141, (1, 0, 999)), (141, 142, (1, 0, 12)), (142, 154, (1, 0, 99)), (154, 155, (1, 0, 999)), (155, 156, (1, 0, 12)), (156, 168, (1, 0, 99)), (168, 171, (1, 0, 3)), (171, 174, (1, 0, 3)), (174, 177, (1, 0, 3)), (177, 180, (1, 0, 3)), (180, 183, (1, 0, 3)), (183, 186, (1, 0, 3))]),
  (2200, 0, [(0, 2200, (1, (-2147483648), 2147483647))]),
  (28, 0, [(0, 28, (2, (-9223372036854775808), 9223372036854775807))]),
  (250, 0, [(0, 1, (1, 0, 30)), (1, 250, (1, (-2147483648), 2147483647))]),
  (4, 0, [(0, 4, (1, (-2147483648), 2147483647))]),
  (64, 0, [(0, 64, (1, (-2147483648), 2147483647))]),
  (5148, 429, [(0, 78, (1, (-1), 9999)), (78, 150, (1, 0, 3)), (150, 162, (1, 0, 9999)), (162, 163, (1, 0, 4)), (163, 355, (1, (-2147483648), 2147483647)), (355, 356, (1, 0, 16)), (404, 405, (1, 0, 8)), (356, 358, (1, 0, 3)), (358, 359, (1, (-2147483648), 2147483647)), (359, 361, (1, 0, 3)), (361, 362, (1, (-2147483648), 2147483647)), (362, 364, (1, 0, 3)), (364, 365, (1, (-2147483648), 2147483647)), (365, 367, (1, 0, 3)), (367, 368, (1, (-2147483648), 2147483647)), (368, 370, (1, 0, 3)), (370, 371, (1, (-2147483648), 2147483647)), (371, 373, (1, 0, 3)), (373, 374, (1, (-2147483648), 2147483647)), (374, 376, (1, 0, 3)), (376, 377, (1, (-2147483648), 2147483647)), (377, 379, (1, 0, 3)), (379, 380, (1, (-2147483648), 2147483647)), (380, 382, (1, 0, 3)), (382, 383, (1, (-2147483648), 2147483647)), (383, 385, (1, 0, 3)), (385, 386, (1, (-2147483648), 2147483647)), (386, 388, (1, 0, 3)), (388, 389, (1, (-2147483648), 2147483647)), (389, 391, (1, 0, 3)), (391, 392, (1, (-2147483648), 2147483647)), (392, 394, (1, 0, 3)), (394, 395, (1, (-2147483648), 2147483647)), (395, 397, (1, 0, 3)), (397, 398, (1, (-2147483648), 2147483647)), (398, 400, (1, 0, 3)), (400, 401, (1, (-2147483648), 2147483647)), (401, 403, (1, 0, 3)), (403, 404, (1, (-2147483648), 2147483647)), (405, 406, (1, 0, 11)), (406, 407, (1, (-2147483648), 2147483647)), (407, 408, (1, 0, 1)), (408, 409, (1, 0, 11)), (409, 410, (1, (-2147483648), 2147483647)), (410, 411, (1, 0, 1)), (411, 412, (1, 0, 11)), (412, 413, (1, (-2147483648), 2147483647)), (413, 414, (1, 0, 1)), (414, 415, (1, 0, 11)), (415, 416, (1, (-2147483648), 2147483647)), (416, 417, (1, 0, 1)), (417, 418, (1, 0, 11)), (418, 419, (1, (-2147483648), 2147483647)), (419, 420, (1, 0, 1)), (420, 421, (1, 0, 11)), (421, 422, (1, (-2147483648), 2147483647)), (422, 423, (1, 0, 1)), (423, 424, (1, 0, 11)), (424, 425, (1, (-2147483648), 2147483647)), (425, 426, (1, 0, 1)), (426, 427, (1, 0, 11)), (427, 428, (1, (-2147483648), 2147483647)), (428, 429, (1, 0, 1))]),
  (2, 0, [(0, 2, (1, 0, 1))]),
  (6, 0, [(0, 6, (1, (-2147483648), 2147483647))]),
  (6, 0, [(0, 6, (1, (-2147483648), 2147483647))]),
  (4, 0, [(0, 4, (1, (-2147483648), 2147483647))]),
  (4, 0, [(0, 4, (1, (-2147483648), 2147483647))]),
  (6, 0, [(0, 6, (2, (-9223372036854775808), 9223372036854775807))]),
  (6, 0, [(0, 6, (1, (-2147483648), 2147483647))]),
  (6, 0, [(0, 6, (2, (-9223372036854775808), 9223372036854775807))])]
def r_A : Nat → RG := fun q => bif Nat.ble 183 q then r_As.getD (q - 183) (0, 0, []) else (0, 0, [])
def r_W : Nat → Bool := fun q => [182, 192, 193, 194, 195, 196, 197, 198, 199, 200, 201, 202].any (fun o => Nat.beq o q)
def r_P : Nat → List IT := fun f => t_at [[[], [], [], [], [], [], [], [], [], [], [], [], [], [], [], []],
  [[], [], [], [], [], [], [], [], [], [], [], [], [], [], [], []],
  [[], [], [], [], [], [], [], [], [(1, (-2147483648), 2147483647), (1, (-2147483648), 2147483647), (1, (-2147483648), 2147483647)], [(4, 182, 182), (3, 0, 0), (3, 0, 0), (1, 0, 429)], [(4, 182, 182)], [(4, 182, 182)], [(4, 182, 182)], [(4, 182, 182)], [(4, 182, 182), (5, 0, 0)], [(4, 182, 182), (5, 0, 0)]],
  [[(4, 182, 182), (6, 0, 0)], [(4, 182, 182), (6, 0, 0), (1, 0, 12)], [(4, 182, 182), (5, 0, 0)], [(4, 182, 182), (5, 0, 0)], [(4, 182, 182), (1, (-2147483648), 2147483647)], [(4, 182, 182), (1, (-2147483648), 2147483647)], [(4, 182, 182), (1, (-2147483648), 2147483647)], [(4, 182, 182), (1, (-2147483648), 2147483647)], [(4, 182, 182), (1, (-2147483648), 2147483647), (1, (-2147483648), 2147483647)], [(4, 182, 182), (3, 0, 0)], [], [(4, 182, 182)], [(4, 182, 182), (3, 0, 0), (5, 0, 0), (1, 0, 12)], [(4, 182, 182), (3, 0, 0), (5, 0, 0), (1, (-1), 12)], [(4, 182, 182), (3, 0, 0), (5, 0, 0), (1, 0, 12)], [(1, (-2147483648), 2147483647), (1, (-2147483648), 2147483647), (1, 1, 2147483647)]],
  [[(4, 182, 182), (6, 0, 0), (1, 0, 12), (1, 0, 13), (1, 0, 12)], [], [(4, 182, 182), (3, 0, 0), (5, 0, 0), (1, 0, 11)], [(4, 182, 182), (3, 0, 0), (5, 0, 0), (1, 0, 11)], [(4, 182, 182), (1, (-2147483648), 2147483647), (1, 0, 6)], [(4, 182, 182), (1, (-2147483648), 2147483647)], [(4, 182, 182), (6, 0, 0), (1, 0, 11)], [(4, 182, 182), (3, 0, 0), (1, 0, 11)], [(4, 182, 182), (6, 0, 0)], [(4, 182, 182), (3, 0, 0), (5, 0, 0), (1, 0, 11)], [(4, 182, 182), (3, 0, 0), (1, (-2147483648), 2147483647), (1, 0, 11)], [(4, 182, 182), (3, 0, 0), (1, (-2147483648), 2147483647)], [(4, 182, 182), (3, 0, 0)], [(4, 182, 182), (5, 0, 0)], [(4, 182, 182), (1, (-2147483648), 2147483647), (1, (-2147483648), 2147483647)], [(4, 182, 182), (1, (-2147483648), 2147483647), (1, (-2147483648), 2147483647)]],
  [[(4, 182, 182), (1, (-2147483648), 2147483647), (1, (-2147483648), 2147483647)], [(4, 182, 182), (3, 0, 0), (5, 0, 0), (1, 0, 12), (1, (-1), 9999)], [(4, 182, 182), (1, (-2147483648), 2147483647), (1, (-2147483648), 2147483647), (1, (-2147483648), 2147483647)], [(4, 182, 182), (3, 0, 0), (5, 0, 0), (1, 0, 3), (1, 0, 12)], [(4, 182, 182), (1, (-2147483648), 2147483647), (1, (-2147483648), 2147483647), (1, (-2147483648), 2147483647)], [(4, 182, 182), (1, (-2147483648), 2147483647), (1, (-2147483648), 2147483647)], [], [], [(4, 182, 182)], [(4, 182, 182)], [(4, 182, 182), (1, (-2147483648), 2147483647)], [], [(4, 182, 182), (1, (-2147483648), 2147483647), (1, (-2147483648), 2147483647)], [(4, 182, 182), (1, (-2147483648), 2147483647), (1, (-2147483648), 2147483647)], [(4, 182, 182), (1, (-2147483648), 2147483647), (1, (-2147483648), 2147483647)], [(4, 182, 182), (1, (-2147483648), 2147483647)]],
  [[(4, 182, 182), (1, (-2147483648), 2147483647), (1, (-2147483648), 2147483647)], [(4, 182, 182), (1, (-2147483648), 2147483647), (1, (-2147483648), 2147483647)], [(4, 182, 182), (1, (-2147483648), 2147483647), (1, (-2147483648), 2147483647)], [(4, 182, 182), (1, (-2147483648), 2147483647)], [(4, 182, 182), (1, (-2147483648), 2147483647)], [(4, 182, 182), (1, (-2147483648), 2147483647), (1, (-2147483648), 2147483647)], [(4, 182, 182), (3, 0, 0), (1, 0, 11)], [(4, 182, 182), (1, (-2147483648), 2147483647)], [(4, 182, 182), (3, 0, 0)], [(4, 182, 182)], [(4, 182, 182)], [(4, 182, 182), (1, 0, 3), (1, 0, 3), (1, 0, 11)], [(4, 182, 182), (1, (-2147483648), 2147483647)], [(4, 182, 182), (1, (-2147483648), 2147483647), (1, (-2147483648), 2147483647), (1, (-2147483648), 2147483647)], [(4, 182, 182), (1, (-2147483648), 2147483647), (1, (-2147483648), 2147483647), (1, (-2147483648), 2147483647)], [(4, 182, 182), (1, (-2147483648), 2147483647)]],
  [[(4, 182, 182)], [(4, 182, 182), (1, (-2147483648), 2147483647), (1, (-2147483648), 2147483647)], [(4, 182, 182), (1, (-2147483648), 2147483647), (1, (-2147483648), 2147483647)], [(4, 182, 182)], [(4, 182, 182), (1, (-2147483648), 2147483647), (1, (-2147483648), 2147483647), (1, (-2147483648), 2147483647), (1, (-2147483648), 2147483647)], [(4, 182, 182), (1, (-2147483648), 2147483647), (1, (-2147483648), 2147483647)], [(4, 182, 182), (5, 0, 0)], [(4, 182, 182), (1, (-2147483648), 2147483647)], [(4, 182, 182)], [(4, 182, 182), (1, (-2147483648), 2147483647), (1, (-2147483648), 2147483647), (1, 0, 1)], [(4, 182, 182)], [(4, 182, 182)], [(4, 182, 182)], [(4, 182, 182), (1, (-2147483648), 2147483647), (1, 0, 11)], [(4, 182, 182), (1, 1, 200)], [(4, 182, 182), (1, (-2147483648), 2147483647), (1, (-2147483648), 2147483647), (1, (-2147483648), 2147483647)]],
  [[(4, 182, 182), (1, (-2147483648), 2147483647), (1, 0, 1)], [(4, 182, 182)], [(4, 182, 182), (1, (-2147483648), 2147483647)], [], [], [], [], [], []]] [] (f - 183)
def r_R : Nat → List IT := fun f => t_at [[[], [], [], [], [], [], [], [], [], [], [], [], [], [], [], []],
  [[], [], [], [], [], [], [], [], [], [], [], [], [], [], [], []],
  [[], [], [], [], [], [], [], [], [(1, (-2147483648), 2147483647)], [], [(1, 0, 12)], [(8, 0, 0)], [(1, 0, 4)], [(7, 0, 0)], [(1, 0, 3)], [(6, 0, 0)]],
  [[(1, 0, 999)], [(1, 0, 99)], [(1, (-1), 12)], [(1, 0, 9999)], [(1, 0, 1)], [(1, 0, 1)], [(1, 0, 1)], [(1, 0, 1)], [(1, 0, 1)], [], [], [], [(1, (-1), 9999)], [(1, (-1), 12)], [(1, (-1), 12)], [(1, (-2147483648), 2147483647)]],
  [[(1, (-2147483648), 2147483647)], [], [(1, (-2147483648), 2147483647)], [(1, (-2147483648), 2147483647)], [], [(1, (-2147483648), 2147483647)], [(1, (-2147483648), 2147483647)], [], [], [(1, 0, 3)], [(1, (-2147483648), 2147483647)], [(1, (-2147483648), 2147483647)], [(1, (-2147483648), 2147483647)], [(1, (-2147483648), 2147483647)], [(1, (-2147483648), 2147483647)], [(1, (-2147483648), 2147483647)]],
  [[(1, (-2147483648), 2147483647)], [], [(1, (-2147483648), 2147483647)], [], [(1, (-2147483648), 2147483647)], [(1, (-2147483648), 2147483647)], [], [], [(1, (-2147483648), 2147483647)], [(1, 0, 1)], [(1, (-2147483648), 2147483647)], [], [(1, (-2147483648), 2147483647)], [(1, (-2147483648), 2147483647)], [(1, (-2147483648), 2147483647)], [(1, (-2147483648), 2147483647)]],
  [[(1, (-2147483648), 2147483647)], [(1, (-2147483648), 2147483647)], [(1, (-2147483648), 2147483647)], [(1, (-2147483648), 2147483647)], [(1, (-2147483648), 2147483647)], [(1, (-2147483648), 2147483647)], [(1, (-2147483648), 2147483647)], [(1, (-2147483648), 2147483647)], [(1, (-2147483648), 2147483647)], [(1, (-2147483648), 2147483647)], [(1, (-2147483648), 2147483647)], [(1, (-2147483648), 2147483647)], [(1, 0, 1)], [(1, (-2147483648), 2147483647)], [(1, (-2147483648), 2147483647)], [(1, (-2147483648), 2147483647)]],
  [[(1, (-2147483648), 2147483647)], [(1, (-2147483648), 2147483647)], [(1, (-2147483648), 2147483647)], [], [(1, (-2147483648), 2147483647)], [(1, (-2147483648), 2147483647)], [(1, (-2147483648), 2147483647)], [(1, (-2147483648), 2147483647)], [(1, (-2147483648), 2147483647)], [(1, 0, 1)], [(1, (-2147483648), 2147483647)], [(1, (-2147483648), 2147483647)], [(1, (-2147483648), 2147483647)], [(1, (-2147483648), 2147483647)], [(1, 0, 199)], [(1, (-2147483648), 2147483647)]],
  [[(1, 0, 1)], [(1, (-2147483648), 2147483647)], [(1, (-2147483648), 2147483647)], [], [], [], [], [], []]] [] (f - 183)
def r_U : Nat → List IT := fun f => t_at [[[], [], [], [], [], [], [], [], [], [], [], [], [], [], [], []],
  [[], [], [], [], [], [], [], [], [], [], [], [], [], [], [], []],
  [[], [], [], [], [], [], [], [], [(1, (-2147483648), 2147483647), (1, (-2147483648), 2147483647), (1, (-2147483648), 2147483647)], [(4, 182, 182), (3, 0, 0), (3, 0, 0), (1, 0, 429)], [(4, 182, 182)], [(4, 182, 182)], [(4, 182, 182)], [(4, 182, 182)], [(4, 182, 182), (5, 0, 0)], [(4, 182, 182), (5, 0, 0)]],
  [[(4, 182, 182), (6, 0, 0)], [(4, 182, 182), (6, 0, 0), (1, 0, 12)], [(4, 182, 182), (5, 0, 0)], [(4, 182, 182), (5, 0, 0)], [(4, 182, 182), (5, 0, 0)], [(4, 182, 182), (1, 0, 11)], [(4, 182, 182), (1, 0, 3)], [(4, 182, 182), (6, 0, 0)], [(4, 182, 182), (5, 0, 0), (1, 0, 12)], [(4, 182, 182), (3, 0, 0)], [], [(4, 182, 182)], [(4, 182, 182), (3, 0, 0), (5, 0, 0), (1, 0, 12)], [(4, 182, 182), (3, 0, 0), (5, 0, 0), (1, (-1), 12)], [(4, 182, 182), (3, 0, 0), (5, 0, 0), (1, 0, 12)], [(1, (-2147483648), 2147483647), (1, (-2147483648), 2147483647), (1, 1, 2147483647)]],
  [[(4, 182, 182), (6, 0, 0), (1, 0, 12), (1, 0, 13), (1, 0, 12)], [], [(4, 182, 182), (3, 0, 0), (5, 0, 0), (1, 0, 11)], [(4, 182, 182), (3, 0, 0), (5, 0, 0), (1, 0, 11)], [(4, 182, 182), (1, (-2147483648), 2147483647), (1, 0, 6)], [(4, 182, 182), (1, (-2147483648), 2147483647)], [(4, 182, 182), (6, 0, 0), (1, 0, 11)], [(4, 182, 182), (3, 0, 0), (1, 0, 11)], [(4, 182, 182), (6, 0, 0)], [(4, 182, 182), (3, 0, 0), (5, 0, 0), (1, 0, 11)], [(4, 182, 182), (3, 0, 0), (1, (-2147483648), 2147483647), (1, 0, 11)], [(4, 182, 182), (3, 0, 0), (1, (-2147483648), 2147483647)], [(4, 182, 182), (3, 0, 0)], [(4, 182, 182), (5, 0, 0)], [(4, 182, 182), (1, (-2147483648), 2147483647), (1, (-2147483648), 2147483647)], [(4, 182, 182), (1, (-2147483648), 2147483647), (1, (-2147483648), 2147483647)]],
  [[(4, 182, 182), (1, (-2147483648), 2147483647), (1, (-2147483648), 2147483647)], [(4, 182, 182), (3, 0, 0), (5, 0, 0), (1, 0, 12), (1, (-1), 9999)], [(4, 182, 182), (1, (-2147483648), 2147483647), (1, (-2147483648), 2147483647), (1, (-2147483648), 2147483647)], [(4, 182, 182), (3, 0, 0), (5, 0, 0), (1, 0, 3), (1, 0, 12)], [(4, 182, 182), (1, (-2147483648), 2147483647), (1, (-2147483648), 2147483647), (1, (-2147483648), 2147483647)], [(4, 182, 182), (1, (-2147483648), 2147483647), (1, (-2147483648), 2147483647)], [], [], [(4, 182, 182)], [(4, 182, 182)], [(4, 182, 182), (1, (-2147483648), 2147483647)], [], [(4, 182, 182), (1, (-2147483648), 2147483647), (1, (-2147483648), 2147483647)], [(4, 182, 182), (1, (-2147483648), 2147483647), (1, (-2147483648), 2147483647)], [(4, 182, 182), (1, (-2147483648), 2147483647), (1, (-2147483648), 2147483647)], [(4, 182, 182), (1, (-2147483648), 2147483647)]],
  [[(4, 182, 182), (1, (-2147483648), 2147483647), (1, (-2147483648), 2147483647)], [(4, 182, 182), (1, (-2147483648), 2147483647), (1, (-2147483648), 2147483647)], [(4, 182, 182), (1, (-2147483648), 2147483647), (1, (-2147483648), 2147483647)], [(4, 182, 182), (1, (-2147483648), 2147483647)], [(4, 182, 182), (1, (-2147483648), 2147483647)], [(4, 182, 182), (1, (-2147483648), 2147483647), (1, (-2147483648), 2147483647)], [(4, 182, 182), (3, 0, 0), (1, 0, 11)], [(4, 182, 182), (1, (-2147483648), 2147483647)], [(4, 182, 182), (3, 0, 0)], [(4, 182, 182)], [(4, 182, 182)], [(4, 182, 182), (1, 0, 3), (1, 0, 3), (1, 0, 11)], [(4, 182, 182), (1, 0, 3)], [(4, 182, 182), (1, (-2147483648), 2147483647), (1, (-2147483648), 2147483647), (1, (-2147483648), 2147483647)], [(4, 182, 182), (1, (-2147483648), 2147483647), (1, (-2147483648), 2147483647), (1, (-2147483648), 2147483647)], [(4, 182, 182), (1, (-2147483648), 2147483647)]],
  [[(4, 182, 182)], [(4, 182, 182), (1, (-2147483648), 2147483647), (1, (-2147483648), 2147483647)], [(4, 182, 182), (1, (-2147483648), 2147483647), (1, (-2147483648), 2147483647)], [(4, 182, 182)], [(4, 182, 182), (1, (-2147483648), 2147483647), (1, (-2147483648), 2147483647), (1, (-2147483648), 2147483647), (1, (-2147483648), 2147483647)], [(4, 182, 182), (1, (-2147483648), 2147483647), (1, (-2147483648), 2147483647)], [(4, 182, 182), (5, 0, 0)], [(4, 182, 182), (1, (-2147483648), 2147483647)], [(4, 182, 182)], [(4, 182, 182), (1, (-2147483648), 2147483647), (1, (-2147483648), 2147483647), (1, 0, 1)], [(4, 182, 182)], [(4, 182, 182)], [(4, 182, 182)], [(4, 182, 182), (1, (-2147483648), 2147483647), (1, 0, 11)], [(4, 182, 182), (1, 1, 200)], [(4, 182, 182), (1, (-2147483648), 2147483647), (1, (-2147483648), 2147483647), (1, (-2147483648), 2147483647)]],
  [[(4, 182, 182), (1, (-2147483648), 2147483647), (1, 0, 1)], [(4, 182, 182)], [(4, 182, 182), (1, (-2147483648), 2147483647)], [], [], [], [], [], []]] [] (f - 183)
def r_dp : Nat → Nat := fun f => bif Nat.ble 183 f then t_at [[99999, 99999, 99999, 99999, 99999, 99999, 99999, 99999, 99999, 99999, 99999, 99999, 99999, 99999, 99999, 99999],
  [99999, 99999, 99999, 99999, 99999, 99999, 99999, 99999, 99999, 99999, 99999, 99999, 99999, 99999, 99999, 99999],
  [99999, 99999, 99999, 99999, 99999, 99999, 99999, 99999, 1, 1, 1, 1, 1, 1, 1, 1],
  [1, 1, 2, 2, 2, 2, 2, 2, 3, 2, 99999, 2, 1, 2, 2, 1],
  [2, 99999, 4, 5, 1, 2, 3, 6, 2, 1, 2, 7, 8, 2, 3, 3],
  [4, 1, 4, 1, 3, 3, 99999, 99999, 8, 2, 9, 99999, 5, 6, 7, 7],
  [7, 7, 7, 8, 3, 4, 7, 8, 7, 8, 6, 1, 1, 3, 3, 8],
  [1, 1, 3, 2, 8, 8, 8, 9, 9, 3, 7, 8, 8, 7, 1, 9],
  [2, 3, 4, 99999, 99999, 99999, 99999, 99999, 99999]] 99999 (f - 183) else 99999
def r_hd (f : Nat) : Bool := [224, 230, 232, 240, 242, 244, 245, 247, 249, 251, 253, 271, 272, 273, 284, 304, 305, 309, 310, 311].any (fun q => Nat.beq q f)
def r_T (d : Nat) : QT := (r_F, r_O, r_A, r_W, r_P, r_R, r_U, fun f => Nat.blt (r_dp f) d)
def r_ck (f : Nat) : Bool := Nat.beq (r_dp f) 99999 || r_hd f || (qM (r_T (r_dp f)) g_M f && Nat.ble 1 (r_dp f))
theorem rk_183 : ∀ f, 183 ≤ f → f < 191 → r_ck f = true := by
  have h : (List.range 8).all (fun k => r_ck (183 + k)) = true := by decide +kernel
  exact fun f h1 h2 => by
    have h3 := List.all_eq_true.mp h (f - 183) (List.mem_range.mpr (by omega))
    rwa [show 183 + (f - 183) = f by omega] at h3
theorem rk_191 : ∀ f, 191 ≤ f → f < 199 → r_ck f = true := by
  have h : (List.range 8).all (fun k => r_ck (191 + k)) = true := by decide +kernel
  exact fun f h1 h2 => by
    have h3 := List.all_eq_true.mp h (f - 191) (List.mem_range.mpr (by omega))
    rwa [show 191 + (f - 191) = f by omega] at h3
theorem rk_199 : ∀ f, 199 ≤ f → f < 207 → r_ck f = true := by
  have h : (List.range 8).all (fun k => r_ck (199 + k)) = true := by decide +kernel
  exact fun f h1 h2 => by
    have h3 := List.all_eq_true.mp h (f - 199) (List.mem_range.mpr (by omega))
    rwa [show 199 + (f - 199) = f by omega] at h3
theorem rk_207 : ∀ f, 207 ≤ f → f < 215 → r_ck f = true := by
  have h : (List.range 8).all (fun k => r_ck (207 + k)) = true := by decide +kernel
  exact fun f h1 h2 => by
    have h3 := List.all_eq_true.mp h (f - 207) (List.mem_range.mpr (by omega))
    rwa [show 207 + (f - 207) = f by omega] at h3
theorem rk_215 : ∀ f, 215 ≤ f → f < 223 → r_ck f = true := by
  have h : (List.range 8).all (fun k => r_ck (215 + k)) = true := by decide +kernel
  exact fun f h1 h2 => by
    have h3 := List.all_eq_true.mp h (f - 215) (List.mem_range.mpr (by omega))
    rwa [show 215 + (f - 215) = f by omega] at h3
theorem rk_223 : ∀ f, 223 ≤ f → f < 231 → r_ck f = true := by
  have h : (List.range 8).all (fun k => r_ck (223 + k)) = true := by decide +kernel
  exact fun f h1 h2 => by
    have h3 := List.all_eq_true.mp h (f - 223) (List.mem_range.mpr (by omega))
    rwa [show 223 + (f - 223) = f by omega] at h3
theorem rk_231 : ∀ f, 231 ≤ f → f < 239 → r_ck f = true := by
  have h : (List.range 8).all (fun k => r_ck (231 + k)) = true := by decide +kernel
  exact fun f h1 h2 => by
    have h3 := List.all_eq_true.mp h (f - 231) (List.mem_range.mpr (by omega))
    rwa [show 231 + (f - 231) = f by omega] at h3
theorem rk_239 : ∀ f, 239 ≤ f → f < 247 → r_ck f = true := by
  have h : (List.range 8).all (fun k => r_ck (239 + k)) = true := by decide +kernel
  exact fun f h1 h2 => by
    have h3 := List.all_eq_true.mp h (f - 239) (List.mem_range.mpr (by omega))
    rwa [show 239 + (f - 239) = f by omega] at h3
theorem rk_247 : ∀ f, 247 ≤ f → f < 255 → r_ck f = true := by
  have h : (List.range 8).all (fun k => r_ck (247 + k)) = true := by decide +kernel
  exact fun f h1 h2 => by
    have h3 := List.all_eq_true.mp h (f - 247) (List.mem_range.mpr (by omega))
    rwa [show 247 + (f - 247) = f by omega] at h3
theorem rk_255 : ∀ f, 255 ≤ f → f < 263 → r_ck f = true := by
  have h : (List.range 8).all (fun k => r_ck (255 + k)) = true := by decide +kernel
  exact fun f h1 h2 => by
    have h3 := List.all_eq_true.mp h (f - 255) (List.mem_range.mpr (by omega))
    rwa [show 255 + (f - 255) = f by omega] at h3
theorem rk_263 : ∀ f, 263 ≤ f → f < 271 → r_ck f = true := by
  have h : (List.range 8).all (fun k => r_ck (263 + k)) = true := by decide +kernel
  exact fun f h1 h2 => by
    have h3 := List.all_eq_true.mp h (f - 263) (List.mem_range.mpr (by omega))
    rwa [show 263 + (f - 263) = f by omega] at h3
theorem rk_271 : ∀ f, 271 ≤ f → f < 279 → r_ck f = true := by
  have h : (List.range 8).all (fun k => r_ck (271 + k)) = true := by decide +kernel
  exact fun f h1 h2 => by
    have h3 := List.all_eq_true.mp h (f - 271) (List.mem_range.mpr (by omega))
    rwa [show 271 + (f - 271) = f by omega] at h3
theorem rk_279 : ∀ f, 279 ≤ f → f < 287 → r_ck f = true := by
  have h : (List.range 8).all (fun k => r_ck (279 + k)) = true := by decide +kernel
  exact fun f h1 h2 => by
    have h3 := List.all_eq_true.mp h (f - 279) (List.mem_range.mpr (by omega))
    rwa [show 279 + (f - 279) = f by omega] at h3
theorem rk_287 : ∀ f, 287 ≤ f → f < 295 → r_ck f = true := by
  have h : (List.range 8).all (fun k => r_ck (287 + k)) = true := by decide +kernel
  exact fun f h1 h2 => by
    have h3 := List.all_eq_true.mp h (f - 287) (List.mem_range.mpr (by omega))
    rwa [show 287 + (f - 287) = f by omega] at h3
theorem rk_295 : ∀ f, 295 ≤ f → f < 303 → r_ck f = true := by
  have h : (List.range 8).all (fun k => r_ck (295 + k)) = true := by decide +kernel
  exact fun f h1 h2 => by
    have h3 := List.all_eq_true.mp h (f - 295) (List.mem_range.mpr (by omega))
    rwa [show 295 + (f - 295) = f by omega] at h3
theorem rk_303 : ∀ f, 303 ≤ f → f < 311 → r_ck f = true := by
  have h : (List.range 8).all (fun k => r_ck (303 + k)) = true := by decide +kernel
  exact fun f h1 h2 => by
    have h3 := List.all_eq_true.mp h (f - 303) (List.mem_range.mpr (by omega))
    rwa [show 303 + (f - 303) = f by omega] at h3
theorem rk_311 : ∀ f, 311 ≤ f → f < 319 → r_ck f = true := by
  have h : (List.range 8).all (fun k => r_ck (311 + k)) = true := by decide +kernel
  exact fun f h1 h2 => by
    have h3 := List.all_eq_true.mp h (f - 311) (List.mem_range.mpr (by omega))
    rwa [show 311 + (f - 311) = f by omega] at h3
theorem rk_319 : ∀ f, 319 ≤ f → f < 327 → r_ck f = true := by
  have h : (List.range 8).all (fun k => r_ck (319 + k)) = true := by decide +kernel
  exact fun f h1 h2 => by
    have h3 := List.all_eq_true.mp h (f - 319) (List.mem_range.mpr (by omega))
    rwa [show 319 + (f - 319) = f by omega] at h3
theorem rk_all : ∀ f, r_ck f = true := fun f => by
  by_cases h0 : f < 183
  · have e : r_dp f = 99999 := by
      unfold r_dp
      rw [show Nat.ble 183 f = false from by cases hb_w : Nat.ble 183 f with | false => rfl | true => exact absurd (Nat.le_of_ble_eq_true hb_w) (by omega)]
      rfl
    unfold r_ck
    rw [e]
    rfl
  by_cases h183 : f < 191
  · exact rk_183 f (by omega) h183
  by_cases h191 : f < 199
  · exact rk_191 f (by omega) h191
  by_cases h199 : f < 207
  · exact rk_199 f (by omega) h199
  by_cases h207 : f < 215
  · exact rk_207 f (by omega) h207
  by_cases h215 : f < 223
  · exact rk_215 f (by omega) h215
  by_cases h223 : f < 231
  · exact rk_223 f (by omega) h223
  by_cases h231 : f < 239
  · exact rk_231 f (by omega) h231
  by_cases h239 : f < 247
  · exact rk_239 f (by omega) h239
  by_cases h247 : f < 255
  · exact rk_247 f (by omega) h247
  by_cases h255 : f < 263
  · exact rk_255 f (by omega) h255
  by_cases h263 : f < 271
  · exact rk_263 f (by omega) h263
  by_cases h271 : f < 279
  · exact rk_271 f (by omega) h271
  by_cases h279 : f < 287
  · exact rk_279 f (by omega) h279
  by_cases h287 : f < 295
  · exact rk_287 f (by omega) h287
  by_cases h295 : f < 303
  · exact rk_295 f (by omega) h295
  by_cases h303 : f < 311
  · exact rk_303 f (by omega) h303
  by_cases h311 : f < 319
  · exact rk_311 f (by omega) h311
  by_cases h319 : f < 327
  · exact rk_319 f (by omega) h319
  have e : r_dp f = 99999 := by
    unfold r_dp
    rw [show Nat.ble 183 f = true from Nat.ble_eq_true_of_le (by omega)]
    exact t_out (by show 144 ≤ f - 183; omega)
  unfold r_ck
  rw [e]
  rfl
theorem cty_arr {q : Nat} {c : XC} (hc_w : a_g3[q]? = some c) (h : c.1 = 6 ∨ c.1 = 7 ∨ c.1 = 9) (h2 : q ≠ 203) : ∀ k, c_ty g_fk a_g3 q k = r_kd q := by
  intro k
  obtain ⟨kd, l, sl⟩ := c
  unfold c_ty r_kd
  rw [hc_w, show (q == 203) = false from by rw [beq_eq_false_iff_ne]; exact h2]
  dsimp only at h
  rcases h with rfl | rfl | rfl <;> rfl
theorem r_t1 : (List.range 30).all (fun k => (!((r_F k).1 == 1) || c_ty g_fk a_g3 182 k == 1) && (!((r_F k).1 == 2) || c_ty g_fk a_g3 182 k == 2) && (r_O k == 0 || decide (j_rf a_g3 182 k = some (r_O k : Int)))) = true := by decide +kernel
theorem r_t2 : (List.range 20).all (fun q => decide (j_len a_g3 (183 + q) = ((r_A (183 + q)).1 : Int)) && ar_cov (r_A (183 + q)) && ar_ok (r_A (183 + q)) && (match a_g3[183 + q]? with
  | some c => c.1 == 6 || c.1 == 7 || c.1 == 9
  | none => false)) = true := by decide +kernel
theorem r_tab (d : Nat) : RTab (r_T d) := by
  refine ⟨fun k => ?_, fun k hk => ?_, fun q h1 h2 => ?_, rfl⟩
  · show ((r_F k).1 = 1 → _) ∧ ((r_F k).1 = 2 → _)
    by_cases h : k < 30
    · have h3 := List.all_eq_true.mp r_t1 k (List.mem_range.mpr h)
      simp only [Bool.and_eq_true, Bool.or_eq_true, Bool.not_eq_true', beq_iff_eq, beq_eq_false_iff_ne] at h3
      exact ⟨fun e => h3.1.1.resolve_left (fun k => k e), fun e => h3.1.2.resolve_left (fun k => k e)⟩
    · have e : r_F k = (0, 0, 0) := by
        unfold r_F
        rw [List.getD_eq_getElem?_getD, List.getElem?_eq_none (by show 30 ≤ k; omega)]
        rfl
      rw [e]
      exact ⟨fun e => (by cases e), fun e => (by cases e)⟩
  · have hk : r_O k ≠ 0 := hk
    show j_rf a_g3 182 k = some (r_O k : Int)
    by_cases h : k < 30
    · have h3 := List.all_eq_true.mp r_t1 k (List.mem_range.mpr h)
      simp only [Bool.and_eq_true, Bool.or_eq_true, beq_iff_eq, decide_eq_true_eq] at h3
      exact h3.2.resolve_left hk
    · have e : r_O k = 0 := by
        unfold r_O
        rw [List.getD_eq_getElem?_getD, List.getElem?_eq_none (by show 30 ≤ k; omega)]
        rfl
      exact absurd e hk
  · show j_len a_g3 q = ((r_A q).1 : Int) ∧ _
    have h3 := List.all_eq_true.mp r_t2 (q - 183) (List.mem_range.mpr (by omega))
    rw [show 183 + (q - 183) = q by omega] at h3
    simp only [Bool.and_eq_true, decide_eq_true_eq] at h3
    obtain ⟨⟨⟨a1_w, a2⟩, a3⟩, a4⟩ := h3
    refine ⟨a1_w, a2, a3, ?_⟩
    split at a4
    · rename_i c hc_w
      simp only [Bool.or_eq_true, beq_iff_eq] at a4
      exact cty_arr hc_w (by omega) (by omega)
    · cases a4
section RALL
variable {xs : Nat → Int} {L K : Nat} {ck : Nat → List Nat} {cW : Nat → Nat → Int} {P : Int × Int} {J : XH → Prop} {g : Nat × Nat}
theorem gm_198 : g_M 198 = (0, 3, [1, 1, 1], [1], bb_198) := rfl
theorem gm_274 : g_M 274 = (0, 2, [20, 1], [1], bb_274) := rfl
theorem tot_198 {n : Nat} : TotW g (evF xs L ck K cW g_M (n + 1)) := by
  intro v l u h
  rw [evF_s, gm_198]
  have k1_w : evS xs L ck (evF xs L ck K cW g_M n) K cW bb_198 [v, l, u] ((a_g3, g), h) = some (1, [j_b (decide (l ≤ v) && decide (v ≤ u))], [v, l, u], ((a_g3, g), h)) := by
    generalize evF xs L ck K cW g_M n = F
    unfold bb_198
    simp only [es_27, ee_25, ee_20, ee_3, n_ife, n_nz, n_cmp, Option.bind_some, j_hd, List.headD_cons, n_sv, n_z0, List.getD_cons_zero, List.getD_cons_succ, j_cmp]
    by_cases h1 : l ≤ v
    · by_cases h2 : v ≤ u <;> simp [h1, h2, j_b]
    · simp [h1, j_b]
  show (evS xs L ck (evF xs L ck K cW g_M n) K cW bb_198 [v, l, u] ((a_g3, g), h)).bind _ = _
  rw [k1_w, Option.bind_some]
  exact if_pos chk_self
theorem tot_274 {n : Nat} (hJ : JS (r_T 0) J) : TotB P (r_T 0) J g (evF xs L ck K cW g_M (n + 1)) := by
  intro v h hv hQ
  have hw : IV P (r_F 0) (1 - v) := by
    rcases hv with rfl | rfl
    · exact ⟨by decide, by decide, by decide, by decide⟩
    · exact ⟨by decide, by decide, by decide, by decide⟩
  refine ⟨j_up h 182 0 (1 - v), ?_, ⟨fld_HT (T := r_T 0) (r_tab 0) hQ.1 (Or.inl rfl) hw, RI.fld hJ rfl hQ.2 hw⟩, KR.up rfl⟩
  rw [evF_s, gm_274]
  have k1_w : evS xs L ck (evF xs L ck K cW g_M n) K cW bb_274 [182, v] ((a_g3, g), h) = some (1, [v], [182, v], ((a_g3, g), j_up h 182 0 (1 - v))) := by
    generalize evF xs L ck K cW g_M n = F
    rcases hv with rfl | rfl <;> rfl
  show (evS xs L ck (evF xs L ck K cW g_M n) K cW bb_274 [182, v] ((a_g3, g), h)).bind _ = _
  rw [k1_w, Option.bind_some]
  exact if_pos chk_self
/-- the reference's methods, but for_w the parser's: they end and keep_w what is_w kept; by hand_w: those that r_hd names_w -/
theorem r_all (hK_w : 4294967300 ≤ K) (hJ : JS (r_T 0) J) (hand_w : ∀ n f, r_hd f = true → r_dp f < n + 1 → (∀ m q, m ≤ n → r_dp q < m → TotR P (r_T 0) J g (evF xs L ck K cW g_M m) q) → TotR P (r_T 0) J g (evF xs L ck K cW g_M (n + 1)) f) : ∀ N n f, n ≤ N → r_dp f < n → n < 99999 → TotR P (r_T 0) J g (evF xs L ck K cW g_M n) f
  | 0, _, _, h1, h, _ => absurd h (by omega)
  | N + 1, n, f, h1, h, hn => by
    by_cases hle : n ≤ N
    · exact r_all hK_w hJ hand_w N n f hle h hn
    obtain ⟨n, rfl⟩ : ∃ m, n = m + 1 := ⟨n - 1, by omega⟩
    have hk := rk_all f
    unfold r_ck at hk
    simp only [Bool.or_eq_true, Nat.beq_eq] at hk
    have ih_w : ∀ m q, m ≤ n → r_dp q < m → TotR P (r_T 0) J g (evF xs L ck K cW g_M m) q := fun m q hm_w hq => r_all hK_w hJ hand_w N m q (by omega) hq (by omega)
    rcases hk with (hk | hk) | hk
    · omega
    · exact hand_w n f hk h ih_w
    · rw [Bool.and_eq_true, Nat.ble_eq] at hk
      obtain ⟨m, rfl⟩ : ∃ m, n = m + 1 := ⟨n - 1, by omega⟩
      exact qM_ok (T := r_T (r_dp f)) (r_tab _) hJ (fun q hq => ih_w (m + 1) q (by omega) (by
        have hq : Nat.blt (r_dp q) (r_dp f) = true := hq
        rw [Nat.blt_eq] at hq
        omega)) tot_198 (tot_274 hJ) hK_w hk.1
end RALL
end
section
/-! ===== what is_w to hold ahead_w, for_w what is_w to hold behind_w: expressions and statements of the reference_w and the class, by hand_w ===== -/
abbrev WQ : Type := List Int → XH → Prop
abbrev WE : Type := List Int → XH → WQ → Prop
abbrev WC : Type := List Int → XH → (XH → Prop) → (XH → Prop) → Prop
abbrev WR : Type := Nat → List Int → List Int → XH → Prop
abbrev WS : Type := List Int → XH → WR → Prop
section WPD
variable (g : XS × Nat × Nat) (F : XP) (K : Nat)
/-- the truth of an expression that is_w no condition by itself_w -/
def w_nz (A : WE) : WC := fun en h Qt Qf => A en h fun x h1 => (j_hd x ≠ 0 → Qt h1) ∧ (j_hd x = 0 → Qf h1)
def w_cmp (k : Nat) (A B : WE) : WC := fun en h Qt Qf => A en h fun x h1 => B en h1 fun y h2 => (j_cmp k (j_hd x) (j_hd y) = true → Qt h2) ∧ (j_cmp k (j_hd x) (j_hd y) = false → Qf h2)
def w_cmp0 (k : Nat) (A : WE) : WC := fun en h Qt Qf => A en h fun x h1 => (j_cmp k (j_hd x) 0 = true → Qt h1) ∧ (j_cmp k (j_hd x) 0 = false → Qf h1)
def w_and (A B : WC) : WC := fun en h Qt Qf => A en h (fun h1 => B en h1 Qt Qf) Qf
def w_or (A B : WC) : WC := fun en h Qt Qf => A en h Qt (fun h1 => B en h1 Qt Qf)
def w_not (A : WC) : WC := fun en h Qt Qf => A en h Qf Qt
/-- a condition as_w a number_w -/
def w_b (A : WC) : WE := fun en h Q => A en h (fun h1 => Q [1] h1) (fun h1 => Q [0] h1)
def w_call (f : Nat) (A : WE) : WE := fun en h Q => A en h fun av h1 => ∃ r h2, F f av (g, h1) = some (1, r, (g, h2)) ∧ Q r h2
def wNE (t : Nat) (a b c : SX) (A B C : WE × WC) : WE := match t with
  | 1 => fun _ h Q => Q [sx_c a b c] h
  | 3 => fun en h Q => Q [en.getD (sx_n a) 0] h
  | 4 => fun en h Q => A.1 en h fun x h1 => Q [h1 (j_hd x).toNat (sx_n b)] h1
  | 5 => fun en h Q => A.1 en h fun x h1 => ∃ r, j_rf g.1 (j_hd x).toNat (sx_n b) = some r ∧ Q [r] h1
  | 7 => fun en h Q => A.1 en h fun x h1 => B.1 en h1 fun y h2 => sx_n c = 0 ∧ (0 ≤ j_hd y ∧ j_hd y < j_len g.1 (j_hd x).toNat) ∧ Q [h2 (j_hd x).toNat (j_hd y).toNat] h2
  | 10 => fun en h Q => A.1 en h fun x h1 => sx_n c = 0 ∧ Q [j_len g.1 (j_hd x).toNat] h1
  | 14 => fun en h Q => A.1 en h fun x h1 => B.1 en h1 fun y h2 => Q [j_iop (sx_n c) (j_hd x) (j_hd y)] h2
  | 15 => fun en h Q => A.1 en h fun x h1 => B.1 en h1 fun y h2 => Q [j_lop (sx_n c) (j_hd x) (j_hd y)] h2
  | 16 => fun en h Q => A.1 en h fun x h1 => B.1 en h1 fun y h2 => Q [j_lsh (sx_n c) (j_hd x) (j_hd y)] h2
  | 17 => fun en h Q => A.1 en h fun x h1 => B.1 en h1 fun y h2 => j_hd y ≠ 0 ∧ Q [j_div (sx_n c) (j_hd x) (j_hd y)] h2
  | 18 => fun en h Q => A.1 en h fun x h1 => Q [j_un (sx_n c) (j_hd x)] h1
  | 20 => w_b (w_cmp (sx_n c) A.1 B.1)
  | 21 => w_b (w_cmp0 (sx_n c) A.1)
  | 22 => w_b (w_cmp (sx_n c) A.1 B.1)
  | 23 => w_b (w_cmp (sx_n c) A.1 B.1)
  | 24 => A.1
  | 25 => w_b (w_and A.2 B.2)
  | 26 => w_b (w_or A.2 B.2)
  | 27 => w_b (w_not A.2)
  | 28 => fun en h Q => A.2 en h (fun h1 => B.1 en h1 Q) (fun h1 => C.1 en h1 Q)
  | 30 => fun en h Q => A.1 en h fun x h1 => B.1 en h1 fun y h2 => Q (x ++ y) h2
  | 31 => fun _ h Q => Q [] h
  | 32 => w_call g F (sx_n b) A.1
  | _ => fun _ _ _ => False
def wNC (t : Nat) (a b c : SX) (A B C : WE × WC) : WC := match t with
  | 20 => w_cmp (sx_n c) A.1 B.1
  | 21 => w_cmp0 (sx_n c) A.1
  | 22 => w_cmp (sx_n c) A.1 B.1
  | 23 => w_cmp (sx_n c) A.1 B.1
  | 24 => A.2
  | 25 => w_and A.2 B.2
  | 26 => w_or A.2 B.2
  | 27 => w_not A.2
  | _ => w_nz (wNE g F t a b c A B C)
def wP : SX → WE × WC
  | .op (.var t) (.op a (.op b c)) => (wNE g F t a b c (wP a) (wP b) (wP c), wNC g F t a b c (wP a) (wP b) (wP c))
  | _ => (fun _ _ _ => False, fun _ _ _ _ => False)
def wE (t : SX) : WE := (wP g F t).1
def wC (t : SX) : WC := (wP g F t).2
def w_seq (A B : WS) : WS := fun en h Q => A en h fun c vs en1 h1 => (c = 0 → B en1 h1 Q) ∧ (c ≠ 0 → Q c vs en1 h1)
def w_if (A : WC) (B C : WS) : WS := fun en h Q => A en h (fun h1 => B en h1 Q) (fun h1 => C en h1 Q)
def w_loop (A : WC) (B P : WS) : WS := fun en h Q => ∃ (I : List Int → XH → Prop) (m : List Int → XH → Nat), I en h ∧ ∀ en h, I en h → m en h < K ∧ A en h (fun h1 => B en h1 fun c vs en1 h2 =>
    (c = 0 ∨ c = 3 → P en1 h2 fun c' _ en2 h3 => c' = 0 ∧ I en2 h3 ∧ m en2 h3 < m en h) ∧ (c = 2 → Q 0 [] en1 h2) ∧ (c ≠ 0 → c ≠ 2 → c ≠ 3 → Q c vs en1 h2)) (fun h1 => Q 0 [] en h1)
def w_do (B : WS) (A : WC) : WS := fun en h Q => ∃ (I : List Int → XH → Prop) (m : List Int → XH → Nat), I en h ∧ ∀ en h, I en h → m en h < K ∧ B en h fun c vs en1 h2 =>
    (c = 0 ∨ c = 3 → A en1 h2 (fun h3 => I en1 h3 ∧ m en1 h3 < m en h) (fun h3 => Q 0 [] en1 h3)) ∧ (c = 2 → Q 0 [] en1 h2) ∧ (c ≠ 0 → c ≠ 2 → c ≠ 3 → Q c vs en1 h2)
def w_sw (A : WE) (B : WS) : WS := fun en h Q => A en h fun x h1 => B (j_hd x :: en) h1 fun c vs en1 h2 => (c = 2 → Q 0 vs en1 h2) ∧ (c ≠ 2 → Q c vs en1 h2)
def w_ty (ty_w : Nat) (v : Int) : Int := match ty_w with
  | 8 => ((Int32.ofInt v).toInt8.toInt32).toInt
  | 9 => (Int32.ofInt v &&& 1).toInt
  | _ => v
def wNS (t : Nat) (a b c : SX) (A B C : WS) : WS := match t with
  | 1 => fun en h Q => Q 0 [] en h
  | 2 => w_seq A B
  | 3 => fun en h Q => wE g F b en h fun x h1 => Q 0 [] (en.set (sx_n a) (j_hd x)) h1
  | 4 => fun en h Q => Q 0 [] (en.set (sx_n a) (j32 (en.getD (sx_n a) 0 + (if sx_n c = 0 then (sx_n b : Int) else -(sx_n b : Int))))) h
  | 5 => fun en h Q => wE g F a en h fun x h1 => wE g F b en h1 fun y h2 => Q 0 [] en (j_up h2 (j_hd x).toNat (sx_n c) (j_hd y))
  | 6 => fun en h Q => wE g F a en h fun x h1 => wE g F b en h1 fun y h2 => Q 0 [] en (j_up h2 (j_hd x).toNat (sx_n c / 16) (j_iop (sx_n c % 16) (h1 (j_hd x).toNat (sx_n c / 16)) (j_hd y)))
  | 7 => match c with
    | .op (.var ty_w) v => fun en h Q => wE g F a en h fun x h1 => wE g F b en h1 fun y h2 => wE g F v en h2 fun z h3 => (0 ≤ j_hd y ∧ j_hd y < j_len g.1 (j_hd x).toNat) ∧ Q 0 [] en (j_up h3 (j_hd x).toNat (j_hd y).toNat (w_ty ty_w (j_hd z)))
    | _ => fun _ _ _ => False
  | 8 => match c with
    | .op (.var op_w) v => fun en h Q => wE g F a en h fun x h1 => wE g F b en h1 fun y h2 => (0 ≤ j_hd y ∧ j_hd y < j_len g.1 (j_hd x).toNat) ∧ wE g F v en h2 fun z h3 => Q 0 [] en (j_up h3 (j_hd x).toNat (j_hd y).toNat (j_iop op_w (h2 (j_hd x).toNat (j_hd y).toNat) (j_hd z)))
    | _ => fun _ _ _ => False
  | 9 => fun en h Q => wE g F a en h fun _ h1 => Q 0 [] en h1
  | 10 => w_if (wC g F a) B (fun en h Q => Q 0 [] en h)
  | 11 => w_if (wC g F a) B C
  | 12 => w_loop K (wC g F a) B C
  | 13 => w_do K B (wC g F a)
  | 14 => fun en h Q => Q 2 [] en h
  | 15 => fun en h Q => Q 3 [] en h
  | 16 => fun en h Q => wE g F a en h fun x h1 => Q 1 x en h1
  | 27 => fun en h Q => wE g F a en h fun x h1 => (j_hd x = 0 ∨ j_hd x = 1) ∧ Q 1 x en h1
  | 17 => fun en h Q => Q 1 [] en h
  | 19 => w_sw (wE g F a) B
  | 20 => A
  | 22 => fun en h Q => Q 0 [] en h
  | 23 => fun en h Q => wE g F a en h fun x h1 => wE g F b en h1 fun y h2 => (j_hd y = 0 ∨ j_hd y = 1) ∧ Q 0 [] en (j_up h2 (j_hd x).toNat (sx_n c) (j_hd y))
  | 28 => w_if (wC g F a) B (fun en h Q => Q 2 [] en h)
  | 25 => fun en h Q => ((sx_l a).any (fun n => decide (en.headD 0 = sx_z n)) = true → B en.tail h fun c vs en1 h1 => c ≠ 0 ∧ Q c vs en1 h1) ∧ ((sx_l a).any (fun n => decide (en.headD 0 = sx_z n)) = false → C en h Q)
  | 26 => fun en h Q => A en.tail h Q
  | _ => fun _ _ _ => False
def wS : SX → WS
  | .op (.var t) (.op a (.op b c)) => wNS g F K t a b c (wS a) (wS b) (wS c)
  | _ => fun _ _ _ => False
end WPD
/-! ===== it is_w right ===== -/
section WPO
variable {xs : Nat → Int} {L K : Nat} {ck : Nat → List Nat} {F : XP} {cW : Nat → Nat → Int} {g : XS × Nat × Nat}
def WkE (g : XS × Nat × Nat) (W : WE) (A : XE) : Prop := ∀ en h Q, W en h Q → ∃ r h', A en (g, h) = some (r, (g, h')) ∧ Q r h'
def WkC (g : XS × Nat × Nat) (W : WC) (A : XE) : Prop := ∀ en h Qt Qf, W en h Qt Qf → ∃ r h', A en (g, h) = some (r, (g, h')) ∧ (j_hd r ≠ 0 → Qt h') ∧ (j_hd r = 0 → Qf h')
def WkB (g : XS × Nat × Nat) (W : WC) (A : XE) : Prop := ∀ en h Qt Qf, W en h Qt Qf → ∃ v h', A en (g, h) = some ([v], (g, h')) ∧ (v = 0 ∨ v = 1) ∧ (v ≠ 0 → Qt h') ∧ (v = 0 → Qf h')
theorem WkB.c {W : WC} {A : XE} (h : WkB g W A) : WkC g W A := fun en hh Qt Qf k => by
  obtain ⟨v, h', e1_w, -, e2_w⟩ := h en hh Qt Qf k
  exact ⟨[v], h', e1_w, e2_w⟩
theorem WkB.e {W : WC} {A : XE} (h : WkB g W A) : WkE g (w_b W) A := fun en hh Q k => by
  obtain ⟨v, h', e1_w, e3_w, e2_w, e4_w⟩ := h en hh _ _ k
  refine ⟨[v], h', e1_w, ?_⟩
  rcases e3_w with rfl | rfl
  · exact e4_w rfl
  · exact e2_w (by decide)
theorem okb_cmp {k : Nat} {A B : WE} {A' B' : XE} (hA : WkE g A A') (hB_w : WkE g B B') : WkB g (w_cmp k A B) (n_cmp (j_cmp k) A' B') := fun en h Qt Qf hw => by
  obtain ⟨x, h1, a1_w, hw⟩ := hA en h _ hw
  obtain ⟨y, h2, b1, hw⟩ := hB_w en h1 _ hw
  have e : n_cmp (j_cmp k) A' B' en (g, h) = some ([j_b (j_cmp k (j_hd x) (j_hd y))], (g, h2)) := by
    unfold n_cmp
    rw [a1_w, Option.bind_some, b1]
    rfl
  refine ⟨_, h2, e, j_b01 _, fun h0 => hw.1 (b_ne h0), fun h0 => hw.2 (b_eq h0)⟩
theorem okb_cmp0 {k : Nat} {A : WE} {A' X : XE} (hA : WkE g A A') (hX : ∀ en st, X en st = (A' en st).bind fun x => some ([j_b (j_cmp k (j_hd x.1) 0)], x.2)) : WkB g (w_cmp0 k A) X := fun en h Qt Qf hw => by
  obtain ⟨x, h1, a1_w, hw⟩ := hA en h _ hw
  refine ⟨j_b (j_cmp k (j_hd x) 0), h1, by rw [hX, a1_w]; rfl, j_b01 _, fun h0 => hw.1 (b_ne h0), fun h0 => hw.2 (b_eq h0)⟩
theorem okb_nz {B : WC} {B' : XE} (hB_w : WkC g B B') : WkB g B (n_nz B') := fun en h Qt Qf hw => by
  obtain ⟨v, h1, b1, b2, b3⟩ := hB_w en h _ _ hw
  refine ⟨j_b (decide (j_hd v ≠ 0)), h1, by unfold n_nz; rw [b1]; rfl, j_b01 _, fun h0 => b2 (of_decide_eq_true (b_ne h0)), fun h0 => b3 (Decidable.of_not_not (of_decide_eq_false (b_eq h0)))⟩
theorem okb_and {A B : WC} {A' B' : XE} (hA : WkC g A A') (hB_w : WkC g B B') : WkB g (w_and A B) (n_ife A' (n_nz B') (fun _ st => some ([0], st))) := fun en h Qt Qf hw => by
  obtain ⟨v, h1, a1_w, a2, a3⟩ := hA en h _ _ hw
  unfold n_ife
  rw [a1_w, Option.bind_some]
  by_cases h0 : j_hd v = 0
  · exact ⟨0, h1, if_pos h0, Or.inl rfl, fun k => absurd rfl k, fun _ => a3 h0⟩
  · obtain ⟨w, h2, b1, b2, b3⟩ := okb_nz hB_w en h1 _ _ (a2 h0)
    exact ⟨w, h2, (if_neg h0).trans b1, b2, b3⟩
theorem okb_or {A B : WC} {A' B' : XE} (hA : WkC g A A') (hB_w : WkC g B B') : WkB g (w_or A B) (n_ife A' (fun _ st => some ([1], st)) (n_nz B')) := fun en h Qt Qf hw => by
  obtain ⟨v, h1, a1_w, a2, a3⟩ := hA en h _ _ hw
  unfold n_ife
  rw [a1_w, Option.bind_some]
  by_cases h0 : j_hd v = 0
  · obtain ⟨w, h2, b1, b2, b3⟩ := okb_nz hB_w en h1 _ _ (a3 h0)
    exact ⟨w, h2, (if_pos h0).trans b1, b2, b3⟩
  · exact ⟨1, h1, if_neg h0, Or.inr rfl, fun _ => a2 h0, fun k => absurd k (by decide)⟩
theorem okb_not {A : WC} {A' X : XE} (hA : WkC g A A') (hX : ∀ en st, X en st = (A' en st).bind fun x => some ([j_b (decide (j_hd x.1 = 0))], x.2)) : WkB g (w_not A) X := fun en h Qt Qf hw => by
  obtain ⟨v, h1, a1_w, a2, a3⟩ := hA en h _ _ hw
  refine ⟨j_b (decide (j_hd v = 0)), h1, by rw [hX, a1_w]; rfl, j_b01 _, fun h0 => a3 (of_decide_eq_true (b_ne h0)), fun h0 => a2 (of_decide_eq_false (b_eq h0))⟩
theorem okc_nz {A : WE} {A' : XE} (hA : WkE g A A') : WkC g (w_nz A) A' := fun en h Qt Qf hw => by
  obtain ⟨r, h', a1_w, a2⟩ := hA en h _ hw
  exact ⟨r, h', a1_w, a2.1, a2.2⟩
theorem oke_ife {A : WC} {B C : WE} {A' B' C'_w : XE} (hA : WkC g A A') (hB_w : WkE g B B') (hC : WkE g C C'_w) : WkE g (fun en h Q => A en h (fun h1 => B en h1 Q) (fun h1 => C en h1 Q)) (n_ife A' B' C'_w) := fun en h Q hw => by
  obtain ⟨r, h1, a1_w, a2, a3⟩ := hA en h _ _ hw
  unfold n_ife
  rw [a1_w, Option.bind_some]
  by_cases h0 : j_hd r = 0
  · obtain ⟨v, h2, b1, b2⟩ := hC en h1 _ (a3 h0)
    exact ⟨v, h2, (if_pos h0).trans b1, b2⟩
  · obtain ⟨v, h2, b1, b2⟩ := hB_w en h1 _ (a2 h0)
    exact ⟨v, h2, (if_neg h0).trans b1, b2⟩
theorem oke_1 {A : WE} {A' X : XE} (hA : WkE g A A') {f : List Int → XH → List Int} (hX : ∀ en st, X en st = (A' en st).bind fun x => some (f x.1 x.2.2, x.2)) : WkE g (fun en h Q => A en h fun x h1 => Q (f x h1) h1) X := fun en h Q hw => by
  obtain ⟨x, h1, a1_w, hw⟩ := hA en h _ hw
  exact ⟨_, h1, by rw [hX, a1_w]; rfl, hw⟩
theorem oke_2 {A B : WE} {A' B' X : XE} (hA : WkE g A A') (hB_w : WkE g B B') {f : List Int → List Int → List Int} (hX : ∀ en st, X en st = (A' en st).bind fun x => (B' en x.2).bind fun y => some (f x.1 y.1, y.2)) : WkE g (fun en h Q => A en h fun x h1 => B en h1 fun y h2 => Q (f x y) h2) X := fun en h Q hw => by
  obtain ⟨x, h1, a1_w, hw⟩ := hA en h _ hw
  obtain ⟨y, h2, b1, hw⟩ := hB_w en h1 _ hw
  exact ⟨_, h2, by rw [hX, a1_w, Option.bind_some, b1]; rfl, hw⟩
theorem wP_ok : ∀ (t : SX), WkE g (wP g F t).1 (evE xs L ck F cW t) ∧ WkC g (wP g F t).2 (evE xs L ck F cW t)
  | .op (.var t) (.op a (.op b c)) => by
    obtain ⟨eA_w, cA_w⟩ := wP_ok a
    obtain ⟨eB, cB_w⟩ := wP_ok b
    obtain ⟨eC_w, cC⟩ := wP_ok c
    have k20 : WkB g (w_cmp (sx_n c) (wP g F a).1 (wP g F b).1) (n_cmp (j_cmp (sx_n c)) (evE xs L ck F cW a) (evE xs L ck F cW b)) := okb_cmp eA_w eB
    have k21 : WkB g (w_cmp0 (sx_n c) (wP g F a).1) (nodeE xs L ck F cW 21 a b c (evE xs L ck F cW a) (evE xs L ck F cW b) (evE xs L ck F cW c)) := okb_cmp0 eA_w (fun _ _ => rfl)
    have k25 := okb_and cA_w cB_w
    have k26 := okb_or cA_w cB_w
    have k27 : WkB g (w_not (wP g F a).2) (nodeE xs L ck F cW 27 a b c (evE xs L ck F cW a) (evE xs L ck F cW b) (evE xs L ck F cW c)) := okb_not cA_w (fun _ _ => rfl)
    have hE : WkE g (wNE g F t a b c (wP g F a) (wP g F b) (wP g F c)) (nodeE xs L ck F cW t a b c (evE xs L ck F cW a) (evE xs L ck F cW b) (evE xs L ck F cW c)) := by
      unfold wNE
      split
      · exact fun en h Q hw => ⟨_, h, rfl, hw⟩
      · exact fun en h Q hw => ⟨_, h, rfl, hw⟩
      · exact oke_1 eA_w (fun _ _ => rfl)
      · intro en h Q hw
        obtain ⟨x, h1, a1_w, r, hr, hw⟩ := eA_w en h _ hw
        refine ⟨[r], h1, ?_, hw⟩
        show (evE xs L ck F cW a en (g, h)).bind _ = _
        rw [a1_w, Option.bind_some]
        show (j_rf g.1 (j_hd x).toNat (sx_n b)).bind _ = _
        rw [hr]
        rfl
      · intro en h Q hw
        obtain ⟨x, h1, a1_w, hw⟩ := eA_w en h _ hw
        obtain ⟨y, h2, b1, hc_w, hb_w, hw⟩ := eB en h1 _ hw
        refine ⟨_, h2, ?_, hw⟩
        show n_aload xs L (sx_n c) _ _ en _ = _
        unfold n_aload
        rw [a1_w, Option.bind_some, b1, Option.bind_some, hc_w]
        exact if_pos hb_w
      · intro en h Q hw
        obtain ⟨x, h1, a1_w, hc_w, hw⟩ := eA_w en h _ hw
        refine ⟨_, h1, ?_, hw⟩
        show n_alen L (sx_n c) _ en _ = _
        unfold n_alen
        rw [a1_w, Option.bind_some, hc_w]
        rfl
      · exact oke_2 eA_w eB (fun _ _ => rfl)
      · exact oke_2 eA_w eB (fun _ _ => rfl)
      · exact oke_2 eA_w eB (fun _ _ => rfl)
      · intro en h Q hw
        obtain ⟨x, h1, a1_w, hw⟩ := eA_w en h _ hw
        obtain ⟨y, h2, b1, hb_w, hw⟩ := eB en h1 _ hw
        refine ⟨_, h2, ?_, hw⟩
        show (evE xs L ck F cW a en (g, h)).bind _ = _
        rw [a1_w, Option.bind_some]
        show (evE xs L ck F cW b en (g, h1)).bind _ = _
        rw [b1, Option.bind_some]
        exact if_neg hb_w
      · exact oke_1 eA_w (fun _ _ => rfl)
      · exact k20.e
      · exact k21.e
      · exact k20.e
      · exact k20.e
      · exact eA_w
      · exact k25.e
      · exact k26.e
      · exact k27.e
      · exact oke_ife cA_w eB eC_w
      · exact oke_2 eA_w eB (fun _ _ => rfl)
      · exact fun en h Q hw => ⟨_, h, rfl, hw⟩
      · intro en h Q hw
        obtain ⟨av, h1, a1_w, r, h2, hr, hw⟩ := eA_w en h _ hw
        refine ⟨r, h2, ?_, hw⟩
        show n_call F (sx_n b) _ en _ = _
        unfold n_call
        rw [a1_w, Option.bind_some, hr]
        rfl
      · exact fun _ _ _ hw => hw.elim
    refine ⟨hE, ?_⟩
    show WkC g (wNC g F t a b c (wP g F a) (wP g F b) (wP g F c)) (nodeE xs L ck F cW t a b c (evE xs L ck F cW a) (evE xs L ck F cW b) (evE xs L ck F cW c))
    unfold wNC
    split
    · exact k20.c
    · exact k21.c
    · exact k20.c
    · exact k20.c
    · exact cA_w
    · exact k25.c
    · exact k26.c
    · exact k27.c
    · exact okc_nz hE
  | .var _ => ⟨fun _ _ _ hw => hw.elim, fun _ _ _ _ hw => hw.elim⟩
  | .op (.op _ _) _ => ⟨fun _ _ _ hw => hw.elim, fun _ _ _ _ hw => hw.elim⟩
  | .op (.var _) (.var _) => ⟨fun _ _ _ hw => hw.elim, fun _ _ _ _ hw => hw.elim⟩
  | .op (.var _) (.op _ (.var _)) => ⟨fun _ _ _ hw => hw.elim, fun _ _ _ _ hw => hw.elim⟩
def WkS (g : XS × Nat × Nat) (W : WS) (A : XR) : Prop := ∀ en h Q, W en h Q → ∃ c vs en' h', A en (g, h) = some (c, vs, en', (g, h')) ∧ Q c vs en' h'
theorem oks_c (k : Nat) : WkS g (fun en h Q => Q k [] en h) (fun en st => some (k, [], en, st)) := fun en h Q hw => ⟨k, [], en, h, rfl, hw⟩
theorem oks_seq {A B : WS} {A' B' : XR} (hA : WkS g A A') (hB_w : WkS g B B') : WkS g (w_seq A B) (s_seq A' B') := fun en h Q hw => by
  obtain ⟨c, vs, en1, h1, a1_w, a2, a3⟩ := hA en h _ hw
  unfold s_seq
  rw [a1_w, Option.bind_some]
  dsimp only
  by_cases h0 : c = 0
  · rw [if_pos h0]
    exact hB_w en1 h1 Q (a2 h0)
  · rw [if_neg h0]
    exact ⟨c, vs, en1, h1, rfl, a3 h0⟩
theorem oks_if {A : WC} {B C : WS} {A' : XE} {B' C'_w : XR} (hA : WkC g A A') (hB_w : WkS g B B') (hC : WkS g C C'_w) : WkS g (w_if A B C) (s_if A' B' C'_w) := fun en h Q hw => by
  obtain ⟨r, h1, a1_w, a2, a3⟩ := hA en h _ _ hw
  unfold s_if
  rw [a1_w, Option.bind_some]
  dsimp only
  by_cases h0 : j_hd r = 0
  · rw [if_pos h0]
    exact hC en h1 Q (a3 h0)
  · rw [if_neg h0]
    exact hB_w en h1 Q (a2 h0)
theorem oks_loop {A : WC} {B P : WS} {A' : XE} {B' P'_w : XR} (hA : WkC g A A') (hB_w : WkS g B B') (hP : WkS g P P'_w) : WkS g (w_loop K A B P) (s_loop A' B' P'_w K) := fun en h Q hw => by
  obtain ⟨I, m, hI, hs⟩ := hw
  have key : ∀ k en h, I en h → m en h < k → ∃ c vs en' h', s_loop A' B' P'_w k en (g, h) = some (c, vs, en', (g, h')) ∧ Q c vs en' h' := by
    intro k
    induction k with
    | zero => exact fun en h _ hk => absurd hk (by omega)
    | succ k ih_w =>
      intro en h hI hk
      obtain ⟨-, hw⟩ := hs en h hI
      obtain ⟨r, h1, a1_w, a2, a3⟩ := hA en h _ _ hw
      unfold s_loop
      rw [a1_w, Option.bind_some]
      dsimp only
      by_cases h0 : j_hd r = 0
      · rw [if_pos h0]
        exact ⟨0, [], en, h1, rfl, a3 h0⟩
      · rw [if_neg h0]
        obtain ⟨c, vs, en1, h2, b1, b2, b3, b4⟩ := hB_w en h1 _ (a2 h0)
        rw [b1, Option.bind_some]
        dsimp only
        by_cases c0 : c = 0 ∨ c = 3
        · rw [if_pos c0]
          obtain ⟨c', vs', en2, h3, p1_w, p2_w, p3_w, p4_w⟩ := hP en1 h2 _ (b2 c0)
          rw [p1_w, Option.bind_some]
          dsimp only
          rw [if_pos p2_w]
          exact ih_w en2 h3 p3_w (by omega)
        · rw [if_neg c0]
          by_cases c2 : c = 2
          · rw [if_pos c2]
            exact ⟨0, [], en1, h2, rfl, b3 c2⟩
          · rw [if_neg c2]
            exact ⟨c, vs, en1, h2, rfl, b4 (fun e => c0 (Or.inl e)) c2 (fun e => c0 (Or.inr e))⟩
  exact key K en h hI (hs en h hI).1
theorem oks_do {B : WS} {A : WC} {A' : XE} {B' : XR} (hA : WkC g A A') (hB_w : WkS g B B') : WkS g (w_do K B A) (s_do B' A' K) := fun en h Q hw => by
  obtain ⟨I, m, hI, hs⟩ := hw
  have key : ∀ k en h, I en h → m en h < k → ∃ c vs en' h', s_do B' A' k en (g, h) = some (c, vs, en', (g, h')) ∧ Q c vs en' h' := by
    intro k
    induction k with
    | zero => exact fun en h _ hk => absurd hk (by omega)
    | succ k ih_w =>
      intro en h hI hk
      obtain ⟨-, hw⟩ := hs en h hI
      obtain ⟨c, vs, en1, h2, b1, b2, b3, b4⟩ := hB_w en h _ hw
      unfold s_do
      rw [b1, Option.bind_some]
      dsimp only
      by_cases c0 : c = 0 ∨ c = 3
      · rw [if_pos c0]
        obtain ⟨r, h3, a1_w, a2, a3⟩ := hA en1 h2 _ _ (b2 c0)
        rw [a1_w, Option.bind_some]
        dsimp only
        by_cases h0 : j_hd r = 0
        · rw [if_pos h0]
          exact ⟨0, [], en1, h3, rfl, a3 h0⟩
        · rw [if_neg h0]
          exact ih_w en1 h3 (a2 h0).1 (by have := (a2 h0).2; omega)
      · rw [if_neg c0]
        by_cases c2 : c = 2
        · rw [if_pos c2]
          exact ⟨0, [], en1, h2, rfl, b3 c2⟩
        · rw [if_neg c2]
          exact ⟨c, vs, en1, h2, rfl, b4 (fun e => c0 (Or.inl e)) c2 (fun e => c0 (Or.inr e))⟩
  exact key K en h hI (hs en h hI).1
theorem wS_ok : ∀ (t : SX), WkS g (wS g F K t) (evS xs L ck F K cW t)
  | .op (.var t) (.op a (.op b c)) => by
    have sA := wS_ok a
    have sB := wS_ok b
    have sC_w := wS_ok c
    have e := fun t => (wP_ok (xs := xs) (L := L) (ck := ck) (F := F) (cW := cW) (g := g) t).1
    have k := fun t => (wP_ok (xs := xs) (L := L) (ck := ck) (F := F) (cW := cW) (g := g) t).2
    show WkS g (wNS g F K t a b c (wS g F K a) (wS g F K b) (wS g F K c)) (nodeS xs L ck F K cW t a b c (evS xs L ck F K cW a) (evS xs L ck F K cW b) (evS xs L ck F K cW c))
    unfold wNS
    split
    · exact fun en h Q hw => ⟨_, _, _, _, rfl, hw⟩
    · exact oks_seq sA sB
    · intro en h Q hw
      obtain ⟨x, h1, a1_w, hw⟩ := e b en h _ hw
      exact ⟨_, _, _, h1, by show (evE xs L ck F cW b en (g, h)).bind _ = _; rw [a1_w]; rfl, hw⟩
    · exact fun en h Q hw => ⟨_, _, _, _, rfl, hw⟩
    · intro en h Q hw
      obtain ⟨x, h1, a1_w, hw⟩ := e a en h _ hw
      obtain ⟨y, h2, b1, hw⟩ := e b en h1 _ hw
      exact ⟨_, _, _, _, by show s_putf _ _ _ en _ = _; unfold s_putf; rw [a1_w, Option.bind_some, b1]; rfl, hw⟩
    · intro en h Q hw
      obtain ⟨x, h1, a1_w, hw⟩ := e a en h _ hw
      obtain ⟨y, h2, b1, hw⟩ := e b en h1 _ hw
      exact ⟨_, _, _, _, by show s_putfC _ _ _ _ en _ = _; unfold s_putfC; rw [a1_w, Option.bind_some, b1]; rfl, hw⟩
    · split
      · rename_i ty_w v
        intro en h Q hw
        obtain ⟨x, h1, a1_w, hw⟩ := e a en h _ hw
        obtain ⟨y, h2, b1, hw⟩ := e b en h1 _ hw
        obtain ⟨z, h3, c1_w, hb_w, hw⟩ := e v en h2 _ hw
        refine ⟨_, _, _, _, ?_, hw⟩
        show s_ast ty_w _ _ _ en _ = _
        unfold s_ast
        rw [a1_w, Option.bind_some, b1, Option.bind_some, c1_w, Option.bind_some]
        exact if_pos hb_w
      · exact fun _ _ _ hw => hw.elim
    · split
      · rename_i op_w v
        intro en h Q hw
        obtain ⟨x, h1, a1_w, hw⟩ := e a en h _ hw
        obtain ⟨y, h2, b1, hb_w, hw⟩ := e b en h1 _ hw
        obtain ⟨z, h3, c1_w, hw⟩ := e v en h2 _ hw
        refine ⟨_, _, _, _, ?_, hw⟩
        show s_astC op_w _ _ _ en _ = _
        unfold s_astC
        rw [a1_w, Option.bind_some, b1, Option.bind_some]
        dsimp only
        rw [if_pos hb_w, c1_w, Option.bind_some]
        exact if_pos hb_w.2
      · exact fun _ _ _ hw => hw.elim
    · intro en h Q hw
      obtain ⟨x, h1, a1_w, hw⟩ := e a en h _ hw
      exact ⟨_, _, _, h1, by show (evE xs L ck F cW a en (g, h)).bind _ = _; rw [a1_w]; rfl, hw⟩
    · exact oks_if (k a) sB (oks_c _)
    · exact oks_if (k a) sB sC_w
    · exact oks_loop (k a) sB sC_w
    · exact oks_do (k a) sB
    · exact fun en h Q hw => ⟨_, _, _, _, rfl, hw⟩
    · exact fun en h Q hw => ⟨_, _, _, _, rfl, hw⟩
    · intro en h Q hw
      obtain ⟨x, h1, a1_w, hw⟩ := e a en h _ hw
      exact ⟨_, _, _, h1, by show (evE xs L ck F cW a en (g, h)).bind _ = _; rw [a1_w]; rfl, hw⟩
    · intro en h Q hw
      obtain ⟨x, h1, a1_w, hb_w, hw⟩ := e a en h _ hw
      refine ⟨_, _, _, h1, ?_, hw⟩
      show (evE xs L ck F cW a en (g, h)).bind _ = _
      rw [a1_w, Option.bind_some]
      exact if_pos hb_w
    · exact fun en h Q hw => ⟨_, _, _, _, rfl, hw⟩
    · intro en h Q hw
      obtain ⟨x, h1, a1_w, hw⟩ := e a en h _ hw
      obtain ⟨c, vs, en1, h2, b1, b2, b3⟩ := sB _ h1 _ hw
      show ∃ c vs en' h', s_sw _ _ en (g, h) = _ ∧ _
      unfold s_sw
      rw [a1_w, Option.bind_some]
      dsimp only
      rw [b1, Option.bind_some]
      dsimp only
      by_cases c2 : c = 2
      · rw [if_pos c2]
        exact ⟨0, vs, en1, h2, rfl, b2 c2⟩
      · rw [if_neg c2]
        exact ⟨c, vs, en1, h2, rfl, b3 c2⟩
    · exact sA
    · exact fun en h Q hw => ⟨_, _, _, _, rfl, hw⟩
    · intro en h Q hw
      obtain ⟨x, h1, a1_w, hw⟩ := e a en h _ hw
      obtain ⟨y, h2, b1, hb_w, hw⟩ := e b en h1 _ hw
      refine ⟨_, _, _, _, ?_, hw⟩
      show (evE xs L ck F cW a en (g, h)).bind _ = _
      rw [a1_w, Option.bind_some]
      show (evE xs L ck F cW b en (g, h1)).bind _ = _
      rw [b1, Option.bind_some]
      exact if_pos hb_w
    · exact oks_if (k a) sB (oks_c _)
    · intro en h Q hw
      show ∃ c' vs en' h', (if (sx_l a).any (fun n => decide (en.headD 0 = sx_z n)) then (evS xs L ck F K cW b en.tail (g, h)).bind fun r => if r.1 = 0 then none else some r else evS xs L ck F K cW c en (g, h)) = _ ∧ _
      cases hl : (sx_l a).any (fun n => decide (en.headD 0 = sx_z n)) with
      | true =>
        obtain ⟨c', vs, en1, h1, b1, b2, b3⟩ := sB _ h _ (hw.1 hl)
        refine ⟨c', vs, en1, h1, ?_, b3⟩
        rw [if_pos rfl, b1, Option.bind_some]
        exact if_neg b2
      | false =>
        rw [if_neg (by decide)]
        exact sC_w en h Q (hw.2 hl)
    · intro en h Q hw
      exact sA en.tail h Q hw
    · exact fun _ _ _ hw => hw.elim
  | .var _ => fun _ _ _ hw => hw.elim
  | .op (.op _ _) _ => fun _ _ _ hw => hw.elim
  | .op (.var _) (.var _) => fun _ _ _ hw => hw.elim
  | .op (.var _) (.op _ (.var _)) => fun _ _ _ hw => hw.elim
/-- a method_w by its body_w -/
theorem wF_ok {M : Nat → XM} {n f : Nat} {av : List Int} {h : XH} {Q : List Int → XH → Prop} (hw : wS g (evF xs L ck K cW M n) K (M f).2.2.2.2 (j_pad 0 (M f).2.1 (j_lay (M f).2.2.1 av)) h (fun c vs _ h' => c = 1 ∧ Q vs h')) : ∃ r h', evF xs L ck K cW M (n + 1) f av (g, h) = some (1, r, (g, h')) ∧ Q r h' := by
  obtain ⟨c, vs, en, h', e1_w, rfl, e2_w⟩ := wS_ok (xs := xs) (L := L) (ck := ck) (cW := cW) _ _ _ _ hw
  refine ⟨vs, h', ?_, e2_w⟩
  rw [evF_s, e1_w, Option.bind_some]
  exact if_pos ⟨Or.inl rfl, Nat.le_refl _, Nat.le_refl _, List.isPrefixOf_iff_prefix.mpr (List.prefix_refl _)⟩
end WPO
end
section
/-! ===== the wp_w calculus as_w equations (written_w by wip/tools/wtab.py) ===== -/
section WEQ
variable {g : XS × Nat × Nat} {g0 : Nat × Nat} {F : XP} {K : Nat} {a b c : SX} {en : List Int} {h : XH} {Q : WQ} {Qt Qf : XH → Prop} {R : WR}
theorem we_1 : wE g F (sx 1 a b c) en h Q = Q [sx_c a b c] h := id rfl
theorem we_3 : wE g F (sx 3 a b c) en h Q = Q [en.getD (sx_n a) 0] h := id rfl
theorem we_7 : wE g F (sx 7 a b c) en h Q = (wE g F a en h fun x h1 => wE g F b en h1 fun y h2 => sx_n c = 0 ∧ (0 ≤ j_hd y ∧ j_hd y < j_len g.1 (j_hd x).toNat) ∧ Q [h2 (j_hd x).toNat (j_hd y).toNat] h2) := id rfl
theorem we_10 : wE g F (sx 10 a b c) en h Q = (wE g F a en h fun x h1 => sx_n c = 0 ∧ Q [j_len g.1 (j_hd x).toNat] h1) := id rfl
theorem we_14 : wE g F (sx 14 a b c) en h Q = (wE g F a en h fun x h1 => wE g F b en h1 fun y h2 => Q [j_iop (sx_n c) (j_hd x) (j_hd y)] h2) := id rfl
theorem we_15 : wE g F (sx 15 a b c) en h Q = (wE g F a en h fun x h1 => wE g F b en h1 fun y h2 => Q [j_lop (sx_n c) (j_hd x) (j_hd y)] h2) := id rfl
theorem we_16 : wE g F (sx 16 a b c) en h Q = (wE g F a en h fun x h1 => wE g F b en h1 fun y h2 => Q [j_lsh (sx_n c) (j_hd x) (j_hd y)] h2) := id rfl
theorem we_17 : wE g F (sx 17 a b c) en h Q = (wE g F a en h fun x h1 => wE g F b en h1 fun y h2 => j_hd y ≠ 0 ∧ Q [j_div (sx_n c) (j_hd x) (j_hd y)] h2) := id rfl
theorem we_18 : wE g F (sx 18 a b c) en h Q = (wE g F a en h fun x h1 => Q [j_un (sx_n c) (j_hd x)] h1) := id rfl
theorem we_20 : wE g F (sx 20 a b c) en h Q = (wE g F a en h fun x h1 => wE g F b en h1 fun y h2 => (j_cmp (sx_n c) (j_hd x) (j_hd y) = true → Q [1] h2) ∧ (j_cmp (sx_n c) (j_hd x) (j_hd y) = false → Q [0] h2)) := id rfl
theorem we_22 : wE g F (sx 22 a b c) en h Q = (wE g F a en h fun x h1 => wE g F b en h1 fun y h2 => (j_cmp (sx_n c) (j_hd x) (j_hd y) = true → Q [1] h2) ∧ (j_cmp (sx_n c) (j_hd x) (j_hd y) = false → Q [0] h2)) := id rfl
theorem we_21 : wE g F (sx 21 a b c) en h Q = (wE g F a en h fun x h1 => (j_cmp (sx_n c) (j_hd x) 0 = true → Q [1] h1) ∧ (j_cmp (sx_n c) (j_hd x) 0 = false → Q [0] h1)) := id rfl
theorem we_24 : wE g F (sx 24 a b c) en h Q = wE g F a en h Q := id rfl
theorem we_25 : wE g F (sx 25 a b c) en h Q = wC g F a en h (fun h1 => wC g F b en h1 (fun h2 => Q [1] h2) (fun h2 => Q [0] h2)) (fun h1 => Q [0] h1) := id rfl
theorem we_26 : wE g F (sx 26 a b c) en h Q = wC g F a en h (fun h1 => Q [1] h1) (fun h1 => wC g F b en h1 (fun h2 => Q [1] h2) (fun h2 => Q [0] h2)) := id rfl
theorem we_27 : wE g F (sx 27 a b c) en h Q = wC g F a en h (fun h1 => Q [0] h1) (fun h1 => Q [1] h1) := id rfl
theorem we_28 : wE g F (sx 28 a b c) en h Q = wC g F a en h (fun h1 => wE g F b en h1 Q) (fun h1 => wE g F c en h1 Q) := id rfl
theorem we_30 : wE g F (sx 30 a b c) en h Q = (wE g F a en h fun x h1 => wE g F b en h1 fun y h2 => Q (x ++ y) h2) := id rfl
theorem we_31 : wE g F (sx 31 a b c) en h Q = Q [] h := id rfl
theorem we_32 : wE g F (sx 32 a b c) en h Q = (wE g F a en h fun av h1 => ∃ r h2, F (sx_n b) av (g, h1) = some (1, r, (g, h2)) ∧ Q r h2) := id rfl
theorem wc_20 : wC g F (sx 20 a b c) en h Qt Qf = (wE g F a en h fun x h1 => wE g F b en h1 fun y h2 => (j_cmp (sx_n c) (j_hd x) (j_hd y) = true → Qt h2) ∧ (j_cmp (sx_n c) (j_hd x) (j_hd y) = false → Qf h2)) := id rfl
theorem wc_22 : wC g F (sx 22 a b c) en h Qt Qf = (wE g F a en h fun x h1 => wE g F b en h1 fun y h2 => (j_cmp (sx_n c) (j_hd x) (j_hd y) = true → Qt h2) ∧ (j_cmp (sx_n c) (j_hd x) (j_hd y) = false → Qf h2)) := id rfl
theorem wc_21 : wC g F (sx 21 a b c) en h Qt Qf = (wE g F a en h fun x h1 => (j_cmp (sx_n c) (j_hd x) 0 = true → Qt h1) ∧ (j_cmp (sx_n c) (j_hd x) 0 = false → Qf h1)) := id rfl
theorem wc_24 : wC g F (sx 24 a b c) en h Qt Qf = wC g F a en h Qt Qf := id rfl
theorem wc_25 : wC g F (sx 25 a b c) en h Qt Qf = wC g F a en h (fun h1 => wC g F b en h1 Qt Qf) Qf := id rfl
theorem wc_26 : wC g F (sx 26 a b c) en h Qt Qf = wC g F a en h Qt (fun h1 => wC g F b en h1 Qt Qf) := id rfl
theorem wc_27 : wC g F (sx 27 a b c) en h Qt Qf = wC g F a en h Qf Qt := id rfl
theorem wc_3 : wC g F (sx 3 a b c) en h Qt Qf = (wE g F (sx 3 a b c) en h fun x h1 => (j_hd x ≠ 0 → Qt h1) ∧ (j_hd x = 0 → Qf h1)) := id rfl
theorem wc_4 : wC g F (sx 4 a b c) en h Qt Qf = (wE g F (sx 4 a b c) en h fun x h1 => (j_hd x ≠ 0 → Qt h1) ∧ (j_hd x = 0 → Qf h1)) := id rfl
theorem wc_7 : wC g F (sx 7 a b c) en h Qt Qf = (wE g F (sx 7 a b c) en h fun x h1 => (j_hd x ≠ 0 → Qt h1) ∧ (j_hd x = 0 → Qf h1)) := id rfl
theorem wc_28 : wC g F (sx 28 a b c) en h Qt Qf = (wE g F (sx 28 a b c) en h fun x h1 => (j_hd x ≠ 0 → Qt h1) ∧ (j_hd x = 0 → Qf h1)) := id rfl
theorem wc_32 : wC g F (sx 32 a b c) en h Qt Qf = (wE g F (sx 32 a b c) en h fun x h1 => (j_hd x ≠ 0 → Qt h1) ∧ (j_hd x = 0 → Qf h1)) := id rfl
theorem ws_1 : wS g F K (sx 1 a b c) en h R = R 0 [] en h := id rfl
theorem ws_2 : wS g F K (sx 2 a b c) en h R = wS g F K a en h (fun k vs en1 h1 => (k = 0 → wS g F K b en1 h1 R) ∧ (k ≠ 0 → R k vs en1 h1)) := id rfl
theorem ws_3 : wS g F K (sx 3 a b c) en h R = (wE g F b en h fun x h1 => R 0 [] (en.set (sx_n a) (j_hd x)) h1) := id rfl
theorem ws_4 : wS g F K (sx 4 a b c) en h R = R 0 [] (en.set (sx_n a) (j32 (en.getD (sx_n a) 0 + (if sx_n c = 0 then (sx_n b : Int) else -(sx_n b : Int))))) h := id rfl
theorem ws_9 : wS g F K (sx 9 a b c) en h R = (wE g F a en h fun _ h1 => R 0 [] en h1) := id rfl
theorem ws_10 : wS g F K (sx 10 a b c) en h R = wC g F a en h (fun h1 => wS g F K b en h1 R) (fun h1 => R 0 [] en h1) := id rfl
theorem ws_11 : wS g F K (sx 11 a b c) en h R = wC g F a en h (fun h1 => wS g F K b en h1 R) (fun h1 => wS g F K c en h1 R) := id rfl
theorem ws_14 : wS g F K (sx 14 a b c) en h R = R 2 [] en h := id rfl
theorem ws_15 : wS g F K (sx 15 a b c) en h R = R 3 [] en h := id rfl
theorem ws_16 : wS g F K (sx 16 a b c) en h R = (wE g F a en h fun x h1 => R 1 x en h1) := id rfl
theorem ws_27 : wS g F K (sx 27 a b c) en h R = (wE g F a en h fun x h1 => (j_hd x = 0 ∨ j_hd x = 1) ∧ R 1 x en h1) := id rfl
theorem ws_17 : wS g F K (sx 17 a b c) en h R = R 1 [] en h := id rfl
theorem ws_20 : wS g F K (sx 20 a b c) en h R = wS g F K a en h R := id rfl
theorem ws_28 : wS g F K (sx 28 a b c) en h R = wC g F a en h (fun h1 => wS g F K b en h1 R) (fun h1 => R 2 [] en h1) := id rfl
theorem ws_7 {ty_w : Nat} {v : SX} : wS g F K (sx 7 a b (so ty_w v)) en h R = (wE g F a en h fun x h1 => wE g F b en h1 fun y h2 => wE g F v en h2 fun z h3 => (0 ≤ j_hd y ∧ j_hd y < j_len g.1 (j_hd x).toNat) ∧ R 0 [] en (j_up h3 (j_hd x).toNat (j_hd y).toNat (w_ty ty_w (j_hd z)))) := id rfl
theorem ws_8 {op_w : Nat} {v : SX} : wS g F K (sx 8 a b (so op_w v)) en h R = (wE g F a en h fun x h1 => wE g F b en h1 fun y h2 => (0 ≤ j_hd y ∧ j_hd y < j_len g.1 (j_hd x).toNat) ∧ wE g F v en h2 fun z h3 => R 0 [] en (j_up h3 (j_hd x).toNat (j_hd y).toNat (j_iop op_w (h2 (j_hd x).toNat (j_hd y).toNat) (j_hd z)))) := id rfl
/- the reference_w by itself_w -/
theorem wf_4 {k : Nat} : wE g F (sx 4 (sx 3 z0 z0 z0) (sv k) c) (182 :: en) h Q = Q [h 182 k] h := id rfl
theorem wf_40 : wE g F (sx 4 (sx 3 z0 z0 z0) z0 c) (182 :: en) h Q = Q [h 182 0] h := id rfl
theorem wf_5 {k : Nat} : wS g F K (sx 5 (sx 3 z0 z0 z0) b (sv k)) (182 :: en) h R = (wE g F b (182 :: en) h fun y h2 => R 0 [] (182 :: en) (j_up h2 182 k (j_hd y))) := id rfl
theorem wf_50 : wS g F K (sx 5 (sx 3 z0 z0 z0) b z0) (182 :: en) h R = (wE g F b (182 :: en) h fun y h2 => R 0 [] (182 :: en) (j_up h2 182 0 (j_hd y))) := id rfl
theorem wf_6 {k : Nat} : wS g F K (sx 6 (sx 3 z0 z0 z0) b (sv k)) (182 :: en) h R = (wE g F b (182 :: en) h fun y h2 => R 0 [] (182 :: en) (j_up h2 182 (k / 16) (j_iop (k % 16) (h 182 (k / 16)) (j_hd y)))) := id rfl
theorem fr_1 : j_rf a_g3 (182 : Int).toNat 1 = some 183 := by decide +kernel
theorem fl_183 : j_len a_g3 (183 : Int).toNat = 1000 := by decide +kernel
theorem wa_1 : wE (a_g3, g0) F (sx 5 (sx 3 z0 z0 z0) (sv 1) c) (182 :: en) h Q = Q [183] h := propext ⟨fun ⟨r, h1, h2⟩ => (Option.some.inj (fr_1.symm.trans h1)) ▸ h2, fun h1 => ⟨183, fr_1, h1⟩⟩
theorem wl_1 : wE (a_g3, g0) F (sx 7 (sx 5 (sx 3 z0 z0 z0) (sv 1) z0) b z0) (182 :: en) h Q = (wE (a_g3, g0) F b (182 :: en) h fun y h2 => (0 ≤ j_hd y ∧ j_hd y < 1000) ∧ Q [h2 183 (j_hd y).toNat] h2) := by
  rw [we_7, wa_1]
  have e : ∀ y : List Int, ((0 ≤ j_hd y ∧ j_hd y < j_len a_g3 (183 : Int).toNat)) = (0 ≤ j_hd y ∧ j_hd y < 1000) := fun y => by rw [fl_183]
  show (wE (a_g3, g0) F b (182 :: en) h fun y h2 => (0 : Nat) = 0 ∧ (0 ≤ j_hd y ∧ j_hd y < j_len a_g3 (183 : Int).toNat) ∧ Q [h2 183 (j_hd y).toNat] h2) = _
  simp only [e, true_and]
theorem wt_1 {ty_w : Nat} {v : SX} : wS (a_g3, g0) F K (sx 7 (sx 5 (sx 3 z0 z0 z0) (sv 1) z0) b (so ty_w v)) (182 :: en) h R = (wE (a_g3, g0) F b (182 :: en) h fun y h2 => wE (a_g3, g0) F v (182 :: en) h2 fun z h3 => (0 ≤ j_hd y ∧ j_hd y < 1000) ∧ R 0 [] (182 :: en) (j_up h3 183 (j_hd y).toNat (w_ty ty_w (j_hd z)))) := by
  rw [ws_7, wa_1]
  have e : ∀ y : List Int, ((0 ≤ j_hd y ∧ j_hd y < j_len a_g3 (183 : Int).toNat)) = (0 ≤ j_hd y ∧ j_hd y < 1000) := fun y => by rw [fl_183]
  show (wE (a_g3, g0) F b (182 :: en) h fun y h2 => wE (a_g3, g0) F v (182 :: en) h2 fun z h3 => (0 ≤ j_hd y ∧ j_hd y < j_len a_g3 (183 : Int).toNat) ∧ R 0 [] (182 :: en) (j_up h3 183 (j_hd y).toNat (w_ty ty_w (j_hd z)))) = _
  simp only [e]
theorem wu_1 {op_w : Nat} {v : SX} : wS (a_g3, g0) F K (sx 8 (sx 5 (sx 3 z0 z0 z0) (sv 1) z0) b (so op_w v)) (182 :: en) h R = (wE (a_g3, g0) F b (182 :: en) h fun y h2 => (0 ≤ j_hd y ∧ j_hd y < 1000) ∧ wE (a_g3, g0) F v (182 :: en) h2 fun z h3 => R 0 [] (182 :: en) (j_up h3 183 (j_hd y).toNat (j_iop op_w (h2 183 (j_hd y).toNat) (j_hd z)))) := by
  rw [ws_8, wa_1]
  have e : ∀ y : List Int, ((0 ≤ j_hd y ∧ j_hd y < j_len a_g3 (183 : Int).toNat)) = (0 ≤ j_hd y ∧ j_hd y < 1000) := fun y => by rw [fl_183]
  show (wE (a_g3, g0) F b (182 :: en) h fun y h2 => (0 ≤ j_hd y ∧ j_hd y < j_len a_g3 (183 : Int).toNat) ∧ wE (a_g3, g0) F v (182 :: en) h2 fun z h3 => R 0 [] (182 :: en) (j_up h3 183 (j_hd y).toNat (j_iop op_w (h2 183 (j_hd y).toNat) (j_hd z)))) = _
  simp only [e]
theorem fr_4 : j_rf a_g3 (182 : Int).toNat 4 = some 184 := by decide +kernel
theorem fl_184 : j_len a_g3 (184 : Int).toNat = 1002 := by decide +kernel
theorem wa_4 : wE (a_g3, g0) F (sx 5 (sx 3 z0 z0 z0) (sv 4) c) (182 :: en) h Q = Q [184] h := propext ⟨fun ⟨r, h1, h2⟩ => (Option.some.inj (fr_4.symm.trans h1)) ▸ h2, fun h1 => ⟨184, fr_4, h1⟩⟩
theorem wl_4 : wE (a_g3, g0) F (sx 7 (sx 5 (sx 3 z0 z0 z0) (sv 4) z0) b z0) (182 :: en) h Q = (wE (a_g3, g0) F b (182 :: en) h fun y h2 => (0 ≤ j_hd y ∧ j_hd y < 1002) ∧ Q [h2 184 (j_hd y).toNat] h2) := by
  rw [we_7, wa_4]
  have e : ∀ y : List Int, ((0 ≤ j_hd y ∧ j_hd y < j_len a_g3 (184 : Int).toNat)) = (0 ≤ j_hd y ∧ j_hd y < 1002) := fun y => by rw [fl_184]
  show (wE (a_g3, g0) F b (182 :: en) h fun y h2 => (0 : Nat) = 0 ∧ (0 ≤ j_hd y ∧ j_hd y < j_len a_g3 (184 : Int).toNat) ∧ Q [h2 184 (j_hd y).toNat] h2) = _
  simp only [e, true_and]
theorem wt_4 {ty_w : Nat} {v : SX} : wS (a_g3, g0) F K (sx 7 (sx 5 (sx 3 z0 z0 z0) (sv 4) z0) b (so ty_w v)) (182 :: en) h R = (wE (a_g3, g0) F b (182 :: en) h fun y h2 => wE (a_g3, g0) F v (182 :: en) h2 fun z h3 => (0 ≤ j_hd y ∧ j_hd y < 1002) ∧ R 0 [] (182 :: en) (j_up h3 184 (j_hd y).toNat (w_ty ty_w (j_hd z)))) := by
  rw [ws_7, wa_4]
  have e : ∀ y : List Int, ((0 ≤ j_hd y ∧ j_hd y < j_len a_g3 (184 : Int).toNat)) = (0 ≤ j_hd y ∧ j_hd y < 1002) := fun y => by rw [fl_184]
  show (wE (a_g3, g0) F b (182 :: en) h fun y h2 => wE (a_g3, g0) F v (182 :: en) h2 fun z h3 => (0 ≤ j_hd y ∧ j_hd y < j_len a_g3 (184 : Int).toNat) ∧ R 0 [] (182 :: en) (j_up h3 184 (j_hd y).toNat (w_ty ty_w (j_hd z)))) = _
  simp only [e]
theorem wu_4 {op_w : Nat} {v : SX} : wS (a_g3, g0) F K (sx 8 (sx 5 (sx 3 z0 z0 z0) (sv 4) z0) b (so op_w v)) (182 :: en) h R = (wE (a_g3, g0) F b (182 :: en) h fun y h2 => (0 ≤ j_hd y ∧ j_hd y < 1002) ∧ wE (a_g3, g0) F v (182 :: en) h2 fun z h3 => R 0 [] (182 :: en) (j_up h3 184 (j_hd y).toNat (j_iop op_w (h2 184 (j_hd y).toNat) (j_hd z)))) := by
  rw [ws_8, wa_4]
  have e : ∀ y : List Int, ((0 ≤ j_hd y ∧ j_hd y < j_len a_g3 (184 : Int).toNat)) = (0 ≤ j_hd y ∧ j_hd y < 1002) := fun y => by rw [fl_184]
  show (wE (a_g3, g0) F b (182 :: en) h fun y h2 => (0 ≤ j_hd y ∧ j_hd y < j_len a_g3 (184 : Int).toNat) ∧ wE (a_g3, g0) F v (182 :: en) h2 fun z h3 => R 0 [] (182 :: en) (j_up h3 184 (j_hd y).toNat (j_iop op_w (h2 184 (j_hd y).toNat) (j_hd z)))) = _
  simp only [e]
theorem fr_5 : j_rf a_g3 (182 : Int).toNat 5 = some 185 := by decide +kernel
theorem fl_185 : j_len a_g3 (185 : Int).toNat = 1002 := by decide +kernel
theorem wa_5 : wE (a_g3, g0) F (sx 5 (sx 3 z0 z0 z0) (sv 5) c) (182 :: en) h Q = Q [185] h := propext ⟨fun ⟨r, h1, h2⟩ => (Option.some.inj (fr_5.symm.trans h1)) ▸ h2, fun h1 => ⟨185, fr_5, h1⟩⟩
theorem wl_5 : wE (a_g3, g0) F (sx 7 (sx 5 (sx 3 z0 z0 z0) (sv 5) z0) b z0) (182 :: en) h Q = (wE (a_g3, g0) F b (182 :: en) h fun y h2 => (0 ≤ j_hd y ∧ j_hd y < 1002) ∧ Q [h2 185 (j_hd y).toNat] h2) := by
  rw [we_7, wa_5]
  have e : ∀ y : List Int, ((0 ≤ j_hd y ∧ j_hd y < j_len a_g3 (185 : Int).toNat)) = (0 ≤ j_hd y ∧ j_hd y < 1002) := fun y => by rw [fl_185]
  show (wE (a_g3, g0) F b (182 :: en) h fun y h2 => (0 : Nat) = 0 ∧ (0 ≤ j_hd y ∧ j_hd y < j_len a_g3 (185 : Int).toNat) ∧ Q [h2 185 (j_hd y).toNat] h2) = _
  simp only [e, true_and]
theorem wt_5 {ty_w : Nat} {v : SX} : wS (a_g3, g0) F K (sx 7 (sx 5 (sx 3 z0 z0 z0) (sv 5) z0) b (so ty_w v)) (182 :: en) h R = (wE (a_g3, g0) F b (182 :: en) h fun y h2 => wE (a_g3, g0) F v (182 :: en) h2 fun z h3 => (0 ≤ j_hd y ∧ j_hd y < 1002) ∧ R 0 [] (182 :: en) (j_up h3 185 (j_hd y).toNat (w_ty ty_w (j_hd z)))) := by
  rw [ws_7, wa_5]
  have e : ∀ y : List Int, ((0 ≤ j_hd y ∧ j_hd y < j_len a_g3 (185 : Int).toNat)) = (0 ≤ j_hd y ∧ j_hd y < 1002) := fun y => by rw [fl_185]
  show (wE (a_g3, g0) F b (182 :: en) h fun y h2 => wE (a_g3, g0) F v (182 :: en) h2 fun z h3 => (0 ≤ j_hd y ∧ j_hd y < j_len a_g3 (185 : Int).toNat) ∧ R 0 [] (182 :: en) (j_up h3 185 (j_hd y).toNat (w_ty ty_w (j_hd z)))) = _
  simp only [e]
theorem wu_5 {op_w : Nat} {v : SX} : wS (a_g3, g0) F K (sx 8 (sx 5 (sx 3 z0 z0 z0) (sv 5) z0) b (so op_w v)) (182 :: en) h R = (wE (a_g3, g0) F b (182 :: en) h fun y h2 => (0 ≤ j_hd y ∧ j_hd y < 1002) ∧ wE (a_g3, g0) F v (182 :: en) h2 fun z h3 => R 0 [] (182 :: en) (j_up h3 185 (j_hd y).toNat (j_iop op_w (h2 185 (j_hd y).toNat) (j_hd z)))) := by
  rw [ws_8, wa_5]
  have e : ∀ y : List Int, ((0 ≤ j_hd y ∧ j_hd y < j_len a_g3 (185 : Int).toNat)) = (0 ≤ j_hd y ∧ j_hd y < 1002) := fun y => by rw [fl_185]
  show (wE (a_g3, g0) F b (182 :: en) h fun y h2 => (0 ≤ j_hd y ∧ j_hd y < j_len a_g3 (185 : Int).toNat) ∧ wE (a_g3, g0) F v (182 :: en) h2 fun z h3 => R 0 [] (182 :: en) (j_up h3 185 (j_hd y).toNat (j_iop op_w (h2 185 (j_hd y).toNat) (j_hd z)))) = _
  simp only [e]
theorem fr_6 : j_rf a_g3 (182 : Int).toNat 6 = some 186 := by decide +kernel
theorem fl_186 : j_len a_g3 (186 : Int).toNat = 1002 := by decide +kernel
theorem wa_6 : wE (a_g3, g0) F (sx 5 (sx 3 z0 z0 z0) (sv 6) c) (182 :: en) h Q = Q [186] h := propext ⟨fun ⟨r, h1, h2⟩ => (Option.some.inj (fr_6.symm.trans h1)) ▸ h2, fun h1 => ⟨186, fr_6, h1⟩⟩
theorem wl_6 : wE (a_g3, g0) F (sx 7 (sx 5 (sx 3 z0 z0 z0) (sv 6) z0) b z0) (182 :: en) h Q = (wE (a_g3, g0) F b (182 :: en) h fun y h2 => (0 ≤ j_hd y ∧ j_hd y < 1002) ∧ Q [h2 186 (j_hd y).toNat] h2) := by
  rw [we_7, wa_6]
  have e : ∀ y : List Int, ((0 ≤ j_hd y ∧ j_hd y < j_len a_g3 (186 : Int).toNat)) = (0 ≤ j_hd y ∧ j_hd y < 1002) := fun y => by rw [fl_186]
  show (wE (a_g3, g0) F b (182 :: en) h fun y h2 => (0 : Nat) = 0 ∧ (0 ≤ j_hd y ∧ j_hd y < j_len a_g3 (186 : Int).toNat) ∧ Q [h2 186 (j_hd y).toNat] h2) = _
  simp only [e, true_and]
theorem wt_6 {ty_w : Nat} {v : SX} : wS (a_g3, g0) F K (sx 7 (sx 5 (sx 3 z0 z0 z0) (sv 6) z0) b (so ty_w v)) (182 :: en) h R = (wE (a_g3, g0) F b (182 :: en) h fun y h2 => wE (a_g3, g0) F v (182 :: en) h2 fun z h3 => (0 ≤ j_hd y ∧ j_hd y < 1002) ∧ R 0 [] (182 :: en) (j_up h3 186 (j_hd y).toNat (w_ty ty_w (j_hd z)))) := by
  rw [ws_7, wa_6]
  have e : ∀ y : List Int, ((0 ≤ j_hd y ∧ j_hd y < j_len a_g3 (186 : Int).toNat)) = (0 ≤ j_hd y ∧ j_hd y < 1002) := fun y => by rw [fl_186]
  show (wE (a_g3, g0) F b (182 :: en) h fun y h2 => wE (a_g3, g0) F v (182 :: en) h2 fun z h3 => (0 ≤ j_hd y ∧ j_hd y < j_len a_g3 (186 : Int).toNat) ∧ R 0 [] (182 :: en) (j_up h3 186 (j_hd y).toNat (w_ty ty_w (j_hd z)))) = _
  simp only [e]
theorem wu_6 {op_w : Nat} {v : SX} : wS (a_g3, g0) F K (sx 8 (sx 5 (sx 3 z0 z0 z0) (sv 6) z0) b (so op_w v)) (182 :: en) h R = (wE (a_g3, g0) F b (182 :: en) h fun y h2 => (0 ≤ j_hd y ∧ j_hd y < 1002) ∧ wE (a_g3, g0) F v (182 :: en) h2 fun z h3 => R 0 [] (182 :: en) (j_up h3 186 (j_hd y).toNat (j_iop op_w (h2 186 (j_hd y).toNat) (j_hd z)))) := by
  rw [ws_8, wa_6]
  have e : ∀ y : List Int, ((0 ≤ j_hd y ∧ j_hd y < j_len a_g3 (186 : Int).toNat)) = (0 ≤ j_hd y ∧ j_hd y < 1002) := fun y => by rw [fl_186]
  show (wE (a_g3, g0) F b (182 :: en) h fun y h2 => (0 ≤ j_hd y ∧ j_hd y < j_len a_g3 (186 : Int).toNat) ∧ wE (a_g3, g0) F v (182 :: en) h2 fun z h3 => R 0 [] (182 :: en) (j_up h3 186 (j_hd y).toNat (j_iop op_w (h2 186 (j_hd y).toNat) (j_hd z)))) = _
  simp only [e]
theorem fr_9 : j_rf a_g3 (182 : Int).toNat 9 = some 187 := by decide +kernel
theorem fl_187 : j_len a_g3 (187 : Int).toNat = 24 := by decide +kernel
theorem wa_9 : wE (a_g3, g0) F (sx 5 (sx 3 z0 z0 z0) (sv 9) c) (182 :: en) h Q = Q [187] h := propext ⟨fun ⟨r, h1, h2⟩ => (Option.some.inj (fr_9.symm.trans h1)) ▸ h2, fun h1 => ⟨187, fr_9, h1⟩⟩
theorem wl_9 : wE (a_g3, g0) F (sx 7 (sx 5 (sx 3 z0 z0 z0) (sv 9) z0) b z0) (182 :: en) h Q = (wE (a_g3, g0) F b (182 :: en) h fun y h2 => (0 ≤ j_hd y ∧ j_hd y < 24) ∧ Q [h2 187 (j_hd y).toNat] h2) := by
  rw [we_7, wa_9]
  have e : ∀ y : List Int, ((0 ≤ j_hd y ∧ j_hd y < j_len a_g3 (187 : Int).toNat)) = (0 ≤ j_hd y ∧ j_hd y < 24) := fun y => by rw [fl_187]
  show (wE (a_g3, g0) F b (182 :: en) h fun y h2 => (0 : Nat) = 0 ∧ (0 ≤ j_hd y ∧ j_hd y < j_len a_g3 (187 : Int).toNat) ∧ Q [h2 187 (j_hd y).toNat] h2) = _
  simp only [e, true_and]
theorem wt_9 {ty_w : Nat} {v : SX} : wS (a_g3, g0) F K (sx 7 (sx 5 (sx 3 z0 z0 z0) (sv 9) z0) b (so ty_w v)) (182 :: en) h R = (wE (a_g3, g0) F b (182 :: en) h fun y h2 => wE (a_g3, g0) F v (182 :: en) h2 fun z h3 => (0 ≤ j_hd y ∧ j_hd y < 24) ∧ R 0 [] (182 :: en) (j_up h3 187 (j_hd y).toNat (w_ty ty_w (j_hd z)))) := by
  rw [ws_7, wa_9]
  have e : ∀ y : List Int, ((0 ≤ j_hd y ∧ j_hd y < j_len a_g3 (187 : Int).toNat)) = (0 ≤ j_hd y ∧ j_hd y < 24) := fun y => by rw [fl_187]
  show (wE (a_g3, g0) F b (182 :: en) h fun y h2 => wE (a_g3, g0) F v (182 :: en) h2 fun z h3 => (0 ≤ j_hd y ∧ j_hd y < j_len a_g3 (187 : Int).toNat) ∧ R 0 [] (182 :: en) (j_up h3 187 (j_hd y).toNat (w_ty ty_w (j_hd z)))) = _
  simp only [e]
theorem wu_9 {op_w : Nat} {v : SX} : wS (a_g3, g0) F K (sx 8 (sx 5 (sx 3 z0 z0 z0) (sv 9) z0) b (so op_w v)) (182 :: en) h R = (wE (a_g3, g0) F b (182 :: en) h fun y h2 => (0 ≤ j_hd y ∧ j_hd y < 24) ∧ wE (a_g3, g0) F v (182 :: en) h2 fun z h3 => R 0 [] (182 :: en) (j_up h3 187 (j_hd y).toNat (j_iop op_w (h2 187 (j_hd y).toNat) (j_hd z)))) := by
  rw [ws_8, wa_9]
  have e : ∀ y : List Int, ((0 ≤ j_hd y ∧ j_hd y < j_len a_g3 (187 : Int).toNat)) = (0 ≤ j_hd y ∧ j_hd y < 24) := fun y => by rw [fl_187]
  show (wE (a_g3, g0) F b (182 :: en) h fun y h2 => (0 ≤ j_hd y ∧ j_hd y < j_len a_g3 (187 : Int).toNat) ∧ wE (a_g3, g0) F v (182 :: en) h2 fun z h3 => R 0 [] (182 :: en) (j_up h3 187 (j_hd y).toNat (j_iop op_w (h2 187 (j_hd y).toNat) (j_hd z)))) = _
  simp only [e]
theorem fr_10 : j_rf a_g3 (182 : Int).toNat 10 = some 188 := by decide +kernel
theorem fl_188 : j_len a_g3 (188 : Int).toNat = 190 := by decide +kernel
theorem wa_10 : wE (a_g3, g0) F (sx 5 (sx 3 z0 z0 z0) (sv 10) c) (182 :: en) h Q = Q [188] h := propext ⟨fun ⟨r, h1, h2⟩ => (Option.some.inj (fr_10.symm.trans h1)) ▸ h2, fun h1 => ⟨188, fr_10, h1⟩⟩
theorem wl_10 : wE (a_g3, g0) F (sx 7 (sx 5 (sx 3 z0 z0 z0) (sv 10) z0) b z0) (182 :: en) h Q = (wE (a_g3, g0) F b (182 :: en) h fun y h2 => (0 ≤ j_hd y ∧ j_hd y < 190) ∧ Q [h2 188 (j_hd y).toNat] h2) := by
  rw [we_7, wa_10]
  have e : ∀ y : List Int, ((0 ≤ j_hd y ∧ j_hd y < j_len a_g3 (188 : Int).toNat)) = (0 ≤ j_hd y ∧ j_hd y < 190) := fun y => by rw [fl_188]
  show (wE (a_g3, g0) F b (182 :: en) h fun y h2 => (0 : Nat) = 0 ∧ (0 ≤ j_hd y ∧ j_hd y < j_len a_g3 (188 : Int).toNat) ∧ Q [h2 188 (j_hd y).toNat] h2) = _
  simp only [e, true_and]
theorem wt_10 {ty_w : Nat} {v : SX} : wS (a_g3, g0) F K (sx 7 (sx 5 (sx 3 z0 z0 z0) (sv 10) z0) b (so ty_w v)) (182 :: en) h R = (wE (a_g3, g0) F b (182 :: en) h fun y h2 => wE (a_g3, g0) F v (182 :: en) h2 fun z h3 => (0 ≤ j_hd y ∧ j_hd y < 190) ∧ R 0 [] (182 :: en) (j_up h3 188 (j_hd y).toNat (w_ty ty_w (j_hd z)))) := by
  rw [ws_7, wa_10]
  have e : ∀ y : List Int, ((0 ≤ j_hd y ∧ j_hd y < j_len a_g3 (188 : Int).toNat)) = (0 ≤ j_hd y ∧ j_hd y < 190) := fun y => by rw [fl_188]
  show (wE (a_g3, g0) F b (182 :: en) h fun y h2 => wE (a_g3, g0) F v (182 :: en) h2 fun z h3 => (0 ≤ j_hd y ∧ j_hd y < j_len a_g3 (188 : Int).toNat) ∧ R 0 [] (182 :: en) (j_up h3 188 (j_hd y).toNat (w_ty ty_w (j_hd z)))) = _
  simp only [e]
theorem wu_10 {op_w : Nat} {v : SX} : wS (a_g3, g0) F K (sx 8 (sx 5 (sx 3 z0 z0 z0) (sv 10) z0) b (so op_w v)) (182 :: en) h R = (wE (a_g3, g0) F b (182 :: en) h fun y h2 => (0 ≤ j_hd y ∧ j_hd y < 190) ∧ wE (a_g3, g0) F v (182 :: en) h2 fun z h3 => R 0 [] (182 :: en) (j_up h3 188 (j_hd y).toNat (j_iop op_w (h2 188 (j_hd y).toNat) (j_hd z)))) := by
  rw [ws_8, wa_10]
  have e : ∀ y : List Int, ((0 ≤ j_hd y ∧ j_hd y < j_len a_g3 (188 : Int).toNat)) = (0 ≤ j_hd y ∧ j_hd y < 190) := fun y => by rw [fl_188]
  show (wE (a_g3, g0) F b (182 :: en) h fun y h2 => (0 ≤ j_hd y ∧ j_hd y < j_len a_g3 (188 : Int).toNat) ∧ wE (a_g3, g0) F v (182 :: en) h2 fun z h3 => R 0 [] (182 :: en) (j_up h3 188 (j_hd y).toNat (j_iop op_w (h2 188 (j_hd y).toNat) (j_hd z)))) = _
  simp only [e]
theorem fr_11 : j_rf a_g3 (182 : Int).toNat 11 = some 189 := by decide +kernel
theorem fl_189 : j_len a_g3 (189 : Int).toNat = 2200 := by decide +kernel
theorem wa_11 : wE (a_g3, g0) F (sx 5 (sx 3 z0 z0 z0) (sv 11) c) (182 :: en) h Q = Q [189] h := propext ⟨fun ⟨r, h1, h2⟩ => (Option.some.inj (fr_11.symm.trans h1)) ▸ h2, fun h1 => ⟨189, fr_11, h1⟩⟩
theorem wl_11 : wE (a_g3, g0) F (sx 7 (sx 5 (sx 3 z0 z0 z0) (sv 11) z0) b z0) (182 :: en) h Q = (wE (a_g3, g0) F b (182 :: en) h fun y h2 => (0 ≤ j_hd y ∧ j_hd y < 2200) ∧ Q [h2 189 (j_hd y).toNat] h2) := by
  rw [we_7, wa_11]
  have e : ∀ y : List Int, ((0 ≤ j_hd y ∧ j_hd y < j_len a_g3 (189 : Int).toNat)) = (0 ≤ j_hd y ∧ j_hd y < 2200) := fun y => by rw [fl_189]
  show (wE (a_g3, g0) F b (182 :: en) h fun y h2 => (0 : Nat) = 0 ∧ (0 ≤ j_hd y ∧ j_hd y < j_len a_g3 (189 : Int).toNat) ∧ Q [h2 189 (j_hd y).toNat] h2) = _
  simp only [e, true_and]
theorem wt_11 {ty_w : Nat} {v : SX} : wS (a_g3, g0) F K (sx 7 (sx 5 (sx 3 z0 z0 z0) (sv 11) z0) b (so ty_w v)) (182 :: en) h R = (wE (a_g3, g0) F b (182 :: en) h fun y h2 => wE (a_g3, g0) F v (182 :: en) h2 fun z h3 => (0 ≤ j_hd y ∧ j_hd y < 2200) ∧ R 0 [] (182 :: en) (j_up h3 189 (j_hd y).toNat (w_ty ty_w (j_hd z)))) := by
  rw [ws_7, wa_11]
  have e : ∀ y : List Int, ((0 ≤ j_hd y ∧ j_hd y < j_len a_g3 (189 : Int).toNat)) = (0 ≤ j_hd y ∧ j_hd y < 2200) := fun y => by rw [fl_189]
  show (wE (a_g3, g0) F b (182 :: en) h fun y h2 => wE (a_g3, g0) F v (182 :: en) h2 fun z h3 => (0 ≤ j_hd y ∧ j_hd y < j_len a_g3 (189 : Int).toNat) ∧ R 0 [] (182 :: en) (j_up h3 189 (j_hd y).toNat (w_ty ty_w (j_hd z)))) = _
  simp only [e]
theorem wu_11 {op_w : Nat} {v : SX} : wS (a_g3, g0) F K (sx 8 (sx 5 (sx 3 z0 z0 z0) (sv 11) z0) b (so op_w v)) (182 :: en) h R = (wE (a_g3, g0) F b (182 :: en) h fun y h2 => (0 ≤ j_hd y ∧ j_hd y < 2200) ∧ wE (a_g3, g0) F v (182 :: en) h2 fun z h3 => R 0 [] (182 :: en) (j_up h3 189 (j_hd y).toNat (j_iop op_w (h2 189 (j_hd y).toNat) (j_hd z)))) := by
  rw [ws_8, wa_11]
  have e : ∀ y : List Int, ((0 ≤ j_hd y ∧ j_hd y < j_len a_g3 (189 : Int).toNat)) = (0 ≤ j_hd y ∧ j_hd y < 2200) := fun y => by rw [fl_189]
  show (wE (a_g3, g0) F b (182 :: en) h fun y h2 => (0 ≤ j_hd y ∧ j_hd y < j_len a_g3 (189 : Int).toNat) ∧ wE (a_g3, g0) F v (182 :: en) h2 fun z h3 => R 0 [] (182 :: en) (j_up h3 189 (j_hd y).toNat (j_iop op_w (h2 189 (j_hd y).toNat) (j_hd z)))) = _
  simp only [e]
theorem fr_13 : j_rf a_g3 (182 : Int).toNat 13 = some 190 := by decide +kernel
theorem fl_190 : j_len a_g3 (190 : Int).toNat = 28 := by decide +kernel
theorem wa_13 : wE (a_g3, g0) F (sx 5 (sx 3 z0 z0 z0) (sv 13) c) (182 :: en) h Q = Q [190] h := propext ⟨fun ⟨r, h1, h2⟩ => (Option.some.inj (fr_13.symm.trans h1)) ▸ h2, fun h1 => ⟨190, fr_13, h1⟩⟩
theorem wl_13 : wE (a_g3, g0) F (sx 7 (sx 5 (sx 3 z0 z0 z0) (sv 13) z0) b z0) (182 :: en) h Q = (wE (a_g3, g0) F b (182 :: en) h fun y h2 => (0 ≤ j_hd y ∧ j_hd y < 28) ∧ Q [h2 190 (j_hd y).toNat] h2) := by
  rw [we_7, wa_13]
  have e : ∀ y : List Int, ((0 ≤ j_hd y ∧ j_hd y < j_len a_g3 (190 : Int).toNat)) = (0 ≤ j_hd y ∧ j_hd y < 28) := fun y => by rw [fl_190]
  show (wE (a_g3, g0) F b (182 :: en) h fun y h2 => (0 : Nat) = 0 ∧ (0 ≤ j_hd y ∧ j_hd y < j_len a_g3 (190 : Int).toNat) ∧ Q [h2 190 (j_hd y).toNat] h2) = _
  simp only [e, true_and]
theorem wt_13 {ty_w : Nat} {v : SX} : wS (a_g3, g0) F K (sx 7 (sx 5 (sx 3 z0 z0 z0) (sv 13) z0) b (so ty_w v)) (182 :: en) h R = (wE (a_g3, g0) F b (182 :: en) h fun y h2 => wE (a_g3, g0) F v (182 :: en) h2 fun z h3 => (0 ≤ j_hd y ∧ j_hd y < 28) ∧ R 0 [] (182 :: en) (j_up h3 190 (j_hd y).toNat (w_ty ty_w (j_hd z)))) := by
  rw [ws_7, wa_13]
  have e : ∀ y : List Int, ((0 ≤ j_hd y ∧ j_hd y < j_len a_g3 (190 : Int).toNat)) = (0 ≤ j_hd y ∧ j_hd y < 28) := fun y => by rw [fl_190]
  show (wE (a_g3, g0) F b (182 :: en) h fun y h2 => wE (a_g3, g0) F v (182 :: en) h2 fun z h3 => (0 ≤ j_hd y ∧ j_hd y < j_len a_g3 (190 : Int).toNat) ∧ R 0 [] (182 :: en) (j_up h3 190 (j_hd y).toNat (w_ty ty_w (j_hd z)))) = _
  simp only [e]
theorem wu_13 {op_w : Nat} {v : SX} : wS (a_g3, g0) F K (sx 8 (sx 5 (sx 3 z0 z0 z0) (sv 13) z0) b (so op_w v)) (182 :: en) h R = (wE (a_g3, g0) F b (182 :: en) h fun y h2 => (0 ≤ j_hd y ∧ j_hd y < 28) ∧ wE (a_g3, g0) F v (182 :: en) h2 fun z h3 => R 0 [] (182 :: en) (j_up h3 190 (j_hd y).toNat (j_iop op_w (h2 190 (j_hd y).toNat) (j_hd z)))) := by
  rw [ws_8, wa_13]
  have e : ∀ y : List Int, ((0 ≤ j_hd y ∧ j_hd y < j_len a_g3 (190 : Int).toNat)) = (0 ≤ j_hd y ∧ j_hd y < 28) := fun y => by rw [fl_190]
  show (wE (a_g3, g0) F b (182 :: en) h fun y h2 => (0 ≤ j_hd y ∧ j_hd y < j_len a_g3 (190 : Int).toNat) ∧ wE (a_g3, g0) F v (182 :: en) h2 fun z h3 => R 0 [] (182 :: en) (j_up h3 190 (j_hd y).toNat (j_iop op_w (h2 190 (j_hd y).toNat) (j_hd z)))) = _
  simp only [e]
theorem fr_14 : j_rf a_g3 (182 : Int).toNat 14 = some 191 := by decide +kernel
theorem fl_191 : j_len a_g3 (191 : Int).toNat = 250 := by decide +kernel
theorem wa_14 : wE (a_g3, g0) F (sx 5 (sx 3 z0 z0 z0) (sv 14) c) (182 :: en) h Q = Q [191] h := propext ⟨fun ⟨r, h1, h2⟩ => (Option.some.inj (fr_14.symm.trans h1)) ▸ h2, fun h1 => ⟨191, fr_14, h1⟩⟩
theorem wl_14 : wE (a_g3, g0) F (sx 7 (sx 5 (sx 3 z0 z0 z0) (sv 14) z0) b z0) (182 :: en) h Q = (wE (a_g3, g0) F b (182 :: en) h fun y h2 => (0 ≤ j_hd y ∧ j_hd y < 250) ∧ Q [h2 191 (j_hd y).toNat] h2) := by
  rw [we_7, wa_14]
  have e : ∀ y : List Int, ((0 ≤ j_hd y ∧ j_hd y < j_len a_g3 (191 : Int).toNat)) = (0 ≤ j_hd y ∧ j_hd y < 250) := fun y => by rw [fl_191]
  show (wE (a_g3, g0) F b (182 :: en) h fun y h2 => (0 : Nat) = 0 ∧ (0 ≤ j_hd y ∧ j_hd y < j_len a_g3 (191 : Int).toNat) ∧ Q [h2 191 (j_hd y).toNat] h2) = _
  simp only [e, true_and]
theorem wt_14 {ty_w : Nat} {v : SX} : wS (a_g3, g0) F K (sx 7 (sx 5 (sx 3 z0 z0 z0) (sv 14) z0) b (so ty_w v)) (182 :: en) h R = (wE (a_g3, g0) F b (182 :: en) h fun y h2 => wE (a_g3, g0) F v (182 :: en) h2 fun z h3 => (0 ≤ j_hd y ∧ j_hd y < 250) ∧ R 0 [] (182 :: en) (j_up h3 191 (j_hd y).toNat (w_ty ty_w (j_hd z)))) := by
  rw [ws_7, wa_14]
  have e : ∀ y : List Int, ((0 ≤ j_hd y ∧ j_hd y < j_len a_g3 (191 : Int).toNat)) = (0 ≤ j_hd y ∧ j_hd y < 250) := fun y => by rw [fl_191]
  show (wE (a_g3, g0) F b (182 :: en) h fun y h2 => wE (a_g3, g0) F v (182 :: en) h2 fun z h3 => (0 ≤ j_hd y ∧ j_hd y < j_len a_g3 (191 : Int).toNat) ∧ R 0 [] (182 :: en) (j_up h3 191 (j_hd y).toNat (w_ty ty_w (j_hd z)))) = _
  simp only [e]
theorem wu_14 {op_w : Nat} {v : SX} : wS (a_g3, g0) F K (sx 8 (sx 5 (sx 3 z0 z0 z0) (sv 14) z0) b (so op_w v)) (182 :: en) h R = (wE (a_g3, g0) F b (182 :: en) h fun y h2 => (0 ≤ j_hd y ∧ j_hd y < 250) ∧ wE (a_g3, g0) F v (182 :: en) h2 fun z h3 => R 0 [] (182 :: en) (j_up h3 191 (j_hd y).toNat (j_iop op_w (h2 191 (j_hd y).toNat) (j_hd z)))) := by
  rw [ws_8, wa_14]
  have e : ∀ y : List Int, ((0 ≤ j_hd y ∧ j_hd y < j_len a_g3 (191 : Int).toNat)) = (0 ≤ j_hd y ∧ j_hd y < 250) := fun y => by rw [fl_191]
  show (wE (a_g3, g0) F b (182 :: en) h fun y h2 => (0 ≤ j_hd y ∧ j_hd y < j_len a_g3 (191 : Int).toNat) ∧ wE (a_g3, g0) F v (182 :: en) h2 fun z h3 => R 0 [] (182 :: en) (j_up h3 191 (j_hd y).toNat (j_iop op_w (h2 191 (j_hd y).toNat) (j_hd z)))) = _
  simp only [e]
theorem fr_15 : j_rf a_g3 (182 : Int).toNat 15 = some 192 := by decide +kernel
theorem fl_192 : j_len a_g3 (192 : Int).toNat = 4 := by decide +kernel
theorem wa_15 : wE (a_g3, g0) F (sx 5 (sx 3 z0 z0 z0) (sv 15) c) (182 :: en) h Q = Q [192] h := propext ⟨fun ⟨r, h1, h2⟩ => (Option.some.inj (fr_15.symm.trans h1)) ▸ h2, fun h1 => ⟨192, fr_15, h1⟩⟩
theorem wl_15 : wE (a_g3, g0) F (sx 7 (sx 5 (sx 3 z0 z0 z0) (sv 15) z0) b z0) (182 :: en) h Q = (wE (a_g3, g0) F b (182 :: en) h fun y h2 => (0 ≤ j_hd y ∧ j_hd y < 4) ∧ Q [h2 192 (j_hd y).toNat] h2) := by
  rw [we_7, wa_15]
  have e : ∀ y : List Int, ((0 ≤ j_hd y ∧ j_hd y < j_len a_g3 (192 : Int).toNat)) = (0 ≤ j_hd y ∧ j_hd y < 4) := fun y => by rw [fl_192]
  show (wE (a_g3, g0) F b (182 :: en) h fun y h2 => (0 : Nat) = 0 ∧ (0 ≤ j_hd y ∧ j_hd y < j_len a_g3 (192 : Int).toNat) ∧ Q [h2 192 (j_hd y).toNat] h2) = _
  simp only [e, true_and]
theorem wt_15 {ty_w : Nat} {v : SX} : wS (a_g3, g0) F K (sx 7 (sx 5 (sx 3 z0 z0 z0) (sv 15) z0) b (so ty_w v)) (182 :: en) h R = (wE (a_g3, g0) F b (182 :: en) h fun y h2 => wE (a_g3, g0) F v (182 :: en) h2 fun z h3 => (0 ≤ j_hd y ∧ j_hd y < 4) ∧ R 0 [] (182 :: en) (j_up h3 192 (j_hd y).toNat (w_ty ty_w (j_hd z)))) := by
  rw [ws_7, wa_15]
  have e : ∀ y : List Int, ((0 ≤ j_hd y ∧ j_hd y < j_len a_g3 (192 : Int).toNat)) = (0 ≤ j_hd y ∧ j_hd y < 4) := fun y => by rw [fl_192]
  show (wE (a_g3, g0) F b (182 :: en) h fun y h2 => wE (a_g3, g0) F v (182 :: en) h2 fun z h3 => (0 ≤ j_hd y ∧ j_hd y < j_len a_g3 (192 : Int).toNat) ∧ R 0 [] (182 :: en) (j_up h3 192 (j_hd y).toNat (w_ty ty_w (j_hd z)))) = _
  simp only [e]
theorem wu_15 {op_w : Nat} {v : SX} : wS (a_g3, g0) F K (sx 8 (sx 5 (sx 3 z0 z0 z0) (sv 15) z0) b (so op_w v)) (182 :: en) h R = (wE (a_g3, g0) F b (182 :: en) h fun y h2 => (0 ≤ j_hd y ∧ j_hd y < 4) ∧ wE (a_g3, g0) F v (182 :: en) h2 fun z h3 => R 0 [] (182 :: en) (j_up h3 192 (j_hd y).toNat (j_iop op_w (h2 192 (j_hd y).toNat) (j_hd z)))) := by
  rw [ws_8, wa_15]
  have e : ∀ y : List Int, ((0 ≤ j_hd y ∧ j_hd y < j_len a_g3 (192 : Int).toNat)) = (0 ≤ j_hd y ∧ j_hd y < 4) := fun y => by rw [fl_192]
  show (wE (a_g3, g0) F b (182 :: en) h fun y h2 => (0 ≤ j_hd y ∧ j_hd y < j_len a_g3 (192 : Int).toNat) ∧ wE (a_g3, g0) F v (182 :: en) h2 fun z h3 => R 0 [] (182 :: en) (j_up h3 192 (j_hd y).toNat (j_iop op_w (h2 192 (j_hd y).toNat) (j_hd z)))) = _
  simp only [e]
theorem fr_16 : j_rf a_g3 (182 : Int).toNat 16 = some 193 := by decide +kernel
theorem fl_193 : j_len a_g3 (193 : Int).toNat = 64 := by decide +kernel
theorem wa_16 : wE (a_g3, g0) F (sx 5 (sx 3 z0 z0 z0) (sv 16) c) (182 :: en) h Q = Q [193] h := propext ⟨fun ⟨r, h1, h2⟩ => (Option.some.inj (fr_16.symm.trans h1)) ▸ h2, fun h1 => ⟨193, fr_16, h1⟩⟩
theorem wl_16 : wE (a_g3, g0) F (sx 7 (sx 5 (sx 3 z0 z0 z0) (sv 16) z0) b z0) (182 :: en) h Q = (wE (a_g3, g0) F b (182 :: en) h fun y h2 => (0 ≤ j_hd y ∧ j_hd y < 64) ∧ Q [h2 193 (j_hd y).toNat] h2) := by
  rw [we_7, wa_16]
  have e : ∀ y : List Int, ((0 ≤ j_hd y ∧ j_hd y < j_len a_g3 (193 : Int).toNat)) = (0 ≤ j_hd y ∧ j_hd y < 64) := fun y => by rw [fl_193]
  show (wE (a_g3, g0) F b (182 :: en) h fun y h2 => (0 : Nat) = 0 ∧ (0 ≤ j_hd y ∧ j_hd y < j_len a_g3 (193 : Int).toNat) ∧ Q [h2 193 (j_hd y).toNat] h2) = _
  simp only [e, true_and]
theorem wt_16 {ty_w : Nat} {v : SX} : wS (a_g3, g0) F K (sx 7 (sx 5 (sx 3 z0 z0 z0) (sv 16) z0) b (so ty_w v)) (182 :: en) h R = (wE (a_g3, g0) F b (182 :: en) h fun y h2 => wE (a_g3, g0) F v (182 :: en) h2 fun z h3 => (0 ≤ j_hd y ∧ j_hd y < 64) ∧ R 0 [] (182 :: en) (j_up h3 193 (j_hd y).toNat (w_ty ty_w (j_hd z)))) := by
  rw [ws_7, wa_16]
  have e : ∀ y : List Int, ((0 ≤ j_hd y ∧ j_hd y < j_len a_g3 (193 : Int).toNat)) = (0 ≤ j_hd y ∧ j_hd y < 64) := fun y => by rw [fl_193]
  show (wE (a_g3, g0) F b (182 :: en) h fun y h2 => wE (a_g3, g0) F v (182 :: en) h2 fun z h3 => (0 ≤ j_hd y ∧ j_hd y < j_len a_g3 (193 : Int).toNat) ∧ R 0 [] (182 :: en) (j_up h3 193 (j_hd y).toNat (w_ty ty_w (j_hd z)))) = _
  simp only [e]
theorem wu_16 {op_w : Nat} {v : SX} : wS (a_g3, g0) F K (sx 8 (sx 5 (sx 3 z0 z0 z0) (sv 16) z0) b (so op_w v)) (182 :: en) h R = (wE (a_g3, g0) F b (182 :: en) h fun y h2 => (0 ≤ j_hd y ∧ j_hd y < 64) ∧ wE (a_g3, g0) F v (182 :: en) h2 fun z h3 => R 0 [] (182 :: en) (j_up h3 193 (j_hd y).toNat (j_iop op_w (h2 193 (j_hd y).toNat) (j_hd z)))) := by
  rw [ws_8, wa_16]
  have e : ∀ y : List Int, ((0 ≤ j_hd y ∧ j_hd y < j_len a_g3 (193 : Int).toNat)) = (0 ≤ j_hd y ∧ j_hd y < 64) := fun y => by rw [fl_193]
  show (wE (a_g3, g0) F b (182 :: en) h fun y h2 => (0 ≤ j_hd y ∧ j_hd y < j_len a_g3 (193 : Int).toNat) ∧ wE (a_g3, g0) F v (182 :: en) h2 fun z h3 => R 0 [] (182 :: en) (j_up h3 193 (j_hd y).toNat (j_iop op_w (h2 193 (j_hd y).toNat) (j_hd z)))) = _
  simp only [e]
theorem fr_17 : j_rf a_g3 (182 : Int).toNat 17 = some 194 := by decide +kernel
theorem fl_194 : j_len a_g3 (194 : Int).toNat = 5148 := by decide +kernel
theorem wa_17 : wE (a_g3, g0) F (sx 5 (sx 3 z0 z0 z0) (sv 17) c) (182 :: en) h Q = Q [194] h := propext ⟨fun ⟨r, h1, h2⟩ => (Option.some.inj (fr_17.symm.trans h1)) ▸ h2, fun h1 => ⟨194, fr_17, h1⟩⟩
theorem wl_17 : wE (a_g3, g0) F (sx 7 (sx 5 (sx 3 z0 z0 z0) (sv 17) z0) b z0) (182 :: en) h Q = (wE (a_g3, g0) F b (182 :: en) h fun y h2 => (0 ≤ j_hd y ∧ j_hd y < 5148) ∧ Q [h2 194 (j_hd y).toNat] h2) := by
  rw [we_7, wa_17]
  have e : ∀ y : List Int, ((0 ≤ j_hd y ∧ j_hd y < j_len a_g3 (194 : Int).toNat)) = (0 ≤ j_hd y ∧ j_hd y < 5148) := fun y => by rw [fl_194]
  show (wE (a_g3, g0) F b (182 :: en) h fun y h2 => (0 : Nat) = 0 ∧ (0 ≤ j_hd y ∧ j_hd y < j_len a_g3 (194 : Int).toNat) ∧ Q [h2 194 (j_hd y).toNat] h2) = _
  simp only [e, true_and]
theorem wt_17 {ty_w : Nat} {v : SX} : wS (a_g3, g0) F K (sx 7 (sx 5 (sx 3 z0 z0 z0) (sv 17) z0) b (so ty_w v)) (182 :: en) h R = (wE (a_g3, g0) F b (182 :: en) h fun y h2 => wE (a_g3, g0) F v (182 :: en) h2 fun z h3 => (0 ≤ j_hd y ∧ j_hd y < 5148) ∧ R 0 [] (182 :: en) (j_up h3 194 (j_hd y).toNat (w_ty ty_w (j_hd z)))) := by
  rw [ws_7, wa_17]
  have e : ∀ y : List Int, ((0 ≤ j_hd y ∧ j_hd y < j_len a_g3 (194 : Int).toNat)) = (0 ≤ j_hd y ∧ j_hd y < 5148) := fun y => by rw [fl_194]
  show (wE (a_g3, g0) F b (182 :: en) h fun y h2 => wE (a_g3, g0) F v (182 :: en) h2 fun z h3 => (0 ≤ j_hd y ∧ j_hd y < j_len a_g3 (194 : Int).toNat) ∧ R 0 [] (182 :: en) (j_up h3 194 (j_hd y).toNat (w_ty ty_w (j_hd z)))) = _
  simp only [e]
theorem wu_17 {op_w : Nat} {v : SX} : wS (a_g3, g0) F K (sx 8 (sx 5 (sx 3 z0 z0 z0) (sv 17) z0) b (so op_w v)) (182 :: en) h R = (wE (a_g3, g0) F b (182 :: en) h fun y h2 => (0 ≤ j_hd y ∧ j_hd y < 5148) ∧ wE (a_g3, g0) F v (182 :: en) h2 fun z h3 => R 0 [] (182 :: en) (j_up h3 194 (j_hd y).toNat (j_iop op_w (h2 194 (j_hd y).toNat) (j_hd z)))) := by
  rw [ws_8, wa_17]
  have e : ∀ y : List Int, ((0 ≤ j_hd y ∧ j_hd y < j_len a_g3 (194 : Int).toNat)) = (0 ≤ j_hd y ∧ j_hd y < 5148) := fun y => by rw [fl_194]
  show (wE (a_g3, g0) F b (182 :: en) h fun y h2 => (0 ≤ j_hd y ∧ j_hd y < j_len a_g3 (194 : Int).toNat) ∧ wE (a_g3, g0) F v (182 :: en) h2 fun z h3 => R 0 [] (182 :: en) (j_up h3 194 (j_hd y).toNat (j_iop op_w (h2 194 (j_hd y).toNat) (j_hd z)))) = _
  simp only [e]
theorem fr_20 : j_rf a_g3 (182 : Int).toNat 20 = some 195 := by decide +kernel
theorem fl_195 : j_len a_g3 (195 : Int).toNat = 2 := by decide +kernel
theorem wa_20 : wE (a_g3, g0) F (sx 5 (sx 3 z0 z0 z0) (sv 20) c) (182 :: en) h Q = Q [195] h := propext ⟨fun ⟨r, h1, h2⟩ => (Option.some.inj (fr_20.symm.trans h1)) ▸ h2, fun h1 => ⟨195, fr_20, h1⟩⟩
theorem wl_20 : wE (a_g3, g0) F (sx 7 (sx 5 (sx 3 z0 z0 z0) (sv 20) z0) b z0) (182 :: en) h Q = (wE (a_g3, g0) F b (182 :: en) h fun y h2 => (0 ≤ j_hd y ∧ j_hd y < 2) ∧ Q [h2 195 (j_hd y).toNat] h2) := by
  rw [we_7, wa_20]
  have e : ∀ y : List Int, ((0 ≤ j_hd y ∧ j_hd y < j_len a_g3 (195 : Int).toNat)) = (0 ≤ j_hd y ∧ j_hd y < 2) := fun y => by rw [fl_195]
  show (wE (a_g3, g0) F b (182 :: en) h fun y h2 => (0 : Nat) = 0 ∧ (0 ≤ j_hd y ∧ j_hd y < j_len a_g3 (195 : Int).toNat) ∧ Q [h2 195 (j_hd y).toNat] h2) = _
  simp only [e, true_and]
theorem wt_20 {ty_w : Nat} {v : SX} : wS (a_g3, g0) F K (sx 7 (sx 5 (sx 3 z0 z0 z0) (sv 20) z0) b (so ty_w v)) (182 :: en) h R = (wE (a_g3, g0) F b (182 :: en) h fun y h2 => wE (a_g3, g0) F v (182 :: en) h2 fun z h3 => (0 ≤ j_hd y ∧ j_hd y < 2) ∧ R 0 [] (182 :: en) (j_up h3 195 (j_hd y).toNat (w_ty ty_w (j_hd z)))) := by
  rw [ws_7, wa_20]
  have e : ∀ y : List Int, ((0 ≤ j_hd y ∧ j_hd y < j_len a_g3 (195 : Int).toNat)) = (0 ≤ j_hd y ∧ j_hd y < 2) := fun y => by rw [fl_195]
  show (wE (a_g3, g0) F b (182 :: en) h fun y h2 => wE (a_g3, g0) F v (182 :: en) h2 fun z h3 => (0 ≤ j_hd y ∧ j_hd y < j_len a_g3 (195 : Int).toNat) ∧ R 0 [] (182 :: en) (j_up h3 195 (j_hd y).toNat (w_ty ty_w (j_hd z)))) = _
  simp only [e]
theorem wu_20 {op_w : Nat} {v : SX} : wS (a_g3, g0) F K (sx 8 (sx 5 (sx 3 z0 z0 z0) (sv 20) z0) b (so op_w v)) (182 :: en) h R = (wE (a_g3, g0) F b (182 :: en) h fun y h2 => (0 ≤ j_hd y ∧ j_hd y < 2) ∧ wE (a_g3, g0) F v (182 :: en) h2 fun z h3 => R 0 [] (182 :: en) (j_up h3 195 (j_hd y).toNat (j_iop op_w (h2 195 (j_hd y).toNat) (j_hd z)))) := by
  rw [ws_8, wa_20]
  have e : ∀ y : List Int, ((0 ≤ j_hd y ∧ j_hd y < j_len a_g3 (195 : Int).toNat)) = (0 ≤ j_hd y ∧ j_hd y < 2) := fun y => by rw [fl_195]
  show (wE (a_g3, g0) F b (182 :: en) h fun y h2 => (0 ≤ j_hd y ∧ j_hd y < j_len a_g3 (195 : Int).toNat) ∧ wE (a_g3, g0) F v (182 :: en) h2 fun z h3 => R 0 [] (182 :: en) (j_up h3 195 (j_hd y).toNat (j_iop op_w (h2 195 (j_hd y).toNat) (j_hd z)))) = _
  simp only [e]
theorem fr_21 : j_rf a_g3 (182 : Int).toNat 21 = some 196 := by decide +kernel
theorem fl_196 : j_len a_g3 (196 : Int).toNat = 6 := by decide +kernel
theorem wa_21 : wE (a_g3, g0) F (sx 5 (sx 3 z0 z0 z0) (sv 21) c) (182 :: en) h Q = Q [196] h := propext ⟨fun ⟨r, h1, h2⟩ => (Option.some.inj (fr_21.symm.trans h1)) ▸ h2, fun h1 => ⟨196, fr_21, h1⟩⟩
theorem wl_21 : wE (a_g3, g0) F (sx 7 (sx 5 (sx 3 z0 z0 z0) (sv 21) z0) b z0) (182 :: en) h Q = (wE (a_g3, g0) F b (182 :: en) h fun y h2 => (0 ≤ j_hd y ∧ j_hd y < 6) ∧ Q [h2 196 (j_hd y).toNat] h2) := by
  rw [we_7, wa_21]
  have e : ∀ y : List Int, ((0 ≤ j_hd y ∧ j_hd y < j_len a_g3 (196 : Int).toNat)) = (0 ≤ j_hd y ∧ j_hd y < 6) := fun y => by rw [fl_196]
  show (wE (a_g3, g0) F b (182 :: en) h fun y h2 => (0 : Nat) = 0 ∧ (0 ≤ j_hd y ∧ j_hd y < j_len a_g3 (196 : Int).toNat) ∧ Q [h2 196 (j_hd y).toNat] h2) = _
  simp only [e, true_and]
theorem wt_21 {ty_w : Nat} {v : SX} : wS (a_g3, g0) F K (sx 7 (sx 5 (sx 3 z0 z0 z0) (sv 21) z0) b (so ty_w v)) (182 :: en) h R = (wE (a_g3, g0) F b (182 :: en) h fun y h2 => wE (a_g3, g0) F v (182 :: en) h2 fun z h3 => (0 ≤ j_hd y ∧ j_hd y < 6) ∧ R 0 [] (182 :: en) (j_up h3 196 (j_hd y).toNat (w_ty ty_w (j_hd z)))) := by
  rw [ws_7, wa_21]
  have e : ∀ y : List Int, ((0 ≤ j_hd y ∧ j_hd y < j_len a_g3 (196 : Int).toNat)) = (0 ≤ j_hd y ∧ j_hd y < 6) := fun y => by rw [fl_196]
  show (wE (a_g3, g0) F b (182 :: en) h fun y h2 => wE (a_g3, g0) F v (182 :: en) h2 fun z h3 => (0 ≤ j_hd y ∧ j_hd y < j_len a_g3 (196 : Int).toNat) ∧ R 0 [] (182 :: en) (j_up h3 196 (j_hd y).toNat (w_ty ty_w (j_hd z)))) = _
  simp only [e]
theorem wu_21 {op_w : Nat} {v : SX} : wS (a_g3, g0) F K (sx 8 (sx 5 (sx 3 z0 z0 z0) (sv 21) z0) b (so op_w v)) (182 :: en) h R = (wE (a_g3, g0) F b (182 :: en) h fun y h2 => (0 ≤ j_hd y ∧ j_hd y < 6) ∧ wE (a_g3, g0) F v (182 :: en) h2 fun z h3 => R 0 [] (182 :: en) (j_up h3 196 (j_hd y).toNat (j_iop op_w (h2 196 (j_hd y).toNat) (j_hd z)))) := by
  rw [ws_8, wa_21]
  have e : ∀ y : List Int, ((0 ≤ j_hd y ∧ j_hd y < j_len a_g3 (196 : Int).toNat)) = (0 ≤ j_hd y ∧ j_hd y < 6) := fun y => by rw [fl_196]
  show (wE (a_g3, g0) F b (182 :: en) h fun y h2 => (0 ≤ j_hd y ∧ j_hd y < j_len a_g3 (196 : Int).toNat) ∧ wE (a_g3, g0) F v (182 :: en) h2 fun z h3 => R 0 [] (182 :: en) (j_up h3 196 (j_hd y).toNat (j_iop op_w (h2 196 (j_hd y).toNat) (j_hd z)))) = _
  simp only [e]
theorem fr_22 : j_rf a_g3 (182 : Int).toNat 22 = some 197 := by decide +kernel
theorem fl_197 : j_len a_g3 (197 : Int).toNat = 6 := by decide +kernel
theorem wa_22 : wE (a_g3, g0) F (sx 5 (sx 3 z0 z0 z0) (sv 22) c) (182 :: en) h Q = Q [197] h := propext ⟨fun ⟨r, h1, h2⟩ => (Option.some.inj (fr_22.symm.trans h1)) ▸ h2, fun h1 => ⟨197, fr_22, h1⟩⟩
theorem wl_22 : wE (a_g3, g0) F (sx 7 (sx 5 (sx 3 z0 z0 z0) (sv 22) z0) b z0) (182 :: en) h Q = (wE (a_g3, g0) F b (182 :: en) h fun y h2 => (0 ≤ j_hd y ∧ j_hd y < 6) ∧ Q [h2 197 (j_hd y).toNat] h2) := by
  rw [we_7, wa_22]
  have e : ∀ y : List Int, ((0 ≤ j_hd y ∧ j_hd y < j_len a_g3 (197 : Int).toNat)) = (0 ≤ j_hd y ∧ j_hd y < 6) := fun y => by rw [fl_197]
  show (wE (a_g3, g0) F b (182 :: en) h fun y h2 => (0 : Nat) = 0 ∧ (0 ≤ j_hd y ∧ j_hd y < j_len a_g3 (197 : Int).toNat) ∧ Q [h2 197 (j_hd y).toNat] h2) = _
  simp only [e, true_and]
theorem wt_22 {ty_w : Nat} {v : SX} : wS (a_g3, g0) F K (sx 7 (sx 5 (sx 3 z0 z0 z0) (sv 22) z0) b (so ty_w v)) (182 :: en) h R = (wE (a_g3, g0) F b (182 :: en) h fun y h2 => wE (a_g3, g0) F v (182 :: en) h2 fun z h3 => (0 ≤ j_hd y ∧ j_hd y < 6) ∧ R 0 [] (182 :: en) (j_up h3 197 (j_hd y).toNat (w_ty ty_w (j_hd z)))) := by
  rw [ws_7, wa_22]
  have e : ∀ y : List Int, ((0 ≤ j_hd y ∧ j_hd y < j_len a_g3 (197 : Int).toNat)) = (0 ≤ j_hd y ∧ j_hd y < 6) := fun y => by rw [fl_197]
  show (wE (a_g3, g0) F b (182 :: en) h fun y h2 => wE (a_g3, g0) F v (182 :: en) h2 fun z h3 => (0 ≤ j_hd y ∧ j_hd y < j_len a_g3 (197 : Int).toNat) ∧ R 0 [] (182 :: en) (j_up h3 197 (j_hd y).toNat (w_ty ty_w (j_hd z)))) = _
  simp only [e]
theorem wu_22 {op_w : Nat} {v : SX} : wS (a_g3, g0) F K (sx 8 (sx 5 (sx 3 z0 z0 z0) (sv 22) z0) b (so op_w v)) (182 :: en) h R = (wE (a_g3, g0) F b (182 :: en) h fun y h2 => (0 ≤ j_hd y ∧ j_hd y < 6) ∧ wE (a_g3, g0) F v (182 :: en) h2 fun z h3 => R 0 [] (182 :: en) (j_up h3 197 (j_hd y).toNat (j_iop op_w (h2 197 (j_hd y).toNat) (j_hd z)))) := by
  rw [ws_8, wa_22]
  have e : ∀ y : List Int, ((0 ≤ j_hd y ∧ j_hd y < j_len a_g3 (197 : Int).toNat)) = (0 ≤ j_hd y ∧ j_hd y < 6) := fun y => by rw [fl_197]
  show (wE (a_g3, g0) F b (182 :: en) h fun y h2 => (0 ≤ j_hd y ∧ j_hd y < j_len a_g3 (197 : Int).toNat) ∧ wE (a_g3, g0) F v (182 :: en) h2 fun z h3 => R 0 [] (182 :: en) (j_up h3 197 (j_hd y).toNat (j_iop op_w (h2 197 (j_hd y).toNat) (j_hd z)))) = _
  simp only [e]
theorem fr_23 : j_rf a_g3 (182 : Int).toNat 23 = some 198 := by decide +kernel
theorem fl_198 : j_len a_g3 (198 : Int).toNat = 4 := by decide +kernel
theorem wa_23 : wE (a_g3, g0) F (sx 5 (sx 3 z0 z0 z0) (sv 23) c) (182 :: en) h Q = Q [198] h := propext ⟨fun ⟨r, h1, h2⟩ => (Option.some.inj (fr_23.symm.trans h1)) ▸ h2, fun h1 => ⟨198, fr_23, h1⟩⟩
theorem wl_23 : wE (a_g3, g0) F (sx 7 (sx 5 (sx 3 z0 z0 z0) (sv 23) z0) b z0) (182 :: en) h Q = (wE (a_g3, g0) F b (182 :: en) h fun y h2 => (0 ≤ j_hd y ∧ j_hd y < 4) ∧ Q [h2 198 (j_hd y).toNat] h2) := by
  rw [we_7, wa_23]
  have e : ∀ y : List Int, ((0 ≤ j_hd y ∧ j_hd y < j_len a_g3 (198 : Int).toNat)) = (0 ≤ j_hd y ∧ j_hd y < 4) := fun y => by rw [fl_198]
  show (wE (a_g3, g0) F b (182 :: en) h fun y h2 => (0 : Nat) = 0 ∧ (0 ≤ j_hd y ∧ j_hd y < j_len a_g3 (198 : Int).toNat) ∧ Q [h2 198 (j_hd y).toNat] h2) = _
  simp only [e, true_and]
theorem wt_23 {ty_w : Nat} {v : SX} : wS (a_g3, g0) F K (sx 7 (sx 5 (sx 3 z0 z0 z0) (sv 23) z0) b (so ty_w v)) (182 :: en) h R = (wE (a_g3, g0) F b (182 :: en) h fun y h2 => wE (a_g3, g0) F v (182 :: en) h2 fun z h3 => (0 ≤ j_hd y ∧ j_hd y < 4) ∧ R 0 [] (182 :: en) (j_up h3 198 (j_hd y).toNat (w_ty ty_w (j_hd z)))) := by
  rw [ws_7, wa_23]
  have e : ∀ y : List Int, ((0 ≤ j_hd y ∧ j_hd y < j_len a_g3 (198 : Int).toNat)) = (0 ≤ j_hd y ∧ j_hd y < 4) := fun y => by rw [fl_198]
  show (wE (a_g3, g0) F b (182 :: en) h fun y h2 => wE (a_g3, g0) F v (182 :: en) h2 fun z h3 => (0 ≤ j_hd y ∧ j_hd y < j_len a_g3 (198 : Int).toNat) ∧ R 0 [] (182 :: en) (j_up h3 198 (j_hd y).toNat (w_ty ty_w (j_hd z)))) = _
  simp only [e]
theorem wu_23 {op_w : Nat} {v : SX} : wS (a_g3, g0) F K (sx 8 (sx 5 (sx 3 z0 z0 z0) (sv 23) z0) b (so op_w v)) (182 :: en) h R = (wE (a_g3, g0) F b (182 :: en) h fun y h2 => (0 ≤ j_hd y ∧ j_hd y < 4) ∧ wE (a_g3, g0) F v (182 :: en) h2 fun z h3 => R 0 [] (182 :: en) (j_up h3 198 (j_hd y).toNat (j_iop op_w (h2 198 (j_hd y).toNat) (j_hd z)))) := by
  rw [ws_8, wa_23]
  have e : ∀ y : List Int, ((0 ≤ j_hd y ∧ j_hd y < j_len a_g3 (198 : Int).toNat)) = (0 ≤ j_hd y ∧ j_hd y < 4) := fun y => by rw [fl_198]
  show (wE (a_g3, g0) F b (182 :: en) h fun y h2 => (0 ≤ j_hd y ∧ j_hd y < j_len a_g3 (198 : Int).toNat) ∧ wE (a_g3, g0) F v (182 :: en) h2 fun z h3 => R 0 [] (182 :: en) (j_up h3 198 (j_hd y).toNat (j_iop op_w (h2 198 (j_hd y).toNat) (j_hd z)))) = _
  simp only [e]
theorem fr_24 : j_rf a_g3 (182 : Int).toNat 24 = some 199 := by decide +kernel
theorem fl_199 : j_len a_g3 (199 : Int).toNat = 4 := by decide +kernel
theorem wa_24 : wE (a_g3, g0) F (sx 5 (sx 3 z0 z0 z0) (sv 24) c) (182 :: en) h Q = Q [199] h := propext ⟨fun ⟨r, h1, h2⟩ => (Option.some.inj (fr_24.symm.trans h1)) ▸ h2, fun h1 => ⟨199, fr_24, h1⟩⟩
theorem wl_24 : wE (a_g3, g0) F (sx 7 (sx 5 (sx 3 z0 z0 z0) (sv 24) z0) b z0) (182 :: en) h Q = (wE (a_g3, g0) F b (182 :: en) h fun y h2 => (0 ≤ j_hd y ∧ j_hd y < 4) ∧ Q [h2 199 (j_hd y).toNat] h2) := by
  rw [we_7, wa_24]
  have e : ∀ y : List Int, ((0 ≤ j_hd y ∧ j_hd y < j_len a_g3 (199 : Int).toNat)) = (0 ≤ j_hd y ∧ j_hd y < 4) := fun y => by rw [fl_199]
  show (wE (a_g3, g0) F b (182 :: en) h fun y h2 => (0 : Nat) = 0 ∧ (0 ≤ j_hd y ∧ j_hd y < j_len a_g3 (199 : Int).toNat) ∧ Q [h2 199 (j_hd y).toNat] h2) = _
  simp only [e, true_and]
theorem wt_24 {ty_w : Nat} {v : SX} : wS (a_g3, g0) F K (sx 7 (sx 5 (sx 3 z0 z0 z0) (sv 24) z0) b (so ty_w v)) (182 :: en) h R = (wE (a_g3, g0) F b (182 :: en) h fun y h2 => wE (a_g3, g0) F v (182 :: en) h2 fun z h3 => (0 ≤ j_hd y ∧ j_hd y < 4) ∧ R 0 [] (182 :: en) (j_up h3 199 (j_hd y).toNat (w_ty ty_w (j_hd z)))) := by
  rw [ws_7, wa_24]
  have e : ∀ y : List Int, ((0 ≤ j_hd y ∧ j_hd y < j_len a_g3 (199 : Int).toNat)) = (0 ≤ j_hd y ∧ j_hd y < 4) := fun y => by rw [fl_199]
  show (wE (a_g3, g0) F b (182 :: en) h fun y h2 => wE (a_g3, g0) F v (182 :: en) h2 fun z h3 => (0 ≤ j_hd y ∧ j_hd y < j_len a_g3 (199 : Int).toNat) ∧ R 0 [] (182 :: en) (j_up h3 199 (j_hd y).toNat (w_ty ty_w (j_hd z)))) = _
  simp only [e]
theorem wu_24 {op_w : Nat} {v : SX} : wS (a_g3, g0) F K (sx 8 (sx 5 (sx 3 z0 z0 z0) (sv 24) z0) b (so op_w v)) (182 :: en) h R = (wE (a_g3, g0) F b (182 :: en) h fun y h2 => (0 ≤ j_hd y ∧ j_hd y < 4) ∧ wE (a_g3, g0) F v (182 :: en) h2 fun z h3 => R 0 [] (182 :: en) (j_up h3 199 (j_hd y).toNat (j_iop op_w (h2 199 (j_hd y).toNat) (j_hd z)))) := by
  rw [ws_8, wa_24]
  have e : ∀ y : List Int, ((0 ≤ j_hd y ∧ j_hd y < j_len a_g3 (199 : Int).toNat)) = (0 ≤ j_hd y ∧ j_hd y < 4) := fun y => by rw [fl_199]
  show (wE (a_g3, g0) F b (182 :: en) h fun y h2 => (0 ≤ j_hd y ∧ j_hd y < j_len a_g3 (199 : Int).toNat) ∧ wE (a_g3, g0) F v (182 :: en) h2 fun z h3 => R 0 [] (182 :: en) (j_up h3 199 (j_hd y).toNat (j_iop op_w (h2 199 (j_hd y).toNat) (j_hd z)))) = _
  simp only [e]
theorem fr_26 : j_rf a_g3 (182 : Int).toNat 26 = some 200 := by decide +kernel
theorem fl_200 : j_len a_g3 (200 : Int).toNat = 6 := by decide +kernel
theorem wa_26 : wE (a_g3, g0) F (sx 5 (sx 3 z0 z0 z0) (sv 26) c) (182 :: en) h Q = Q [200] h := propext ⟨fun ⟨r, h1, h2⟩ => (Option.some.inj (fr_26.symm.trans h1)) ▸ h2, fun h1 => ⟨200, fr_26, h1⟩⟩
theorem wl_26 : wE (a_g3, g0) F (sx 7 (sx 5 (sx 3 z0 z0 z0) (sv 26) z0) b z0) (182 :: en) h Q = (wE (a_g3, g0) F b (182 :: en) h fun y h2 => (0 ≤ j_hd y ∧ j_hd y < 6) ∧ Q [h2 200 (j_hd y).toNat] h2) := by
  rw [we_7, wa_26]
  have e : ∀ y : List Int, ((0 ≤ j_hd y ∧ j_hd y < j_len a_g3 (200 : Int).toNat)) = (0 ≤ j_hd y ∧ j_hd y < 6) := fun y => by rw [fl_200]
  show (wE (a_g3, g0) F b (182 :: en) h fun y h2 => (0 : Nat) = 0 ∧ (0 ≤ j_hd y ∧ j_hd y < j_len a_g3 (200 : Int).toNat) ∧ Q [h2 200 (j_hd y).toNat] h2) = _
  simp only [e, true_and]
theorem wt_26 {ty_w : Nat} {v : SX} : wS (a_g3, g0) F K (sx 7 (sx 5 (sx 3 z0 z0 z0) (sv 26) z0) b (so ty_w v)) (182 :: en) h R = (wE (a_g3, g0) F b (182 :: en) h fun y h2 => wE (a_g3, g0) F v (182 :: en) h2 fun z h3 => (0 ≤ j_hd y ∧ j_hd y < 6) ∧ R 0 [] (182 :: en) (j_up h3 200 (j_hd y).toNat (w_ty ty_w (j_hd z)))) := by
  rw [ws_7, wa_26]
  have e : ∀ y : List Int, ((0 ≤ j_hd y ∧ j_hd y < j_len a_g3 (200 : Int).toNat)) = (0 ≤ j_hd y ∧ j_hd y < 6) := fun y => by rw [fl_200]
  show (wE (a_g3, g0) F b (182 :: en) h fun y h2 => wE (a_g3, g0) F v (182 :: en) h2 fun z h3 => (0 ≤ j_hd y ∧ j_hd y < j_len a_g3 (200 : Int).toNat) ∧ R 0 [] (182 :: en) (j_up h3 200 (j_hd y).toNat (w_ty ty_w (j_hd z)))) = _
  simp only [e]
theorem wu_26 {op_w : Nat} {v : SX} : wS (a_g3, g0) F K (sx 8 (sx 5 (sx 3 z0 z0 z0) (sv 26) z0) b (so op_w v)) (182 :: en) h R = (wE (a_g3, g0) F b (182 :: en) h fun y h2 => (0 ≤ j_hd y ∧ j_hd y < 6) ∧ wE (a_g3, g0) F v (182 :: en) h2 fun z h3 => R 0 [] (182 :: en) (j_up h3 200 (j_hd y).toNat (j_iop op_w (h2 200 (j_hd y).toNat) (j_hd z)))) := by
  rw [ws_8, wa_26]
  have e : ∀ y : List Int, ((0 ≤ j_hd y ∧ j_hd y < j_len a_g3 (200 : Int).toNat)) = (0 ≤ j_hd y ∧ j_hd y < 6) := fun y => by rw [fl_200]
  show (wE (a_g3, g0) F b (182 :: en) h fun y h2 => (0 ≤ j_hd y ∧ j_hd y < j_len a_g3 (200 : Int).toNat) ∧ wE (a_g3, g0) F v (182 :: en) h2 fun z h3 => R 0 [] (182 :: en) (j_up h3 200 (j_hd y).toNat (j_iop op_w (h2 200 (j_hd y).toNat) (j_hd z)))) = _
  simp only [e]
theorem fr_27 : j_rf a_g3 (182 : Int).toNat 27 = some 201 := by decide +kernel
theorem fl_201 : j_len a_g3 (201 : Int).toNat = 6 := by decide +kernel
theorem wa_27 : wE (a_g3, g0) F (sx 5 (sx 3 z0 z0 z0) (sv 27) c) (182 :: en) h Q = Q [201] h := propext ⟨fun ⟨r, h1, h2⟩ => (Option.some.inj (fr_27.symm.trans h1)) ▸ h2, fun h1 => ⟨201, fr_27, h1⟩⟩
theorem wl_27 : wE (a_g3, g0) F (sx 7 (sx 5 (sx 3 z0 z0 z0) (sv 27) z0) b z0) (182 :: en) h Q = (wE (a_g3, g0) F b (182 :: en) h fun y h2 => (0 ≤ j_hd y ∧ j_hd y < 6) ∧ Q [h2 201 (j_hd y).toNat] h2) := by
  rw [we_7, wa_27]
  have e : ∀ y : List Int, ((0 ≤ j_hd y ∧ j_hd y < j_len a_g3 (201 : Int).toNat)) = (0 ≤ j_hd y ∧ j_hd y < 6) := fun y => by rw [fl_201]
  show (wE (a_g3, g0) F b (182 :: en) h fun y h2 => (0 : Nat) = 0 ∧ (0 ≤ j_hd y ∧ j_hd y < j_len a_g3 (201 : Int).toNat) ∧ Q [h2 201 (j_hd y).toNat] h2) = _
  simp only [e, true_and]
theorem wt_27 {ty_w : Nat} {v : SX} : wS (a_g3, g0) F K (sx 7 (sx 5 (sx 3 z0 z0 z0) (sv 27) z0) b (so ty_w v)) (182 :: en) h R = (wE (a_g3, g0) F b (182 :: en) h fun y h2 => wE (a_g3, g0) F v (182 :: en) h2 fun z h3 => (0 ≤ j_hd y ∧ j_hd y < 6) ∧ R 0 [] (182 :: en) (j_up h3 201 (j_hd y).toNat (w_ty ty_w (j_hd z)))) := by
  rw [ws_7, wa_27]
  have e : ∀ y : List Int, ((0 ≤ j_hd y ∧ j_hd y < j_len a_g3 (201 : Int).toNat)) = (0 ≤ j_hd y ∧ j_hd y < 6) := fun y => by rw [fl_201]
  show (wE (a_g3, g0) F b (182 :: en) h fun y h2 => wE (a_g3, g0) F v (182 :: en) h2 fun z h3 => (0 ≤ j_hd y ∧ j_hd y < j_len a_g3 (201 : Int).toNat) ∧ R 0 [] (182 :: en) (j_up h3 201 (j_hd y).toNat (w_ty ty_w (j_hd z)))) = _
  simp only [e]
theorem wu_27 {op_w : Nat} {v : SX} : wS (a_g3, g0) F K (sx 8 (sx 5 (sx 3 z0 z0 z0) (sv 27) z0) b (so op_w v)) (182 :: en) h R = (wE (a_g3, g0) F b (182 :: en) h fun y h2 => (0 ≤ j_hd y ∧ j_hd y < 6) ∧ wE (a_g3, g0) F v (182 :: en) h2 fun z h3 => R 0 [] (182 :: en) (j_up h3 201 (j_hd y).toNat (j_iop op_w (h2 201 (j_hd y).toNat) (j_hd z)))) := by
  rw [ws_8, wa_27]
  have e : ∀ y : List Int, ((0 ≤ j_hd y ∧ j_hd y < j_len a_g3 (201 : Int).toNat)) = (0 ≤ j_hd y ∧ j_hd y < 6) := fun y => by rw [fl_201]
  show (wE (a_g3, g0) F b (182 :: en) h fun y h2 => (0 ≤ j_hd y ∧ j_hd y < j_len a_g3 (201 : Int).toNat) ∧ wE (a_g3, g0) F v (182 :: en) h2 fun z h3 => R 0 [] (182 :: en) (j_up h3 201 (j_hd y).toNat (j_iop op_w (h2 201 (j_hd y).toNat) (j_hd z)))) = _
  simp only [e]
theorem fr_28 : j_rf a_g3 (182 : Int).toNat 28 = some 202 := by decide +kernel
theorem fl_202 : j_len a_g3 (202 : Int).toNat = 6 := by decide +kernel
theorem wa_28 : wE (a_g3, g0) F (sx 5 (sx 3 z0 z0 z0) (sv 28) c) (182 :: en) h Q = Q [202] h := propext ⟨fun ⟨r, h1, h2⟩ => (Option.some.inj (fr_28.symm.trans h1)) ▸ h2, fun h1 => ⟨202, fr_28, h1⟩⟩
theorem wl_28 : wE (a_g3, g0) F (sx 7 (sx 5 (sx 3 z0 z0 z0) (sv 28) z0) b z0) (182 :: en) h Q = (wE (a_g3, g0) F b (182 :: en) h fun y h2 => (0 ≤ j_hd y ∧ j_hd y < 6) ∧ Q [h2 202 (j_hd y).toNat] h2) := by
  rw [we_7, wa_28]
  have e : ∀ y : List Int, ((0 ≤ j_hd y ∧ j_hd y < j_len a_g3 (202 : Int).toNat)) = (0 ≤ j_hd y ∧ j_hd y < 6) := fun y => by rw [fl_202]
  show (wE (a_g3, g0) F b (182 :: en) h fun y h2 => (0 : Nat) = 0 ∧ (0 ≤ j_hd y ∧ j_hd y < j_len a_g3 (202 : Int).toNat) ∧ Q [h2 202 (j_hd y).toNat] h2) = _
  simp only [e, true_and]
theorem wt_28 {ty_w : Nat} {v : SX} : wS (a_g3, g0) F K (sx 7 (sx 5 (sx 3 z0 z0 z0) (sv 28) z0) b (so ty_w v)) (182 :: en) h R = (wE (a_g3, g0) F b (182 :: en) h fun y h2 => wE (a_g3, g0) F v (182 :: en) h2 fun z h3 => (0 ≤ j_hd y ∧ j_hd y < 6) ∧ R 0 [] (182 :: en) (j_up h3 202 (j_hd y).toNat (w_ty ty_w (j_hd z)))) := by
  rw [ws_7, wa_28]
  have e : ∀ y : List Int, ((0 ≤ j_hd y ∧ j_hd y < j_len a_g3 (202 : Int).toNat)) = (0 ≤ j_hd y ∧ j_hd y < 6) := fun y => by rw [fl_202]
  show (wE (a_g3, g0) F b (182 :: en) h fun y h2 => wE (a_g3, g0) F v (182 :: en) h2 fun z h3 => (0 ≤ j_hd y ∧ j_hd y < j_len a_g3 (202 : Int).toNat) ∧ R 0 [] (182 :: en) (j_up h3 202 (j_hd y).toNat (w_ty ty_w (j_hd z)))) = _
  simp only [e]
theorem wu_28 {op_w : Nat} {v : SX} : wS (a_g3, g0) F K (sx 8 (sx 5 (sx 3 z0 z0 z0) (sv 28) z0) b (so op_w v)) (182 :: en) h R = (wE (a_g3, g0) F b (182 :: en) h fun y h2 => (0 ≤ j_hd y ∧ j_hd y < 6) ∧ wE (a_g3, g0) F v (182 :: en) h2 fun z h3 => R 0 [] (182 :: en) (j_up h3 202 (j_hd y).toNat (j_iop op_w (h2 202 (j_hd y).toNat) (j_hd z)))) := by
  rw [ws_8, wa_28]
  have e : ∀ y : List Int, ((0 ≤ j_hd y ∧ j_hd y < j_len a_g3 (202 : Int).toNat)) = (0 ≤ j_hd y ∧ j_hd y < 6) := fun y => by rw [fl_202]
  show (wE (a_g3, g0) F b (182 :: en) h fun y h2 => (0 ≤ j_hd y ∧ j_hd y < j_len a_g3 (202 : Int).toNat) ∧ wE (a_g3, g0) F v (182 :: en) h2 fun z h3 => R 0 [] (182 :: en) (j_up h3 202 (j_hd y).toNat (j_iop op_w (h2 202 (j_hd y).toNat) (j_hd z)))) = _
  simp only [e]
theorem w_lp (I : List Int → XH → Prop) (m : List Int → XH → Nat) (h0 : I en h) (hs : ∀ en h, I en h → m en h < K ∧ wC g F a en h (fun h1 => wS g F K b en h1 fun k vs en1 h2 => (k = 0 ∨ k = 3 → wS g F K c en1 h2 fun k' _ en2 h3 => k' = 0 ∧ I en2 h3 ∧ m en2 h3 < m en h) ∧ (k = 2 → R 0 [] en1 h2) ∧ (k ≠ 0 → k ≠ 2 → k ≠ 3 → R k vs en1 h2)) (fun h1 => R 0 [] en h1)) : wS g F K (sx 12 a b c) en h R := ⟨I, m, h0, hs⟩
theorem w_dp (I : List Int → XH → Prop) (m : List Int → XH → Nat) (h0 : I en h) (hs : ∀ en h, I en h → m en h < K ∧ wS g F K b en h fun k vs en1 h2 => (k = 0 ∨ k = 3 → wC g F a en1 h2 (fun h3 => I en1 h3 ∧ m en1 h3 < m en h) (fun h3 => R 0 [] en1 h3)) ∧ (k = 2 → R 0 [] en1 h2) ∧ (k ≠ 0 → k ≠ 2 → k ≠ 3 → R k vs en1 h2)) : wS g F K (sx 13 a b c) en h R := ⟨I, m, h0, hs⟩
end WEQ
theorem w_ty6 {v : Int} : w_ty 6 v = v := id rfl
theorem w_ty7 {v : Int} : w_ty 7 v = v := id rfl
section KC_w
variable {b c : SX}
theorem kc_0 : sx_c z0 b z0 = 0 := id rfl
theorem kc_1 : sx_c (sv 1) b z0 = 1 := id rfl
theorem kn_1 : sx_c (sv 1) b (sv 1) = -1 := id rfl
theorem kc_2 : sx_c (sv 2) b z0 = 2 := id rfl
theorem kn_2 : sx_c (sv 2) b (sv 1) = -2 := id rfl
theorem kc_3 : sx_c (sv 3) b z0 = 3 := id rfl
theorem kc_4 : sx_c (sv 4) b z0 = 4 := id rfl
theorem kc_5 : sx_c (sv 5) b z0 = 5 := id rfl
theorem kc_6 : sx_c (sv 6) b z0 = 6 := id rfl
theorem kc_7 : sx_c (sv 7) b z0 = 7 := id rfl
theorem kc_8 : sx_c (sv 8) b z0 = 8 := id rfl
theorem kc_9 : sx_c (sv 9) b z0 = 9 := id rfl
theorem kc_10 : sx_c (sv 10) b z0 = 10 := id rfl
theorem kc_12 : sx_c (sv 12) b z0 = 12 := id rfl
theorem kc_13 : sx_c (sv 13) b z0 = 13 := id rfl
theorem kc_14 : sx_c (sv 14) b z0 = 14 := id rfl
theorem kc_16 : sx_c (sv 16) b z0 = 16 := id rfl
theorem kc_17 : sx_c (sv 17) b z0 = 17 := id rfl
theorem kc_18 : sx_c (sv 18) b z0 = 18 := id rfl
theorem kc_19 : sx_c (sv 19) b z0 = 19 := id rfl
theorem kc_20 : sx_c (sv 20) b z0 = 20 := id rfl
theorem kc_21 : sx_c (sv 21) b z0 = 21 := id rfl
theorem kc_22 : sx_c (sv 22) b z0 = 22 := id rfl
theorem kc_24 : sx_c (sv 24) b z0 = 24 := id rfl
theorem kc_28 : sx_c (sv 28) b z0 = 28 := id rfl
theorem kc_30 : sx_c (sv 30) b z0 = 30 := id rfl
theorem kc_32 : sx_c (sv 32) b z0 = 32 := id rfl
theorem kc_37 : sx_c (sv 37) b z0 = 37 := id rfl
theorem kc_40 : sx_c (sv 40) b z0 = 40 := id rfl
theorem kc_41 : sx_c (sv 41) b z0 = 41 := id rfl
theorem kc_42 : sx_c (sv 42) b z0 = 42 := id rfl
theorem kc_43 : sx_c (sv 43) b z0 = 43 := id rfl
theorem kc_45 : sx_c (sv 45) b z0 = 45 := id rfl
theorem kc_48 : sx_c (sv 48) b z0 = 48 := id rfl
theorem kc_56 : sx_c (sv 56) b z0 = 56 := id rfl
theorem kc_57 : sx_c (sv 57) b z0 = 57 := id rfl
theorem kc_59 : sx_c (sv 59) b z0 = 59 := id rfl
theorem kc_60 : sx_c (sv 60) b z0 = 60 := id rfl
theorem kc_61 : sx_c (sv 61) b z0 = 61 := id rfl
theorem kc_64 : sx_c (sv 64) b z0 = 64 := id rfl
theorem kc_73 : sx_c (sv 73) b z0 = 73 := id rfl
theorem kc_78 : sx_c (sv 78) b z0 = 78 := id rfl
theorem kc_91 : sx_c (sv 91) b z0 = 91 := id rfl
theorem kc_95 : sx_c (sv 95) b z0 = 95 := id rfl
theorem kc_96 : sx_c (sv 96) b z0 = 96 := id rfl
theorem kc_97 : sx_c (sv 97) b z0 = 97 := id rfl
theorem kc_98 : sx_c (sv 98) b z0 = 98 := id rfl
theorem kc_99 : sx_c (sv 99) b z0 = 99 := id rfl
theorem kc_100 : sx_c (sv 100) b z0 = 100 := id rfl
theorem kc_112 : sx_c (sv 112) b z0 = 112 := id rfl
theorem kc_122 : sx_c (sv 122) b z0 = 122 := id rfl
theorem kc_125 : sx_c (sv 125) b z0 = 125 := id rfl
theorem kc_126 : sx_c (sv 126) b z0 = 126 := id rfl
theorem kc_150 : sx_c (sv 150) b z0 = 150 := id rfl
theorem kc_162 : sx_c (sv 162) b z0 = 162 := id rfl
theorem kc_163 : sx_c (sv 163) b z0 = 163 := id rfl
theorem kc_168 : sx_c (sv 168) b z0 = 168 := id rfl
theorem kc_186 : sx_c (sv 186) b z0 = 186 := id rfl
theorem kc_190 : sx_c (sv 190) b z0 = 190 := id rfl
theorem kc_200 : sx_c (sv 200) b z0 = 200 := id rfl
theorem kc_250 : sx_c (sv 250) b z0 = 250 := id rfl
theorem kc_255 : sx_c (sv 255) b z0 = 255 := id rfl
theorem kc_355 : sx_c (sv 355) b z0 = 355 := id rfl
theorem kc_356 : sx_c (sv 356) b z0 = 356 := id rfl
theorem kc_404 : sx_c (sv 404) b z0 = 404 := id rfl
theorem kc_405 : sx_c (sv 405) b z0 = 405 := id rfl
theorem kc_429 : sx_c (sv 429) b z0 = 429 := id rfl
theorem kc_573 : sx_c (sv 573) b z0 = 573 := id rfl
theorem kc_999 : sx_c (sv 999) b z0 = 999 := id rfl
theorem kc_1000 : sx_c (sv 1000) b z0 = 1000 := id rfl
theorem kc_1002 : sx_c (sv 1002) b z0 = 1002 := id rfl
theorem kc_1100 : sx_c (sv 1100) b z0 = 1100 := id rfl
theorem kc_1891 : sx_c (sv 1891) b z0 = 1891 := id rfl
theorem kc_2200 : sx_c (sv 2200) b z0 = 2200 := id rfl
theorem kc_4719 : sx_c (sv 4719) b z0 = 4719 := id rfl
theorem kc_4869 : sx_c (sv 4869) b z0 = 4869 := id rfl
theorem kc_4881 : sx_c (sv 4881) b z0 = 4881 := id rfl
theorem kc_5148 : sx_c (sv 5148) b z0 = 5148 := id rfl
theorem kc_9999 : sx_c (sv 9999) b z0 = 9999 := id rfl
theorem kn_9999 : sx_c (sv 9999) b (sv 1) = -9999 := id rfl
theorem kc_10000 : sx_c (sv 10000) b z0 = 10000 := id rfl
theorem kc_12345 : sx_c (sv 12345) b z0 = 12345 := id rfl
theorem kc_19741 : sx_c (sv 19741) b z0 = 19741 := id rfl
theorem kc_25433 : sx_c (sv 25433) b z0 = 25433 := id rfl
theorem kc_65536 : sx_c (sv 65536) b z0 = 65536 := id rfl
theorem kc_320403 : sx_c (sv 320403) b z0 = 320403 := id rfl
theorem kc_628412 : sx_c (sv 628412) b z0 = 628412 := id rfl
theorem kc_629093 : sx_c (sv 629093) b z0 = 629093 := id rfl
theorem kc_660401 : sx_c (sv 660401) b z0 = 660401 := id rfl
theorem kc_679843 : sx_c (sv 679843) b z0 = 679843 := id rfl
theorem kc_918640 : sx_c (sv 918640) b z0 = 918640 := id rfl
theorem kc_979410 : sx_c (sv 979410) b z0 = 979410 := id rfl
theorem kc_1178088 : sx_c (sv 1178088) b z0 = 1178088 := id rfl
theorem kc_6232410 : sx_c (sv 6232410) b z0 = 6232410 := id rfl
theorem kc_24644941 : sx_c (sv 24644941) b z0 = 24644941 := id rfl
theorem kc_36238189 : sx_c (sv 36238189) b z0 = 36238189 := id rfl
theorem kc_38270444 : sx_c (sv 38270444) b z0 = 38270444 := id rfl
theorem kc_392531318 : sx_c (sv 392531318) b z0 = 392531318 := id rfl
theorem kc_425693491 : sx_c (sv 425693491) b z0 = 425693491 := id rfl
theorem kc_1103515245 : sx_c (sv 1103515245) b z0 = 1103515245 := id rfl
theorem kc_1342154595 : sx_c (sv 1342154595) b z0 = 1342154595 := id rfl
theorem kc_2147483648 : sx_c (sv 2147483648) b z0 = 2147483648 := id rfl
theorem kc_42328242873 : sx_c (sv 42328242873) b z0 = 42328242873 := id rfl
theorem kc_891704255789 : sx_c (sv 891704255789) b z0 = 891704255789 := id rfl
theorem kc_1722105685577 : sx_c (sv 1722105685577) b z0 = 1722105685577 := id rfl
theorem kc_1858726030364 : sx_c (sv 1858726030364) b z0 = 1858726030364 := id rfl
end KC_w
theorem ct_0 {x y : Int} : (j_cmp 0 x y = true) = (x = y) := by
  unfold j_cmp
  simp only [decide_eq_true_eq]
theorem cf_0 {x y : Int} : (j_cmp 0 x y = false) = (x ≠ y) := by
  unfold j_cmp
  simp only [decide_eq_false_iff_not, eq_iff_iff]
  all_goals omega
theorem ct_1 {x y : Int} : (j_cmp 1 x y = true) = (x ≠ y) := by
  unfold j_cmp
  simp only [decide_eq_true_eq]
theorem cf_1 {x y : Int} : (j_cmp 1 x y = false) = (x = y) := by
  unfold j_cmp
  simp only [decide_eq_false_iff_not, eq_iff_iff]
  all_goals omega
theorem ct_2 {x y : Int} : (j_cmp 2 x y = true) = (x < y) := by
  unfold j_cmp
  simp only [decide_eq_true_eq]
theorem cf_2 {x y : Int} : (j_cmp 2 x y = false) = (y ≤ x) := by
  unfold j_cmp
  simp only [decide_eq_false_iff_not, eq_iff_iff]
  all_goals omega
theorem ct_3 {x y : Int} : (j_cmp 3 x y = true) = (x ≥ y) := by
  unfold j_cmp
  simp only [decide_eq_true_eq]
theorem cf_3 {x y : Int} : (j_cmp 3 x y = false) = (x < y) := by
  unfold j_cmp
  simp only [decide_eq_false_iff_not, eq_iff_iff]
  all_goals omega
theorem ct_4 {x y : Int} : (j_cmp 4 x y = true) = (x > y) := by
  unfold j_cmp
  simp only [decide_eq_true_eq]
theorem cf_4 {x y : Int} : (j_cmp 4 x y = false) = (x ≤ y) := by
  unfold j_cmp
  simp only [decide_eq_false_iff_not, eq_iff_iff]
  all_goals omega
theorem ct_5 {x y : Int} : (j_cmp 5 x y = true) = (x ≤ y) := by
  unfold j_cmp
  simp only [decide_eq_true_eq]
theorem cf_5 {x y : Int} : (j_cmp 5 x y = false) = (y < x) := by
  unfold j_cmp
  simp only [decide_eq_false_iff_not, eq_iff_iff]
  all_goals omega
theorem jadd {x y : Int} (h1 : -2147483648 ≤ x + y) (h2 : x + y < 2147483648) : j_iop 0 x y = x + y := j32_in ⟨h1, h2⟩
theorem jsub {x y : Int} (h1 : -2147483648 ≤ x - y) (h2 : x - y < 2147483648) : j_iop 1 x y = x - y := j32_in ⟨h1, h2⟩
theorem jmul {x y : Int} (h1 : -2147483648 ≤ x * y) (h2 : x * y < 2147483648) : j_iop 2 x y = x * y := j32_in ⟨h1, h2⟩
theorem jinc {x : Int} (h1 : -2147483648 ≤ x + 1) (h2 : x + 1 < 2147483648) : j32 (x + 1) = x + 1 := j32_in ⟨h1, h2⟩
theorem jdec {x : Int} (h1 : -2147483648 ≤ x - 1) (h2 : x - 1 < 2147483648) : j32 (x + -1) = x - 1 := j32_in ⟨h1, h2⟩
theorem m_sv {n : Nat} : sx_n (sv n) = n := id rfl
theorem m_z0 : sx_n z0 = 0 := id rfl
theorem m_hd {x : Int} {l : List Int} : j_hd (x :: l) = x := id rfl
theorem m_g0 {x d : Int} {l : List Int} : (x :: l).getD 0 d = x := id rfl
theorem m_gs {x d : Int} {n : Nat} {l : List Int} : (x :: l).getD (n + 1) d = l.getD n d := id rfl
theorem m_s0 {x y : Int} {l : List Int} : (x :: l).set 0 y = y :: l := id rfl
theorem m_ss {x y : Int} {n : Nat} {l : List Int} : (x :: l).set (n + 1) y = x :: l.set n y := id rfl
theorem m_ap {x : Int} {l k : List Int} : (x :: l) ++ k = x :: (l ++ k) := id rfl
theorem m_an {l : List Int} : [] ++ l = l := id rfl
theorem m_it {a b : Int} : (if True then a else b) = a := id rfl
theorem m_if {a b : Int} : (if False then a else b) = b := id rfl
theorem m_c1 : ((1 : Nat) : Int) = 1 := id rfl
theorem m_01 : ((0 : Nat) = 1) = False := propext ⟨by decide, False.elim⟩
theorem m_02 : ((0 : Nat) = 2) = False := propext ⟨by decide, False.elim⟩
theorem m_03 : ((0 : Nat) = 3) = False := propext ⟨by decide, False.elim⟩
theorem m_04 : ((0 : Nat) = 4) = False := propext ⟨by decide, False.elim⟩
theorem m_10 : ((1 : Nat) = 0) = False := propext ⟨by decide, False.elim⟩
theorem m_12 : ((1 : Nat) = 2) = False := propext ⟨by decide, False.elim⟩
theorem m_13 : ((1 : Nat) = 3) = False := propext ⟨by decide, False.elim⟩
theorem m_14 : ((1 : Nat) = 4) = False := propext ⟨by decide, False.elim⟩
theorem m_20 : ((2 : Nat) = 0) = False := propext ⟨by decide, False.elim⟩
theorem m_21 : ((2 : Nat) = 1) = False := propext ⟨by decide, False.elim⟩
theorem m_23 : ((2 : Nat) = 3) = False := propext ⟨by decide, False.elim⟩
theorem m_24 : ((2 : Nat) = 4) = False := propext ⟨by decide, False.elim⟩
theorem m_30 : ((3 : Nat) = 0) = False := propext ⟨by decide, False.elim⟩
theorem m_31 : ((3 : Nat) = 1) = False := propext ⟨by decide, False.elim⟩
theorem m_32 : ((3 : Nat) = 2) = False := propext ⟨by decide, False.elim⟩
theorem m_34 : ((3 : Nat) = 4) = False := propext ⟨by decide, False.elim⟩
theorem m_40 : ((4 : Nat) = 0) = False := propext ⟨by decide, False.elim⟩
theorem m_41 : ((4 : Nat) = 1) = False := propext ⟨by decide, False.elim⟩
theorem m_42 : ((4 : Nat) = 2) = False := propext ⟨by decide, False.elim⟩
theorem m_43 : ((4 : Nat) = 3) = False := propext ⟨by decide, False.elim⟩
theorem gm_186 : g_M 186 = (0, 1, [1], [1], bb_186) := rfl
theorem gm_187 : g_M 187 = (0, 1, [1], [1], bb_187) := rfl
theorem gm_188 : g_M 188 = (0, 1, [1], [1], bb_188) := rfl
theorem gm_189 : g_M 189 = (0, 1, [1], [1], bb_189) := rfl
theorem gm_190 : g_M 190 = (0, 7, [20], [], bb_190) := rfl
theorem gm_191 : g_M 191 = (0, 2, [20, 1], [], bb_191) := rfl
theorem gm_192 : g_M 192 = (0, 2, [20, 1], [1], bb_192) := rfl
theorem gm_193 : g_M 193 = (0, 2, [20, 1], [1], bb_193) := rfl
theorem gm_194 : g_M 194 = (0, 2, [20, 1], [], bb_194) := rfl
theorem gm_195 : g_M 195 = (0, 3, [20, 1], [1], bb_195) := rfl
theorem gm_196 : g_M 196 = (0, 3, [20, 1], [1], bb_196) := rfl
theorem gm_197 : g_M 197 = (0, 2, [20, 1], [], bb_197) := rfl
theorem gm_199 : g_M 199 = (0, 3, [20, 1], [], bb_199) := rfl
theorem gm_200 : g_M 200 = (0, 3, [20, 1, 1], [1], bb_200) := rfl
theorem gm_201 : g_M 201 = (0, 5, [20, 1, 1], [1], bb_201) := rfl
theorem gm_202 : g_M 202 = (0, 4, [20, 1, 1], [1], bb_202) := rfl
theorem gm_203 : g_M 203 = (0, 1, [20], [1], bb_203) := rfl
theorem gm_204 : g_M 204 = (0, 5, [20, 1, 1], [1], bb_204) := rfl
theorem gm_205 : g_M 205 = (0, 4, [20, 1, 1], [1], bb_205) := rfl
theorem gm_206 : g_M 206 = (0, 2, [20], [1], bb_206) := rfl
theorem gm_207 : g_M 207 = (0, 2, [20, 1], [1], bb_207) := rfl
theorem gm_208 : g_M 208 = (0, 4, [20, 1, 1, 1], [], bb_208) := rfl
theorem gm_209 : g_M 209 = (0, 2, [20, 1], [1], bb_209) := rfl
theorem gm_210 : g_M 210 = (0, 1, [20], [], bb_210) := rfl
theorem gm_211 : g_M 211 = (0, 5, [20, 1, 1], [1], bb_211) := rfl
theorem gm_212 : g_M 212 = (0, 5, [20], [], bb_212) := rfl
theorem gm_213 : g_M 213 = (0, 6, [20], [], bb_213) := rfl
theorem gm_214 : g_M 214 = (0, 3, [20], [1], bb_214) := rfl
theorem gm_215 : g_M 215 = (0, 4, [20, 1, 1], [], bb_215) := rfl
theorem gm_216 : g_M 216 = (0, 3, [20, 1, 1], [], bb_216) := rfl
theorem gm_217 : g_M 217 = (0, 3, [20, 1], [], bb_217) := rfl
theorem gm_218 : g_M 218 = (0, 3, [20, 1], [], bb_218) := rfl
theorem gm_219 : g_M 219 = (0, 3, [20, 1], [], bb_219) := rfl
theorem gm_220 : g_M 220 = (0, 2, [20, 1], [], bb_220) := rfl
theorem gm_221 : g_M 221 = (0, 4, [20, 1], [], bb_221) := rfl
theorem gm_222 : g_M 222 = (0, 5, [20, 1], [1], bb_222) := rfl
theorem gm_224 : g_M 224 = (0, 5, [20, 1, 1, 1], [], bb_224) := rfl
theorem gm_225 : g_M 225 = (0, 1, [20], [1], bb_225) := rfl
theorem gm_228 : g_M 228 = (0, 1, [20], [1], bb_228) := rfl
theorem gm_230 : g_M 230 = (0, 2, [20, 1], [1], bb_230) := rfl
theorem gm_232 : g_M 232 = (0, 4, [20, 1, 1], [1], bb_232) := rfl
theorem gm_240 : g_M 240 = (0, 4, [20, 1], [], bb_240) := rfl
theorem gm_241 : g_M 241 = (0, 1, [20], [], bb_241) := rfl
theorem gm_242 : g_M 242 = (0, 2, [20], [], bb_242) := rfl
theorem gm_244 : g_M 244 = (0, 5, [20, 1, 1, 1], [1], bb_244) := rfl
theorem gm_245 : g_M 245 = (0, 5, [20, 1, 1, 1], [1], bb_245) := rfl
theorem gm_247 : g_M 247 = (0, 8, [20, 1, 1, 1, 1], [1], bb_247) := rfl
theorem gm_248 : g_M 248 = (0, 8, [20, 1, 1, 1, 1, 1], [1], bb_248) := rfl
theorem gm_249 : g_M 249 = (0, 6, [20, 1, 1, 1], [1], bb_249) := rfl
theorem gm_251 : g_M 251 = (0, 11, [20, 1, 1], [], bb_251) := rfl
theorem gm_253 : g_M 253 = (0, 4, [20, 1, 1], [1], bb_253) := rfl
theorem gm_269 : g_M 269 = (0, 9, [20, 1, 1, 1, 1], [], bb_269) := rfl
theorem gm_270 : g_M 270 = (0, 5, [20, 1], [], bb_270) := rfl
theorem gm_271 : g_M 271 = (0, 1, [20], [1], bb_271) := rfl
theorem gm_272 : g_M 272 = (0, 1, [20], [1], bb_272) := rfl
theorem gm_273 : g_M 273 = (0, 5, [20, 1], [1], bb_273) := rfl
theorem gm_284 : g_M 284 = (0, 5, [20, 1, 1], [1], bb_284) := rfl
theorem gm_304 : g_M 304 = (0, 5, [20, 1, 1, 1], [1], bb_304) := rfl
theorem gm_305 : g_M 305 = (0, 6, [20], [1], bb_305) := rfl
theorem gm_309 : g_M 309 = (0, 2, [20, 1], [1], bb_309) := rfl
theorem gm_310 : g_M 310 = (0, 7, [20, 1, 1, 1], [1], bb_310) := rfl
theorem gm_311 : g_M 311 = (0, 3, [20, 1, 1], [1], bb_311) := rfl
theorem rp_223 : qP (r_T 0) 223 = [(1, (-2147483648), 2147483647), (1, (-2147483648), 2147483647), (1, (-2147483648), 2147483647)] := rfl
theorem rr_223 : qR (r_T 0) 223 = [(1, (-2147483648), 2147483647)] := rfl
theorem rp_224 : qP (r_T 0) 224 = [(4, 182, 182), (3, 0, 0), (3, 0, 0), (1, 0, 429)] := rfl
theorem rr_224 : qR (r_T 0) 224 = [] := rfl
theorem rp_225 : qP (r_T 0) 225 = [(4, 182, 182)] := rfl
theorem rr_225 : qR (r_T 0) 225 = [(1, 0, 12)] := rfl
theorem rp_227 : qP (r_T 0) 227 = [(4, 182, 182)] := rfl
theorem rr_227 : qR (r_T 0) 227 = [(1, 0, 4)] := rfl
theorem rp_228 : qP (r_T 0) 228 = [(4, 182, 182)] := rfl
theorem rr_228 : qR (r_T 0) 228 = [(7, 0, 0)] := rfl
theorem rp_229 : qP (r_T 0) 229 = [(4, 182, 182), (5, 0, 0)] := rfl
theorem rr_229 : qR (r_T 0) 229 = [(1, 0, 3)] := rfl
theorem rp_230 : qP (r_T 0) 230 = [(4, 182, 182), (5, 0, 0)] := rfl
theorem rr_230 : qR (r_T 0) 230 = [(6, 0, 0)] := rfl
theorem ru_230 : qU (r_T 0) 230 = [(4, 182, 182), (5, 0, 0)] := rfl
theorem rp_231 : qP (r_T 0) 231 = [(4, 182, 182), (6, 0, 0)] := rfl
theorem rr_231 : qR (r_T 0) 231 = [(1, 0, 999)] := rfl
theorem rp_232 : qP (r_T 0) 232 = [(4, 182, 182), (6, 0, 0), (1, 0, 12)] := rfl
theorem rr_232 : qR (r_T 0) 232 = [(1, 0, 99)] := rfl
theorem ru_232 : qU (r_T 0) 232 = [(4, 182, 182), (6, 0, 0), (1, 0, 12)] := rfl
theorem rp_233 : qP (r_T 0) 233 = [(4, 182, 182), (5, 0, 0)] := rfl
theorem rr_233 : qR (r_T 0) 233 = [(1, (-1), 12)] := rfl
theorem rp_234 : qP (r_T 0) 234 = [(4, 182, 182), (5, 0, 0)] := rfl
theorem rr_234 : qR (r_T 0) 234 = [(1, 0, 9999)] := rfl
theorem rp_236 : qP (r_T 0) 236 = [(4, 182, 182), (1, (-2147483648), 2147483647)] := rfl
theorem rr_236 : qR (r_T 0) 236 = [(1, 0, 1)] := rfl
theorem ru_236 : qU (r_T 0) 236 = [(4, 182, 182), (1, 0, 11)] := rfl
theorem rp_239 : qP (r_T 0) 239 = [(4, 182, 182), (1, (-2147483648), 2147483647), (1, (-2147483648), 2147483647)] := rfl
theorem rr_239 : qR (r_T 0) 239 = [(1, 0, 1)] := rfl
theorem ru_239 : qU (r_T 0) 239 = [(4, 182, 182), (5, 0, 0), (1, 0, 12)] := rfl
theorem rp_240 : qP (r_T 0) 240 = [(4, 182, 182), (3, 0, 0)] := rfl
theorem rr_240 : qR (r_T 0) 240 = [] := rfl
theorem ru_240 : qU (r_T 0) 240 = [(4, 182, 182), (3, 0, 0)] := rfl
theorem rp_242 : qP (r_T 0) 242 = [(4, 182, 182)] := rfl
theorem rr_242 : qR (r_T 0) 242 = [] := rfl
theorem rp_243 : qP (r_T 0) 243 = [(4, 182, 182), (3, 0, 0), (5, 0, 0), (1, 0, 12)] := rfl
theorem rr_243 : qR (r_T 0) 243 = [(1, (-1), 9999)] := rfl
theorem rp_244 : qP (r_T 0) 244 = [(4, 182, 182), (3, 0, 0), (5, 0, 0), (1, (-1), 12)] := rfl
theorem rr_244 : qR (r_T 0) 244 = [(1, (-1), 12)] := rfl
theorem ru_244 : qU (r_T 0) 244 = [(4, 182, 182), (3, 0, 0), (5, 0, 0), (1, (-1), 12)] := rfl
theorem rp_245 : qP (r_T 0) 245 = [(4, 182, 182), (3, 0, 0), (5, 0, 0), (1, 0, 12)] := rfl
theorem rr_245 : qR (r_T 0) 245 = [(1, (-1), 12)] := rfl
theorem ru_245 : qU (r_T 0) 245 = [(4, 182, 182), (3, 0, 0), (5, 0, 0), (1, 0, 12)] := rfl
theorem rp_246 : qP (r_T 0) 246 = [(1, (-2147483648), 2147483647), (1, (-2147483648), 2147483647), (1, 1, 2147483647)] := rfl
theorem rr_246 : qR (r_T 0) 246 = [(1, (-2147483648), 2147483647)] := rfl
theorem rp_247 : qP (r_T 0) 247 = [(4, 182, 182), (6, 0, 0), (1, 0, 12), (1, 0, 13), (1, 0, 12)] := rfl
theorem rr_247 : qR (r_T 0) 247 = [(1, (-2147483648), 2147483647)] := rfl
theorem ru_247 : qU (r_T 0) 247 = [(4, 182, 182), (6, 0, 0), (1, 0, 12), (1, 0, 13), (1, 0, 12)] := rfl
theorem rp_249 : qP (r_T 0) 249 = [(4, 182, 182), (3, 0, 0), (5, 0, 0), (1, 0, 11)] := rfl
theorem rr_249 : qR (r_T 0) 249 = [(1, (-2147483648), 2147483647)] := rfl
theorem ru_249 : qU (r_T 0) 249 = [(4, 182, 182), (3, 0, 0), (5, 0, 0), (1, 0, 11)] := rfl
theorem rp_251 : qP (r_T 0) 251 = [(4, 182, 182), (1, (-2147483648), 2147483647), (1, 0, 6)] := rfl
theorem rr_251 : qR (r_T 0) 251 = [] := rfl
theorem ru_251 : qU (r_T 0) 251 = [(4, 182, 182), (1, (-2147483648), 2147483647), (1, 0, 6)] := rfl
theorem rp_252 : qP (r_T 0) 252 = [(4, 182, 182), (1, (-2147483648), 2147483647)] := rfl
theorem rr_252 : qR (r_T 0) 252 = [(1, (-2147483648), 2147483647)] := rfl
theorem rp_253 : qP (r_T 0) 253 = [(4, 182, 182), (6, 0, 0), (1, 0, 11)] := rfl
theorem rr_253 : qR (r_T 0) 253 = [(1, (-2147483648), 2147483647)] := rfl
theorem ru_253 : qU (r_T 0) 253 = [(4, 182, 182), (6, 0, 0), (1, 0, 11)] := rfl
theorem rp_254 : qP (r_T 0) 254 = [(4, 182, 182), (3, 0, 0), (1, 0, 11)] := rfl
theorem rr_254 : qR (r_T 0) 254 = [] := rfl
theorem rp_256 : qP (r_T 0) 256 = [(4, 182, 182), (3, 0, 0), (5, 0, 0), (1, 0, 11)] := rfl
theorem rr_256 : qR (r_T 0) 256 = [(1, 0, 3)] := rfl
theorem rp_257 : qP (r_T 0) 257 = [(4, 182, 182), (3, 0, 0), (1, (-2147483648), 2147483647), (1, 0, 11)] := rfl
theorem rr_257 : qR (r_T 0) 257 = [(1, (-2147483648), 2147483647)] := rfl
theorem rp_259 : qP (r_T 0) 259 = [(4, 182, 182), (3, 0, 0)] := rfl
theorem rr_259 : qR (r_T 0) 259 = [(1, (-2147483648), 2147483647)] := rfl
theorem rp_261 : qP (r_T 0) 261 = [(4, 182, 182), (1, (-2147483648), 2147483647), (1, (-2147483648), 2147483647)] := rfl
theorem rp_262 : qP (r_T 0) 262 = [(4, 182, 182), (1, (-2147483648), 2147483647), (1, (-2147483648), 2147483647)] := rfl
theorem rp_263 : qP (r_T 0) 263 = [(4, 182, 182), (1, (-2147483648), 2147483647), (1, (-2147483648), 2147483647)] := rfl
theorem rp_264 : qP (r_T 0) 264 = [(4, 182, 182), (3, 0, 0), (5, 0, 0), (1, 0, 12), (1, (-1), 9999)] := rfl
theorem rr_264 : qR (r_T 0) 264 = [] := rfl
theorem rp_265 : qP (r_T 0) 265 = [(4, 182, 182), (1, (-2147483648), 2147483647), (1, (-2147483648), 2147483647), (1, (-2147483648), 2147483647)] := rfl
theorem rp_266 : qP (r_T 0) 266 = [(4, 182, 182), (3, 0, 0), (5, 0, 0), (1, 0, 3), (1, 0, 12)] := rfl
theorem rr_266 : qR (r_T 0) 266 = [] := rfl
theorem rp_267 : qP (r_T 0) 267 = [(4, 182, 182), (1, (-2147483648), 2147483647), (1, (-2147483648), 2147483647), (1, (-2147483648), 2147483647)] := rfl
theorem rp_268 : qP (r_T 0) 268 = [(4, 182, 182), (1, (-2147483648), 2147483647), (1, (-2147483648), 2147483647)] := rfl
theorem rp_271 : qP (r_T 0) 271 = [(4, 182, 182)] := rfl
theorem rr_271 : qR (r_T 0) 271 = [(1, (-2147483648), 2147483647)] := rfl
theorem ru_271 : qU (r_T 0) 271 = [(4, 182, 182)] := rfl
theorem rp_272 : qP (r_T 0) 272 = [(4, 182, 182)] := rfl
theorem rr_272 : qR (r_T 0) 272 = [(1, 0, 1)] := rfl
theorem ru_272 : qU (r_T 0) 272 = [(4, 182, 182)] := rfl
theorem rp_273 : qP (r_T 0) 273 = [(4, 182, 182), (1, (-2147483648), 2147483647)] := rfl
theorem rr_273 : qR (r_T 0) 273 = [(1, (-2147483648), 2147483647)] := rfl
theorem ru_273 : qU (r_T 0) 273 = [(4, 182, 182), (1, (-2147483648), 2147483647)] := rfl
theorem rp_275 : qP (r_T 0) 275 = [(4, 182, 182), (1, (-2147483648), 2147483647), (1, (-2147483648), 2147483647)] := rfl
theorem rp_276 : qP (r_T 0) 276 = [(4, 182, 182), (1, (-2147483648), 2147483647), (1, (-2147483648), 2147483647)] := rfl
theorem rp_277 : qP (r_T 0) 277 = [(4, 182, 182), (1, (-2147483648), 2147483647), (1, (-2147483648), 2147483647)] := rfl
theorem rp_278 : qP (r_T 0) 278 = [(4, 182, 182), (1, (-2147483648), 2147483647)] := rfl
theorem rp_279 : qP (r_T 0) 279 = [(4, 182, 182), (1, (-2147483648), 2147483647), (1, (-2147483648), 2147483647)] := rfl
theorem rp_280 : qP (r_T 0) 280 = [(4, 182, 182), (1, (-2147483648), 2147483647), (1, (-2147483648), 2147483647)] := rfl
theorem rp_281 : qP (r_T 0) 281 = [(4, 182, 182), (1, (-2147483648), 2147483647), (1, (-2147483648), 2147483647)] := rfl
theorem rp_282 : qP (r_T 0) 282 = [(4, 182, 182), (1, (-2147483648), 2147483647)] := rfl
theorem rp_283 : qP (r_T 0) 283 = [(4, 182, 182), (1, (-2147483648), 2147483647)] := rfl
theorem rp_284 : qP (r_T 0) 284 = [(4, 182, 182), (1, (-2147483648), 2147483647), (1, (-2147483648), 2147483647)] := rfl
theorem rr_284 : qR (r_T 0) 284 = [(1, (-2147483648), 2147483647)] := rfl
theorem ru_284 : qU (r_T 0) 284 = [(4, 182, 182), (1, (-2147483648), 2147483647), (1, (-2147483648), 2147483647)] := rfl
theorem rp_285 : qP (r_T 0) 285 = [(4, 182, 182), (3, 0, 0), (1, 0, 11)] := rfl
theorem rr_285 : qR (r_T 0) 285 = [(1, (-2147483648), 2147483647)] := rfl
theorem rp_286 : qP (r_T 0) 286 = [(4, 182, 182), (1, (-2147483648), 2147483647)] := rfl
theorem rp_287 : qP (r_T 0) 287 = [(4, 182, 182), (3, 0, 0)] := rfl
theorem rr_287 : qR (r_T 0) 287 = [(1, (-2147483648), 2147483647)] := rfl
theorem rp_288 : qP (r_T 0) 288 = [(4, 182, 182)] := rfl
theorem rp_289 : qP (r_T 0) 289 = [(4, 182, 182)] := rfl
theorem rp_292 : qP (r_T 0) 292 = [(4, 182, 182), (1, (-2147483648), 2147483647), (1, (-2147483648), 2147483647), (1, (-2147483648), 2147483647)] := rfl
theorem rp_293 : qP (r_T 0) 293 = [(4, 182, 182), (1, (-2147483648), 2147483647), (1, (-2147483648), 2147483647), (1, (-2147483648), 2147483647)] := rfl
theorem rp_294 : qP (r_T 0) 294 = [(4, 182, 182), (1, (-2147483648), 2147483647)] := rfl
theorem rp_295 : qP (r_T 0) 295 = [(4, 182, 182)] := rfl
theorem rp_296 : qP (r_T 0) 296 = [(4, 182, 182), (1, (-2147483648), 2147483647), (1, (-2147483648), 2147483647)] := rfl
theorem rp_297 : qP (r_T 0) 297 = [(4, 182, 182), (1, (-2147483648), 2147483647), (1, (-2147483648), 2147483647)] := rfl
theorem rp_298 : qP (r_T 0) 298 = [(4, 182, 182)] := rfl
theorem rr_298 : qR (r_T 0) 298 = [] := rfl
theorem rp_299 : qP (r_T 0) 299 = [(4, 182, 182), (1, (-2147483648), 2147483647), (1, (-2147483648), 2147483647), (1, (-2147483648), 2147483647), (1, (-2147483648), 2147483647)] := rfl
theorem rp_300 : qP (r_T 0) 300 = [(4, 182, 182), (1, (-2147483648), 2147483647), (1, (-2147483648), 2147483647)] := rfl
theorem rp_302 : qP (r_T 0) 302 = [(4, 182, 182), (1, (-2147483648), 2147483647)] := rfl
theorem rp_303 : qP (r_T 0) 303 = [(4, 182, 182)] := rfl
theorem rp_304 : qP (r_T 0) 304 = [(4, 182, 182), (1, (-2147483648), 2147483647), (1, (-2147483648), 2147483647), (1, 0, 1)] := rfl
theorem rr_304 : qR (r_T 0) 304 = [(1, 0, 1)] := rfl
theorem ru_304 : qU (r_T 0) 304 = [(4, 182, 182), (1, (-2147483648), 2147483647), (1, (-2147483648), 2147483647), (1, 0, 1)] := rfl
theorem rp_305 : qP (r_T 0) 305 = [(4, 182, 182)] := rfl
theorem rr_305 : qR (r_T 0) 305 = [(1, (-2147483648), 2147483647)] := rfl
theorem ru_305 : qU (r_T 0) 305 = [(4, 182, 182)] := rfl
theorem rp_306 : qP (r_T 0) 306 = [(4, 182, 182)] := rfl
theorem rp_307 : qP (r_T 0) 307 = [(4, 182, 182)] := rfl
theorem rp_309 : qP (r_T 0) 309 = [(4, 182, 182), (1, 1, 200)] := rfl
theorem rr_309 : qR (r_T 0) 309 = [(1, 0, 199)] := rfl
theorem ru_309 : qU (r_T 0) 309 = [(4, 182, 182), (1, 1, 200)] := rfl
theorem rp_310 : qP (r_T 0) 310 = [(4, 182, 182), (1, (-2147483648), 2147483647), (1, (-2147483648), 2147483647), (1, (-2147483648), 2147483647)] := rfl
theorem rr_310 : qR (r_T 0) 310 = [(1, (-2147483648), 2147483647)] := rfl
theorem ru_310 : qU (r_T 0) 310 = [(4, 182, 182), (1, (-2147483648), 2147483647), (1, (-2147483648), 2147483647), (1, (-2147483648), 2147483647)] := rfl
theorem rp_311 : qP (r_T 0) 311 = [(4, 182, 182), (1, (-2147483648), 2147483647), (1, 0, 1)] := rfl
theorem rr_311 : qR (r_T 0) 311 = [(1, 0, 1)] := rfl
theorem ru_311 : qU (r_T 0) 311 = [(4, 182, 182), (1, (-2147483648), 2147483647), (1, 0, 1)] := rfl
theorem rp_313 : qP (r_T 0) 313 = [(4, 182, 182), (1, (-2147483648), 2147483647)] := rfl
end
section
/-! ===== what the reference's told_w rows hold: grid, law_w, work ===== -/
/-- a law's codes_w, from a height of the pile to another one -/
def htO (t : Nat) : List Int → Option Nat
  | [] => some t
  | x :: l => if x % 16 = 1 ∧ 0 ≤ x then (if t < 63 then htO (t + 1) l else none)
    else if x % 16 = 2 ∧ 0 ≤ x ∧ x < 64 then (if t < 63 then htO (t + 1) l else none)
    else if x % 16 = 3 ∧ 0 ≤ x then (if 1 ≤ t then htO t l else none)
    else if 4 ≤ x % 16 ∧ 0 ≤ x then (if 2 ≤ t then htO (t - 1) l else none)
    else none
/-- codes_w that lie from a place_w on_w -/
def Seg (f : Nat → Int) (at0_w : Nat) (l : List Int) : Prop := ∀ k : Nat, k < l.length → f (at0_w + k) = l.getD k 0
def CodeOK (f : Nat → Int) (at0_w : Nat) : Prop := ∃ l : List Int, Seg f at0_w l ∧ f (at0_w + l.length) = 0 ∧ at0_w + l.length < 1100 ∧ htO 0 l = some 1
/-- the grid that lies from o on_w, with so many_w classes and meters -/
def GridOK (f : Nat → Int) (o : Nat) (nM nC : Int) : Prop := (∀ m : Nat, (m : Int) < nM → 0 ≤ f (o + (74 + 3 * m)) ∧ f (o + (74 + 3 * m)) < nC) ∧ (∀ c : Nat, (c : Int) < nC → 1 ≤ f (o + (18 + 14 * c)) ∧ f (o + (18 + 14 * c)) ≤ 12)
def LineOK (P : Int × Int) (k a b c : Int) : Prop := (k = 0 → 0 ≤ a ∧ a < P.1 ∧ 0 ≤ b ∧ b ≤ 12 ∧ 0 ≤ c ∧ c ≤ 9999) ∧ (k = 1 → 0 ≤ a ∧ a < P.1 ∧ 0 ≤ b ∧ b ≤ 3 ∧ 0 ≤ c ∧ c ≤ 11) ∧ (k = 2 → 0 ≤ a ∧ a ≤ 11 ∧ 0 ≤ b ∧ b ≤ 9999)
def WorkOK (P : Int × Int) (f : Nat → Int) : Prop := ∀ n : Nat, (n : Int) < f 0 → LineOK P (f (1 + 4 * n)) (f (2 + 4 * n)) (f (3 + 4 * n)) (f (4 + 4 * n))
def RJ (P : Int × Int) (h : XH) : Prop := GridOK (h 188) 0 P.1 P.2 ∧ (0 ≤ h 188 4 → CodeOK (h 189) (h 188 4).toNat) ∧ WorkOK P (h 191)
theorem rj_js {P : Int × Int} : JS (r_T 0) (RJ P) := fun h h' hk hj => by
  have e1_w : h' 188 = h 188 := funext fun k => hk 188 k rfl
  have e2_w : h' 189 = h 189 := funext fun k => hk 189 k rfl
  have e3_w : h' 191 = h 191 := funext fun k => hk 191 k rfl
  unfold RJ at hj ⊢
  rw [e1_w, e2_w, e3_w]
  exact hj
section RJS
variable {P : Int × Int} {T : QT} {J : XH → Prop} {h : XH} {g : Nat × Nat} {xs : Nat → Int} {L K : Nat} {ck : Nat → List Nat} {cW : Nat → Nat → Int}
theorem il1 {a : IT} {v : List Int} (hv : IL P [a] v) : ∃ x, v = [x] ∧ IV P a x := IL.one hv
theorem il2 {a b : IT} {v : List Int} (hv : IL P [a, b] v) : ∃ x y, v = [x, y] ∧ IV P a x ∧ IV P b y := by
  match v, hv with
  | [x, y], hv => exact ⟨x, y, rfl, hv.1, hv.2.1⟩
theorem il3 {a b c : IT} {v : List Int} (hv : IL P [a, b, c] v) : ∃ x y z, v = [x, y, z] ∧ IV P a x ∧ IV P b y ∧ IV P c z := by
  match v, hv with
  | [x, y, z], hv => exact ⟨x, y, z, rfl, hv.1, hv.2.1, hv.2.2.1⟩
theorem il4 {a b c d : IT} {v : List Int} (hv : IL P [a, b, c, d] v) : ∃ x y z w, v = [x, y, z, w] ∧ IV P a x ∧ IV P b y ∧ IV P c z ∧ IV P d w := by
  match v, hv with
  | [x, y, z, w], hv => exact ⟨x, y, z, w, rfl, hv.1, hv.2.1, hv.2.2.1, hv.2.2.2.1⟩
theorem il5 {a b c d e : IT} {v : List Int} (hv : IL P [a, b, c, d, e] v) : ∃ x y z w u, v = [x, y, z, w, u] ∧ IV P a x ∧ IV P b y ∧ IV P c z ∧ IV P d w ∧ IV P e u := by
  match v, hv with
  | [x, y, z, w, u], hv => exact ⟨x, y, z, w, u, rfl, hv.1, hv.2.1, hv.2.2.1, hv.2.2.2.1, hv.2.2.2.2.1⟩
/-- what a region of the reference's tables_w says_w of a cell_w -/
theorem q_cell (hQ : QK P (r_T 0) J h) {q r : Nat} {x : Nat × Nat × IT} (hq : 183 ≤ q) (hr : (r_A q).2.2[r]? = some x) (hb_w : (r_A q).2.1 = 0) {i : Nat} (h1 : x.1 ≤ i) (h2 : i < x.2.1) : IV P x.2.2 (h q i) := by
  have k := hQ.2.2.1 q hq x (List.mem_of_getElem? hr) i 0 h1 h2 (by decide)
  have e : (qA (r_T 0) q).2.1 = 0 := hb_w
  rw [e, Nat.zero_mul, Nat.zero_add] at k
  exact k
/-- of a block_w of the state_w -/
theorem s_cell (hQ : QK P (r_T 0) J h) {r : Nat} {x : Nat × Nat × IT} (hr : (r_A 194).2.2[r]? = some x) {i j : Nat} (h1 : x.1 ≤ i) (h2 : i < x.2.1) (hj : j < 12) : IV P x.2.2 (h 194 (429 * j + i)) :=
  hQ.2.2.1 194 (by decide) x (List.mem_of_getElem? hr) i j h1 h2 hj
/-- a method_w by hand_w -/
theorem tr_of {n f o ml_w : Nat} {pk_w rk : List Nat} {bd : SX} {av : List Int} {B : List Int → XH → Prop} (hm_w : g_M f = (o, ml_w, pk_w, rk, bd)) (hw : wS (a_g3, g) (evF xs L ck K cW g_M n) K bd (j_pad 0 ml_w (j_lay pk_w av)) h (fun c vs _ h' => c = 1 ∧ B vs h')) : ∃ r h', evF xs L ck K cW g_M (n + 1) f av ((a_g3, g), h) = some (1, r, ((a_g3, g), h')) ∧ B r h' := wF_ok (M := g_M) (f := f) (by rw [hm_w]; exact hw)
theorem tot_hand {n f o ml_w : Nat} {pk_w rk : List Nat} {bd : SX} {ps_w rs : List IT} (hm_w : g_M f = (o, ml_w, pk_w, rk, bd)) (hP : qP (r_T 0) f = ps_w) (hR : qR (r_T 0) f = rs) (hU : qU (r_T 0) f = ps_w)
    (hw : ∀ av h, QK P (r_T 0) J h → IL P ps_w av → wS (a_g3, g) (evF xs L ck K cW g_M n) K bd (j_pad 0 ml_w (j_lay pk_w av)) h (fun c vs _ h' => c = 1 ∧ QK P (r_T 0) J h' ∧ KR (r_T 0) h h' ∧ IL P rs vs)) : TotR P (r_T 0) J g (evF xs L ck K cW g_M (n + 1)) f := by
  intro av h hQ hv
  rw [hP] at hv
  obtain ⟨r, h', e1_w, e2_w, e3_w, e4_w⟩ := tr_of hm_w (hw av h hQ hv)
  refine ⟨r, h', e1_w, e2_w, e3_w, ?_, fun _ => ?_⟩
  · rw [hR]
    exact e4_w
  · rw [hU]
    exact hv
end RJS
end
section
/-! ===== the reference's methods by hand_w: the grid's rows, the state's blocks_w ===== -/
section HA1
variable {P : Int × Int} {g : Nat × Nat} {xs : Nat → Int} {L K n : Nat} {ck : Nat → List Nat} {cW : Nat → Nat → Int} {h : XH} {J : XH → Prop}
theorem q_nM (hQ : QK P (r_T 0) J h) : h 188 3 = P.1 ∧ 0 ≤ P.1 ∧ P.1 ≤ 6 := by
  have k : IV P (7, 0, 0) (h 188 3) := q_cell hQ (q := 188) (r := 3) (x := (3, 4, (7, 0, 0))) (by decide) rfl rfl (by decide) (by decide)
  obtain ⟨k1_w, k2, k3⟩ := k
  omega
theorem q_nC (hQ : QK P (r_T 0) J h) : h 188 1 = P.2 ∧ 0 ≤ P.2 ∧ P.2 ≤ 4 := by
  have k : IV P (8, 0, 0) (h 188 1) := q_cell hQ (q := 188) (r := 1) (x := (1, 2, (8, 0, 0))) (by decide) rfl rfl (by decide) (by decide)
  obtain ⟨k1_w, k2, k3⟩ := k
  omega
theorem rkd_int : [183, 184, 185, 188, 189, 191, 192, 193, 194, 196, 197, 198, 199, 201].all (fun q => r_kd q == 1) = true := by decide +kernel
theorem ht_int {q : Nat} (hH : HT g_fk a_g3 h) (hq : q ∈ [183, 184, 185, 188, 189, 191, 192, 193, 194, 196, 197, 198, 199, 201]) (i : Nat) : InI (h q i) := by
  have h1 := List.all_eq_true.mp rkd_int q hq
  rw [beq_iff_eq] at h1
  have h2 : 183 ≤ q ∧ q ≤ 202 := by
    simp only [List.mem_cons, List.not_mem_nil, or_false] at hq
    omega
  have h3 := ((r_tab 0).2.2.1 q h2.1 h2.2).2.2.2 i
  exact (hH q i).1 (h3.trans h1)
theorem ht_up {q i : Nat} {v : Int} (hH : HT g_fk a_g3 h) (hq : q ∈ [183, 184, 185, 188, 189, 191, 192, 193, 194, 196, 197, 198, 199, 201]) (hv : InI v) : HT g_fk a_g3 (j_up h q i v) := by
  have h1 := List.all_eq_true.mp rkd_int q hq
  rw [beq_iff_eq] at h1
  have h2 : 183 ≤ q ∧ q ≤ 202 := by
    simp only [List.mem_cons, List.not_mem_nil, or_false] at hq
    omega
  have h3 := (((r_tab 0).2.2.1 q h2.1 h2.2).2.2.2 i).trans h1
  exact hH.up (fun _ => hv) (fun e => absurd (h3.symm.trans e) (by decide)) (fun e => absurd (h3.symm.trans e) (by decide))
theorem st_ok : ar_ok (r_A 194) = true := by decide +kernel
/-- a cell_w of a block_w of the state_w is_w written_w -/
theorem st_QK (hQ : QK P (r_T 0) J h) (hJ : JS (r_T 0) J) {j i : Nat} {v : Int} (hj : j < 12) (hi_w : i < 429) (hv : ∀ r ∈ (r_A 194).2.2, r.1 ≤ i → i < r.2.1 → IV P r.2.2 v) (hin : InI v) : QK P (r_T 0) J (j_up h 194 (429 * j + i) v) ∧ KR (r_T 0) h (j_up h 194 (429 * j + i) v) := by
  have hk : KR (r_T 0) h (j_up h 194 (429 * j + i) v) := KR.up rfl
  refine ⟨⟨ht_up hQ.1 (by decide) hin, fun k => ?_, fun q hq => ?_, hJ _ _ hk hQ.2.2.2⟩, hk⟩
  · rw [up_ne (fun z => absurd z.1 (by decide))]
    exact hQ.2.1 k
  · by_cases hq2 : q = 194
    · subst hq2
      intro r hr i' j' k1_w k2 hj'
      have hr2 := List.all_eq_true.mp st_ok r hr
      rw [Nat.ble_eq] at hr2
      have hr3 : r.2.1 ≤ 429 := hr2
      show IV P r.2.2 (j_up h 194 (429 * j + i) v 194 (429 * j' + i'))
      by_cases e : 429 * j' + i' = 429 * j + i
      · have e1_w : i' = i := by omega
        subst e1_w
        rw [e, up_eq]
        exact hv r hr k1_w k2
      · rw [up_ne (fun z => e z.2)]
        exact hQ.2.2.1 194 hq r hr i' j' k1_w k2 hj'
    · have e2_w : j_up h 194 (429 * j + i) v q = h q := funext fun i => up_ne (fun z => hq2 z.1)
      rw [e2_w]
      exact hQ.2.2.1 q hq
theorem iv_base {b : Int} (hb_w : IV P (3, 0, 0) b) : ∃ j : Nat, j < 12 ∧ b = 429 * (j : Int) := by
  obtain ⟨-, j, h1, h2, h3⟩ := hb_w
  exact ⟨j, h1, by omega⟩
theorem t_230 : TotR P (r_T 0) (RJ P) g (evF xs L ck K cW g_M (n + 1)) 230 := by
  refine tot_hand gm_230 rp_230 rr_230 ru_230 fun av h hQ hv => ?_
  obtain ⟨x, m, rfl, hx, hm_w⟩ := il2 hv
  obtain rfl : x = 182 := hx
  obtain ⟨m0_w, m1_w, m2_w⟩ := hm_w
  show wS _ _ K bb_230 [182, m] h _
  generalize evF xs L ck K cW g_M n = F
  unfold bb_230
  simp only [wf_4, wf_40, wf_5, wf_50, wf_6, wl_1, wt_1, wu_1, wa_1, wl_4, wt_4, wu_4, wa_4, wl_5, wt_5, wu_5, wa_5, wl_6, wt_6, wu_6, wa_6, wl_9, wt_9, wu_9, wa_9, wl_10, wt_10, wu_10, wa_10, wl_11, wt_11, wu_11, wa_11, wl_13, wt_13, wu_13, wa_13, wl_14, wt_14, wu_14, wa_14, wl_15, wt_15, wu_15, wa_15, wl_16, wt_16, wu_16, wa_16, wl_17, wt_17, wu_17, wa_17, wl_20, wt_20, wu_20, wa_20, wl_21, wt_21, wu_21, wa_21, wl_22, wt_22, wu_22, wa_22, wl_23, wt_23, wu_23, wa_23, wl_24, wt_24, wu_24, wa_24, wl_26, wt_26, wu_26, wa_26, wl_27, wt_27, wu_27, wa_27, wl_28, wt_28, wu_28, wa_28, we_1, we_3, we_10, we_14, we_15, we_16, we_17, we_18, we_20, we_21, we_22, we_24, we_25, we_26, we_27, we_28, we_30, we_31, we_32, wc_20, wc_21, wc_22, wc_24, wc_25, wc_26, wc_27, wc_3, wc_4, wc_7, wc_28, wc_32, ws_1, ws_2, ws_3, ws_4, ws_9, ws_10, ws_11, ws_14, ws_15, ws_16, ws_27, ws_17, ws_20, ws_28, kc_0, kc_1, kn_1, kc_2, kn_2, kc_3, kc_4, kc_5, kc_6, kc_7, kc_8, kc_9, kc_10, kc_12, kc_13, kc_14, kc_16, kc_17, kc_18, kc_19, kc_20, kc_21, kc_22, kc_24, kc_28, kc_30, kc_32, kc_37, kc_40, kc_41, kc_42, kc_43, kc_45, kc_48, kc_56, kc_57, kc_59, kc_60, kc_61, kc_64, kc_73, kc_78, kc_91, kc_95, kc_96, kc_97, kc_98, kc_99, kc_100, kc_112, kc_122, kc_125, kc_126, kc_150, kc_162, kc_163, kc_168, kc_186, kc_190, kc_200, kc_250, kc_255, kc_355, kc_356, kc_404, kc_405, kc_429, kc_573, kc_999, kc_1000, kc_1002, kc_1100, kc_1891, kc_2200, kc_4719, kc_4869, kc_4881, kc_5148, kc_9999, kn_9999, kc_10000, kc_12345, kc_19741, kc_25433, kc_65536, kc_320403, kc_628412, kc_629093, kc_660401, kc_679843, kc_918640, kc_979410, kc_1178088, kc_6232410, kc_24644941, kc_36238189, kc_38270444, kc_392531318, kc_425693491, kc_1103515245, kc_1342154595, kc_2147483648, kc_42328242873, kc_891704255789, kc_1722105685577, kc_1858726030364, ct_0, ct_1, ct_2, ct_3, ct_4, ct_5, cf_0, cf_1, cf_2, cf_3, cf_4, cf_5, w_ty6, w_ty7, m_sv, m_z0, m_hd, m_g0, m_gs, m_s0, m_ss, m_ap, m_an, forall_const, true_and, and_true, ne_eq, not_true_eq_false, not_false_eq_true, false_implies, true_implies, implies_true, eq_self, reduceCtorEq, Nat.reduceDiv, Nat.reduceMod, Int.reduceToNat, or_true, true_or, or_false, false_or, or_self, m_it, m_if, m_c1, m_01, m_02, m_03, m_04, m_10, m_12, m_13, m_14, m_20, m_21, m_23, m_24, m_30, m_31, m_32, m_34, m_40, m_41, m_42, m_43]
  simp (disch := omega) only [jmul, jadd]
  have k := hQ.2.2.2.1.1 m.toNat (by omega)
  have k4 := q_nC hQ
  have e : (73 + 3 * m + 1).toNat = 0 + (74 + 3 * m.toNat) := by omega
  rw [e]
  exact ⟨⟨by omega, by omega⟩, hQ, KR.rf, ⟨⟨k.1, k.2, k4.2.2⟩, trivial⟩⟩
theorem gr_prof {c s : Int} (hQ : QK P (r_T 0) J h) (c0 : 0 ≤ c) (c1_w : c < 4) (s0 : 0 ≤ s) (s1_w : s < 12) : IV P (1, 0, 99) (h 188 (19 + 14 * c + s).toNat) := by
  have hc_w : c = 0 ∨ c = 1 ∨ c = 2 ∨ c = 3 := by omega
  rcases hc_w with rfl | rfl | rfl | rfl
  · exact q_cell hQ (q := 188) (r := 9) (x := (19, 31, (1, 0, 99))) (by decide) rfl rfl (by dsimp only; omega) (by dsimp only; omega)
  · exact q_cell hQ (q := 188) (r := 12) (x := (33, 45, (1, 0, 99))) (by decide) rfl rfl (by dsimp only; omega) (by dsimp only; omega)
  · exact q_cell hQ (q := 188) (r := 15) (x := (47, 59, (1, 0, 99))) (by decide) rfl rfl (by dsimp only; omega) (by dsimp only; omega)
  · exact q_cell hQ (q := 188) (r := 18) (x := (61, 73, (1, 0, 99))) (by decide) rfl rfl (by dsimp only; omega) (by dsimp only; omega)
theorem m_232 (hQ : QK P (r_T 0) (RJ P) h) {c s : Int} (hc_w : IV P (6, 0, 0) c) (s0 : 0 ≤ s) (s1_w : s ≤ 12) : ∃ r h', evF xs L ck K cW g_M (n + 1) 232 [182, c, s] ((a_g3, g), h) = some (1, r, ((a_g3, g), h')) ∧ h' = h ∧ ∃ v, r = [v] ∧ IV P (1, 0, 99) v := by
  refine tr_of gm_232 (B := fun r h' => h' = h ∧ ∃ v, r = [v] ∧ IV P (1, 0, 99) v) ?_
  obtain ⟨c0, c1_w, c2⟩ := hc_w
  show wS _ _ K bb_232 [182, c, s, 0] h _
  generalize evF xs L ck K cW g_M n = F
  unfold bb_232
  simp only [wf_4, wf_40, wf_5, wf_50, wf_6, wl_1, wt_1, wu_1, wa_1, wl_4, wt_4, wu_4, wa_4, wl_5, wt_5, wu_5, wa_5, wl_6, wt_6, wu_6, wa_6, wl_9, wt_9, wu_9, wa_9, wl_10, wt_10, wu_10, wa_10, wl_11, wt_11, wu_11, wa_11, wl_13, wt_13, wu_13, wa_13, wl_14, wt_14, wu_14, wa_14, wl_15, wt_15, wu_15, wa_15, wl_16, wt_16, wu_16, wa_16, wl_17, wt_17, wu_17, wa_17, wl_20, wt_20, wu_20, wa_20, wl_21, wt_21, wu_21, wa_21, wl_22, wt_22, wu_22, wa_22, wl_23, wt_23, wu_23, wa_23, wl_24, wt_24, wu_24, wa_24, wl_26, wt_26, wu_26, wa_26, wl_27, wt_27, wu_27, wa_27, wl_28, wt_28, wu_28, wa_28, we_1, we_3, we_10, we_14, we_15, we_16, we_17, we_18, we_20, we_21, we_22, we_24, we_25, we_26, we_27, we_28, we_30, we_31, we_32, wc_20, wc_21, wc_22, wc_24, wc_25, wc_26, wc_27, wc_3, wc_4, wc_7, wc_28, wc_32, ws_1, ws_2, ws_3, ws_4, ws_9, ws_10, ws_11, ws_14, ws_15, ws_16, ws_27, ws_17, ws_20, ws_28, kc_0, kc_1, kn_1, kc_2, kn_2, kc_3, kc_4, kc_5, kc_6, kc_7, kc_8, kc_9, kc_10, kc_12, kc_13, kc_14, kc_16, kc_17, kc_18, kc_19, kc_20, kc_21, kc_22, kc_24, kc_28, kc_30, kc_32, kc_37, kc_40, kc_41, kc_42, kc_43, kc_45, kc_48, kc_56, kc_57, kc_59, kc_60, kc_61, kc_64, kc_73, kc_78, kc_91, kc_95, kc_96, kc_97, kc_98, kc_99, kc_100, kc_112, kc_122, kc_125, kc_126, kc_150, kc_162, kc_163, kc_168, kc_186, kc_190, kc_200, kc_250, kc_255, kc_355, kc_356, kc_404, kc_405, kc_429, kc_573, kc_999, kc_1000, kc_1002, kc_1100, kc_1891, kc_2200, kc_4719, kc_4869, kc_4881, kc_5148, kc_9999, kn_9999, kc_10000, kc_12345, kc_19741, kc_25433, kc_65536, kc_320403, kc_628412, kc_629093, kc_660401, kc_679843, kc_918640, kc_979410, kc_1178088, kc_6232410, kc_24644941, kc_36238189, kc_38270444, kc_392531318, kc_425693491, kc_1103515245, kc_1342154595, kc_2147483648, kc_42328242873, kc_891704255789, kc_1722105685577, kc_1858726030364, ct_0, ct_1, ct_2, ct_3, ct_4, ct_5, cf_0, cf_1, cf_2, cf_3, cf_4, cf_5, w_ty6, w_ty7, m_sv, m_z0, m_hd, m_g0, m_gs, m_s0, m_ss, m_ap, m_an, forall_const, true_and, and_true, ne_eq, not_true_eq_false, not_false_eq_true, false_implies, true_implies, implies_true, eq_self, reduceCtorEq, Nat.reduceDiv, Nat.reduceMod, Int.reduceToNat, or_true, true_or, or_false, false_or, or_self, m_it, m_if, m_c1, m_01, m_02, m_03, m_04, m_10, m_12, m_13, m_14, m_20, m_21, m_23, m_24, m_30, m_31, m_32, m_34, m_40, m_41, m_42, m_43]
  have k := hQ.2.2.2.1.2 c.toNat (by omega)
  have e : j_iop 0 (j_iop 0 17 (j_iop 2 14 c)) 1 = 18 + 14 * c := by
    simp (disch := omega) only [jmul, jadd]
    omega
  have e1_w : (18 + 14 * c).toNat = 0 + (18 + 14 * c.toNat) := by omega
  rw [e, e1_w]
  generalize h 188 (0 + (18 + 14 * c.toNat)) = w at k ⊢
  obtain ⟨k1_w, k2, k3, k4⟩ := emod_bd s0 (show 0 < w by omega)
  have e2_w : j_iop 0 (j_iop 0 (j_iop 0 17 (j_iop 2 14 c)) 2) (j_div 1 s w) = 19 + 14 * c + s % w := by
    show j_iop 0 _ (s.tmod w) = _
    rw [k1_w]
    simp (disch := omega) only [jmul, jadd]
    omega
  rw [e2_w]
  exact ⟨⟨by omega, by omega⟩, by omega, ⟨by omega, by omega⟩, _, rfl, gr_prof hQ c0 (by omega) k2 (by omega)⟩
theorem t_232 : TotR P (r_T 0) (RJ P) g (evF xs L ck K cW g_M (n + 1)) 232 := by
  intro av h hQ hv
  rw [rp_232] at hv
  obtain ⟨x, c, s, rfl, hx, hc_w, hs⟩ := il3 hv
  obtain rfl : x = 182 := hx
  obtain ⟨r, h', e1_w, rfl, v, rfl, e2_w⟩ := m_232 (xs := xs) (L := L) (ck := ck) (cW := cW) (n := n) (K := K) (g := g) hQ hc_w hs.1 hs.2.1
  exact ⟨[v], h', e1_w, hQ, KR.rf, by rw [rr_232]; exact ⟨e2_w, trivial⟩, fun _ => by rw [ru_232]; exact hv⟩
theorem il_this : IL P [(4, 182, 182)] [182] := ⟨rfl, trivial⟩
/-- what a method_w that answers_w one number_w does; one that answers_w none -/
theorem use1 {F : XP} {f : Nat} {av : List Int} {ps_w : List IT} {t : IT} (c : TotR P (r_T 0) J g F f) (hP : qP (r_T 0) f = ps_w) (hR : qR (r_T 0) f = [t]) (hQ : QK P (r_T 0) J h) (hv : IL P ps_w av) : ∃ v h2, F f av ((a_g3, g), h) = some (1, [v], ((a_g3, g), h2)) ∧ QK P (r_T 0) J h2 ∧ KR (r_T 0) h h2 ∧ IV P t v := by
  obtain ⟨r, h2, e1_w, e2_w, e3_w, e4_w, -⟩ := c av h hQ (by rw [hP]; exact hv)
  rw [hR] at e4_w
  obtain ⟨v, rfl, e5_w⟩ := IL.one e4_w
  exact ⟨v, h2, e1_w, e2_w, e3_w, e5_w⟩
theorem use0 {F : XP} {f : Nat} {av : List Int} {ps_w : List IT} (c : TotR P (r_T 0) J g F f) (hP : qP (r_T 0) f = ps_w) (hR : qR (r_T 0) f = []) (hQ : QK P (r_T 0) J h) (hv : IL P ps_w av) : ∃ h2, F f av ((a_g3, g), h) = some (1, [], ((a_g3, g), h2)) ∧ QK P (r_T 0) J h2 ∧ KR (r_T 0) h h2 := by
  obtain ⟨r, h2, e1_w, e2_w, e3_w, e4_w, -⟩ := c av h hQ (by rw [hP]; exact hv)
  rw [hR] at e4_w
  have e5_w : r = [] := List.length_eq_zero_iff.mp (IL.len e4_w)
  subst e5_w
  exact ⟨h2, e1_w, e2_w, e3_w⟩
/-- all but one object's cells_w stay_w -/
def But (q : Nat) (h h' : XH) : Prop := ∀ o k, o ≠ q → h' o k = h o k
theorem But.rf {q : Nat} : But q h h := fun _ _ _ => rfl
theorem But.tr {q : Nat} {h1 h2 : XH} (a : But q h h1) (b : But q h1 h2) : But q h h2 := fun o k e => (b o k e).trans (a o k e)
theorem But.up {q i : Nat} {v : Int} : But q h (j_up h q i v) := fun o k e => up_ne (fun z => e z.1)
theorem m_224 (hJ : JS (r_T 0) J) (hK_w : 4294967300 ≤ K) (hQ : QK P (r_T 0) J h) {i j : Nat} {m : Int} (hi_w : i < 12) (hj : j < 12) (m0_w : 0 ≤ m) (m1_w : m ≤ 429) : ∃ r h', evF xs L ck K cW g_M (n + 1) 224 [182, 429 * (i : Int), 429 * (j : Int), m] ((a_g3, g), h) = some (1, r, ((a_g3, g), h')) ∧ QK P (r_T 0) J h' ∧ KR (r_T 0) h h' ∧ But 194 h h' ∧ (∀ p, (p < 429 * j ∨ 429 * j + 429 ≤ p) → h' 194 p = h 194 p) ∧ r = [] := by
  refine tr_of gm_224 (B := fun r h' => QK P (r_T 0) J h' ∧ KR (r_T 0) h h' ∧ But 194 h h' ∧ (∀ p, (p < 429 * j ∨ 429 * j + 429 ≤ p) → h' 194 p = h 194 p) ∧ r = []) ?_
  show wS _ _ K bb_224 [182, 429 * (i : Int), 429 * (j : Int), m, 0] h _
  generalize evF xs L ck K cW g_M n = F
  unfold bb_224
  simp only [wf_4, wf_40, wf_5, wf_50, wf_6, wl_1, wt_1, wu_1, wa_1, wl_4, wt_4, wu_4, wa_4, wl_5, wt_5, wu_5, wa_5, wl_6, wt_6, wu_6, wa_6, wl_9, wt_9, wu_9, wa_9, wl_10, wt_10, wu_10, wa_10, wl_11, wt_11, wu_11, wa_11, wl_13, wt_13, wu_13, wa_13, wl_14, wt_14, wu_14, wa_14, wl_15, wt_15, wu_15, wa_15, wl_16, wt_16, wu_16, wa_16, wl_17, wt_17, wu_17, wa_17, wl_20, wt_20, wu_20, wa_20, wl_21, wt_21, wu_21, wa_21, wl_22, wt_22, wu_22, wa_22, wl_23, wt_23, wu_23, wa_23, wl_24, wt_24, wu_24, wa_24, wl_26, wt_26, wu_26, wa_26, wl_27, wt_27, wu_27, wa_27, wl_28, wt_28, wu_28, wa_28, we_1, we_3, we_10, we_14, we_15, we_16, we_17, we_18, we_20, we_21, we_22, we_24, we_25, we_26, we_27, we_28, we_30, we_31, we_32, wc_20, wc_21, wc_22, wc_24, wc_25, wc_26, wc_27, wc_3, wc_4, wc_7, wc_28, wc_32, ws_1, ws_2, ws_3, ws_4, ws_9, ws_10, ws_11, ws_14, ws_15, ws_16, ws_27, ws_17, ws_20, ws_28, kc_0, kc_1, kn_1, kc_2, kn_2, kc_3, kc_4, kc_5, kc_6, kc_7, kc_8, kc_9, kc_10, kc_12, kc_13, kc_14, kc_16, kc_17, kc_18, kc_19, kc_20, kc_21, kc_22, kc_24, kc_28, kc_30, kc_32, kc_37, kc_40, kc_41, kc_42, kc_43, kc_45, kc_48, kc_56, kc_57, kc_59, kc_60, kc_61, kc_64, kc_73, kc_78, kc_91, kc_95, kc_96, kc_97, kc_98, kc_99, kc_100, kc_112, kc_122, kc_125, kc_126, kc_150, kc_162, kc_163, kc_168, kc_186, kc_190, kc_200, kc_250, kc_255, kc_355, kc_356, kc_404, kc_405, kc_429, kc_573, kc_999, kc_1000, kc_1002, kc_1100, kc_1891, kc_2200, kc_4719, kc_4869, kc_4881, kc_5148, kc_9999, kn_9999, kc_10000, kc_12345, kc_19741, kc_25433, kc_65536, kc_320403, kc_628412, kc_629093, kc_660401, kc_679843, kc_918640, kc_979410, kc_1178088, kc_6232410, kc_24644941, kc_36238189, kc_38270444, kc_392531318, kc_425693491, kc_1103515245, kc_1342154595, kc_2147483648, kc_42328242873, kc_891704255789, kc_1722105685577, kc_1858726030364, ct_0, ct_1, ct_2, ct_3, ct_4, ct_5, cf_0, cf_1, cf_2, cf_3, cf_4, cf_5, w_ty6, w_ty7, m_sv, m_z0, m_hd, m_g0, m_gs, m_s0, m_ss, m_ap, m_an, forall_const, true_and, and_true, ne_eq, not_true_eq_false, not_false_eq_true, false_implies, true_implies, implies_true, eq_self, reduceCtorEq, Nat.reduceDiv, Nat.reduceMod, Int.reduceToNat, or_true, true_or, or_false, false_or, or_self, m_it, m_if, m_c1, m_01, m_02, m_03, m_04, m_10, m_12, m_13, m_14, m_20, m_21, m_23, m_24, m_30, m_31, m_32, m_34, m_40, m_41, m_42, m_43]
  refine w_lp (fun en h' => ∃ k : Int, en = [182, 429 * (i : Int), 429 * (j : Int), m, k] ∧ 0 ≤ k ∧ k ≤ m ∧ QK P (r_T 0) J h' ∧ KR (r_T 0) h h' ∧ But 194 h h' ∧ (∀ p, (p < 429 * j ∨ 429 * j + 429 ≤ p) → h' 194 p = h 194 p)) (fun en _ => (m - en.getD 4 0).toNat) ⟨0, rfl, by omega, m0_w, hQ, KR.rf, But.rf, fun _ _ => rfl⟩ ?_
  rintro en h1 ⟨k, rfl, k0_w, k1_w, q1_w, q2_w, q5_w, q6_w⟩
  refine ⟨?_, ?_⟩
  · show (m - k).toNat < K
    omega
  simp only [wf_4, wf_40, wf_5, wf_50, wf_6, wl_1, wt_1, wu_1, wa_1, wl_4, wt_4, wu_4, wa_4, wl_5, wt_5, wu_5, wa_5, wl_6, wt_6, wu_6, wa_6, wl_9, wt_9, wu_9, wa_9, wl_10, wt_10, wu_10, wa_10, wl_11, wt_11, wu_11, wa_11, wl_13, wt_13, wu_13, wa_13, wl_14, wt_14, wu_14, wa_14, wl_15, wt_15, wu_15, wa_15, wl_16, wt_16, wu_16, wa_16, wl_17, wt_17, wu_17, wa_17, wl_20, wt_20, wu_20, wa_20, wl_21, wt_21, wu_21, wa_21, wl_22, wt_22, wu_22, wa_22, wl_23, wt_23, wu_23, wa_23, wl_24, wt_24, wu_24, wa_24, wl_26, wt_26, wu_26, wa_26, wl_27, wt_27, wu_27, wa_27, wl_28, wt_28, wu_28, wa_28, we_1, we_3, we_10, we_14, we_15, we_16, we_17, we_18, we_20, we_21, we_22, we_24, we_25, we_26, we_27, we_28, we_30, we_31, we_32, wc_20, wc_21, wc_22, wc_24, wc_25, wc_26, wc_27, wc_3, wc_4, wc_7, wc_28, wc_32, ws_1, ws_2, ws_3, ws_4, ws_9, ws_10, ws_11, ws_14, ws_15, ws_16, ws_27, ws_17, ws_20, ws_28, kc_0, kc_1, kn_1, kc_2, kn_2, kc_3, kc_4, kc_5, kc_6, kc_7, kc_8, kc_9, kc_10, kc_12, kc_13, kc_14, kc_16, kc_17, kc_18, kc_19, kc_20, kc_21, kc_22, kc_24, kc_28, kc_30, kc_32, kc_37, kc_40, kc_41, kc_42, kc_43, kc_45, kc_48, kc_56, kc_57, kc_59, kc_60, kc_61, kc_64, kc_73, kc_78, kc_91, kc_95, kc_96, kc_97, kc_98, kc_99, kc_100, kc_112, kc_122, kc_125, kc_126, kc_150, kc_162, kc_163, kc_168, kc_186, kc_190, kc_200, kc_250, kc_255, kc_355, kc_356, kc_404, kc_405, kc_429, kc_573, kc_999, kc_1000, kc_1002, kc_1100, kc_1891, kc_2200, kc_4719, kc_4869, kc_4881, kc_5148, kc_9999, kn_9999, kc_10000, kc_12345, kc_19741, kc_25433, kc_65536, kc_320403, kc_628412, kc_629093, kc_660401, kc_679843, kc_918640, kc_979410, kc_1178088, kc_6232410, kc_24644941, kc_36238189, kc_38270444, kc_392531318, kc_425693491, kc_1103515245, kc_1342154595, kc_2147483648, kc_42328242873, kc_891704255789, kc_1722105685577, kc_1858726030364, ct_0, ct_1, ct_2, ct_3, ct_4, ct_5, cf_0, cf_1, cf_2, cf_3, cf_4, cf_5, w_ty6, w_ty7, m_sv, m_z0, m_hd, m_g0, m_gs, m_s0, m_ss, m_ap, m_an, forall_const, true_and, and_true, ne_eq, not_true_eq_false, not_false_eq_true, false_implies, true_implies, implies_true, eq_self, reduceCtorEq, Nat.reduceDiv, Nat.reduceMod, Int.reduceToNat, or_true, true_or, or_false, false_or, or_self, m_it, m_if, m_c1, m_01, m_02, m_03, m_04, m_10, m_12, m_13, m_14, m_20, m_21, m_23, m_24, m_30, m_31, m_32, m_34, m_40, m_41, m_42, m_43]
  refine ⟨fun hk => ?_, fun hk => ⟨q1_w, q2_w, q5_w, q6_w⟩⟩
  simp (disch := omega) only [jadd, jinc]
  have e1_w : (429 * (j : Int) + k).toNat = 429 * j + k.toNat := by omega
  have e2_w : (429 * (i : Int) + k).toNat = 429 * i + k.toNat := by omega
  rw [e1_w, e2_w]
  obtain ⟨q3_w, q4_w⟩ := st_QK q1_w hJ (j := j) (i := k.toNat) (v := h1 194 (429 * i + k.toNat)) hj (by omega) (fun r hr r1_w r2 => q1_w.2.2.1 194 (by decide) r hr k.toNat i r1_w r2 hi_w) (ht_int q1_w.1 (by decide) _)
  refine ⟨⟨by omega, by omega⟩, ⟨by omega, by omega⟩, ⟨k + 1, rfl, by omega, by omega, q3_w, q2_w.tr q4_w, q5_w.tr But.up, fun p hp => (up_ne (fun z => by have := z.2; omega)).trans (q6_w p hp)⟩, ?_⟩
  show (m - (k + 1)).toNat < (m - k).toNat
  omega
theorem t_224 (hJ : JS (r_T 0) J) (hK_w : 4294967300 ≤ K) : TotR P (r_T 0) J g (evF xs L ck K cW g_M (n + 1)) 224 := by
  intro av h hQ hv
  rw [rp_224] at hv
  obtain ⟨x, a, b, m, rfl, hx, ha_w, hb_w, hm_w⟩ := il4 hv
  obtain rfl : x = 182 := hx
  obtain ⟨i, hi_w, rfl⟩ := iv_base ha_w
  obtain ⟨j, hj, rfl⟩ := iv_base hb_w
  obtain ⟨m0_w, m1_w, -⟩ := hm_w
  obtain ⟨r, h', e1_w, e2_w, e3_w, -, -, rfl⟩ := m_224 (xs := xs) (L := L) (ck := ck) (cW := cW) (n := n) (g := g) hJ hK_w hQ hi_w hj m0_w m1_w
  exact ⟨[], h', e1_w, e2_w, e3_w, by rw [rr_224]; trivial, fun k => absurd rfl k⟩
end HA1
end
section
/-! ===== the reference's methods by hand_w: starts, keeps_w, what was read ===== -/
section HA2
variable {P : Int × Int} {g : Nat × Nat} {xs : Nat → Int} {L K n : Nat} {ck : Nat → List Nat} {cW : Nat → Nat → Int} {h : XH} {J : XH → Prop}
/-- what is_w stored_w in a part of a block_w fits_w all regions there_w -/
def st_fit (lo_w hi_w : Nat) (t : IT) : Bool := (r_A 194).2.2.all fun r => Nat.ble r.2.1 lo_w || Nat.ble hi_w r.1 || i_sub t r.2.2
theorem st_fit_ok {lo_w hi_w i : Nat} {t : IT} {v : Int} (hc_w : st_fit lo_w hi_w t = true) (h1 : lo_w ≤ i) (h2 : i < hi_w) (hv : IV P t v) : ∀ r ∈ (r_A 194).2.2, r.1 ≤ i → i < r.2.1 → IV P r.2.2 v := by
  intro r hr k1_w k2
  have h3 := List.all_eq_true.mp hc_w r hr
  simp only [Bool.or_eq_true, Nat.ble_eq] at h3
  exact IV.sub (h3.resolve_left (by omega)) hv
theorem st_init : (List.range 404).all (fun i => (r_A 194).2.2.all fun r => Nat.ble r.2.1 i || Nat.blt i r.1 || i_sub (bif Nat.blt i 78 then (1, -1, -1) else (1, 0, 0)) r.2.2) = true := by decide +kernel
theorem st_init_ok {i : Nat} (hi_w : i < 404) {v : Int} (hv : v = if i < 78 then -1 else 0) : ∀ r ∈ (r_A 194).2.2, r.1 ≤ i → i < r.2.1 → IV P r.2.2 v := by
  intro r hr k1_w k2
  have h3 := List.all_eq_true.mp (List.all_eq_true.mp st_init i (List.mem_range.mpr hi_w)) r hr
  simp only [Bool.or_eq_true, Nat.ble_eq, Nat.blt_eq] at h3
  refine IV.sub (h3.resolve_left (by omega)) ?_
  subst hv
  by_cases h : i < 78
  · rw [if_pos h, show Nat.blt i 78 = true from Nat.blt_eq.mpr h]
    exact ⟨by decide, by decide, by decide, by decide⟩
  · rw [if_neg h, show Nat.blt i 78 = false from by cases hb_w : Nat.blt i 78 with | false => rfl | true => exact absurd (Nat.blt_eq.mp hb_w) h]
    exact ⟨by decide, by decide, by decide, by decide⟩
theorem gr_met {m k : Int} (hQ : QK P (r_T 0) J h) (m0_w : 0 ≤ m) (m1_w : m < 6) (k0_w : 0 ≤ k) (k1_w : k < 3) : IV P (1, 0, 3) (h 188 (73 + 3 * m + k).toNat) := by
  have hc_w : m = 0 ∨ m = 1 ∨ m = 2 ∨ m = 3 ∨ m = 4 ∨ m = 5 := by omega
  rcases hc_w with rfl | rfl | rfl | rfl | rfl | rfl
  · exact q_cell hQ (q := 188) (r := 19) (x := (73, 76, (1, 0, 3))) (by decide) rfl rfl (by dsimp only; omega) (by dsimp only; omega)
  · exact q_cell hQ (q := 188) (r := 20) (x := (76, 79, (1, 0, 3))) (by decide) rfl rfl (by dsimp only; omega) (by dsimp only; omega)
  · exact q_cell hQ (q := 188) (r := 21) (x := (79, 82, (1, 0, 3))) (by decide) rfl rfl (by dsimp only; omega) (by dsimp only; omega)
  · exact q_cell hQ (q := 188) (r := 22) (x := (82, 85, (1, 0, 3))) (by decide) rfl rfl (by dsimp only; omega) (by dsimp only; omega)
  · exact q_cell hQ (q := 188) (r := 23) (x := (85, 88, (1, 0, 3))) (by decide) rfl rfl (by dsimp only; omega) (by dsimp only; omega)
  · exact q_cell hQ (q := 188) (r := 24) (x := (88, 91, (1, 0, 3))) (by decide) rfl rfl (by dsimp only; omega) (by dsimp only; omega)
theorem gr_feed {s : Int} (hQ : QK P (r_T 0) J h) (s0 : 0 ≤ s) (s1_w : s < 12) : IV P (1, 0, 9999) (h 188 (5 + s).toNat) :=
  q_cell hQ (q := 188) (r := 5) (x := (5, 17, (1, 0, 9999))) (by decide) rfl rfl (by dsimp only; omega) (by dsimp only; omega)
theorem t_240 (hJ : JS (r_T 0) J) (hK_w : 4294967300 ≤ K) (c228 : TotR P (r_T 0) J g (evF xs L ck K cW g_M n) 228) (c225 : TotR P (r_T 0) J g (evF xs L ck K cW g_M n) 225) : TotR P (r_T 0) J g (evF xs L ck K cW g_M (n + 1)) 240 := by
  refine tot_hand gm_240 rp_240 rr_240 ru_240 fun av h hQ hv => ?_
  obtain ⟨x, b, rfl, hx, hb_w⟩ := il2 hv
  obtain rfl : x = 182 := hx
  obtain ⟨j, hj, rfl⟩ := iv_base hb_w
  show wS _ _ K bb_240 [182, 429 * (j : Int), 0, 0] h _
  generalize evF xs L ck K cW g_M n = F at c228 c225 ⊢
  unfold bb_240
  simp only [wf_4, wf_40, wf_5, wf_50, wf_6, wl_1, wt_1, wu_1, wa_1, wl_4, wt_4, wu_4, wa_4, wl_5, wt_5, wu_5, wa_5, wl_6, wt_6, wu_6, wa_6, wl_9, wt_9, wu_9, wa_9, wl_10, wt_10, wu_10, wa_10, wl_11, wt_11, wu_11, wa_11, wl_13, wt_13, wu_13, wa_13, wl_14, wt_14, wu_14, wa_14, wl_15, wt_15, wu_15, wa_15, wl_16, wt_16, wu_16, wa_16, wl_17, wt_17, wu_17, wa_17, wl_20, wt_20, wu_20, wa_20, wl_21, wt_21, wu_21, wa_21, wl_22, wt_22, wu_22, wa_22, wl_23, wt_23, wu_23, wa_23, wl_24, wt_24, wu_24, wa_24, wl_26, wt_26, wu_26, wa_26, wl_27, wt_27, wu_27, wa_27, wl_28, wt_28, wu_28, wa_28, we_1, we_3, we_10, we_14, we_15, we_16, we_17, we_18, we_20, we_21, we_22, we_24, we_25, we_26, we_27, we_28, we_30, we_31, we_32, wc_20, wc_21, wc_22, wc_24, wc_25, wc_26, wc_27, wc_3, wc_4, wc_7, wc_28, wc_32, ws_1, ws_2, ws_3, ws_4, ws_9, ws_10, ws_11, ws_14, ws_15, ws_16, ws_27, ws_17, ws_20, ws_28, kc_0, kc_1, kn_1, kc_2, kn_2, kc_3, kc_4, kc_5, kc_6, kc_7, kc_8, kc_9, kc_10, kc_12, kc_13, kc_14, kc_16, kc_17, kc_18, kc_19, kc_20, kc_21, kc_22, kc_24, kc_28, kc_30, kc_32, kc_37, kc_40, kc_41, kc_42, kc_43, kc_45, kc_48, kc_56, kc_57, kc_59, kc_60, kc_61, kc_64, kc_73, kc_78, kc_91, kc_95, kc_96, kc_97, kc_98, kc_99, kc_100, kc_112, kc_122, kc_125, kc_126, kc_150, kc_162, kc_163, kc_168, kc_186, kc_190, kc_200, kc_250, kc_255, kc_355, kc_356, kc_404, kc_405, kc_429, kc_573, kc_999, kc_1000, kc_1002, kc_1100, kc_1891, kc_2200, kc_4719, kc_4869, kc_4881, kc_5148, kc_9999, kn_9999, kc_10000, kc_12345, kc_19741, kc_25433, kc_65536, kc_320403, kc_628412, kc_629093, kc_660401, kc_679843, kc_918640, kc_979410, kc_1178088, kc_6232410, kc_24644941, kc_36238189, kc_38270444, kc_392531318, kc_425693491, kc_1103515245, kc_1342154595, kc_2147483648, kc_42328242873, kc_891704255789, kc_1722105685577, kc_1858726030364, ct_0, ct_1, ct_2, ct_3, ct_4, ct_5, cf_0, cf_1, cf_2, cf_3, cf_4, cf_5, w_ty6, w_ty7, m_sv, m_z0, m_hd, m_g0, m_gs, m_s0, m_ss, m_ap, m_an, forall_const, true_and, and_true, ne_eq, not_true_eq_false, not_false_eq_true, false_implies, true_implies, implies_true, eq_self, reduceCtorEq, Nat.reduceDiv, Nat.reduceMod, Int.reduceToNat, or_true, true_or, or_false, false_or, or_self, m_it, m_if, m_c1, m_01, m_02, m_03, m_04, m_10, m_12, m_13, m_14, m_20, m_21, m_23, m_24, m_30, m_31, m_32, m_34, m_40, m_41, m_42, m_43]
  refine w_lp (fun en h' => ∃ k : Int, en = [182, 429 * (j : Int), k, 0] ∧ 0 ≤ k ∧ k ≤ 404 ∧ QK P (r_T 0) J h' ∧ KR (r_T 0) h h') (fun en _ => (404 - en.getD 2 0).toNat) ⟨0, rfl, by omega, by omega, hQ, KR.rf⟩ ?_
  rintro en h1 ⟨k, rfl, k0_w, k1_w, q1_w, q2_w⟩
  refine ⟨?_, ?_⟩
  · show (404 - k).toNat < K
    omega
  simp only [wf_4, wf_40, wf_5, wf_50, wf_6, wl_1, wt_1, wu_1, wa_1, wl_4, wt_4, wu_4, wa_4, wl_5, wt_5, wu_5, wa_5, wl_6, wt_6, wu_6, wa_6, wl_9, wt_9, wu_9, wa_9, wl_10, wt_10, wu_10, wa_10, wl_11, wt_11, wu_11, wa_11, wl_13, wt_13, wu_13, wa_13, wl_14, wt_14, wu_14, wa_14, wl_15, wt_15, wu_15, wa_15, wl_16, wt_16, wu_16, wa_16, wl_17, wt_17, wu_17, wa_17, wl_20, wt_20, wu_20, wa_20, wl_21, wt_21, wu_21, wa_21, wl_22, wt_22, wu_22, wa_22, wl_23, wt_23, wu_23, wa_23, wl_24, wt_24, wu_24, wa_24, wl_26, wt_26, wu_26, wa_26, wl_27, wt_27, wu_27, wa_27, wl_28, wt_28, wu_28, wa_28, we_1, we_3, we_10, we_14, we_15, we_16, we_17, we_18, we_20, we_21, we_22, we_24, we_25, we_26, we_27, we_28, we_30, we_31, we_32, wc_20, wc_21, wc_22, wc_24, wc_25, wc_26, wc_27, wc_3, wc_4, wc_7, wc_28, wc_32, ws_1, ws_2, ws_3, ws_4, ws_9, ws_10, ws_11, ws_14, ws_15, ws_16, ws_27, ws_17, ws_20, ws_28, kc_0, kc_1, kn_1, kc_2, kn_2, kc_3, kc_4, kc_5, kc_6, kc_7, kc_8, kc_9, kc_10, kc_12, kc_13, kc_14, kc_16, kc_17, kc_18, kc_19, kc_20, kc_21, kc_22, kc_24, kc_28, kc_30, kc_32, kc_37, kc_40, kc_41, kc_42, kc_43, kc_45, kc_48, kc_56, kc_57, kc_59, kc_60, kc_61, kc_64, kc_73, kc_78, kc_91, kc_95, kc_96, kc_97, kc_98, kc_99, kc_100, kc_112, kc_122, kc_125, kc_126, kc_150, kc_162, kc_163, kc_168, kc_186, kc_190, kc_200, kc_250, kc_255, kc_355, kc_356, kc_404, kc_405, kc_429, kc_573, kc_999, kc_1000, kc_1002, kc_1100, kc_1891, kc_2200, kc_4719, kc_4869, kc_4881, kc_5148, kc_9999, kn_9999, kc_10000, kc_12345, kc_19741, kc_25433, kc_65536, kc_320403, kc_628412, kc_629093, kc_660401, kc_679843, kc_918640, kc_979410, kc_1178088, kc_6232410, kc_24644941, kc_36238189, kc_38270444, kc_392531318, kc_425693491, kc_1103515245, kc_1342154595, kc_2147483648, kc_42328242873, kc_891704255789, kc_1722105685577, kc_1858726030364, ct_0, ct_1, ct_2, ct_3, ct_4, ct_5, cf_0, cf_1, cf_2, cf_3, cf_4, cf_5, w_ty6, w_ty7, m_sv, m_z0, m_hd, m_g0, m_gs, m_s0, m_ss, m_ap, m_an, forall_const, true_and, and_true, ne_eq, not_true_eq_false, not_false_eq_true, false_implies, true_implies, implies_true, eq_self, reduceCtorEq, Nat.reduceDiv, Nat.reduceMod, Int.reduceToNat, or_true, true_or, or_false, false_or, or_self, m_it, m_if, m_c1, m_01, m_02, m_03, m_04, m_10, m_12, m_13, m_14, m_20, m_21, m_23, m_24, m_30, m_31, m_32, m_34, m_40, m_41, m_42, m_43]
  refine ⟨fun hk => ?_, fun hk => ?_⟩
  · simp (disch := omega) only [jadd, jinc]
    have e1_w : (429 * (j : Int) + k).toNat = 429 * j + k.toNat := by omega
    rw [e1_w]
    refine ⟨fun h78 => ?_, fun h78 => ?_⟩
    · obtain ⟨q3_w, q4_w⟩ := st_QK q1_w hJ (j := j) (i := k.toNat) (v := -1) hj (by omega) (st_init_ok (by omega) (by rw [if_pos (by omega)])) ⟨by decide, by decide⟩
      refine ⟨⟨by omega, by omega⟩, ⟨k + 1, rfl, by omega, by omega, q3_w, q2_w.tr q4_w⟩, ?_⟩
      show (404 - (k + 1)).toNat < (404 - k).toNat
      omega
    · obtain ⟨q3_w, q4_w⟩ := st_QK q1_w hJ (j := j) (i := k.toNat) (v := 0) hj (by omega) (st_init_ok (by omega) (by rw [if_neg (by omega)])) ⟨by decide, by decide⟩
      refine ⟨⟨by omega, by omega⟩, ⟨k + 1, rfl, by omega, by omega, q3_w, q2_w.tr q4_w⟩, ?_⟩
      show (404 - (k + 1)).toNat < (404 - k).toNat
      omega
  · refine w_lp (fun en h' => ∃ m z : Int, en = [182, 429 * (j : Int), m, z] ∧ 0 ≤ m ∧ m ≤ 6 ∧ QK P (r_T 0) J h' ∧ KR (r_T 0) h h') (fun en _ => (6 - en.getD 2 0).toNat) ⟨0, 0, rfl, by omega, by omega, q1_w, q2_w⟩ ?_
    rintro en h2 ⟨m, z, rfl, m0_w, m1_w, q3_w, q4_w⟩
    refine ⟨?_, ?_⟩
    · show (6 - m).toNat < K
      omega
    simp only [wf_4, wf_40, wf_5, wf_50, wf_6, wl_1, wt_1, wu_1, wa_1, wl_4, wt_4, wu_4, wa_4, wl_5, wt_5, wu_5, wa_5, wl_6, wt_6, wu_6, wa_6, wl_9, wt_9, wu_9, wa_9, wl_10, wt_10, wu_10, wa_10, wl_11, wt_11, wu_11, wa_11, wl_13, wt_13, wu_13, wa_13, wl_14, wt_14, wu_14, wa_14, wl_15, wt_15, wu_15, wa_15, wl_16, wt_16, wu_16, wa_16, wl_17, wt_17, wu_17, wa_17, wl_20, wt_20, wu_20, wa_20, wl_21, wt_21, wu_21, wa_21, wl_22, wt_22, wu_22, wa_22, wl_23, wt_23, wu_23, wa_23, wl_24, wt_24, wu_24, wa_24, wl_26, wt_26, wu_26, wa_26, wl_27, wt_27, wu_27, wa_27, wl_28, wt_28, wu_28, wa_28, we_1, we_3, we_10, we_14, we_15, we_16, we_17, we_18, we_20, we_21, we_22, we_24, we_25, we_26, we_27, we_28, we_30, we_31, we_32, wc_20, wc_21, wc_22, wc_24, wc_25, wc_26, wc_27, wc_3, wc_4, wc_7, wc_28, wc_32, ws_1, ws_2, ws_3, ws_4, ws_9, ws_10, ws_11, ws_14, ws_15, ws_16, ws_27, ws_17, ws_20, ws_28, kc_0, kc_1, kn_1, kc_2, kn_2, kc_3, kc_4, kc_5, kc_6, kc_7, kc_8, kc_9, kc_10, kc_12, kc_13, kc_14, kc_16, kc_17, kc_18, kc_19, kc_20, kc_21, kc_22, kc_24, kc_28, kc_30, kc_32, kc_37, kc_40, kc_41, kc_42, kc_43, kc_45, kc_48, kc_56, kc_57, kc_59, kc_60, kc_61, kc_64, kc_73, kc_78, kc_91, kc_95, kc_96, kc_97, kc_98, kc_99, kc_100, kc_112, kc_122, kc_125, kc_126, kc_150, kc_162, kc_163, kc_168, kc_186, kc_190, kc_200, kc_250, kc_255, kc_355, kc_356, kc_404, kc_405, kc_429, kc_573, kc_999, kc_1000, kc_1002, kc_1100, kc_1891, kc_2200, kc_4719, kc_4869, kc_4881, kc_5148, kc_9999, kn_9999, kc_10000, kc_12345, kc_19741, kc_25433, kc_65536, kc_320403, kc_628412, kc_629093, kc_660401, kc_679843, kc_918640, kc_979410, kc_1178088, kc_6232410, kc_24644941, kc_36238189, kc_38270444, kc_392531318, kc_425693491, kc_1103515245, kc_1342154595, kc_2147483648, kc_42328242873, kc_891704255789, kc_1722105685577, kc_1858726030364, ct_0, ct_1, ct_2, ct_3, ct_4, ct_5, cf_0, cf_1, cf_2, cf_3, cf_4, cf_5, w_ty6, w_ty7, m_sv, m_z0, m_hd, m_g0, m_gs, m_s0, m_ss, m_ap, m_an, forall_const, true_and, and_true, ne_eq, not_true_eq_false, not_false_eq_true, false_implies, true_implies, implies_true, eq_self, reduceCtorEq, Nat.reduceDiv, Nat.reduceMod, Int.reduceToNat, or_true, true_or, or_false, false_or, or_self, m_it, m_if, m_c1, m_01, m_02, m_03, m_04, m_10, m_12, m_13, m_14, m_20, m_21, m_23, m_24, m_30, m_31, m_32, m_34, m_40, m_41, m_42, m_43]
    obtain ⟨v, h3, e1_w, e2_w, e3_w, e4_w, e5_w, e6_w⟩ := use1 c228 rp_228 rr_228 q3_w il_this
    refine ⟨[v], h3, e1_w, fun hm_w => ?_, fun hm_w => ?_⟩
    · simp only [m_hd] at hm_w
      refine w_lp (fun en h' => ∃ s : Int, en = [182, 429 * (j : Int), m, s] ∧ 0 ≤ s ∧ s ≤ 12 ∧ QK P (r_T 0) J h' ∧ KR (r_T 0) h h') (fun en _ => (12 - en.getD 3 0).toNat) ⟨0, rfl, by omega, by omega, e2_w, q4_w.tr e3_w⟩ ?_
      rintro en h4 ⟨s, rfl, s0, s1_w, q5_w, q6_w⟩
      refine ⟨?_, ?_⟩
      · show (12 - s).toNat < K
        omega
      simp only [wf_4, wf_40, wf_5, wf_50, wf_6, wl_1, wt_1, wu_1, wa_1, wl_4, wt_4, wu_4, wa_4, wl_5, wt_5, wu_5, wa_5, wl_6, wt_6, wu_6, wa_6, wl_9, wt_9, wu_9, wa_9, wl_10, wt_10, wu_10, wa_10, wl_11, wt_11, wu_11, wa_11, wl_13, wt_13, wu_13, wa_13, wl_14, wt_14, wu_14, wa_14, wl_15, wt_15, wu_15, wa_15, wl_16, wt_16, wu_16, wa_16, wl_17, wt_17, wu_17, wa_17, wl_20, wt_20, wu_20, wa_20, wl_21, wt_21, wu_21, wa_21, wl_22, wt_22, wu_22, wa_22, wl_23, wt_23, wu_23, wa_23, wl_24, wt_24, wu_24, wa_24, wl_26, wt_26, wu_26, wa_26, wl_27, wt_27, wu_27, wa_27, wl_28, wt_28, wu_28, wa_28, we_1, we_3, we_10, we_14, we_15, we_16, we_17, we_18, we_20, we_21, we_22, we_24, we_25, we_26, we_27, we_28, we_30, we_31, we_32, wc_20, wc_21, wc_22, wc_24, wc_25, wc_26, wc_27, wc_3, wc_4, wc_7, wc_28, wc_32, ws_1, ws_2, ws_3, ws_4, ws_9, ws_10, ws_11, ws_14, ws_15, ws_16, ws_27, ws_17, ws_20, ws_28, kc_0, kc_1, kn_1, kc_2, kn_2, kc_3, kc_4, kc_5, kc_6, kc_7, kc_8, kc_9, kc_10, kc_12, kc_13, kc_14, kc_16, kc_17, kc_18, kc_19, kc_20, kc_21, kc_22, kc_24, kc_28, kc_30, kc_32, kc_37, kc_40, kc_41, kc_42, kc_43, kc_45, kc_48, kc_56, kc_57, kc_59, kc_60, kc_61, kc_64, kc_73, kc_78, kc_91, kc_95, kc_96, kc_97, kc_98, kc_99, kc_100, kc_112, kc_122, kc_125, kc_126, kc_150, kc_162, kc_163, kc_168, kc_186, kc_190, kc_200, kc_250, kc_255, kc_355, kc_356, kc_404, kc_405, kc_429, kc_573, kc_999, kc_1000, kc_1002, kc_1100, kc_1891, kc_2200, kc_4719, kc_4869, kc_4881, kc_5148, kc_9999, kn_9999, kc_10000, kc_12345, kc_19741, kc_25433, kc_65536, kc_320403, kc_628412, kc_629093, kc_660401, kc_679843, kc_918640, kc_979410, kc_1178088, kc_6232410, kc_24644941, kc_36238189, kc_38270444, kc_392531318, kc_425693491, kc_1103515245, kc_1342154595, kc_2147483648, kc_42328242873, kc_891704255789, kc_1722105685577, kc_1858726030364, ct_0, ct_1, ct_2, ct_3, ct_4, ct_5, cf_0, cf_1, cf_2, cf_3, cf_4, cf_5, w_ty6, w_ty7, m_sv, m_z0, m_hd, m_g0, m_gs, m_s0, m_ss, m_ap, m_an, forall_const, true_and, and_true, ne_eq, not_true_eq_false, not_false_eq_true, false_implies, true_implies, implies_true, eq_self, reduceCtorEq, Nat.reduceDiv, Nat.reduceMod, Int.reduceToNat, or_true, true_or, or_false, false_or, or_self, m_it, m_if, m_c1, m_01, m_02, m_03, m_04, m_10, m_12, m_13, m_14, m_20, m_21, m_23, m_24, m_30, m_31, m_32, m_34, m_40, m_41, m_42, m_43]
      refine ⟨fun hs => ?_, fun hs => ?_⟩
      · simp (disch := omega) only [jadd, jmul, jinc]
        have e7_w : (429 * (j : Int) + 78 + 12 * m + s).toNat = 429 * j + (78 + 12 * m + s).toNat := by omega
        rw [e7_w]
        obtain ⟨q7_w, q8_w⟩ := st_QK q5_w hJ (j := j) (i := (78 + 12 * m + s).toNat) (v := h4 188 (73 + 3 * m + 2).toNat) hj (by omega) (st_fit_ok (lo_w := 78) (hi_w := 150) (t := (1, 0, 3)) (by decide +kernel) (by omega) (by omega) (gr_met q5_w m0_w (by omega) (by decide) (by decide))) (ht_int q5_w.1 (by decide) _)
        refine ⟨⟨by omega, by omega⟩, ⟨by omega, by omega⟩, ⟨s + 1, rfl, by omega, by omega, q7_w, q6_w.tr q8_w⟩, ?_⟩
        show (12 - (s + 1)).toNat < (12 - s).toNat
        omega
      · simp (disch := omega) only [jinc]
        refine ⟨⟨m + 1, s, rfl, by omega, by omega, q5_w, q6_w⟩, ?_⟩
        show (6 - (m + 1)).toNat < (6 - m).toNat
        omega
    · refine w_lp (fun en h' => ∃ s : Int, en = [182, 429 * (j : Int), s, z] ∧ 0 ≤ s ∧ s ≤ 12 ∧ QK P (r_T 0) J h' ∧ KR (r_T 0) h h') (fun en _ => (12 - en.getD 2 0).toNat) ⟨0, rfl, by omega, by omega, e2_w, q4_w.tr e3_w⟩ ?_
      rintro en h4 ⟨s, rfl, s0, s1_w, q5_w, q6_w⟩
      refine ⟨?_, ?_⟩
      · show (12 - s).toNat < K
        omega
      simp only [wf_4, wf_40, wf_5, wf_50, wf_6, wl_1, wt_1, wu_1, wa_1, wl_4, wt_4, wu_4, wa_4, wl_5, wt_5, wu_5, wa_5, wl_6, wt_6, wu_6, wa_6, wl_9, wt_9, wu_9, wa_9, wl_10, wt_10, wu_10, wa_10, wl_11, wt_11, wu_11, wa_11, wl_13, wt_13, wu_13, wa_13, wl_14, wt_14, wu_14, wa_14, wl_15, wt_15, wu_15, wa_15, wl_16, wt_16, wu_16, wa_16, wl_17, wt_17, wu_17, wa_17, wl_20, wt_20, wu_20, wa_20, wl_21, wt_21, wu_21, wa_21, wl_22, wt_22, wu_22, wa_22, wl_23, wt_23, wu_23, wa_23, wl_24, wt_24, wu_24, wa_24, wl_26, wt_26, wu_26, wa_26, wl_27, wt_27, wu_27, wa_27, wl_28, wt_28, wu_28, wa_28, we_1, we_3, we_10, we_14, we_15, we_16, we_17, we_18, we_20, we_21, we_22, we_24, we_25, we_26, we_27, we_28, we_30, we_31, we_32, wc_20, wc_21, wc_22, wc_24, wc_25, wc_26, wc_27, wc_3, wc_4, wc_7, wc_28, wc_32, ws_1, ws_2, ws_3, ws_4, ws_9, ws_10, ws_11, ws_14, ws_15, ws_16, ws_27, ws_17, ws_20, ws_28, kc_0, kc_1, kn_1, kc_2, kn_2, kc_3, kc_4, kc_5, kc_6, kc_7, kc_8, kc_9, kc_10, kc_12, kc_13, kc_14, kc_16, kc_17, kc_18, kc_19, kc_20, kc_21, kc_22, kc_24, kc_28, kc_30, kc_32, kc_37, kc_40, kc_41, kc_42, kc_43, kc_45, kc_48, kc_56, kc_57, kc_59, kc_60, kc_61, kc_64, kc_73, kc_78, kc_91, kc_95, kc_96, kc_97, kc_98, kc_99, kc_100, kc_112, kc_122, kc_125, kc_126, kc_150, kc_162, kc_163, kc_168, kc_186, kc_190, kc_200, kc_250, kc_255, kc_355, kc_356, kc_404, kc_405, kc_429, kc_573, kc_999, kc_1000, kc_1002, kc_1100, kc_1891, kc_2200, kc_4719, kc_4869, kc_4881, kc_5148, kc_9999, kn_9999, kc_10000, kc_12345, kc_19741, kc_25433, kc_65536, kc_320403, kc_628412, kc_629093, kc_660401, kc_679843, kc_918640, kc_979410, kc_1178088, kc_6232410, kc_24644941, kc_36238189, kc_38270444, kc_392531318, kc_425693491, kc_1103515245, kc_1342154595, kc_2147483648, kc_42328242873, kc_891704255789, kc_1722105685577, kc_1858726030364, ct_0, ct_1, ct_2, ct_3, ct_4, ct_5, cf_0, cf_1, cf_2, cf_3, cf_4, cf_5, w_ty6, w_ty7, m_sv, m_z0, m_hd, m_g0, m_gs, m_s0, m_ss, m_ap, m_an, forall_const, true_and, and_true, ne_eq, not_true_eq_false, not_false_eq_true, false_implies, true_implies, implies_true, eq_self, reduceCtorEq, Nat.reduceDiv, Nat.reduceMod, Int.reduceToNat, or_true, true_or, or_false, false_or, or_self, m_it, m_if, m_c1, m_01, m_02, m_03, m_04, m_10, m_12, m_13, m_14, m_20, m_21, m_23, m_24, m_30, m_31, m_32, m_34, m_40, m_41, m_42, m_43]
      obtain ⟨w, h5, f1_w, f2_w, f3_w, f4_w, f5_w, f6_w⟩ := use1 c225 rp_225 rr_225 q5_w il_this
      refine ⟨[w], h5, f1_w, fun hs => ?_, fun hs => ⟨f2_w, q6_w.tr f3_w, trivial⟩⟩
      simp only [m_hd] at hs
      simp (disch := omega) only [jadd, jinc]
      have e7_w : (429 * (j : Int) + 150 + s).toNat = 429 * j + (150 + s).toNat := by omega
      rw [e7_w]
      obtain ⟨q7_w, q8_w⟩ := st_QK f2_w hJ (j := j) (i := (150 + s).toNat) (v := h5 188 (5 + s).toNat) hj (by omega) (st_fit_ok (lo_w := 150) (hi_w := 162) (t := (1, 0, 9999)) (by decide +kernel) (by omega) (by omega) (gr_feed f2_w s0 (by omega))) (ht_int f2_w.1 (by decide) _)
      refine ⟨⟨by omega, by omega⟩, ⟨by omega, by omega⟩, ⟨s + 1, rfl, by omega, by omega, q7_w, (q6_w.tr f3_w).tr q8_w⟩, ?_⟩
      show (12 - (s + 1)).toNat < (12 - s).toNat
      omega
/-- a field_w of the reference_w is_w written_w -/
theorem fd_QK (hQ : QK P (r_T 0) J h) (hJ : JS (r_T 0) J) {k : Nat} {v : Int} (hk : (r_F k).1 = 1 ∨ (r_F k).1 = 2) (hv : IV P (r_F k) v) : QK P (r_T 0) J (j_up h 182 k v) ∧ KR (r_T 0) h (j_up h 182 k v) :=
  ⟨⟨fld_HT (T := r_T 0) (r_tab 0) hQ.1 hk hv, RI.fld hJ rfl hQ.2 hv⟩, KR.up rfl⟩
theorem q_undos (hQ : QK P (r_T 0) J h) : 0 ≤ h 182 18 ∧ h 182 18 ≤ 8 := by
  have k : IV P (1, 0, 8) (h 182 18) := hQ.2.1 18
  exact ⟨k.1, k.2.1⟩
theorem m_242 (hJ : JS (r_T 0) J) (hK_w : 4294967300 ≤ K) (hQ : QK P (r_T 0) J h) : ∃ r h', evF xs L ck K cW g_M (n + 2) 242 [182] ((a_g3, g), h) = some (1, r, ((a_g3, g), h')) ∧ QK P (r_T 0) J h' ∧ KR (r_T 0) h h' ∧ (∀ p, p < 858 → h' 194 p = h 194 p) ∧ r = [] := by
  refine tr_of gm_242 (B := fun r h' => QK P (r_T 0) J h' ∧ KR (r_T 0) h h' ∧ (∀ p, p < 858 → h' 194 p = h 194 p) ∧ r = []) ?_
  show wS _ _ K bb_242 [182, 0] h _
  have c224 := fun (h : XH) (hQ : QK P (r_T 0) J h) i j (hi_w : i < 12) (hj : j < 12) => m_224 (xs := xs) (L := L) (ck := ck) (cW := cW) (n := n) (g := g) (m := 404) hJ hK_w hQ hi_w hj (by decide) (by decide)
  generalize evF xs L ck K cW g_M (n + 1) = F at c224 ⊢
  have fin_w : ∀ h1, QK P (r_T 0) J h1 → KR (r_T 0) h h1 → (∀ p, p < 858 → h1 194 p = h 194 p) → h1 182 18 < 8 → ∃ r h2, F 224 [182, 0, j_iop 2 429 (j_iop 0 3 (h1 182 18)), 404] ((a_g3, g), h1) = some (1, r, ((a_g3, g), h2)) ∧ QK P (r_T 0) J (j_up h2 182 18 (j_iop 0 (h2 182 18) 1)) ∧ KR (r_T 0) h (j_up h2 182 18 (j_iop 0 (h2 182 18) 1)) ∧ (∀ p, p < 858 → j_up h2 182 18 (j_iop 0 (h2 182 18) 1) 194 p = h 194 p) := by
    intro h1 q1_w q2_w q9_w q3_w
    have u := q_undos q1_w
    obtain ⟨r, h2, e1_w, e2_w, e3_w, e4_w, e5_w, -⟩ := c224 h1 q1_w 0 (3 + (h1 182 18).toNat) (by decide) (by omega)
    refine ⟨r, h2, ?_, ?_⟩
    · simp (disch := omega) only [jadd, jmul]
      have k1_w : 429 * (3 + h1 182 18) = 429 * ((3 + (h1 182 18).toNat : Nat) : Int) := by omega
      rw [k1_w]
      exact e1_w
    · have k2 := e4_w 182 18 (by decide)
      rw [k2]
      simp (disch := omega) only [jadd]
      obtain ⟨z1, z2⟩ := fd_QK e2_w hJ (k := 18) (v := h1 182 18 + 1) (Or.inl rfl) ⟨by omega, by omega, by omega, by omega⟩
      exact ⟨z1, (q2_w.tr e3_w).tr z2, fun p hp => (up_ne (fun z => absurd z.1 (by decide))).trans ((e5_w p (Or.inl (by omega))).trans (q9_w p hp))⟩
  unfold bb_242
  simp only [wf_4, wf_40, wf_5, wf_50, wf_6, wl_1, wt_1, wu_1, wa_1, wl_4, wt_4, wu_4, wa_4, wl_5, wt_5, wu_5, wa_5, wl_6, wt_6, wu_6, wa_6, wl_9, wt_9, wu_9, wa_9, wl_10, wt_10, wu_10, wa_10, wl_11, wt_11, wu_11, wa_11, wl_13, wt_13, wu_13, wa_13, wl_14, wt_14, wu_14, wa_14, wl_15, wt_15, wu_15, wa_15, wl_16, wt_16, wu_16, wa_16, wl_17, wt_17, wu_17, wa_17, wl_20, wt_20, wu_20, wa_20, wl_21, wt_21, wu_21, wa_21, wl_22, wt_22, wu_22, wa_22, wl_23, wt_23, wu_23, wa_23, wl_24, wt_24, wu_24, wa_24, wl_26, wt_26, wu_26, wa_26, wl_27, wt_27, wu_27, wa_27, wl_28, wt_28, wu_28, wa_28, we_1, we_3, we_10, we_14, we_15, we_16, we_17, we_18, we_20, we_21, we_22, we_24, we_25, we_26, we_27, we_28, we_30, we_31, we_32, wc_20, wc_21, wc_22, wc_24, wc_25, wc_26, wc_27, wc_3, wc_4, wc_7, wc_28, wc_32, ws_1, ws_2, ws_3, ws_4, ws_9, ws_10, ws_11, ws_14, ws_15, ws_16, ws_27, ws_17, ws_20, ws_28, kc_0, kc_1, kn_1, kc_2, kn_2, kc_3, kc_4, kc_5, kc_6, kc_7, kc_8, kc_9, kc_10, kc_12, kc_13, kc_14, kc_16, kc_17, kc_18, kc_19, kc_20, kc_21, kc_22, kc_24, kc_28, kc_30, kc_32, kc_37, kc_40, kc_41, kc_42, kc_43, kc_45, kc_48, kc_56, kc_57, kc_59, kc_60, kc_61, kc_64, kc_73, kc_78, kc_91, kc_95, kc_96, kc_97, kc_98, kc_99, kc_100, kc_112, kc_122, kc_125, kc_126, kc_150, kc_162, kc_163, kc_168, kc_186, kc_190, kc_200, kc_250, kc_255, kc_355, kc_356, kc_404, kc_405, kc_429, kc_573, kc_999, kc_1000, kc_1002, kc_1100, kc_1891, kc_2200, kc_4719, kc_4869, kc_4881, kc_5148, kc_9999, kn_9999, kc_10000, kc_12345, kc_19741, kc_25433, kc_65536, kc_320403, kc_628412, kc_629093, kc_660401, kc_679843, kc_918640, kc_979410, kc_1178088, kc_6232410, kc_24644941, kc_36238189, kc_38270444, kc_392531318, kc_425693491, kc_1103515245, kc_1342154595, kc_2147483648, kc_42328242873, kc_891704255789, kc_1722105685577, kc_1858726030364, ct_0, ct_1, ct_2, ct_3, ct_4, ct_5, cf_0, cf_1, cf_2, cf_3, cf_4, cf_5, w_ty6, w_ty7, m_sv, m_z0, m_hd, m_g0, m_gs, m_s0, m_ss, m_ap, m_an, forall_const, true_and, and_true, ne_eq, not_true_eq_false, not_false_eq_true, false_implies, true_implies, implies_true, eq_self, reduceCtorEq, Nat.reduceDiv, Nat.reduceMod, Int.reduceToNat, or_true, true_or, or_false, false_or, or_self, m_it, m_if, m_c1, m_01, m_02, m_03, m_04, m_10, m_12, m_13, m_14, m_20, m_21, m_23, m_24, m_30, m_31, m_32, m_34, m_40, m_41, m_42, m_43]
  have u := q_undos hQ
  refine ⟨fun h8 => ?_, fun h8 => ?_⟩
  · refine w_lp (fun en h' => ∃ k : Int, en = [182, k] ∧ 1 ≤ k ∧ k ≤ 8 ∧ QK P (r_T 0) J h' ∧ KR (r_T 0) h h' ∧ h' 182 18 = 8 ∧ (∀ p, p < 858 → h' 194 p = h 194 p)) (fun en _ => (8 - en.getD 1 0).toNat) ⟨1, rfl, by omega, by omega, hQ, KR.rf, h8, fun _ _ => rfl⟩ ?_
    rintro en h1 ⟨k, rfl, k0_w, k1_w, q1_w, q2_w, q3_w, q4_w⟩
    refine ⟨?_, ?_⟩
    · show (8 - k).toNat < K
      omega
    simp only [wf_4, wf_40, wf_5, wf_50, wf_6, wl_1, wt_1, wu_1, wa_1, wl_4, wt_4, wu_4, wa_4, wl_5, wt_5, wu_5, wa_5, wl_6, wt_6, wu_6, wa_6, wl_9, wt_9, wu_9, wa_9, wl_10, wt_10, wu_10, wa_10, wl_11, wt_11, wu_11, wa_11, wl_13, wt_13, wu_13, wa_13, wl_14, wt_14, wu_14, wa_14, wl_15, wt_15, wu_15, wa_15, wl_16, wt_16, wu_16, wa_16, wl_17, wt_17, wu_17, wa_17, wl_20, wt_20, wu_20, wa_20, wl_21, wt_21, wu_21, wa_21, wl_22, wt_22, wu_22, wa_22, wl_23, wt_23, wu_23, wa_23, wl_24, wt_24, wu_24, wa_24, wl_26, wt_26, wu_26, wa_26, wl_27, wt_27, wu_27, wa_27, wl_28, wt_28, wu_28, wa_28, we_1, we_3, we_10, we_14, we_15, we_16, we_17, we_18, we_20, we_21, we_22, we_24, we_25, we_26, we_27, we_28, we_30, we_31, we_32, wc_20, wc_21, wc_22, wc_24, wc_25, wc_26, wc_27, wc_3, wc_4, wc_7, wc_28, wc_32, ws_1, ws_2, ws_3, ws_4, ws_9, ws_10, ws_11, ws_14, ws_15, ws_16, ws_27, ws_17, ws_20, ws_28, kc_0, kc_1, kn_1, kc_2, kn_2, kc_3, kc_4, kc_5, kc_6, kc_7, kc_8, kc_9, kc_10, kc_12, kc_13, kc_14, kc_16, kc_17, kc_18, kc_19, kc_20, kc_21, kc_22, kc_24, kc_28, kc_30, kc_32, kc_37, kc_40, kc_41, kc_42, kc_43, kc_45, kc_48, kc_56, kc_57, kc_59, kc_60, kc_61, kc_64, kc_73, kc_78, kc_91, kc_95, kc_96, kc_97, kc_98, kc_99, kc_100, kc_112, kc_122, kc_125, kc_126, kc_150, kc_162, kc_163, kc_168, kc_186, kc_190, kc_200, kc_250, kc_255, kc_355, kc_356, kc_404, kc_405, kc_429, kc_573, kc_999, kc_1000, kc_1002, kc_1100, kc_1891, kc_2200, kc_4719, kc_4869, kc_4881, kc_5148, kc_9999, kn_9999, kc_10000, kc_12345, kc_19741, kc_25433, kc_65536, kc_320403, kc_628412, kc_629093, kc_660401, kc_679843, kc_918640, kc_979410, kc_1178088, kc_6232410, kc_24644941, kc_36238189, kc_38270444, kc_392531318, kc_425693491, kc_1103515245, kc_1342154595, kc_2147483648, kc_42328242873, kc_891704255789, kc_1722105685577, kc_1858726030364, ct_0, ct_1, ct_2, ct_3, ct_4, ct_5, cf_0, cf_1, cf_2, cf_3, cf_4, cf_5, w_ty6, w_ty7, m_sv, m_z0, m_hd, m_g0, m_gs, m_s0, m_ss, m_ap, m_an, forall_const, true_and, and_true, ne_eq, not_true_eq_false, not_false_eq_true, false_implies, true_implies, implies_true, eq_self, reduceCtorEq, Nat.reduceDiv, Nat.reduceMod, Int.reduceToNat, or_true, true_or, or_false, false_or, or_self, m_it, m_if, m_c1, m_01, m_02, m_03, m_04, m_10, m_12, m_13, m_14, m_20, m_21, m_23, m_24, m_30, m_31, m_32, m_34, m_40, m_41, m_42, m_43]
    refine ⟨fun hk => ?_, fun hk => ?_⟩
    · obtain ⟨r, h2, e1_w, e2_w, e3_w, e4_w, e5_w, -⟩ := c224 h1 q1_w (3 + k.toNat) (2 + k.toNat) (by omega) (by omega)
      simp (disch := omega) only [jadd, jsub, jmul, jinc]
      refine ⟨r, h2, ?_, ⟨k + 1, rfl, by omega, by omega, e2_w, q2_w.tr e3_w, (e4_w 182 18 (by decide)).trans q3_w, fun p hp => (e5_w p (Or.inl (by omega))).trans (q4_w p hp)⟩, ?_⟩
      · rw [show 429 * (3 + k) = 429 * ((3 + k.toNat : Nat) : Int) by omega, show 429 * (3 + k - 1) = 429 * ((2 + k.toNat : Nat) : Int) by omega]
        exact e1_w
      · show (8 - (k + 1)).toNat < (8 - k).toNat
        omega
    · rw [q3_w]
      have e8 : j_iop 1 8 1 = 7 := by decide
      rw [e8]
      obtain ⟨z1, z2⟩ := fd_QK q1_w hJ (k := 18) (v := 7) (Or.inl rfl) ⟨by decide, by decide, by decide, by decide⟩
      obtain ⟨r, h2, f1_w, f2_w, f3_w⟩ := fin_w _ z1 (q2_w.tr z2) (fun p hp => (up_ne (fun z => absurd z.1 (by decide))).trans (q4_w p hp)) (by rw [up_eq]; decide)
      exact ⟨r, h2, f1_w, f2_w, f3_w.1, f3_w.2⟩
  · obtain ⟨r, h2, f1_w, f2_w, f3_w⟩ := fin_w h hQ KR.rf (fun _ _ => rfl) (by omega)
    exact ⟨r, h2, f1_w, f2_w, f3_w.1, f3_w.2⟩
theorem t_242 (hJ : JS (r_T 0) J) (hK_w : 4294967300 ≤ K) : TotR P (r_T 0) J g (evF xs L ck K cW g_M (n + 2)) 242 := by
  intro av h hQ hv
  rw [rp_242] at hv
  obtain ⟨x, rfl, hx⟩ := il1 hv
  obtain rfl : x = 182 := hx
  obtain ⟨r, h', e1_w, e2_w, e3_w, -, rfl⟩ := m_242 (xs := xs) (L := L) (ck := ck) (cW := cW) (n := n) (g := g) hJ hK_w hQ
  exact ⟨[], h', e1_w, e2_w, e3_w, by rw [rr_242]; trivial, fun k => absurd rfl k⟩
end HA2
end
section
/-! ===== the reference's methods by hand_w: what a meter used_w ===== -/
def S232 (P : Int × Int) (J : XH → Prop) (g : Nat × Nat) (F : XP) : Prop := ∀ (h : XH) (c s : Int), QK P (r_T 0) J h → IV P (6, 0, 0) c → 0 ≤ s → s ≤ 12 → ∃ v, F 232 [182, c, s] ((a_g3, g), h) = some (1, [v], ((a_g3, g), h)) ∧ IV P (1, 0, 99) v
def S244 (P : Int × Int) (J : XH → Prop) (g : Nat × Nat) (F : XP) : Prop := ∀ (h : XH) (b m f : Int), QK P (r_T 0) J h → IV P (3, 0, 0) b → IV P (5, 0, 0) m → -1 ≤ f → f ≤ 12 → ∃ v h', F 244 [182, b, m, f] ((a_g3, g), h) = some (1, [v], ((a_g3, g), h')) ∧ QK P (r_T 0) J h' ∧ KR (r_T 0) h h' ∧ -1 ≤ v ∧ v ≤ f
def S245 (P : Int × Int) (J : XH → Prop) (g : Nat × Nat) (F : XP) : Prop := ∀ (h : XH) (b m f : Int), QK P (r_T 0) J h → IV P (3, 0, 0) b → IV P (5, 0, 0) m → 0 ≤ f → f ≤ 12 → ∃ v h', F 245 [182, b, m, f] ((a_g3, g), h) = some (1, [v], ((a_g3, g), h')) ∧ QK P (r_T 0) J h' ∧ KR (r_T 0) h h' ∧ (v = -1 ∨ f < v ∧ v ≤ 12)
def S247 (P : Int × Int) (J : XH → Prop) (g : Nat × Nat) (F : XP) : Prop := ∀ (h : XH) (c f t e : Int), QK P (r_T 0) J h → IV P (6, 0, 0) c → 0 ≤ f → f ≤ 12 → 0 ≤ t → t ≤ 13 → 0 ≤ e → e ≤ 12 → ∃ v h', F 247 [182, c, f, t, e] ((a_g3, g), h) = some (1, [v], ((a_g3, g), h')) ∧ QK P (r_T 0) J h' ∧ KR (r_T 0) h h' ∧ InI v ∧ (f < e → e ≤ t → 1 ≤ v)
def S248 (P : Int × Int) (J : XH → Prop) (g : Nat × Nat) (F : XP) : Prop := ∀ (h : XH) (b m f t e : Int), QK P (r_T 0) J h → IV P (3, 0, 0) b → IV P (5, 0, 0) m → 0 ≤ f → f < e → e ≤ 12 → 0 ≤ t → t ≤ 13 → ∃ v h', F 248 [182, b, m, f, t, e] ((a_g3, g), h) = some (1, [v], ((a_g3, g), h')) ∧ QK P (r_T 0) J h' ∧ KR (r_T 0) h h' ∧ InI v
section HA3
variable {P : Int × Int} {g : Nat × Nat} {xs : Nat → Int} {L K n : Nat} {ck : Nat → List Nat} {cW : Nat → Nat → Int} {h : XH} {J : XH → Prop}
theorem s_232 : S232 P (RJ P) g (evF xs L ck K cW g_M (n + 1)) := fun h c s hQ hc_w s0 s1_w => by
  obtain ⟨r, h', e1_w, rfl, v, rfl, e2_w⟩ := m_232 (xs := xs) (L := L) (ck := ck) (cW := cW) (n := n) (K := K) (g := g) hQ hc_w s0 s1_w
  exact ⟨v, e1_w, e2_w⟩
theorem il_bmp {b m p : Int} (hb_w : IV P (3, 0, 0) b) (hm_w : IV P (5, 0, 0) m) (p0 : 0 ≤ p) (p1_w : p ≤ 12) : IL P [(4, 182, 182), (3, 0, 0), (5, 0, 0), (1, 0, 12)] [182, b, m, p] := ⟨rfl, hb_w, hm_w, ⟨p0, p1_w, ⟨by omega, by omega⟩⟩, trivial⟩
theorem s_244 (hK_w : 4294967300 ≤ K) (c243 : TotR P (r_T 0) J g (evF xs L ck K cW g_M n) 243) : S244 P J g (evF xs L ck K cW g_M (n + 1)) := fun h b m f hQ hb_w hm_w f0_w f1_w => by
  suffices hs : ∃ r h', evF xs L ck K cW g_M (n + 1) 244 [182, b, m, f] ((a_g3, g), h) = some (1, r, ((a_g3, g), h')) ∧ QK P (r_T 0) J h' ∧ KR (r_T 0) h h' ∧ ∃ v, r = [v] ∧ -1 ≤ v ∧ v ≤ f by
    obtain ⟨r, h', e1_w, e2_w, e3_w, v, rfl, e4_w⟩ := hs
    exact ⟨v, h', e1_w, e2_w, e3_w, e4_w⟩
  refine tr_of gm_244 (B := fun r h' => QK P (r_T 0) J h' ∧ KR (r_T 0) h h' ∧ ∃ v, r = [v] ∧ -1 ≤ v ∧ v ≤ f) ?_
  show wS _ _ K bb_244 [182, b, m, f, 0] h _
  generalize evF xs L ck K cW g_M n = F at c243 ⊢
  unfold bb_244
  simp only [wf_4, wf_40, wf_5, wf_50, wf_6, wl_1, wt_1, wu_1, wa_1, wl_4, wt_4, wu_4, wa_4, wl_5, wt_5, wu_5, wa_5, wl_6, wt_6, wu_6, wa_6, wl_9, wt_9, wu_9, wa_9, wl_10, wt_10, wu_10, wa_10, wl_11, wt_11, wu_11, wa_11, wl_13, wt_13, wu_13, wa_13, wl_14, wt_14, wu_14, wa_14, wl_15, wt_15, wu_15, wa_15, wl_16, wt_16, wu_16, wa_16, wl_17, wt_17, wu_17, wa_17, wl_20, wt_20, wu_20, wa_20, wl_21, wt_21, wu_21, wa_21, wl_22, wt_22, wu_22, wa_22, wl_23, wt_23, wu_23, wa_23, wl_24, wt_24, wu_24, wa_24, wl_26, wt_26, wu_26, wa_26, wl_27, wt_27, wu_27, wa_27, wl_28, wt_28, wu_28, wa_28, we_1, we_3, we_10, we_14, we_15, we_16, we_17, we_18, we_20, we_21, we_22, we_24, we_25, we_26, we_27, we_28, we_30, we_31, we_32, wc_20, wc_21, wc_22, wc_24, wc_25, wc_26, wc_27, wc_3, wc_4, wc_7, wc_28, wc_32, ws_1, ws_2, ws_3, ws_4, ws_9, ws_10, ws_11, ws_14, ws_15, ws_16, ws_27, ws_17, ws_20, ws_28, kc_0, kc_1, kn_1, kc_2, kn_2, kc_3, kc_4, kc_5, kc_6, kc_7, kc_8, kc_9, kc_10, kc_12, kc_13, kc_14, kc_16, kc_17, kc_18, kc_19, kc_20, kc_21, kc_22, kc_24, kc_28, kc_30, kc_32, kc_37, kc_40, kc_41, kc_42, kc_43, kc_45, kc_48, kc_56, kc_57, kc_59, kc_60, kc_61, kc_64, kc_73, kc_78, kc_91, kc_95, kc_96, kc_97, kc_98, kc_99, kc_100, kc_112, kc_122, kc_125, kc_126, kc_150, kc_162, kc_163, kc_168, kc_186, kc_190, kc_200, kc_250, kc_255, kc_355, kc_356, kc_404, kc_405, kc_429, kc_573, kc_999, kc_1000, kc_1002, kc_1100, kc_1891, kc_2200, kc_4719, kc_4869, kc_4881, kc_5148, kc_9999, kn_9999, kc_10000, kc_12345, kc_19741, kc_25433, kc_65536, kc_320403, kc_628412, kc_629093, kc_660401, kc_679843, kc_918640, kc_979410, kc_1178088, kc_6232410, kc_24644941, kc_36238189, kc_38270444, kc_392531318, kc_425693491, kc_1103515245, kc_1342154595, kc_2147483648, kc_42328242873, kc_891704255789, kc_1722105685577, kc_1858726030364, ct_0, ct_1, ct_2, ct_3, ct_4, ct_5, cf_0, cf_1, cf_2, cf_3, cf_4, cf_5, w_ty6, w_ty7, m_sv, m_z0, m_hd, m_g0, m_gs, m_s0, m_ss, m_ap, m_an, forall_const, true_and, and_true, ne_eq, not_true_eq_false, not_false_eq_true, false_implies, true_implies, implies_true, eq_self, reduceCtorEq, Nat.reduceDiv, Nat.reduceMod, Int.reduceToNat, or_true, true_or, or_false, false_or, or_self, m_it, m_if, m_c1, m_01, m_02, m_03, m_04, m_10, m_12, m_13, m_14, m_20, m_21, m_23, m_24, m_30, m_31, m_32, m_34, m_40, m_41, m_42, m_43]
  refine w_lp (fun en h' => ∃ p : Int, en = [182, b, m, f, p] ∧ -1 ≤ p ∧ p ≤ f ∧ QK P (r_T 0) J h' ∧ KR (r_T 0) h h') (fun en _ => (en.getD 4 0 + 1).toNat) ⟨f, rfl, f0_w, by omega, hQ, KR.rf⟩ ?_
  rintro en h1 ⟨p, rfl, p0, p1_w, q1_w, q2_w⟩
  refine ⟨?_, ?_⟩
  · show (p + 1).toNat < K
    omega
  simp only [wf_4, wf_40, wf_5, wf_50, wf_6, wl_1, wt_1, wu_1, wa_1, wl_4, wt_4, wu_4, wa_4, wl_5, wt_5, wu_5, wa_5, wl_6, wt_6, wu_6, wa_6, wl_9, wt_9, wu_9, wa_9, wl_10, wt_10, wu_10, wa_10, wl_11, wt_11, wu_11, wa_11, wl_13, wt_13, wu_13, wa_13, wl_14, wt_14, wu_14, wa_14, wl_15, wt_15, wu_15, wa_15, wl_16, wt_16, wu_16, wa_16, wl_17, wt_17, wu_17, wa_17, wl_20, wt_20, wu_20, wa_20, wl_21, wt_21, wu_21, wa_21, wl_22, wt_22, wu_22, wa_22, wl_23, wt_23, wu_23, wa_23, wl_24, wt_24, wu_24, wa_24, wl_26, wt_26, wu_26, wa_26, wl_27, wt_27, wu_27, wa_27, wl_28, wt_28, wu_28, wa_28, we_1, we_3, we_10, we_14, we_15, we_16, we_17, we_18, we_20, we_21, we_22, we_24, we_25, we_26, we_27, we_28, we_30, we_31, we_32, wc_20, wc_21, wc_22, wc_24, wc_25, wc_26, wc_27, wc_3, wc_4, wc_7, wc_28, wc_32, ws_1, ws_2, ws_3, ws_4, ws_9, ws_10, ws_11, ws_14, ws_15, ws_16, ws_27, ws_17, ws_20, ws_28, kc_0, kc_1, kn_1, kc_2, kn_2, kc_3, kc_4, kc_5, kc_6, kc_7, kc_8, kc_9, kc_10, kc_12, kc_13, kc_14, kc_16, kc_17, kc_18, kc_19, kc_20, kc_21, kc_22, kc_24, kc_28, kc_30, kc_32, kc_37, kc_40, kc_41, kc_42, kc_43, kc_45, kc_48, kc_56, kc_57, kc_59, kc_60, kc_61, kc_64, kc_73, kc_78, kc_91, kc_95, kc_96, kc_97, kc_98, kc_99, kc_100, kc_112, kc_122, kc_125, kc_126, kc_150, kc_162, kc_163, kc_168, kc_186, kc_190, kc_200, kc_250, kc_255, kc_355, kc_356, kc_404, kc_405, kc_429, kc_573, kc_999, kc_1000, kc_1002, kc_1100, kc_1891, kc_2200, kc_4719, kc_4869, kc_4881, kc_5148, kc_9999, kn_9999, kc_10000, kc_12345, kc_19741, kc_25433, kc_65536, kc_320403, kc_628412, kc_629093, kc_660401, kc_679843, kc_918640, kc_979410, kc_1178088, kc_6232410, kc_24644941, kc_36238189, kc_38270444, kc_392531318, kc_425693491, kc_1103515245, kc_1342154595, kc_2147483648, kc_42328242873, kc_891704255789, kc_1722105685577, kc_1858726030364, ct_0, ct_1, ct_2, ct_3, ct_4, ct_5, cf_0, cf_1, cf_2, cf_3, cf_4, cf_5, w_ty6, w_ty7, m_sv, m_z0, m_hd, m_g0, m_gs, m_s0, m_ss, m_ap, m_an, forall_const, true_and, and_true, ne_eq, not_true_eq_false, not_false_eq_true, false_implies, true_implies, implies_true, eq_self, reduceCtorEq, Nat.reduceDiv, Nat.reduceMod, Int.reduceToNat, or_true, true_or, or_false, false_or, or_self, m_it, m_if, m_c1, m_01, m_02, m_03, m_04, m_10, m_12, m_13, m_14, m_20, m_21, m_23, m_24, m_30, m_31, m_32, m_34, m_40, m_41, m_42, m_43]
  refine ⟨fun hp => ?_, fun hp => ⟨q1_w, q2_w, p, rfl, p0, p1_w⟩⟩
  obtain ⟨v, h2, e1_w, e2_w, e3_w, e4_w⟩ := use1 c243 rp_243 rr_243 q1_w (il_bmp hb_w hm_w hp (by omega))
  refine ⟨[v], h2, e1_w, fun hv => ?_, fun hv => ⟨e2_w, q2_w.tr e3_w, p, rfl, p0, p1_w⟩⟩
  rw [show j32 (p + -1) = p - 1 from jdec (by omega) (by omega)]
  refine ⟨⟨p - 1, rfl, by omega, by omega, e2_w, q2_w.tr e3_w⟩, ?_⟩
  show (p - 1 + 1).toNat < (p + 1).toNat
  omega
theorem s_245 (hK_w : 4294967300 ≤ K) (c243 : TotR P (r_T 0) J g (evF xs L ck K cW g_M n) 243) (c225 : TotR P (r_T 0) J g (evF xs L ck K cW g_M n) 225) : S245 P J g (evF xs L ck K cW g_M (n + 1)) := fun h b m f hQ hb_w hm_w f0_w f1_w => by
  suffices hs : ∃ r h', evF xs L ck K cW g_M (n + 1) 245 [182, b, m, f] ((a_g3, g), h) = some (1, r, ((a_g3, g), h')) ∧ QK P (r_T 0) J h' ∧ KR (r_T 0) h h' ∧ ∃ v, r = [v] ∧ (v = -1 ∨ f < v ∧ v ≤ 12) by
    obtain ⟨r, h', e1_w, e2_w, e3_w, v, rfl, e4_w⟩ := hs
    exact ⟨v, h', e1_w, e2_w, e3_w, e4_w⟩
  refine tr_of gm_245 (B := fun r h' => QK P (r_T 0) J h' ∧ KR (r_T 0) h h' ∧ ∃ v, r = [v] ∧ (v = -1 ∨ f < v ∧ v ≤ 12)) ?_
  show wS _ _ K bb_245 [182, b, m, f, 0] h _
  generalize evF xs L ck K cW g_M n = F at c243 c225 ⊢
  unfold bb_245
  simp only [wf_4, wf_40, wf_5, wf_50, wf_6, wl_1, wt_1, wu_1, wa_1, wl_4, wt_4, wu_4, wa_4, wl_5, wt_5, wu_5, wa_5, wl_6, wt_6, wu_6, wa_6, wl_9, wt_9, wu_9, wa_9, wl_10, wt_10, wu_10, wa_10, wl_11, wt_11, wu_11, wa_11, wl_13, wt_13, wu_13, wa_13, wl_14, wt_14, wu_14, wa_14, wl_15, wt_15, wu_15, wa_15, wl_16, wt_16, wu_16, wa_16, wl_17, wt_17, wu_17, wa_17, wl_20, wt_20, wu_20, wa_20, wl_21, wt_21, wu_21, wa_21, wl_22, wt_22, wu_22, wa_22, wl_23, wt_23, wu_23, wa_23, wl_24, wt_24, wu_24, wa_24, wl_26, wt_26, wu_26, wa_26, wl_27, wt_27, wu_27, wa_27, wl_28, wt_28, wu_28, wa_28, we_1, we_3, we_10, we_14, we_15, we_16, we_17, we_18, we_20, we_21, we_22, we_24, we_25, we_26, we_27, we_28, we_30, we_31, we_32, wc_20, wc_21, wc_22, wc_24, wc_25, wc_26, wc_27, wc_3, wc_4, wc_7, wc_28, wc_32, ws_1, ws_2, ws_3, ws_4, ws_9, ws_10, ws_11, ws_14, ws_15, ws_16, ws_27, ws_17, ws_20, ws_28, kc_0, kc_1, kn_1, kc_2, kn_2, kc_3, kc_4, kc_5, kc_6, kc_7, kc_8, kc_9, kc_10, kc_12, kc_13, kc_14, kc_16, kc_17, kc_18, kc_19, kc_20, kc_21, kc_22, kc_24, kc_28, kc_30, kc_32, kc_37, kc_40, kc_41, kc_42, kc_43, kc_45, kc_48, kc_56, kc_57, kc_59, kc_60, kc_61, kc_64, kc_73, kc_78, kc_91, kc_95, kc_96, kc_97, kc_98, kc_99, kc_100, kc_112, kc_122, kc_125, kc_126, kc_150, kc_162, kc_163, kc_168, kc_186, kc_190, kc_200, kc_250, kc_255, kc_355, kc_356, kc_404, kc_405, kc_429, kc_573, kc_999, kc_1000, kc_1002, kc_1100, kc_1891, kc_2200, kc_4719, kc_4869, kc_4881, kc_5148, kc_9999, kn_9999, kc_10000, kc_12345, kc_19741, kc_25433, kc_65536, kc_320403, kc_628412, kc_629093, kc_660401, kc_679843, kc_918640, kc_979410, kc_1178088, kc_6232410, kc_24644941, kc_36238189, kc_38270444, kc_392531318, kc_425693491, kc_1103515245, kc_1342154595, kc_2147483648, kc_42328242873, kc_891704255789, kc_1722105685577, kc_1858726030364, ct_0, ct_1, ct_2, ct_3, ct_4, ct_5, cf_0, cf_1, cf_2, cf_3, cf_4, cf_5, w_ty6, w_ty7, m_sv, m_z0, m_hd, m_g0, m_gs, m_s0, m_ss, m_ap, m_an, forall_const, true_and, and_true, ne_eq, not_true_eq_false, not_false_eq_true, false_implies, true_implies, implies_true, eq_self, reduceCtorEq, Nat.reduceDiv, Nat.reduceMod, Int.reduceToNat, or_true, true_or, or_false, false_or, or_self, m_it, m_if, m_c1, m_01, m_02, m_03, m_04, m_10, m_12, m_13, m_14, m_20, m_21, m_23, m_24, m_30, m_31, m_32, m_34, m_40, m_41, m_42, m_43]
  simp (disch := omega) only [jadd]
  refine w_lp (fun en h' => ∃ p : Int, en = [182, b, m, f, p] ∧ f < p ∧ p ≤ 13 ∧ QK P (r_T 0) J h' ∧ KR (r_T 0) h h') (fun en _ => (13 - en.getD 4 0).toNat) ⟨f + 1, rfl, by omega, by omega, hQ, KR.rf⟩ ?_
  rintro en h1 ⟨p, rfl, p0, p1_w, q1_w, q2_w⟩
  refine ⟨?_, ?_⟩
  · show (13 - p).toNat < K
    omega
  simp only [wf_4, wf_40, wf_5, wf_50, wf_6, wl_1, wt_1, wu_1, wa_1, wl_4, wt_4, wu_4, wa_4, wl_5, wt_5, wu_5, wa_5, wl_6, wt_6, wu_6, wa_6, wl_9, wt_9, wu_9, wa_9, wl_10, wt_10, wu_10, wa_10, wl_11, wt_11, wu_11, wa_11, wl_13, wt_13, wu_13, wa_13, wl_14, wt_14, wu_14, wa_14, wl_15, wt_15, wu_15, wa_15, wl_16, wt_16, wu_16, wa_16, wl_17, wt_17, wu_17, wa_17, wl_20, wt_20, wu_20, wa_20, wl_21, wt_21, wu_21, wa_21, wl_22, wt_22, wu_22, wa_22, wl_23, wt_23, wu_23, wa_23, wl_24, wt_24, wu_24, wa_24, wl_26, wt_26, wu_26, wa_26, wl_27, wt_27, wu_27, wa_27, wl_28, wt_28, wu_28, wa_28, we_1, we_3, we_10, we_14, we_15, we_16, we_17, we_18, we_20, we_21, we_22, we_24, we_25, we_26, we_27, we_28, we_30, we_31, we_32, wc_20, wc_21, wc_22, wc_24, wc_25, wc_26, wc_27, wc_3, wc_4, wc_7, wc_28, wc_32, ws_1, ws_2, ws_3, ws_4, ws_9, ws_10, ws_11, ws_14, ws_15, ws_16, ws_27, ws_17, ws_20, ws_28, kc_0, kc_1, kn_1, kc_2, kn_2, kc_3, kc_4, kc_5, kc_6, kc_7, kc_8, kc_9, kc_10, kc_12, kc_13, kc_14, kc_16, kc_17, kc_18, kc_19, kc_20, kc_21, kc_22, kc_24, kc_28, kc_30, kc_32, kc_37, kc_40, kc_41, kc_42, kc_43, kc_45, kc_48, kc_56, kc_57, kc_59, kc_60, kc_61, kc_64, kc_73, kc_78, kc_91, kc_95, kc_96, kc_97, kc_98, kc_99, kc_100, kc_112, kc_122, kc_125, kc_126, kc_150, kc_162, kc_163, kc_168, kc_186, kc_190, kc_200, kc_250, kc_255, kc_355, kc_356, kc_404, kc_405, kc_429, kc_573, kc_999, kc_1000, kc_1002, kc_1100, kc_1891, kc_2200, kc_4719, kc_4869, kc_4881, kc_5148, kc_9999, kn_9999, kc_10000, kc_12345, kc_19741, kc_25433, kc_65536, kc_320403, kc_628412, kc_629093, kc_660401, kc_679843, kc_918640, kc_979410, kc_1178088, kc_6232410, kc_24644941, kc_36238189, kc_38270444, kc_392531318, kc_425693491, kc_1103515245, kc_1342154595, kc_2147483648, kc_42328242873, kc_891704255789, kc_1722105685577, kc_1858726030364, ct_0, ct_1, ct_2, ct_3, ct_4, ct_5, cf_0, cf_1, cf_2, cf_3, cf_4, cf_5, w_ty6, w_ty7, m_sv, m_z0, m_hd, m_g0, m_gs, m_s0, m_ss, m_ap, m_an, forall_const, true_and, and_true, ne_eq, not_true_eq_false, not_false_eq_true, false_implies, true_implies, implies_true, eq_self, reduceCtorEq, Nat.reduceDiv, Nat.reduceMod, Int.reduceToNat, or_true, true_or, or_false, false_or, or_self, m_it, m_if, m_c1, m_01, m_02, m_03, m_04, m_10, m_12, m_13, m_14, m_20, m_21, m_23, m_24, m_30, m_31, m_32, m_34, m_40, m_41, m_42, m_43]
  obtain ⟨w, h3, f1_w, f2_w, f3_w, f4_w, f5_w, -⟩ := use1 c225 rp_225 rr_225 q1_w il_this
  refine ⟨[w], h3, f1_w, fun hp => ?_, fun hp => ⟨f2_w, q2_w.tr f3_w, -1, rfl, Or.inl rfl⟩⟩
  simp only [m_hd] at hp
  obtain ⟨v, h2, e1_w, e2_w, e3_w, e4_w⟩ := use1 c243 rp_243 rr_243 f2_w (il_bmp hb_w hm_w (by omega) (show p ≤ 12 by omega))
  refine ⟨[v], h2, e1_w, fun hv => ⟨e2_w, (q2_w.tr f3_w).tr e3_w, p, rfl, Or.inr ⟨p0, by omega⟩⟩, fun hv => ?_⟩
  rw [jinc (by omega) (by omega)]
  refine ⟨⟨p + 1, rfl, by omega, by omega, e2_w, (q2_w.tr f3_w).tr e3_w⟩, ?_⟩
  show (13 - (p + 1)).toNat < (13 - p).toNat
  omega
theorem s_247 (hK_w : 4294967300 ≤ K) (c232 : S232 P J g (evF xs L ck K cW g_M n)) : S247 P J g (evF xs L ck K cW g_M (n + 1)) := fun h c f t e hQ hc_w f0_w f1_w t0_w t1_w e0 e1_w => by
  suffices hs : ∃ r h', evF xs L ck K cW g_M (n + 1) 247 [182, c, f, t, e] ((a_g3, g), h) = some (1, r, ((a_g3, g), h')) ∧ QK P (r_T 0) J h' ∧ KR (r_T 0) h h' ∧ ∃ v, r = [v] ∧ InI v ∧ (f < e → e ≤ t → 1 ≤ v) by
    obtain ⟨r, h', e1_w, e2_w, e3_w, v, rfl, e4_w⟩ := hs
    exact ⟨v, h', e1_w, e2_w, e3_w, e4_w⟩
  refine tr_of gm_247 (B := fun r h' => QK P (r_T 0) J h' ∧ KR (r_T 0) h h' ∧ ∃ v, r = [v] ∧ InI v ∧ (f < e → e ≤ t → 1 ≤ v)) ?_
  show wS _ _ K bb_247 [182, c, f, t, e, 0, 0, 0] h _
  generalize evF xs L ck K cW g_M n = F at c232 ⊢
  unfold bb_247
  simp only [wf_4, wf_40, wf_5, wf_50, wf_6, wl_1, wt_1, wu_1, wa_1, wl_4, wt_4, wu_4, wa_4, wl_5, wt_5, wu_5, wa_5, wl_6, wt_6, wu_6, wa_6, wl_9, wt_9, wu_9, wa_9, wl_10, wt_10, wu_10, wa_10, wl_11, wt_11, wu_11, wa_11, wl_13, wt_13, wu_13, wa_13, wl_14, wt_14, wu_14, wa_14, wl_15, wt_15, wu_15, wa_15, wl_16, wt_16, wu_16, wa_16, wl_17, wt_17, wu_17, wa_17, wl_20, wt_20, wu_20, wa_20, wl_21, wt_21, wu_21, wa_21, wl_22, wt_22, wu_22, wa_22, wl_23, wt_23, wu_23, wa_23, wl_24, wt_24, wu_24, wa_24, wl_26, wt_26, wu_26, wa_26, wl_27, wt_27, wu_27, wa_27, wl_28, wt_28, wu_28, wa_28, we_1, we_3, we_10, we_14, we_15, we_16, we_17, we_18, we_20, we_21, we_22, we_24, we_25, we_26, we_27, we_28, we_30, we_31, we_32, wc_20, wc_21, wc_22, wc_24, wc_25, wc_26, wc_27, wc_3, wc_4, wc_7, wc_28, wc_32, ws_1, ws_2, ws_3, ws_4, ws_9, ws_10, ws_11, ws_14, ws_15, ws_16, ws_27, ws_17, ws_20, ws_28, kc_0, kc_1, kn_1, kc_2, kn_2, kc_3, kc_4, kc_5, kc_6, kc_7, kc_8, kc_9, kc_10, kc_12, kc_13, kc_14, kc_16, kc_17, kc_18, kc_19, kc_20, kc_21, kc_22, kc_24, kc_28, kc_30, kc_32, kc_37, kc_40, kc_41, kc_42, kc_43, kc_45, kc_48, kc_56, kc_57, kc_59, kc_60, kc_61, kc_64, kc_73, kc_78, kc_91, kc_95, kc_96, kc_97, kc_98, kc_99, kc_100, kc_112, kc_122, kc_125, kc_126, kc_150, kc_162, kc_163, kc_168, kc_186, kc_190, kc_200, kc_250, kc_255, kc_355, kc_356, kc_404, kc_405, kc_429, kc_573, kc_999, kc_1000, kc_1002, kc_1100, kc_1891, kc_2200, kc_4719, kc_4869, kc_4881, kc_5148, kc_9999, kn_9999, kc_10000, kc_12345, kc_19741, kc_25433, kc_65536, kc_320403, kc_628412, kc_629093, kc_660401, kc_679843, kc_918640, kc_979410, kc_1178088, kc_6232410, kc_24644941, kc_36238189, kc_38270444, kc_392531318, kc_425693491, kc_1103515245, kc_1342154595, kc_2147483648, kc_42328242873, kc_891704255789, kc_1722105685577, kc_1858726030364, ct_0, ct_1, ct_2, ct_3, ct_4, ct_5, cf_0, cf_1, cf_2, cf_3, cf_4, cf_5, w_ty6, w_ty7, m_sv, m_z0, m_hd, m_g0, m_gs, m_s0, m_ss, m_ap, m_an, forall_const, true_and, and_true, ne_eq, not_true_eq_false, not_false_eq_true, false_implies, true_implies, implies_true, eq_self, reduceCtorEq, Nat.reduceDiv, Nat.reduceMod, Int.reduceToNat, or_true, true_or, or_false, false_or, or_self, m_it, m_if, m_c1, m_01, m_02, m_03, m_04, m_10, m_12, m_13, m_14, m_20, m_21, m_23, m_24, m_30, m_31, m_32, m_34, m_40, m_41, m_42, m_43]
  refine w_lp (fun en h' => ∃ A S s : Int, en = [182, c, f, t, e, A, S, s] ∧ f ≤ s ∧ (s = f ∨ s ≤ e) ∧ 0 ≤ S ∧ S ≤ A ∧ A ≤ 99 * (s - f) ∧ (e ≤ t → S = A) ∧ h' = h) (fun en _ => (13 - en.getD 7 0).toNat) ⟨0, 0, f, rfl, by omega, Or.inl rfl, by omega, by omega, by omega, fun _ => rfl, rfl⟩ ?_
  rintro en h1 ⟨A, S, s, rfl, p0, p1_w, q1_w, q2_w, q3_w, q4_w, rfl⟩
  refine ⟨?_, ?_⟩
  · show (13 - s).toNat < K
    omega
  simp only [wf_4, wf_40, wf_5, wf_50, wf_6, wl_1, wt_1, wu_1, wa_1, wl_4, wt_4, wu_4, wa_4, wl_5, wt_5, wu_5, wa_5, wl_6, wt_6, wu_6, wa_6, wl_9, wt_9, wu_9, wa_9, wl_10, wt_10, wu_10, wa_10, wl_11, wt_11, wu_11, wa_11, wl_13, wt_13, wu_13, wa_13, wl_14, wt_14, wu_14, wa_14, wl_15, wt_15, wu_15, wa_15, wl_16, wt_16, wu_16, wa_16, wl_17, wt_17, wu_17, wa_17, wl_20, wt_20, wu_20, wa_20, wl_21, wt_21, wu_21, wa_21, wl_22, wt_22, wu_22, wa_22, wl_23, wt_23, wu_23, wa_23, wl_24, wt_24, wu_24, wa_24, wl_26, wt_26, wu_26, wa_26, wl_27, wt_27, wu_27, wa_27, wl_28, wt_28, wu_28, wa_28, we_1, we_3, we_10, we_14, we_15, we_16, we_17, we_18, we_20, we_21, we_22, we_24, we_25, we_26, we_27, we_28, we_30, we_31, we_32, wc_20, wc_21, wc_22, wc_24, wc_25, wc_26, wc_27, wc_3, wc_4, wc_7, wc_28, wc_32, ws_1, ws_2, ws_3, ws_4, ws_9, ws_10, ws_11, ws_14, ws_15, ws_16, ws_27, ws_17, ws_20, ws_28, kc_0, kc_1, kn_1, kc_2, kn_2, kc_3, kc_4, kc_5, kc_6, kc_7, kc_8, kc_9, kc_10, kc_12, kc_13, kc_14, kc_16, kc_17, kc_18, kc_19, kc_20, kc_21, kc_22, kc_24, kc_28, kc_30, kc_32, kc_37, kc_40, kc_41, kc_42, kc_43, kc_45, kc_48, kc_56, kc_57, kc_59, kc_60, kc_61, kc_64, kc_73, kc_78, kc_91, kc_95, kc_96, kc_97, kc_98, kc_99, kc_100, kc_112, kc_122, kc_125, kc_126, kc_150, kc_162, kc_163, kc_168, kc_186, kc_190, kc_200, kc_250, kc_255, kc_355, kc_356, kc_404, kc_405, kc_429, kc_573, kc_999, kc_1000, kc_1002, kc_1100, kc_1891, kc_2200, kc_4719, kc_4869, kc_4881, kc_5148, kc_9999, kn_9999, kc_10000, kc_12345, kc_19741, kc_25433, kc_65536, kc_320403, kc_628412, kc_629093, kc_660401, kc_679843, kc_918640, kc_979410, kc_1178088, kc_6232410, kc_24644941, kc_36238189, kc_38270444, kc_392531318, kc_425693491, kc_1103515245, kc_1342154595, kc_2147483648, kc_42328242873, kc_891704255789, kc_1722105685577, kc_1858726030364, ct_0, ct_1, ct_2, ct_3, ct_4, ct_5, cf_0, cf_1, cf_2, cf_3, cf_4, cf_5, w_ty6, w_ty7, m_sv, m_z0, m_hd, m_g0, m_gs, m_s0, m_ss, m_ap, m_an, forall_const, true_and, and_true, ne_eq, not_true_eq_false, not_false_eq_true, false_implies, true_implies, implies_true, eq_self, reduceCtorEq, Nat.reduceDiv, Nat.reduceMod, Int.reduceToNat, or_true, true_or, or_false, false_or, or_self, m_it, m_if, m_c1, m_01, m_02, m_03, m_04, m_10, m_12, m_13, m_14, m_20, m_21, m_23, m_24, m_30, m_31, m_32, m_34, m_40, m_41, m_42, m_43]
  refine ⟨fun hp => ?_, fun hp => ?_⟩
  · obtain ⟨v, r1_w, r2, r3, -⟩ := c232 h1 c s hQ hc_w (by omega) (by omega)
    refine ⟨[v], h1, r1_w, fun hst => ⟨[v], h1, r1_w, ?_⟩, fun hst => ?_⟩
    · simp only [m_hd]
      simp (disch := omega) only [jadd, jinc]
      refine ⟨⟨A + v, S + v, s + 1, rfl, by omega, by omega, by omega, by omega, by omega, fun k => by have := q4_w k; omega, trivial⟩, ?_⟩
      show (13 - (s + 1)).toNat < (13 - s).toNat
      omega
    · simp only [m_hd]
      simp (disch := omega) only [jadd, jinc]
      refine ⟨⟨A + v, S + 0, s + 1, rfl, by omega, by omega, by omega, by omega, by omega, fun k => by omega, trivial⟩, ?_⟩
      show (13 - (s + 1)).toNat < (13 - s).toNat
      omega
  · refine ⟨fun hA => ⟨hQ, KR.rf, _, rfl, in_j32 _, fun k1_w k2 => ?_⟩, fun hA => ⟨hQ, KR.rf, S, rfl, ⟨by omega, by omega⟩, fun k1_w k2 => ?_⟩⟩
    · rw [jsub (by omega) (by omega)]
      omega
    · have := q4_w k2
      omega
theorem s_248 (c243 : TotR P (r_T 0) J g (evF xs L ck K cW g_M n) 243) (c230 : TotR P (r_T 0) J g (evF xs L ck K cW g_M n) 230) (c246 : TotR P (r_T 0) J g (evF xs L ck K cW g_M n) 246) (c247 : S247 P J g (evF xs L ck K cW g_M n)) : S248 P J g (evF xs L ck K cW g_M (n + 1)) := fun h b m f t e hQ hb_w hm_w f0_w f1_w e1_w t0_w t1_w => by
  suffices hs : ∃ r h', evF xs L ck K cW g_M (n + 1) 248 [182, b, m, f, t, e] ((a_g3, g), h) = some (1, r, ((a_g3, g), h')) ∧ QK P (r_T 0) J h' ∧ KR (r_T 0) h h' ∧ ∃ v, r = [v] ∧ InI v by
    obtain ⟨r, h', e1_w, e2_w, e3_w, v, rfl, e4_w⟩ := hs
    exact ⟨v, h', e1_w, e2_w, e3_w, e4_w⟩
  refine tr_of gm_248 (B := fun r h' => QK P (r_T 0) J h' ∧ KR (r_T 0) h h' ∧ ∃ v, r = [v] ∧ InI v) ?_
  show wS _ _ K bb_248 [182, b, m, f, t, e, 0, 0] h _
  generalize evF xs L ck K cW g_M n = F at c243 c230 c246 c247 ⊢
  unfold bb_248
  simp only [wf_4, wf_40, wf_5, wf_50, wf_6, wl_1, wt_1, wu_1, wa_1, wl_4, wt_4, wu_4, wa_4, wl_5, wt_5, wu_5, wa_5, wl_6, wt_6, wu_6, wa_6, wl_9, wt_9, wu_9, wa_9, wl_10, wt_10, wu_10, wa_10, wl_11, wt_11, wu_11, wa_11, wl_13, wt_13, wu_13, wa_13, wl_14, wt_14, wu_14, wa_14, wl_15, wt_15, wu_15, wa_15, wl_16, wt_16, wu_16, wa_16, wl_17, wt_17, wu_17, wa_17, wl_20, wt_20, wu_20, wa_20, wl_21, wt_21, wu_21, wa_21, wl_22, wt_22, wu_22, wa_22, wl_23, wt_23, wu_23, wa_23, wl_24, wt_24, wu_24, wa_24, wl_26, wt_26, wu_26, wa_26, wl_27, wt_27, wu_27, wa_27, wl_28, wt_28, wu_28, wa_28, we_1, we_3, we_10, we_14, we_15, we_16, we_17, we_18, we_20, we_21, we_22, we_24, we_25, we_26, we_27, we_28, we_30, we_31, we_32, wc_20, wc_21, wc_22, wc_24, wc_25, wc_26, wc_27, wc_3, wc_4, wc_7, wc_28, wc_32, ws_1, ws_2, ws_3, ws_4, ws_9, ws_10, ws_11, ws_14, ws_15, ws_16, ws_27, ws_17, ws_20, ws_28, kc_0, kc_1, kn_1, kc_2, kn_2, kc_3, kc_4, kc_5, kc_6, kc_7, kc_8, kc_9, kc_10, kc_12, kc_13, kc_14, kc_16, kc_17, kc_18, kc_19, kc_20, kc_21, kc_22, kc_24, kc_28, kc_30, kc_32, kc_37, kc_40, kc_41, kc_42, kc_43, kc_45, kc_48, kc_56, kc_57, kc_59, kc_60, kc_61, kc_64, kc_73, kc_78, kc_91, kc_95, kc_96, kc_97, kc_98, kc_99, kc_100, kc_112, kc_122, kc_125, kc_126, kc_150, kc_162, kc_163, kc_168, kc_186, kc_190, kc_200, kc_250, kc_255, kc_355, kc_356, kc_404, kc_405, kc_429, kc_573, kc_999, kc_1000, kc_1002, kc_1100, kc_1891, kc_2200, kc_4719, kc_4869, kc_4881, kc_5148, kc_9999, kn_9999, kc_10000, kc_12345, kc_19741, kc_25433, kc_65536, kc_320403, kc_628412, kc_629093, kc_660401, kc_679843, kc_918640, kc_979410, kc_1178088, kc_6232410, kc_24644941, kc_36238189, kc_38270444, kc_392531318, kc_425693491, kc_1103515245, kc_1342154595, kc_2147483648, kc_42328242873, kc_891704255789, kc_1722105685577, kc_1858726030364, ct_0, ct_1, ct_2, ct_3, ct_4, ct_5, cf_0, cf_1, cf_2, cf_3, cf_4, cf_5, w_ty6, w_ty7, m_sv, m_z0, m_hd, m_g0, m_gs, m_s0, m_ss, m_ap, m_an, forall_const, true_and, and_true, ne_eq, not_true_eq_false, not_false_eq_true, false_implies, true_implies, implies_true, eq_self, reduceCtorEq, Nat.reduceDiv, Nat.reduceMod, Int.reduceToNat, or_true, true_or, or_false, false_or, or_self, m_it, m_if, m_c1, m_01, m_02, m_03, m_04, m_10, m_12, m_13, m_14, m_20, m_21, m_23, m_24, m_30, m_31, m_32, m_34, m_40, m_41, m_42, m_43]
  obtain ⟨v1_w, h1, a1_w, a2, a3, a4⟩ := use1 c243 rp_243 rr_243 hQ (il_bmp hb_w hm_w (show 0 ≤ e by omega) e1_w)
  obtain ⟨v2, h2, b1, b2, b3, b4⟩ := use1 c243 rp_243 rr_243 a2 (il_bmp hb_w hm_w f0_w (show f ≤ 12 by omega))
  obtain ⟨v3, h3, d1_w, d2_w, d3_w, d4_w⟩ := use1 (av := [182, m]) c230 rp_230 rr_230 b2 ⟨rfl, hm_w, trivial⟩
  obtain ⟨v4_w, h4, x1_w, x2_w, x3, x4_w, -⟩ := c247 h3 v3 f t e d2_w d4_w f0_w (by omega) t0_w t1_w (by omega) e1_w
  obtain ⟨v5, h5, y1, y2, y3, y4, y5⟩ := c247 h4 v3 f e e x2_w d4_w f0_w (by omega) (by omega) (by omega) (by omega) e1_w
  have y6 := y5 f1_w (Int.le_refl _)
  have fin_w : ∀ w : Int, InI w → ∃ v6 h6, F 246 [w, v4_w, v5] ((a_g3, g), h5) = some (1, [v6], ((a_g3, g), h6)) ∧ QK P (r_T 0) J h6 ∧ KR (r_T 0) h5 h6 ∧ IV P iT v6 := fun w hw => use1 c246 rp_246 rr_246 y2 ⟨IV.top hw, IV.top x4_w, ⟨y6, by have := y4.2; omega, y4⟩, trivial⟩
  have kr := ((((a3.tr b3).tr d3_w).tr x3).tr y3)
  refine ⟨[v1_w], h1, a1_w, [v2], h2, b1, fun k => ?_, fun k => ?_⟩
  · obtain ⟨v6, h6, z1, z2, z3, z4⟩ := fin_w _ (iop_in 0 (j_iop 1 v1_w v2) 10000)
    exact ⟨[v3], h3, d1_w, [v4_w], h4, x1_w, [v5], h5, y1, [v6], h6, z1, z2, kr.tr z3, v6, rfl, z4.2.2⟩
  · obtain ⟨v6, h6, z1, z2, z3, z4⟩ := fin_w _ (iop_in 0 (j_iop 1 v1_w v2) 0)
    exact ⟨[v3], h3, d1_w, [v4_w], h4, x1_w, [v5], h5, y1, [v6], h6, z1, z2, kr.tr z3, v6, rfl, z4.2.2⟩
end HA3
end
section
/-! ===== the reference's methods by hand_w: use, stands, weights ===== -/
def S222 (P : Int × Int) (g : Nat × Nat) (F : XP) : Prop := ∀ (h : XH), QK P (r_T 0) (RJ P) h → 0 ≤ h 188 4 → ∃ v h', F 222 [182, h 188 4] ((a_g3, g), h) = some (1, [v], ((a_g3, g), h')) ∧ QK P (r_T 0) (RJ P) h' ∧ KR (r_T 0) h h' ∧ InI v
section HA4
variable {P : Int × Int} {g : Nat × Nat} {xs : Nat → Int} {L K n : Nat} {ck : Nat → List Nat} {cW : Nat → Nat → Int} {h : XH} {J : XH → Prop}
theorem iv_b0 : IV P (3, 0, 0) 0 := ⟨⟨by decide, by decide⟩, 0, by decide, by decide, by decide⟩
theorem t_249 (c244 : S244 P J g (evF xs L ck K cW g_M n)) (c245 : S245 P J g (evF xs L ck K cW g_M n)) (c248 : S248 P J g (evF xs L ck K cW g_M n)) (c229 : TotR P (r_T 0) J g (evF xs L ck K cW g_M n) 229) (c243 : TotR P (r_T 0) J g (evF xs L ck K cW g_M n) 243) : TotR P (r_T 0) J g (evF xs L ck K cW g_M (n + 1)) 249 := by
  refine tot_hand gm_249 rp_249 rr_249 ru_249 fun av h hQ hv => ?_
  obtain ⟨x, b, m, s, rfl, hx, hb_w, hm_w, hs⟩ := il4 hv
  obtain rfl : x = 182 := hx
  obtain ⟨s0, s1_w, -⟩ := hs
  show wS _ _ K bb_249 [182, b, m, s, 0, 0] h _
  generalize evF xs L ck K cW g_M n = F at c244 c245 c248 c229 c243 ⊢
  unfold bb_249
  simp only [wf_4, wf_40, wf_5, wf_50, wf_6, wl_1, wt_1, wu_1, wa_1, wl_4, wt_4, wu_4, wa_4, wl_5, wt_5, wu_5, wa_5, wl_6, wt_6, wu_6, wa_6, wl_9, wt_9, wu_9, wa_9, wl_10, wt_10, wu_10, wa_10, wl_11, wt_11, wu_11, wa_11, wl_13, wt_13, wu_13, wa_13, wl_14, wt_14, wu_14, wa_14, wl_15, wt_15, wu_15, wa_15, wl_16, wt_16, wu_16, wa_16, wl_17, wt_17, wu_17, wa_17, wl_20, wt_20, wu_20, wa_20, wl_21, wt_21, wu_21, wa_21, wl_22, wt_22, wu_22, wa_22, wl_23, wt_23, wu_23, wa_23, wl_24, wt_24, wu_24, wa_24, wl_26, wt_26, wu_26, wa_26, wl_27, wt_27, wu_27, wa_27, wl_28, wt_28, wu_28, wa_28, we_1, we_3, we_10, we_14, we_15, we_16, we_17, we_18, we_20, we_21, we_22, we_24, we_25, we_26, we_27, we_28, we_30, we_31, we_32, wc_20, wc_21, wc_22, wc_24, wc_25, wc_26, wc_27, wc_3, wc_4, wc_7, wc_28, wc_32, ws_1, ws_2, ws_3, ws_4, ws_9, ws_10, ws_11, ws_14, ws_15, ws_16, ws_27, ws_17, ws_20, ws_28, kc_0, kc_1, kn_1, kc_2, kn_2, kc_3, kc_4, kc_5, kc_6, kc_7, kc_8, kc_9, kc_10, kc_12, kc_13, kc_14, kc_16, kc_17, kc_18, kc_19, kc_20, kc_21, kc_22, kc_24, kc_28, kc_30, kc_32, kc_37, kc_40, kc_41, kc_42, kc_43, kc_45, kc_48, kc_56, kc_57, kc_59, kc_60, kc_61, kc_64, kc_73, kc_78, kc_91, kc_95, kc_96, kc_97, kc_98, kc_99, kc_100, kc_112, kc_122, kc_125, kc_126, kc_150, kc_162, kc_163, kc_168, kc_186, kc_190, kc_200, kc_250, kc_255, kc_355, kc_356, kc_404, kc_405, kc_429, kc_573, kc_999, kc_1000, kc_1002, kc_1100, kc_1891, kc_2200, kc_4719, kc_4869, kc_4881, kc_5148, kc_9999, kn_9999, kc_10000, kc_12345, kc_19741, kc_25433, kc_65536, kc_320403, kc_628412, kc_629093, kc_660401, kc_679843, kc_918640, kc_979410, kc_1178088, kc_6232410, kc_24644941, kc_36238189, kc_38270444, kc_392531318, kc_425693491, kc_1103515245, kc_1342154595, kc_2147483648, kc_42328242873, kc_891704255789, kc_1722105685577, kc_1858726030364, ct_0, ct_1, ct_2, ct_3, ct_4, ct_5, cf_0, cf_1, cf_2, cf_3, cf_4, cf_5, w_ty6, w_ty7, m_sv, m_z0, m_hd, m_g0, m_gs, m_s0, m_ss, m_ap, m_an, forall_const, true_and, and_true, ne_eq, not_true_eq_false, not_false_eq_true, false_implies, true_implies, implies_true, eq_self, reduceCtorEq, Nat.reduceDiv, Nat.reduceMod, Int.reduceToNat, or_true, true_or, or_false, false_or, or_self, m_it, m_if, m_c1, m_01, m_02, m_03, m_04, m_10, m_12, m_13, m_14, m_20, m_21, m_23, m_24, m_30, m_31, m_32, m_34, m_40, m_41, m_42, m_43]
  obtain ⟨v1_w, h1, a1_w, a2, a3, a4, a5⟩ := c244 h b m s hQ hb_w hm_w (by omega) (by omega)
  obtain ⟨v2, h2, b1, b2, b3, -⟩ := use1 (av := [182, m]) c229 rp_229 rr_229 a2 ⟨rfl, hm_w, trivial⟩
  refine ⟨[v1_w], h1, a1_w, [v2], h2, b1, fun k1_w => ⟨fun k2 => ?_, fun k2 => ?_⟩, fun k1_w => ?_⟩
  · obtain ⟨v3, h3, d1_w, d2_w, d3_w, -⟩ := use1 (av := [182, m]) c229 rp_229 rr_229 b2 ⟨rfl, hm_w, trivial⟩
    exact ⟨[v3], h3, d1_w, fun _ => ⟨d2_w, (a3.tr b3).tr d3_w, IV.top (in_j32 _), trivial⟩, fun _ => ⟨d2_w, (a3.tr b3).tr d3_w, IV.top in_0, trivial⟩⟩
  · simp only [m_hd] at k2
    obtain ⟨v3, h3, d1_w, d2_w, d3_w, d4_w⟩ := use1 c243 rp_243 rr_243 b2 (il_bmp hb_w hm_w k2 (show v1_w ≤ 12 by omega))
    obtain ⟨v4_w, h4, x1_w, x2_w, x3, -⟩ := use1 (av := [182, m]) c229 rp_229 rr_229 d2_w ⟨rfl, hm_w, trivial⟩
    exact ⟨[v3], h3, d1_w, [v4_w], h4, x1_w, fun _ => ⟨x2_w, ((a3.tr b3).tr d3_w).tr x3, IV.top (in_j32 _), trivial⟩, fun _ => ⟨x2_w, ((a3.tr b3).tr d3_w).tr x3, IV.top d4_w.2.2, trivial⟩⟩
  · obtain ⟨v3, h3, d1_w, d2_w, d3_w, d4_w⟩ := c245 h2 b m s b2 hb_w hm_w s0 (by omega)
    refine ⟨[v3], h3, d1_w, fun k2 => ⟨d2_w, (a3.tr b3).tr d3_w, IV.top in_0, trivial⟩, fun k2 => ⟨fun k3 => ⟨d2_w, (a3.tr b3).tr d3_w, IV.top in_0, trivial⟩, fun k3 => ?_⟩⟩
    simp only [m_hd] at k2 k3 ⊢
    rw [jadd (by omega) (by omega)]
    obtain ⟨v4_w, h4, x1_w, x2_w, x3, -⟩ := c248 h3 b m v1_w (s + 1) v3 d2_w hb_w hm_w k2 (by omega) (by omega) (by omega) (by omega)
    obtain ⟨v5, h5, y1, y2, y3, -⟩ := c248 h4 b m v1_w s v3 x2_w hb_w hm_w k2 (by omega) (by omega) (by omega) (by omega)
    exact ⟨[v4_w], h4, x1_w, [v5], h5, y1, y2, (((a3.tr b3).tr d3_w).tr x3).tr y3, IV.top (iop_in _ _ _), trivial⟩
theorem t_284 (hJ : JS (r_T 0) J) (c239 : TotR P (r_T 0) J g (evF xs L ck K cW g_M n) 239) (c244 : S244 P J g (evF xs L ck K cW g_M n)) (c245 : S245 P J g (evF xs L ck K cW g_M n)) (c248 : S248 P J g (evF xs L ck K cW g_M n)) (c229 : TotR P (r_T 0) J g (evF xs L ck K cW g_M n) 229) (c243 : TotR P (r_T 0) J g (evF xs L ck K cW g_M n) 243) : TotR P (r_T 0) J g (evF xs L ck K cW g_M (n + 1)) 284 := by
  refine tot_hand gm_284 rp_284 rr_284 ru_284 fun av h hQ hv => ?_
  obtain ⟨x, m, p, rfl, hx, hm0, hp0⟩ := il3 hv
  obtain rfl : x = 182 := hx
  show wS _ _ K bb_284 [182, m, p, 0, 0] h _
  generalize evF xs L ck K cW g_M n = F at c239 c244 c245 c248 c229 c243 ⊢
  unfold bb_284
  simp only [wf_4, wf_40, wf_5, wf_50, wf_6, wl_1, wt_1, wu_1, wa_1, wl_4, wt_4, wu_4, wa_4, wl_5, wt_5, wu_5, wa_5, wl_6, wt_6, wu_6, wa_6, wl_9, wt_9, wu_9, wa_9, wl_10, wt_10, wu_10, wa_10, wl_11, wt_11, wu_11, wa_11, wl_13, wt_13, wu_13, wa_13, wl_14, wt_14, wu_14, wa_14, wl_15, wt_15, wu_15, wa_15, wl_16, wt_16, wu_16, wa_16, wl_17, wt_17, wu_17, wa_17, wl_20, wt_20, wu_20, wa_20, wl_21, wt_21, wu_21, wa_21, wl_22, wt_22, wu_22, wa_22, wl_23, wt_23, wu_23, wa_23, wl_24, wt_24, wu_24, wa_24, wl_26, wt_26, wu_26, wa_26, wl_27, wt_27, wu_27, wa_27, wl_28, wt_28, wu_28, wa_28, we_1, we_3, we_10, we_14, we_15, we_16, we_17, we_18, we_20, we_21, we_22, we_24, we_25, we_26, we_27, we_28, we_30, we_31, we_32, wc_20, wc_21, wc_22, wc_24, wc_25, wc_26, wc_27, wc_3, wc_4, wc_7, wc_28, wc_32, ws_1, ws_2, ws_3, ws_4, ws_9, ws_10, ws_11, ws_14, ws_15, ws_16, ws_27, ws_17, ws_20, ws_28, kc_0, kc_1, kn_1, kc_2, kn_2, kc_3, kc_4, kc_5, kc_6, kc_7, kc_8, kc_9, kc_10, kc_12, kc_13, kc_14, kc_16, kc_17, kc_18, kc_19, kc_20, kc_21, kc_22, kc_24, kc_28, kc_30, kc_32, kc_37, kc_40, kc_41, kc_42, kc_43, kc_45, kc_48, kc_56, kc_57, kc_59, kc_60, kc_61, kc_64, kc_73, kc_78, kc_91, kc_95, kc_96, kc_97, kc_98, kc_99, kc_100, kc_112, kc_122, kc_125, kc_126, kc_150, kc_162, kc_163, kc_168, kc_186, kc_190, kc_200, kc_250, kc_255, kc_355, kc_356, kc_404, kc_405, kc_429, kc_573, kc_999, kc_1000, kc_1002, kc_1100, kc_1891, kc_2200, kc_4719, kc_4869, kc_4881, kc_5148, kc_9999, kn_9999, kc_10000, kc_12345, kc_19741, kc_25433, kc_65536, kc_320403, kc_628412, kc_629093, kc_660401, kc_679843, kc_918640, kc_979410, kc_1178088, kc_6232410, kc_24644941, kc_36238189, kc_38270444, kc_392531318, kc_425693491, kc_1103515245, kc_1342154595, kc_2147483648, kc_42328242873, kc_891704255789, kc_1722105685577, kc_1858726030364, ct_0, ct_1, ct_2, ct_3, ct_4, ct_5, cf_0, cf_1, cf_2, cf_3, cf_4, cf_5, w_ty6, w_ty7, m_sv, m_z0, m_hd, m_g0, m_gs, m_s0, m_ss, m_ap, m_an, forall_const, true_and, and_true, ne_eq, not_true_eq_false, not_false_eq_true, false_implies, true_implies, implies_true, eq_self, reduceCtorEq, Nat.reduceDiv, Nat.reduceMod, Int.reduceToNat, or_true, true_or, or_false, false_or, or_self, m_it, m_if, m_c1, m_01, m_02, m_03, m_04, m_10, m_12, m_13, m_14, m_20, m_21, m_23, m_24, m_30, m_31, m_32, m_34, m_40, m_41, m_42, m_43]
  obtain ⟨z1, z2⟩ := fd_QK hQ hJ (k := 0) (v := 0) (Or.inl rfl) ⟨by decide, by decide, in_0⟩
  obtain ⟨r, h1, a1_w, a2, a3, a4, a5⟩ := c239 [182, m, p] _ z1 (by rw [rp_239]; exact ⟨rfl, hm0, hp0, trivial⟩)
  rw [rr_239] at a4
  obtain ⟨v, rfl, -⟩ := IL.one a4
  refine ⟨[v], h1, a1_w, fun k1_w => ?_, fun k1_w => ⟨a2, z2.tr a3, IV.top ⟨by decide, by decide⟩, trivial⟩⟩
  have a6 := a5 k1_w
  rw [ru_239] at a6
  obtain ⟨-, hm_w, hp, -⟩ := a6
  obtain ⟨p0, p1_w, -⟩ := hp
  obtain ⟨v2, h2, b1, b2, b3, -⟩ := use1 (av := [182, m]) c229 rp_229 rr_229 a2 ⟨rfl, hm_w, trivial⟩
  refine ⟨[v2], h2, b1, fun k2 => ⟨b2, (z2.tr a3).tr b3, IV.top ⟨by decide, by decide⟩, trivial⟩, fun k2 => ?_⟩
  obtain ⟨v3, h3, d1_w, d2_w, d3_w, d4_w, d5⟩ := c244 h2 0 m p b2 iv_b0 hm_w (by omega) p1_w
  obtain ⟨v4_w, h4, x1_w, x2_w, x3, x4_w⟩ := c245 h3 0 m p d2_w iv_b0 hm_w p0 p1_w
  have kr := (((z2.tr a3).tr b3).tr d3_w).tr x3
  refine ⟨[v3], h3, d1_w, [v4_w], h4, x1_w, fun k3 => ?_, fun k3 => ⟨fun k4 => ⟨x2_w, kr, IV.top ⟨by decide, by decide⟩, trivial⟩, fun k4 => ⟨fun k5 => ⟨x2_w, kr, IV.top ⟨by decide, by decide⟩, trivial⟩, fun k5 => ?_⟩⟩⟩
  · obtain ⟨v5, h5, y1, y2, y3, y4⟩ := use1 c243 rp_243 rr_243 x2_w (il_bmp iv_b0 hm_w p0 p1_w)
    exact ⟨[v5], h5, y1, y2, kr.tr y3, IV.top y4.2.2, trivial⟩
  · simp only [m_hd] at k3 k4 k5 ⊢
    obtain ⟨v5, h5, y1, y2, y3, y4⟩ := use1 c243 rp_243 rr_243 x2_w (il_bmp iv_b0 hm_w k4 (show v3 ≤ 12 by omega))
    obtain ⟨v6, h6, w1_w, w2_w, w3_w, -⟩ := c248 h5 0 m v3 p v4_w y2 iv_b0 hm_w k4 (by omega) (by omega) p0 (by omega)
    exact ⟨[v5], h5, y1, [v6], h6, w1_w, by decide, w2_w, (kr.tr y3).tr w3_w, IV.top (tmod_i (iop_in _ _ _)), trivial⟩
/-- a cell_w of an array without_w blocks_w, all of whose cells_w may_w hold it -/
theorem un_QK (hQ : QK P (r_T 0) J h) (hJ : JS (r_T 0) J) {q i : Nat} {v : Int} {t : IT} (hW : r_W q = true) (hq : 183 ≤ q) (hr : (r_A q).2.2.all (fun r => i_sub t r.2.2) = true) (hv : IV P t v) (hH : HT g_fk a_g3 (j_up h q i v)) : QK P (r_T 0) J (j_up h q i v) ∧ KR (r_T 0) h (j_up h q i v) := by
  have hk : KR (r_T 0) h (j_up h q i v) := KR.up hW
  refine ⟨⟨hH, fun k => ?_, fun q' hq' => ?_, hJ _ _ hk hQ.2.2.2⟩, hk⟩
  · rw [up_ne (fun z => by omega)]
    exact hQ.2.1 k
  · by_cases e : q' = q
    · subst e
      intro r hr' a b k1_w k2 k3
      by_cases e2_w : (qA (r_T 0) q').2.1 * b + a = i
      · rw [e2_w, up_eq]
        exact IV.sub (List.all_eq_true.mp hr r hr') hv
      · rw [up_ne (fun z => e2_w z.2)]
        exact hQ.2.2.1 q' hq' r hr' a b k1_w k2 k3
    · have e2_w : j_up h q i v q' = h q' := funext fun i => up_ne (fun z => e z.1)
      rw [e2_w]
      exact hQ.2.2.1 q' hq'
theorem un_ok : [192, 193, 196, 197, 198, 199, 201].all (fun q => (r_A q).2.2.all (fun r => i_sub iT r.2.2) && r_W q) = true := by decide +kernel
theorem wi_QK (hQ : QK P (r_T 0) J h) (hJ : JS (r_T 0) J) {q i : Nat} {v : Int} (hq : q ∈ [192, 193, 196, 197, 198, 199, 201]) (hv : InI v) : QK P (r_T 0) J (j_up h q i v) ∧ KR (r_T 0) h (j_up h q i v) := by
  have h1 := List.all_eq_true.mp un_ok q hq
  rw [Bool.and_eq_true] at h1
  have h2 : 183 ≤ q ∧ q ∈ [183, 184, 185, 188, 189, 191, 192, 193, 194, 196, 197, 198, 199, 201] := by
    simp only [List.mem_cons, List.not_mem_nil, or_false] at hq ⊢
    omega
  exact un_QK hQ hJ h1.2 h2.1 h1.1 (IV.top hv) (ht_up hQ.1 h2.2 hv)
theorem code_get {f : Nat → Int} {i : Nat} {x : Int} {l : List Int} (hs : Seg f i (x :: l)) : f i = x ∧ Seg f (i + 1) l := by
  refine ⟨hs 0 (by simp), fun k hk => ?_⟩
  have := hs (k + 1) (by simpa using hk)
  rw [show i + 1 + k = i + (k + 1) by omega]
  exact this
theorem htO_cons {t : Nat} {x : Int} {l : List Int} {r : Nat} (h : htO t (x :: l) = some r) : 0 ≤ x ∧ x % 16 ≠ 0 ∧ ((x % 16 = 1 ∧ t < 63 ∧ htO (t + 1) l = some r) ∨ (x % 16 = 2 ∧ x < 64 ∧ t < 63 ∧ htO (t + 1) l = some r) ∨ (x % 16 = 3 ∧ 1 ≤ t ∧ htO t l = some r) ∨ (4 ≤ x % 16 ∧ 2 ≤ t ∧ htO (t - 1) l = some r)) := by
  unfold htO at h
  split at h
  · obtain ⟨h1, h⟩ := j_ifx h
    exact ⟨by omega, by omega, Or.inl ⟨by omega, h1, h⟩⟩
  · split at h
    · obtain ⟨h1, h⟩ := j_ifx h
      exact ⟨by omega, by omega, Or.inr (Or.inl ⟨by omega, by omega, h1, h⟩)⟩
    · split at h
      · obtain ⟨h1, h⟩ := j_ifx h
        exact ⟨by omega, by omega, Or.inr (Or.inr (Or.inl ⟨by omega, h1, h⟩))⟩
      · split at h
        · obtain ⟨h1, h⟩ := j_ifx h
          exact ⟨by omega, by omega, Or.inr (Or.inr (Or.inr ⟨by omega, h1, h⟩))⟩
        · cases h
theorem div16 {x : Int} (h : 0 ≤ x) : j_div 1 x 16 = x % 16 := Int.tmod_eq_emod_of_nonneg h
theorem quo16 {x : Int} (h : 0 ≤ x) (h2 : InI x) : j_div 0 x 16 = x / 16 := by
  show j32 (x.tdiv 16) = _
  rw [Int.tdiv_eq_ediv_of_nonneg h]
  unfold InI at h2
  exact j32_in ⟨by omega, by omega⟩
theorem s_222 (hK_w : 4294967300 ≤ K) (c223 : TotR P (r_T 0) (RJ P) g (evF xs L ck K cW g_M n) 223) : S222 P g (evF xs L ck K cW g_M (n + 1)) := fun h hQ h0 => by
  suffices hs : ∃ r h', evF xs L ck K cW g_M (n + 1) 222 [182, h 188 4] ((a_g3, g), h) = some (1, r, ((a_g3, g), h')) ∧ QK P (r_T 0) (RJ P) h' ∧ KR (r_T 0) h h' ∧ ∃ v, r = [v] ∧ InI v by
    obtain ⟨r, h', e1_w, e2_w, e3_w, v, rfl, e4_w⟩ := hs
    exact ⟨v, h', e1_w, e2_w, e3_w, e4_w⟩
  obtain ⟨l0, s1_w, s2_w, s3_w, s4_w⟩ := hQ.2.2.2.2.1 h0
  refine tr_of gm_222 (B := fun r h' => QK P (r_T 0) (RJ P) h' ∧ KR (r_T 0) h h' ∧ ∃ v, r = [v] ∧ InI v) ?_
  show wS _ _ K bb_222 [182, h 188 4, 0, h 188 4, 0] h _
  generalize h 188 4 = a at *
  generalize evF xs L ck K cW g_M n = F at c223 ⊢
  unfold bb_222
  simp only [wf_4, wf_40, wf_5, wf_50, wf_6, wl_1, wt_1, wu_1, wa_1, wl_4, wt_4, wu_4, wa_4, wl_5, wt_5, wu_5, wa_5, wl_6, wt_6, wu_6, wa_6, wl_9, wt_9, wu_9, wa_9, wl_10, wt_10, wu_10, wa_10, wl_11, wt_11, wu_11, wa_11, wl_13, wt_13, wu_13, wa_13, wl_14, wt_14, wu_14, wa_14, wl_15, wt_15, wu_15, wa_15, wl_16, wt_16, wu_16, wa_16, wl_17, wt_17, wu_17, wa_17, wl_20, wt_20, wu_20, wa_20, wl_21, wt_21, wu_21, wa_21, wl_22, wt_22, wu_22, wa_22, wl_23, wt_23, wu_23, wa_23, wl_24, wt_24, wu_24, wa_24, wl_26, wt_26, wu_26, wa_26, wl_27, wt_27, wu_27, wa_27, wl_28, wt_28, wu_28, wa_28, we_1, we_3, we_10, we_14, we_15, we_16, we_17, we_18, we_20, we_21, we_22, we_24, we_25, we_26, we_27, we_28, we_30, we_31, we_32, wc_20, wc_21, wc_22, wc_24, wc_25, wc_26, wc_27, wc_3, wc_4, wc_7, wc_28, wc_32, ws_1, ws_2, ws_3, ws_4, ws_9, ws_10, ws_11, ws_14, ws_15, ws_16, ws_27, ws_17, ws_20, ws_28, kc_0, kc_1, kn_1, kc_2, kn_2, kc_3, kc_4, kc_5, kc_6, kc_7, kc_8, kc_9, kc_10, kc_12, kc_13, kc_14, kc_16, kc_17, kc_18, kc_19, kc_20, kc_21, kc_22, kc_24, kc_28, kc_30, kc_32, kc_37, kc_40, kc_41, kc_42, kc_43, kc_45, kc_48, kc_56, kc_57, kc_59, kc_60, kc_61, kc_64, kc_73, kc_78, kc_91, kc_95, kc_96, kc_97, kc_98, kc_99, kc_100, kc_112, kc_122, kc_125, kc_126, kc_150, kc_162, kc_163, kc_168, kc_186, kc_190, kc_200, kc_250, kc_255, kc_355, kc_356, kc_404, kc_405, kc_429, kc_573, kc_999, kc_1000, kc_1002, kc_1100, kc_1891, kc_2200, kc_4719, kc_4869, kc_4881, kc_5148, kc_9999, kn_9999, kc_10000, kc_12345, kc_19741, kc_25433, kc_65536, kc_320403, kc_628412, kc_629093, kc_660401, kc_679843, kc_918640, kc_979410, kc_1178088, kc_6232410, kc_24644941, kc_36238189, kc_38270444, kc_392531318, kc_425693491, kc_1103515245, kc_1342154595, kc_2147483648, kc_42328242873, kc_891704255789, kc_1722105685577, kc_1858726030364, ct_0, ct_1, ct_2, ct_3, ct_4, ct_5, cf_0, cf_1, cf_2, cf_3, cf_4, cf_5, w_ty6, w_ty7, m_sv, m_z0, m_hd, m_g0, m_gs, m_s0, m_ss, m_ap, m_an, forall_const, true_and, and_true, ne_eq, not_true_eq_false, not_false_eq_true, false_implies, true_implies, implies_true, eq_self, reduceCtorEq, Nat.reduceDiv, Nat.reduceMod, Int.reduceToNat, or_true, true_or, or_false, false_or, or_self, m_it, m_if, m_c1, m_01, m_02, m_03, m_04, m_10, m_12, m_13, m_14, m_20, m_21, m_23, m_24, m_30, m_31, m_32, m_34, m_40, m_41, m_42, m_43]
  refine w_lp (fun en h' => ∃ (t i : Nat) (c : Int) (l : List Int), en = [182, a, (t : Int), (i : Int), c] ∧ Seg (h 189) i l ∧ h 189 (i + l.length) = 0 ∧ i + l.length < 1100 ∧ htO t l = some 1 ∧ t ≤ 63 ∧ QK P (r_T 0) (RJ P) h' ∧ KR (r_T 0) h h') (fun en _ => (1100 - en.getD 3 0).toNat) ⟨0, a.toNat, 0, l0, by rw [Int.toNat_of_nonneg h0]; rfl, s1_w, s2_w, s3_w, s4_w, by decide, hQ, KR.rf⟩ ?_
  rintro en h1 ⟨t, i, c, l, rfl, p1_w, p2_w, p3_w, p4_w, p5_w, q1_w, q2_w⟩
  refine ⟨?_, ?_⟩
  · show (1100 - (i : Int)).toNat < K
    omega
  simp only [wf_4, wf_40, wf_5, wf_50, wf_6, wl_1, wt_1, wu_1, wa_1, wl_4, wt_4, wu_4, wa_4, wl_5, wt_5, wu_5, wa_5, wl_6, wt_6, wu_6, wa_6, wl_9, wt_9, wu_9, wa_9, wl_10, wt_10, wu_10, wa_10, wl_11, wt_11, wu_11, wa_11, wl_13, wt_13, wu_13, wa_13, wl_14, wt_14, wu_14, wa_14, wl_15, wt_15, wu_15, wa_15, wl_16, wt_16, wu_16, wa_16, wl_17, wt_17, wu_17, wa_17, wl_20, wt_20, wu_20, wa_20, wl_21, wt_21, wu_21, wa_21, wl_22, wt_22, wu_22, wa_22, wl_23, wt_23, wu_23, wa_23, wl_24, wt_24, wu_24, wa_24, wl_26, wt_26, wu_26, wa_26, wl_27, wt_27, wu_27, wa_27, wl_28, wt_28, wu_28, wa_28, we_1, we_3, we_10, we_14, we_15, we_16, we_17, we_18, we_20, we_21, we_22, we_24, we_25, we_26, we_27, we_28, we_30, we_31, we_32, wc_20, wc_21, wc_22, wc_24, wc_25, wc_26, wc_27, wc_3, wc_4, wc_7, wc_28, wc_32, ws_1, ws_2, ws_3, ws_4, ws_9, ws_10, ws_11, ws_14, ws_15, ws_16, ws_27, ws_17, ws_20, ws_28, kc_0, kc_1, kn_1, kc_2, kn_2, kc_3, kc_4, kc_5, kc_6, kc_7, kc_8, kc_9, kc_10, kc_12, kc_13, kc_14, kc_16, kc_17, kc_18, kc_19, kc_20, kc_21, kc_22, kc_24, kc_28, kc_30, kc_32, kc_37, kc_40, kc_41, kc_42, kc_43, kc_45, kc_48, kc_56, kc_57, kc_59, kc_60, kc_61, kc_64, kc_73, kc_78, kc_91, kc_95, kc_96, kc_97, kc_98, kc_99, kc_100, kc_112, kc_122, kc_125, kc_126, kc_150, kc_162, kc_163, kc_168, kc_186, kc_190, kc_200, kc_250, kc_255, kc_355, kc_356, kc_404, kc_405, kc_429, kc_573, kc_999, kc_1000, kc_1002, kc_1100, kc_1891, kc_2200, kc_4719, kc_4869, kc_4881, kc_5148, kc_9999, kn_9999, kc_10000, kc_12345, kc_19741, kc_25433, kc_65536, kc_320403, kc_628412, kc_629093, kc_660401, kc_679843, kc_918640, kc_979410, kc_1178088, kc_6232410, kc_24644941, kc_36238189, kc_38270444, kc_392531318, kc_425693491, kc_1103515245, kc_1342154595, kc_2147483648, kc_42328242873, kc_891704255789, kc_1722105685577, kc_1858726030364, ct_0, ct_1, ct_2, ct_3, ct_4, ct_5, cf_0, cf_1, cf_2, cf_3, cf_4, cf_5, w_ty6, w_ty7, m_sv, m_z0, m_hd, m_g0, m_gs, m_s0, m_ss, m_ap, m_an, forall_const, true_and, and_true, ne_eq, not_true_eq_false, not_false_eq_true, false_implies, true_implies, implies_true, eq_self, reduceCtorEq, Nat.reduceDiv, Nat.reduceMod, Int.reduceToNat, or_true, true_or, or_false, false_or, or_self, m_it, m_if, m_c1, m_01, m_02, m_03, m_04, m_10, m_12, m_13, m_14, m_20, m_21, m_23, m_24, m_30, m_31, m_32, m_34, m_40, m_41, m_42, m_43, Int.toNat_natCast]
  have e9_w : h1 189 i = h 189 i := q2_w 189 i rfl
  rw [e9_w]
  cases l with
  | nil =>
    have e0 : h 189 i = 0 := p2_w
    rw [e0]
    have e1_w : j_div 1 0 16 = 0 := by decide
    rw [e1_w]
    exact ⟨⟨by omega, by have : i < 1100 := p3_w; omega⟩, by decide, fun k => absurd rfl k, fun _ => ⟨⟨by decide, by decide⟩, q1_w, q2_w, _, rfl, ht_int q1_w.1 (by decide) _⟩⟩
  | cons x l =>
    obtain ⟨e1_w, e2_w⟩ := code_get p1_w
    obtain ⟨x0_w, x1_w, x2_w⟩ := htO_cons p4_w
    have hx := ht_int hQ.1 (q := 189) (by decide) i
    rw [e1_w] at hx
    rw [e1_w, div16 x0_w, quo16 x0_w hx]
    rw [List.length_cons] at p2_w p3_w
    have p2' : h 189 (i + 1 + l.length) = 0 := by
      rw [show i + 1 + l.length = i + (l.length + 1) by omega]
      exact p2_w
    have bi : (0 ≤ (i : Int) ∧ (i : Int) < 2200) := ⟨by omega, by omega⟩
    have n16 : ¬(16 : Int) = 0 := by decide
    have fin_w : ∀ (t' : Nat) (T I : Int) (h2 : XH), T = (t' : Int) → I = j32 ((i : Int) + 1) → QK P (r_T 0) (RJ P) h2 → KR (r_T 0) h1 h2 → htO t' l = some 1 → t' ≤ 63 → (∃ (t_1 i_1 : Nat) (c : Int) (l : List Int), [182, a, T, I, x % 16] = [182, a, (t_1 : Int), (i_1 : Int), c] ∧ Seg (h 189) i_1 l ∧ h 189 (i_1 + l.length) = 0 ∧ i_1 + l.length < 1100 ∧ htO t_1 l = some 1 ∧ t_1 ≤ 63 ∧ QK P (r_T 0) (RJ P) h2 ∧ KR (r_T 0) h h2) ∧ (1100 - I).toNat < (1100 - (i : Int)).toNat := by
      intro t' T I h2 hT_w hI k1_w k2 k3 k4
      rw [jinc (by omega) (by omega)] at hI
      subst hT_w hI
      exact ⟨⟨t', i + 1, _, l, rfl, e2_w, p2', by omega, k3, k4, k1_w, q2_w.tr k2⟩, by omega⟩
    have bt : t < 63 → (0 ≤ (t : Int) ∧ (t : Int) < 64) := fun k => ⟨by omega, by omega⟩
    have w1_w := fun (p : Nat) (v : Int) (hv : InI v) => wi_QK (q := 193) (i := p) q1_w rj_js (by decide) hv
    refine ⟨bi, n16, fun _ => ⟨bi, n16, fun c1_w => ⟨fun _ => ?_, fun k => absurd c1_w k⟩, fun c1_w => ⟨fun c2 => ⟨fun k => absurd k c1_w, fun _ => ?_⟩, fun c2 => ⟨fun c3 => ?_, fun c3 => ?_⟩⟩⟩, fun k => absurd k x1_w⟩
    · obtain ⟨-, y2, y3⟩ | ⟨y1, -⟩ | ⟨y1, -⟩ | ⟨y1, -⟩ := x2_w
      · obtain ⟨z1, z2⟩ := w1_w t (x / 16) (by unfold InI at hx ⊢; omega)
        exact ⟨bi, n16, bt y2, fin_w (t + 1) _ _ _ (jinc (by omega) (by omega)) rfl z1 z2 y3 (by omega)⟩
      all_goals omega
    · obtain ⟨y1, -⟩ | ⟨-, y0, y2, y3⟩ | ⟨y1, -⟩ | ⟨y1, -⟩ := x2_w
      · omega
      · obtain ⟨z1, z2⟩ := w1_w t _ (ht_int q1_w.1 (q := 192) (by decide) (x / 16).toNat)
        exact ⟨bi, n16, ⟨by omega, by omega⟩, bt y2, fin_w (t + 1) _ _ _ (jinc (by omega) (by omega)) rfl z1 z2 y3 (by omega)⟩
      all_goals omega
    · obtain ⟨y1, -⟩ | ⟨y1, -⟩ | ⟨-, y2, y3⟩ | ⟨y1, -⟩ := x2_w
      · omega
      · omega
      · rw [jsub (x := (t : Int)) (y := 1) (by omega) (by omega)]
        have bt1 : (0 ≤ (t : Int) - 1 ∧ (t : Int) - 1 < 64) := ⟨by omega, by omega⟩
        obtain ⟨z1, z2⟩ := w1_w ((t : Int) - 1).toNat 1 ⟨by decide, by decide⟩
        obtain ⟨z3, z4⟩ := w1_w ((t : Int) - 1).toNat 0 in_0
        exact ⟨bt1, fun _ => ⟨bt1, fin_w t _ _ _ rfl rfl z1 z2 y3 p5_w⟩, fun _ => ⟨bt1, fin_w t _ _ _ rfl rfl z3 z4 y3 p5_w⟩⟩
      · omega
    · obtain ⟨y1, -⟩ | ⟨y1, -⟩ | ⟨y1, -⟩ | ⟨-, y2, y3⟩ := x2_w
      · omega
      · omega
      · omega
      · have et : j32 ((t : Int) + -1) = ((t - 1 : Nat) : Int) := by rw [jdec (by omega) (by omega)]; omega
        rw [et]
        rw [jsub (x := ((t - 1 : Nat) : Int)) (y := 1) (by omega) (by omega)]
        have bt1 : (0 ≤ ((t - 1 : Nat) : Int) - 1 ∧ ((t - 1 : Nat) : Int) - 1 < 64) := ⟨by omega, by omega⟩
        have bt2 : (0 ≤ ((t - 1 : Nat) : Int) ∧ ((t - 1 : Nat) : Int) < 64) := ⟨by omega, by omega⟩
        obtain ⟨v, h2, f1_w, f2_w, f3_w, f4_w⟩ := use1 (av := [x % 16, h1 193 (((t - 1 : Nat) : Int) - 1).toNat, h1 193 (((t - 1 : Nat) : Int)).toNat]) c223 rp_223 rr_223 q1_w ⟨IV.top ⟨by omega, by omega⟩, IV.top (ht_int q1_w.1 (by decide) _), IV.top (ht_int q1_w.1 (by decide) _), trivial⟩
        obtain ⟨z1, z2⟩ := wi_QK (q := 193) (i := (((t - 1 : Nat) : Int) - 1).toNat) f2_w rj_js (by decide) f4_w.2.2
        exact ⟨bt1, bt2, [v], h2, f1_w, bt1, fin_w (t - 1) _ _ _ rfl rfl z1 (f3_w.tr z2) y3 (by omega)⟩
theorem t_253 (c231 : TotR P (r_T 0) (RJ P) g (evF xs L ck K cW g_M n) 231) (c252 : TotR P (r_T 0) (RJ P) g (evF xs L ck K cW g_M n) 252) (c222 : S222 P g (evF xs L ck K cW g_M n)) : TotR P (r_T 0) (RJ P) g (evF xs L ck K cW g_M (n + 1)) 253 := by
  refine tot_hand gm_253 rp_253 rr_253 ru_253 fun av h hQ hv => ?_
  obtain ⟨x, c, s, rfl, hx, hc_w, hs⟩ := il3 hv
  obtain rfl : x = 182 := hx
  have hs2 := hs.2.2
  show wS _ _ K bb_253 [182, c, s, 0] h _
  generalize evF xs L ck K cW g_M n = F at c231 c252 c222 ⊢
  unfold bb_253
  simp only [wf_4, wf_40, wf_5, wf_50, wf_6, wl_1, wt_1, wu_1, wa_1, wl_4, wt_4, wu_4, wa_4, wl_5, wt_5, wu_5, wa_5, wl_6, wt_6, wu_6, wa_6, wl_9, wt_9, wu_9, wa_9, wl_10, wt_10, wu_10, wa_10, wl_11, wt_11, wu_11, wa_11, wl_13, wt_13, wu_13, wa_13, wl_14, wt_14, wu_14, wa_14, wl_15, wt_15, wu_15, wa_15, wl_16, wt_16, wu_16, wa_16, wl_17, wt_17, wu_17, wa_17, wl_20, wt_20, wu_20, wa_20, wl_21, wt_21, wu_21, wa_21, wl_22, wt_22, wu_22, wa_22, wl_23, wt_23, wu_23, wa_23, wl_24, wt_24, wu_24, wa_24, wl_26, wt_26, wu_26, wa_26, wl_27, wt_27, wu_27, wa_27, wl_28, wt_28, wu_28, wa_28, we_1, we_3, we_10, we_14, we_15, we_16, we_17, we_18, we_20, we_21, we_22, we_24, we_25, we_26, we_27, we_28, we_30, we_31, we_32, wc_20, wc_21, wc_22, wc_24, wc_25, wc_26, wc_27, wc_3, wc_4, wc_7, wc_28, wc_32, ws_1, ws_2, ws_3, ws_4, ws_9, ws_10, ws_11, ws_14, ws_15, ws_16, ws_27, ws_17, ws_20, ws_28, kc_0, kc_1, kn_1, kc_2, kn_2, kc_3, kc_4, kc_5, kc_6, kc_7, kc_8, kc_9, kc_10, kc_12, kc_13, kc_14, kc_16, kc_17, kc_18, kc_19, kc_20, kc_21, kc_22, kc_24, kc_28, kc_30, kc_32, kc_37, kc_40, kc_41, kc_42, kc_43, kc_45, kc_48, kc_56, kc_57, kc_59, kc_60, kc_61, kc_64, kc_73, kc_78, kc_91, kc_95, kc_96, kc_97, kc_98, kc_99, kc_100, kc_112, kc_122, kc_125, kc_126, kc_150, kc_162, kc_163, kc_168, kc_186, kc_190, kc_200, kc_250, kc_255, kc_355, kc_356, kc_404, kc_405, kc_429, kc_573, kc_999, kc_1000, kc_1002, kc_1100, kc_1891, kc_2200, kc_4719, kc_4869, kc_4881, kc_5148, kc_9999, kn_9999, kc_10000, kc_12345, kc_19741, kc_25433, kc_65536, kc_320403, kc_628412, kc_629093, kc_660401, kc_679843, kc_918640, kc_979410, kc_1178088, kc_6232410, kc_24644941, kc_36238189, kc_38270444, kc_392531318, kc_425693491, kc_1103515245, kc_1342154595, kc_2147483648, kc_42328242873, kc_891704255789, kc_1722105685577, kc_1858726030364, ct_0, ct_1, ct_2, ct_3, ct_4, ct_5, cf_0, cf_1, cf_2, cf_3, cf_4, cf_5, w_ty6, w_ty7, m_sv, m_z0, m_hd, m_g0, m_gs, m_s0, m_ss, m_ap, m_an, forall_const, true_and, and_true, ne_eq, not_true_eq_false, not_false_eq_true, false_implies, true_implies, implies_true, eq_self, reduceCtorEq, Nat.reduceDiv, Nat.reduceMod, Int.reduceToNat, or_true, true_or, or_false, false_or, or_self, m_it, m_if, m_c1, m_01, m_02, m_03, m_04, m_10, m_12, m_13, m_14, m_20, m_21, m_23, m_24, m_30, m_31, m_32, m_34, m_40, m_41, m_42, m_43]
  have bc : 0 ≤ c ∧ c < 4 := ⟨hc_w.1, by have := hc_w.2; omega⟩
  have b0 : (0 : Int) ≤ 0 ∧ (0 : Int) < 4 := by decide
  have b1 : (0 : Int) ≤ 1 ∧ (1 : Int) < 4 := by decide
  have b2 : (0 : Int) ≤ 2 ∧ (2 : Int) < 4 := by decide
  have b3 : (0 : Int) ≤ 3 ∧ (3 : Int) < 4 := by decide
  have b4 : (0 : Int) ≤ 4 ∧ (4 : Int) < 190 := by decide
  obtain ⟨z1, z2⟩ := wi_QK (q := 192) (i := 0) hQ rj_js (by decide) (ht_int hQ.1 (q := 198) (by decide) c.toNat)
  obtain ⟨v1_w, h1, a1_w, a2, a3, a4⟩ := use1 (av := [182, c]) c231 rp_231 rr_231 z1 ⟨rfl, hc_w, trivial⟩
  obtain ⟨z3, z4⟩ := wi_QK (q := 192) (i := 1) a2 rj_js (by decide) a4.2.2
  obtain ⟨z5, z6⟩ := wi_QK (q := 192) (i := 2) z3 rj_js (by decide) hs2
  obtain ⟨v2, h2, d1_w, d2_w, d3_w, d4_w⟩ := use1 (av := [182, c]) c252 rp_252 rr_252 z5 ⟨rfl, IV.top ⟨by omega, by omega⟩, trivial⟩
  obtain ⟨z7, z8⟩ := wi_QK (q := 192) (i := 3) d2_w rj_js (by decide) d4_w.2.2
  refine ⟨bc, b0, [v1_w], h1, a1_w, b1, b2, [v2], h2, d1_w, b3, b4, ?_⟩
  have kr := ((((z2.tr a3).tr z4).tr z6).tr d3_w).tr z8
  have cl : ∀ (h' : XH) (v : Int), QK P (r_T 0) (RJ P) h' → KR (r_T 0) h h' → InI v → (1 : Nat) = 1 ∧ QK P (r_T 0) (RJ P) h' ∧ KR (r_T 0) h h' ∧ IL P [iT] [v] := fun h' v k1_w k2 k3 => ⟨rfl, k1_w, k2, IV.top k3, trivial⟩
  simp only [m_hd] at z7 z8 kr ⊢
  generalize j_up h2 192 3 v2 = h3 at z7 z8 kr ⊢
  have i0 : InI 0 := in_0
  have i9_w : InI 9999 := ⟨by decide, by decide⟩
  have iv_w := ht_int z7.1 (q := 198) (by decide) c.toNat
  refine ⟨fun k1_w => ⟨bc, b3, fun k2 => ⟨z7, kr, IV.top i0, trivial⟩, fun k2 => ⟨fun k3 => ⟨z7, kr, IV.top i0, trivial⟩, fun k3 => ⟨fun k4 => ⟨z7, kr, IV.top i9_w, trivial⟩, fun k4 => ⟨z7, kr, IV.top iv_w, trivial⟩⟩⟩⟩, fun k1_w => ⟨b4, ?_⟩⟩
  obtain ⟨v4_w, h4, x1_w, x2_w, x3, x4_w⟩ := c222 h3 z7 k1_w
  exact ⟨[v4_w], h4, x1_w, b3, fun k2 => ⟨x2_w, kr.tr x3, IV.top i0, trivial⟩, fun k2 => ⟨fun k3 => ⟨x2_w, kr.tr x3, IV.top i0, trivial⟩, fun k3 => ⟨fun k4 => ⟨x2_w, kr.tr x3, IV.top i9_w, trivial⟩, fun k4 => ⟨x2_w, kr.tr x3, IV.top x4_w, trivial⟩⟩⟩⟩
end HA4
end
section
/-! ===== what a method_w of the reference_w may_w write_w ===== -/
/-- all cells_w but some fields_w of the reference_w and some arrays_w -/
def Fr (w : List Nat × List Nat) (h h' : XH) : Prop := ∀ o k, (o = 182 → w.1.contains k = false) → w.2.contains o = false → h' o k = h o k
def fr_sub (v w : List Nat × List Nat) : Bool := v.1.all (fun k => w.1.contains k) && v.2.all (fun k => w.2.contains k)
theorem Fr.rf {w : List Nat × List Nat} {h : XH} : Fr w h h := fun _ _ _ _ => rfl
theorem Fr.tr {w : List Nat × List Nat} {h h1 h2 : XH} (a : Fr w h h1) (b : Fr w h1 h2) : Fr w h h2 := fun o k e1_w e2_w => (b o k e1_w e2_w).trans (a o k e1_w e2_w)
theorem Fr.sub {v w : List Nat × List Nat} {h h1 : XH} (hs : fr_sub v w = true) (a : Fr v h h1) : Fr w h h1 := fun o k e1_w e2_w => by
  rw [fr_sub, Bool.and_eq_true] at hs
  refine a o k (fun e => ?_) ?_
  · cases hc_w : v.1.contains k with
    | false => rfl
    | true =>
      have h3 := List.all_eq_true.mp hs.1 k (by simpa using hc_w)
      have h4 := e1_w e
      rw [h4] at h3
      cases h3
  · cases hc_w : v.2.contains o with
    | false => rfl
    | true =>
      have h3 := List.all_eq_true.mp hs.2 o (by simpa using hc_w)
      rw [e2_w] at h3
      cases h3
theorem Fr.fld {w : List Nat × List Nat} {h : XH} {k : Nat} {v : Int} (hk : w.1.contains k = true) : Fr w h (j_up h 182 k v) := fun o i e1_w _ => up_ne (fun z => by
  have := e1_w z.1
  rw [z.2, hk] at this
  cases this)
theorem Fr.arr {w : List Nat × List Nat} {h : XH} {q i : Nat} {v : Int} (hq : w.2.contains q = true) : Fr w h (j_up h q i v) := fun o j _ e2_w => up_ne (fun z => by
  rw [z.1, hq] at e2_w
  cases e2_w)
theorem Fr.pure {h h1 : XH} (a : Fr ([], []) h h1) : h1 = h := funext fun o => funext fun k => a o k (fun _ => rfl) rfl
/-- where an array of the reference_w lies -/
def fr_obj : SX → Option Nat
  | .op (.var 5) (.op a (.op b _)) => bif q_loc a == some 0 then some (r_O (sx_n b)) else none
  | _ => none
def fr_call (W : Nat → List Nat × List Nat) (C S : Nat → Bool) (s : Bool) (w : List Nat × List Nat) (f : Nat) (a : SX) : Bool := C f && fr_sub (W f) w && (S f || (!s && (match q_var a with
  | some q => q.1 == 0
  | none => false)))
def fr_E (W : Nat → List Nat × List Nat) (C S : Nat → Bool) (s : Bool) (w : List Nat × List Nat) : SX → Bool
  | .op (.var t) (.op a (.op b c)) => match t with
    | 1 => true
    | 3 => true
    | 4 => fr_E W C S s w a
    | 5 => fr_E W C S s w a
    | 7 => fr_E W C S s w a && fr_E W C S s w b && sx_n c == 0
    | 10 => fr_E W C S s w a && sx_n c == 0
    | 14 => fr_E W C S s w a && fr_E W C S s w b
    | 15 => fr_E W C S s w a && fr_E W C S s w b
    | 16 => fr_E W C S s w a && fr_E W C S s w b
    | 17 => fr_E W C S s w a && fr_E W C S s w b
    | 18 => fr_E W C S s w a
    | 20 => fr_E W C S s w a && fr_E W C S s w b
    | 21 => fr_E W C S s w a
    | 22 => fr_E W C S s w a && fr_E W C S s w b
    | 24 => fr_E W C S s w a
    | 25 => fr_E W C S s w a && fr_E W C S s w b
    | 26 => fr_E W C S s w a && fr_E W C S s w b
    | 27 => fr_E W C S s w a
    | 28 => fr_E W C S s w a && fr_E W C S s w b && fr_E W C S s w c
    | 30 => fr_E W C S s w a && fr_E W C S s w b
    | 31 => true
    | 32 => fr_E W C S s w a && fr_call W C S s w (sx_n b) a
    | _ => false
  | _ => false
/-- as_w a statement, as_w cases -/
def fr_S (W : Nat → List Nat × List Nat) (C S : Nat → Bool) (s : Bool) (w : List Nat × List Nat) : SX → Bool × Bool
  | .op (.var t) (.op a (.op b c)) => (match t with
    | 1 => true
    | 22 => true
    | 2 => (fr_S W C S s w a).1 && (fr_S W C S s w b).1
    | 3 => !(sx_n a == 0) && fr_E W C S s w b
    | 4 => !(sx_n a == 0)
    | 5 => !s && q_loc a == some 0 && fr_E W C S s w b && w.1.contains (sx_n c)
    | 6 => !s && q_loc a == some 0 && fr_E W C S s w b && w.1.contains (sx_n c / 16)
    | 7 => (match c with
      | .op (.var _) v => !s && (match fr_obj a with
        | some q => w.2.contains q && !(q == 0)
        | none => false) && fr_E W C S s w b && fr_E W C S s w v
      | _ => false)
    | 8 => (match c with
      | .op (.var _) v => !s && (match fr_obj a with
        | some q => w.2.contains q && !(q == 0)
        | none => false) && fr_E W C S s w b && fr_E W C S s w v
      | _ => false)
    | 9 => fr_E W C S s w a
    | 10 => fr_E W C S s w a && (fr_S W C S s w b).1
    | 11 => fr_E W C S s w a && (fr_S W C S s w b).1 && (fr_S W C S s w c).1
    | 12 => fr_E W C S s w a && (fr_S W C S s w b).1 && (fr_S W C S s w c).1
    | 13 => fr_E W C S s w a && (fr_S W C S s w b).1
    | 14 => true
    | 15 => true
    | 16 => fr_E W C S s w a
    | 27 => fr_E W C S s w a
    | 17 => true
    | 19 => fr_E W C S s w a && (fr_S W C S s w b).2
    | 20 => (fr_S W C S s w a).1
    | 28 => fr_E W C S s w a && (fr_S W C S s w b).1
    | _ => false, match t with
    | 25 => (fr_S W C S s w b).1 && (fr_S W C S s w c).2
    | 26 => (fr_S W C S s w a).1
    | _ => false)
  | _ => (false, false)
/-- what calls are known_w to write_w -/
def FrF (W : Nat → List Nat × List Nat) (C S : Nat → Bool) (F : XP) : Prop := ∀ (f : Nat) (av : List Int) (g : XS × Nat × Nat) (h : XH) (c : Nat) (r : List Int) (g' : XS × Nat × Nat) (h' : XH), C f = true → g.1 = a_g3 → (S f = true ∨ av.getD 0 0 = 182) → F f av (g, h) = some (c, r, (g', h')) → g'.1 = a_g3 ∧ Fr (W f) h h'
section FRM
variable {xs : Nat → Int} {L K : Nat} {ck : Nat → List Nat} {F : XP} {cW : Nat → Nat → Int} {W : Nat → List Nat × List Nat} {C S : Nat → Bool} {s : Bool} {w : List Nat × List Nat}
def FrE (w : List Nat × List Nat) (s : Bool) (A : XE) : Prop := ∀ (en : List Int) (g : XS × Nat × Nat) (h : XH) (r : List Int) (g' : XS × Nat × Nat) (h' : XH), g.1 = a_g3 → (s = true ∨ en.getD 0 0 = 182) → A en (g, h) = some (r, (g', h')) → g'.1 = a_g3 ∧ Fr w h h'
def FrS (w : List Nat × List Nat) (s : Bool) (A : XR) : Prop := ∀ (en : List Int) (g : XS × Nat × Nat) (h : XH) (c : Nat) (vs en' : List Int) (g' : XS × Nat × Nat) (h' : XH), g.1 = a_g3 → (s = true ∨ en.getD 0 0 = 182) → A en (g, h) = some (c, vs, en', (g', h')) → g'.1 = a_g3 ∧ Fr w h h' ∧ (s = true ∨ en'.getD 0 0 = 182)
def FrK (w : List Nat × List Nat) (s : Bool) (A : XR) : Prop := ∀ (v : Int) (en : List Int) (g : XS × Nat × Nat) (h : XH) (c : Nat) (vs en' : List Int) (g' : XS × Nat × Nat) (h' : XH), g.1 = a_g3 → (s = true ∨ en.getD 0 0 = 182) → A (v :: en) (g, h) = some (c, vs, en', (g', h')) → g'.1 = a_g3 ∧ Fr w h h' ∧ (s = true ∨ en'.getD 0 0 = 182)
theorem fe_1 {A X : XE} {f : List Int → XT → Option (List Int)} (hA : FrE w s A) (hX : ∀ en st, X en st = (A en st).bind fun x => (f x.1 x.2).bind fun v => some (v, x.2)) : FrE w s X := fun en g h r g' h' hg ht he => by
  rw [hX] at he
  obtain ⟨⟨x, gx, hx⟩, e1_w, e2_w⟩ := j_bd he
  obtain ⟨v, -, e3_w⟩ := j_bd e2_w
  cases e3_w
  exact hA en g h x _ _ hg ht e1_w
theorem fe_2 {A B X : XE} {f : List Int → List Int → XT → XT → Option (List Int)} (hA : FrE w s A) (hB_w : FrE w s B) (hX : ∀ en st, X en st = (A en st).bind fun x => (B en x.2).bind fun y => (f x.1 y.1 x.2 y.2).bind fun v => some (v, y.2)) : FrE w s X := fun en g h r g' h' hg ht he => by
  rw [hX] at he
  obtain ⟨⟨x, gx, hx⟩, e1_w, e2_w⟩ := j_bd he
  obtain ⟨⟨y, gy, hy⟩, e3_w, e4_w⟩ := j_bd e2_w
  obtain ⟨v, -, e5_w⟩ := j_bd e4_w
  cases e5_w
  obtain ⟨k1_w, k2⟩ := hA en g h x _ _ hg ht e1_w
  obtain ⟨k3, k4⟩ := hB_w en gx hx y _ _ k1_w ht e3_w
  exact ⟨k3, k2.tr k4⟩
theorem fe_ife {A B D : XE} (hA : FrE w s A) (hB_w : FrE w s B) (hC : FrE w s D) : FrE w s (n_ife A B D) := fun en g h r g' h' hg ht he => by
  unfold n_ife at he
  obtain ⟨⟨x, gx, hx⟩, e1_w, e2_w⟩ := j_bd he
  obtain ⟨k1_w, k2⟩ := hA en g h x _ _ hg ht e1_w
  dsimp only at e2_w
  split at e2_w
  · obtain ⟨k3, k4⟩ := hC en gx hx r _ _ k1_w ht e2_w
    exact ⟨k3, k2.tr k4⟩
  · obtain ⟨k3, k4⟩ := hB_w en gx hx r _ _ k1_w ht e2_w
    exact ⟨k3, k2.tr k4⟩
theorem fe_c {v : List Int} : FrE w s (fun _ st => some (v, st)) := fun en g h r g' h' hg _ he => by cases he; exact ⟨hg, Fr.rf⟩
theorem fe_nz {A : XE} (hA : FrE w s A) : FrE w s (n_nz A) := fe_1 (f := fun x _ => some [j_b (decide (j_hd x ≠ 0))]) hA (fun _ _ => rfl)
theorem fr_E_ok (hF : FrF W C S F) : ∀ (t : SX), fr_E W C S s w t = true → FrE w s (evE xs L ck F cW t)
  | .op (.var t) (.op a (.op b c)), ht => by
    have iA := fun k => fr_E_ok hF a k
    have iB_w := fun k => fr_E_ok hF b k
    have iC := fun k => fr_E_ok hF c k
    unfold fr_E at ht
    show FrE w s (nodeE xs L ck F cW t a b c (evE xs L ck F cW a) (evE xs L ck F cW b) (evE xs L ck F cW c))
    split at ht
    · exact fe_c
    · exact fun en g h r g' h' hg _ he => by cases he; exact ⟨hg, Fr.rf⟩
    · exact fe_1 (f := fun x st => some [st.2 (j_hd x).toNat (sx_n b)]) (iA ht) (fun _ _ => rfl)
    · exact fe_1 (f := fun x st => (j_rf st.1.1 (j_hd x).toNat (sx_n b)).map fun r => [r]) (iA ht) (fun en st => by
        show (evE xs L ck F cW a en st).bind (fun x => (j_rf x.2.1.1 (j_hd x.1).toNat (sx_n b)).bind fun r => some ([r], x.2)) = _
        congr 1
        funext x
        cases j_rf x.2.1.1 (j_hd x.1).toNat (sx_n b) <;> rfl)
    · simp only [Bool.and_eq_true, beq_iff_eq] at ht
      refine fe_2 (f := fun x y st st2_w => if 0 ≤ j_hd y ∧ j_hd y < j_len st2_w.1.1 (j_hd x).toNat then some [st2_w.2 (j_hd x).toNat (j_hd y).toNat] else none) (iA ht.1.1) (iB_w ht.1.2) (fun en st => ?_)
      show n_aload xs L (sx_n c) _ _ en st = _
      unfold n_aload
      rw [ht.2]
      congr 1
      funext x
      congr 1
      funext y
      by_cases hh : 0 ≤ j_hd y.1 ∧ j_hd y.1 < j_len y.2.1.1 (j_hd x.1).toNat
      · simp [hh]
      · simp [hh]
    · simp only [Bool.and_eq_true, beq_iff_eq] at ht
      refine fe_1 (f := fun x st => some [j_len st.1.1 (j_hd x).toNat]) (iA ht.1) (fun en st => ?_)
      show n_alen L (sx_n c) _ en st = _
      unfold n_alen
      rw [ht.2]
      rfl
    · rw [Bool.and_eq_true] at ht
      exact fe_2 (f := fun x y _ _ => some [j_iop (sx_n c) (j_hd x) (j_hd y)]) (iA ht.1) (iB_w ht.2) (fun _ _ => rfl)
    · rw [Bool.and_eq_true] at ht
      exact fe_2 (f := fun x y _ _ => some [j_lop (sx_n c) (j_hd x) (j_hd y)]) (iA ht.1) (iB_w ht.2) (fun _ _ => rfl)
    · rw [Bool.and_eq_true] at ht
      exact fe_2 (f := fun x y _ _ => some [j_lsh (sx_n c) (j_hd x) (j_hd y)]) (iA ht.1) (iB_w ht.2) (fun _ _ => rfl)
    · rw [Bool.and_eq_true] at ht
      refine fe_2 (f := fun x y _ _ => if j_hd y = 0 then none else some [j_div (sx_n c) (j_hd x) (j_hd y)]) (iA ht.1) (iB_w ht.2) (fun en st => ?_)
      show (evE xs L ck F cW a en st).bind (fun x => (evE xs L ck F cW b en x.2).bind fun y => if j_hd y.1 = 0 then none else some ([j_div (sx_n c) (j_hd x.1) (j_hd y.1)], y.2)) = _
      congr 1
      funext x
      congr 1
      funext y
      split <;> rfl
    · exact fe_1 (f := fun x _ => some [j_un (sx_n c) (j_hd x)]) (iA ht) (fun _ _ => rfl)
    · rw [Bool.and_eq_true] at ht
      exact fe_2 (f := fun x y _ _ => some [j_b (j_cmp (sx_n c) (j_hd x) (j_hd y))]) (iA ht.1) (iB_w ht.2) (fun _ _ => rfl)
    · exact fe_1 (f := fun x _ => some [j_b (j_cmp (sx_n c) (j_hd x) 0)]) (iA ht) (fun _ _ => rfl)
    · rw [Bool.and_eq_true] at ht
      exact fe_2 (f := fun x y _ _ => some [j_b (j_cmp (sx_n c) (j_hd x) (j_hd y))]) (iA ht.1) (iB_w ht.2) (fun _ _ => rfl)
    · exact iA ht
    · rw [Bool.and_eq_true] at ht
      exact fe_ife (iA ht.1) (fe_nz (iB_w ht.2)) fe_c
    · rw [Bool.and_eq_true] at ht
      exact fe_ife (iA ht.1) fe_c (fe_nz (iB_w ht.2))
    · exact fe_1 (f := fun x _ => some [j_b (decide (j_hd x = 0))]) (iA ht) (fun _ _ => rfl)
    · rw [Bool.and_eq_true, Bool.and_eq_true] at ht
      exact fe_ife (iA ht.1.1) (iB_w ht.1.2) (iC ht.2)
    · rw [Bool.and_eq_true] at ht
      exact fe_2 (f := fun x y _ _ => some (x ++ y)) (iA ht.1) (iB_w ht.2) (fun _ _ => rfl)
    · exact fe_c
    · rw [Bool.and_eq_true] at ht
      obtain ⟨h1, h2⟩ := ht
      simp only [fr_call, Bool.and_eq_true, Bool.or_eq_true] at h2
      obtain ⟨⟨h2, h3⟩, h4⟩ := h2
      intro en g h r g' h' hg hth he
      have he2 : n_call F (sx_n b) (evE xs L ck F cW a) en (g, h) = some (r, (g', h')) := he
      unfold n_call at he2
      obtain ⟨⟨av, ga, ha_w⟩, e1_w, e2_w⟩ := j_bd he2
      obtain ⟨⟨c1_w, r1_w, g1, h1'⟩, e3_w, e4_w⟩ := j_bd e2_w
      obtain ⟨-, e5_w⟩ := j_if e4_w
      cases e5_w
      obtain ⟨k1_w, k2⟩ := (iA h1) en g h av _ _ hg hth e1_w
      have hthis : S (sx_n b) = true ∨ av.getD 0 0 = 182 := by
        rcases h4 with h4 | ⟨h4, h5⟩
        · exact Or.inl h4
        · right
          have hs : en.getD 0 0 = 182 := hth.resolve_left (by
            intro k
            rw [k] at h4
            cases h4)
          cases hq : q_var a with
          | none => rw [hq] at h5; cases h5
          | some q =>
            rw [hq] at h5
            have h6 : q.1 = 0 := by simpa using h5
            rw [q_var_ok hq] at e1_w
            obtain ⟨z, -, e6_w⟩ := j_bd e1_w
            have e7_w := congrArg Prod.fst (Option.some.inj e6_w)
            dsimp only at e7_w
            rw [← e7_w, h6]
            exact hs
      obtain ⟨k3, k4⟩ := hF _ av ga ha_w _ _ _ _ h2 k1_w hthis e3_w
      exact ⟨k3, k2.tr (k4.sub h3)⟩
    · cases ht
  | .var _, ht => by cases ht
  | .op (.op _ _) _, ht => by cases ht
  | .op (.var _) (.var _), ht => by cases ht
  | .op (.var _) (.op _ (.var _)), ht => by cases ht
theorem fs_c {k : Nat} : FrS w s (fun en st => some (k, [], en, st)) := fun en g h c vs en' g' h' hg ht he => by cases he; exact ⟨hg, Fr.rf, ht⟩
theorem fs_seq {A B : XR} (hA : FrS w s A) (hB_w : FrS w s B) : FrS w s (s_seq A B) := fun en g h c vs en' g' h' hg ht he => by
  unfold s_seq at he
  obtain ⟨⟨c1_w, v1_w, en1, g1, h1⟩, e1_w, e2_w⟩ := j_bd he
  obtain ⟨k1_w, k2, k3⟩ := hA _ _ _ _ _ _ _ _ hg ht e1_w
  dsimp only at e2_w
  split at e2_w
  · obtain ⟨m1_w, m2_w, m3_w⟩ := hB_w _ _ _ _ _ _ _ _ k1_w k3 e2_w
    exact ⟨m1_w, k2.tr m2_w, m3_w⟩
  · cases e2_w
    exact ⟨k1_w, k2, k3⟩
theorem fs_if {X : XE} {A B : XR} (hX : FrE w s X) (hA : FrS w s A) (hB_w : FrS w s B) : FrS w s (s_if X A B) := fun en g h c vs en' g' h' hg ht he => by
  unfold s_if at he
  obtain ⟨⟨x, g1, h1⟩, e1_w, e2_w⟩ := j_bd he
  obtain ⟨k1_w, k2⟩ := hX _ _ _ _ _ _ hg ht e1_w
  dsimp only at e2_w
  split at e2_w
  · obtain ⟨m1_w, m2_w, m3_w⟩ := hB_w _ _ _ _ _ _ _ _ k1_w ht e2_w
    exact ⟨m1_w, k2.tr m2_w, m3_w⟩
  · obtain ⟨m1_w, m2_w, m3_w⟩ := hA _ _ _ _ _ _ _ _ k1_w ht e2_w
    exact ⟨m1_w, k2.tr m2_w, m3_w⟩
theorem fs_loop {X : XE} {A B : XR} (hX : FrE w s X) (hA : FrS w s A) (hB_w : FrS w s B) : ∀ k, FrS w s (s_loop X A B k)
  | 0 => fun en g h c vs en' g' h' hg ht he => by cases he
  | k + 1 => fun en g h c vs en' g' h' hg ht he => by
    unfold s_loop at he
    obtain ⟨⟨x, g1, h1⟩, e1_w, e2_w⟩ := j_bd he
    obtain ⟨k1_w, k2⟩ := hX _ _ _ _ _ _ hg ht e1_w
    dsimp only at e2_w
    split at e2_w
    · cases e2_w
      exact ⟨k1_w, k2, ht⟩
    · obtain ⟨⟨c1_w, v1_w, en1, g2, h2⟩, e3_w, e4_w⟩ := j_bd e2_w
      obtain ⟨m1_w, m2_w, m3_w⟩ := hA _ _ _ _ _ _ _ _ k1_w ht e3_w
      dsimp only at e4_w
      split at e4_w
      · obtain ⟨⟨c2, v2, en2, g3_w, h3⟩, e5_w, e6_w⟩ := j_bd e4_w
        obtain ⟨n1_w, n2_w, n3_w⟩ := hB_w _ _ _ _ _ _ _ _ m1_w m3_w e5_w
        dsimp only at e6_w
        split at e6_w
        · obtain ⟨o1, o2, o3_w⟩ := fs_loop hX hA hB_w k _ _ _ _ _ _ _ _ n1_w n3_w e6_w
          exact ⟨o1, ((k2.tr m2_w).tr n2_w).tr o2, o3_w⟩
        · cases e6_w
      · split at e4_w
        · cases e4_w
          exact ⟨m1_w, k2.tr m2_w, m3_w⟩
        · cases e4_w
          exact ⟨m1_w, k2.tr m2_w, m3_w⟩
theorem fs_do {X : XE} {A : XR} (hX : FrE w s X) (hA : FrS w s A) : ∀ k, FrS w s (s_do A X k)
  | 0 => fun en g h c vs en' g' h' hg ht he => by cases he
  | k + 1 => fun en g h c vs en' g' h' hg ht he => by
    unfold s_do at he
    obtain ⟨⟨c1_w, v1_w, en1, g2, h2⟩, e3_w, e4_w⟩ := j_bd he
    obtain ⟨m1_w, m2_w, m3_w⟩ := hA _ _ _ _ _ _ _ _ hg ht e3_w
    dsimp only at e4_w
    split at e4_w
    · obtain ⟨⟨x, g3_w, h3⟩, e5_w, e6_w⟩ := j_bd e4_w
      obtain ⟨n1_w, n2_w⟩ := hX _ _ _ _ _ _ m1_w m3_w e5_w
      dsimp only at e6_w
      split at e6_w
      · cases e6_w
        exact ⟨n1_w, m2_w.tr n2_w, m3_w⟩
      · obtain ⟨o1, o2, o3_w⟩ := fs_do hX hA k _ _ _ _ _ _ _ _ n1_w m3_w e6_w
        exact ⟨o1, (m2_w.tr n2_w).tr o2, o3_w⟩
    · split at e4_w
      · cases e4_w
        exact ⟨m1_w, m2_w, m3_w⟩
      · cases e4_w
        exact ⟨m1_w, m2_w, m3_w⟩
theorem fs_e {X : XE} {A : XR} {k : Nat} {f : List Int → List Int} (hX : FrE w s X) (hA : ∀ en st r, A en st = some r → ∃ x, X en st = some x ∧ ∃ vs, r = (k, vs, en, x.2)) : FrS w s A := fun en g h c vs en' g' h' hg ht he => by
  obtain ⟨⟨x, g1, h1⟩, e1_w, vs', e2_w⟩ := hA _ _ _ he
  cases e2_w
  obtain ⟨k1_w, k2⟩ := hX _ _ _ _ _ _ hg ht e1_w
  exact ⟨k1_w, k2, ht⟩
/-- the object of a store_w -/
theorem fo_this {a : SX} (h : q_loc a = some 0) {en : List Int} (ht : en.getD 0 0 = 182) (st : XT) : evE xs L ck F cW a en st = some ([182], st) := by
  rw [q_loc_ok h, ht]
theorem fo_arr {a : SX} {q : Nat} (h : fr_obj a = some q) (hq : q ≠ 0) {en : List Int} (ht : en.getD 0 0 = 182) {st : XT} (hg : st.1.1 = a_g3) : evE xs L ck F cW a en st = some ([(q : Int)], st) := by
  unfold fr_obj at h
  split at h
  · obtain ⟨h1, h2⟩ := b_if h
    rename_i a' b' c'
    rw [beq_iff_eq] at h1
    show (evE xs L ck F cW _ en st).bind _ = _
    rw [fo_this h1 ht, Option.bind_some]
    show (j_rf st.1.1 182 (sx_n _)).bind _ = _
    rw [hg, (r_tab 0).2.1 _ (by
      show r_O (sx_n _) ≠ 0
      rw [h2]
      exact hq)]
    show some ([(r_O (sx_n _) : Int)], st) = _
    rw [h2]
  · cases h
theorem fr_S_ok (hF : FrF W C S F) : ∀ (t : SX), ((fr_S W C S s w t).1 = true → FrS w s (evS xs L ck F K cW t)) ∧ ((fr_S W C S s w t).2 = true → FrK w s (evS xs L ck F K cW t))
  | .op (.var t) (.op a (.op b c)) => by
    have iA := fr_S_ok hF a
    have iB_w := fr_S_ok hF b
    have iC := fr_S_ok hF c
    have e := fun t k => fr_E_ok (xs := xs) (L := L) (ck := ck) (cW := cW) (s := s) (w := w) hF t k
    constructor
    · intro ht
      show FrS w s (nodeS xs L ck F K cW t a b c (evS xs L ck F K cW a) (evS xs L ck F K cW b) (evS xs L ck F K cW c))
      unfold fr_S at ht
      dsimp only at ht
      split at ht
      · exact fs_c
      · exact fs_c
      · rw [Bool.and_eq_true] at ht
        exact fs_seq (iA.1 ht.1) (iB_w.1 ht.2)
      · rw [Bool.and_eq_true] at ht
        intro en g h k vs en' g' h' hg hth he
        obtain ⟨⟨x, g1, h1⟩, e1_w, e2_w⟩ := j_bd (show ((evE xs L ck F cW b en (g, h)).bind fun x => some (0, [], en.set (sx_n a) (j_hd x.1), x.2)) = _ from he)
        cases e2_w
        obtain ⟨k1_w, k2⟩ := e b ht.2 _ _ _ _ _ _ hg hth e1_w
        refine ⟨k1_w, k2, hth.imp id (fun z => ?_)⟩
        rw [set_ne (by simpa using ht.1)]
        exact z
      · intro en g h k vs en' g' h' hg hth he
        cases he
        refine ⟨hg, Fr.rf, hth.imp id (fun z => ?_)⟩
        rw [set_ne (by simpa using ht)]
        exact z
      · simp only [Bool.and_eq_true, Bool.not_eq_true', beq_iff_eq] at ht
        obtain ⟨⟨⟨h1, h2⟩, h3⟩, h4⟩ := ht
        intro en g h k vs en' g' h' hg hth he
        have hs : en.getD 0 0 = 182 := hth.resolve_left (by rw [h1]; decide)
        have he2 : s_putf (sx_n c) (evE xs L ck F cW a) (evE xs L ck F cW b) en (g, h) = some (k, vs, en', (g', h')) := he
        unfold s_putf at he2
        rw [fo_this h2 hs, Option.bind_some] at he2
        obtain ⟨⟨y, g1, h1'⟩, e1_w, e2_w⟩ := j_bd he2
        cases e2_w
        obtain ⟨k1_w, k2⟩ := e b h3 _ _ _ _ _ _ hg hth e1_w
        exact ⟨k1_w, k2.tr (Fr.fld h4), hth⟩
      · simp only [Bool.and_eq_true, Bool.not_eq_true', beq_iff_eq] at ht
        obtain ⟨⟨⟨h1, h2⟩, h3⟩, h4⟩ := ht
        intro en g h k vs en' g' h' hg hth he
        have hs : en.getD 0 0 = 182 := hth.resolve_left (by rw [h1]; decide)
        have he2 : s_putfC (sx_n c / 16) (sx_n c % 16) (evE xs L ck F cW a) (evE xs L ck F cW b) en (g, h) = some (k, vs, en', (g', h')) := he
        unfold s_putfC at he2
        rw [fo_this h2 hs, Option.bind_some] at he2
        obtain ⟨⟨y, g1, h1'⟩, e1_w, e2_w⟩ := j_bd he2
        cases e2_w
        obtain ⟨k1_w, k2⟩ := e b h3 _ _ _ _ _ _ hg hth e1_w
        exact ⟨k1_w, k2.tr (Fr.fld h4), hth⟩
      · match c, ht with
        | .op (.var ty_w) v, ht =>
          simp only [Bool.and_eq_true, Bool.not_eq_true'] at ht
          obtain ⟨⟨⟨h1, h2⟩, h3⟩, h4⟩ := ht
          intro en g h k vs en' g' h' hg hth he
          have hs : en.getD 0 0 = 182 := hth.resolve_left (by rw [h1]; decide)
          cases ho : fr_obj a with
          | none => rw [ho] at h2; cases h2
          | some q =>
            rw [ho] at h2
            simp only [Bool.and_eq_true, Bool.not_eq_true', beq_eq_false_iff_ne] at h2
            have he2 : s_ast ty_w (evE xs L ck F cW a) (evE xs L ck F cW b) (evE xs L ck F cW v) en (g, h) = some (k, vs, en', (g', h')) := he
            unfold s_ast at he2
            rw [fo_arr ho h2.2 hs hg, Option.bind_some] at he2
            obtain ⟨⟨y, g1, h1'⟩, e1_w, e2_w⟩ := j_bd he2
            obtain ⟨⟨z, g2, h2'⟩, e3_w, e4_w⟩ := j_bd e2_w
            obtain ⟨-, e5_w⟩ := j_if e4_w
            cases e5_w
            obtain ⟨k1_w, k2⟩ := e b h3 _ _ _ _ _ _ hg hth e1_w
            obtain ⟨k3, k4⟩ := e v h4 _ _ _ _ _ _ k1_w hth e3_w
            exact ⟨k3, (k2.tr k4).tr (Fr.arr h2.1), hth⟩
        | .var _, ht => cases ht
        | .op (.op _ _) _, ht => cases ht
      · match c, ht with
        | .op (.var op_w) v, ht =>
          simp only [Bool.and_eq_true, Bool.not_eq_true'] at ht
          obtain ⟨⟨⟨h1, h2⟩, h3⟩, h4⟩ := ht
          intro en g h k vs en' g' h' hg hth he
          have hs : en.getD 0 0 = 182 := hth.resolve_left (by rw [h1]; decide)
          cases ho : fr_obj a with
          | none => rw [ho] at h2; cases h2
          | some q =>
            rw [ho] at h2
            simp only [Bool.and_eq_true, Bool.not_eq_true', beq_eq_false_iff_ne] at h2
            have he2 : s_astC op_w (evE xs L ck F cW a) (evE xs L ck F cW b) (evE xs L ck F cW v) en (g, h) = some (k, vs, en', (g', h')) := he
            unfold s_astC at he2
            rw [fo_arr ho h2.2 hs hg, Option.bind_some] at he2
            obtain ⟨⟨y, g1, h1'⟩, e1_w, e2_w⟩ := j_bd he2
            obtain ⟨-, e2_w⟩ := j_ifx e2_w
            obtain ⟨⟨z, g2, h2'⟩, e3_w, e4_w⟩ := j_bd e2_w
            obtain ⟨-, e5_w⟩ := j_if e4_w
            cases e5_w
            obtain ⟨k1_w, k2⟩ := e b h3 _ _ _ _ _ _ hg hth e1_w
            obtain ⟨k3, k4⟩ := e v h4 _ _ _ _ _ _ k1_w hth e3_w
            exact ⟨k3, (k2.tr k4).tr (Fr.arr h2.1), hth⟩
        | .var _, ht => cases ht
        | .op (.op _ _) _, ht => cases ht
      · exact fs_e (f := id) (e a ht) (fun en st r he => by
          obtain ⟨x, e1_w, e2_w⟩ := j_bd he
          cases e2_w
          exact ⟨x, e1_w, _, rfl⟩)
      · rw [Bool.and_eq_true] at ht
        exact fs_if (e a ht.1) (iB_w.1 ht.2) fs_c
      · rw [Bool.and_eq_true, Bool.and_eq_true] at ht
        exact fs_if (e a ht.1.1) (iB_w.1 ht.1.2) (iC.1 ht.2)
      · rw [Bool.and_eq_true, Bool.and_eq_true] at ht
        exact fs_loop (e a ht.1.1) (iB_w.1 ht.1.2) (iC.1 ht.2) K
      · rw [Bool.and_eq_true] at ht
        exact fs_do (e a ht.1) (iB_w.1 ht.2) K
      · exact fs_c
      · exact fs_c
      · exact fs_e (f := id) (e a ht) (fun en st r he => by
          obtain ⟨x, e1_w, e2_w⟩ := j_bd he
          cases e2_w
          exact ⟨x, e1_w, _, rfl⟩)
      · exact fs_e (f := id) (e a ht) (fun en st r he => by
          obtain ⟨x, e1_w, e2_w⟩ := j_bd he
          obtain ⟨-, e3_w⟩ := j_if e2_w
          cases e3_w
          exact ⟨x, e1_w, _, rfl⟩)
      · exact fs_c
      · rw [Bool.and_eq_true] at ht
        intro en g h k vs en' g' h' hg hth he
        have he2 : s_sw (evE xs L ck F cW a) (evS xs L ck F K cW b) en (g, h) = some (k, vs, en', (g', h')) := he
        unfold s_sw at he2
        obtain ⟨⟨x, g1, h1⟩, e1_w, e2_w⟩ := j_bd he2
        obtain ⟨k1_w, k2⟩ := e a ht.1 _ _ _ _ _ _ hg hth e1_w
        obtain ⟨⟨c1_w, v1_w, en1, g2, h2⟩, e3_w, e4_w⟩ := j_bd e2_w
        obtain ⟨m1_w, m2_w, m3_w⟩ := iB_w.2 ht.2 _ _ _ _ _ _ _ _ _ k1_w hth e3_w
        dsimp only at e4_w
        split at e4_w
        · cases e4_w
          exact ⟨m1_w, k2.tr m2_w, m3_w⟩
        · cases e4_w
          exact ⟨m1_w, k2.tr m2_w, m3_w⟩
      · exact iA.1 ht
      · rw [Bool.and_eq_true] at ht
        exact fs_if (e a ht.1) (iB_w.1 ht.2) fs_c
      · cases ht
    · intro ht
      show FrK w s (nodeS xs L ck F K cW t a b c (evS xs L ck F K cW a) (evS xs L ck F K cW b) (evS xs L ck F K cW c))
      unfold fr_S at ht
      dsimp only at ht
      split at ht
      · rw [Bool.and_eq_true] at ht
        intro v en g h k vs en' g' h' hg hth he
        have he2 : (if (sx_l a).any (fun n => decide ((v :: en).headD 0 = sx_z n)) then (evS xs L ck F K cW b (v :: en).tail (g, h)).bind fun r => if r.1 = 0 then none else some r else evS xs L ck F K cW c (v :: en) (g, h)) = some (k, vs, en', (g', h')) := he
        split at he2
        · obtain ⟨⟨c1_w, v1_w, en1, g1, h1⟩, e3_w, e4_w⟩ := j_bd he2
          have h3 := iB_w.1 ht.1 _ _ _ _ _ _ _ _ hg hth e3_w
          dsimp only at e4_w
          split at e4_w
          · cases e4_w
          · cases e4_w
            exact h3
        · exact iC.2 ht.2 _ _ _ _ _ _ _ _ _ hg hth he2
      · exact fun v en g h k vs en' g' h' hg hth he => iA.1 ht _ _ _ _ _ _ _ _ hg hth he
      · cases ht
  | .var _ => ⟨fun h => (by cases h), fun h => (by cases h)⟩
  | .op (.op _ _) _ => ⟨fun h => (by cases h), fun h => (by cases h)⟩
  | .op (.var _) (.var _) => ⟨fun h => (by cases h), fun h => (by cases h)⟩
  | .op (.var _) (.op _ (.var _)) => ⟨fun h => (by cases h), fun h => (by cases h)⟩
end FRM
end
section
/-! ===== what the reference's methods may_w write_w: this claim's table_w (written_w by wip/tools/frtab.py) ===== -/
def m_W : Nat → List Nat × List Nat := fun f => bif Nat.ble 183 f then t_at [[([0, 2], [183]), ([2], [183]), ([], []), ([], []), ([], []), ([], []), ([], []), ([2, 3, 7, 8], [184, 185, 186]), ([8], []), ([], []), ([], []), ([7, 8], []), ([7], []), ([7], []), ([7, 8], []), ([], [])],
  [([], [188]), ([7, 8], []), ([], []), ([7, 8], []), ([], []), ([], []), ([7, 8], []), ([0, 2, 3, 7, 8, 12, 18, 19], [184, 185, 186, 188, 189, 190, 191, 194, 195]), ([], []), ([7, 8], [190]), ([7, 8], [188]), ([7, 8, 12], [188, 189, 190]), ([7, 8], [188]), ([7, 8], [188, 190]), ([7, 8], [188, 190]), ([0, 2, 3, 7, 8], [184, 185, 186, 191])],
  [([7, 8], [191]), ([12], [189]), ([7, 8, 12], [189]), ([7, 8, 12], [189]), ([7, 8, 12], [189]), ([7, 8, 12], [189]), ([7, 8, 12], [189]), ([], [193]), ([], []), ([], [194]), ([], []), ([], []), ([], []), ([], []), ([], []), ([], [])],
  [([], []), ([], []), ([], []), ([], []), ([], []), ([], []), ([], []), ([], []), ([], []), ([], [194]), ([18, 19], [191, 194, 195]), ([18], [194]), ([], []), ([], []), ([], []), ([], [])],
  [([], []), ([], []), ([], []), ([], []), ([], [201, 202]), ([], []), ([], [192, 193]), ([25], [192, 193, 196, 197, 198, 199, 200, 201, 202]), ([], [197, 200, 201, 202]), ([], []), ([], []), ([25], [192, 193, 196, 197, 198, 199, 200, 201, 202]), ([25], [192, 193, 196, 197, 198, 199, 200, 201, 202]), ([], []), ([0], []), ([0], [])],
  [([0], []), ([], [194]), ([0, 18], [194]), ([], [194]), ([0, 18], [194]), ([0, 18], [194]), ([], [194]), ([25], [192, 193, 194, 196, 197, 198, 199, 200, 201, 202]), ([0, 18, 25], [192, 193, 194, 196, 197, 198, 199, 200, 201, 202]), ([0, 18], [194]), ([0, 25], [192, 193, 194, 196, 197, 198, 199, 200, 201, 202]), ([0], []), ([0], []), ([0], []), ([0, 25], [192, 193, 196, 197, 198, 199, 200, 201, 202]), ([0, 25], [192, 193, 196, 197, 198, 199, 200, 201, 202])],
  [([0, 25], [192, 193, 196, 197, 198, 199, 200, 201, 202]), ([0, 25], [192, 193, 196, 197, 198, 199, 200, 201, 202]), ([0, 25], [192, 193, 196, 197, 198, 199, 200, 201, 202]), ([0, 25], [192, 193, 196, 197, 198, 199, 200, 201, 202]), ([0], []), ([0], []), ([25], [192, 193, 196, 197, 198, 199, 200, 201, 202]), ([0, 25], [192, 193, 196, 197, 198, 199, 200, 201, 202]), ([25], [192, 193, 196, 197, 198, 199, 200, 201, 202]), ([0, 25], [192, 193, 196, 197, 198, 199, 200, 201, 202]), ([0], []), ([], []), ([], []), ([0], []), ([0], []), ([0, 25], [192, 193, 196, 197, 198, 199, 200, 201, 202])],
  [([0], []), ([0], []), ([0], []), ([19], [194]), ([0, 19, 25], [192, 193, 194, 196, 197, 198, 199, 200, 201, 202]), ([0, 19, 25], [192, 193, 194, 196, 197, 198, 199, 200, 201, 202]), ([19, 25], [192, 193, 194, 196, 197, 198, 199, 200, 201, 202]), ([0, 19, 25], [192, 193, 194, 196, 197, 198, 199, 200, 201, 202]), ([0, 19, 25], [192, 193, 194, 196, 197, 198, 199, 200, 201, 202]), ([0], [194]), ([25], [192, 193, 196, 197, 198, 199, 200, 201, 202]), ([0, 25], [192, 193, 196, 197, 198, 199, 200, 201, 202]), ([0, 25], [192, 193, 196, 197, 198, 199, 200, 201, 202]), ([25], [192, 193, 196, 197, 198, 199, 200, 201, 202]), ([29], []), ([0, 19, 25, 29], [192, 193, 194, 196, 197, 198, 199, 200, 201, 202])],
  [([0, 18], [194, 195]), ([], []), ([0], []), ([], []), ([], []), ([], []), ([], []), ([], []), ([], []), ([], []), ([], []), ([], []), ([], []), ([], []), ([], []), ([], [])]] ([], []) (f - 183) else ([], [])
def m_st (f : Nat) : Bool := [186, 187, 188, 189, 198, 223, 246].any (fun q => Nat.beq q f)
def m_in (f : Nat) : Bool := Nat.ble 183 f && Nat.blt f 314 && !(Nat.beq f 185)
def fr_M (f : Nat) : Bool := (fr_S m_W m_in m_st (m_st f) (m_W f) (g_M f).2.2.2.2).1 && (m_st f || (match (g_M f).2.2.1 with
  | k :: _ => k == 20
  | [] => false))
theorem lay_0 {pk_w : List Nat} {ml_w : Nat} {av : List Int} (h : (match pk_w with
  | k :: _ => k == 20
  | [] => false) = true) (ha_w : av.getD 0 0 = 182) : (j_pad 0 ml_w (j_lay pk_w av)).getD 0 0 = 182 := by
  match pk_w, h, av, ha_w with
  | k :: ks_w, h, v :: vs, ha_w =>
    have hk : k = 20 := by simpa using h
    subst hk
    exact ha_w
  | [], h, _, _ => cases h
  | _ :: _, _, [], ha_w => exact absurd ha_w (by decide)
theorem fr_step {xs : Nat → Int} {L K n : Nat} {ck : Nat → List Nat} {cW : Nat → Nat → Int} (hm_w : ∀ f, m_in f = true → fr_M f = true) (hF : FrF m_W m_in m_st (evF xs L ck K cW g_M n)) : FrF m_W m_in m_st (evF xs L ck K cW g_M (n + 1)) := fun f av g h c r g' h' hf hg ht he => by
  have h1 := hm_w f hf
  rw [fr_M, Bool.and_eq_true, Bool.or_eq_true] at h1
  rw [evF_s] at he
  obtain ⟨⟨c1_w, v1_w, en1, g1, h2⟩, e1_w, e2_w⟩ := j_bd he
  obtain ⟨-, e3_w⟩ := j_if e2_w
  cases e3_w
  have hen : m_st f = true ∨ (j_pad 0 (g_M f).2.1 (j_lay (g_M f).2.2.1 av)).getD 0 0 = 182 := by
    rcases ht with ht | ht
    · exact Or.inl ht
    · rcases h1.2 with h3 | h3
      · exact Or.inl h3
      · exact Or.inr (lay_0 h3 ht)
  obtain ⟨k1_w, k2, -⟩ := (fr_S_ok (xs := xs) (L := L) (ck := ck) (cW := cW) (K := K) hF (g_M f).2.2.2.2).1 h1.1 _ _ _ _ _ _ _ _ hg hen e1_w
  exact ⟨k1_w, k2⟩
theorem mk_183 : (List.range 8).all (fun k => !(m_in (183 + k)) || fr_M (183 + k)) = true := by decide +kernel
theorem mk_191 : (List.range 8).all (fun k => !(m_in (191 + k)) || fr_M (191 + k)) = true := by decide +kernel
theorem mk_199 : (List.range 8).all (fun k => !(m_in (199 + k)) || fr_M (199 + k)) = true := by decide +kernel
theorem mk_207 : (List.range 8).all (fun k => !(m_in (207 + k)) || fr_M (207 + k)) = true := by decide +kernel
theorem mk_215 : (List.range 8).all (fun k => !(m_in (215 + k)) || fr_M (215 + k)) = true := by decide +kernel
theorem mk_223 : (List.range 8).all (fun k => !(m_in (223 + k)) || fr_M (223 + k)) = true := by decide +kernel
theorem mk_231 : (List.range 8).all (fun k => !(m_in (231 + k)) || fr_M (231 + k)) = true := by decide +kernel
theorem mk_239 : (List.range 8).all (fun k => !(m_in (239 + k)) || fr_M (239 + k)) = true := by decide +kernel
theorem mk_247 : (List.range 8).all (fun k => !(m_in (247 + k)) || fr_M (247 + k)) = true := by decide +kernel
theorem mk_255 : (List.range 8).all (fun k => !(m_in (255 + k)) || fr_M (255 + k)) = true := by decide +kernel
theorem mk_263 : (List.range 8).all (fun k => !(m_in (263 + k)) || fr_M (263 + k)) = true := by decide +kernel
theorem mk_271 : (List.range 8).all (fun k => !(m_in (271 + k)) || fr_M (271 + k)) = true := by decide +kernel
theorem mk_279 : (List.range 8).all (fun k => !(m_in (279 + k)) || fr_M (279 + k)) = true := by decide +kernel
theorem mk_287 : (List.range 8).all (fun k => !(m_in (287 + k)) || fr_M (287 + k)) = true := by decide +kernel
theorem mk_295 : (List.range 8).all (fun k => !(m_in (295 + k)) || fr_M (295 + k)) = true := by decide +kernel
theorem mk_303 : (List.range 8).all (fun k => !(m_in (303 + k)) || fr_M (303 + k)) = true := by decide +kernel
theorem mk_311 : (List.range 8).all (fun k => !(m_in (311 + k)) || fr_M (311 + k)) = true := by decide +kernel
theorem mk_all : ∀ f, m_in f = true → fr_M f = true := fun f hf => by
  have hf2 := hf
  simp only [m_in, Bool.and_eq_true, Nat.ble_eq, Nat.blt_eq] at hf2
  obtain ⟨⟨h0, h1⟩, -⟩ := hf2
  have key : ∀ i : Nat, (List.range 8).all (fun k => !(m_in (i + k)) || fr_M (i + k)) = true → i ≤ f → f < i + 8 → fr_M f = true := fun i h a b => by
    have h3 := List.all_eq_true.mp h (f - i) (List.mem_range.mpr (by omega))
    rw [show i + (f - i) = f by omega, hf] at h3
    simpa using h3
  by_cases h183 : f < 191
  · exact key 183 mk_183 (by omega) (by omega)
  by_cases h191 : f < 199
  · exact key 191 mk_191 (by omega) (by omega)
  by_cases h199 : f < 207
  · exact key 199 mk_199 (by omega) (by omega)
  by_cases h207 : f < 215
  · exact key 207 mk_207 (by omega) (by omega)
  by_cases h215 : f < 223
  · exact key 215 mk_215 (by omega) (by omega)
  by_cases h223 : f < 231
  · exact key 223 mk_223 (by omega) (by omega)
  by_cases h231 : f < 239
  · exact key 231 mk_231 (by omega) (by omega)
  by_cases h239 : f < 247
  · exact key 239 mk_239 (by omega) (by omega)
  by_cases h247 : f < 255
  · exact key 247 mk_247 (by omega) (by omega)
  by_cases h255 : f < 263
  · exact key 255 mk_255 (by omega) (by omega)
  by_cases h263 : f < 271
  · exact key 263 mk_263 (by omega) (by omega)
  by_cases h271 : f < 279
  · exact key 271 mk_271 (by omega) (by omega)
  by_cases h279 : f < 287
  · exact key 279 mk_279 (by omega) (by omega)
  by_cases h287 : f < 295
  · exact key 287 mk_287 (by omega) (by omega)
  by_cases h295 : f < 303
  · exact key 295 mk_295 (by omega) (by omega)
  by_cases h303 : f < 311
  · exact key 303 mk_303 (by omega) (by omega)
  by_cases h311 : f < 319
  · exact key 311 mk_311 (by omega) (by omega)
  omega
theorem fr_all {xs : Nat → Int} {L K : Nat} {ck : Nat → List Nat} {cW : Nat → Nat → Int} : ∀ n, FrF m_W m_in m_st (evF xs L ck K cW g_M n)
  | 0 => fun f av g h c r g1 h1 _ _ _ he => by cases he
  | n + 1 => fr_step mk_all (fr_all n)
end
section
/-! ===== the reference's methods by hand_w: what is_w shared out ===== -/
def u251 : SX := (sx 28 (sx 21 (sx 3 (sv 1) z0 z0) z0 (sv 2)) (sx 18 (sx 18 (sx 3 (sv 1) z0 z0) z0 (sv 2)) z0 (sv 1)) (sx 18 (sx 3 (sv 1) z0 z0) z0 (sv 2)))
theorem ub_251 : bb_251 = (sx 2 (sx 2 (sx 3 (sv 3) (sx 1 z0 (sv 2) z0) z0) (sx 2 (sx 20 (sx 2 (sx 3 (sv 5) (sx 1 z0 (sv 1) z0) z0) (sx 12 (sx 20 (sx 3 (sv 5) z0 z0) (sx 3 (sv 2) z0 z0) (sv 2)) (sx 20 (sx 3 (sv 3) (sx 15 (sx 3 (sv 3) z0 z0) (sx 7 (sx 5 (sx 3 z0 z0 z0) (sv 26) z0) (sx 3 (sv 5) z0 z0) z0) z0) z0) z0 z0) (sx 4 (sv 5) (sv 1) z0)) z0) z0 z0) (sx 2 (sx 3 (sv 5) u251 z0) (sx 2 (sx 3 (sv 7) (sx 3 (sv 5) z0 z0) z0) (sx 2 (sx 20 (sx 2 (sx 3 (sv 9) (sx 1 z0 (sv 1) z0) z0) (sx 12 (sx 20 (sx 3 (sv 9) z0 z0) (sx 3 (sv 2) z0 z0) (sv 2)) (sx 20 (sx 2 (sx 7 (sx 5 (sx 3 z0 z0 z0) (sv 27) z0) (sx 3 (sv 9) z0 z0) (so 6 (sx 28 (sx 22 (sx 3 (sv 3) z0 z0) (sx 1 z0 (sv 2) z0) z0) (sx 1 z0 (sv 1) z0) (sx 18 (sx 17 (sx 15 (sx 3 (sv 5) z0 z0) (sx 7 (sx 5 (sx 3 z0 z0 z0) (sv 26) z0) (sx 3 (sv 9) z0 z0) z0) (sv 2)) (sx 3 (sv 3) z0 z0) (sv 2)) z0 (sv 3))))) (sx 2 (sx 7 (sx 5 (sx 3 z0 z0 z0) (sv 28) z0) (sx 3 (sv 9) z0 z0) (so 7 (sx 28 (sx 22 (sx 3 (sv 3) z0 z0) (sx 1 z0 (sv 2) z0) z0) (sx 1 z0 (sv 2) z0) (sx 17 (sx 15 (sx 3 (sv 5) z0 z0) (sx 7 (sx 5 (sx 3 z0 z0 z0) (sv 26) z0) (sx 3 (sv 9) z0 z0) z0) (sv 2)) (sx 3 (sv 3) z0 z0) (sv 3))))) (sx 3 (sv 7) (sx 15 (sx 3 (sv 7) z0 z0) (sx 18 (sx 7 (sx 5 (sx 3 z0 z0 z0) (sv 27) z0) (sx 3 (sv 9) z0 z0) z0) z0 (sv 2)) (sv 1)) z0) z0) z0) z0 z0) (sx 4 (sv 9) (sv 1) z0)) z0) z0 z0) (sx 2 (sx 12 (sx 25 (sx 22 (sx 3 (sv 3) z0 z0) (sx 1 z0 (sv 2) z0) (sv 4)) (sx 22 (sx 3 (sv 7) z0 z0) (sx 1 z0 (sv 2) z0) (sv 4)) z0) (sx 20 (sx 2 (sx 3 (sv 9) (sx 1 z0 (sv 1) z0) z0) (sx 2 (sx 20 (sx 2 (sx 3 (sv 10) (sx 1 (sv 1) (sv 1) z0) z0) (sx 12 (sx 20 (sx 3 (sv 10) z0 z0) (sx 3 (sv 2) z0 z0) (sv 2)) (sx 20 (sx 3 (sv 9) (sx 28 (sx 22 (sx 7 (sx 5 (sx 3 z0 z0 z0) (sv 28) z0) (sx 3 (sv 10) z0 z0) z0) (sx 7 (sx 5 (sx 3 z0 z0 z0) (sv 28) z0) (sx 3 (sv 9) z0 z0) z0) (sv 4)) (sx 3 (sv 10) z0 z0) (sx 3 (sv 9) z0 z0)) z0) z0 z0) (sx 4 (sv 10) (sv 1) z0)) z0) z0 z0) (sx 2 (sx 8 (sx 5 (sx 3 z0 z0 z0) (sv 27) z0) (sx 3 (sv 9) z0 z0) (so 0 (sx 1 (sv 1) (sv 1) z0))) (sx 2 (sx 7 (sx 5 (sx 3 z0 z0 z0) (sv 28) z0) (sx 3 (sv 9) z0 z0) (so 7 (sx 1 (sv 1) (sv 2) (sv 1)))) (sx 3 (sv 7) (sx 15 (sx 3 (sv 7) z0 z0) (sx 1 (sv 1) (sv 2) z0) (sv 1)) z0) z0) z0) z0) z0) z0 z0) (sx 1 z0 z0 z0)) (sx 20 (sx 2 (sx 3 (sv 9) (sx 1 z0 (sv 1) z0) z0) (sx 12 (sx 20 (sx 3 (sv 9) z0 z0) (sx 3 (sv 2) z0 z0) (sv 2)) (sx 20 (sx 7 (sx 5 (sx 3 z0 z0 z0) (sv 27) z0) (sx 3 (sv 9) z0 z0) (so 6 (sx 28 (sx 21 (sx 3 (sv 1) z0 z0) z0 (sv 2)) (sx 18 (sx 7 (sx 5 (sx 3 z0 z0 z0) (sv 27) z0) (sx 3 (sv 9) z0 z0) z0) z0 z0) (sx 7 (sx 5 (sx 3 z0 z0 z0) (sv 27) z0) (sx 3 (sv 9) z0 z0) z0)))) z0 z0) (sx 4 (sv 9) (sv 1) z0)) z0) z0 z0) z0) z0) z0) z0) z0) z0) (sx 17 z0 z0 z0) z0) := rfl
section HA7
variable {P : Int × Int} {g : Nat × Nat} {xs : Nat → Int} {L K n : Nat} {ck : Nat → List Nat} {cW : Nat → Nat → Int} {h : XH} {J : XH → Prop}
theorem rkd_long : [186, 187, 190, 200, 202].all (fun q => r_kd q == 2) = true := by decide +kernel
theorem ht_long {q : Nat} (hH : HT g_fk a_g3 h) (hq : q ∈ [186, 187, 190, 200, 202]) (i : Nat) : InL (h q i) := by
  have h1 := List.all_eq_true.mp rkd_long q hq
  rw [beq_iff_eq] at h1
  have h2 : 183 ≤ q ∧ q ≤ 202 := by
    simp only [List.mem_cons, List.not_mem_nil, or_false] at hq
    omega
  exact (hH q i).2.1 ((((r_tab 0).2.2.1 q h2.1 h2.2).2.2.2 i).trans h1)
theorem ht_upL {q i : Nat} {v : Int} (hH : HT g_fk a_g3 h) (hq : q ∈ [186, 187, 190, 200, 202]) (hv : InL v) : HT g_fk a_g3 (j_up h q i v) := by
  have h1 := List.all_eq_true.mp rkd_long q hq
  rw [beq_iff_eq] at h1
  have h2 : 183 ≤ q ∧ q ≤ 202 := by
    simp only [List.mem_cons, List.not_mem_nil, or_false] at hq
    omega
  have h3 := (((r_tab 0).2.2.1 q h2.1 h2.2).2.2.2 i).trans h1
  exact hH.up (fun e => absurd (h3.symm.trans e) (by decide)) (fun _ => hv) (fun e => absurd (h3.symm.trans e) (by decide))
theorem unL_ok : [200, 202].all (fun q => (r_A q).2.2.all (fun r => i_sub iL r.2.2) && r_W q) = true := by decide +kernel
theorem wl_QK (hQ : QK P (r_T 0) J h) (hJ : JS (r_T 0) J) {q i : Nat} {v : Int} (hq : q ∈ [200, 202]) (hv : InL v) : QK P (r_T 0) J (j_up h q i v) ∧ KR (r_T 0) h (j_up h q i v) := by
  have h1 := List.all_eq_true.mp unL_ok q hq
  rw [Bool.and_eq_true] at h1
  have h2 : 183 ≤ q ∧ q ∈ [186, 187, 190, 200, 202] := by
    simp only [List.mem_cons, List.not_mem_nil, or_false] at hq ⊢
    omega
  exact un_QK hQ hJ h1.2 h2.1 h1.1 (IV.topL hv) (ht_upL hQ.1 h2.2 hv)
theorem w_251 {F : XP} {Q : WQ} {a : Int} {en : List Int} (ha_w : InI a) (hR : ∀ s, 0 ≤ s → s ≤ 2147483648 → Q [s] h) : wE (a_g3, g) F u251 (182 :: a :: en) h Q := by
  unfold u251
  simp only [wf_4, wf_40, wf_5, wf_50, wf_6, wl_1, wt_1, wu_1, wa_1, wl_4, wt_4, wu_4, wa_4, wl_5, wt_5, wu_5, wa_5, wl_6, wt_6, wu_6, wa_6, wl_9, wt_9, wu_9, wa_9, wl_10, wt_10, wu_10, wa_10, wl_11, wt_11, wu_11, wa_11, wl_13, wt_13, wu_13, wa_13, wl_14, wt_14, wu_14, wa_14, wl_15, wt_15, wu_15, wa_15, wl_16, wt_16, wu_16, wa_16, wl_17, wt_17, wu_17, wa_17, wl_20, wt_20, wu_20, wa_20, wl_21, wt_21, wu_21, wa_21, wl_22, wt_22, wu_22, wa_22, wl_23, wt_23, wu_23, wa_23, wl_24, wt_24, wu_24, wa_24, wl_26, wt_26, wu_26, wa_26, wl_27, wt_27, wu_27, wa_27, wl_28, wt_28, wu_28, wa_28, we_1, we_3, we_10, we_14, we_15, we_16, we_17, we_18, we_20, we_21, we_22, we_24, we_25, we_26, we_27, we_28, we_30, we_31, we_32, wc_20, wc_21, wc_22, wc_24, wc_25, wc_26, wc_27, wc_3, wc_4, wc_7, wc_28, wc_32, ws_1, ws_2, ws_3, ws_4, ws_9, ws_10, ws_11, ws_14, ws_15, ws_16, ws_27, ws_17, ws_20, ws_28, kc_0, kc_1, kn_1, kc_2, kn_2, kc_3, kc_4, kc_5, kc_6, kc_7, kc_8, kc_9, kc_10, kc_12, kc_13, kc_14, kc_16, kc_17, kc_18, kc_19, kc_20, kc_21, kc_22, kc_24, kc_28, kc_30, kc_32, kc_37, kc_40, kc_41, kc_42, kc_43, kc_45, kc_48, kc_56, kc_57, kc_59, kc_60, kc_61, kc_64, kc_73, kc_78, kc_91, kc_95, kc_96, kc_97, kc_98, kc_99, kc_100, kc_112, kc_122, kc_125, kc_126, kc_150, kc_162, kc_163, kc_168, kc_186, kc_190, kc_200, kc_250, kc_255, kc_355, kc_356, kc_404, kc_405, kc_429, kc_573, kc_999, kc_1000, kc_1002, kc_1100, kc_1891, kc_2200, kc_4719, kc_4869, kc_4881, kc_5148, kc_9999, kn_9999, kc_10000, kc_12345, kc_19741, kc_25433, kc_65536, kc_320403, kc_628412, kc_629093, kc_660401, kc_679843, kc_918640, kc_979410, kc_1178088, kc_6232410, kc_24644941, kc_36238189, kc_38270444, kc_392531318, kc_425693491, kc_1103515245, kc_1342154595, kc_2147483648, kc_42328242873, kc_891704255789, kc_1722105685577, kc_1858726030364, ct_0, ct_1, ct_2, ct_3, ct_4, ct_5, cf_0, cf_1, cf_2, cf_3, cf_4, cf_5, w_ty6, w_ty7, m_sv, m_z0, m_hd, m_g0, m_gs, m_s0, m_ss, m_ap, m_an, forall_const, true_and, and_true, ne_eq, not_true_eq_false, not_false_eq_true, false_implies, true_implies, implies_true, eq_self, reduceCtorEq, Nat.reduceDiv, Nat.reduceMod, Int.reduceToNat, or_true, true_or, or_false, false_or, or_self, m_it, m_if, m_c1, m_01, m_02, m_03, m_04, m_10, m_12, m_13, m_14, m_20, m_21, m_23, m_24, m_30, m_31, m_32, m_34, m_40, m_41, m_42, m_43]
  unfold InI at ha_w
  refine ⟨fun k => ?_, fun k => ?_⟩
  · have e : j_un 1 (j_un 2 a) = -a := j64_in ⟨by show _ ≤ -a; omega, by show -a < _; omega⟩
    rw [e]
    exact hR _ (by omega) (by omega)
  · exact hR a (by omega) (by omega)
theorem t_251 (hJ : JS (r_T 0) J) (hK_w : 20000000000 ≤ K) : TotR P (r_T 0) J g (evF xs L ck K cW g_M (n + 1)) 251 := by
  refine tot_hand gm_251 rp_251 rr_251 ru_251 fun av h hQ hv => ?_
  obtain ⟨x, a, b, rfl, hx, ha_w, hb_w⟩ := il3 hv
  obtain rfl : x = 182 := hx
  obtain ⟨b0, b1, -⟩ := hb_w
  have hai := ha_w.2.2
  show wS _ _ K bb_251 [182, a, b, 0, 0, 0, 0, 0, 0, 0, 0] h _
  generalize evF xs L ck K cW g_M n = F
  rw [ub_251]
  simp only [wf_4, wf_40, wf_5, wf_50, wf_6, wl_1, wt_1, wu_1, wa_1, wl_4, wt_4, wu_4, wa_4, wl_5, wt_5, wu_5, wa_5, wl_6, wt_6, wu_6, wa_6, wl_9, wt_9, wu_9, wa_9, wl_10, wt_10, wu_10, wa_10, wl_11, wt_11, wu_11, wa_11, wl_13, wt_13, wu_13, wa_13, wl_14, wt_14, wu_14, wa_14, wl_15, wt_15, wu_15, wa_15, wl_16, wt_16, wu_16, wa_16, wl_17, wt_17, wu_17, wa_17, wl_20, wt_20, wu_20, wa_20, wl_21, wt_21, wu_21, wa_21, wl_22, wt_22, wu_22, wa_22, wl_23, wt_23, wu_23, wa_23, wl_24, wt_24, wu_24, wa_24, wl_26, wt_26, wu_26, wa_26, wl_27, wt_27, wu_27, wa_27, wl_28, wt_28, wu_28, wa_28, we_1, we_3, we_10, we_14, we_15, we_16, we_17, we_18, we_20, we_21, we_22, we_24, we_25, we_26, we_27, we_28, we_30, we_31, we_32, wc_20, wc_21, wc_22, wc_24, wc_25, wc_26, wc_27, wc_3, wc_4, wc_7, wc_28, wc_32, ws_1, ws_2, ws_3, ws_4, ws_9, ws_10, ws_11, ws_14, ws_15, ws_16, ws_27, ws_17, ws_20, ws_28, kc_0, kc_1, kn_1, kc_2, kn_2, kc_3, kc_4, kc_5, kc_6, kc_7, kc_8, kc_9, kc_10, kc_12, kc_13, kc_14, kc_16, kc_17, kc_18, kc_19, kc_20, kc_21, kc_22, kc_24, kc_28, kc_30, kc_32, kc_37, kc_40, kc_41, kc_42, kc_43, kc_45, kc_48, kc_56, kc_57, kc_59, kc_60, kc_61, kc_64, kc_73, kc_78, kc_91, kc_95, kc_96, kc_97, kc_98, kc_99, kc_100, kc_112, kc_122, kc_125, kc_126, kc_150, kc_162, kc_163, kc_168, kc_186, kc_190, kc_200, kc_250, kc_255, kc_355, kc_356, kc_404, kc_405, kc_429, kc_573, kc_999, kc_1000, kc_1002, kc_1100, kc_1891, kc_2200, kc_4719, kc_4869, kc_4881, kc_5148, kc_9999, kn_9999, kc_10000, kc_12345, kc_19741, kc_25433, kc_65536, kc_320403, kc_628412, kc_629093, kc_660401, kc_679843, kc_918640, kc_979410, kc_1178088, kc_6232410, kc_24644941, kc_36238189, kc_38270444, kc_392531318, kc_425693491, kc_1103515245, kc_1342154595, kc_2147483648, kc_42328242873, kc_891704255789, kc_1722105685577, kc_1858726030364, ct_0, ct_1, ct_2, ct_3, ct_4, ct_5, cf_0, cf_1, cf_2, cf_3, cf_4, cf_5, w_ty6, w_ty7, m_sv, m_z0, m_hd, m_g0, m_gs, m_s0, m_ss, m_ap, m_an, forall_const, true_and, and_true, ne_eq, not_true_eq_false, not_false_eq_true, false_implies, true_implies, implies_true, eq_self, reduceCtorEq, Nat.reduceDiv, Nat.reduceMod, Int.reduceToNat, or_true, true_or, or_false, false_or, or_self, m_it, m_if, m_c1, m_01, m_02, m_03, m_04, m_10, m_12, m_13, m_14, m_20, m_21, m_23, m_24, m_30, m_31, m_32, m_34, m_40, m_41, m_42, m_43]
  refine w_lp (fun en h' => ∃ A k : Int, en = [182, a, b, A, 0, k, 0, 0, 0, 0, 0] ∧ 0 ≤ k ∧ k ≤ b ∧ h' = h) (fun en _ => (b - en.getD 5 0).toNat) ⟨0, 0, rfl, by omega, b0, rfl⟩ ?_
  rintro en h1 ⟨A, k, rfl, k0_w, k1_w, rfl⟩
  refine ⟨?_, ?_⟩
  · show (b - k).toNat < K
    omega
  simp only [wf_4, wf_40, wf_5, wf_50, wf_6, wl_1, wt_1, wu_1, wa_1, wl_4, wt_4, wu_4, wa_4, wl_5, wt_5, wu_5, wa_5, wl_6, wt_6, wu_6, wa_6, wl_9, wt_9, wu_9, wa_9, wl_10, wt_10, wu_10, wa_10, wl_11, wt_11, wu_11, wa_11, wl_13, wt_13, wu_13, wa_13, wl_14, wt_14, wu_14, wa_14, wl_15, wt_15, wu_15, wa_15, wl_16, wt_16, wu_16, wa_16, wl_17, wt_17, wu_17, wa_17, wl_20, wt_20, wu_20, wa_20, wl_21, wt_21, wu_21, wa_21, wl_22, wt_22, wu_22, wa_22, wl_23, wt_23, wu_23, wa_23, wl_24, wt_24, wu_24, wa_24, wl_26, wt_26, wu_26, wa_26, wl_27, wt_27, wu_27, wa_27, wl_28, wt_28, wu_28, wa_28, we_1, we_3, we_10, we_14, we_15, we_16, we_17, we_18, we_20, we_21, we_22, we_24, we_25, we_26, we_27, we_28, we_30, we_31, we_32, wc_20, wc_21, wc_22, wc_24, wc_25, wc_26, wc_27, wc_3, wc_4, wc_7, wc_28, wc_32, ws_1, ws_2, ws_3, ws_4, ws_9, ws_10, ws_11, ws_14, ws_15, ws_16, ws_27, ws_17, ws_20, ws_28, kc_0, kc_1, kn_1, kc_2, kn_2, kc_3, kc_4, kc_5, kc_6, kc_7, kc_8, kc_9, kc_10, kc_12, kc_13, kc_14, kc_16, kc_17, kc_18, kc_19, kc_20, kc_21, kc_22, kc_24, kc_28, kc_30, kc_32, kc_37, kc_40, kc_41, kc_42, kc_43, kc_45, kc_48, kc_56, kc_57, kc_59, kc_60, kc_61, kc_64, kc_73, kc_78, kc_91, kc_95, kc_96, kc_97, kc_98, kc_99, kc_100, kc_112, kc_122, kc_125, kc_126, kc_150, kc_162, kc_163, kc_168, kc_186, kc_190, kc_200, kc_250, kc_255, kc_355, kc_356, kc_404, kc_405, kc_429, kc_573, kc_999, kc_1000, kc_1002, kc_1100, kc_1891, kc_2200, kc_4719, kc_4869, kc_4881, kc_5148, kc_9999, kn_9999, kc_10000, kc_12345, kc_19741, kc_25433, kc_65536, kc_320403, kc_628412, kc_629093, kc_660401, kc_679843, kc_918640, kc_979410, kc_1178088, kc_6232410, kc_24644941, kc_36238189, kc_38270444, kc_392531318, kc_425693491, kc_1103515245, kc_1342154595, kc_2147483648, kc_42328242873, kc_891704255789, kc_1722105685577, kc_1858726030364, ct_0, ct_1, ct_2, ct_3, ct_4, ct_5, cf_0, cf_1, cf_2, cf_3, cf_4, cf_5, w_ty6, w_ty7, m_sv, m_z0, m_hd, m_g0, m_gs, m_s0, m_ss, m_ap, m_an, forall_const, true_and, and_true, ne_eq, not_true_eq_false, not_false_eq_true, false_implies, true_implies, implies_true, eq_self, reduceCtorEq, Nat.reduceDiv, Nat.reduceMod, Int.reduceToNat, or_true, true_or, or_false, false_or, or_self, m_it, m_if, m_c1, m_01, m_02, m_03, m_04, m_10, m_12, m_13, m_14, m_20, m_21, m_23, m_24, m_30, m_31, m_32, m_34, m_40, m_41, m_42, m_43]
  refine ⟨fun hk => ?_, fun hk => ?_⟩
  · rw [jinc (by omega) (by omega)]
    refine ⟨⟨k0_w, by omega⟩, ⟨_, k + 1, rfl, by omega, by omega⟩, ?_⟩
    show (b - (k + 1)).toNat < (b - k).toNat
    omega
  refine w_251 hai (fun s s0 s1_w => ?_)
  simp only [wf_4, wf_40, wf_5, wf_50, wf_6, wl_1, wt_1, wu_1, wa_1, wl_4, wt_4, wu_4, wa_4, wl_5, wt_5, wu_5, wa_5, wl_6, wt_6, wu_6, wa_6, wl_9, wt_9, wu_9, wa_9, wl_10, wt_10, wu_10, wa_10, wl_11, wt_11, wu_11, wa_11, wl_13, wt_13, wu_13, wa_13, wl_14, wt_14, wu_14, wa_14, wl_15, wt_15, wu_15, wa_15, wl_16, wt_16, wu_16, wa_16, wl_17, wt_17, wu_17, wa_17, wl_20, wt_20, wu_20, wa_20, wl_21, wt_21, wu_21, wa_21, wl_22, wt_22, wu_22, wa_22, wl_23, wt_23, wu_23, wa_23, wl_24, wt_24, wu_24, wa_24, wl_26, wt_26, wu_26, wa_26, wl_27, wt_27, wu_27, wa_27, wl_28, wt_28, wu_28, wa_28, we_1, we_3, we_10, we_14, we_15, we_16, we_17, we_18, we_20, we_21, we_22, we_24, we_25, we_26, we_27, we_28, we_30, we_31, we_32, wc_20, wc_21, wc_22, wc_24, wc_25, wc_26, wc_27, wc_3, wc_4, wc_7, wc_28, wc_32, ws_1, ws_2, ws_3, ws_4, ws_9, ws_10, ws_11, ws_14, ws_15, ws_16, ws_27, ws_17, ws_20, ws_28, kc_0, kc_1, kn_1, kc_2, kn_2, kc_3, kc_4, kc_5, kc_6, kc_7, kc_8, kc_9, kc_10, kc_12, kc_13, kc_14, kc_16, kc_17, kc_18, kc_19, kc_20, kc_21, kc_22, kc_24, kc_28, kc_30, kc_32, kc_37, kc_40, kc_41, kc_42, kc_43, kc_45, kc_48, kc_56, kc_57, kc_59, kc_60, kc_61, kc_64, kc_73, kc_78, kc_91, kc_95, kc_96, kc_97, kc_98, kc_99, kc_100, kc_112, kc_122, kc_125, kc_126, kc_150, kc_162, kc_163, kc_168, kc_186, kc_190, kc_200, kc_250, kc_255, kc_355, kc_356, kc_404, kc_405, kc_429, kc_573, kc_999, kc_1000, kc_1002, kc_1100, kc_1891, kc_2200, kc_4719, kc_4869, kc_4881, kc_5148, kc_9999, kn_9999, kc_10000, kc_12345, kc_19741, kc_25433, kc_65536, kc_320403, kc_628412, kc_629093, kc_660401, kc_679843, kc_918640, kc_979410, kc_1178088, kc_6232410, kc_24644941, kc_36238189, kc_38270444, kc_392531318, kc_425693491, kc_1103515245, kc_1342154595, kc_2147483648, kc_42328242873, kc_891704255789, kc_1722105685577, kc_1858726030364, ct_0, ct_1, ct_2, ct_3, ct_4, ct_5, cf_0, cf_1, cf_2, cf_3, cf_4, cf_5, w_ty6, w_ty7, m_sv, m_z0, m_hd, m_g0, m_gs, m_s0, m_ss, m_ap, m_an, forall_const, true_and, and_true, ne_eq, not_true_eq_false, not_false_eq_true, false_implies, true_implies, implies_true, eq_self, reduceCtorEq, Nat.reduceDiv, Nat.reduceMod, Int.reduceToNat, or_true, true_or, or_false, false_or, or_self, m_it, m_if, m_c1, m_01, m_02, m_03, m_04, m_10, m_12, m_13, m_14, m_20, m_21, m_23, m_24, m_30, m_31, m_32, m_34, m_40, m_41, m_42, m_43]
  refine w_lp (fun en h' => ∃ D k : Int, en = [182, a, b, A, 0, s, 0, D, 0, k, 0] ∧ 0 ≤ k ∧ k ≤ b ∧ s - 2147483648 * k ≤ D ∧ D ≤ s + 2147483648 * k ∧ QK P (r_T 0) J h' ∧ KR (r_T 0) h1 h') (fun en _ => (b - en.getD 9 0).toNat) ⟨s, 0, rfl, by omega, b0, by omega, by omega, hQ, KR.rf⟩ ?_
  rintro en h2 ⟨D, k, rfl, k0_w, k1_w, d0_w, d1_w, q1_w, q2_w⟩
  refine ⟨?_, ?_⟩
  · show (b - k).toNat < K
    omega
  simp only [wf_4, wf_40, wf_5, wf_50, wf_6, wl_1, wt_1, wu_1, wa_1, wl_4, wt_4, wu_4, wa_4, wl_5, wt_5, wu_5, wa_5, wl_6, wt_6, wu_6, wa_6, wl_9, wt_9, wu_9, wa_9, wl_10, wt_10, wu_10, wa_10, wl_11, wt_11, wu_11, wa_11, wl_13, wt_13, wu_13, wa_13, wl_14, wt_14, wu_14, wa_14, wl_15, wt_15, wu_15, wa_15, wl_16, wt_16, wu_16, wa_16, wl_17, wt_17, wu_17, wa_17, wl_20, wt_20, wu_20, wa_20, wl_21, wt_21, wu_21, wa_21, wl_22, wt_22, wu_22, wa_22, wl_23, wt_23, wu_23, wa_23, wl_24, wt_24, wu_24, wa_24, wl_26, wt_26, wu_26, wa_26, wl_27, wt_27, wu_27, wa_27, wl_28, wt_28, wu_28, wa_28, we_1, we_3, we_10, we_14, we_15, we_16, we_17, we_18, we_20, we_21, we_22, we_24, we_25, we_26, we_27, we_28, we_30, we_31, we_32, wc_20, wc_21, wc_22, wc_24, wc_25, wc_26, wc_27, wc_3, wc_4, wc_7, wc_28, wc_32, ws_1, ws_2, ws_3, ws_4, ws_9, ws_10, ws_11, ws_14, ws_15, ws_16, ws_27, ws_17, ws_20, ws_28, kc_0, kc_1, kn_1, kc_2, kn_2, kc_3, kc_4, kc_5, kc_6, kc_7, kc_8, kc_9, kc_10, kc_12, kc_13, kc_14, kc_16, kc_17, kc_18, kc_19, kc_20, kc_21, kc_22, kc_24, kc_28, kc_30, kc_32, kc_37, kc_40, kc_41, kc_42, kc_43, kc_45, kc_48, kc_56, kc_57, kc_59, kc_60, kc_61, kc_64, kc_73, kc_78, kc_91, kc_95, kc_96, kc_97, kc_98, kc_99, kc_100, kc_112, kc_122, kc_125, kc_126, kc_150, kc_162, kc_163, kc_168, kc_186, kc_190, kc_200, kc_250, kc_255, kc_355, kc_356, kc_404, kc_405, kc_429, kc_573, kc_999, kc_1000, kc_1002, kc_1100, kc_1891, kc_2200, kc_4719, kc_4869, kc_4881, kc_5148, kc_9999, kn_9999, kc_10000, kc_12345, kc_19741, kc_25433, kc_65536, kc_320403, kc_628412, kc_629093, kc_660401, kc_679843, kc_918640, kc_979410, kc_1178088, kc_6232410, kc_24644941, kc_36238189, kc_38270444, kc_392531318, kc_425693491, kc_1103515245, kc_1342154595, kc_2147483648, kc_42328242873, kc_891704255789, kc_1722105685577, kc_1858726030364, ct_0, ct_1, ct_2, ct_3, ct_4, ct_5, cf_0, cf_1, cf_2, cf_3, cf_4, cf_5, w_ty6, w_ty7, m_sv, m_z0, m_hd, m_g0, m_gs, m_s0, m_ss, m_ap, m_an, forall_const, true_and, and_true, ne_eq, not_true_eq_false, not_false_eq_true, false_implies, true_implies, implies_true, eq_self, reduceCtorEq, Nat.reduceDiv, Nat.reduceMod, Int.reduceToNat, or_true, true_or, or_false, false_or, or_self, m_it, m_if, m_c1, m_01, m_02, m_03, m_04, m_10, m_12, m_13, m_14, m_20, m_21, m_23, m_24, m_30, m_31, m_32, m_34, m_40, m_41, m_42, m_43]
  refine ⟨fun hk => ?_, fun hk => ?_⟩
  · -- the two stores_w, then what is_w left
    have bk : 0 ≤ k ∧ k < 6 := ⟨k0_w, by omega⟩
    rw [jinc (by omega) (by omega)]
    have st : ∀ (p c : Int), InI p → InL c → (∃ D_1 k_1 : Int, [182, a, b, A, 0, s, 0, j_lop 1 D (j_un 2 (j_up (j_up h2 201 k.toNat p) 202 k.toNat c 201 k.toNat)), 0, k + 1, 0] = [182, a, b, A, 0, s, 0, D_1, 0, k_1, 0] ∧ 0 ≤ k_1 ∧ k_1 ≤ b ∧ s - 2147483648 * k_1 ≤ D_1 ∧ D_1 ≤ s + 2147483648 * k_1 ∧ QK P (r_T 0) J (j_up (j_up h2 201 k.toNat p) 202 k.toNat c) ∧ KR (r_T 0) h1 (j_up (j_up h2 201 k.toNat p) 202 k.toNat c)) ∧ (b - (k + 1)).toNat < (b - k).toNat := by
      intro p c hp hc_w
      obtain ⟨z1, z2⟩ := wi_QK (q := 201) (i := k.toNat) q1_w hJ (by decide) hp
      obtain ⟨z3, z4⟩ := wl_QK (q := 202) (i := k.toNat) z1 hJ (by decide) hc_w
      have e1_w : j_up (j_up h2 201 k.toNat p) 202 k.toNat c 201 k.toNat = p := by rw [up_ne (fun z => absurd z.1 (by decide)), up_eq]
      rw [e1_w]
      unfold InI at hp
      have e2_w : j_lop 1 D (j_un 2 p) = D - p := j64_in ⟨by show _ ≤ D - p; omega, by show D - p < _; omega⟩
      rw [e2_w]
      exact ⟨⟨D - p, k + 1, rfl, by omega, by omega, by omega, by omega, z3, (q2_w.tr z2).tr z4⟩, by omega⟩
    have i0 : InI 0 := in_0
    refine ⟨fun hA => ⟨bk, fun _ => ⟨bk, bk, ?_⟩, fun k2 => absurd hA k2⟩, fun hA => ⟨bk, hA, bk, fun k2 => absurd k2 hA, fun _ => ⟨bk, hA, bk, bk, ?_⟩⟩⟩
    · exact st 0 0 in_0 in_0L
    · exact st _ _ (in_j32 _) (tmod_l (lop_in _ _ _))
  · refine w_lp (fun en h' => ∃ D y z : Int, en = [182, a, b, A, 0, s, 0, D, 0, y, z] ∧ -17179869184 ≤ D ∧ D ≤ 17179869184 ∧ QK P (r_T 0) J h' ∧ KR (r_T 0) h1 h') (fun en _ => (en.getD 7 0).toNat) ⟨D, k, 0, rfl, by omega, by omega, q1_w, q2_w⟩ ?_
    rintro en h3 ⟨D, y, z, rfl, d0_w, d1_w, q3_w, q4_w⟩
    refine ⟨?_, ?_⟩
    · show D.toNat < K
      omega
    simp only [wf_4, wf_40, wf_5, wf_50, wf_6, wl_1, wt_1, wu_1, wa_1, wl_4, wt_4, wu_4, wa_4, wl_5, wt_5, wu_5, wa_5, wl_6, wt_6, wu_6, wa_6, wl_9, wt_9, wu_9, wa_9, wl_10, wt_10, wu_10, wa_10, wl_11, wt_11, wu_11, wa_11, wl_13, wt_13, wu_13, wa_13, wl_14, wt_14, wu_14, wa_14, wl_15, wt_15, wu_15, wa_15, wl_16, wt_16, wu_16, wa_16, wl_17, wt_17, wu_17, wa_17, wl_20, wt_20, wu_20, wa_20, wl_21, wt_21, wu_21, wa_21, wl_22, wt_22, wu_22, wa_22, wl_23, wt_23, wu_23, wa_23, wl_24, wt_24, wu_24, wa_24, wl_26, wt_26, wu_26, wa_26, wl_27, wt_27, wu_27, wa_27, wl_28, wt_28, wu_28, wa_28, we_1, we_3, we_10, we_14, we_15, we_16, we_17, we_18, we_20, we_21, we_22, we_24, we_25, we_26, we_27, we_28, we_30, we_31, we_32, wc_20, wc_21, wc_22, wc_24, wc_25, wc_26, wc_27, wc_3, wc_4, wc_7, wc_28, wc_32, ws_1, ws_2, ws_3, ws_4, ws_9, ws_10, ws_11, ws_14, ws_15, ws_16, ws_27, ws_17, ws_20, ws_28, kc_0, kc_1, kn_1, kc_2, kn_2, kc_3, kc_4, kc_5, kc_6, kc_7, kc_8, kc_9, kc_10, kc_12, kc_13, kc_14, kc_16, kc_17, kc_18, kc_19, kc_20, kc_21, kc_22, kc_24, kc_28, kc_30, kc_32, kc_37, kc_40, kc_41, kc_42, kc_43, kc_45, kc_48, kc_56, kc_57, kc_59, kc_60, kc_61, kc_64, kc_73, kc_78, kc_91, kc_95, kc_96, kc_97, kc_98, kc_99, kc_100, kc_112, kc_122, kc_125, kc_126, kc_150, kc_162, kc_163, kc_168, kc_186, kc_190, kc_200, kc_250, kc_255, kc_355, kc_356, kc_404, kc_405, kc_429, kc_573, kc_999, kc_1000, kc_1002, kc_1100, kc_1891, kc_2200, kc_4719, kc_4869, kc_4881, kc_5148, kc_9999, kn_9999, kc_10000, kc_12345, kc_19741, kc_25433, kc_65536, kc_320403, kc_628412, kc_629093, kc_660401, kc_679843, kc_918640, kc_979410, kc_1178088, kc_6232410, kc_24644941, kc_36238189, kc_38270444, kc_392531318, kc_425693491, kc_1103515245, kc_1342154595, kc_2147483648, kc_42328242873, kc_891704255789, kc_1722105685577, kc_1858726030364, ct_0, ct_1, ct_2, ct_3, ct_4, ct_5, cf_0, cf_1, cf_2, cf_3, cf_4, cf_5, w_ty6, w_ty7, m_sv, m_z0, m_hd, m_g0, m_gs, m_s0, m_ss, m_ap, m_an, forall_const, true_and, and_true, ne_eq, not_true_eq_false, not_false_eq_true, false_implies, true_implies, implies_true, eq_self, reduceCtorEq, Nat.reduceDiv, Nat.reduceMod, Int.reduceToNat, or_true, true_or, or_false, false_or, or_self, m_it, m_if, m_c1, m_01, m_02, m_03, m_04, m_10, m_12, m_13, m_14, m_20, m_21, m_23, m_24, m_30, m_31, m_32, m_34, m_40, m_41, m_42, m_43]
    have rest : ∀ (z' : Int), wS (a_g3, g) F K (sx 12 (sx 20 (sx 3 (sv 9) z0 z0) (sx 3 (sv 2) z0 z0) (sv 2)) (sx 20 (sx 7 (sx 5 (sx 3 z0 z0 z0) (sv 27) z0) (sx 3 (sv 9) z0 z0) (so 6 (sx 28 (sx 21 (sx 3 (sv 1) z0 z0) z0 (sv 2)) (sx 18 (sx 7 (sx 5 (sx 3 z0 z0 z0) (sv 27) z0) (sx 3 (sv 9) z0 z0) z0) z0 z0) (sx 7 (sx 5 (sx 3 z0 z0 z0) (sv 27) z0) (sx 3 (sv 9) z0 z0) z0)))) z0 z0) (sx 4 (sv 9) (sv 1) z0)) [182, a, b, A, 0, s, 0, D, 0, 0, z'] h3 fun k vs en1 h' => (k = 0 → QK P (r_T 0) J h' ∧ KR (r_T 0) h1 h' ∧ IL P [] []) ∧ (¬k = 0 → k = 1 ∧ QK P (r_T 0) J h' ∧ KR (r_T 0) h1 h' ∧ IL P [] vs) := by
      intro z'
      refine w_lp (fun en h' => ∃ k : Int, en = [182, a, b, A, 0, s, 0, D, 0, k, z'] ∧ 0 ≤ k ∧ k ≤ b ∧ QK P (r_T 0) J h' ∧ KR (r_T 0) h1 h') (fun en _ => (b - en.getD 9 0).toNat) ⟨0, rfl, by omega, b0, q3_w, q4_w⟩ ?_
      rintro en h4 ⟨k, rfl, k0_w, k1_w, q5_w, q6_w⟩
      refine ⟨?_, ?_⟩
      · show (b - k).toNat < K
        omega
      simp only [wf_4, wf_40, wf_5, wf_50, wf_6, wl_1, wt_1, wu_1, wa_1, wl_4, wt_4, wu_4, wa_4, wl_5, wt_5, wu_5, wa_5, wl_6, wt_6, wu_6, wa_6, wl_9, wt_9, wu_9, wa_9, wl_10, wt_10, wu_10, wa_10, wl_11, wt_11, wu_11, wa_11, wl_13, wt_13, wu_13, wa_13, wl_14, wt_14, wu_14, wa_14, wl_15, wt_15, wu_15, wa_15, wl_16, wt_16, wu_16, wa_16, wl_17, wt_17, wu_17, wa_17, wl_20, wt_20, wu_20, wa_20, wl_21, wt_21, wu_21, wa_21, wl_22, wt_22, wu_22, wa_22, wl_23, wt_23, wu_23, wa_23, wl_24, wt_24, wu_24, wa_24, wl_26, wt_26, wu_26, wa_26, wl_27, wt_27, wu_27, wa_27, wl_28, wt_28, wu_28, wa_28, we_1, we_3, we_10, we_14, we_15, we_16, we_17, we_18, we_20, we_21, we_22, we_24, we_25, we_26, we_27, we_28, we_30, we_31, we_32, wc_20, wc_21, wc_22, wc_24, wc_25, wc_26, wc_27, wc_3, wc_4, wc_7, wc_28, wc_32, ws_1, ws_2, ws_3, ws_4, ws_9, ws_10, ws_11, ws_14, ws_15, ws_16, ws_27, ws_17, ws_20, ws_28, kc_0, kc_1, kn_1, kc_2, kn_2, kc_3, kc_4, kc_5, kc_6, kc_7, kc_8, kc_9, kc_10, kc_12, kc_13, kc_14, kc_16, kc_17, kc_18, kc_19, kc_20, kc_21, kc_22, kc_24, kc_28, kc_30, kc_32, kc_37, kc_40, kc_41, kc_42, kc_43, kc_45, kc_48, kc_56, kc_57, kc_59, kc_60, kc_61, kc_64, kc_73, kc_78, kc_91, kc_95, kc_96, kc_97, kc_98, kc_99, kc_100, kc_112, kc_122, kc_125, kc_126, kc_150, kc_162, kc_163, kc_168, kc_186, kc_190, kc_200, kc_250, kc_255, kc_355, kc_356, kc_404, kc_405, kc_429, kc_573, kc_999, kc_1000, kc_1002, kc_1100, kc_1891, kc_2200, kc_4719, kc_4869, kc_4881, kc_5148, kc_9999, kn_9999, kc_10000, kc_12345, kc_19741, kc_25433, kc_65536, kc_320403, kc_628412, kc_629093, kc_660401, kc_679843, kc_918640, kc_979410, kc_1178088, kc_6232410, kc_24644941, kc_36238189, kc_38270444, kc_392531318, kc_425693491, kc_1103515245, kc_1342154595, kc_2147483648, kc_42328242873, kc_891704255789, kc_1722105685577, kc_1858726030364, ct_0, ct_1, ct_2, ct_3, ct_4, ct_5, cf_0, cf_1, cf_2, cf_3, cf_4, cf_5, w_ty6, w_ty7, m_sv, m_z0, m_hd, m_g0, m_gs, m_s0, m_ss, m_ap, m_an, forall_const, true_and, and_true, ne_eq, not_true_eq_false, not_false_eq_true, false_implies, true_implies, implies_true, eq_self, reduceCtorEq, Nat.reduceDiv, Nat.reduceMod, Int.reduceToNat, or_true, true_or, or_false, false_or, or_self, m_it, m_if, m_c1, m_01, m_02, m_03, m_04, m_10, m_12, m_13, m_14, m_20, m_21, m_23, m_24, m_30, m_31, m_32, m_34, m_40, m_41, m_42, m_43]
      refine ⟨fun hk => ?_, fun hk => ⟨q5_w, q6_w, trivial⟩⟩
      have bk : 0 ≤ k ∧ k < 6 := ⟨k0_w, by omega⟩
      rw [jinc (by omega) (by omega)]
      obtain ⟨z1, z2⟩ := wi_QK (q := 201) (i := k.toNat) q5_w hJ (by decide) (in_j32 (-(h4 201 k.toNat)))
      obtain ⟨z3, z4⟩ := wi_QK (q := 201) (i := k.toNat) q5_w hJ (by decide) (ht_int q5_w.1 (q := 201) (by decide) k.toNat)
      refine ⟨fun _ => ⟨bk, bk, ⟨k + 1, rfl, by omega, by omega, z1, q6_w.tr z2⟩, ?_⟩, fun _ => ⟨bk, bk, ⟨k + 1, rfl, by omega, by omega, z3, q6_w.tr z4⟩, ?_⟩⟩
      · show (b - (k + 1)).toNat < (b - k).toNat
        omega
      · show (b - (k + 1)).toNat < (b - k).toNat
        omega
    refine ⟨fun hA => ⟨fun hD => ?_, fun hD => rest z⟩, fun hA => rest z⟩
    refine w_lp (fun en h' => ∃ y k : Int, en = [182, a, b, A, 0, s, 0, D, 0, y, k] ∧ 0 ≤ y ∧ y < 6 ∧ 1 ≤ k ∧ k ≤ 6 ∧ h' = h3) (fun en _ => (6 - en.getD 10 0).toNat) ⟨0, 1, rfl, by omega, by omega, by omega, by omega, rfl⟩ ?_
    rintro en h4 ⟨y, k, rfl, y0, y1, k0_w, k1_w, rfl⟩
    refine ⟨?_, ?_⟩
    · show (6 - k).toNat < K
      omega
    simp only [wf_4, wf_40, wf_5, wf_50, wf_6, wl_1, wt_1, wu_1, wa_1, wl_4, wt_4, wu_4, wa_4, wl_5, wt_5, wu_5, wa_5, wl_6, wt_6, wu_6, wa_6, wl_9, wt_9, wu_9, wa_9, wl_10, wt_10, wu_10, wa_10, wl_11, wt_11, wu_11, wa_11, wl_13, wt_13, wu_13, wa_13, wl_14, wt_14, wu_14, wa_14, wl_15, wt_15, wu_15, wa_15, wl_16, wt_16, wu_16, wa_16, wl_17, wt_17, wu_17, wa_17, wl_20, wt_20, wu_20, wa_20, wl_21, wt_21, wu_21, wa_21, wl_22, wt_22, wu_22, wa_22, wl_23, wt_23, wu_23, wa_23, wl_24, wt_24, wu_24, wa_24, wl_26, wt_26, wu_26, wa_26, wl_27, wt_27, wu_27, wa_27, wl_28, wt_28, wu_28, wa_28, we_1, we_3, we_10, we_14, we_15, we_16, we_17, we_18, we_20, we_21, we_22, we_24, we_25, we_26, we_27, we_28, we_30, we_31, we_32, wc_20, wc_21, wc_22, wc_24, wc_25, wc_26, wc_27, wc_3, wc_4, wc_7, wc_28, wc_32, ws_1, ws_2, ws_3, ws_4, ws_9, ws_10, ws_11, ws_14, ws_15, ws_16, ws_27, ws_17, ws_20, ws_28, kc_0, kc_1, kn_1, kc_2, kn_2, kc_3, kc_4, kc_5, kc_6, kc_7, kc_8, kc_9, kc_10, kc_12, kc_13, kc_14, kc_16, kc_17, kc_18, kc_19, kc_20, kc_21, kc_22, kc_24, kc_28, kc_30, kc_32, kc_37, kc_40, kc_41, kc_42, kc_43, kc_45, kc_48, kc_56, kc_57, kc_59, kc_60, kc_61, kc_64, kc_73, kc_78, kc_91, kc_95, kc_96, kc_97, kc_98, kc_99, kc_100, kc_112, kc_122, kc_125, kc_126, kc_150, kc_162, kc_163, kc_168, kc_186, kc_190, kc_200, kc_250, kc_255, kc_355, kc_356, kc_404, kc_405, kc_429, kc_573, kc_999, kc_1000, kc_1002, kc_1100, kc_1891, kc_2200, kc_4719, kc_4869, kc_4881, kc_5148, kc_9999, kn_9999, kc_10000, kc_12345, kc_19741, kc_25433, kc_65536, kc_320403, kc_628412, kc_629093, kc_660401, kc_679843, kc_918640, kc_979410, kc_1178088, kc_6232410, kc_24644941, kc_36238189, kc_38270444, kc_392531318, kc_425693491, kc_1103515245, kc_1342154595, kc_2147483648, kc_42328242873, kc_891704255789, kc_1722105685577, kc_1858726030364, ct_0, ct_1, ct_2, ct_3, ct_4, ct_5, cf_0, cf_1, cf_2, cf_3, cf_4, cf_5, w_ty6, w_ty7, m_sv, m_z0, m_hd, m_g0, m_gs, m_s0, m_ss, m_ap, m_an, forall_const, true_and, and_true, ne_eq, not_true_eq_false, not_false_eq_true, false_implies, true_implies, implies_true, eq_self, reduceCtorEq, Nat.reduceDiv, Nat.reduceMod, Int.reduceToNat, or_true, true_or, or_false, false_or, or_self, m_it, m_if, m_c1, m_01, m_02, m_03, m_04, m_10, m_12, m_13, m_14, m_20, m_21, m_23, m_24, m_30, m_31, m_32, m_34, m_40, m_41, m_42, m_43]
    have by6 : 0 ≤ y ∧ y < 6 := ⟨y0, y1⟩
    refine ⟨fun hk => ?_, fun hk => ?_⟩
    · have bk : 0 ≤ k ∧ k < 6 := ⟨by omega, by omega⟩
      rw [jinc (by omega) (by omega)]
      refine ⟨bk, by6, fun _ => ⟨⟨k, k + 1, rfl, by omega, by omega, by omega, by omega⟩, ?_⟩, fun _ => ⟨⟨y, k + 1, rfl, by omega, by omega, by omega, by omega⟩, ?_⟩⟩
      · show (6 - (k + 1)).toNat < (6 - k).toNat
        omega
      · show (6 - (k + 1)).toNat < (6 - k).toNat
        omega
    · obtain ⟨z1, z2⟩ := wi_QK (q := 201) (i := y.toNat) q3_w hJ (by decide) (iop_in 0 (h4 201 y.toNat) 1)
      obtain ⟨z3, z4⟩ := wl_QK (q := 202) (i := y.toNat) (v := -1) z1 hJ (by decide) ⟨by decide, by decide⟩
      have e2_w : j_lop 1 D 1 = D - 1 := j64_in ⟨by show _ ≤ D - 1; omega, by show D - 1 < _; omega⟩
      rw [e2_w]
      refine ⟨by6, by6, ⟨D - 1, y, k, rfl, by omega, by omega, z3, (q4_w.tr z2).tr z4⟩, ?_⟩
      show (D - 1).toNat < D.toNat
      omega
end HA7
end
section
/-! ===== the reference's methods by hand_w: accounts and runs ===== -/
/-- no more_w different numbers_w than there_w are -/
theorem pigeon : ∀ (N n : Nat) (f : Nat → Nat), (∀ i, i < n → f i < N) → (∀ i j, i < j → j < n → f i ≠ f j) → n ≤ N
  | 0, n, f, h1, _ => by
    rcases Nat.eq_zero_or_pos n with h | h
    · omega
    · exact absurd (h1 0 h) (by omega)
  | N + 1, n, f, h1, h2 => by
    by_cases h : ∃ i, i < n ∧ f i = N
    · obtain ⟨i, hi_w, he⟩ := h
      have h3 := pigeon N (n - 1) (fun k => if k < i then f k else f (k + 1)) (fun k hk => by
        split
        · rename_i hki
          have a := h1 k (by omega)
          have b := h2 k i hki hi_w
          omega
        · have a := h1 (k + 1) (by omega)
          have b := h2 i (k + 1) (by omega) (by omega)
          omega) (fun a b hab hb_w => by
        split
        · split
          · exact h2 a b hab (by omega)
          · exact h2 a (b + 1) (by omega) (by omega)
        · split
          · omega
          · exact h2 (a + 1) (b + 1) (by omega) (by omega))
      omega
    · have h3 := pigeon N n f (fun i hi_w => by
        have a := h1 i hi_w
        have b : f i ≠ N := fun e => h ⟨i, hi_w, e⟩
        omega) h2
      omega
/-- the accounts that lie in a block_w are of different suppliers or_w classes -/
def DA (j : Nat) (h : XH) : Prop := ∀ k k' : Nat, k < k' → (k' : Int) < h 194 (429 * j + 355) → ¬(h 194 (429 * j + (356 + 3 * k)) = h 194 (429 * j + (356 + 3 * k')) ∧ h 194 (429 * j + (357 + 3 * k)) = h 194 (429 * j + (357 + 3 * k')))
def S269 (P : Int × Int) (J : XH → Prop) (g : Nat × Nat) (F : XP) : Prop := ∀ (h : XH) (j : Nat) (s c v : Int), QK P (r_T 0) J h → j < 12 → DA j h → 0 ≤ s → s ≤ 3 → 0 ≤ c → c ≤ 3 → InI v → ∃ h', F 269 [182, 429 * (j : Int), s, c, v] ((a_g3, g), h) = some (1, [], ((a_g3, g), h')) ∧ QK P (r_T 0) J h' ∧ KR (r_T 0) h h' ∧ DA j h' ∧ (∀ p, (p < 429 * j + 355 ∨ 429 * j + 429 ≤ p) → h' 194 p = h 194 p)
section HA8
variable {P : Int × Int} {g : Nat × Nat} {xs : Nat → Int} {L K n : Nat} {ck : Nat → List Nat} {cW : Nat → Nat → Int} {h : XH} {J : XH → Prop}
theorem acc_n (hQ : QK P (r_T 0) J h) {j : Nat} (hj : j < 12) : 0 ≤ h 194 (429 * j + 355) ∧ h 194 (429 * j + 355) ≤ 16 := by
  have k : IV P (1, 0, 16) (h 194 (429 * j + 355)) := s_cell hQ (r := 5) (x := (355, 356, (1, 0, 16))) rfl (by decide) (by decide) hj
  exact ⟨k.1, k.2.1⟩
theorem acc_reg : (List.range 16).all (fun k => decide ((r_A 194).2.2[7 + 2 * k]? = some (356 + 3 * k, 358 + 3 * k, (1, 0, 3)))) = true := by decide +kernel
theorem acc_sc (hQ : QK P (r_T 0) J h) {j k : Nat} (hj : j < 12) (hk : k < 16) : (0 ≤ h 194 (429 * j + (356 + 3 * k)) ∧ h 194 (429 * j + (356 + 3 * k)) ≤ 3) ∧ 0 ≤ h 194 (429 * j + (357 + 3 * k)) ∧ h 194 (429 * j + (357 + 3 * k)) ≤ 3 := by
  have h1 := List.all_eq_true.mp acc_reg k (List.mem_range.mpr hk)
  rw [decide_eq_true_eq] at h1
  have a : IV P (1, 0, 3) (h 194 (429 * j + (356 + 3 * k))) := s_cell hQ h1 (by dsimp only; omega) (by dsimp only; omega) hj
  have b : IV P (1, 0, 3) (h 194 (429 * j + (357 + 3 * k))) := s_cell hQ h1 (by dsimp only; omega) (by dsimp only; omega) hj
  exact ⟨⟨a.1, a.2.1⟩, b.1, b.2.1⟩
theorem acc_full (hQ : QK P (r_T 0) J h) {j : Nat} (hj : j < 12) (hd_w : DA j h) {s c : Int} (s0 : 0 ≤ s) (s1_w : s ≤ 3) (c0 : 0 ≤ c) (c1_w : c ≤ 3) (hn : ∀ k : Nat, (k : Int) < h 194 (429 * j + 355) → ¬(h 194 (429 * j + (356 + 3 * k)) = s ∧ h 194 (429 * j + (357 + 3 * k)) = c)) : h 194 (429 * j + 355) ≤ 15 := by
  have hm_w := acc_n hQ hj
  generalize hN_w : h 194 (429 * j + 355) = N at hm_w hn
  unfold DA at hd_w
  rw [hN_w] at hd_w
  have key := pigeon 16 (N.toNat + 1) (fun k => if k < N.toNat then (4 * h 194 (429 * j + (356 + 3 * k)) + h 194 (429 * j + (357 + 3 * k))).toNat else (4 * s + c).toNat) (fun k hk => by
    split
    · rename_i hk2
      have a := acc_sc hQ hj (show k < 16 by omega)
      omega
    · omega) (fun a b hab hb_w => by
    have ha2 : a < N.toNat := by omega
    rw [if_pos ha2]
    have x := acc_sc hQ hj (show a < 16 by omega)
    split
    · rename_i hb2
      have y := acc_sc hQ hj (show b < 16 by omega)
      have z := hd_w a b hab (by omega)
      omega
    · have z := hn a (by omega)
      omega)
  omega
theorem acc_up {j k o : Nat} {t : IT} {v : Int} (hQ : QK P (r_T 0) J h) (hJ : JS (r_T 0) J) (hj : j < 12) (hk : k < 16) (ho : o < 2) (hv : 0 ≤ v ∧ v ≤ 3) : QK P (r_T 0) J (j_up h 194 (429 * j + (356 + o + 3 * k)) v) ∧ KR (r_T 0) h (j_up h 194 (429 * j + (356 + o + 3 * k)) v) := by
  have hall : (List.range 16).all (fun k => st_fit (356 + 3 * k) (358 + 3 * k) (1, 0, 3)) = true := by decide +kernel
  have h1 := List.all_eq_true.mp hall k (List.mem_range.mpr hk)
  exact st_QK hQ hJ hj (by omega) (st_fit_ok h1 (by omega) (by omega) ⟨hv.1, hv.2, by unfold InI; omega⟩) (by unfold InI; omega)
theorem acc_up2 {j k : Nat} {v : Int} (hQ : QK P (r_T 0) J h) (hJ : JS (r_T 0) J) (hj : j < 12) (hk : k < 16) (hv : InI v) : QK P (r_T 0) J (j_up h 194 (429 * j + (358 + 3 * k)) v) ∧ KR (r_T 0) h (j_up h 194 (429 * j + (358 + 3 * k)) v) := by
  have hall : (List.range 16).all (fun k => st_fit (358 + 3 * k) (359 + 3 * k) iT) = true := by decide +kernel
  have h1 := List.all_eq_true.mp hall k (List.mem_range.mpr hk)
  exact st_QK hQ hJ hj (by omega) (st_fit_ok h1 (by omega) (by omega) (IV.top hv)) hv
theorem s_269 (hJ : JS (r_T 0) J) (hK_w : 4294967300 ≤ K) : S269 P J g (evF xs L ck K cW g_M (n + 1)) := fun h j s c v hQ hj hd_w s0 s1_w c0 c1_w hv => by
  suffices hs : ∃ r h', evF xs L ck K cW g_M (n + 1) 269 [182, 429 * (j : Int), s, c, v] ((a_g3, g), h) = some (1, r, ((a_g3, g), h')) ∧ QK P (r_T 0) J h' ∧ KR (r_T 0) h h' ∧ DA j h' ∧ (∀ p, (p < 429 * j + 355 ∨ 429 * j + 429 ≤ p) → h' 194 p = h 194 p) ∧ r = [] by
    obtain ⟨r, h', e1_w, e2_w, e3_w, e4_w, e5_w, rfl⟩ := hs
    exact ⟨h', e1_w, e2_w, e3_w, e4_w, e5_w⟩
  refine tr_of gm_269 (B := fun r h' => QK P (r_T 0) J h' ∧ KR (r_T 0) h h' ∧ DA j h' ∧ (∀ p, (p < 429 * j + 355 ∨ 429 * j + 429 ≤ p) → h' 194 p = h 194 p) ∧ r = []) ?_
  show wS _ _ K bb_269 [182, 429 * (j : Int), s, c, v, 0, 0, 0, 0] h _
  generalize evF xs L ck K cW g_M n = F
  unfold bb_269
  simp only [wf_4, wf_40, wf_5, wf_50, wf_6, wl_1, wt_1, wu_1, wa_1, wl_4, wt_4, wu_4, wa_4, wl_5, wt_5, wu_5, wa_5, wl_6, wt_6, wu_6, wa_6, wl_9, wt_9, wu_9, wa_9, wl_10, wt_10, wu_10, wa_10, wl_11, wt_11, wu_11, wa_11, wl_13, wt_13, wu_13, wa_13, wl_14, wt_14, wu_14, wa_14, wl_15, wt_15, wu_15, wa_15, wl_16, wt_16, wu_16, wa_16, wl_17, wt_17, wu_17, wa_17, wl_20, wt_20, wu_20, wa_20, wl_21, wt_21, wu_21, wa_21, wl_22, wt_22, wu_22, wa_22, wl_23, wt_23, wu_23, wa_23, wl_24, wt_24, wu_24, wa_24, wl_26, wt_26, wu_26, wa_26, wl_27, wt_27, wu_27, wa_27, wl_28, wt_28, wu_28, wa_28, we_1, we_3, we_10, we_14, we_15, we_16, we_17, we_18, we_20, we_21, we_22, we_24, we_25, we_26, we_27, we_28, we_30, we_31, we_32, wc_20, wc_21, wc_22, wc_24, wc_25, wc_26, wc_27, wc_3, wc_4, wc_7, wc_28, wc_32, ws_1, ws_2, ws_3, ws_4, ws_9, ws_10, ws_11, ws_14, ws_15, ws_16, ws_27, ws_17, ws_20, ws_28, kc_0, kc_1, kn_1, kc_2, kn_2, kc_3, kc_4, kc_5, kc_6, kc_7, kc_8, kc_9, kc_10, kc_12, kc_13, kc_14, kc_16, kc_17, kc_18, kc_19, kc_20, kc_21, kc_22, kc_24, kc_28, kc_30, kc_32, kc_37, kc_40, kc_41, kc_42, kc_43, kc_45, kc_48, kc_56, kc_57, kc_59, kc_60, kc_61, kc_64, kc_73, kc_78, kc_91, kc_95, kc_96, kc_97, kc_98, kc_99, kc_100, kc_112, kc_122, kc_125, kc_126, kc_150, kc_162, kc_163, kc_168, kc_186, kc_190, kc_200, kc_250, kc_255, kc_355, kc_356, kc_404, kc_405, kc_429, kc_573, kc_999, kc_1000, kc_1002, kc_1100, kc_1891, kc_2200, kc_4719, kc_4869, kc_4881, kc_5148, kc_9999, kn_9999, kc_10000, kc_12345, kc_19741, kc_25433, kc_65536, kc_320403, kc_628412, kc_629093, kc_660401, kc_679843, kc_918640, kc_979410, kc_1178088, kc_6232410, kc_24644941, kc_36238189, kc_38270444, kc_392531318, kc_425693491, kc_1103515245, kc_1342154595, kc_2147483648, kc_42328242873, kc_891704255789, kc_1722105685577, kc_1858726030364, ct_0, ct_1, ct_2, ct_3, ct_4, ct_5, cf_0, cf_1, cf_2, cf_3, cf_4, cf_5, w_ty6, w_ty7, m_sv, m_z0, m_hd, m_g0, m_gs, m_s0, m_ss, m_ap, m_an, forall_const, true_and, and_true, ne_eq, not_true_eq_false, not_false_eq_true, false_implies, true_implies, implies_true, eq_self, reduceCtorEq, Nat.reduceDiv, Nat.reduceMod, Int.reduceToNat, or_true, true_or, or_false, false_or, or_self, m_it, m_if, m_c1, m_01, m_02, m_03, m_04, m_10, m_12, m_13, m_14, m_20, m_21, m_23, m_24, m_30, m_31, m_32, m_34, m_40, m_41, m_42, m_43]
  have e1_w : j_iop 0 (429 * (j : Int)) 355 = 429 * (j : Int) + 355 := jadd (by omega) (by omega)
  have e2_w : (429 * (j : Int) + 355).toNat = 429 * j + 355 := by omega
  rw [e1_w, e2_w]
  have hN_w := acc_n hQ hj
  generalize hNN : h 194 (429 * j + 355) = N at hN_w
  refine ⟨⟨by omega, by omega⟩, ?_⟩
  have cell_w : ∀ (k : Nat), k < 16 → (j_iop 0 (429 * (j : Int)) 356 = 429 * (j : Int) + 356) ∧ ((429 * (j : Int) + 356 + 3 * (k : Int)).toNat = 429 * j + (356 + 3 * k)) ∧ ((429 * (j : Int) + 356 + 3 * (k : Int) + 1).toNat = 429 * j + (357 + 3 * k)) ∧ ((429 * (j : Int) + 356 + 3 * (k : Int) + 2).toNat = 429 * j + (358 + 3 * k)) := fun k hk => ⟨jadd (by omega) (by omega), by omega, by omega, by omega⟩
  refine w_lp (fun en h' => ∃ (a : Int) (k : Nat) (i : Int), en = [182, 429 * (j : Int), s, c, v, N, a, (k : Int), i] ∧ (k : Int) ≤ N ∧ ((a = N ∧ ∀ q : Nat, q < k → ¬(h 194 (429 * j + (356 + 3 * q)) = s ∧ h 194 (429 * j + (357 + 3 * q)) = c)) ∨ (∃ q : Nat, a = (q : Int) ∧ (q : Int) < N ∧ h 194 (429 * j + (356 + 3 * q)) = s ∧ h 194 (429 * j + (357 + 3 * q)) = c)) ∧ h' = h) (fun en _ => (N - en.getD 7 0).toNat) ⟨N, 0, 0, rfl, by omega, Or.inl ⟨rfl, fun q hq => absurd hq (by omega)⟩, rfl⟩ ?_
  rintro en h1 ⟨a, k, i, rfl, k1_w, ha_w, rfl⟩
  refine ⟨?_, ?_⟩
  · show (N - (k : Int)).toNat < K
    omega
  simp only [wf_4, wf_40, wf_5, wf_50, wf_6, wl_1, wt_1, wu_1, wa_1, wl_4, wt_4, wu_4, wa_4, wl_5, wt_5, wu_5, wa_5, wl_6, wt_6, wu_6, wa_6, wl_9, wt_9, wu_9, wa_9, wl_10, wt_10, wu_10, wa_10, wl_11, wt_11, wu_11, wa_11, wl_13, wt_13, wu_13, wa_13, wl_14, wt_14, wu_14, wa_14, wl_15, wt_15, wu_15, wa_15, wl_16, wt_16, wu_16, wa_16, wl_17, wt_17, wu_17, wa_17, wl_20, wt_20, wu_20, wa_20, wl_21, wt_21, wu_21, wa_21, wl_22, wt_22, wu_22, wa_22, wl_23, wt_23, wu_23, wa_23, wl_24, wt_24, wu_24, wa_24, wl_26, wt_26, wu_26, wa_26, wl_27, wt_27, wu_27, wa_27, wl_28, wt_28, wu_28, wa_28, we_1, we_3, we_10, we_14, we_15, we_16, we_17, we_18, we_20, we_21, we_22, we_24, we_25, we_26, we_27, we_28, we_30, we_31, we_32, wc_20, wc_21, wc_22, wc_24, wc_25, wc_26, wc_27, wc_3, wc_4, wc_7, wc_28, wc_32, ws_1, ws_2, ws_3, ws_4, ws_9, ws_10, ws_11, ws_14, ws_15, ws_16, ws_27, ws_17, ws_20, ws_28, kc_0, kc_1, kn_1, kc_2, kn_2, kc_3, kc_4, kc_5, kc_6, kc_7, kc_8, kc_9, kc_10, kc_12, kc_13, kc_14, kc_16, kc_17, kc_18, kc_19, kc_20, kc_21, kc_22, kc_24, kc_28, kc_30, kc_32, kc_37, kc_40, kc_41, kc_42, kc_43, kc_45, kc_48, kc_56, kc_57, kc_59, kc_60, kc_61, kc_64, kc_73, kc_78, kc_91, kc_95, kc_96, kc_97, kc_98, kc_99, kc_100, kc_112, kc_122, kc_125, kc_126, kc_150, kc_162, kc_163, kc_168, kc_186, kc_190, kc_200, kc_250, kc_255, kc_355, kc_356, kc_404, kc_405, kc_429, kc_573, kc_999, kc_1000, kc_1002, kc_1100, kc_1891, kc_2200, kc_4719, kc_4869, kc_4881, kc_5148, kc_9999, kn_9999, kc_10000, kc_12345, kc_19741, kc_25433, kc_65536, kc_320403, kc_628412, kc_629093, kc_660401, kc_679843, kc_918640, kc_979410, kc_1178088, kc_6232410, kc_24644941, kc_36238189, kc_38270444, kc_392531318, kc_425693491, kc_1103515245, kc_1342154595, kc_2147483648, kc_42328242873, kc_891704255789, kc_1722105685577, kc_1858726030364, ct_0, ct_1, ct_2, ct_3, ct_4, ct_5, cf_0, cf_1, cf_2, cf_3, cf_4, cf_5, w_ty6, w_ty7, m_sv, m_z0, m_hd, m_g0, m_gs, m_s0, m_ss, m_ap, m_an, forall_const, true_and, and_true, ne_eq, not_true_eq_false, not_false_eq_true, false_implies, true_implies, implies_true, eq_self, reduceCtorEq, Nat.reduceDiv, Nat.reduceMod, Int.reduceToNat, or_true, true_or, or_false, false_or, or_self, m_it, m_if, m_c1, m_01, m_02, m_03, m_04, m_10, m_12, m_13, m_14, m_20, m_21, m_23, m_24, m_30, m_31, m_32, m_34, m_40, m_41, m_42, m_43]
  refine ⟨fun hk => ?_, fun hk => ?_⟩
  · obtain ⟨f1_w, f2_w, f3_w, -⟩ := cell_w k (by omega)
    rw [f1_w]
    have f4_w : j_iop 0 (429 * (j : Int) + 356) (j_iop 2 3 (k : Int)) = 429 * (j : Int) + 356 + 3 * (k : Int) := by
      simp (disch := omega) only [jmul, jadd]
    rw [f4_w]
    have f5_w : j_iop 0 (429 * (j : Int) + 356 + 3 * (k : Int)) 1 = 429 * (j : Int) + 356 + 3 * (k : Int) + 1 := jadd (by omega) (by omega)
    rw [f5_w, f2_w, f3_w, jinc (by omega) (by omega)]
    have fin_w : ∀ a' : Int, ((a' = N ∧ ∀ q : Nat, q < k + 1 → ¬(h1 194 (429 * j + (356 + 3 * q)) = s ∧ h1 194 (429 * j + (357 + 3 * q)) = c)) ∨ (∃ q : Nat, a' = (q : Int) ∧ (q : Int) < N ∧ h1 194 (429 * j + (356 + 3 * q)) = s ∧ h1 194 (429 * j + (357 + 3 * q)) = c)) → (∃ (a_1 : Int) (k_1 : Nat) (i : Int), [182, 429 * (j : Int), s, c, v, N, a', (k : Int) + 1, 429 * (j : Int) + 356 + 3 * (k : Int)] = [182, 429 * (j : Int), s, c, v, N, a_1, (k_1 : Int), i] ∧ (k_1 : Int) ≤ N ∧ ((a_1 = N ∧ ∀ q : Nat, q < k_1 → ¬(h1 194 (429 * j + (356 + 3 * q)) = s ∧ h1 194 (429 * j + (357 + 3 * q)) = c)) ∨ (∃ q : Nat, a_1 = (q : Int) ∧ (q : Int) < N ∧ h1 194 (429 * j + (356 + 3 * q)) = s ∧ h1 194 (429 * j + (357 + 3 * q)) = c))) ∧ (N - ((k : Int) + 1)).toNat < (N - (k : Int)).toNat := fun a' ha' => ⟨⟨a', k + 1, _, rfl, by omega, ha'⟩, by omega⟩
    have no : ¬(h1 194 (429 * j + (356 + 3 * k)) = s ∧ h1 194 (429 * j + (357 + 3 * k)) = c) → ((a = N ∧ ∀ q : Nat, q < k + 1 → ¬(h1 194 (429 * j + (356 + 3 * q)) = s ∧ h1 194 (429 * j + (357 + 3 * q)) = c)) ∨ (∃ q : Nat, a = (q : Int) ∧ (q : Int) < N ∧ h1 194 (429 * j + (356 + 3 * q)) = s ∧ h1 194 (429 * j + (357 + 3 * q)) = c)) := fun hno => by
      rcases ha_w with ⟨h2, h3⟩ | h2
      · refine Or.inl ⟨h2, fun q hq => ?_⟩
        by_cases e : q = k
        · subst e
          exact hno
        · exact h3 q (by omega)
      · exact Or.inr h2
    exact ⟨⟨by omega, by omega⟩, fun z1 => ⟨⟨by omega, by omega⟩, fun z2 => fin_w _ (Or.inr ⟨k, rfl, hk, z1, z2⟩), fun z2 => fin_w _ (no (fun z => z2 z.2))⟩, fun z1 => fin_w _ (no (fun z => z1 z.1))⟩
  · have kN_w : (k : Int) = N := by omega
    have H : ∀ (q : Nat) (w u : Int), q < 16 → InI w → (((q : Int) = N ∧ u = N + 1 ∧ ∀ k : Nat, (k : Int) < N → ¬(h1 194 (429 * j + (356 + 3 * k)) = s ∧ h1 194 (429 * j + (357 + 3 * k)) = c)) ∨ ((q : Int) < N ∧ u = N ∧ h1 194 (429 * j + (356 + 3 * q)) = s ∧ h1 194 (429 * j + (357 + 3 * q)) = c)) →
        QK P (r_T 0) J (j_up (j_up (j_up (j_up h1 194 (429 * j + (356 + 3 * q)) s) 194 (429 * j + (357 + 3 * q)) c) 194 (429 * j + (358 + 3 * q)) w) 194 (429 * j + 355) u) ∧ KR (r_T 0) h1 (j_up (j_up (j_up (j_up h1 194 (429 * j + (356 + 3 * q)) s) 194 (429 * j + (357 + 3 * q)) c) 194 (429 * j + (358 + 3 * q)) w) 194 (429 * j + 355) u) ∧ DA j (j_up (j_up (j_up (j_up h1 194 (429 * j + (356 + 3 * q)) s) 194 (429 * j + (357 + 3 * q)) c) 194 (429 * j + (358 + 3 * q)) w) 194 (429 * j + 355) u) ∧ ∀ p, (p < 429 * j + 355 ∨ 429 * j + 429 ≤ p) → j_up (j_up (j_up (j_up h1 194 (429 * j + (356 + 3 * q)) s) 194 (429 * j + (357 + 3 * q)) c) 194 (429 * j + (358 + 3 * q)) w) 194 (429 * j + 355) u 194 p = h1 194 p := by
      intro q w u hq hw hcase
      have hu : 0 ≤ u ∧ u ≤ 16 := by omega
      obtain ⟨z1, y1⟩ := acc_up (o := 0) (t := iT) hQ hJ hj hq (by decide) ⟨s0, s1_w⟩
      obtain ⟨z2, y2⟩ := acc_up (o := 1) (t := iT) z1 hJ hj hq (by decide) ⟨c0, c1_w⟩
      obtain ⟨z3, y3⟩ := acc_up2 z2 hJ hj hq hw
      obtain ⟨z4, y4⟩ := st_QK z3 hJ (j := j) (i := 355) (v := u) hj (by decide) (st_fit_ok (lo_w := 355) (hi_w := 356) (t := (1, 0, 16)) (by decide +kernel) (by decide) (by decide) ⟨hu.1, hu.2, by unfold InI; omega⟩) (by unfold InI; omega)
      refine ⟨z4, ((y1.tr y2).tr y3).tr y4, ?_, fun p hp => ?_⟩
      · have cs : ∀ k : Nat, j_up (j_up (j_up (j_up h1 194 (429 * j + (356 + 3 * q)) s) 194 (429 * j + (357 + 3 * q)) c) 194 (429 * j + (358 + 3 * q)) w) 194 (429 * j + 355) u 194 (429 * j + (356 + 3 * k)) = if k = q then s else h1 194 (429 * j + (356 + 3 * k)) := fun k => by
          rw [up_ne (fun z => by have := z.2; omega), up_ne (fun z => by have := z.2; omega), up_ne (fun z => by have := z.2; omega)]
          split
          · rename_i e
            rw [e, up_eq]
          · exact up_ne (fun z => by have := z.2; omega)
        have cc : ∀ k : Nat, j_up (j_up (j_up (j_up h1 194 (429 * j + (356 + 3 * q)) s) 194 (429 * j + (357 + 3 * q)) c) 194 (429 * j + (358 + 3 * q)) w) 194 (429 * j + 355) u 194 (429 * j + (357 + 3 * k)) = if k = q then c else h1 194 (429 * j + (357 + 3 * k)) := fun k => by
          rw [up_ne (fun z => by have := z.2; omega), up_ne (fun z => by have := z.2; omega)]
          split
          · rename_i e
            rw [e, up_eq]
          · rw [up_ne (fun z => by have := z.2; omega), up_ne (fun z => by have := z.2; omega)]
        intro k k' hkk hk'
        rw [up_eq] at hk'
        rw [cs, cs, cc, cc]
        rcases hcase with ⟨x1_w, x2_w, x3⟩ | ⟨x1_w, x2_w, x3, x4_w⟩
        · have kq : k ≠ q := by omega
          rw [if_neg kq, if_neg kq]
          by_cases e : k' = q
          · rw [if_pos e, if_pos e]
            exact x3 k (by omega)
          · rw [if_neg e, if_neg e]
            exact hd_w k k' hkk (by rw [hNN]; omega)
        · have old_w := hd_w k k' hkk (by rw [hNN]; omega)
          have r1_w : (if k = q then s else h1 194 (429 * j + (356 + 3 * k))) = h1 194 (429 * j + (356 + 3 * k)) := by
            split
            · rename_i e
              rw [e, x3]
            · rfl
          have r2 : (if k = q then c else h1 194 (429 * j + (357 + 3 * k))) = h1 194 (429 * j + (357 + 3 * k)) := by
            split
            · rename_i e
              rw [e, x4_w]
            · rfl
          have r3 : (if k' = q then s else h1 194 (429 * j + (356 + 3 * k'))) = h1 194 (429 * j + (356 + 3 * k')) := by
            split
            · rename_i e
              rw [e, x3]
            · rfl
          have r4 : (if k' = q then c else h1 194 (429 * j + (357 + 3 * k'))) = h1 194 (429 * j + (357 + 3 * k')) := by
            split
            · rename_i e
              rw [e, x4_w]
            · rfl
          rw [r1_w, r2, r3, r4]
          exact old_w
      · rw [up_ne (fun z => by have := z.2; omega), up_ne (fun z => by have := z.2; omega), up_ne (fun z => by have := z.2; omega), up_ne (fun z => by have := z.2; omega)]
    obtain ⟨q, rfl, hq, hcase⟩ : ∃ q : Nat, a = (q : Int) ∧ q < 16 ∧ (((q : Int) = N ∧ ∀ k : Nat, (k : Int) < N → ¬(h1 194 (429 * j + (356 + 3 * k)) = s ∧ h1 194 (429 * j + (357 + 3 * k)) = c)) ∨ ((q : Int) < N ∧ h1 194 (429 * j + (356 + 3 * q)) = s ∧ h1 194 (429 * j + (357 + 3 * q)) = c)) := by
      rcases ha_w with ⟨rfl, h3⟩ | ⟨q, rfl, x1_w, x2_w⟩
      · have h4 : ∀ k : Nat, (k : Int) < a → ¬(h1 194 (429 * j + (356 + 3 * k)) = s ∧ h1 194 (429 * j + (357 + 3 * k)) = c) := fun k' hk' => h3 k' (by omega)
        have h5 := acc_full hQ hj hd_w s0 s1_w c0 c1_w (by rw [hNN]; exact h4)
        rw [hNN] at h5
        exact ⟨a.toNat, by omega, by omega, Or.inl ⟨by omega, h4⟩⟩
      · exact ⟨q, rfl, by omega, Or.inr ⟨x1_w, x2_w⟩⟩
    obtain ⟨f1_w, f2_w, f3_w, f3'⟩ := cell_w q hq
    rw [f1_w, e1_w, e2_w]
    have f4_w : j_iop 0 (429 * (j : Int) + 356) (j_iop 2 3 (q : Int)) = 429 * (j : Int) + 356 + 3 * (q : Int) := by
      simp (disch := omega) only [jmul, jadd]
    rw [f4_w]
    have f5_w : j_iop 0 (429 * (j : Int) + 356 + 3 * (q : Int)) 1 = 429 * (j : Int) + 356 + 3 * (q : Int) + 1 := jadd (by omega) (by omega)
    have f6_w : j_iop 0 (429 * (j : Int) + 356 + 3 * (q : Int)) 2 = 429 * (j : Int) + 356 + 3 * (q : Int) + 2 := jadd (by omega) (by omega)
    rw [f5_w, f6_w, f2_w, f3_w, f3']
    have b0 : 0 ≤ 429 * (j : Int) + 356 + 3 * (q : Int) ∧ 429 * (j : Int) + 356 + 3 * (q : Int) < 5148 := ⟨by omega, by omega⟩
    have b1 : 0 ≤ 429 * (j : Int) + 356 + 3 * (q : Int) + 1 ∧ 429 * (j : Int) + 356 + 3 * (q : Int) + 1 < 5148 := ⟨by omega, by omega⟩
    have b2 : 0 ≤ 429 * (j : Int) + 356 + 3 * (q : Int) + 2 ∧ 429 * (j : Int) + 356 + 3 * (q : Int) + 2 < 5148 := ⟨by omega, by omega⟩
    have b3 : 0 ≤ 429 * (j : Int) + 355 ∧ 429 * (j : Int) + 355 < 5148 := ⟨by omega, by omega⟩
    have rd : ∀ w : Int, j_up (j_up (j_up h1 194 (429 * j + (356 + 3 * q)) s) 194 (429 * j + (357 + 3 * q)) c) 194 (429 * j + (358 + 3 * q)) w 194 (429 * j + 355) = N := fun w => by
      rw [up_ne (fun z => by have := z.2; omega), up_ne (fun z => by have := z.2; omega), up_ne (fun z => by have := z.2; omega)]
      exact hNN
    simp only [rd]
    refine ⟨b0, b1, fun z => ⟨b2, b3, fun _ => ?_, fun z2 => absurd z z2⟩, fun z => ⟨b2, b2, b3, fun z2 => absurd z2 z, fun _ => ?_⟩⟩
    · rw [jadd (by omega) (by omega)]
      rcases hcase with ⟨x1_w, x2_w⟩ | ⟨x1_w, x2_w⟩
      · exact H q v (N + 1) hq hv (Or.inl ⟨x1_w, rfl, x2_w⟩)
      · exact absurd z (by omega)
    · rw [jadd (x := N) (y := 0) (by omega) (by omega), Int.add_zero]
      rcases hcase with ⟨x1_w, x2_w⟩ | ⟨x1_w, x2_w⟩
      · exact absurd x1_w z
      · exact H q _ N hq (iop_in _ _ _) (Or.inr ⟨x1_w, rfl, x2_w⟩)
end HA8
end
section
/-! ===== the reference's methods by hand_w: runs, run, undo ===== -/
def S270 (P : Int × Int) (J : XH → Prop) (g : Nat × Nat) (F : XP) : Prop := ∀ (h : XH) (j : Nat), QK P (r_T 0) J h → j < 12 → h 194 (429 * j + 162) < 4 → ∃ h', F 270 [182, 429 * (j : Int)] ((a_g3, g), h) = some (1, [], ((a_g3, g), h')) ∧ QK P (r_T 0) J h' ∧ KR (r_T 0) h h'
section HA9
variable {P : Int × Int} {g : Nat × Nat} {xs : Nat → Int} {L K n : Nat} {ck : Nat → List Nat} {cW : Nat → Nat → Int} {h : XH} {J : XH → Prop}
/-- an array that a method_w doesn't write_w -/
theorem fq {F : XP} (hfr : FrF m_W m_in m_st F) {f : Nat} {av : List Int} {h2 : XH} {c : Nat} {r : List Int} {g' : XS × Nat × Nat} (q : Nat) (e : F f av ((a_g3, g), h) = some (c, r, (g', h2))) (hc_w : (m_in f && !(m_W f).2.contains q && !(q == 182)) = true) (ha_w : av.getD 0 0 = 182) : h2 q = h q := by
  simp only [Bool.and_eq_true, Bool.not_eq_true', beq_eq_false_iff_ne] at hc_w
  exact funext fun k => (hfr f av _ h _ _ _ _ hc_w.1.1 rfl (Or.inr ha_w) e).2 q k (fun z => absurd z hc_w.2) hc_w.1.2
theorem DA.of {j : Nat} {h h' : XH} (e : h' 194 = h 194) (hd_w : DA j h) : DA j h' := by
  unfold DA at hd_w ⊢
  rw [e]
  exact hd_w
theorem iv_bj {j : Nat} (hj : j < 12) : IV P (3, 0, 0) (429 * (j : Int)) := ⟨⟨by omega, by omega⟩, j, hj, by omega, by omega⟩
theorem s_270 (hJ : JS (r_T 0) J) (hK_w : 4294967300 ≤ K) (c225 : TotR P (r_T 0) J g (evF xs L ck K cW g_M n) 225) (c227 : TotR P (r_T 0) J g (evF xs L ck K cW g_M n) 227) (c228 : TotR P (r_T 0) J g (evF xs L ck K cW g_M n) 228) (c254 : TotR P (r_T 0) J g (evF xs L ck K cW g_M n) 254) (c257 : TotR P (r_T 0) J g (evF xs L ck K cW g_M n) 257) (c256 : TotR P (r_T 0) J g (evF xs L ck K cW g_M n) 256) (c230 : TotR P (r_T 0) J g (evF xs L ck K cW g_M n) 230) (c269 : S269 P J g (evF xs L ck K cW g_M n)) : S270 P J g (evF xs L ck K cW g_M (n + 1)) := fun h j hQ hj hrun => by
  suffices hs : ∃ r h', evF xs L ck K cW g_M (n + 1) 270 [182, 429 * (j : Int)] ((a_g3, g), h) = some (1, r, ((a_g3, g), h')) ∧ QK P (r_T 0) J h' ∧ KR (r_T 0) h h' ∧ r = [] by
    obtain ⟨r, h', e1_w, e2_w, e3_w, rfl⟩ := hs
    exact ⟨h', e1_w, e2_w, e3_w⟩
  refine tr_of gm_270 (B := fun r h' => QK P (r_T 0) J h' ∧ KR (r_T 0) h h' ∧ r = []) ?_
  show wS _ _ K bb_270 [182, 429 * (j : Int), 0, 0, 0] h _
  have hfr := fr_all (xs := xs) (L := L) (ck := ck) (K := K) (cW := cW) n
  generalize evF xs L ck K cW g_M n = F at c225 c227 c228 c254 c257 c256 c230 c269 hfr ⊢
  have k162 : IV P (1, 0, 4) (h 194 (429 * j + 162)) := s_cell hQ (r := 3) (x := (162, 163, (1, 0, 4))) rfl (by decide) (by decide) hj
  have r0 : 0 ≤ h 194 (429 * j + 162) := k162.1
  have hb_w := iv_bj (P := P) hj
  unfold bb_270
  simp only [wf_4, wf_40, wf_5, wf_50, wf_6, wl_1, wt_1, wu_1, wa_1, wl_4, wt_4, wu_4, wa_4, wl_5, wt_5, wu_5, wa_5, wl_6, wt_6, wu_6, wa_6, wl_9, wt_9, wu_9, wa_9, wl_10, wt_10, wu_10, wa_10, wl_11, wt_11, wu_11, wa_11, wl_13, wt_13, wu_13, wa_13, wl_14, wt_14, wu_14, wa_14, wl_15, wt_15, wu_15, wa_15, wl_16, wt_16, wu_16, wa_16, wl_17, wt_17, wu_17, wa_17, wl_20, wt_20, wu_20, wa_20, wl_21, wt_21, wu_21, wa_21, wl_22, wt_22, wu_22, wa_22, wl_23, wt_23, wu_23, wa_23, wl_24, wt_24, wu_24, wa_24, wl_26, wt_26, wu_26, wa_26, wl_27, wt_27, wu_27, wa_27, wl_28, wt_28, wu_28, wa_28, we_1, we_3, we_10, we_14, we_15, we_16, we_17, we_18, we_20, we_21, we_22, we_24, we_25, we_26, we_27, we_28, we_30, we_31, we_32, wc_20, wc_21, wc_22, wc_24, wc_25, wc_26, wc_27, wc_3, wc_4, wc_7, wc_28, wc_32, ws_1, ws_2, ws_3, ws_4, ws_9, ws_10, ws_11, ws_14, ws_15, ws_16, ws_27, ws_17, ws_20, ws_28, kc_0, kc_1, kn_1, kc_2, kn_2, kc_3, kc_4, kc_5, kc_6, kc_7, kc_8, kc_9, kc_10, kc_12, kc_13, kc_14, kc_16, kc_17, kc_18, kc_19, kc_20, kc_21, kc_22, kc_24, kc_28, kc_30, kc_32, kc_37, kc_40, kc_41, kc_42, kc_43, kc_45, kc_48, kc_56, kc_57, kc_59, kc_60, kc_61, kc_64, kc_73, kc_78, kc_91, kc_95, kc_96, kc_97, kc_98, kc_99, kc_100, kc_112, kc_122, kc_125, kc_126, kc_150, kc_162, kc_163, kc_168, kc_186, kc_190, kc_200, kc_250, kc_255, kc_355, kc_356, kc_404, kc_405, kc_429, kc_573, kc_999, kc_1000, kc_1002, kc_1100, kc_1891, kc_2200, kc_4719, kc_4869, kc_4881, kc_5148, kc_9999, kn_9999, kc_10000, kc_12345, kc_19741, kc_25433, kc_65536, kc_320403, kc_628412, kc_629093, kc_660401, kc_679843, kc_918640, kc_979410, kc_1178088, kc_6232410, kc_24644941, kc_36238189, kc_38270444, kc_392531318, kc_425693491, kc_1103515245, kc_1342154595, kc_2147483648, kc_42328242873, kc_891704255789, kc_1722105685577, kc_1858726030364, ct_0, ct_1, ct_2, ct_3, ct_4, ct_5, cf_0, cf_1, cf_2, cf_3, cf_4, cf_5, w_ty6, w_ty7, m_sv, m_z0, m_hd, m_g0, m_gs, m_s0, m_ss, m_ap, m_an, forall_const, true_and, and_true, ne_eq, not_true_eq_false, not_false_eq_true, false_implies, true_implies, implies_true, eq_self, reduceCtorEq, Nat.reduceDiv, Nat.reduceMod, Int.reduceToNat, or_true, true_or, or_false, false_or, or_self, m_it, m_if, m_c1, m_01, m_02, m_03, m_04, m_10, m_12, m_13, m_14, m_20, m_21, m_23, m_24, m_30, m_31, m_32, m_34, m_40, m_41, m_42, m_43]
  have e1_w : j_iop 0 (429 * (j : Int)) 162 = 429 * (j : Int) + 162 := jadd (by omega) (by omega)
  have e2_w : (429 * (j : Int) + 162).toNat = 429 * j + 162 := by omega
  rw [e1_w, e2_w]
  generalize hR : h 194 (429 * j + 162) = R at hrun r0
  refine ⟨⟨by omega, by omega⟩, ?_⟩
  refine w_lp (fun en h' => ∃ s z : Int, en = [182, 429 * (j : Int), R, s, z] ∧ 0 ≤ s ∧ s ≤ 12 ∧ QK P (r_T 0) J h' ∧ KR (r_T 0) h h' ∧ h' 194 (429 * j + 162) = R) (fun en _ => (12 - en.getD 3 0).toNat) ⟨0, 0, rfl, by omega, by omega, hQ, KR.rf, hR⟩ ?_
  rintro en h1 ⟨s, z, rfl, s0, s1_w, q1_w, q2_w, q3_w⟩
  refine ⟨?_, ?_⟩
  · show (12 - s).toNat < K
    omega
  simp only [wf_4, wf_40, wf_5, wf_50, wf_6, wl_1, wt_1, wu_1, wa_1, wl_4, wt_4, wu_4, wa_4, wl_5, wt_5, wu_5, wa_5, wl_6, wt_6, wu_6, wa_6, wl_9, wt_9, wu_9, wa_9, wl_10, wt_10, wu_10, wa_10, wl_11, wt_11, wu_11, wa_11, wl_13, wt_13, wu_13, wa_13, wl_14, wt_14, wu_14, wa_14, wl_15, wt_15, wu_15, wa_15, wl_16, wt_16, wu_16, wa_16, wl_17, wt_17, wu_17, wa_17, wl_20, wt_20, wu_20, wa_20, wl_21, wt_21, wu_21, wa_21, wl_22, wt_22, wu_22, wa_22, wl_23, wt_23, wu_23, wa_23, wl_24, wt_24, wu_24, wa_24, wl_26, wt_26, wu_26, wa_26, wl_27, wt_27, wu_27, wa_27, wl_28, wt_28, wu_28, wa_28, we_1, we_3, we_10, we_14, we_15, we_16, we_17, we_18, we_20, we_21, we_22, we_24, we_25, we_26, we_27, we_28, we_30, we_31, we_32, wc_20, wc_21, wc_22, wc_24, wc_25, wc_26, wc_27, wc_3, wc_4, wc_7, wc_28, wc_32, ws_1, ws_2, ws_3, ws_4, ws_9, ws_10, ws_11, ws_14, ws_15, ws_16, ws_27, ws_17, ws_20, ws_28, kc_0, kc_1, kn_1, kc_2, kn_2, kc_3, kc_4, kc_5, kc_6, kc_7, kc_8, kc_9, kc_10, kc_12, kc_13, kc_14, kc_16, kc_17, kc_18, kc_19, kc_20, kc_21, kc_22, kc_24, kc_28, kc_30, kc_32, kc_37, kc_40, kc_41, kc_42, kc_43, kc_45, kc_48, kc_56, kc_57, kc_59, kc_60, kc_61, kc_64, kc_73, kc_78, kc_91, kc_95, kc_96, kc_97, kc_98, kc_99, kc_100, kc_112, kc_122, kc_125, kc_126, kc_150, kc_162, kc_163, kc_168, kc_186, kc_190, kc_200, kc_250, kc_255, kc_355, kc_356, kc_404, kc_405, kc_429, kc_573, kc_999, kc_1000, kc_1002, kc_1100, kc_1891, kc_2200, kc_4719, kc_4869, kc_4881, kc_5148, kc_9999, kn_9999, kc_10000, kc_12345, kc_19741, kc_25433, kc_65536, kc_320403, kc_628412, kc_629093, kc_660401, kc_679843, kc_918640, kc_979410, kc_1178088, kc_6232410, kc_24644941, kc_36238189, kc_38270444, kc_392531318, kc_425693491, kc_1103515245, kc_1342154595, kc_2147483648, kc_42328242873, kc_891704255789, kc_1722105685577, kc_1858726030364, ct_0, ct_1, ct_2, ct_3, ct_4, ct_5, cf_0, cf_1, cf_2, cf_3, cf_4, cf_5, w_ty6, w_ty7, m_sv, m_z0, m_hd, m_g0, m_gs, m_s0, m_ss, m_ap, m_an, forall_const, true_and, and_true, ne_eq, not_true_eq_false, not_false_eq_true, false_implies, true_implies, implies_true, eq_self, reduceCtorEq, Nat.reduceDiv, Nat.reduceMod, Int.reduceToNat, or_true, true_or, or_false, false_or, or_self, m_it, m_if, m_c1, m_01, m_02, m_03, m_04, m_10, m_12, m_13, m_14, m_20, m_21, m_23, m_24, m_30, m_31, m_32, m_34, m_40, m_41, m_42, m_43]
  obtain ⟨v1_w, h2, a1_w, a2, a3, a4, a5, -⟩ := use1 c225 rp_225 rr_225 q1_w il_this
  have a6 := fq hfr 194 a1_w (by decide +kernel) rfl
  refine ⟨[v1_w], h2, a1_w, fun hs => ?_, fun hs => ?_⟩
  · simp only [m_hd] at hs
    have hsl : IV P (1, 0, 11) s := ⟨s0, by omega, ⟨by omega, by omega⟩⟩
    obtain ⟨h3, b1, b2, b3⟩ := use0 (av := [182, 429 * (j : Int), s]) c254 rp_254 rr_254 a2 ⟨rfl, hb_w, hsl, trivial⟩
    have b6 := fq hfr 194 b1 (by decide +kernel) rfl
    refine ⟨[], h3, b1, ?_⟩
    refine w_lp (fun en h' => ∃ t : Int, en = [182, 429 * (j : Int), R, s, t] ∧ 0 ≤ t ∧ t ≤ 4 ∧ QK P (r_T 0) J h' ∧ KR (r_T 0) h h' ∧ h' 194 (429 * j + 162) = R) (fun en _ => (4 - en.getD 4 0).toNat) ⟨0, rfl, by omega, by omega, b2, (q2_w.tr a3).tr b3, by rw [b6, a6]; exact q3_w⟩ ?_
    rintro en h4 ⟨t, rfl, t0_w, t1_w, q4_w, q5_w, q6_w⟩
    refine ⟨?_, ?_⟩
    · show (4 - t).toNat < K
      omega
    simp only [wf_4, wf_40, wf_5, wf_50, wf_6, wl_1, wt_1, wu_1, wa_1, wl_4, wt_4, wu_4, wa_4, wl_5, wt_5, wu_5, wa_5, wl_6, wt_6, wu_6, wa_6, wl_9, wt_9, wu_9, wa_9, wl_10, wt_10, wu_10, wa_10, wl_11, wt_11, wu_11, wa_11, wl_13, wt_13, wu_13, wa_13, wl_14, wt_14, wu_14, wa_14, wl_15, wt_15, wu_15, wa_15, wl_16, wt_16, wu_16, wa_16, wl_17, wt_17, wu_17, wa_17, wl_20, wt_20, wu_20, wa_20, wl_21, wt_21, wu_21, wa_21, wl_22, wt_22, wu_22, wa_22, wl_23, wt_23, wu_23, wa_23, wl_24, wt_24, wu_24, wa_24, wl_26, wt_26, wu_26, wa_26, wl_27, wt_27, wu_27, wa_27, wl_28, wt_28, wu_28, wa_28, we_1, we_3, we_10, we_14, we_15, we_16, we_17, we_18, we_20, we_21, we_22, we_24, we_25, we_26, we_27, we_28, we_30, we_31, we_32, wc_20, wc_21, wc_22, wc_24, wc_25, wc_26, wc_27, wc_3, wc_4, wc_7, wc_28, wc_32, ws_1, ws_2, ws_3, ws_4, ws_9, ws_10, ws_11, ws_14, ws_15, ws_16, ws_27, ws_17, ws_20, ws_28, kc_0, kc_1, kn_1, kc_2, kn_2, kc_3, kc_4, kc_5, kc_6, kc_7, kc_8, kc_9, kc_10, kc_12, kc_13, kc_14, kc_16, kc_17, kc_18, kc_19, kc_20, kc_21, kc_22, kc_24, kc_28, kc_30, kc_32, kc_37, kc_40, kc_41, kc_42, kc_43, kc_45, kc_48, kc_56, kc_57, kc_59, kc_60, kc_61, kc_64, kc_73, kc_78, kc_91, kc_95, kc_96, kc_97, kc_98, kc_99, kc_100, kc_112, kc_122, kc_125, kc_126, kc_150, kc_162, kc_163, kc_168, kc_186, kc_190, kc_200, kc_250, kc_255, kc_355, kc_356, kc_404, kc_405, kc_429, kc_573, kc_999, kc_1000, kc_1002, kc_1100, kc_1891, kc_2200, kc_4719, kc_4869, kc_4881, kc_5148, kc_9999, kn_9999, kc_10000, kc_12345, kc_19741, kc_25433, kc_65536, kc_320403, kc_628412, kc_629093, kc_660401, kc_679843, kc_918640, kc_979410, kc_1178088, kc_6232410, kc_24644941, kc_36238189, kc_38270444, kc_392531318, kc_425693491, kc_1103515245, kc_1342154595, kc_2147483648, kc_42328242873, kc_891704255789, kc_1722105685577, kc_1858726030364, ct_0, ct_1, ct_2, ct_3, ct_4, ct_5, cf_0, cf_1, cf_2, cf_3, cf_4, cf_5, w_ty6, w_ty7, m_sv, m_z0, m_hd, m_g0, m_gs, m_s0, m_ss, m_ap, m_an, forall_const, true_and, and_true, ne_eq, not_true_eq_false, not_false_eq_true, false_implies, true_implies, implies_true, eq_self, reduceCtorEq, Nat.reduceDiv, Nat.reduceMod, Int.reduceToNat, or_true, true_or, or_false, false_or, or_self, m_it, m_if, m_c1, m_01, m_02, m_03, m_04, m_10, m_12, m_13, m_14, m_20, m_21, m_23, m_24, m_30, m_31, m_32, m_34, m_40, m_41, m_42, m_43]
    obtain ⟨v2, h5, d1_w, d2_w, d3_w, d4_w, d5, -⟩ := use1 c227 rp_227 rr_227 q4_w il_this
    have d6_w := fq hfr 194 d1_w (by decide +kernel) rfl
    refine ⟨[v2], h5, d1_w, fun ht => ?_, fun ht => ?_⟩
    · simp only [m_hd] at ht
      obtain ⟨v3, h6, x1_w, x2_w, x3, x4_w⟩ := use1 (av := [182, 429 * (j : Int), t, s]) c257 rp_257 rr_257 d2_w ⟨rfl, hb_w, IV.top ⟨by omega, by omega⟩, hsl, trivial⟩
      have x6 := fq hfr 194 x1_w (by decide +kernel) rfl
      have ei : j_iop 0 (j_iop 0 (j_iop 0 (j_iop 0 (429 * (j : Int)) 163) (j_iop 2 48 R)) (j_iop 2 12 t)) s = 429 * (j : Int) + 163 + 48 * R + 12 * t + s := by
        simp (disch := omega) only [jmul, jadd]
      rw [ei, jinc (by omega) (by omega)]
      have ej : (429 * (j : Int) + 163 + 48 * R + 12 * t + s).toNat = 429 * j + (163 + 48 * R + 12 * t + s).toNat := by omega
      rw [ej]
      obtain ⟨z1, z2⟩ := st_QK x2_w hJ (j := j) (i := (163 + 48 * R + 12 * t + s).toNat) (v := v3) hj (by omega) (st_fit_ok (lo_w := 163) (hi_w := 355) (t := iT) (by decide +kernel) (by omega) (by omega) x4_w) x4_w.2.2
      refine ⟨[v3], h6, x1_w, ⟨by omega, by omega⟩, ⟨t + 1, rfl, by omega, by omega, z1, ((q5_w.tr d3_w).tr x3).tr z2, ?_⟩, ?_⟩
      · rw [up_ne (fun z => by have := z.2; omega), x6, d6_w]
        exact q6_w
      · show (4 - (t + 1)).toNat < (4 - t).toNat
        omega
    · rw [jinc (by omega) (by omega)]
      refine ⟨⟨s + 1, t, rfl, by omega, by omega, d2_w, q5_w.tr d3_w, by rw [d6_w]; exact q6_w⟩, ?_⟩
      show (12 - (s + 1)).toNat < (12 - s).toNat
      omega
  · have e3_w : j_iop 0 (429 * (j : Int)) 355 = 429 * (j : Int) + 355 := jadd (by omega) (by omega)
    have e4_w : (429 * (j : Int) + 355).toNat = 429 * j + 355 := by omega
    rw [e3_w, e4_w]
    obtain ⟨z1, z2⟩ := st_QK a2 hJ (j := j) (i := 355) (v := 0) hj (by decide) (st_fit_ok (lo_w := 355) (hi_w := 356) (t := (1, 0, 16)) (by decide +kernel) (by decide) (by decide) ⟨by decide, by decide, in_0⟩) in_0
    refine ⟨⟨by omega, by omega⟩, ?_⟩
    refine w_lp (fun en h' => ∃ m z : Int, en = [182, 429 * (j : Int), R, m, z] ∧ 0 ≤ m ∧ m ≤ 6 ∧ QK P (r_T 0) J h' ∧ KR (r_T 0) h h' ∧ h' 194 (429 * j + 162) = R ∧ DA j h') (fun en _ => (6 - en.getD 3 0).toNat) ⟨0, z, rfl, by omega, by omega, z1, (q2_w.tr a3).tr z2, ?_, ?_⟩ ?_
    · rw [up_ne (fun z => by have := z.2; omega), a6]
      exact q3_w
    · intro k k' _ hk
      rw [up_eq] at hk
      omega
    rintro en h3 ⟨m, z, rfl, m0_w, m1_w, q4_w, q5_w, q6_w, q7_w⟩
    refine ⟨?_, ?_⟩
    · show (6 - m).toNat < K
      omega
    simp only [wf_4, wf_40, wf_5, wf_50, wf_6, wl_1, wt_1, wu_1, wa_1, wl_4, wt_4, wu_4, wa_4, wl_5, wt_5, wu_5, wa_5, wl_6, wt_6, wu_6, wa_6, wl_9, wt_9, wu_9, wa_9, wl_10, wt_10, wu_10, wa_10, wl_11, wt_11, wu_11, wa_11, wl_13, wt_13, wu_13, wa_13, wl_14, wt_14, wu_14, wa_14, wl_15, wt_15, wu_15, wa_15, wl_16, wt_16, wu_16, wa_16, wl_17, wt_17, wu_17, wa_17, wl_20, wt_20, wu_20, wa_20, wl_21, wt_21, wu_21, wa_21, wl_22, wt_22, wu_22, wa_22, wl_23, wt_23, wu_23, wa_23, wl_24, wt_24, wu_24, wa_24, wl_26, wt_26, wu_26, wa_26, wl_27, wt_27, wu_27, wa_27, wl_28, wt_28, wu_28, wa_28, we_1, we_3, we_10, we_14, we_15, we_16, we_17, we_18, we_20, we_21, we_22, we_24, we_25, we_26, we_27, we_28, we_30, we_31, we_32, wc_20, wc_21, wc_22, wc_24, wc_25, wc_26, wc_27, wc_3, wc_4, wc_7, wc_28, wc_32, ws_1, ws_2, ws_3, ws_4, ws_9, ws_10, ws_11, ws_14, ws_15, ws_16, ws_27, ws_17, ws_20, ws_28, kc_0, kc_1, kn_1, kc_2, kn_2, kc_3, kc_4, kc_5, kc_6, kc_7, kc_8, kc_9, kc_10, kc_12, kc_13, kc_14, kc_16, kc_17, kc_18, kc_19, kc_20, kc_21, kc_22, kc_24, kc_28, kc_30, kc_32, kc_37, kc_40, kc_41, kc_42, kc_43, kc_45, kc_48, kc_56, kc_57, kc_59, kc_60, kc_61, kc_64, kc_73, kc_78, kc_91, kc_95, kc_96, kc_97, kc_98, kc_99, kc_100, kc_112, kc_122, kc_125, kc_126, kc_150, kc_162, kc_163, kc_168, kc_186, kc_190, kc_200, kc_250, kc_255, kc_355, kc_356, kc_404, kc_405, kc_429, kc_573, kc_999, kc_1000, kc_1002, kc_1100, kc_1891, kc_2200, kc_4719, kc_4869, kc_4881, kc_5148, kc_9999, kn_9999, kc_10000, kc_12345, kc_19741, kc_25433, kc_65536, kc_320403, kc_628412, kc_629093, kc_660401, kc_679843, kc_918640, kc_979410, kc_1178088, kc_6232410, kc_24644941, kc_36238189, kc_38270444, kc_392531318, kc_425693491, kc_1103515245, kc_1342154595, kc_2147483648, kc_42328242873, kc_891704255789, kc_1722105685577, kc_1858726030364, ct_0, ct_1, ct_2, ct_3, ct_4, ct_5, cf_0, cf_1, cf_2, cf_3, cf_4, cf_5, w_ty6, w_ty7, m_sv, m_z0, m_hd, m_g0, m_gs, m_s0, m_ss, m_ap, m_an, forall_const, true_and, and_true, ne_eq, not_true_eq_false, not_false_eq_true, false_implies, true_implies, implies_true, eq_self, reduceCtorEq, Nat.reduceDiv, Nat.reduceMod, Int.reduceToNat, or_true, true_or, or_false, false_or, or_self, m_it, m_if, m_c1, m_01, m_02, m_03, m_04, m_10, m_12, m_13, m_14, m_20, m_21, m_23, m_24, m_30, m_31, m_32, m_34, m_40, m_41, m_42, m_43]
    obtain ⟨v2, h4, b1, b2, b3, b4, b5, b5'⟩ := use1 c228 rp_228 rr_228 q4_w il_this
    have b6 := fq hfr 194 b1 (by decide +kernel) rfl
    refine ⟨[v2], h4, b1, fun hm_w => ?_, fun hm_w => ?_⟩
    · simp only [m_hd] at hm_w
      have hmt : IV P (5, 0, 0) m := ⟨m0_w, by omega, by have := q_nM b2; omega⟩
      refine w_lp (fun en h' => ∃ s : Int, en = [182, 429 * (j : Int), R, m, s] ∧ 0 ≤ s ∧ s ≤ 12 ∧ QK P (r_T 0) J h' ∧ KR (r_T 0) h h' ∧ h' 194 (429 * j + 162) = R ∧ DA j h') (fun en _ => (12 - en.getD 4 0).toNat) ⟨0, rfl, by omega, by omega, b2, q5_w.tr b3, by rw [b6]; exact q6_w, q7_w.of b6⟩ ?_
      rintro en h5 ⟨s, rfl, s0, s1_w, q8_w, q9_w, q10_w, q11_w⟩
      refine ⟨?_, ?_⟩
      · show (12 - s).toNat < K
        omega
      simp only [wf_4, wf_40, wf_5, wf_50, wf_6, wl_1, wt_1, wu_1, wa_1, wl_4, wt_4, wu_4, wa_4, wl_5, wt_5, wu_5, wa_5, wl_6, wt_6, wu_6, wa_6, wl_9, wt_9, wu_9, wa_9, wl_10, wt_10, wu_10, wa_10, wl_11, wt_11, wu_11, wa_11, wl_13, wt_13, wu_13, wa_13, wl_14, wt_14, wu_14, wa_14, wl_15, wt_15, wu_15, wa_15, wl_16, wt_16, wu_16, wa_16, wl_17, wt_17, wu_17, wa_17, wl_20, wt_20, wu_20, wa_20, wl_21, wt_21, wu_21, wa_21, wl_22, wt_22, wu_22, wa_22, wl_23, wt_23, wu_23, wa_23, wl_24, wt_24, wu_24, wa_24, wl_26, wt_26, wu_26, wa_26, wl_27, wt_27, wu_27, wa_27, wl_28, wt_28, wu_28, wa_28, we_1, we_3, we_10, we_14, we_15, we_16, we_17, we_18, we_20, we_21, we_22, we_24, we_25, we_26, we_27, we_28, we_30, we_31, we_32, wc_20, wc_21, wc_22, wc_24, wc_25, wc_26, wc_27, wc_3, wc_4, wc_7, wc_28, wc_32, ws_1, ws_2, ws_3, ws_4, ws_9, ws_10, ws_11, ws_14, ws_15, ws_16, ws_27, ws_17, ws_20, ws_28, kc_0, kc_1, kn_1, kc_2, kn_2, kc_3, kc_4, kc_5, kc_6, kc_7, kc_8, kc_9, kc_10, kc_12, kc_13, kc_14, kc_16, kc_17, kc_18, kc_19, kc_20, kc_21, kc_22, kc_24, kc_28, kc_30, kc_32, kc_37, kc_40, kc_41, kc_42, kc_43, kc_45, kc_48, kc_56, kc_57, kc_59, kc_60, kc_61, kc_64, kc_73, kc_78, kc_91, kc_95, kc_96, kc_97, kc_98, kc_99, kc_100, kc_112, kc_122, kc_125, kc_126, kc_150, kc_162, kc_163, kc_168, kc_186, kc_190, kc_200, kc_250, kc_255, kc_355, kc_356, kc_404, kc_405, kc_429, kc_573, kc_999, kc_1000, kc_1002, kc_1100, kc_1891, kc_2200, kc_4719, kc_4869, kc_4881, kc_5148, kc_9999, kn_9999, kc_10000, kc_12345, kc_19741, kc_25433, kc_65536, kc_320403, kc_628412, kc_629093, kc_660401, kc_679843, kc_918640, kc_979410, kc_1178088, kc_6232410, kc_24644941, kc_36238189, kc_38270444, kc_392531318, kc_425693491, kc_1103515245, kc_1342154595, kc_2147483648, kc_42328242873, kc_891704255789, kc_1722105685577, kc_1858726030364, ct_0, ct_1, ct_2, ct_3, ct_4, ct_5, cf_0, cf_1, cf_2, cf_3, cf_4, cf_5, w_ty6, w_ty7, m_sv, m_z0, m_hd, m_g0, m_gs, m_s0, m_ss, m_ap, m_an, forall_const, true_and, and_true, ne_eq, not_true_eq_false, not_false_eq_true, false_implies, true_implies, implies_true, eq_self, reduceCtorEq, Nat.reduceDiv, Nat.reduceMod, Int.reduceToNat, or_true, true_or, or_false, false_or, or_self, m_it, m_if, m_c1, m_01, m_02, m_03, m_04, m_10, m_12, m_13, m_14, m_20, m_21, m_23, m_24, m_30, m_31, m_32, m_34, m_40, m_41, m_42, m_43]
      obtain ⟨v3, h6, d1_w, d2_w, d3_w, d4_w, d5, -⟩ := use1 c225 rp_225 rr_225 q8_w il_this
      have d6_w := fq hfr 194 d1_w (by decide +kernel) rfl
      refine ⟨[v3], h6, d1_w, fun hs => ?_, fun hs => ?_⟩
      · simp only [m_hd] at hs
        have hsl : IV P (1, 0, 11) s := ⟨s0, by omega, ⟨by omega, by omega⟩⟩
        obtain ⟨h7, x1_w, x2_w, x3⟩ := use0 (av := [182, 429 * (j : Int), s]) c254 rp_254 rr_254 d2_w ⟨rfl, hb_w, hsl, trivial⟩
        have x6 := fq hfr 194 x1_w (by decide +kernel) rfl
        obtain ⟨v4_w, h8, y1, y2, y3, y4⟩ := use1 (av := [182, 429 * (j : Int), m, s]) c256 rp_256 rr_256 x2_w ⟨rfl, hb_w, hmt, hsl, trivial⟩
        have y6 := fq hfr 194 y1 (by decide +kernel) rfl
        obtain ⟨v5, h9, w1_w, w2_w, w3_w, w4_w⟩ := use1 (av := [182, m]) c230 rp_230 rr_230 y2 ⟨rfl, hmt, trivial⟩
        have w6_w := fq hfr 194 w1_w (by decide +kernel) rfl
        have e9_w : h9 194 = h5 194 := by rw [w6_w, y6, x6, d6_w]
        obtain ⟨ha_w, u1, u2_w, u3, u4_w, u5⟩ := c269 h9 j v4_w v5 (h9 197 m.toNat) w2_w hj (q11_w.of e9_w) y4.1 y4.2.1 w4_w.1 (by have := w4_w.2; omega) (ht_int w2_w.1 (by decide) _)
        rw [jinc (by omega) (by omega)]
        refine ⟨[], h7, x1_w, [v4_w], h8, y1, [v5], h9, w1_w, ⟨by omega, by have := hmt.2; omega⟩, [], ha_w, u1, ⟨s + 1, rfl, by omega, by omega, u2_w, ((((q9_w.tr d3_w).tr x3).tr y3).tr w3_w).tr u3, ?_, u4_w⟩, ?_⟩
        · rw [u5 _ (Or.inl (by omega)), e9_w]
          exact q10_w
        · show (12 - (s + 1)).toNat < (12 - s).toNat
          omega
      · rw [jinc (by omega) (by omega)]
        refine ⟨⟨m + 1, s, rfl, by omega, by omega, d2_w, q9_w.tr d3_w, by rw [d6_w]; exact q10_w, q11_w.of d6_w⟩, ?_⟩
        show (6 - (m + 1)).toNat < (6 - m).toNat
        omega
    · rw [e1_w, e2_w]
      rw [show h4 194 (429 * j + 162) = R from by rw [b6]; exact q6_w, jadd (by omega) (by omega)]
      obtain ⟨z3, z4⟩ := st_QK b2 hJ (j := j) (i := 162) (v := R + 1) hj (by decide) (st_fit_ok (lo_w := 162) (hi_w := 163) (t := (1, 0, 4)) (by decide +kernel) (by decide) (by decide) ⟨by omega, by omega, ⟨by omega, by omega⟩⟩) ⟨by omega, by omega⟩
      exact ⟨⟨by omega, by omega⟩, z3, (q5_w.tr b3).tr z4⟩
end HA9
end
section
/-! ===== the reference's methods by hand_w: run, undo, see, draw_w, mark_w ===== -/
def S242 (P : Int × Int) (J : XH → Prop) (g : Nat × Nat) (F : XP) : Prop := ∀ (h : XH), QK P (r_T 0) J h → ∃ h', F 242 [182] ((a_g3, g), h) = some (1, [], ((a_g3, g), h')) ∧ QK P (r_T 0) J h' ∧ KR (r_T 0) h h' ∧ (∀ p, p < 858 → h' 194 p = h 194 p)
def S224 (P : Int × Int) (J : XH → Prop) (g : Nat × Nat) (F : XP) : Prop := ∀ (h : XH) (i j : Nat) (m : Int), QK P (r_T 0) J h → i < 12 → j < 12 → 0 ≤ m → m ≤ 429 → ∃ h', F 224 [182, 429 * (i : Int), 429 * (j : Int), m] ((a_g3, g), h) = some (1, [], ((a_g3, g), h')) ∧ QK P (r_T 0) J h' ∧ KR (r_T 0) h h' ∧ But 194 h h'
def S309 (P : Int × Int) (J : XH → Prop) (g : Nat × Nat) (F : XP) : Prop := ∀ (h : XH) (m : Int), QK P (r_T 0) J h → 1 ≤ m → m ≤ 200 → ∃ v h', F 309 [182, m] ((a_g3, g), h) = some (1, [v], ((a_g3, g), h')) ∧ QK P (r_T 0) J h' ∧ KR (r_T 0) h h' ∧ 0 ≤ v ∧ v < m
section HAA
variable {P : Int × Int} {g : Nat × Nat} {xs : Nat → Int} {L K n : Nat} {ck : Nat → List Nat} {cW : Nat → Nat → Int} {h : XH} {J : XH → Prop}
theorem s_242 (hJ : JS (r_T 0) J) (hK_w : 4294967300 ≤ K) : S242 P J g (evF xs L ck K cW g_M (n + 2)) := fun h hQ => by
  obtain ⟨r, h', e1_w, e2_w, e3_w, e4_w, rfl⟩ := m_242 (xs := xs) (L := L) (ck := ck) (cW := cW) (n := n) (g := g) hJ hK_w hQ
  exact ⟨h', e1_w, e2_w, e3_w, e4_w⟩
theorem s_224 (hJ : JS (r_T 0) J) (hK_w : 4294967300 ≤ K) : S224 P J g (evF xs L ck K cW g_M (n + 1)) := fun h i j m hQ hi_w hj m0_w m1_w => by
  obtain ⟨r, h', e1_w, e2_w, e3_w, e4_w, -, rfl⟩ := m_224 (xs := xs) (L := L) (ck := ck) (cW := cW) (n := n) (g := g) hJ hK_w hQ hi_w hj m0_w m1_w
  exact ⟨h', e1_w, e2_w, e3_w, e4_w⟩
theorem th0 (hQ : QK P (r_T 0) J h) (hJ : JS (r_T 0) J) : QK P (r_T 0) J (j_up h 182 0 0) ∧ KR (r_T 0) h (j_up h 182 0 0) := fd_QK hQ hJ (k := 0) (v := 0) (Or.inl rfl) ⟨by decide, by decide, in_0⟩
theorem in_1 : InI 1 := ⟨by decide, by decide⟩
theorem in_m1 : InI (-1) := ⟨by decide, by decide⟩
theorem t_271 (hJ : JS (r_T 0) J) (c242 : S242 P J g (evF xs L ck K cW g_M n)) (c270 : S270 P J g (evF xs L ck K cW g_M n)) : TotR P (r_T 0) J g (evF xs L ck K cW g_M (n + 1)) 271 := by
  refine tot_hand gm_271 rp_271 rr_271 ru_271 fun av h hQ hv => ?_
  obtain ⟨x, rfl, hx⟩ := il1 hv
  obtain rfl : x = 182 := hx
  show wS _ _ K bb_271 [182] h _
  generalize evF xs L ck K cW g_M n = F at c242 c270 ⊢
  unfold bb_271
  simp only [wf_4, wf_40, wf_5, wf_50, wf_6, wl_1, wt_1, wu_1, wa_1, wl_4, wt_4, wu_4, wa_4, wl_5, wt_5, wu_5, wa_5, wl_6, wt_6, wu_6, wa_6, wl_9, wt_9, wu_9, wa_9, wl_10, wt_10, wu_10, wa_10, wl_11, wt_11, wu_11, wa_11, wl_13, wt_13, wu_13, wa_13, wl_14, wt_14, wu_14, wa_14, wl_15, wt_15, wu_15, wa_15, wl_16, wt_16, wu_16, wa_16, wl_17, wt_17, wu_17, wa_17, wl_20, wt_20, wu_20, wa_20, wl_21, wt_21, wu_21, wa_21, wl_22, wt_22, wu_22, wa_22, wl_23, wt_23, wu_23, wa_23, wl_24, wt_24, wu_24, wa_24, wl_26, wt_26, wu_26, wa_26, wl_27, wt_27, wu_27, wa_27, wl_28, wt_28, wu_28, wa_28, we_1, we_3, we_10, we_14, we_15, we_16, we_17, we_18, we_20, we_21, we_22, we_24, we_25, we_26, we_27, we_28, we_30, we_31, we_32, wc_20, wc_21, wc_22, wc_24, wc_25, wc_26, wc_27, wc_3, wc_4, wc_7, wc_28, wc_32, ws_1, ws_2, ws_3, ws_4, ws_9, ws_10, ws_11, ws_14, ws_15, ws_16, ws_27, ws_17, ws_20, ws_28, kc_0, kc_1, kn_1, kc_2, kn_2, kc_3, kc_4, kc_5, kc_6, kc_7, kc_8, kc_9, kc_10, kc_12, kc_13, kc_14, kc_16, kc_17, kc_18, kc_19, kc_20, kc_21, kc_22, kc_24, kc_28, kc_30, kc_32, kc_37, kc_40, kc_41, kc_42, kc_43, kc_45, kc_48, kc_56, kc_57, kc_59, kc_60, kc_61, kc_64, kc_73, kc_78, kc_91, kc_95, kc_96, kc_97, kc_98, kc_99, kc_100, kc_112, kc_122, kc_125, kc_126, kc_150, kc_162, kc_163, kc_168, kc_186, kc_190, kc_200, kc_250, kc_255, kc_355, kc_356, kc_404, kc_405, kc_429, kc_573, kc_999, kc_1000, kc_1002, kc_1100, kc_1891, kc_2200, kc_4719, kc_4869, kc_4881, kc_5148, kc_9999, kn_9999, kc_10000, kc_12345, kc_19741, kc_25433, kc_65536, kc_320403, kc_628412, kc_629093, kc_660401, kc_679843, kc_918640, kc_979410, kc_1178088, kc_6232410, kc_24644941, kc_36238189, kc_38270444, kc_392531318, kc_425693491, kc_1103515245, kc_1342154595, kc_2147483648, kc_42328242873, kc_891704255789, kc_1722105685577, kc_1858726030364, ct_0, ct_1, ct_2, ct_3, ct_4, ct_5, cf_0, cf_1, cf_2, cf_3, cf_4, cf_5, w_ty6, w_ty7, m_sv, m_z0, m_hd, m_g0, m_gs, m_s0, m_ss, m_ap, m_an, forall_const, true_and, and_true, ne_eq, not_true_eq_false, not_false_eq_true, false_implies, true_implies, implies_true, eq_self, reduceCtorEq, Nat.reduceDiv, Nat.reduceMod, Int.reduceToNat, or_true, true_or, or_false, false_or, or_self, m_it, m_if, m_c1, m_01, m_02, m_03, m_04, m_10, m_12, m_13, m_14, m_20, m_21, m_23, m_24, m_30, m_31, m_32, m_34, m_40, m_41, m_42, m_43]
  obtain ⟨z1, z2⟩ := th0 hQ hJ
  have b162 : (0 : Int) ≤ 162 ∧ (162 : Int) < 5148 := by decide
  refine ⟨b162, fun k => ⟨z1, z2, IV.top in_m1, trivial⟩, fun k => ?_⟩
  obtain ⟨h1, a1_w, a2, a3, a4⟩ := c242 _ z1
  have k4 : IV P (1, 0, 4) (j_up h 182 0 0 194 162) := s_cell (j := 0) (i := 162) z1 (r := 3) (x := (162, 163, (1, 0, 4))) rfl (by decide) (by decide) (by decide)
  have k5 : h1 194 (429 * 0 + 162) < 4 := by
    rw [show 429 * 0 + 162 = 162 from rfl, a4 162 (by decide)]
    have := k4.2.1
    omega
  obtain ⟨h2, b1, b2, b3⟩ := c270 h1 0 a2 (by decide) k5
  exact ⟨[], h1, a1_w, [], h2, b1, b162, b2, (z2.tr a3).tr b3, IV.top (iop_in _ _ _), trivial⟩
theorem t_272 (hJ : JS (r_T 0) J) (c224 : S224 P J g (evF xs L ck K cW g_M n)) : TotR P (r_T 0) J g (evF xs L ck K cW g_M (n + 1)) 272 := by
  refine tot_hand gm_272 rp_272 rr_272 ru_272 fun av h hQ hv => ?_
  obtain ⟨x, rfl, hx⟩ := il1 hv
  obtain rfl : x = 182 := hx
  show wS _ _ K bb_272 [182] h _
  generalize evF xs L ck K cW g_M n = F at c224 ⊢
  unfold bb_272
  simp only [wf_4, wf_40, wf_5, wf_50, wf_6, wl_1, wt_1, wu_1, wa_1, wl_4, wt_4, wu_4, wa_4, wl_5, wt_5, wu_5, wa_5, wl_6, wt_6, wu_6, wa_6, wl_9, wt_9, wu_9, wa_9, wl_10, wt_10, wu_10, wa_10, wl_11, wt_11, wu_11, wa_11, wl_13, wt_13, wu_13, wa_13, wl_14, wt_14, wu_14, wa_14, wl_15, wt_15, wu_15, wa_15, wl_16, wt_16, wu_16, wa_16, wl_17, wt_17, wu_17, wa_17, wl_20, wt_20, wu_20, wa_20, wl_21, wt_21, wu_21, wa_21, wl_22, wt_22, wu_22, wa_22, wl_23, wt_23, wu_23, wa_23, wl_24, wt_24, wu_24, wa_24, wl_26, wt_26, wu_26, wa_26, wl_27, wt_27, wu_27, wa_27, wl_28, wt_28, wu_28, wa_28, we_1, we_3, we_10, we_14, we_15, we_16, we_17, we_18, we_20, we_21, we_22, we_24, we_25, we_26, we_27, we_28, we_30, we_31, we_32, wc_20, wc_21, wc_22, wc_24, wc_25, wc_26, wc_27, wc_3, wc_4, wc_7, wc_28, wc_32, ws_1, ws_2, ws_3, ws_4, ws_9, ws_10, ws_11, ws_14, ws_15, ws_16, ws_27, ws_17, ws_20, ws_28, kc_0, kc_1, kn_1, kc_2, kn_2, kc_3, kc_4, kc_5, kc_6, kc_7, kc_8, kc_9, kc_10, kc_12, kc_13, kc_14, kc_16, kc_17, kc_18, kc_19, kc_20, kc_21, kc_22, kc_24, kc_28, kc_30, kc_32, kc_37, kc_40, kc_41, kc_42, kc_43, kc_45, kc_48, kc_56, kc_57, kc_59, kc_60, kc_61, kc_64, kc_73, kc_78, kc_91, kc_95, kc_96, kc_97, kc_98, kc_99, kc_100, kc_112, kc_122, kc_125, kc_126, kc_150, kc_162, kc_163, kc_168, kc_186, kc_190, kc_200, kc_250, kc_255, kc_355, kc_356, kc_404, kc_405, kc_429, kc_573, kc_999, kc_1000, kc_1002, kc_1100, kc_1891, kc_2200, kc_4719, kc_4869, kc_4881, kc_5148, kc_9999, kn_9999, kc_10000, kc_12345, kc_19741, kc_25433, kc_65536, kc_320403, kc_628412, kc_629093, kc_660401, kc_679843, kc_918640, kc_979410, kc_1178088, kc_6232410, kc_24644941, kc_36238189, kc_38270444, kc_392531318, kc_425693491, kc_1103515245, kc_1342154595, kc_2147483648, kc_42328242873, kc_891704255789, kc_1722105685577, kc_1858726030364, ct_0, ct_1, ct_2, ct_3, ct_4, ct_5, cf_0, cf_1, cf_2, cf_3, cf_4, cf_5, w_ty6, w_ty7, m_sv, m_z0, m_hd, m_g0, m_gs, m_s0, m_ss, m_ap, m_an, forall_const, true_and, and_true, ne_eq, not_true_eq_false, not_false_eq_true, false_implies, true_implies, implies_true, eq_self, reduceCtorEq, Nat.reduceDiv, Nat.reduceMod, Int.reduceToNat, or_true, true_or, or_false, false_or, or_self, m_it, m_if, m_c1, m_01, m_02, m_03, m_04, m_10, m_12, m_13, m_14, m_20, m_21, m_23, m_24, m_30, m_31, m_32, m_34, m_40, m_41, m_42, m_43]
  obtain ⟨z1, z2⟩ := th0 hQ hJ
  have u := q_undos z1
  generalize j_up h 182 0 0 = h1 at z1 z2 u ⊢
  refine ⟨fun k => ⟨z1, z2, ⟨by decide, by decide, in_0⟩, trivial⟩, fun k => ?_⟩
  rw [up_eq, jsub (by omega) (by omega)]
  obtain ⟨z3, z4⟩ := fd_QK z1 hJ (k := 18) (v := h1 182 18 - 1) (Or.inl rfl) ⟨by omega, by omega, by omega, by omega⟩
  obtain ⟨h2, b1, b2, b3, -⟩ := c224 _ (3 + (h1 182 18 - 1).toNat) 0 404 z3 (by omega) (by decide) (by decide) (by decide)
  rw [jadd (by omega) (by omega), jmul (by omega) (by omega)]
  rw [show 429 * (3 + (h1 182 18 - 1)) = 429 * ((3 + (h1 182 18 - 1).toNat : Nat) : Int) by omega]
  exact ⟨[], h2, b1, b2, (z2.tr z4).tr b3, ⟨by decide, by decide, in_1⟩, trivial⟩
theorem s_309 (hJ : JS (r_T 0) J) : S309 P J g (evF xs L ck K cW g_M (n + 1)) := fun h m hQ m0_w m1_w => by
  suffices hs : ∃ r h', evF xs L ck K cW g_M (n + 1) 309 [182, m] ((a_g3, g), h) = some (1, r, ((a_g3, g), h')) ∧ QK P (r_T 0) J h' ∧ KR (r_T 0) h h' ∧ ∃ v, r = [v] ∧ 0 ≤ v ∧ v < m by
    obtain ⟨r, h', e1_w, e2_w, e3_w, v, rfl, e4_w⟩ := hs
    exact ⟨v, h', e1_w, e2_w, e3_w, e4_w⟩
  refine tr_of gm_309 (B := fun r h' => QK P (r_T 0) J h' ∧ KR (r_T 0) h h' ∧ ∃ v, r = [v] ∧ 0 ≤ v ∧ v < m) ?_
  show wS _ _ K bb_309 [182, m] h _
  generalize evF xs L ck K cW g_M n = F
  unfold bb_309
  simp only [wf_4, wf_40, wf_5, wf_50, wf_6, wl_1, wt_1, wu_1, wa_1, wl_4, wt_4, wu_4, wa_4, wl_5, wt_5, wu_5, wa_5, wl_6, wt_6, wu_6, wa_6, wl_9, wt_9, wu_9, wa_9, wl_10, wt_10, wu_10, wa_10, wl_11, wt_11, wu_11, wa_11, wl_13, wt_13, wu_13, wa_13, wl_14, wt_14, wu_14, wa_14, wl_15, wt_15, wu_15, wa_15, wl_16, wt_16, wu_16, wa_16, wl_17, wt_17, wu_17, wa_17, wl_20, wt_20, wu_20, wa_20, wl_21, wt_21, wu_21, wa_21, wl_22, wt_22, wu_22, wa_22, wl_23, wt_23, wu_23, wa_23, wl_24, wt_24, wu_24, wa_24, wl_26, wt_26, wu_26, wa_26, wl_27, wt_27, wu_27, wa_27, wl_28, wt_28, wu_28, wa_28, we_1, we_3, we_10, we_14, we_15, we_16, we_17, we_18, we_20, we_21, we_22, we_24, we_25, we_26, we_27, we_28, we_30, we_31, we_32, wc_20, wc_21, wc_22, wc_24, wc_25, wc_26, wc_27, wc_3, wc_4, wc_7, wc_28, wc_32, ws_1, ws_2, ws_3, ws_4, ws_9, ws_10, ws_11, ws_14, ws_15, ws_16, ws_27, ws_17, ws_20, ws_28, kc_0, kc_1, kn_1, kc_2, kn_2, kc_3, kc_4, kc_5, kc_6, kc_7, kc_8, kc_9, kc_10, kc_12, kc_13, kc_14, kc_16, kc_17, kc_18, kc_19, kc_20, kc_21, kc_22, kc_24, kc_28, kc_30, kc_32, kc_37, kc_40, kc_41, kc_42, kc_43, kc_45, kc_48, kc_56, kc_57, kc_59, kc_60, kc_61, kc_64, kc_73, kc_78, kc_91, kc_95, kc_96, kc_97, kc_98, kc_99, kc_100, kc_112, kc_122, kc_125, kc_126, kc_150, kc_162, kc_163, kc_168, kc_186, kc_190, kc_200, kc_250, kc_255, kc_355, kc_356, kc_404, kc_405, kc_429, kc_573, kc_999, kc_1000, kc_1002, kc_1100, kc_1891, kc_2200, kc_4719, kc_4869, kc_4881, kc_5148, kc_9999, kn_9999, kc_10000, kc_12345, kc_19741, kc_25433, kc_65536, kc_320403, kc_628412, kc_629093, kc_660401, kc_679843, kc_918640, kc_979410, kc_1178088, kc_6232410, kc_24644941, kc_36238189, kc_38270444, kc_392531318, kc_425693491, kc_1103515245, kc_1342154595, kc_2147483648, kc_42328242873, kc_891704255789, kc_1722105685577, kc_1858726030364, ct_0, ct_1, ct_2, ct_3, ct_4, ct_5, cf_0, cf_1, cf_2, cf_3, cf_4, cf_5, w_ty6, w_ty7, m_sv, m_z0, m_hd, m_g0, m_gs, m_s0, m_ss, m_ap, m_an, forall_const, true_and, and_true, ne_eq, not_true_eq_false, not_false_eq_true, false_implies, true_implies, implies_true, eq_self, reduceCtorEq, Nat.reduceDiv, Nat.reduceMod, Int.reduceToNat, or_true, true_or, or_false, false_or, or_self, m_it, m_if, m_c1, m_01, m_02, m_03, m_04, m_10, m_12, m_13, m_14, m_20, m_21, m_23, m_24, m_30, m_31, m_32, m_34, m_40, m_41, m_42, m_43]
  rw [up_eq]
  obtain ⟨g0, g1, -⟩ : IV P (2, 0, 2147483647) (h 182 29) := hQ.2.1 29
  generalize h 182 29 = G at g0 g1 ⊢
  have e1_w : j_lop 0 (j_lop 2 G 1103515245) 12345 = G * 1103515245 + 12345 := by
    show j64 (j64 (G * 1103515245) + 12345) = _
    rw [j64_in (v := G * 1103515245) ⟨by omega, by omega⟩, j64_in ⟨by omega, by omega⟩]
  rw [e1_w]
  obtain ⟨k1_w, k2, k3, -⟩ := emod_bd (v := G * 1103515245 + 12345) (w := 2147483648) (by omega) (by decide)
  have e2_w : j_div 3 (G * 1103515245 + 12345) 2147483648 = (G * 1103515245 + 12345) % 2147483648 := k1_w
  rw [e2_w]
  generalize (G * 1103515245 + 12345) % 2147483648 = X at k2 k3 ⊢
  obtain ⟨z1, z2⟩ := fd_QK hQ hJ (k := 29) (v := X) (Or.inr rfl) ⟨k2, by omega, ⟨by omega, by omega⟩⟩
  refine ⟨by decide, by decide, by show ¬m = 0; omega, z1, z2, _, rfl, ?_⟩
  obtain ⟨d1_w, d2_w, d3_w⟩ := ediv_bd (v := X) (w := 65536) k2 (by decide)
  have e3_w : j_div 2 X 65536 = X / 65536 := by
    show j64 (X.tdiv 65536) = _
    rw [d1_w, j64_in ⟨by omega, by omega⟩]
  rw [e3_w]
  obtain ⟨m1', m2_w, m3_w, m4_w⟩ := emod_bd (v := X / 65536) (w := m) d2_w (by omega)
  have e4_w : j_un 3 (j_div 3 (X / 65536) (j_un 2 m)) = X / 65536 % m := by
    show j32 ((X / 65536).tmod m) = _
    rw [m1', j32_in ⟨by omega, by omega⟩]
  rw [e4_w]
  exact ⟨m2_w, m3_w⟩
theorem t_304 (hJ : JS (r_T 0) J) (c198 : TotW g (evF xs L ck K cW g_M n)) (c236 : TotR P (r_T 0) J g (evF xs L ck K cW g_M n) 236) : TotR P (r_T 0) J g (evF xs L ck K cW g_M (n + 1)) 304 := by
  refine tot_hand gm_304 rp_304 rr_304 ru_304 fun av h hQ hv => ?_
  obtain ⟨x, a, b, c, rfl, hx, ha_w, hb_w, hc_w⟩ := il4 hv
  obtain rfl : x = 182 := hx
  show wS _ _ K bb_304 [182, a, b, c, 0] h _
  generalize evF xs L ck K cW g_M n = F at c198 c236 ⊢
  unfold bb_304
  simp only [wf_4, wf_40, wf_5, wf_50, wf_6, wl_1, wt_1, wu_1, wa_1, wl_4, wt_4, wu_4, wa_4, wl_5, wt_5, wu_5, wa_5, wl_6, wt_6, wu_6, wa_6, wl_9, wt_9, wu_9, wa_9, wl_10, wt_10, wu_10, wa_10, wl_11, wt_11, wu_11, wa_11, wl_13, wt_13, wu_13, wa_13, wl_14, wt_14, wu_14, wa_14, wl_15, wt_15, wu_15, wa_15, wl_16, wt_16, wu_16, wa_16, wl_17, wt_17, wu_17, wa_17, wl_20, wt_20, wu_20, wa_20, wl_21, wt_21, wu_21, wa_21, wl_22, wt_22, wu_22, wa_22, wl_23, wt_23, wu_23, wa_23, wl_24, wt_24, wu_24, wa_24, wl_26, wt_26, wu_26, wa_26, wl_27, wt_27, wu_27, wa_27, wl_28, wt_28, wu_28, wa_28, we_1, we_3, we_10, we_14, we_15, we_16, we_17, we_18, we_20, we_21, we_22, we_24, we_25, we_26, we_27, we_28, we_30, we_31, we_32, wc_20, wc_21, wc_22, wc_24, wc_25, wc_26, wc_27, wc_3, wc_4, wc_7, wc_28, wc_32, ws_1, ws_2, ws_3, ws_4, ws_9, ws_10, ws_11, ws_14, ws_15, ws_16, ws_27, ws_17, ws_20, ws_28, kc_0, kc_1, kn_1, kc_2, kn_2, kc_3, kc_4, kc_5, kc_6, kc_7, kc_8, kc_9, kc_10, kc_12, kc_13, kc_14, kc_16, kc_17, kc_18, kc_19, kc_20, kc_21, kc_22, kc_24, kc_28, kc_30, kc_32, kc_37, kc_40, kc_41, kc_42, kc_43, kc_45, kc_48, kc_56, kc_57, kc_59, kc_60, kc_61, kc_64, kc_73, kc_78, kc_91, kc_95, kc_96, kc_97, kc_98, kc_99, kc_100, kc_112, kc_122, kc_125, kc_126, kc_150, kc_162, kc_163, kc_168, kc_186, kc_190, kc_200, kc_250, kc_255, kc_355, kc_356, kc_404, kc_405, kc_429, kc_573, kc_999, kc_1000, kc_1002, kc_1100, kc_1891, kc_2200, kc_4719, kc_4869, kc_4881, kc_5148, kc_9999, kn_9999, kc_10000, kc_12345, kc_19741, kc_25433, kc_65536, kc_320403, kc_628412, kc_629093, kc_660401, kc_679843, kc_918640, kc_979410, kc_1178088, kc_6232410, kc_24644941, kc_36238189, kc_38270444, kc_392531318, kc_425693491, kc_1103515245, kc_1342154595, kc_2147483648, kc_42328242873, kc_891704255789, kc_1722105685577, kc_1858726030364, ct_0, ct_1, ct_2, ct_3, ct_4, ct_5, cf_0, cf_1, cf_2, cf_3, cf_4, cf_5, w_ty6, w_ty7, m_sv, m_z0, m_hd, m_g0, m_gs, m_s0, m_ss, m_ap, m_an, forall_const, true_and, and_true, ne_eq, not_true_eq_false, not_false_eq_true, false_implies, true_implies, implies_true, eq_self, reduceCtorEq, Nat.reduceDiv, Nat.reduceMod, Int.reduceToNat, or_true, true_or, or_false, false_or, or_self, m_it, m_if, m_c1, m_01, m_02, m_03, m_04, m_10, m_12, m_13, m_14, m_20, m_21, m_23, m_24, m_30, m_31, m_32, m_34, m_40, m_41, m_42, m_43]
  obtain ⟨z1, z2⟩ := th0 hQ hJ
  obtain ⟨r, h1, a1_w, a2, a3, a4, a5⟩ := c236 [182, a] _ z1 (by rw [rp_236]; exact ⟨rfl, ha_w, trivial⟩)
  rw [rr_236] at a4
  obtain ⟨v, rfl, -⟩ := IL.one a4
  have no : ∀ h', QK P (r_T 0) J h' → KR (r_T 0) h h' → QK P (r_T 0) J h' ∧ KR (r_T 0) h h' ∧ IL P [(1, 0, 1)] [0] := fun h' k1_w k2 => ⟨k1_w, k2, ⟨by decide, by decide, in_0⟩, trivial⟩
  refine ⟨[v], h1, a1_w, fun k1_w => ⟨_, h1, c198 b (-9999) 9999 h1, fun k2 => ?_, fun _ => no _ a2 (z2.tr a3)⟩, fun _ => no _ a2 (z2.tr a3)⟩
  have b404 : (0 : Int) ≤ 404 ∧ (404 : Int) < 5148 := by decide
  have k4 : IV P (1, 0, 8) (h1 194 404) := s_cell (j := 0) (i := 404) a2 (r := 6) (x := (404, 405, (1, 0, 8))) rfl (by decide) (by decide) (by decide)
  obtain ⟨m0_w, m1_w, -⟩ := k4
  generalize hM_w : h1 194 404 = M at m0_w m1_w
  refine ⟨b404, fun _ => no _ a2 (z2.tr a3), fun k3 => ?_⟩
  have a6 := a5 k1_w
  rw [ru_236] at a6
  obtain ⟨-, hsl, -⟩ := a6
  obtain ⟨s0, s1_w, s2_w⟩ := hsl
  have e1_w : j_iop 0 405 (j_iop 2 3 M) = 405 + 3 * M := by simp (disch := omega) only [jmul, jadd]
  have e2_w : j_iop 0 (405 + 3 * M) 1 = 405 + 3 * M + 1 := jadd (by omega) (by omega)
  have e3_w : j_iop 0 (405 + 3 * M) 2 = 405 + 3 * M + 2 := jadd (by omega) (by omega)
  rw [e1_w, e2_w, e3_w]
  obtain ⟨q, rfl, hq⟩ : ∃ q : Nat, M = (q : Int) ∧ q < 8 := ⟨M.toNat, by omega, by omega⟩
  have f1_w : (405 + 3 * (q : Int)).toNat = 429 * 0 + (405 + 3 * q) := by omega
  have f2_w : (405 + 3 * (q : Int) + 1).toNat = 429 * 0 + (406 + 3 * q) := by omega
  have f3_w : (405 + 3 * (q : Int) + 2).toNat = 429 * 0 + (407 + 3 * q) := by omega
  rw [f1_w, f2_w, f3_w]
  have all1 : (List.range 8).all (fun k => st_fit (405 + 3 * k) (406 + 3 * k) (1, 0, 11) && st_fit (406 + 3 * k) (407 + 3 * k) iT && st_fit (407 + 3 * k) (408 + 3 * k) (1, 0, 1)) = true := by decide +kernel
  have g1 := List.all_eq_true.mp all1 q (List.mem_range.mpr hq)
  simp only [Bool.and_eq_true] at g1
  obtain ⟨⟨g1, g2⟩, g3_w⟩ := g1
  obtain ⟨y1, y2⟩ := st_QK a2 hJ (j := 0) (i := 405 + 3 * q) (v := a) (by decide) (by omega) (st_fit_ok g1 (by omega) (by omega) ⟨s0, s1_w, s2_w⟩) s2_w
  obtain ⟨y3, y4⟩ := st_QK y1 hJ (j := 0) (i := 406 + 3 * q) (v := b) (by decide) (by omega) (st_fit_ok g2 (by omega) (by omega) hb_w) hb_w.2.2
  have fin_w : ∀ w : Int, 0 ≤ w → w ≤ 1 → QK P (r_T 0) J (j_up (j_up (j_up (j_up h1 194 (429 * 0 + (405 + 3 * q)) a) 194 (429 * 0 + (406 + 3 * q)) b) 194 (429 * 0 + (407 + 3 * q)) w) 194 404 (j_iop 0 (j_up (j_up (j_up h1 194 (429 * 0 + (405 + 3 * q)) a) 194 (429 * 0 + (406 + 3 * q)) b) 194 (429 * 0 + (407 + 3 * q)) w 194 404) 1)) ∧ KR (r_T 0) h (j_up (j_up (j_up (j_up h1 194 (429 * 0 + (405 + 3 * q)) a) 194 (429 * 0 + (406 + 3 * q)) b) 194 (429 * 0 + (407 + 3 * q)) w) 194 404 (j_iop 0 (j_up (j_up (j_up h1 194 (429 * 0 + (405 + 3 * q)) a) 194 (429 * 0 + (406 + 3 * q)) b) 194 (429 * 0 + (407 + 3 * q)) w 194 404) 1)) ∧ IL P [(1, 0, 1)] [1] := by
    intro w w0_w w1_w
    obtain ⟨y5, y6⟩ := st_QK y3 hJ (j := 0) (i := 407 + 3 * q) (v := w) (by decide) (by omega) (st_fit_ok g3_w (by omega) (by omega) ⟨w0_w, w1_w, ⟨by omega, by omega⟩⟩) ⟨by omega, by omega⟩
    rw [up_ne (fun z => by have := z.2; omega), up_ne (fun z => by have := z.2; omega), up_ne (fun z => by have := z.2; omega), hM_w, jadd (by omega) (by omega)]
    obtain ⟨y7, y8⟩ := st_QK y5 hJ (j := 0) (i := 404) (v := (q : Int) + 1) (by decide) (by decide) (st_fit_ok (lo_w := 404) (hi_w := 405) (t := (1, 0, 8)) (by decide +kernel) (by decide) (by decide) ⟨by omega, by omega, ⟨by omega, by omega⟩⟩) ⟨by omega, by omega⟩
    exact ⟨y7, ((((z2.tr a3).tr y2).tr y4).tr y6).tr y8, ⟨by decide, by decide, in_1⟩, trivial⟩
  refine ⟨b404, ⟨by omega, by omega⟩, ⟨by omega, by omega⟩, fun _ => ⟨⟨by omega, by omega⟩, b404, ?_⟩, fun _ => ⟨⟨by omega, by omega⟩, b404, ?_⟩⟩
  · exact fin_w 1 (by decide) (by decide)
  · exact fin_w 0 (by decide) (by decide)
theorem t_311 (hJ : JS (r_T 0) J) (c198 : TotW g (evF xs L ck K cW g_M n)) (c224 : S224 P J g (evF xs L ck K cW g_M n)) : TotR P (r_T 0) J g (evF xs L ck K cW g_M (n + 1)) 311 := by
  refine tot_hand gm_311 rp_311 rr_311 ru_311 fun av h hQ hv => ?_
  obtain ⟨x, a, b, rfl, hx, ha_w, hb_w⟩ := il3 hv
  obtain rfl : x = 182 := hx
  show wS _ _ K bb_311 [182, a, b] h _
  generalize evF xs L ck K cW g_M n = F at c198 c224 ⊢
  unfold bb_311
  simp only [wf_4, wf_40, wf_5, wf_50, wf_6, wl_1, wt_1, wu_1, wa_1, wl_4, wt_4, wu_4, wa_4, wl_5, wt_5, wu_5, wa_5, wl_6, wt_6, wu_6, wa_6, wl_9, wt_9, wu_9, wa_9, wl_10, wt_10, wu_10, wa_10, wl_11, wt_11, wu_11, wa_11, wl_13, wt_13, wu_13, wa_13, wl_14, wt_14, wu_14, wa_14, wl_15, wt_15, wu_15, wa_15, wl_16, wt_16, wu_16, wa_16, wl_17, wt_17, wu_17, wa_17, wl_20, wt_20, wu_20, wa_20, wl_21, wt_21, wu_21, wa_21, wl_22, wt_22, wu_22, wa_22, wl_23, wt_23, wu_23, wa_23, wl_24, wt_24, wu_24, wa_24, wl_26, wt_26, wu_26, wa_26, wl_27, wt_27, wu_27, wa_27, wl_28, wt_28, wu_28, wa_28, we_1, we_3, we_10, we_14, we_15, we_16, we_17, we_18, we_20, we_21, we_22, we_24, we_25, we_26, we_27, we_28, we_30, we_31, we_32, wc_20, wc_21, wc_22, wc_24, wc_25, wc_26, wc_27, wc_3, wc_4, wc_7, wc_28, wc_32, ws_1, ws_2, ws_3, ws_4, ws_9, ws_10, ws_11, ws_14, ws_15, ws_16, ws_27, ws_17, ws_20, ws_28, kc_0, kc_1, kn_1, kc_2, kn_2, kc_3, kc_4, kc_5, kc_6, kc_7, kc_8, kc_9, kc_10, kc_12, kc_13, kc_14, kc_16, kc_17, kc_18, kc_19, kc_20, kc_21, kc_22, kc_24, kc_28, kc_30, kc_32, kc_37, kc_40, kc_41, kc_42, kc_43, kc_45, kc_48, kc_56, kc_57, kc_59, kc_60, kc_61, kc_64, kc_73, kc_78, kc_91, kc_95, kc_96, kc_97, kc_98, kc_99, kc_100, kc_112, kc_122, kc_125, kc_126, kc_150, kc_162, kc_163, kc_168, kc_186, kc_190, kc_200, kc_250, kc_255, kc_355, kc_356, kc_404, kc_405, kc_429, kc_573, kc_999, kc_1000, kc_1002, kc_1100, kc_1891, kc_2200, kc_4719, kc_4869, kc_4881, kc_5148, kc_9999, kn_9999, kc_10000, kc_12345, kc_19741, kc_25433, kc_65536, kc_320403, kc_628412, kc_629093, kc_660401, kc_679843, kc_918640, kc_979410, kc_1178088, kc_6232410, kc_24644941, kc_36238189, kc_38270444, kc_392531318, kc_425693491, kc_1103515245, kc_1342154595, kc_2147483648, kc_42328242873, kc_891704255789, kc_1722105685577, kc_1858726030364, ct_0, ct_1, ct_2, ct_3, ct_4, ct_5, cf_0, cf_1, cf_2, cf_3, cf_4, cf_5, w_ty6, w_ty7, m_sv, m_z0, m_hd, m_g0, m_gs, m_s0, m_ss, m_ap, m_an, forall_const, true_and, and_true, ne_eq, not_true_eq_false, not_false_eq_true, false_implies, true_implies, implies_true, eq_self, reduceCtorEq, Nat.reduceDiv, Nat.reduceMod, Int.reduceToNat, or_true, true_or, or_false, false_or, or_self, m_it, m_if, m_c1, m_01, m_02, m_03, m_04, m_10, m_12, m_13, m_14, m_20, m_21, m_23, m_24, m_30, m_31, m_32, m_34, m_40, m_41, m_42, m_43]
  obtain ⟨z1, z2⟩ := th0 hQ hJ
  generalize j_up h 182 0 0 = h1 at z1 z2 ⊢
  have no : QK P (r_T 0) J h1 ∧ KR (r_T 0) h h1 ∧ IL P [(1, 0, 1)] [0] := ⟨z1, z2, ⟨by decide, by decide, in_0⟩, trivial⟩
  refine ⟨_, h1, c198 a 0 1 h1, fun k1_w => ?_, fun _ => no⟩
  simp only [m_hd] at k1_w
  have k2 := b_ne k1_w
  rw [Bool.and_eq_true, decide_eq_true_eq, decide_eq_true_eq] at k2
  have ba_w : 0 ≤ a ∧ a < 2 := ⟨k2.1, by omega⟩
  have w9 : w_ty 9 1 = 1 := by decide
  rw [w9]
  have hH : HT g_fk a_g3 (j_up h1 195 a.toNat 1) := by
    have hk : r_kd 195 = 100 := by decide +kernel
    have h3 := (((r_tab 0).2.2.1 195 (by decide) (by decide)).2.2.2 a.toNat).trans hk
    exact z1.1.up (fun e => absurd (h3.symm.trans e) (by decide)) (fun e => absurd (h3.symm.trans e) (by decide)) (fun _ => Or.inr rfl)
  obtain ⟨z3, z4⟩ := un_QK (q := 195) (i := a.toNat) (v := 1) (t := (1, 0, 1)) z1 hJ (by decide +kernel) (by decide) (by decide +kernel) ⟨by decide, by decide, in_1⟩ hH
  have e1_w : j_iop 2 429 (j_iop 0 1 a) = 429 * ((1 + a.toNat : Nat) : Int) := by
    simp (disch := omega) only [jmul, jadd]
    omega
  rw [e1_w]
  have yes_w : ∀ (i j : Nat) (u : XH → Int), i < 12 → j < 12 → (∀ h2, QK P (r_T 0) J h2 → 0 ≤ u h2 ∧ u h2 ≤ 8) → ∃ r h2, F 224 [182, 429 * (i : Int), 429 * (j : Int), 429] ((a_g3, g), j_up h1 195 a.toNat 1) = some (1, r, ((a_g3, g), h2)) ∧ QK P (r_T 0) J (j_up h2 182 18 (u h2)) ∧ KR (r_T 0) h (j_up h2 182 18 (u h2)) ∧ IL P [(1, 0, 1)] [1] := by
    intro i j u hi_w hj hu
    obtain ⟨h2, x1_w, x2_w, x3, -⟩ := c224 _ i j 429 z3 hi_w hj (by decide) (by decide)
    obtain ⟨u0, u1⟩ := hu h2 x2_w
    obtain ⟨x4_w, x5_w⟩ := fd_QK x2_w hJ (k := 18) (v := u h2) (Or.inl rfl) ⟨u0, u1, ⟨by omega, by omega⟩⟩
    exact ⟨[], h2, x1_w, x4_w, ((z2.tr z4).tr x3).tr x5_w, ⟨by decide, by decide, in_1⟩, trivial⟩
  have back : ¬b = 0 → ∃ r h2, F 224 [182, 429 * ((1 + a.toNat : Nat) : Int), 0, 429] ((a_g3, g), j_up h1 195 a.toNat 1) = some (1, r, ((a_g3, g), h2)) ∧ (¬b = 0 → QK P (r_T 0) J (j_up h2 182 18 0) ∧ KR (r_T 0) h (j_up h2 182 18 0) ∧ IL P [(1, 0, 1)] [1]) ∧ (b = 0 → QK P (r_T 0) J (j_up h2 182 18 (h2 182 18)) ∧ KR (r_T 0) h (j_up h2 182 18 (h2 182 18)) ∧ IL P [(1, 0, 1)] [1]) := fun hb0 => by
    obtain ⟨r, h2, y1, y2⟩ := yes_w (1 + a.toNat) 0 (fun _ => 0) (by omega) (by decide) (fun _ _ => ⟨by decide, by decide⟩)
    exact ⟨r, h2, y1, fun _ => y2, fun k => absurd k hb0⟩
  have lay : b = 0 → ∃ r h2, F 224 [182, 0, 429 * ((1 + a.toNat : Nat) : Int), 429] ((a_g3, g), j_up h1 195 a.toNat 1) = some (1, r, ((a_g3, g), h2)) ∧ (¬b = 0 → QK P (r_T 0) J (j_up h2 182 18 0) ∧ KR (r_T 0) h (j_up h2 182 18 0) ∧ IL P [(1, 0, 1)] [1]) ∧ (b = 0 → QK P (r_T 0) J (j_up h2 182 18 (h2 182 18)) ∧ KR (r_T 0) h (j_up h2 182 18 (h2 182 18)) ∧ IL P [(1, 0, 1)] [1]) := fun hb0 => by
    obtain ⟨r, h2, y1, y2⟩ := yes_w 0 (1 + a.toNat) (fun h2 => h2 182 18) (by decide) (by omega) (fun h2 k => q_undos k)
    exact ⟨r, h2, y1, fun k => absurd hb0 k, fun _ => y2⟩
  refine ⟨fun hb0 => ⟨ba_w, fun _ => ⟨ba_w, fun _ => ⟨fun _ => back hb0, fun k => absurd k hb0⟩, fun k => absurd k hb0⟩, fun _ => no⟩, fun hb0 => ⟨ba_w, fun k => absurd hb0 k, fun _ => ⟨fun k => absurd hb0 k, fun _ => lay hb0⟩⟩⟩
end HAA
end
section
/-! ===== the reference's methods by hand_w: days, who, judged ===== -/
def u310 : SX := (sx 12 (sx 20 (sx 3 (sv 5) z0 z0) (sx 32 (sx 30 (sx 3 z0 z0 z0) (sx 31 z0 z0 z0) z0) (sv 225) z0) (sv 2)) (sx 20 (sx 3 (sv 4) (sx 14 (sx 3 (sv 4) z0 z0) (sx 28 (sx 21 (sx 32 (sx 30 (sx 3 z0 z0 z0) (sx 30 (sx 1 (sv 4719) (sv 1) z0) (sx 30 (sx 3 (sv 5) z0 z0) (sx 31 z0 z0 z0) z0) z0) z0) (sv 285) z0) z0 (sv 1)) (sx 1 (sv 1) (sv 1) z0) (sx 1 z0 (sv 1) z0)) z0) z0) z0 z0) (sx 4 (sv 5) (sv 1) z0))
theorem ub_310 : bb_310 = (sx 2 (sx 10 (sx 27 (sx 24 (sx 32 (sx 30 (sx 3 z0 z0 z0) (sx 30 (sx 25 (sx 25 (sx 24 (sx 32 (sx 30 (sx 3 (sv 1) z0 z0) (sx 30 (sx 1 z0 (sv 1) z0) (sx 30 (sx 1 (sv 9999) (sv 1) z0) (sx 31 z0 z0 z0) z0) z0) z0) (sv 198) z0) z0 z0) (sx 24 (sx 32 (sx 30 (sx 3 (sv 2) z0 z0) (sx 30 (sx 1 (sv 1) (sv 1) z0) (sx 30 (sx 1 (sv 60) (sv 1) z0) (sx 31 z0 z0 z0) z0) z0) z0) (sv 198) z0) z0 z0) z0) (sx 24 (sx 32 (sx 30 (sx 3 (sv 3) z0 z0) (sx 30 (sx 1 z0 (sv 1) z0) (sx 30 (sx 1 (sv 2) (sv 1) z0) (sx 31 z0 z0 z0) z0) z0) z0) (sv 198) z0) z0 z0) z0) (sx 31 z0 z0 z0) z0) z0) (sv 274) z0) z0 z0) z0 z0) (sx 20 (sx 16 (sx 1 z0 (sv 1) z0) z0 z0) z0 z0) z0) (sx 2 (sx 9 (sx 32 (sx 30 (sx 3 z0 z0 z0) (sx 31 z0 z0 z0) z0) (sv 298) z0) z0 z0) (sx 2 (sx 5 (sx 3 z0 z0 z0) (sx 18 (sx 3 (sv 1) z0 z0) z0 (sv 2)) (sv 29)) (sx 2 (sx 20 (sx 2 (sx 3 (sv 4) (sx 1 z0 (sv 1) z0) z0) (sx 12 (sx 25 (sx 25 (sx 20 (sx 3 (sv 4) z0 z0) (sx 3 (sv 2) z0 z0) (sv 2)) (sx 21 (sx 32 (sx 30 (sx 3 z0 z0 z0) (sx 31 z0 z0 z0) z0) (sv 228) z0) z0 (sv 4)) z0) (sx 21 (sx 32 (sx 30 (sx 3 z0 z0 z0) (sx 31 z0 z0 z0) z0) (sv 225) z0) z0 (sv 4)) z0) (sx 20 (sx 2 (sx 3 (sv 5) (sx 32 (sx 30 (sx 3 z0 z0 z0) (sx 30 (sx 32 (sx 30 (sx 3 z0 z0 z0) (sx 31 z0 z0 z0) z0) (sv 228) z0) (sx 31 z0 z0 z0) z0) z0) (sv 309) z0) z0) (sx 2 (sx 3 (sv 6) (sx 32 (sx 30 (sx 3 z0 z0 z0) (sx 30 (sx 32 (sx 30 (sx 3 z0 z0 z0) (sx 31 z0 z0 z0) z0) (sv 225) z0) (sx 31 z0 z0 z0) z0) z0) (sv 309) z0) z0) (sx 9 (sx 32 (sx 30 (sx 3 z0 z0 z0) (sx 30 (sx 1 (sv 4719) (sv 1) z0) (sx 30 (sx 3 (sv 5) z0 z0) (sx 30 (sx 3 (sv 6) z0 z0) (sx 30 (sx 32 (sx 30 (sx 3 z0 z0 z0) (sx 30 (sx 1 (sv 200) (sv 1) z0) (sx 31 z0 z0 z0) z0) z0) (sv 309) z0) (sx 31 z0 z0 z0) z0) z0) z0) z0) z0) (sv 264) z0) z0 z0) z0) z0) z0 z0) (sx 4 (sv 4) (sv 1) z0)) z0) z0 z0) (sx 2 (sx 10 (sx 21 (sx 3 (sv 3) z0 z0) z0 z0) (sx 20 (sx 16 (sx 32 (sx 30 (sx 3 z0 z0 z0) (sx 30 (sx 1 (sv 4719) (sv 1) z0) (sx 31 z0 z0 z0) z0) z0) (sv 259) z0) z0 z0) z0 z0) z0) (sx 2 (sx 3 (sv 4) (sx 1 z0 (sv 1) z0) z0) (sx 2 (sx 20 (sx 2 (sx 3 (sv 5) (sx 1 z0 (sv 1) z0) z0) u310 z0) z0 z0) (sx 16 (sx 28 (sx 20 (sx 3 (sv 3) z0 z0) (sx 1 (sv 1) (sv 1) z0) z0) (sx 3 (sv 4) z0 z0) (sx 32 (sx 30 (sx 3 z0 z0 z0) (sx 30 (sx 1 (sv 4719) (sv 1) z0) (sx 31 z0 z0 z0) z0) z0) (sv 287) z0)) z0 z0) z0) z0) z0) z0) z0) z0) z0) := rfl
def S225 (g : Nat × Nat) (F : XP) : Prop := ∀ (h : XH), F 225 [182] ((a_g3, g), h) = some (1, [h 188 0], ((a_g3, g), h))
section HAB
variable {P : Int × Int} {g : Nat × Nat} {xs : Nat → Int} {L K n : Nat} {ck : Nat → List Nat} {cW : Nat → Nat → Int} {h : XH} {J : XH → Prop}
theorem s_225 : S225 g (evF xs L ck K cW g_M (n + 1)) := fun h => by
  obtain ⟨r, h', e1_w, rfl, rfl⟩ := tr_of (xs := xs) (L := L) (ck := ck) (cW := cW) (n := n) (K := K) (g := g) (h := h) (av := [182]) gm_225 (B := fun r h' => r = [h 188 0] ∧ h' = h) (by
    show wS _ _ K bb_225 [182] h _
    generalize evF xs L ck K cW g_M n = F
    unfold bb_225
    simp only [wf_4, wf_40, wf_5, wf_50, wf_6, wl_1, wt_1, wu_1, wa_1, wl_4, wt_4, wu_4, wa_4, wl_5, wt_5, wu_5, wa_5, wl_6, wt_6, wu_6, wa_6, wl_9, wt_9, wu_9, wa_9, wl_10, wt_10, wu_10, wa_10, wl_11, wt_11, wu_11, wa_11, wl_13, wt_13, wu_13, wa_13, wl_14, wt_14, wu_14, wa_14, wl_15, wt_15, wu_15, wa_15, wl_16, wt_16, wu_16, wa_16, wl_17, wt_17, wu_17, wa_17, wl_20, wt_20, wu_20, wa_20, wl_21, wt_21, wu_21, wa_21, wl_22, wt_22, wu_22, wa_22, wl_23, wt_23, wu_23, wa_23, wl_24, wt_24, wu_24, wa_24, wl_26, wt_26, wu_26, wa_26, wl_27, wt_27, wu_27, wa_27, wl_28, wt_28, wu_28, wa_28, we_1, we_3, we_10, we_14, we_15, we_16, we_17, we_18, we_20, we_21, we_22, we_24, we_25, we_26, we_27, we_28, we_30, we_31, we_32, wc_20, wc_21, wc_22, wc_24, wc_25, wc_26, wc_27, wc_3, wc_4, wc_7, wc_28, wc_32, ws_1, ws_2, ws_3, ws_4, ws_9, ws_10, ws_11, ws_14, ws_15, ws_16, ws_27, ws_17, ws_20, ws_28, kc_0, kc_1, kn_1, kc_2, kn_2, kc_3, kc_4, kc_5, kc_6, kc_7, kc_8, kc_9, kc_10, kc_12, kc_13, kc_14, kc_16, kc_17, kc_18, kc_19, kc_20, kc_21, kc_22, kc_24, kc_28, kc_30, kc_32, kc_37, kc_40, kc_41, kc_42, kc_43, kc_45, kc_48, kc_56, kc_57, kc_59, kc_60, kc_61, kc_64, kc_73, kc_78, kc_91, kc_95, kc_96, kc_97, kc_98, kc_99, kc_100, kc_112, kc_122, kc_125, kc_126, kc_150, kc_162, kc_163, kc_168, kc_186, kc_190, kc_200, kc_250, kc_255, kc_355, kc_356, kc_404, kc_405, kc_429, kc_573, kc_999, kc_1000, kc_1002, kc_1100, kc_1891, kc_2200, kc_4719, kc_4869, kc_4881, kc_5148, kc_9999, kn_9999, kc_10000, kc_12345, kc_19741, kc_25433, kc_65536, kc_320403, kc_628412, kc_629093, kc_660401, kc_679843, kc_918640, kc_979410, kc_1178088, kc_6232410, kc_24644941, kc_36238189, kc_38270444, kc_392531318, kc_425693491, kc_1103515245, kc_1342154595, kc_2147483648, kc_42328242873, kc_891704255789, kc_1722105685577, kc_1858726030364, ct_0, ct_1, ct_2, ct_3, ct_4, ct_5, cf_0, cf_1, cf_2, cf_3, cf_4, cf_5, w_ty6, w_ty7, m_sv, m_z0, m_hd, m_g0, m_gs, m_s0, m_ss, m_ap, m_an, forall_const, true_and, and_true, ne_eq, not_true_eq_false, not_false_eq_true, false_implies, true_implies, implies_true, eq_self, reduceCtorEq, Nat.reduceDiv, Nat.reduceMod, Int.reduceToNat, or_true, true_or, or_false, false_or, or_self, m_it, m_if, m_c1, m_01, m_02, m_03, m_04, m_10, m_12, m_13, m_14, m_20, m_21, m_23, m_24, m_30, m_31, m_32, m_34, m_40, m_41, m_42, m_43]
    decide)
  exact e1_w
theorem q_slots (hQ : QK P (r_T 0) J h) : 0 ≤ h 188 0 ∧ h 188 0 ≤ 12 := by
  have k : IV P (1, 0, 12) (h 188 0) := q_cell hQ (q := 188) (r := 0) (x := (0, 1, (1, 0, 12))) (by decide) rfl rfl (by decide) (by decide)
  exact ⟨k.1, k.2.1⟩
theorem iv_trial : IV P (3, 0, 0) 4719 := ⟨⟨by decide, by decide⟩, 11, by decide, by decide, by decide⟩
theorem w_310 {F : XP} (hK_w : 4294967300 ≤ K) (s225 : S225 g F) (c285 : TotR P (r_T 0) J g F 285) {a b c y : Int} {h0 : XH} (hQ : QK P (r_T 0) J h) (hk : KR (r_T 0) h0 h) {R : WR} (hR : ∀ (x s : Int) (h' : XH), QK P (r_T 0) J h' → KR (r_T 0) h0 h' → InI x → R 0 [] [182, a, b, c, x, s, y] h') : wS (a_g3, g) F K u310 [182, a, b, c, 0, 0, y] h R := by
  unfold u310
  refine w_lp (fun en h' => ∃ x s : Int, en = [182, a, b, c, x, s, y] ∧ 0 ≤ s ∧ s ≤ 12 ∧ InI x ∧ QK P (r_T 0) J h' ∧ KR (r_T 0) h0 h') (fun en _ => (12 - en.getD 5 0).toNat) ⟨0, 0, rfl, by omega, by omega, in_0, hQ, hk⟩ ?_
  rintro en h1 ⟨x, s, rfl, s0, s1_w, hx, q1_w, q2_w⟩
  refine ⟨?_, ?_⟩
  · show (12 - s).toNat < K
    omega
  simp only [wf_4, wf_40, wf_5, wf_50, wf_6, wl_1, wt_1, wu_1, wa_1, wl_4, wt_4, wu_4, wa_4, wl_5, wt_5, wu_5, wa_5, wl_6, wt_6, wu_6, wa_6, wl_9, wt_9, wu_9, wa_9, wl_10, wt_10, wu_10, wa_10, wl_11, wt_11, wu_11, wa_11, wl_13, wt_13, wu_13, wa_13, wl_14, wt_14, wu_14, wa_14, wl_15, wt_15, wu_15, wa_15, wl_16, wt_16, wu_16, wa_16, wl_17, wt_17, wu_17, wa_17, wl_20, wt_20, wu_20, wa_20, wl_21, wt_21, wu_21, wa_21, wl_22, wt_22, wu_22, wa_22, wl_23, wt_23, wu_23, wa_23, wl_24, wt_24, wu_24, wa_24, wl_26, wt_26, wu_26, wa_26, wl_27, wt_27, wu_27, wa_27, wl_28, wt_28, wu_28, wa_28, we_1, we_3, we_10, we_14, we_15, we_16, we_17, we_18, we_20, we_21, we_22, we_24, we_25, we_26, we_27, we_28, we_30, we_31, we_32, wc_20, wc_21, wc_22, wc_24, wc_25, wc_26, wc_27, wc_3, wc_4, wc_7, wc_28, wc_32, ws_1, ws_2, ws_3, ws_4, ws_9, ws_10, ws_11, ws_14, ws_15, ws_16, ws_27, ws_17, ws_20, ws_28, kc_0, kc_1, kn_1, kc_2, kn_2, kc_3, kc_4, kc_5, kc_6, kc_7, kc_8, kc_9, kc_10, kc_12, kc_13, kc_14, kc_16, kc_17, kc_18, kc_19, kc_20, kc_21, kc_22, kc_24, kc_28, kc_30, kc_32, kc_37, kc_40, kc_41, kc_42, kc_43, kc_45, kc_48, kc_56, kc_57, kc_59, kc_60, kc_61, kc_64, kc_73, kc_78, kc_91, kc_95, kc_96, kc_97, kc_98, kc_99, kc_100, kc_112, kc_122, kc_125, kc_126, kc_150, kc_162, kc_163, kc_168, kc_186, kc_190, kc_200, kc_250, kc_255, kc_355, kc_356, kc_404, kc_405, kc_429, kc_573, kc_999, kc_1000, kc_1002, kc_1100, kc_1891, kc_2200, kc_4719, kc_4869, kc_4881, kc_5148, kc_9999, kn_9999, kc_10000, kc_12345, kc_19741, kc_25433, kc_65536, kc_320403, kc_628412, kc_629093, kc_660401, kc_679843, kc_918640, kc_979410, kc_1178088, kc_6232410, kc_24644941, kc_36238189, kc_38270444, kc_392531318, kc_425693491, kc_1103515245, kc_1342154595, kc_2147483648, kc_42328242873, kc_891704255789, kc_1722105685577, kc_1858726030364, ct_0, ct_1, ct_2, ct_3, ct_4, ct_5, cf_0, cf_1, cf_2, cf_3, cf_4, cf_5, w_ty6, w_ty7, m_sv, m_z0, m_hd, m_g0, m_gs, m_s0, m_ss, m_ap, m_an, forall_const, true_and, and_true, ne_eq, not_true_eq_false, not_false_eq_true, false_implies, true_implies, implies_true, eq_self, reduceCtorEq, Nat.reduceDiv, Nat.reduceMod, Int.reduceToNat, or_true, true_or, or_false, false_or, or_self, m_it, m_if, m_c1, m_01, m_02, m_03, m_04, m_10, m_12, m_13, m_14, m_20, m_21, m_23, m_24, m_30, m_31, m_32, m_34, m_40, m_41, m_42, m_43]
  have u := q_slots q1_w
  refine ⟨_, h1, s225 h1, fun hs => ?_, fun _ => hR x s h1 q1_w q2_w hx⟩
  simp only [m_hd] at hs
  obtain ⟨v, h2, a1_w, a2, a3, -⟩ := use1 (av := [182, 4719, s]) c285 rp_285 rr_285 q1_w ⟨rfl, iv_trial, ⟨s0, by omega, ⟨by omega, by omega⟩⟩, trivial⟩
  rw [jinc (by omega) (by omega)]
  refine ⟨[v], h2, a1_w, fun _ => ⟨⟨_, s + 1, rfl, by omega, by omega, iop_in _ _ _, a2, q2_w.tr a3⟩, ?_⟩, fun _ => ⟨⟨_, s + 1, rfl, by omega, by omega, iop_in _ _ _, a2, q2_w.tr a3⟩, ?_⟩⟩
  · show (12 - (s + 1)).toNat < (12 - s).toNat
    omega
  · show (12 - (s + 1)).toNat < (12 - s).toNat
    omega
theorem t_310 (hJ : JS (r_T 0) J) (hK_w : 4294967300 ≤ K) (c198 : TotW g (evF xs L ck K cW g_M n)) (c274 : TotB P (r_T 0) J g (evF xs L ck K cW g_M n)) (s225 : S225 g (evF xs L ck K cW g_M n)) (c228 : TotR P (r_T 0) J g (evF xs L ck K cW g_M n) 228) (c298 : TotR P (r_T 0) J g (evF xs L ck K cW g_M n) 298) (c309 : S309 P J g (evF xs L ck K cW g_M n)) (c264 : TotR P (r_T 0) J g (evF xs L ck K cW g_M n) 264) (c259 : TotR P (r_T 0) J g (evF xs L ck K cW g_M n) 259) (c285 : TotR P (r_T 0) J g (evF xs L ck K cW g_M n) 285) (c287 : TotR P (r_T 0) J g (evF xs L ck K cW g_M n) 287) : TotR P (r_T 0) J g (evF xs L ck K cW g_M (n + 1)) 310 := by
  refine tot_hand gm_310 rp_310 rr_310 ru_310 fun av h hQ hv => ?_
  obtain ⟨x, a, b, c, rfl, hx, ha_w, hb_w, hc_w⟩ := il4 hv
  obtain rfl : x = 182 := hx
  show wS _ _ K bb_310 [182, a, b, c, 0, 0, 0] h _
  generalize evF xs L ck K cW g_M n = F at c198 c274 s225 c228 c298 c309 c264 c259 c285 c287 ⊢
  rw [ub_310]
  simp only [wf_4, wf_40, wf_5, wf_50, wf_6, wl_1, wt_1, wu_1, wa_1, wl_4, wt_4, wu_4, wa_4, wl_5, wt_5, wu_5, wa_5, wl_6, wt_6, wu_6, wa_6, wl_9, wt_9, wu_9, wa_9, wl_10, wt_10, wu_10, wa_10, wl_11, wt_11, wu_11, wa_11, wl_13, wt_13, wu_13, wa_13, wl_14, wt_14, wu_14, wa_14, wl_15, wt_15, wu_15, wa_15, wl_16, wt_16, wu_16, wa_16, wl_17, wt_17, wu_17, wa_17, wl_20, wt_20, wu_20, wa_20, wl_21, wt_21, wu_21, wa_21, wl_22, wt_22, wu_22, wa_22, wl_23, wt_23, wu_23, wa_23, wl_24, wt_24, wu_24, wa_24, wl_26, wt_26, wu_26, wa_26, wl_27, wt_27, wu_27, wa_27, wl_28, wt_28, wu_28, wa_28, we_1, we_3, we_10, we_14, we_15, we_16, we_17, we_18, we_20, we_21, we_22, we_24, we_25, we_26, we_27, we_28, we_30, we_31, we_32, wc_20, wc_21, wc_22, wc_24, wc_25, wc_26, wc_27, wc_3, wc_4, wc_7, wc_28, wc_32, ws_1, ws_2, ws_3, ws_4, ws_9, ws_10, ws_11, ws_14, ws_15, ws_16, ws_27, ws_17, ws_20, ws_28, kc_0, kc_1, kn_1, kc_2, kn_2, kc_3, kc_4, kc_5, kc_6, kc_7, kc_8, kc_9, kc_10, kc_12, kc_13, kc_14, kc_16, kc_17, kc_18, kc_19, kc_20, kc_21, kc_22, kc_24, kc_28, kc_30, kc_32, kc_37, kc_40, kc_41, kc_42, kc_43, kc_45, kc_48, kc_56, kc_57, kc_59, kc_60, kc_61, kc_64, kc_73, kc_78, kc_91, kc_95, kc_96, kc_97, kc_98, kc_99, kc_100, kc_112, kc_122, kc_125, kc_126, kc_150, kc_162, kc_163, kc_168, kc_186, kc_190, kc_200, kc_250, kc_255, kc_355, kc_356, kc_404, kc_405, kc_429, kc_573, kc_999, kc_1000, kc_1002, kc_1100, kc_1891, kc_2200, kc_4719, kc_4869, kc_4881, kc_5148, kc_9999, kn_9999, kc_10000, kc_12345, kc_19741, kc_25433, kc_65536, kc_320403, kc_628412, kc_629093, kc_660401, kc_679843, kc_918640, kc_979410, kc_1178088, kc_6232410, kc_24644941, kc_36238189, kc_38270444, kc_392531318, kc_425693491, kc_1103515245, kc_1342154595, kc_2147483648, kc_42328242873, kc_891704255789, kc_1722105685577, kc_1858726030364, ct_0, ct_1, ct_2, ct_3, ct_4, ct_5, cf_0, cf_1, cf_2, cf_3, cf_4, cf_5, w_ty6, w_ty7, m_sv, m_z0, m_hd, m_g0, m_gs, m_s0, m_ss, m_ap, m_an, forall_const, true_and, and_true, ne_eq, not_true_eq_false, not_false_eq_true, false_implies, true_implies, implies_true, eq_self, reduceCtorEq, Nat.reduceDiv, Nat.reduceMod, Int.reduceToNat, or_true, true_or, or_false, false_or, or_self, m_it, m_if, m_c1, m_01, m_02, m_03, m_04, m_10, m_12, m_13, m_14, m_20, m_21, m_23, m_24, m_30, m_31, m_32, m_34, m_40, m_41, m_42, m_43]
  have no : ∀ h', QK P (r_T 0) J h' → KR (r_T 0) h h' → QK P (r_T 0) J h' ∧ KR (r_T 0) h h' ∧ IL P [iT] [0] := fun h' k1_w k2 => ⟨k1_w, k2, IV.top in_0, trivial⟩
  obtain ⟨h0, y1, y2, y3⟩ := c274 0 h (Or.inl rfl) hQ
  refine ⟨_, h, c198 a 0 9999 h, fun k1_w => ⟨_, h, c198 b 1 60 h, fun k2 => ⟨_, h, c198 c 0 2 h, fun k3 => ?_, fun _ => ⟨[0], h0, y1, fun k => absurd rfl k, fun _ => no _ y2 y3⟩⟩, fun _ => ⟨[0], h0, y1, fun k => absurd rfl k, fun _ => no _ y2 y3⟩⟩, fun _ => ⟨[0], h0, y1, fun k => absurd rfl k, fun _ => no _ y2 y3⟩⟩
  have k1_w := b_ne k1_w
  have k2 := b_ne k2
  rw [Bool.and_eq_true, decide_eq_true_eq, decide_eq_true_eq] at k1_w k2
  obtain ⟨h1, z1, z2, z3⟩ := c274 1 h (Or.inr rfl) hQ
  refine ⟨[1], h1, z1, fun _ => ?_, fun k => absurd k (by decide)⟩
  obtain ⟨h2, a1_w, a2, a3⟩ := use0 c298 rp_298 rr_298 z2 il_this
  refine ⟨[], h2, a1_w, ?_⟩
  obtain ⟨q1_w, q2_w⟩ := fd_QK a2 hJ (k := 29) (v := a) (Or.inr rfl) ⟨k1_w.1, by omega, ⟨by omega, by omega⟩⟩
  have fin_w : ∀ (x s y : Int) (h' : XH), QK P (r_T 0) J h' → KR (r_T 0) h h' → InI x → (c = 1 → QK P (r_T 0) J h' ∧ KR (r_T 0) h h' ∧ IL P [iT] [x]) ∧ (¬c = 1 → ∃ r h2, F 287 [182, 4719] ((a_g3, g), h') = some (1, r, ((a_g3, g), h2)) ∧ QK P (r_T 0) J h2 ∧ KR (r_T 0) h h2 ∧ IL P [iT] r) := by
    intro x s y h' k4 k5 k6
    refine ⟨fun _ => ⟨k4, k5, IV.top k6, trivial⟩, fun _ => ?_⟩
    obtain ⟨v, h3, x1_w, x2_w, x3, x4_w⟩ := use1 (av := [182, 4719]) c287 rp_287 rr_287 k4 ⟨rfl, iv_trial, trivial⟩
    exact ⟨[v], h3, x1_w, x2_w, k5.tr x3, x4_w, trivial⟩
  have all : ∀ (h' : XH), QK P (r_T 0) J h' → KR (r_T 0) h h' → ∃ r h2, F 259 [182, 4719] ((a_g3, g), h') = some (1, r, ((a_g3, g), h2)) ∧ QK P (r_T 0) J h2 ∧ KR (r_T 0) h h2 ∧ IL P [iT] r := by
    intro h' k4 k5
    obtain ⟨v, h3, x1_w, x2_w, x3, x4_w⟩ := use1 (av := [182, 4719]) c259 rp_259 rr_259 k4 ⟨rfl, iv_trial, trivial⟩
    exact ⟨[v], h3, x1_w, x2_w, k5.tr x3, x4_w, trivial⟩
  refine w_lp (fun en h' => ∃ m x y : Int, en = [182, a, b, c, m, x, y] ∧ 0 ≤ m ∧ m ≤ 60 ∧ QK P (r_T 0) J h' ∧ KR (r_T 0) h h') (fun en _ => (60 - en.getD 4 0).toNat) ⟨0, 0, 0, rfl, by omega, by omega, q1_w, (z3.tr a3).tr q2_w⟩ ?_
  rintro en h3 ⟨m, x, y, rfl, m0_w, m1_w, q3_w, q4_w⟩
  refine ⟨?_, ?_⟩
  · show (60 - m).toNat < K
    omega
  simp only [wf_4, wf_40, wf_5, wf_50, wf_6, wl_1, wt_1, wu_1, wa_1, wl_4, wt_4, wu_4, wa_4, wl_5, wt_5, wu_5, wa_5, wl_6, wt_6, wu_6, wa_6, wl_9, wt_9, wu_9, wa_9, wl_10, wt_10, wu_10, wa_10, wl_11, wt_11, wu_11, wa_11, wl_13, wt_13, wu_13, wa_13, wl_14, wt_14, wu_14, wa_14, wl_15, wt_15, wu_15, wa_15, wl_16, wt_16, wu_16, wa_16, wl_17, wt_17, wu_17, wa_17, wl_20, wt_20, wu_20, wa_20, wl_21, wt_21, wu_21, wa_21, wl_22, wt_22, wu_22, wa_22, wl_23, wt_23, wu_23, wa_23, wl_24, wt_24, wu_24, wa_24, wl_26, wt_26, wu_26, wa_26, wl_27, wt_27, wu_27, wa_27, wl_28, wt_28, wu_28, wa_28, we_1, we_3, we_10, we_14, we_15, we_16, we_17, we_18, we_20, we_21, we_22, we_24, we_25, we_26, we_27, we_28, we_30, we_31, we_32, wc_20, wc_21, wc_22, wc_24, wc_25, wc_26, wc_27, wc_3, wc_4, wc_7, wc_28, wc_32, ws_1, ws_2, ws_3, ws_4, ws_9, ws_10, ws_11, ws_14, ws_15, ws_16, ws_27, ws_17, ws_20, ws_28, kc_0, kc_1, kn_1, kc_2, kn_2, kc_3, kc_4, kc_5, kc_6, kc_7, kc_8, kc_9, kc_10, kc_12, kc_13, kc_14, kc_16, kc_17, kc_18, kc_19, kc_20, kc_21, kc_22, kc_24, kc_28, kc_30, kc_32, kc_37, kc_40, kc_41, kc_42, kc_43, kc_45, kc_48, kc_56, kc_57, kc_59, kc_60, kc_61, kc_64, kc_73, kc_78, kc_91, kc_95, kc_96, kc_97, kc_98, kc_99, kc_100, kc_112, kc_122, kc_125, kc_126, kc_150, kc_162, kc_163, kc_168, kc_186, kc_190, kc_200, kc_250, kc_255, kc_355, kc_356, kc_404, kc_405, kc_429, kc_573, kc_999, kc_1000, kc_1002, kc_1100, kc_1891, kc_2200, kc_4719, kc_4869, kc_4881, kc_5148, kc_9999, kn_9999, kc_10000, kc_12345, kc_19741, kc_25433, kc_65536, kc_320403, kc_628412, kc_629093, kc_660401, kc_679843, kc_918640, kc_979410, kc_1178088, kc_6232410, kc_24644941, kc_36238189, kc_38270444, kc_392531318, kc_425693491, kc_1103515245, kc_1342154595, kc_2147483648, kc_42328242873, kc_891704255789, kc_1722105685577, kc_1858726030364, ct_0, ct_1, ct_2, ct_3, ct_4, ct_5, cf_0, cf_1, cf_2, cf_3, cf_4, cf_5, w_ty6, w_ty7, m_sv, m_z0, m_hd, m_g0, m_gs, m_s0, m_ss, m_ap, m_an, forall_const, true_and, and_true, ne_eq, not_true_eq_false, not_false_eq_true, false_implies, true_implies, implies_true, eq_self, reduceCtorEq, Nat.reduceDiv, Nat.reduceMod, Int.reduceToNat, or_true, true_or, or_false, false_or, or_self, m_it, m_if, m_c1, m_01, m_02, m_03, m_04, m_10, m_12, m_13, m_14, m_20, m_21, m_23, m_24, m_30, m_31, m_32, m_34, m_40, m_41, m_42, m_43]
  have ex_w := fun (h' : XH) (k4 : QK P (r_T 0) J h') (k5 : KR (r_T 0) h h') {R : WR} hR => w_310 (K := K) (y := y) (a := a) (b := b) (c := c) (R := R) hK_w s225 c285 k4 k5 hR
  obtain ⟨v, h4, b1, b2, b3, b4, b5, b6⟩ := use1 c228 rp_228 rr_228 q3_w il_this
  have u := q_slots b2
  refine ⟨fun hm_w => ⟨[v], h4, b1, fun hv => ⟨_, h4, s225 h4, fun hs => ?_, fun _ => ⟨fun _ => all _ b2 (q4_w.tr b3), fun _ => ex_w _ b2 (q4_w.tr b3) (fun x s h' e1_w e2_w e3_w => ?_)⟩⟩, fun _ => ⟨fun _ => all _ b2 (q4_w.tr b3), fun _ => ex_w _ b2 (q4_w.tr b3) (fun x s h' e1_w e2_w e3_w => ?_)⟩⟩, fun _ => ⟨fun _ => all _ q3_w q4_w, fun _ => ex_w _ q3_w q4_w (fun x s h' e1_w e2_w e3_w => ?_)⟩⟩
  · simp only [m_hd] at hv hs
    obtain ⟨v2, h5, c1_w, c2, c3, c4, c5, c6⟩ := use1 c228 rp_228 rr_228 b2 il_this
    have hv2 : v2 = v := by rw [c4, b4]
    subst hv2
    obtain ⟨w1_w, h6, d1_w, d2_w, d3_w, d4_w, d5⟩ := c309 h5 v2 c2 (by omega) (by omega)
    have u6 := q_slots d2_w
    have e188 : h6 188 0 = h4 188 0 := (d3_w 188 0 rfl).trans (c3 188 0 rfl)
    obtain ⟨w2_w, h7, x1_w, x2_w, x3, x4_w, x5_w⟩ := c309 h6 (h6 188 0) d2_w (by omega) (by omega)
    obtain ⟨w3_w, h8, t1_w, t2_w, t3_w, t4_w, t5_w⟩ := c309 h7 200 x2_w (by decide) (by decide)
    have nm := q_nM t2_w
    obtain ⟨h9, s1_w, s2_w, s3_w⟩ := use0 (av := [182, 4719, w1_w, w2_w, w3_w]) c264 rp_264 rr_264 t2_w ⟨rfl, iv_trial, ⟨d4_w, by omega, by omega⟩, ⟨x4_w, by omega, ⟨by omega, by omega⟩⟩, ⟨by omega, by omega, ⟨by omega, by omega⟩⟩, trivial⟩
    rw [jinc (by omega) (by omega)]
    refine ⟨[v2], h5, c1_w, [w1_w], h6, d1_w, _, h6, s225 h6, [w2_w], h7, x1_w, [w3_w], h8, t1_w, [], h9, s1_w, ⟨m + 1, w1_w, w2_w, rfl, by omega, by omega, s2_w, ((((((q4_w.tr b3).tr c3).tr d3_w).tr x3).tr t3_w).tr s3_w)⟩, ?_⟩
    show (60 - (m + 1)).toNat < (60 - m).toNat
    omega
  · simp only [wf_4, wf_40, wf_5, wf_50, wf_6, wl_1, wt_1, wu_1, wa_1, wl_4, wt_4, wu_4, wa_4, wl_5, wt_5, wu_5, wa_5, wl_6, wt_6, wu_6, wa_6, wl_9, wt_9, wu_9, wa_9, wl_10, wt_10, wu_10, wa_10, wl_11, wt_11, wu_11, wa_11, wl_13, wt_13, wu_13, wa_13, wl_14, wt_14, wu_14, wa_14, wl_15, wt_15, wu_15, wa_15, wl_16, wt_16, wu_16, wa_16, wl_17, wt_17, wu_17, wa_17, wl_20, wt_20, wu_20, wa_20, wl_21, wt_21, wu_21, wa_21, wl_22, wt_22, wu_22, wa_22, wl_23, wt_23, wu_23, wa_23, wl_24, wt_24, wu_24, wa_24, wl_26, wt_26, wu_26, wa_26, wl_27, wt_27, wu_27, wa_27, wl_28, wt_28, wu_28, wa_28, we_1, we_3, we_10, we_14, we_15, we_16, we_17, we_18, we_20, we_21, we_22, we_24, we_25, we_26, we_27, we_28, we_30, we_31, we_32, wc_20, wc_21, wc_22, wc_24, wc_25, wc_26, wc_27, wc_3, wc_4, wc_7, wc_28, wc_32, ws_1, ws_2, ws_3, ws_4, ws_9, ws_10, ws_11, ws_14, ws_15, ws_16, ws_27, ws_17, ws_20, ws_28, kc_0, kc_1, kn_1, kc_2, kn_2, kc_3, kc_4, kc_5, kc_6, kc_7, kc_8, kc_9, kc_10, kc_12, kc_13, kc_14, kc_16, kc_17, kc_18, kc_19, kc_20, kc_21, kc_22, kc_24, kc_28, kc_30, kc_32, kc_37, kc_40, kc_41, kc_42, kc_43, kc_45, kc_48, kc_56, kc_57, kc_59, kc_60, kc_61, kc_64, kc_73, kc_78, kc_91, kc_95, kc_96, kc_97, kc_98, kc_99, kc_100, kc_112, kc_122, kc_125, kc_126, kc_150, kc_162, kc_163, kc_168, kc_186, kc_190, kc_200, kc_250, kc_255, kc_355, kc_356, kc_404, kc_405, kc_429, kc_573, kc_999, kc_1000, kc_1002, kc_1100, kc_1891, kc_2200, kc_4719, kc_4869, kc_4881, kc_5148, kc_9999, kn_9999, kc_10000, kc_12345, kc_19741, kc_25433, kc_65536, kc_320403, kc_628412, kc_629093, kc_660401, kc_679843, kc_918640, kc_979410, kc_1178088, kc_6232410, kc_24644941, kc_36238189, kc_38270444, kc_392531318, kc_425693491, kc_1103515245, kc_1342154595, kc_2147483648, kc_42328242873, kc_891704255789, kc_1722105685577, kc_1858726030364, ct_0, ct_1, ct_2, ct_3, ct_4, ct_5, cf_0, cf_1, cf_2, cf_3, cf_4, cf_5, w_ty6, w_ty7, m_sv, m_z0, m_hd, m_g0, m_gs, m_s0, m_ss, m_ap, m_an, forall_const, true_and, and_true, ne_eq, not_true_eq_false, not_false_eq_true, false_implies, true_implies, implies_true, eq_self, reduceCtorEq, Nat.reduceDiv, Nat.reduceMod, Int.reduceToNat, or_true, true_or, or_false, false_or, or_self, m_it, m_if, m_c1, m_01, m_02, m_03, m_04, m_10, m_12, m_13, m_14, m_20, m_21, m_23, m_24, m_30, m_31, m_32, m_34, m_40, m_41, m_42, m_43]
    exact fin_w x s y h' e1_w e2_w e3_w
  · simp only [wf_4, wf_40, wf_5, wf_50, wf_6, wl_1, wt_1, wu_1, wa_1, wl_4, wt_4, wu_4, wa_4, wl_5, wt_5, wu_5, wa_5, wl_6, wt_6, wu_6, wa_6, wl_9, wt_9, wu_9, wa_9, wl_10, wt_10, wu_10, wa_10, wl_11, wt_11, wu_11, wa_11, wl_13, wt_13, wu_13, wa_13, wl_14, wt_14, wu_14, wa_14, wl_15, wt_15, wu_15, wa_15, wl_16, wt_16, wu_16, wa_16, wl_17, wt_17, wu_17, wa_17, wl_20, wt_20, wu_20, wa_20, wl_21, wt_21, wu_21, wa_21, wl_22, wt_22, wu_22, wa_22, wl_23, wt_23, wu_23, wa_23, wl_24, wt_24, wu_24, wa_24, wl_26, wt_26, wu_26, wa_26, wl_27, wt_27, wu_27, wa_27, wl_28, wt_28, wu_28, wa_28, we_1, we_3, we_10, we_14, we_15, we_16, we_17, we_18, we_20, we_21, we_22, we_24, we_25, we_26, we_27, we_28, we_30, we_31, we_32, wc_20, wc_21, wc_22, wc_24, wc_25, wc_26, wc_27, wc_3, wc_4, wc_7, wc_28, wc_32, ws_1, ws_2, ws_3, ws_4, ws_9, ws_10, ws_11, ws_14, ws_15, ws_16, ws_27, ws_17, ws_20, ws_28, kc_0, kc_1, kn_1, kc_2, kn_2, kc_3, kc_4, kc_5, kc_6, kc_7, kc_8, kc_9, kc_10, kc_12, kc_13, kc_14, kc_16, kc_17, kc_18, kc_19, kc_20, kc_21, kc_22, kc_24, kc_28, kc_30, kc_32, kc_37, kc_40, kc_41, kc_42, kc_43, kc_45, kc_48, kc_56, kc_57, kc_59, kc_60, kc_61, kc_64, kc_73, kc_78, kc_91, kc_95, kc_96, kc_97, kc_98, kc_99, kc_100, kc_112, kc_122, kc_125, kc_126, kc_150, kc_162, kc_163, kc_168, kc_186, kc_190, kc_200, kc_250, kc_255, kc_355, kc_356, kc_404, kc_405, kc_429, kc_573, kc_999, kc_1000, kc_1002, kc_1100, kc_1891, kc_2200, kc_4719, kc_4869, kc_4881, kc_5148, kc_9999, kn_9999, kc_10000, kc_12345, kc_19741, kc_25433, kc_65536, kc_320403, kc_628412, kc_629093, kc_660401, kc_679843, kc_918640, kc_979410, kc_1178088, kc_6232410, kc_24644941, kc_36238189, kc_38270444, kc_392531318, kc_425693491, kc_1103515245, kc_1342154595, kc_2147483648, kc_42328242873, kc_891704255789, kc_1722105685577, kc_1858726030364, ct_0, ct_1, ct_2, ct_3, ct_4, ct_5, cf_0, cf_1, cf_2, cf_3, cf_4, cf_5, w_ty6, w_ty7, m_sv, m_z0, m_hd, m_g0, m_gs, m_s0, m_ss, m_ap, m_an, forall_const, true_and, and_true, ne_eq, not_true_eq_false, not_false_eq_true, false_implies, true_implies, implies_true, eq_self, reduceCtorEq, Nat.reduceDiv, Nat.reduceMod, Int.reduceToNat, or_true, true_or, or_false, false_or, or_self, m_it, m_if, m_c1, m_01, m_02, m_03, m_04, m_10, m_12, m_13, m_14, m_20, m_21, m_23, m_24, m_30, m_31, m_32, m_34, m_40, m_41, m_42, m_43]
    exact fin_w x s y h' e1_w e2_w e3_w
  · simp only [wf_4, wf_40, wf_5, wf_50, wf_6, wl_1, wt_1, wu_1, wa_1, wl_4, wt_4, wu_4, wa_4, wl_5, wt_5, wu_5, wa_5, wl_6, wt_6, wu_6, wa_6, wl_9, wt_9, wu_9, wa_9, wl_10, wt_10, wu_10, wa_10, wl_11, wt_11, wu_11, wa_11, wl_13, wt_13, wu_13, wa_13, wl_14, wt_14, wu_14, wa_14, wl_15, wt_15, wu_15, wa_15, wl_16, wt_16, wu_16, wa_16, wl_17, wt_17, wu_17, wa_17, wl_20, wt_20, wu_20, wa_20, wl_21, wt_21, wu_21, wa_21, wl_22, wt_22, wu_22, wa_22, wl_23, wt_23, wu_23, wa_23, wl_24, wt_24, wu_24, wa_24, wl_26, wt_26, wu_26, wa_26, wl_27, wt_27, wu_27, wa_27, wl_28, wt_28, wu_28, wa_28, we_1, we_3, we_10, we_14, we_15, we_16, we_17, we_18, we_20, we_21, we_22, we_24, we_25, we_26, we_27, we_28, we_30, we_31, we_32, wc_20, wc_21, wc_22, wc_24, wc_25, wc_26, wc_27, wc_3, wc_4, wc_7, wc_28, wc_32, ws_1, ws_2, ws_3, ws_4, ws_9, ws_10, ws_11, ws_14, ws_15, ws_16, ws_27, ws_17, ws_20, ws_28, kc_0, kc_1, kn_1, kc_2, kn_2, kc_3, kc_4, kc_5, kc_6, kc_7, kc_8, kc_9, kc_10, kc_12, kc_13, kc_14, kc_16, kc_17, kc_18, kc_19, kc_20, kc_21, kc_22, kc_24, kc_28, kc_30, kc_32, kc_37, kc_40, kc_41, kc_42, kc_43, kc_45, kc_48, kc_56, kc_57, kc_59, kc_60, kc_61, kc_64, kc_73, kc_78, kc_91, kc_95, kc_96, kc_97, kc_98, kc_99, kc_100, kc_112, kc_122, kc_125, kc_126, kc_150, kc_162, kc_163, kc_168, kc_186, kc_190, kc_200, kc_250, kc_255, kc_355, kc_356, kc_404, kc_405, kc_429, kc_573, kc_999, kc_1000, kc_1002, kc_1100, kc_1891, kc_2200, kc_4719, kc_4869, kc_4881, kc_5148, kc_9999, kn_9999, kc_10000, kc_12345, kc_19741, kc_25433, kc_65536, kc_320403, kc_628412, kc_629093, kc_660401, kc_679843, kc_918640, kc_979410, kc_1178088, kc_6232410, kc_24644941, kc_36238189, kc_38270444, kc_392531318, kc_425693491, kc_1103515245, kc_1342154595, kc_2147483648, kc_42328242873, kc_891704255789, kc_1722105685577, kc_1858726030364, ct_0, ct_1, ct_2, ct_3, ct_4, ct_5, cf_0, cf_1, cf_2, cf_3, cf_4, cf_5, w_ty6, w_ty7, m_sv, m_z0, m_hd, m_g0, m_gs, m_s0, m_ss, m_ap, m_an, forall_const, true_and, and_true, ne_eq, not_true_eq_false, not_false_eq_true, false_implies, true_implies, implies_true, eq_self, reduceCtorEq, Nat.reduceDiv, Nat.reduceMod, Int.reduceToNat, or_true, true_or, or_false, false_or, or_self, m_it, m_if, m_c1, m_01, m_02, m_03, m_04, m_10, m_12, m_13, m_14, m_20, m_21, m_23, m_24, m_30, m_31, m_32, m_34, m_40, m_41, m_42, m_43]
    exact fin_w x s y h' e1_w e2_w e3_w
end HAB
end
section
/-! ===== the reference's methods by hand_w: who, judged ===== -/
section HAC
variable {P : Int × Int} {g : Nat × Nat} {xs : Nat → Int} {L K n : Nat} {ck : Nat → List Nat} {cW : Nat → Nat → Int} {h : XH} {J : XH → Prop}
theorem seen_n (hQ : QK P (r_T 0) J h) : 0 ≤ h 194 404 ∧ h 194 404 ≤ 8 := by
  have k4 : IV P (1, 0, 8) (h 194 404) := s_cell (j := 0) (i := 404) hQ (r := 6) (x := (404, 405, (1, 0, 8))) rfl (by decide) (by decide) (by decide)
  exact ⟨k4.1, k4.2.1⟩
theorem seen_reg : (List.range 8).all (fun k => decide ((r_A 194).2.2[39 + 3 * k]? = some (405 + 3 * k, 406 + 3 * k, (1, 0, 11)))) = true := by decide +kernel
theorem seen_sl (hQ : QK P (r_T 0) J h) {k : Nat} (hk : k < 8) : IV P (1, 0, 11) (h 194 (405 + 3 * k)) := by
  have h1 := List.all_eq_true.mp seen_reg k (List.mem_range.mpr hk)
  rw [decide_eq_true_eq] at h1
  have a := s_cell (j := 0) (i := 405 + 3 * k) hQ h1 (by dsimp only; omega) (by dsimp only; omega) (by decide)
  rw [show 429 * 0 + (405 + 3 * k) = 405 + 3 * k by omega] at a
  exact a
theorem t_305 (hJ : JS (r_T 0) J) (hK_w : 4294967300 ≤ K) (c227 : TotR P (r_T 0) J g (evF xs L ck K cW g_M n) 227) (c254 : TotR P (r_T 0) J g (evF xs L ck K cW g_M n) 254) (c257 : TotR P (r_T 0) J g (evF xs L ck K cW g_M n) 257) : TotR P (r_T 0) J g (evF xs L ck K cW g_M (n + 1)) 305 := by
  refine tot_hand gm_305 rp_305 rr_305 ru_305 fun av h hQ hv => ?_
  obtain ⟨x, rfl, hx⟩ := il1 hv
  obtain rfl : x = 182 := hx
  show wS _ _ K bb_305 [182, 0, 0, 0, 0, 0] h _
  have hfr := fr_all (xs := xs) (L := L) (ck := ck) (K := K) (cW := cW) n
  generalize evF xs L ck K cW g_M n = F at c227 c254 c257 hfr ⊢
  unfold bb_305
  simp only [wf_4, wf_40, wf_5, wf_50, wf_6, wl_1, wt_1, wu_1, wa_1, wl_4, wt_4, wu_4, wa_4, wl_5, wt_5, wu_5, wa_5, wl_6, wt_6, wu_6, wa_6, wl_9, wt_9, wu_9, wa_9, wl_10, wt_10, wu_10, wa_10, wl_11, wt_11, wu_11, wa_11, wl_13, wt_13, wu_13, wa_13, wl_14, wt_14, wu_14, wa_14, wl_15, wt_15, wu_15, wa_15, wl_16, wt_16, wu_16, wa_16, wl_17, wt_17, wu_17, wa_17, wl_20, wt_20, wu_20, wa_20, wl_21, wt_21, wu_21, wa_21, wl_22, wt_22, wu_22, wa_22, wl_23, wt_23, wu_23, wa_23, wl_24, wt_24, wu_24, wa_24, wl_26, wt_26, wu_26, wa_26, wl_27, wt_27, wu_27, wa_27, wl_28, wt_28, wu_28, wa_28, we_1, we_3, we_10, we_14, we_15, we_16, we_17, we_18, we_20, we_21, we_22, we_24, we_25, we_26, we_27, we_28, we_30, we_31, we_32, wc_20, wc_21, wc_22, wc_24, wc_25, wc_26, wc_27, wc_3, wc_4, wc_7, wc_28, wc_32, ws_1, ws_2, ws_3, ws_4, ws_9, ws_10, ws_11, ws_14, ws_15, ws_16, ws_27, ws_17, ws_20, ws_28, kc_0, kc_1, kn_1, kc_2, kn_2, kc_3, kc_4, kc_5, kc_6, kc_7, kc_8, kc_9, kc_10, kc_12, kc_13, kc_14, kc_16, kc_17, kc_18, kc_19, kc_20, kc_21, kc_22, kc_24, kc_28, kc_30, kc_32, kc_37, kc_40, kc_41, kc_42, kc_43, kc_45, kc_48, kc_56, kc_57, kc_59, kc_60, kc_61, kc_64, kc_73, kc_78, kc_91, kc_95, kc_96, kc_97, kc_98, kc_99, kc_100, kc_112, kc_122, kc_125, kc_126, kc_150, kc_162, kc_163, kc_168, kc_186, kc_190, kc_200, kc_250, kc_255, kc_355, kc_356, kc_404, kc_405, kc_429, kc_573, kc_999, kc_1000, kc_1002, kc_1100, kc_1891, kc_2200, kc_4719, kc_4869, kc_4881, kc_5148, kc_9999, kn_9999, kc_10000, kc_12345, kc_19741, kc_25433, kc_65536, kc_320403, kc_628412, kc_629093, kc_660401, kc_679843, kc_918640, kc_979410, kc_1178088, kc_6232410, kc_24644941, kc_36238189, kc_38270444, kc_392531318, kc_425693491, kc_1103515245, kc_1342154595, kc_2147483648, kc_42328242873, kc_891704255789, kc_1722105685577, kc_1858726030364, ct_0, ct_1, ct_2, ct_3, ct_4, ct_5, cf_0, cf_1, cf_2, cf_3, cf_4, cf_5, w_ty6, w_ty7, m_sv, m_z0, m_hd, m_g0, m_gs, m_s0, m_ss, m_ap, m_an, forall_const, true_and, and_true, ne_eq, not_true_eq_false, not_false_eq_true, false_implies, true_implies, implies_true, eq_self, reduceCtorEq, Nat.reduceDiv, Nat.reduceMod, Int.reduceToNat, or_true, true_or, or_false, false_or, or_self, m_it, m_if, m_c1, m_01, m_02, m_03, m_04, m_10, m_12, m_13, m_14, m_20, m_21, m_23, m_24, m_30, m_31, m_32, m_34, m_40, m_41, m_42, m_43]
  obtain ⟨v1_w, h1, a1_w, a2, a3, -⟩ := use1 c227 rp_227 rr_227 hQ il_this
  refine ⟨[v1_w], h1, a1_w, ?_⟩
  refine w_lp (fun en h' => ∃ z k i s w : Int, en = [182, z, k, i, s, w] ∧ 0 ≤ k ∧ k ≤ 8 ∧ InI z ∧ QK P (r_T 0) J h' ∧ KR (r_T 0) h h') (fun en _ => (8 - en.getD 2 0).toNat) ⟨_, 0, 0, 0, 0, rfl, by omega, by omega, iop_in _ _ _, a2, a3⟩ ?_
  rintro en h2 ⟨z, k, i, s, w, rfl, k0_w, k1_w, hz, q1_w, q2_w⟩
  refine ⟨?_, ?_⟩
  · show (8 - k).toNat < K
    omega
  simp only [wf_4, wf_40, wf_5, wf_50, wf_6, wl_1, wt_1, wu_1, wa_1, wl_4, wt_4, wu_4, wa_4, wl_5, wt_5, wu_5, wa_5, wl_6, wt_6, wu_6, wa_6, wl_9, wt_9, wu_9, wa_9, wl_10, wt_10, wu_10, wa_10, wl_11, wt_11, wu_11, wa_11, wl_13, wt_13, wu_13, wa_13, wl_14, wt_14, wu_14, wa_14, wl_15, wt_15, wu_15, wa_15, wl_16, wt_16, wu_16, wa_16, wl_17, wt_17, wu_17, wa_17, wl_20, wt_20, wu_20, wa_20, wl_21, wt_21, wu_21, wa_21, wl_22, wt_22, wu_22, wa_22, wl_23, wt_23, wu_23, wa_23, wl_24, wt_24, wu_24, wa_24, wl_26, wt_26, wu_26, wa_26, wl_27, wt_27, wu_27, wa_27, wl_28, wt_28, wu_28, wa_28, we_1, we_3, we_10, we_14, we_15, we_16, we_17, we_18, we_20, we_21, we_22, we_24, we_25, we_26, we_27, we_28, we_30, we_31, we_32, wc_20, wc_21, wc_22, wc_24, wc_25, wc_26, wc_27, wc_3, wc_4, wc_7, wc_28, wc_32, ws_1, ws_2, ws_3, ws_4, ws_9, ws_10, ws_11, ws_14, ws_15, ws_16, ws_27, ws_17, ws_20, ws_28, kc_0, kc_1, kn_1, kc_2, kn_2, kc_3, kc_4, kc_5, kc_6, kc_7, kc_8, kc_9, kc_10, kc_12, kc_13, kc_14, kc_16, kc_17, kc_18, kc_19, kc_20, kc_21, kc_22, kc_24, kc_28, kc_30, kc_32, kc_37, kc_40, kc_41, kc_42, kc_43, kc_45, kc_48, kc_56, kc_57, kc_59, kc_60, kc_61, kc_64, kc_73, kc_78, kc_91, kc_95, kc_96, kc_97, kc_98, kc_99, kc_100, kc_112, kc_122, kc_125, kc_126, kc_150, kc_162, kc_163, kc_168, kc_186, kc_190, kc_200, kc_250, kc_255, kc_355, kc_356, kc_404, kc_405, kc_429, kc_573, kc_999, kc_1000, kc_1002, kc_1100, kc_1891, kc_2200, kc_4719, kc_4869, kc_4881, kc_5148, kc_9999, kn_9999, kc_10000, kc_12345, kc_19741, kc_25433, kc_65536, kc_320403, kc_628412, kc_629093, kc_660401, kc_679843, kc_918640, kc_979410, kc_1178088, kc_6232410, kc_24644941, kc_36238189, kc_38270444, kc_392531318, kc_425693491, kc_1103515245, kc_1342154595, kc_2147483648, kc_42328242873, kc_891704255789, kc_1722105685577, kc_1858726030364, ct_0, ct_1, ct_2, ct_3, ct_4, ct_5, cf_0, cf_1, cf_2, cf_3, cf_4, cf_5, w_ty6, w_ty7, m_sv, m_z0, m_hd, m_g0, m_gs, m_s0, m_ss, m_ap, m_an, forall_const, true_and, and_true, ne_eq, not_true_eq_false, not_false_eq_true, false_implies, true_implies, implies_true, eq_self, reduceCtorEq, Nat.reduceDiv, Nat.reduceMod, Int.reduceToNat, or_true, true_or, or_false, false_or, or_self, m_it, m_if, m_c1, m_01, m_02, m_03, m_04, m_10, m_12, m_13, m_14, m_20, m_21, m_23, m_24, m_30, m_31, m_32, m_34, m_40, m_41, m_42, m_43]
  have b404 : (0 : Int) ≤ 404 ∧ (404 : Int) < 5148 := by decide
  have m := seen_n q1_w
  refine ⟨b404, fun hk => ?_, fun _ => ⟨q1_w, q2_w, IV.top hz, trivial⟩⟩
  have e1_w : j_iop 0 405 (j_iop 2 3 k) = 405 + 3 * k := by simp (disch := omega) only [jmul, jadd]
  rw [e1_w]
  have e2_w : (405 + 3 * k).toNat = 405 + 3 * k.toNat := by omega
  have bi : 0 ≤ 405 + 3 * k ∧ 405 + 3 * k < 5148 := ⟨by omega, by omega⟩
  have bi1 : 0 ≤ 405 + 3 * k + 1 ∧ 405 + 3 * k + 1 < 5148 := ⟨by omega, by omega⟩
  have bi2 : 0 ≤ 405 + 3 * k + 2 ∧ 405 + 3 * k + 2 < 5148 := ⟨by omega, by omega⟩
  rw [e2_w]
  have hsl := seen_sl q1_w (k := k.toNat) (by omega)
  obtain ⟨h3, b1, b2, b3⟩ := use0 (av := [182, 0, h2 194 (405 + 3 * k.toNat)]) c254 rp_254 rr_254 q1_w ⟨rfl, iv_b0, hsl, trivial⟩
  have b6 := fq hfr 194 b1 (by decide +kernel) rfl
  refine ⟨bi, [], h3, b1, ?_⟩
  refine w_lp (fun en h' => ∃ z s w : Int, en = [182, z, k, 405 + 3 * k, s, w] ∧ 0 ≤ s ∧ s ≤ 4 ∧ InI z ∧ QK P (r_T 0) J h' ∧ KR (r_T 0) h h') (fun en _ => (4 - en.getD 4 0).toNat) ⟨z, 0, w, rfl, by omega, by omega, hz, b2, q2_w.tr b3⟩ ?_
  rintro en h4 ⟨z, s, w, rfl, s0, s1_w, hz, q3_w, q4_w⟩
  refine ⟨?_, ?_⟩
  · show (4 - s).toNat < K
    omega
  simp only [wf_4, wf_40, wf_5, wf_50, wf_6, wl_1, wt_1, wu_1, wa_1, wl_4, wt_4, wu_4, wa_4, wl_5, wt_5, wu_5, wa_5, wl_6, wt_6, wu_6, wa_6, wl_9, wt_9, wu_9, wa_9, wl_10, wt_10, wu_10, wa_10, wl_11, wt_11, wu_11, wa_11, wl_13, wt_13, wu_13, wa_13, wl_14, wt_14, wu_14, wa_14, wl_15, wt_15, wu_15, wa_15, wl_16, wt_16, wu_16, wa_16, wl_17, wt_17, wu_17, wa_17, wl_20, wt_20, wu_20, wa_20, wl_21, wt_21, wu_21, wa_21, wl_22, wt_22, wu_22, wa_22, wl_23, wt_23, wu_23, wa_23, wl_24, wt_24, wu_24, wa_24, wl_26, wt_26, wu_26, wa_26, wl_27, wt_27, wu_27, wa_27, wl_28, wt_28, wu_28, wa_28, we_1, we_3, we_10, we_14, we_15, we_16, we_17, we_18, we_20, we_21, we_22, we_24, we_25, we_26, we_27, we_28, we_30, we_31, we_32, wc_20, wc_21, wc_22, wc_24, wc_25, wc_26, wc_27, wc_3, wc_4, wc_7, wc_28, wc_32, ws_1, ws_2, ws_3, ws_4, ws_9, ws_10, ws_11, ws_14, ws_15, ws_16, ws_27, ws_17, ws_20, ws_28, kc_0, kc_1, kn_1, kc_2, kn_2, kc_3, kc_4, kc_5, kc_6, kc_7, kc_8, kc_9, kc_10, kc_12, kc_13, kc_14, kc_16, kc_17, kc_18, kc_19, kc_20, kc_21, kc_22, kc_24, kc_28, kc_30, kc_32, kc_37, kc_40, kc_41, kc_42, kc_43, kc_45, kc_48, kc_56, kc_57, kc_59, kc_60, kc_61, kc_64, kc_73, kc_78, kc_91, kc_95, kc_96, kc_97, kc_98, kc_99, kc_100, kc_112, kc_122, kc_125, kc_126, kc_150, kc_162, kc_163, kc_168, kc_186, kc_190, kc_200, kc_250, kc_255, kc_355, kc_356, kc_404, kc_405, kc_429, kc_573, kc_999, kc_1000, kc_1002, kc_1100, kc_1891, kc_2200, kc_4719, kc_4869, kc_4881, kc_5148, kc_9999, kn_9999, kc_10000, kc_12345, kc_19741, kc_25433, kc_65536, kc_320403, kc_628412, kc_629093, kc_660401, kc_679843, kc_918640, kc_979410, kc_1178088, kc_6232410, kc_24644941, kc_36238189, kc_38270444, kc_392531318, kc_425693491, kc_1103515245, kc_1342154595, kc_2147483648, kc_42328242873, kc_891704255789, kc_1722105685577, kc_1858726030364, ct_0, ct_1, ct_2, ct_3, ct_4, ct_5, cf_0, cf_1, cf_2, cf_3, cf_4, cf_5, w_ty6, w_ty7, m_sv, m_z0, m_hd, m_g0, m_gs, m_s0, m_ss, m_ap, m_an, forall_const, true_and, and_true, ne_eq, not_true_eq_false, not_false_eq_true, false_implies, true_implies, implies_true, eq_self, reduceCtorEq, Nat.reduceDiv, Nat.reduceMod, Int.reduceToNat, or_true, true_or, or_false, false_or, or_self, m_it, m_if, m_c1, m_01, m_02, m_03, m_04, m_10, m_12, m_13, m_14, m_20, m_21, m_23, m_24, m_30, m_31, m_32, m_34, m_40, m_41, m_42, m_43]
  obtain ⟨v2, h5, d1_w, d2_w, d3_w, d4_w, d5, -⟩ := use1 c227 rp_227 rr_227 q3_w il_this
  refine ⟨[v2], h5, d1_w, fun hs => ?_, fun _ => ?_⟩
  · simp only [m_hd] at hs
    have f1_w : j_iop 0 (405 + 3 * k) 1 = 405 + 3 * k + 1 := jadd (by omega) (by omega)
    have f2_w : j_iop 0 (405 + 3 * k) 2 = 405 + 3 * k + 2 := jadd (by omega) (by omega)
    rw [f1_w, f2_w, e2_w, jinc (by omega) (by omega)]
    have hs5 := seen_sl d2_w (k := k.toNat) (by omega)
    obtain ⟨v3, h6, x1_w, x2_w, x3, x4_w⟩ := use1 (av := [182, 0, s, h5 194 (405 + 3 * k.toNat)]) c257 rp_257 rr_257 d2_w ⟨rfl, iv_b0, IV.top ⟨by omega, by omega⟩, hs5, trivial⟩
    have fin_w : ∀ (z' w' : Int), InI z' → (∃ z_1 s_1 w_1 : Int, [182, z', k, 405 + 3 * k, s + 1, w'] = [182, z_1, k, 405 + 3 * k, s_1, w_1] ∧ 0 ≤ s_1 ∧ s_1 ≤ 4 ∧ InI z_1 ∧ QK P (r_T 0) J h6 ∧ KR (r_T 0) h h6) ∧ (4 - (s + 1)).toNat < (4 - s).toNat := fun z' w' hz' => ⟨⟨z', s + 1, w', rfl, by omega, by omega, hz', x2_w, (q4_w.tr d3_w).tr x3⟩, by omega⟩
    exact ⟨bi, [v3], h6, x1_w, bi1, fun _ => ⟨bi2, fun _ => fin_w _ _ (iop_in _ _ _), fun _ => ⟨fun _ => fin_w _ _ (iop_in _ _ _), fun _ => fin_w _ _ (iop_in _ _ _)⟩⟩, fun _ => ⟨bi2, fun _ => ⟨fun _ => fin_w _ _ (iop_in _ _ _), fun _ => fin_w _ _ (iop_in _ _ _)⟩, fun _ => fin_w _ _ (iop_in _ _ _)⟩⟩
  · rw [jinc (by omega) (by omega)]
    refine ⟨⟨z, k + 1, _, s, w, rfl, by omega, by omega, hz, d2_w, q4_w.tr d3_w⟩, ?_⟩
    show (8 - (k + 1)).toNat < (8 - k).toNat
    omega
theorem q_lines (hQ : QK P (r_T 0) J h) : 0 ≤ h 191 0 ∧ h 191 0 ≤ 30 := by
  have k : IV P (1, 0, 30) (h 191 0) := q_cell hQ (q := 191) (r := 0) (x := (0, 1, (1, 0, 30))) (by decide) rfl rfl (by decide) (by decide)
  exact ⟨k.1, k.2.1⟩
theorem t_273 (hK_w : 4294967300 ≤ K) (c198 : TotW g (evF xs L ck K cW g_M n)) (c240 : TotR P (r_T 0) (RJ P) g (evF xs L ck K cW g_M n) 240) (c264 : TotR P (r_T 0) (RJ P) g (evF xs L ck K cW g_M n) 264) (c266 : TotR P (r_T 0) (RJ P) g (evF xs L ck K cW g_M n) 266) (c259 : TotR P (r_T 0) (RJ P) g (evF xs L ck K cW g_M n) 259) : TotR P (r_T 0) (RJ P) g (evF xs L ck K cW g_M (n + 1)) 273 := by
  have hJ := rj_js (P := P)
  refine tot_hand gm_273 rp_273 rr_273 ru_273 fun av h hQ hv => ?_
  obtain ⟨x, a, rfl, hx, ha_w⟩ := il2 hv
  obtain rfl : x = 182 := hx
  show wS _ _ K bb_273 [182, a, 0, 0, 0] h _
  generalize evF xs L ck K cW g_M n = F at c198 c240 c264 c266 c259 ⊢
  unfold bb_273
  simp only [wf_4, wf_40, wf_5, wf_50, wf_6, wl_1, wt_1, wu_1, wa_1, wl_4, wt_4, wu_4, wa_4, wl_5, wt_5, wu_5, wa_5, wl_6, wt_6, wu_6, wa_6, wl_9, wt_9, wu_9, wa_9, wl_10, wt_10, wu_10, wa_10, wl_11, wt_11, wu_11, wa_11, wl_13, wt_13, wu_13, wa_13, wl_14, wt_14, wu_14, wa_14, wl_15, wt_15, wu_15, wa_15, wl_16, wt_16, wu_16, wa_16, wl_17, wt_17, wu_17, wa_17, wl_20, wt_20, wu_20, wa_20, wl_21, wt_21, wu_21, wa_21, wl_22, wt_22, wu_22, wa_22, wl_23, wt_23, wu_23, wa_23, wl_24, wt_24, wu_24, wa_24, wl_26, wt_26, wu_26, wa_26, wl_27, wt_27, wu_27, wa_27, wl_28, wt_28, wu_28, wa_28, we_1, we_3, we_10, we_14, we_15, we_16, we_17, we_18, we_20, we_21, we_22, we_24, we_25, we_26, we_27, we_28, we_30, we_31, we_32, wc_20, wc_21, wc_22, wc_24, wc_25, wc_26, wc_27, wc_3, wc_4, wc_7, wc_28, wc_32, ws_1, ws_2, ws_3, ws_4, ws_9, ws_10, ws_11, ws_14, ws_15, ws_16, ws_27, ws_17, ws_20, ws_28, kc_0, kc_1, kn_1, kc_2, kn_2, kc_3, kc_4, kc_5, kc_6, kc_7, kc_8, kc_9, kc_10, kc_12, kc_13, kc_14, kc_16, kc_17, kc_18, kc_19, kc_20, kc_21, kc_22, kc_24, kc_28, kc_30, kc_32, kc_37, kc_40, kc_41, kc_42, kc_43, kc_45, kc_48, kc_56, kc_57, kc_59, kc_60, kc_61, kc_64, kc_73, kc_78, kc_91, kc_95, kc_96, kc_97, kc_98, kc_99, kc_100, kc_112, kc_122, kc_125, kc_126, kc_150, kc_162, kc_163, kc_168, kc_186, kc_190, kc_200, kc_250, kc_255, kc_355, kc_356, kc_404, kc_405, kc_429, kc_573, kc_999, kc_1000, kc_1002, kc_1100, kc_1891, kc_2200, kc_4719, kc_4869, kc_4881, kc_5148, kc_9999, kn_9999, kc_10000, kc_12345, kc_19741, kc_25433, kc_65536, kc_320403, kc_628412, kc_629093, kc_660401, kc_679843, kc_918640, kc_979410, kc_1178088, kc_6232410, kc_24644941, kc_36238189, kc_38270444, kc_392531318, kc_425693491, kc_1103515245, kc_1342154595, kc_2147483648, kc_42328242873, kc_891704255789, kc_1722105685577, kc_1858726030364, ct_0, ct_1, ct_2, ct_3, ct_4, ct_5, cf_0, cf_1, cf_2, cf_3, cf_4, cf_5, w_ty6, w_ty7, m_sv, m_z0, m_hd, m_g0, m_gs, m_s0, m_ss, m_ap, m_an, forall_const, true_and, and_true, ne_eq, not_true_eq_false, not_false_eq_true, false_implies, true_implies, implies_true, eq_self, reduceCtorEq, Nat.reduceDiv, Nat.reduceMod, Int.reduceToNat, or_true, true_or, or_false, false_or, or_self, m_it, m_if, m_c1, m_01, m_02, m_03, m_04, m_10, m_12, m_13, m_14, m_20, m_21, m_23, m_24, m_30, m_31, m_32, m_34, m_40, m_41, m_42, m_43]
  obtain ⟨z1, z2⟩ := th0 hQ hJ
  obtain ⟨y1, y2⟩ := fd_QK hQ hJ (k := 0) (v := 1) (Or.inl rfl) ⟨by decide, by decide, in_1⟩
  refine ⟨_, h, c198 a 0 2 h, fun _ => ⟨fun k => absurd k (by rw [up_eq]; decide), fun _ => ?_⟩, fun _ => ⟨fun _ => ⟨y1, y2, IV.top in_0, trivial⟩, fun k => absurd k (by rw [up_eq]; decide)⟩⟩
  obtain ⟨h1, a1_w, a2, a3⟩ := use0 (av := [182, 4719]) c240 rp_240 rr_240 z1 ⟨rfl, iv_trial, trivial⟩
  refine ⟨[], h1, a1_w, ?_⟩
  have hW := hQ.2.2.2.2.2
  have hl := q_lines hQ
  refine w_lp (fun en h' => ∃ w n i : Int, en = [182, a, w, n, i] ∧ 0 ≤ n ∧ n ≤ 30 ∧ InI w ∧ QK P (r_T 0) (RJ P) h' ∧ KR (r_T 0) h h') (fun en _ => (30 - en.getD 3 0).toNat) ⟨-1, 0, 0, rfl, by omega, by omega, in_m1, a2, z2.tr a3⟩ ?_
  rintro en h2 ⟨w, n, i, rfl, n0_w, n1_w, hw, q1_w, q2_w⟩
  refine ⟨?_, ?_⟩
  · show (30 - n).toNat < K
    omega
  simp only [wf_4, wf_40, wf_5, wf_50, wf_6, wl_1, wt_1, wu_1, wa_1, wl_4, wt_4, wu_4, wa_4, wl_5, wt_5, wu_5, wa_5, wl_6, wt_6, wu_6, wa_6, wl_9, wt_9, wu_9, wa_9, wl_10, wt_10, wu_10, wa_10, wl_11, wt_11, wu_11, wa_11, wl_13, wt_13, wu_13, wa_13, wl_14, wt_14, wu_14, wa_14, wl_15, wt_15, wu_15, wa_15, wl_16, wt_16, wu_16, wa_16, wl_17, wt_17, wu_17, wa_17, wl_20, wt_20, wu_20, wa_20, wl_21, wt_21, wu_21, wa_21, wl_22, wt_22, wu_22, wa_22, wl_23, wt_23, wu_23, wa_23, wl_24, wt_24, wu_24, wa_24, wl_26, wt_26, wu_26, wa_26, wl_27, wt_27, wu_27, wa_27, wl_28, wt_28, wu_28, wa_28, we_1, we_3, we_10, we_14, we_15, we_16, we_17, we_18, we_20, we_21, we_22, we_24, we_25, we_26, we_27, we_28, we_30, we_31, we_32, wc_20, wc_21, wc_22, wc_24, wc_25, wc_26, wc_27, wc_3, wc_4, wc_7, wc_28, wc_32, ws_1, ws_2, ws_3, ws_4, ws_9, ws_10, ws_11, ws_14, ws_15, ws_16, ws_27, ws_17, ws_20, ws_28, kc_0, kc_1, kn_1, kc_2, kn_2, kc_3, kc_4, kc_5, kc_6, kc_7, kc_8, kc_9, kc_10, kc_12, kc_13, kc_14, kc_16, kc_17, kc_18, kc_19, kc_20, kc_21, kc_22, kc_24, kc_28, kc_30, kc_32, kc_37, kc_40, kc_41, kc_42, kc_43, kc_45, kc_48, kc_56, kc_57, kc_59, kc_60, kc_61, kc_64, kc_73, kc_78, kc_91, kc_95, kc_96, kc_97, kc_98, kc_99, kc_100, kc_112, kc_122, kc_125, kc_126, kc_150, kc_162, kc_163, kc_168, kc_186, kc_190, kc_200, kc_250, kc_255, kc_355, kc_356, kc_404, kc_405, kc_429, kc_573, kc_999, kc_1000, kc_1002, kc_1100, kc_1891, kc_2200, kc_4719, kc_4869, kc_4881, kc_5148, kc_9999, kn_9999, kc_10000, kc_12345, kc_19741, kc_25433, kc_65536, kc_320403, kc_628412, kc_629093, kc_660401, kc_679843, kc_918640, kc_979410, kc_1178088, kc_6232410, kc_24644941, kc_36238189, kc_38270444, kc_392531318, kc_425693491, kc_1103515245, kc_1342154595, kc_2147483648, kc_42328242873, kc_891704255789, kc_1722105685577, kc_1858726030364, ct_0, ct_1, ct_2, ct_3, ct_4, ct_5, cf_0, cf_1, cf_2, cf_3, cf_4, cf_5, w_ty6, w_ty7, m_sv, m_z0, m_hd, m_g0, m_gs, m_s0, m_ss, m_ap, m_an, forall_const, true_and, and_true, ne_eq, not_true_eq_false, not_false_eq_true, false_implies, true_implies, implies_true, eq_self, reduceCtorEq, Nat.reduceDiv, Nat.reduceMod, Int.reduceToNat, or_true, true_or, or_false, false_or, or_self, m_it, m_if, m_c1, m_01, m_02, m_03, m_04, m_10, m_12, m_13, m_14, m_20, m_21, m_23, m_24, m_30, m_31, m_32, m_34, m_40, m_41, m_42, m_43]
  have e191 : ∀ k, h2 191 k = h 191 k := fun k => q2_w 191 k rfl
  have e1_w : ∀ (h3 : XH), KR (r_T 0) h h3 → ∀ k, h3 191 k = h 191 k := fun h3 k3 k => k3 191 k rfl
  simp only [e191]
  have f1_w : n < h 191 0 → j_iop 0 1 (j_iop 2 4 n) = 1 + 4 * n := fun k => by simp (disch := omega) only [jmul, jadd]
  have f2_w : (1 + 4 * n).toNat = 1 + 4 * n.toNat := by omega
  refine ⟨by decide, fun hn => ?_, fun hn => ?_⟩
  · rw [f1_w hn, f2_w, show j_iop 0 (1 + 4 * n) 1 = 2 + 4 * n from (jadd (by omega) (by omega)).trans (by omega), show j_iop 0 (1 + 4 * n) 2 = 3 + 4 * n from (jadd (by omega) (by omega)).trans (by omega), show j_iop 0 (1 + 4 * n) 3 = 4 + 4 * n from (jadd (by omega) (by omega)).trans (by omega), show (2 + 4 * n).toNat = 2 + 4 * n.toNat by omega, show (3 + 4 * n).toNat = 3 + 4 * n.toNat by omega, show (4 + 4 * n).toNat = 4 + 4 * n.toNat by omega]
    obtain ⟨l0, l1, l2⟩ := hW n.toNat (by omega)
    generalize h 191 (1 + 4 * n.toNat) = A at l0 l1 l2 ⊢
    generalize h 191 (2 + 4 * n.toNat) = B at l0 l1 l2 ⊢
    generalize h 191 (3 + 4 * n.toNat) = C at l0 l1 l2 ⊢
    generalize h 191 (4 + 4 * n.toNat) = D at l0 l1 l2 ⊢
    rw [jinc (by omega) (by omega)]
    have b1 : 0 ≤ 1 + 4 * n ∧ 1 + 4 * n < 250 := ⟨by omega, by omega⟩
    have b2 : 0 ≤ 2 + 4 * n ∧ 2 + 4 * n < 250 := ⟨by omega, by omega⟩
    have b3 : 0 ≤ 3 + 4 * n ∧ 3 + 4 * n < 250 := ⟨by omega, by omega⟩
    have b4 : 0 ≤ 4 + 4 * n ∧ 4 + 4 * n < 250 := ⟨by omega, by omega⟩
    have bT : (0 : Int) ≤ 4881 ∧ (4881 : Int) < 5148 := by decide
    have nm := q_nM q1_w
    have fin_w : ∀ (w' : Int) (h3 : XH), InI w' → QK P (r_T 0) (RJ P) h3 → KR (r_T 0) h2 h3 → (∃ w_1 n_1 i : Int, [182, a, w', n + 1, 1 + 4 * n] = [182, a, w_1, n_1, i] ∧ 0 ≤ n_1 ∧ n_1 ≤ 30 ∧ InI w_1 ∧ QK P (r_T 0) (RJ P) h3 ∧ KR (r_T 0) h h3) ∧ (30 - (n + 1)).toNat < (30 - n).toNat := fun w' h3 k1_w k2 k3 => ⟨⟨w', n + 1, _, rfl, by omega, by omega, k1_w, k2, q2_w.tr k3⟩, by omega⟩
    refine ⟨b1, fun hA => ?_, fun hA => ⟨b1, fun hB_w => ?_, fun hB_w => ⟨b1, fun hC => ?_, fun hC => ⟨bT, fun hr => ⟨bT, ?_⟩, fun _ => ⟨fun _ => fin_w _ _ ⟨by omega, by omega⟩ q1_w KR.rf, fun _ => fin_w _ _ hw q1_w KR.rf⟩⟩⟩⟩⟩
    · obtain ⟨u1, u2_w, u3, u4_w, u5, u6⟩ := l0 hA
      obtain ⟨h3, x1_w, x2_w, x3⟩ := use0 (av := [182, 4719, B, C, D]) c264 rp_264 rr_264 q1_w ⟨rfl, iv_trial, ⟨u1, u2_w, nm.2.2⟩, ⟨u3, u4_w, ⟨by omega, by omega⟩⟩, ⟨by omega, u6, ⟨by omega, by omega⟩⟩, trivial⟩
      exact ⟨b2, b3, b4, [], h3, x1_w, fin_w _ _ hw x2_w x3⟩
    · obtain ⟨u1, u2_w, u3, u4_w, u5, u6⟩ := l1 hB_w
      obtain ⟨h3, x1_w, x2_w, x3⟩ := use0 (av := [182, 4719, B, C, D]) c266 rp_266 rr_266 q1_w ⟨rfl, iv_trial, ⟨u1, u2_w, nm.2.2⟩, ⟨u3, u4_w, ⟨by omega, by omega⟩⟩, ⟨u5, by omega, ⟨by omega, by omega⟩⟩, trivial⟩
      exact ⟨b2, b3, b4, [], h3, x1_w, fin_w _ _ hw x2_w x3⟩
    · obtain ⟨u1, u2_w, u3, u4_w⟩ := l2 hC
      rw [jadd (x := 4869) (y := B) (by omega) (by omega), show (4869 + B).toNat = 429 * 11 + (150 + B.toNat) by omega]
      obtain ⟨x1_w, x2_w⟩ := st_QK q1_w hJ (j := 11) (i := 150 + B.toNat) (v := C) (by decide) (by omega) (st_fit_ok (lo_w := 150) (hi_w := 162) (t := (1, 0, 9999)) (by decide +kernel) (by omega) (by omega) ⟨u3, u4_w, ⟨by omega, by omega⟩⟩) ⟨by omega, by omega⟩
      exact ⟨b2, b3, ⟨by omega, by omega⟩, fin_w _ _ hw x1_w x2_w⟩
    · have k162 : IV P (1, 0, 4) (h2 194 4881) := s_cell (j := 11) (i := 162) q1_w (r := 3) (x := (162, 163, (1, 0, 4))) rfl (by decide) (by decide) (by decide)
      have r0 := k162.1
      rw [jadd (x := h2 194 4881) (y := 1) (by omega) (by omega)]
      obtain ⟨x1_w, x2_w⟩ := st_QK q1_w hJ (j := 11) (i := 162) (v := h2 194 4881 + 1) (by decide) (by decide) (st_fit_ok (lo_w := 162) (hi_w := 163) (t := (1, 0, 4)) (by decide +kernel) (by decide) (by decide) ⟨by omega, by omega, ⟨by omega, by omega⟩⟩) ⟨by omega, by omega⟩
      exact fin_w _ _ hw x1_w x2_w
  · refine ⟨fun _ => ⟨q1_w, q2_w, IV.top hw, trivial⟩, fun _ => ⟨fun _ => ⟨by decide, q1_w, q2_w, IV.top (ht_int q1_w.1 (by decide) _), trivial⟩, fun _ => ?_⟩⟩
    obtain ⟨v, h3, x1_w, x2_w, x3, x4_w⟩ := use1 (av := [182, 4719]) c259 rp_259 rr_259 q1_w ⟨rfl, iv_trial, trivial⟩
    exact ⟨[v], h3, x1_w, x2_w, q2_w.tr x3, x4_w, trivial⟩
end HAC
end
section
/-! ===== the reference's methods behind_w the parser: all of them (written_w by wip/tools/asm.py) ===== -/
section ASM
variable {P : Int × Int} {g : Nat × Nat} {xs : Nat → Int} {L K : Nat} {ck : Nat → List Nat} {cW : Nat → Nat → Int}
theorem rd_223 : r_dp 223 = 1 := by decide +kernel
theorem rd_224 : r_dp 224 = 1 := by decide +kernel
theorem rd_225 : r_dp 225 = 1 := by decide +kernel
theorem rd_227 : r_dp 227 = 1 := by decide +kernel
theorem rd_228 : r_dp 228 = 1 := by decide +kernel
theorem rd_229 : r_dp 229 = 1 := by decide +kernel
theorem rd_230 : r_dp 230 = 1 := by decide +kernel
theorem rd_231 : r_dp 231 = 1 := by decide +kernel
theorem rd_232 : r_dp 232 = 1 := by decide +kernel
theorem rd_233 : r_dp 233 = 2 := by decide +kernel
theorem rd_234 : r_dp 234 = 2 := by decide +kernel
theorem rd_236 : r_dp 236 = 2 := by decide +kernel
theorem rd_239 : r_dp 239 = 3 := by decide +kernel
theorem rd_240 : r_dp 240 = 2 := by decide +kernel
theorem rd_242 : r_dp 242 = 2 := by decide +kernel
theorem rd_243 : r_dp 243 = 1 := by decide +kernel
theorem rd_244 : r_dp 244 = 2 := by decide +kernel
theorem rd_245 : r_dp 245 = 2 := by decide +kernel
theorem rd_246 : r_dp 246 = 1 := by decide +kernel
theorem rd_247 : r_dp 247 = 2 := by decide +kernel
theorem rd_249 : r_dp 249 = 4 := by decide +kernel
theorem rd_251 : r_dp 251 = 1 := by decide +kernel
theorem rd_252 : r_dp 252 = 2 := by decide +kernel
theorem rd_253 : r_dp 253 = 3 := by decide +kernel
theorem rd_254 : r_dp 254 = 6 := by decide +kernel
theorem rd_256 : r_dp 256 = 1 := by decide +kernel
theorem rd_257 : r_dp 257 = 2 := by decide +kernel
theorem rd_259 : r_dp 259 = 8 := by decide +kernel
theorem rd_264 : r_dp 264 = 1 := by decide +kernel
theorem rd_266 : r_dp 266 = 1 := by decide +kernel
theorem rd_271 : r_dp 271 = 8 := by decide +kernel
theorem rd_272 : r_dp 272 = 2 := by decide +kernel
theorem rd_273 : r_dp 273 = 9 := by decide +kernel
theorem rd_284 : r_dp 284 = 4 := by decide +kernel
theorem rd_285 : r_dp 285 = 7 := by decide +kernel
theorem rd_287 : r_dp 287 = 7 := by decide +kernel
theorem rd_298 : r_dp 298 = 2 := by decide +kernel
theorem rd_304 : r_dp 304 = 3 := by decide +kernel
theorem rd_305 : r_dp 305 = 7 := by decide +kernel
theorem rd_309 : r_dp 309 = 1 := by decide +kernel
theorem rd_310 : r_dp 310 = 9 := by decide +kernel
theorem rd_311 : r_dp 311 = 2 := by decide +kernel
theorem h_224 (hK2 : 20000000000 ≤ K) {n : Nat} (ih_w : ∀ m q, m ≤ n + 1 → r_dp q < m → TotR P (r_T 0) (RJ P) g (evF xs L ck K cW g_M m) q) : TotR P (r_T 0) (RJ P) g (evF xs L ck K cW g_M (n + 1 + 1)) 224 := by
  have hK_w : 4294967300 ≤ K := by omega
  have hJ := rj_js (P := P)
  exact t_224 (n := n + 1) hJ hK_w
theorem h_230 (hK2 : 20000000000 ≤ K) {n : Nat} (ih_w : ∀ m q, m ≤ n + 1 → r_dp q < m → TotR P (r_T 0) (RJ P) g (evF xs L ck K cW g_M m) q) : TotR P (r_T 0) (RJ P) g (evF xs L ck K cW g_M (n + 1 + 1)) 230 := by
  have hK_w : 4294967300 ≤ K := by omega
  have hJ := rj_js (P := P)
  exact t_230 (n := n + 1)
theorem h_232 (hK2 : 20000000000 ≤ K) {n : Nat} (ih_w : ∀ m q, m ≤ n + 1 → r_dp q < m → TotR P (r_T 0) (RJ P) g (evF xs L ck K cW g_M m) q) : TotR P (r_T 0) (RJ P) g (evF xs L ck K cW g_M (n + 1 + 1)) 232 := by
  have hK_w : 4294967300 ≤ K := by omega
  have hJ := rj_js (P := P)
  exact t_232 (n := n + 1)
theorem h_240 (hK2 : 20000000000 ≤ K) {n : Nat} (ih_w : ∀ m q, m ≤ n + 2 → r_dp q < m → TotR P (r_T 0) (RJ P) g (evF xs L ck K cW g_M m) q) : TotR P (r_T 0) (RJ P) g (evF xs L ck K cW g_M (n + 2 + 1)) 240 := by
  have hK_w : 4294967300 ≤ K := by omega
  have hJ := rj_js (P := P)
  exact t_240 (n := n + 2) hJ hK_w (ih_w (n + 2) 228 (by omega) (by rw [rd_228]; omega)) (ih_w (n + 2) 225 (by omega) (by rw [rd_225]; omega))
theorem h_242 (hK2 : 20000000000 ≤ K) {n : Nat} (ih_w : ∀ m q, m ≤ n + 2 → r_dp q < m → TotR P (r_T 0) (RJ P) g (evF xs L ck K cW g_M m) q) : TotR P (r_T 0) (RJ P) g (evF xs L ck K cW g_M (n + 2 + 1)) 242 := by
  have hK_w : 4294967300 ≤ K := by omega
  have hJ := rj_js (P := P)
  exact t_242 (n := n + 1) hJ hK_w
theorem h_244 (hK2 : 20000000000 ≤ K) {n : Nat} (ih_w : ∀ m q, m ≤ n + 2 → r_dp q < m → TotR P (r_T 0) (RJ P) g (evF xs L ck K cW g_M m) q) : TotR P (r_T 0) (RJ P) g (evF xs L ck K cW g_M (n + 2 + 1)) 244 := by
  have hK_w : 4294967300 ≤ K := by omega
  have hJ := rj_js (P := P)
  intro av h hQ hv
  rw [rp_244] at hv
  obtain ⟨x, b, m, p, rfl, hx, hb_w, hm_w, hp⟩ := il4 hv
  obtain rfl : x = 182 := hx
  obtain ⟨v, h', e1_w, e2_w, e3_w, e4_w, e5_w⟩ := (s_244 (n := n + 2) hK_w (ih_w (n + 2) 243 (by omega) (by rw [rd_243]; omega))) h b m p hQ hb_w hm_w hp.1 hp.2.1
  have p2_w := hp.2.1
  exact ⟨[v], h', e1_w, e2_w, e3_w, by rw [rr_244]; exact ⟨⟨e4_w, by omega, ⟨by omega, by omega⟩⟩, trivial⟩, fun _ => by rw [ru_244]; exact hv⟩
theorem h_245 (hK2 : 20000000000 ≤ K) {n : Nat} (ih_w : ∀ m q, m ≤ n + 2 → r_dp q < m → TotR P (r_T 0) (RJ P) g (evF xs L ck K cW g_M m) q) : TotR P (r_T 0) (RJ P) g (evF xs L ck K cW g_M (n + 2 + 1)) 245 := by
  have hK_w : 4294967300 ≤ K := by omega
  have hJ := rj_js (P := P)
  intro av h hQ hv
  rw [rp_245] at hv
  obtain ⟨x, b, m, p, rfl, hx, hb_w, hm_w, hp⟩ := il4 hv
  obtain rfl : x = 182 := hx
  obtain ⟨v, h', e1_w, e2_w, e3_w, e4_w⟩ := (s_245 (n := n + 2) hK_w (ih_w (n + 2) 243 (by omega) (by rw [rd_243]; omega)) (ih_w (n + 2) 225 (by omega) (by rw [rd_225]; omega))) h b m p hQ hb_w hm_w hp.1 hp.2.1
  have p1_w := hp.1
  exact ⟨[v], h', e1_w, e2_w, e3_w, by rw [rr_245]; exact ⟨⟨by omega, by omega, ⟨by omega, by omega⟩⟩, trivial⟩, fun _ => by rw [ru_245]; exact hv⟩
theorem h_247 (hK2 : 20000000000 ≤ K) {n : Nat} (ih_w : ∀ m q, m ≤ n + 2 → r_dp q < m → TotR P (r_T 0) (RJ P) g (evF xs L ck K cW g_M m) q) : TotR P (r_T 0) (RJ P) g (evF xs L ck K cW g_M (n + 2 + 1)) 247 := by
  have hK_w : 4294967300 ≤ K := by omega
  have hJ := rj_js (P := P)
  intro av h hQ hv
  rw [rp_247] at hv
  obtain ⟨x, c, p, t, e, rfl, hx, hc_w, hp, ht, he⟩ := il5 hv
  obtain rfl : x = 182 := hx
  obtain ⟨v, h', e1_w, e2_w, e3_w, e4_w, -⟩ := (s_247 (n := n + 2) hK_w (s_232 (n := n + 1))) h c p t e hQ hc_w hp.1 hp.2.1 ht.1 ht.2.1 he.1 he.2.1
  exact ⟨[v], h', e1_w, e2_w, e3_w, by rw [rr_247]; exact ⟨IV.top e4_w, trivial⟩, fun _ => by rw [ru_247]; exact hv⟩
theorem h_249 (hK2 : 20000000000 ≤ K) {n : Nat} (ih_w : ∀ m q, m ≤ n + 4 → r_dp q < m → TotR P (r_T 0) (RJ P) g (evF xs L ck K cW g_M m) q) : TotR P (r_T 0) (RJ P) g (evF xs L ck K cW g_M (n + 4 + 1)) 249 := by
  have hK_w : 4294967300 ≤ K := by omega
  have hJ := rj_js (P := P)
  exact t_249 (n := n + 4) (s_244 (n := n + 3) hK_w (ih_w (n + 3) 243 (by omega) (by rw [rd_243]; omega))) (s_245 (n := n + 3) hK_w (ih_w (n + 3) 243 (by omega) (by rw [rd_243]; omega)) (ih_w (n + 3) 225 (by omega) (by rw [rd_225]; omega))) (s_248 (n := n + 3) (ih_w (n + 3) 243 (by omega) (by rw [rd_243]; omega)) (ih_w (n + 3) 230 (by omega) (by rw [rd_230]; omega)) (ih_w (n + 3) 246 (by omega) (by rw [rd_246]; omega)) (s_247 (n := n + 2) hK_w (s_232 (n := n + 1)))) (ih_w (n + 4) 229 (by omega) (by rw [rd_229]; omega)) (ih_w (n + 4) 243 (by omega) (by rw [rd_243]; omega))
theorem h_251 (hK2 : 20000000000 ≤ K) {n : Nat} (ih_w : ∀ m q, m ≤ n + 1 → r_dp q < m → TotR P (r_T 0) (RJ P) g (evF xs L ck K cW g_M m) q) : TotR P (r_T 0) (RJ P) g (evF xs L ck K cW g_M (n + 1 + 1)) 251 := by
  have hK_w : 4294967300 ≤ K := by omega
  have hJ := rj_js (P := P)
  exact t_251 (n := n + 1) hJ hK2
theorem h_253 (hK2 : 20000000000 ≤ K) {n : Nat} (ih_w : ∀ m q, m ≤ n + 3 → r_dp q < m → TotR P (r_T 0) (RJ P) g (evF xs L ck K cW g_M m) q) : TotR P (r_T 0) (RJ P) g (evF xs L ck K cW g_M (n + 3 + 1)) 253 := by
  have hK_w : 4294967300 ≤ K := by omega
  have hJ := rj_js (P := P)
  exact t_253 (n := n + 3) (ih_w (n + 3) 231 (by omega) (by rw [rd_231]; omega)) (ih_w (n + 3) 252 (by omega) (by rw [rd_252]; omega)) (s_222 (n := n + 2) hK_w (ih_w (n + 2) 223 (by omega) (by rw [rd_223]; omega)))
theorem h_271 (hK2 : 20000000000 ≤ K) {n : Nat} (ih_w : ∀ m q, m ≤ n + 8 → r_dp q < m → TotR P (r_T 0) (RJ P) g (evF xs L ck K cW g_M m) q) : TotR P (r_T 0) (RJ P) g (evF xs L ck K cW g_M (n + 8 + 1)) 271 := by
  have hK_w : 4294967300 ≤ K := by omega
  have hJ := rj_js (P := P)
  exact t_271 (n := n + 8) hJ (s_242 (n := n + 6) hJ hK_w) (s_270 (n := n + 7) hJ hK_w (ih_w (n + 7) 225 (by omega) (by rw [rd_225]; omega)) (ih_w (n + 7) 227 (by omega) (by rw [rd_227]; omega)) (ih_w (n + 7) 228 (by omega) (by rw [rd_228]; omega)) (ih_w (n + 7) 254 (by omega) (by rw [rd_254]; omega)) (ih_w (n + 7) 257 (by omega) (by rw [rd_257]; omega)) (ih_w (n + 7) 256 (by omega) (by rw [rd_256]; omega)) (ih_w (n + 7) 230 (by omega) (by rw [rd_230]; omega)) (s_269 (n := n + 6) hJ hK_w))
theorem h_272 (hK2 : 20000000000 ≤ K) {n : Nat} (ih_w : ∀ m q, m ≤ n + 2 → r_dp q < m → TotR P (r_T 0) (RJ P) g (evF xs L ck K cW g_M m) q) : TotR P (r_T 0) (RJ P) g (evF xs L ck K cW g_M (n + 2 + 1)) 272 := by
  have hK_w : 4294967300 ≤ K := by omega
  have hJ := rj_js (P := P)
  exact t_272 (n := n + 2) hJ (s_224 (n := n + 1) hJ hK_w)
theorem h_273 (hK2 : 20000000000 ≤ K) {n : Nat} (ih_w : ∀ m q, m ≤ n + 9 → r_dp q < m → TotR P (r_T 0) (RJ P) g (evF xs L ck K cW g_M m) q) : TotR P (r_T 0) (RJ P) g (evF xs L ck K cW g_M (n + 9 + 1)) 273 := by
  have hK_w : 4294967300 ≤ K := by omega
  have hJ := rj_js (P := P)
  exact t_273 (n := n + 9) hK_w tot_198 (ih_w (n + 9) 240 (by omega) (by rw [rd_240]; omega)) (ih_w (n + 9) 264 (by omega) (by rw [rd_264]; omega)) (ih_w (n + 9) 266 (by omega) (by rw [rd_266]; omega)) (ih_w (n + 9) 259 (by omega) (by rw [rd_259]; omega))
theorem h_284 (hK2 : 20000000000 ≤ K) {n : Nat} (ih_w : ∀ m q, m ≤ n + 4 → r_dp q < m → TotR P (r_T 0) (RJ P) g (evF xs L ck K cW g_M m) q) : TotR P (r_T 0) (RJ P) g (evF xs L ck K cW g_M (n + 4 + 1)) 284 := by
  have hK_w : 4294967300 ≤ K := by omega
  have hJ := rj_js (P := P)
  exact t_284 (n := n + 4) hJ (ih_w (n + 4) 239 (by omega) (by rw [rd_239]; omega)) (s_244 (n := n + 3) hK_w (ih_w (n + 3) 243 (by omega) (by rw [rd_243]; omega))) (s_245 (n := n + 3) hK_w (ih_w (n + 3) 243 (by omega) (by rw [rd_243]; omega)) (ih_w (n + 3) 225 (by omega) (by rw [rd_225]; omega))) (s_248 (n := n + 3) (ih_w (n + 3) 243 (by omega) (by rw [rd_243]; omega)) (ih_w (n + 3) 230 (by omega) (by rw [rd_230]; omega)) (ih_w (n + 3) 246 (by omega) (by rw [rd_246]; omega)) (s_247 (n := n + 2) hK_w (s_232 (n := n + 1)))) (ih_w (n + 4) 229 (by omega) (by rw [rd_229]; omega)) (ih_w (n + 4) 243 (by omega) (by rw [rd_243]; omega))
theorem h_304 (hK2 : 20000000000 ≤ K) {n : Nat} (ih_w : ∀ m q, m ≤ n + 3 → r_dp q < m → TotR P (r_T 0) (RJ P) g (evF xs L ck K cW g_M m) q) : TotR P (r_T 0) (RJ P) g (evF xs L ck K cW g_M (n + 3 + 1)) 304 := by
  have hK_w : 4294967300 ≤ K := by omega
  have hJ := rj_js (P := P)
  exact t_304 (n := n + 3) hJ tot_198 (ih_w (n + 3) 236 (by omega) (by rw [rd_236]; omega))
theorem h_305 (hK2 : 20000000000 ≤ K) {n : Nat} (ih_w : ∀ m q, m ≤ n + 7 → r_dp q < m → TotR P (r_T 0) (RJ P) g (evF xs L ck K cW g_M m) q) : TotR P (r_T 0) (RJ P) g (evF xs L ck K cW g_M (n + 7 + 1)) 305 := by
  have hK_w : 4294967300 ≤ K := by omega
  have hJ := rj_js (P := P)
  exact t_305 (n := n + 7) hJ hK_w (ih_w (n + 7) 227 (by omega) (by rw [rd_227]; omega)) (ih_w (n + 7) 254 (by omega) (by rw [rd_254]; omega)) (ih_w (n + 7) 257 (by omega) (by rw [rd_257]; omega))
theorem h_309 (hK2 : 20000000000 ≤ K) {n : Nat} (ih_w : ∀ m q, m ≤ n + 1 → r_dp q < m → TotR P (r_T 0) (RJ P) g (evF xs L ck K cW g_M m) q) : TotR P (r_T 0) (RJ P) g (evF xs L ck K cW g_M (n + 1 + 1)) 309 := by
  have hK_w : 4294967300 ≤ K := by omega
  have hJ := rj_js (P := P)
  intro av h hQ hv
  rw [rp_309] at hv
  obtain ⟨x, m, rfl, hx, hm_w⟩ := il2 hv
  obtain rfl : x = 182 := hx
  obtain ⟨m0_w, m1_w, -⟩ := hm_w
  obtain ⟨v, h', e1_w, e2_w, e3_w, e4_w, e5_w⟩ := (s_309 (n := n + 1) hJ) h m hQ m0_w m1_w
  exact ⟨[v], h', e1_w, e2_w, e3_w, by rw [rr_309]; exact ⟨⟨e4_w, by omega, ⟨by omega, by omega⟩⟩, trivial⟩, fun _ => by rw [ru_309]; exact hv⟩
theorem h_310 (hK2 : 20000000000 ≤ K) {n : Nat} (ih_w : ∀ m q, m ≤ n + 9 → r_dp q < m → TotR P (r_T 0) (RJ P) g (evF xs L ck K cW g_M m) q) : TotR P (r_T 0) (RJ P) g (evF xs L ck K cW g_M (n + 9 + 1)) 310 := by
  have hK_w : 4294967300 ≤ K := by omega
  have hJ := rj_js (P := P)
  exact t_310 (n := n + 9) hJ hK_w tot_198 (tot_274 hJ) (s_225 (n := n + 8)) (ih_w (n + 9) 228 (by omega) (by rw [rd_228]; omega)) (ih_w (n + 9) 298 (by omega) (by rw [rd_298]; omega)) (s_309 (n := n + 8) hJ) (ih_w (n + 9) 264 (by omega) (by rw [rd_264]; omega)) (ih_w (n + 9) 259 (by omega) (by rw [rd_259]; omega)) (ih_w (n + 9) 285 (by omega) (by rw [rd_285]; omega)) (ih_w (n + 9) 287 (by omega) (by rw [rd_287]; omega))
theorem h_311 (hK2 : 20000000000 ≤ K) {n : Nat} (ih_w : ∀ m q, m ≤ n + 2 → r_dp q < m → TotR P (r_T 0) (RJ P) g (evF xs L ck K cW g_M m) q) : TotR P (r_T 0) (RJ P) g (evF xs L ck K cW g_M (n + 2 + 1)) 311 := by
  have hK_w : 4294967300 ≤ K := by omega
  have hJ := rj_js (P := P)
  exact t_311 (n := n + 2) hJ tot_198 (s_224 (n := n + 1) hJ hK_w)
theorem r_hand (hK2 : 20000000000 ≤ K) : ∀ n f, r_hd f = true → r_dp f < n + 1 → (∀ m q, m ≤ n → r_dp q < m → TotR P (r_T 0) (RJ P) g (evF xs L ck K cW g_M m) q) → TotR P (r_T 0) (RJ P) g (evF xs L ck K cW g_M (n + 1)) f := by
  intro n f hf hd_w ih_w
  unfold r_hd at hf
  obtain ⟨q, hq, e⟩ := List.any_eq_true.mp hf
  rw [Nat.beq_eq] at e
  subst e
  simp only [List.mem_cons, List.not_mem_nil, or_false] at hq
  rcases hq with rfl | rfl | rfl | rfl | rfl | rfl | rfl | rfl | rfl | rfl | rfl | rfl | rfl | rfl | rfl | rfl | rfl | rfl | rfl | rfl
  · obtain ⟨n, rfl⟩ : ∃ m, n = m + 1 := ⟨n - 1, by rw [rd_224] at hd_w; omega⟩
    exact h_224 hK2 ih_w
  · obtain ⟨n, rfl⟩ : ∃ m, n = m + 1 := ⟨n - 1, by rw [rd_230] at hd_w; omega⟩
    exact h_230 hK2 ih_w
  · obtain ⟨n, rfl⟩ : ∃ m, n = m + 1 := ⟨n - 1, by rw [rd_232] at hd_w; omega⟩
    exact h_232 hK2 ih_w
  · obtain ⟨n, rfl⟩ : ∃ m, n = m + 2 := ⟨n - 2, by rw [rd_240] at hd_w; omega⟩
    exact h_240 hK2 ih_w
  · obtain ⟨n, rfl⟩ : ∃ m, n = m + 2 := ⟨n - 2, by rw [rd_242] at hd_w; omega⟩
    exact h_242 hK2 ih_w
  · obtain ⟨n, rfl⟩ : ∃ m, n = m + 2 := ⟨n - 2, by rw [rd_244] at hd_w; omega⟩
    exact h_244 hK2 ih_w
  · obtain ⟨n, rfl⟩ : ∃ m, n = m + 2 := ⟨n - 2, by rw [rd_245] at hd_w; omega⟩
    exact h_245 hK2 ih_w
  · obtain ⟨n, rfl⟩ : ∃ m, n = m + 2 := ⟨n - 2, by rw [rd_247] at hd_w; omega⟩
    exact h_247 hK2 ih_w
  · obtain ⟨n, rfl⟩ : ∃ m, n = m + 4 := ⟨n - 4, by rw [rd_249] at hd_w; omega⟩
    exact h_249 hK2 ih_w
  · obtain ⟨n, rfl⟩ : ∃ m, n = m + 1 := ⟨n - 1, by rw [rd_251] at hd_w; omega⟩
    exact h_251 hK2 ih_w
  · obtain ⟨n, rfl⟩ : ∃ m, n = m + 3 := ⟨n - 3, by rw [rd_253] at hd_w; omega⟩
    exact h_253 hK2 ih_w
  · obtain ⟨n, rfl⟩ : ∃ m, n = m + 8 := ⟨n - 8, by rw [rd_271] at hd_w; omega⟩
    exact h_271 hK2 ih_w
  · obtain ⟨n, rfl⟩ : ∃ m, n = m + 2 := ⟨n - 2, by rw [rd_272] at hd_w; omega⟩
    exact h_272 hK2 ih_w
  · obtain ⟨n, rfl⟩ : ∃ m, n = m + 9 := ⟨n - 9, by rw [rd_273] at hd_w; omega⟩
    exact h_273 hK2 ih_w
  · obtain ⟨n, rfl⟩ : ∃ m, n = m + 4 := ⟨n - 4, by rw [rd_284] at hd_w; omega⟩
    exact h_284 hK2 ih_w
  · obtain ⟨n, rfl⟩ : ∃ m, n = m + 3 := ⟨n - 3, by rw [rd_304] at hd_w; omega⟩
    exact h_304 hK2 ih_w
  · obtain ⟨n, rfl⟩ : ∃ m, n = m + 7 := ⟨n - 7, by rw [rd_305] at hd_w; omega⟩
    exact h_305 hK2 ih_w
  · obtain ⟨n, rfl⟩ : ∃ m, n = m + 1 := ⟨n - 1, by rw [rd_309] at hd_w; omega⟩
    exact h_309 hK2 ih_w
  · obtain ⟨n, rfl⟩ : ∃ m, n = m + 9 := ⟨n - 9, by rw [rd_310] at hd_w; omega⟩
    exact h_310 hK2 ih_w
  · obtain ⟨n, rfl⟩ : ∃ m, n = m + 2 := ⟨n - 2, by rw [rd_311] at hd_w; omega⟩
    exact h_311 hK2 ih_w
/-- every method_w of the reference_w behind_w the parser ends_w, and keeps_w what is_w kept -/
theorem r_ref (hK2 : 20000000000 ≤ K) {n f : Nat} (hd_w : r_dp f < n) (hn : n < 99999) : TotR P (r_T 0) (RJ P) g (evF xs L ck K cW g_M n) f := r_all (by omega) rj_js (r_hand hK2) n n f (Nat.le_refl _) hd_w hn
end ASM
end
section
/-! ===== the reference's parser: where it stands ===== -/
/-- the token at which it stands, and the END behind_w all: N -/
def PT (N : Nat) (h : XH) : Prop := 0 ≤ h 182 8 ∧ 0 ≤ h 182 7 ∧ h 182 7 ≤ (N : Int) ∧ N ≤ 1000 ∧ h 184 N = 0 ∧ 0 ≤ h 182 12 ∧ h 182 12 ≤ h 182 7 + 1001 ∧ ∀ i : Nat, i < N → h 184 i = 2 → 0 ≤ h 186 i ∧ h 186 i ≤ 9999
/-- the draft of a grid -/
def DG (h : XH) : Prop := GridOK (h 188) 95 (h 188 98) (h 188 96)
def PK (P : Int × Int) (N : Nat) (h : XH) : Prop := QK P (r_T 0) (RJ P) h ∧ PT N h ∧ DG h
/-- at and fault alone_w are written_w -/
def PA (N : Nat) (h h' : XH) : Prop := (∀ o k, (o = 182 → k ≠ 7 ∧ k ≠ 8) → h' o k = h o k) ∧ 0 ≤ h' 182 8 ∧ InI (h' 182 8) ∧ (h 182 8 ≠ 0 → h' 182 8 = h 182 8) ∧ h 182 7 ≤ h' 182 7 ∧ h' 182 7 ≤ (N : Int)
section PAR1
variable {P : Int × Int} {N : Nat} {g : Nat × Nat} {xs : Nat → Int} {L K n : Nat} {ck : Nat → List Nat} {cW : Nat → Nat → Int} {h h' h2 : XH}
theorem fld78 {h : XH} {a f : Int} {k : Nat} (hk : k = 7 ∨ k = 8) (hQ : QK P (r_T 0) (RJ P) h) {v : Int} (hv : InI v) : QK P (r_T 0) (RJ P) (j_up h 182 k v) := by
  rcases hk with rfl | rfl
  · exact (fd_QK hQ rj_js (k := 7) (Or.inl rfl) (IV.top hv)).1
  · exact (fd_QK hQ rj_js (k := 8) (Or.inl rfl) (IV.top hv)).1
theorem ht_fld {k : Nat} (hQ : QK P (r_T 0) (RJ P) h) (hk : (r_F k).1 = 1) : InI (h 182 k) := by
  have k1_w : IV P (r_F k) (h 182 k) := hQ.2.1 k
  generalize r_F k = t at hk k1_w
  obtain ⟨tt, l, u⟩ := t
  dsimp only at hk
  subst hk
  exact k1_w.2.2
theorem PA.rf (hp : PK P N h) : PA N h h := ⟨fun _ _ _ => rfl, hp.2.1.1, ht_fld hp.1 rfl, fun _ => rfl, Int.le_refl _, hp.2.1.2.2.1⟩
theorem PK.pa (hp : PK P N h) (ha_w : PA N h h') : PK P N h' := by
  obtain ⟨a1_w, a2, a3, a4, a5, a6⟩ := ha_w
  obtain ⟨q, ⟨p1_w, p2_w, p3_w, p4_w, p5_w, p6_w, p7_w, p8_w⟩, d⟩ := hp
  have e : h' = j_up (j_up h 182 7 (h' 182 7)) 182 8 (h' 182 8) := funext fun o => funext fun k => by
    by_cases h8 : o = 182 ∧ k = 8
    · obtain ⟨rfl, rfl⟩ := h8
      rw [up_eq]
    · rw [up_ne h8]
      by_cases h7 : o = 182 ∧ k = 7
      · obtain ⟨rfl, rfl⟩ := h7
        rw [up_eq]
      · rw [up_ne h7]
        exact a1_w o k (fun z => ⟨fun z2 => h7 ⟨z, z2⟩, fun z2 => h8 ⟨z, z2⟩⟩)
  have e188 : h' 188 = h 188 := funext fun k => a1_w 188 k (fun z => absurd z (by decide))
  refine ⟨?_, ⟨a2, by omega, a6, p4_w, (a1_w 184 N (fun z => absurd z (by decide))).trans p5_w, ?_, ?_, fun i hi_w hs => ?_⟩, ?_⟩
  · rw [e]
    exact fld78 (a := 0) (f := 0) (Or.inr rfl) (fld78 (a := 0) (f := 0) (Or.inl rfl) q ⟨by omega, by omega⟩) a3
  · rw [a1_w 182 12 (fun _ => by decide)]
    exact p6_w
  · rw [a1_w 182 12 (fun _ => by decide)]
    omega
  · rw [a1_w 184 i (fun z => absurd z (by decide))] at hs
    rw [a1_w 186 i (fun z => absurd z (by decide))]
    exact p8_w i hi_w hs
  · unfold DG
    rw [e188]
    exact d
theorem PA.tr (a : PA N h h') (b : PA N h' h2) : PA N h h2 := by
  obtain ⟨a1_w, a2, a3, a4, a5, a6⟩ := a
  obtain ⟨b1, b2, b3, b4, b5, b6⟩ := b
  exact ⟨fun o k e => (b1 o k e).trans (a1_w o k e), b2, b3, fun e => by rw [b4 (by rw [a4 e]; exact e), a4 e], by omega, b6⟩
theorem PA.ob (a : PA N h h') {q : Nat} (hq : q ≠ 182) : h' q = h q := funext fun k => a.1 q k (fun z => absurd z hq)
theorem up_self {o k : Nat} : j_up h o k (h o k) = h := funext fun a => funext fun b => by
  by_cases e : a = o ∧ b = k
  · obtain ⟨rfl, rfl⟩ := e
    rw [up_eq]
  · rw [up_ne e]
/-- one token on_w -/
theorem PA.next (hp : PK P N h) (hs : h 184 (h 182 7).toNat ≠ 0) : PA N h (j_up h 182 7 (h 182 7 + 1)) := by
  obtain ⟨q, ⟨p1_w, p2_w, p3_w, p4_w, p5_w, p6_w, p7_w⟩, d⟩ := hp
  have hne : h 182 7 ≠ (N : Int) := fun e => hs (by rw [e]; exact p5_w)
  refine ⟨fun o k e => up_ne (fun z => (e z.1).1 z.2), ?_, ?_, fun _ => up_ne (fun z => absurd z.2 (by decide)), ?_, ?_⟩
  · rw [up_ne (fun z => absurd z.2 (by decide))]
    exact p1_w
  · rw [up_ne (fun z => absurd z.2 (by decide))]
    exact ht_fld q rfl
  · rw [up_eq]
    omega
  · rw [up_eq]
    omega
theorem p_place (hp : PK P N h) : 0 ≤ h 185 (h 182 7).toNat ∧ h 185 (h 182 7).toNat ≤ 1000 := by
  obtain ⟨q, ⟨p1_w, p2_w, p3_w, p4_w, p5_w, p6_w, p7_w⟩, d⟩ := hp
  have k : IV P (1, 0, 1000) (h 185 (h 182 7).toNat) := q_cell q (q := 185) (r := 0) (x := (0, 1002, (1, 0, 1000))) (by decide) rfl rfl (by dsimp only; omega) (by dsimp only; omega)
  exact ⟨k.1, k.2.1⟩
end PAR1
/-- what the token is_w: a SIGN, a WORD -/
def tkS (h : XH) (c : Int) : Prop := h 182 8 = 0 ∧ h 184 (h 182 7).toNat = 3 ∧ h 186 (h 182 7).toNat = c
def tkW (h : XH) (w : Int) : Prop := h 182 8 = 0 ∧ h 184 (h 182 7).toNat = 1 ∧ h 186 (h 182 7).toNat = h 187 w.toNat
def G191 (P : Int × Int) (N : Nat) (g : Nat × Nat) (F : XP) : Prop := ∀ (h : XH) (w : Int), PK P N h → 1 ≤ w → w ≤ 5 → ∃ h', F 191 [182, w] ((a_g3, g), h) = some (1, [], ((a_g3, g), h')) ∧ PA N h h' ∧ h' 182 7 = h 182 7 ∧ h' 182 8 ≠ 0 ∧ (h 182 8 = 0 → h' 182 8 = w + 16 * h 185 (h 182 7).toNat)
def G192 (P : Int × Int) (N : Nat) (g : Nat × Nat) (F : XP) : Prop := ∀ (h : XH) (c : Int), PK P N h → InI c → ∃ v, F 192 [182, c] ((a_g3, g), h) = some (1, [v], ((a_g3, g), h)) ∧ (v = 0 ∨ v = 1) ∧ (v ≠ 0 ↔ tkS h c)
def G193 (P : Int × Int) (N : Nat) (g : Nat × Nat) (F : XP) : Prop := ∀ (h : XH) (w : Int), PK P N h → 0 ≤ w → w < 24 → ∃ v, F 193 [182, w] ((a_g3, g), h) = some (1, [v], ((a_g3, g), h)) ∧ (v = 0 ∨ v = 1) ∧ (v ≠ 0 ↔ tkW h w)
section PAR2
variable {P : Int × Int} {N : Nat} {g : Nat × Nat} {xs : Nat → Int} {L K n : Nat} {ck : Nat → List Nat} {cW : Nat → Nat → Int} {h : XH}
theorem g_191 : G191 P N g (evF xs L ck K cW g_M (n + 1)) := fun h w hp w1_w w2_w => by
  suffices hs : ∃ r h', evF xs L ck K cW g_M (n + 1) 191 [182, w] ((a_g3, g), h) = some (1, r, ((a_g3, g), h')) ∧ r = [] ∧ PA N h h' ∧ h' 182 7 = h 182 7 ∧ h' 182 8 ≠ 0 ∧ (h 182 8 = 0 → h' 182 8 = w + 16 * h 185 (h 182 7).toNat) by
    obtain ⟨r, h', e1_w, rfl, e2_w⟩ := hs
    exact ⟨h', e1_w, e2_w⟩
  refine tr_of gm_191 (B := fun r h' => r = [] ∧ PA N h h' ∧ h' 182 7 = h 182 7 ∧ h' 182 8 ≠ 0 ∧ (h 182 8 = 0 → h' 182 8 = w + 16 * h 185 (h 182 7).toNat)) ?_
  show wS _ _ K bb_191 [182, w] h _
  generalize evF xs L ck K cW g_M n = F
  unfold bb_191
  simp only [wf_4, wf_40, wf_5, wf_50, wf_6, wl_1, wt_1, wu_1, wa_1, wl_4, wt_4, wu_4, wa_4, wl_5, wt_5, wu_5, wa_5, wl_6, wt_6, wu_6, wa_6, wl_9, wt_9, wu_9, wa_9, wl_10, wt_10, wu_10, wa_10, wl_11, wt_11, wu_11, wa_11, wl_13, wt_13, wu_13, wa_13, wl_14, wt_14, wu_14, wa_14, wl_15, wt_15, wu_15, wa_15, wl_16, wt_16, wu_16, wa_16, wl_17, wt_17, wu_17, wa_17, wl_20, wt_20, wu_20, wa_20, wl_21, wt_21, wu_21, wa_21, wl_22, wt_22, wu_22, wa_22, wl_23, wt_23, wu_23, wa_23, wl_24, wt_24, wu_24, wa_24, wl_26, wt_26, wu_26, wa_26, wl_27, wt_27, wu_27, wa_27, wl_28, wt_28, wu_28, wa_28, we_1, we_3, we_10, we_14, we_15, we_16, we_17, we_18, we_20, we_21, we_22, we_24, we_25, we_26, we_27, we_28, we_30, we_31, we_32, wc_20, wc_21, wc_22, wc_24, wc_25, wc_26, wc_27, wc_3, wc_4, wc_7, wc_28, wc_32, ws_1, ws_2, ws_3, ws_4, ws_9, ws_10, ws_11, ws_14, ws_15, ws_16, ws_27, ws_17, ws_20, ws_28, kc_0, kc_1, kn_1, kc_2, kn_2, kc_3, kc_4, kc_5, kc_6, kc_7, kc_8, kc_9, kc_10, kc_12, kc_13, kc_14, kc_16, kc_17, kc_18, kc_19, kc_20, kc_21, kc_22, kc_24, kc_28, kc_30, kc_32, kc_37, kc_40, kc_41, kc_42, kc_43, kc_45, kc_48, kc_56, kc_57, kc_59, kc_60, kc_61, kc_64, kc_73, kc_78, kc_91, kc_95, kc_96, kc_97, kc_98, kc_99, kc_100, kc_112, kc_122, kc_125, kc_126, kc_150, kc_162, kc_163, kc_168, kc_186, kc_190, kc_200, kc_250, kc_255, kc_355, kc_356, kc_404, kc_405, kc_429, kc_573, kc_999, kc_1000, kc_1002, kc_1100, kc_1891, kc_2200, kc_4719, kc_4869, kc_4881, kc_5148, kc_9999, kn_9999, kc_10000, kc_12345, kc_19741, kc_25433, kc_65536, kc_320403, kc_628412, kc_629093, kc_660401, kc_679843, kc_918640, kc_979410, kc_1178088, kc_6232410, kc_24644941, kc_36238189, kc_38270444, kc_392531318, kc_425693491, kc_1103515245, kc_1342154595, kc_2147483648, kc_42328242873, kc_891704255789, kc_1722105685577, kc_1858726030364, ct_0, ct_1, ct_2, ct_3, ct_4, ct_5, cf_0, cf_1, cf_2, cf_3, cf_4, cf_5, w_ty6, w_ty7, m_sv, m_z0, m_hd, m_g0, m_gs, m_s0, m_ss, m_ap, m_an, forall_const, true_and, and_true, ne_eq, not_true_eq_false, not_false_eq_true, false_implies, true_implies, implies_true, eq_self, reduceCtorEq, Nat.reduceDiv, Nat.reduceMod, Int.reduceToNat, or_true, true_or, or_false, false_or, or_self, m_it, m_if, m_c1, m_01, m_02, m_03, m_04, m_10, m_12, m_13, m_14, m_20, m_21, m_23, m_24, m_30, m_31, m_32, m_34, m_40, m_41, m_42, m_43]
  have pl := p_place hp
  have rf := PA.rf hp
  obtain ⟨q, ⟨p1_w, p2_w, p3_w, p4_w, p5_w, p6_w, p7_w⟩, d⟩ := hp
  refine ⟨fun k => ?_, fun k => ⟨rf, k, fun k2 => absurd k2 k⟩⟩
  rw [jmul (by omega) (by omega), jadd (by omega) (by omega)]
  refine ⟨⟨p2_w, by omega⟩, ⟨fun o i e => up_ne (fun z => (e z.1).2 z.2), ?_, ?_, fun k2 => absurd k k2, ?_, ?_⟩, up_ne (fun z => absurd z.2 (by decide)), ?_, fun _ => up_eq⟩
  · rw [up_eq]
    omega
  · rw [up_eq]
    exact ⟨by omega, by omega⟩
  · rw [up_ne (fun z => absurd z.2 (by decide))]
    exact Int.le_refl _
  · rw [up_ne (fun z => absurd z.2 (by decide))]
    exact p3_w
  · rw [up_eq]
    omega
theorem g_192 : G192 P N g (evF xs L ck K cW g_M (n + 1)) := fun h c hp hc_w => by
  suffices hs : ∃ r h', evF xs L ck K cW g_M (n + 1) 192 [182, c] ((a_g3, g), h) = some (1, r, ((a_g3, g), h')) ∧ h' = h ∧ ∃ v, r = [v] ∧ (v = 0 ∨ v = 1) ∧ (v ≠ 0 ↔ tkS h c) by
    obtain ⟨r, h', e1_w, rfl, v, rfl, e2_w⟩ := hs
    exact ⟨v, e1_w, e2_w⟩
  refine tr_of gm_192 (B := fun r h' => h' = h ∧ ∃ v, r = [v] ∧ (v = 0 ∨ v = 1) ∧ (v ≠ 0 ↔ tkS h c)) ?_
  show wS _ _ K bb_192 [182, c] h _
  generalize evF xs L ck K cW g_M n = F
  unfold bb_192
  simp only [wf_4, wf_40, wf_5, wf_50, wf_6, wl_1, wt_1, wu_1, wa_1, wl_4, wt_4, wu_4, wa_4, wl_5, wt_5, wu_5, wa_5, wl_6, wt_6, wu_6, wa_6, wl_9, wt_9, wu_9, wa_9, wl_10, wt_10, wu_10, wa_10, wl_11, wt_11, wu_11, wa_11, wl_13, wt_13, wu_13, wa_13, wl_14, wt_14, wu_14, wa_14, wl_15, wt_15, wu_15, wa_15, wl_16, wt_16, wu_16, wa_16, wl_17, wt_17, wu_17, wa_17, wl_20, wt_20, wu_20, wa_20, wl_21, wt_21, wu_21, wa_21, wl_22, wt_22, wu_22, wa_22, wl_23, wt_23, wu_23, wa_23, wl_24, wt_24, wu_24, wa_24, wl_26, wt_26, wu_26, wa_26, wl_27, wt_27, wu_27, wa_27, wl_28, wt_28, wu_28, wa_28, we_1, we_3, we_10, we_14, we_15, we_16, we_17, we_18, we_20, we_21, we_22, we_24, we_25, we_26, we_27, we_28, we_30, we_31, we_32, wc_20, wc_21, wc_22, wc_24, wc_25, wc_26, wc_27, wc_3, wc_4, wc_7, wc_28, wc_32, ws_1, ws_2, ws_3, ws_4, ws_9, ws_10, ws_11, ws_14, ws_15, ws_16, ws_27, ws_17, ws_20, ws_28, kc_0, kc_1, kn_1, kc_2, kn_2, kc_3, kc_4, kc_5, kc_6, kc_7, kc_8, kc_9, kc_10, kc_12, kc_13, kc_14, kc_16, kc_17, kc_18, kc_19, kc_20, kc_21, kc_22, kc_24, kc_28, kc_30, kc_32, kc_37, kc_40, kc_41, kc_42, kc_43, kc_45, kc_48, kc_56, kc_57, kc_59, kc_60, kc_61, kc_64, kc_73, kc_78, kc_91, kc_95, kc_96, kc_97, kc_98, kc_99, kc_100, kc_112, kc_122, kc_125, kc_126, kc_150, kc_162, kc_163, kc_168, kc_186, kc_190, kc_200, kc_250, kc_255, kc_355, kc_356, kc_404, kc_405, kc_429, kc_573, kc_999, kc_1000, kc_1002, kc_1100, kc_1891, kc_2200, kc_4719, kc_4869, kc_4881, kc_5148, kc_9999, kn_9999, kc_10000, kc_12345, kc_19741, kc_25433, kc_65536, kc_320403, kc_628412, kc_629093, kc_660401, kc_679843, kc_918640, kc_979410, kc_1178088, kc_6232410, kc_24644941, kc_36238189, kc_38270444, kc_392531318, kc_425693491, kc_1103515245, kc_1342154595, kc_2147483648, kc_42328242873, kc_891704255789, kc_1722105685577, kc_1858726030364, ct_0, ct_1, ct_2, ct_3, ct_4, ct_5, cf_0, cf_1, cf_2, cf_3, cf_4, cf_5, w_ty6, w_ty7, m_sv, m_z0, m_hd, m_g0, m_gs, m_s0, m_ss, m_ap, m_an, forall_const, true_and, and_true, ne_eq, not_true_eq_false, not_false_eq_true, false_implies, true_implies, implies_true, eq_self, reduceCtorEq, Nat.reduceDiv, Nat.reduceMod, Int.reduceToNat, or_true, true_or, or_false, false_or, or_self, m_it, m_if, m_c1, m_01, m_02, m_03, m_04, m_10, m_12, m_13, m_14, m_20, m_21, m_23, m_24, m_30, m_31, m_32, m_34, m_40, m_41, m_42, m_43]
  obtain ⟨q, ⟨p1_w, p2_w, p3_w, p4_w, p5_w, p6_w, p7_w⟩, d⟩ := hp
  have ba_w : 0 ≤ h 182 7 ∧ h 182 7 < 1002 := ⟨p2_w, by omega⟩
  have no : ¬tkS h c → ∃ v, [(0 : Int)] = [v] ∧ (v = 0 ∨ v = 1) ∧ (¬v = 0 ↔ tkS h c) := fun k => ⟨0, rfl, Or.inl rfl, fun k2 => absurd rfl k2, fun k2 => absurd k2 k⟩
  exact ⟨fun k1_w => ⟨ba_w, fun k2 => ⟨ba_w, fun k3 => ⟨1, rfl, Or.inr rfl, fun _ => ⟨k1_w, k2, k3⟩, fun _ => by decide⟩, fun k3 => no (fun z => k3 z.2.2)⟩, fun k2 => no (fun z => k2 z.2.1)⟩, fun k1_w => no (fun z => k1_w z.1)⟩
theorem g_193 : G193 P N g (evF xs L ck K cW g_M (n + 1)) := fun h c hp c0 c1_w => by
  suffices hs : ∃ r h', evF xs L ck K cW g_M (n + 1) 193 [182, c] ((a_g3, g), h) = some (1, r, ((a_g3, g), h')) ∧ h' = h ∧ ∃ v, r = [v] ∧ (v = 0 ∨ v = 1) ∧ (v ≠ 0 ↔ tkW h c) by
    obtain ⟨r, h', e1_w, rfl, v, rfl, e2_w⟩ := hs
    exact ⟨v, e1_w, e2_w⟩
  refine tr_of gm_193 (B := fun r h' => h' = h ∧ ∃ v, r = [v] ∧ (v = 0 ∨ v = 1) ∧ (v ≠ 0 ↔ tkW h c)) ?_
  show wS _ _ K bb_193 [182, c] h _
  generalize evF xs L ck K cW g_M n = F
  unfold bb_193
  simp only [wf_4, wf_40, wf_5, wf_50, wf_6, wl_1, wt_1, wu_1, wa_1, wl_4, wt_4, wu_4, wa_4, wl_5, wt_5, wu_5, wa_5, wl_6, wt_6, wu_6, wa_6, wl_9, wt_9, wu_9, wa_9, wl_10, wt_10, wu_10, wa_10, wl_11, wt_11, wu_11, wa_11, wl_13, wt_13, wu_13, wa_13, wl_14, wt_14, wu_14, wa_14, wl_15, wt_15, wu_15, wa_15, wl_16, wt_16, wu_16, wa_16, wl_17, wt_17, wu_17, wa_17, wl_20, wt_20, wu_20, wa_20, wl_21, wt_21, wu_21, wa_21, wl_22, wt_22, wu_22, wa_22, wl_23, wt_23, wu_23, wa_23, wl_24, wt_24, wu_24, wa_24, wl_26, wt_26, wu_26, wa_26, wl_27, wt_27, wu_27, wa_27, wl_28, wt_28, wu_28, wa_28, we_1, we_3, we_10, we_14, we_15, we_16, we_17, we_18, we_20, we_21, we_22, we_24, we_25, we_26, we_27, we_28, we_30, we_31, we_32, wc_20, wc_21, wc_22, wc_24, wc_25, wc_26, wc_27, wc_3, wc_4, wc_7, wc_28, wc_32, ws_1, ws_2, ws_3, ws_4, ws_9, ws_10, ws_11, ws_14, ws_15, ws_16, ws_27, ws_17, ws_20, ws_28, kc_0, kc_1, kn_1, kc_2, kn_2, kc_3, kc_4, kc_5, kc_6, kc_7, kc_8, kc_9, kc_10, kc_12, kc_13, kc_14, kc_16, kc_17, kc_18, kc_19, kc_20, kc_21, kc_22, kc_24, kc_28, kc_30, kc_32, kc_37, kc_40, kc_41, kc_42, kc_43, kc_45, kc_48, kc_56, kc_57, kc_59, kc_60, kc_61, kc_64, kc_73, kc_78, kc_91, kc_95, kc_96, kc_97, kc_98, kc_99, kc_100, kc_112, kc_122, kc_125, kc_126, kc_150, kc_162, kc_163, kc_168, kc_186, kc_190, kc_200, kc_250, kc_255, kc_355, kc_356, kc_404, kc_405, kc_429, kc_573, kc_999, kc_1000, kc_1002, kc_1100, kc_1891, kc_2200, kc_4719, kc_4869, kc_4881, kc_5148, kc_9999, kn_9999, kc_10000, kc_12345, kc_19741, kc_25433, kc_65536, kc_320403, kc_628412, kc_629093, kc_660401, kc_679843, kc_918640, kc_979410, kc_1178088, kc_6232410, kc_24644941, kc_36238189, kc_38270444, kc_392531318, kc_425693491, kc_1103515245, kc_1342154595, kc_2147483648, kc_42328242873, kc_891704255789, kc_1722105685577, kc_1858726030364, ct_0, ct_1, ct_2, ct_3, ct_4, ct_5, cf_0, cf_1, cf_2, cf_3, cf_4, cf_5, w_ty6, w_ty7, m_sv, m_z0, m_hd, m_g0, m_gs, m_s0, m_ss, m_ap, m_an, forall_const, true_and, and_true, ne_eq, not_true_eq_false, not_false_eq_true, false_implies, true_implies, implies_true, eq_self, reduceCtorEq, Nat.reduceDiv, Nat.reduceMod, Int.reduceToNat, or_true, true_or, or_false, false_or, or_self, m_it, m_if, m_c1, m_01, m_02, m_03, m_04, m_10, m_12, m_13, m_14, m_20, m_21, m_23, m_24, m_30, m_31, m_32, m_34, m_40, m_41, m_42, m_43]
  obtain ⟨q, ⟨p1_w, p2_w, p3_w, p4_w, p5_w, p6_w, p7_w⟩, d⟩ := hp
  have ba_w : 0 ≤ h 182 7 ∧ h 182 7 < 1002 := ⟨p2_w, by omega⟩
  have no : ¬tkW h c → ∃ v, [(0 : Int)] = [v] ∧ (v = 0 ∨ v = 1) ∧ (¬v = 0 ↔ tkW h c) := fun k => ⟨0, rfl, Or.inl rfl, fun k2 => absurd rfl k2, fun k2 => absurd k2 k⟩
  exact ⟨fun k1_w => ⟨ba_w, fun k2 => ⟨ba_w, ⟨c0, c1_w⟩, fun k3 => ⟨1, rfl, Or.inr rfl, fun _ => ⟨k1_w, k2, k3⟩, fun _ => by decide⟩, fun k3 => no (fun z => k3 z.2.2)⟩, fun k2 => no (fun z => k2 z.2.1)⟩, fun k1_w => no (fun z => k1_w z.1)⟩
end PAR2
end
