section
/-! ===== contracts of public methods that tell more, laid by a program ===== -/
def cx_X11_feed_lo : ab_co := (124, 1, ([(.negSucc 2147483647, .ofNat 2147483647, []), (.negSucc 2147483647, .ofNat 2147483647, []), (.negSucc 2147483647, .ofNat 2147483647, []), (.negSucc 2147483647, .ofNat 2147483647, []), (.negSucc 2147483647, .ofNat 2147483647, []), (.ofNat 0, .ofNat 920, [])], [(1011, 0), (1008, 0)], [(0, 0, .inr (.inr 1)), (1, 1, .inl (.inr (5, 1, .ofNat 0)))], [some (.inr (.inr 0)), some (.inl (.inr (0, 1, .ofNat 0))), some (.inl (.inr (1, 1, .ofNat 0))), some (.inl (.inr (2, 1, .ofNat 0))), some (.inl (.inr (3, 1, .ofNat 0))), some (.inl (.inr (4, 1, .ofNat 0)))]), [(1008, 1, 1), (38101, 0, 939)], [(some (.inl (.inr (.inl (5, .ofNat 20)))), [(1, 1, .inr (.inl (5, .ofNat 20)))])], [], [])
def cx_X11_feed_hi : ab_co := (124, 1, ([(.negSucc 2147483647, .ofNat 2147483647, []), (.negSucc 2147483647, .ofNat 2147483647, []), (.negSucc 2147483647, .ofNat 2147483647, []), (.negSucc 2147483647, .ofNat 2147483647, []), (.negSucc 2147483647, .ofNat 2147483647, []), (.ofNat 921, .ofNat 940, [])], [(1011, 0), (1008, 0)], [(0, 0, .inr (.inr 1)), (1, 1, .inl (.inr (5, 1, .ofNat 0)))], [some (.inr (.inr 0)), some (.inl (.inr (0, 1, .ofNat 0))), some (.inl (.inr (1, 1, .ofNat 0))), some (.inl (.inr (2, 1, .ofNat 0))), some (.inl (.inr (3, 1, .ofNat 0))), some (.inl (.inr (4, 1, .ofNat 0)))]), [], [(some (.inl (.inl (.negSucc 0))), [(1, 1, .inr (.inl (5, .ofNat 0)))])], [], [])
def cx_X11_end_neg : ab_co := (121, 0, ([(.negSucc 2147483647, .negSucc 0, []), (.ofNat 0, .ofNat 940, [])], [(1011, 0), (1008, 0)], [(0, 0, .inr (.inr 1)), (1, 1, .inl (.inr (1, 1, .ofNat 0)))], [some (.inr (.inr 0)), some (.inl (.inr (0, 1, .ofNat 0)))]), [], [(some (.inl (.inl (.ofNat 0))), [(1, 1, .inr (.inl (1, .ofNat 0)))])], [], [])
def cx_X11_end_big : ab_co := (121, 0, ([(.ofNat 1, .ofNat 2147483647, [(1, .ofNat 1)]), (.ofNat 0, .ofNat 940, [])], [(1011, 0), (1008, 0)], [(0, 0, .inr (.inr 1)), (1, 1, .inl (.inr (1, 1, .ofNat 0)))], [some (.inr (.inr 0)), some (.inl (.inr (0, 1, .ofNat 0)))]), [], [(some (.inl (.inl (.ofNat 0))), [(1, 1, .inr (.inl (1, .ofNat 0)))])], [], [])
def cx_X11_end_fit : ab_co := (121, 0, ([(.ofNat 0, .ofNat 940, []), (.ofNat 0, .ofNat 940, [(0, .ofNat 0)])], [(1011, 0), (1008, 0)], [(0, 0, .inr (.inr 1)), (1, 1, .inl (.inr (1, 1, .ofNat 0)))], [some (.inr (.inr 0)), some (.inl (.inr (0, 1, .ofNat 0)))]), [(1008, 1, 1)], [(some (.inl (.inl (.ofNat 1))), [(1, 1, .inr (.inl (0, .ofNat 0)))])], [], [])
def cx_X11_plain_z : ab_co := (138, 7, ([(.ofNat 0, .ofNat 940, [])], [(1011, 0), (1008, 0)], [(0, 0, .inr (.inr 1)), (1, 1, .inl (.inr (0, 1, .ofNat 0)))], [some (.inr (.inr 0))]), [(1002, 3, 3), (1004, 4, 9), (1004, 11, 14), (1006, 4, 5), (1007, 0, 0), (1008, 1, 11), (1009, 3, 3), (1010, 0, 0), (1011, 12, 13), (16100, 0, 11), (17100, 0, 11), (18100, 0, 11), (24103, 0, 7), (26100, 0, 8), (28100, 0, 11), (29100, 0, 11), (30100, 0, 7)], [(some (.inl (.inr (.inr (.negSucc 2147483647, .ofNat 2147483647, none)))), [(1, 1, .inl (.ofNat 0))])], [], [])
def cx_X11_contracts_z : ab_co := (117, 7, ([(.ofNat 0, .ofNat 940, [])], [(1011, 0), (1008, 0)], [(0, 0, .inr (.inr 1)), (1, 1, .inl (.inr (0, 1, .ofNat 0)))], [some (.inr (.inr 0))]), [(1002, 3, 3), (1007, 1, 1), (1008, 1, 11), (1011, 12, 12), (16100, 0, 11), (17100, 0, 11), (18100, 0, 11)], [(some (.inl (.inr (.inr (.negSucc 2147483647, .ofNat 2147483647, none)))), [(1, 1, .inl (.ofNat 0))])], [], [])
def cx_X11_sentence_z : ab_co := (147, 30, ([(.ofNat 0, .ofNat 940, [])], [(1011, 0), (1008, 0)], [(0, 0, .inr (.inr 1)), (1, 1, .inl (.inr (0, 1, .ofNat 0)))], [some (.inr (.inr 0))]), [(1006, 4, 5), (1007, 2, 2), (1008, 1, 11), (1011, 12, 12), (34105, 0, 39), (35100, 0, 39), (36100, 0, 39)], [(some (.inl (.inr (.inr (.negSucc 2147483647, .ofNat 2147483647, none)))), [(1, 1, .inl (.ofNat 0))])], [], [])
def cx_X11_leaks_z : ab_co := (132, 5, ([(.ofNat 0, .ofNat 940, [])], [(1011, 0), (1008, 0)], [(0, 0, .inr (.inr 1)), (1, 1, .inl (.inr (0, 1, .ofNat 0)))], [some (.inr (.inr 0))]), [(1003, 1, 2), (1003, 5, 5), (1008, 1, 1), (1010, 0, 2), (1010, 7, 14), (20100, 0, 2), (21102, 0, 11), (23100, 0, 7), (42100, 0, 11), (43100, 0, 11), (44100, 0, 11), (46100, 0, 10)], [(some (.inl (.inr (.inr (.negSucc 2147483647, .ofNat 2147483647, none)))), [(1, 1, .inl (.ofNat 0))])], [], [])
def cx_X12_feed_lo : ab_co := (187, 1, ([(.negSucc 2147483647, .ofNat 2147483647, []), (.negSucc 2147483647, .ofNat 2147483647, []), (.negSucc 2147483647, .ofNat 2147483647, []), (.negSucc 2147483647, .ofNat 2147483647, []), (.negSucc 2147483647, .ofNat 2147483647, []), (.ofNat 0, .ofNat 920, [])], [(1012, 0)], [(0, 2, .inl (.inr (5, 1, .ofNat 0)))], [some (.inr (.inr 0)), some (.inl (.inr (0, 1, .ofNat 0))), some (.inl (.inr (1, 1, .ofNat 0))), some (.inl (.inr (2, 1, .ofNat 0))), some (.inl (.inr (3, 1, .ofNat 0))), some (.inl (.inr (4, 1, .ofNat 0)))]), [(1012, 0, 0), (1012, 2, 2), (50101, 0, 939)], [(some (.inl (.inr (.inl (5, .ofNat 20)))), [(0, 2, .inr (.inl (5, .ofNat 20)))])], [], [])
def cx_X12_feed_hi : ab_co := (187, 0, ([(.negSucc 2147483647, .ofNat 2147483647, []), (.negSucc 2147483647, .ofNat 2147483647, []), (.negSucc 2147483647, .ofNat 2147483647, []), (.negSucc 2147483647, .ofNat 2147483647, []), (.negSucc 2147483647, .ofNat 2147483647, []), (.ofNat 921, .ofNat 940, [])], [(1012, 0)], [(0, 2, .inl (.inr (5, 1, .ofNat 0)))], [some (.inr (.inr 0)), some (.inl (.inr (0, 1, .ofNat 0))), some (.inl (.inr (1, 1, .ofNat 0))), some (.inl (.inr (2, 1, .ofNat 0))), some (.inl (.inr (3, 1, .ofNat 0))), some (.inl (.inr (4, 1, .ofNat 0)))]), [(1012, 0, 0)], [(some (.inl (.inl (.negSucc 0))), [(0, 2, .inr (.inl (5, .ofNat 0)))])], [], [])
def cx_X12_end_neg : ab_co := (184, 0, ([(.negSucc 2147483647, .negSucc 0, []), (.ofNat 0, .ofNat 940, [])], [(1012, 0)], [(0, 2, .inl (.inr (1, 1, .ofNat 0)))], [some (.inr (.inr 0)), some (.inl (.inr (0, 1, .ofNat 0)))]), [(1012, 0, 0)], [(some (.inl (.inl (.ofNat 0))), [(0, 2, .inr (.inl (1, .ofNat 0)))])], [], [])
def cx_X12_end_big : ab_co := (184, 0, ([(.ofNat 1, .ofNat 2147483647, [(1, .ofNat 1)]), (.ofNat 0, .ofNat 940, [])], [(1012, 0)], [(0, 2, .inl (.inr (1, 1, .ofNat 0)))], [some (.inr (.inr 0)), some (.inl (.inr (0, 1, .ofNat 0)))]), [(1012, 0, 0)], [(some (.inl (.inl (.ofNat 0))), [(0, 2, .inr (.inl (1, .ofNat 0)))])], [], [])
def cx_X12_end_fit : ab_co := (184, 0, ([(.ofNat 0, .ofNat 940, []), (.ofNat 0, .ofNat 940, [(0, .ofNat 0)])], [(1012, 0)], [(0, 2, .inl (.inr (1, 1, .ofNat 0)))], [some (.inr (.inr 0)), some (.inl (.inr (0, 1, .ofNat 0)))]), [(1012, 0, 0), (1012, 2, 2)], [(some (.inl (.inl (.ofNat 1))), [(0, 2, .inr (.inl (0, .ofNat 0)))])], [], [])
def cx_X12_contracts_z : ab_co := (177, 4, ([(.ofNat 0, .ofNat 940, [])], [(1012, 0)], [(0, 2, .inl (.inr (0, 1, .ofNat 0)))], [some (.inr (.inr 0))]), [(1012, 0, 0), (1012, 2, 5), (1012, 11, 18), (51100, 184, 220), (53100, 0, 35)], [(some (.inl (.inr (.inr (.negSucc 2147483647, .ofNat 2147483647, none)))), [(0, 2, .inl (.ofNat 0))])], [(25, ([(.ofNat 0, .ofNat 940, []), (.negSucc 2147483647, .ofNat 2147483647, []), (.ofNat 0, .ofNat 9, []), (.ofNat 0, .ofNat 8, []), (.ofNat 0, .ofNat 9, []), (.ofNat 0, .ofNat 8, []), (.ofNat 0, .ofNat 9, []), (.ofNat 0, .ofNat 8, []), (.ofNat 0, .ofNat 9, []), (.ofNat 0, .ofNat 8, []), (.ofNat 0, .ofNat 9, []), (.ofNat 0, .ofNat 8, []), (.ofNat 0, .ofNat 9, []), (.ofNat 0, .ofNat 8, []), (.ofNat 0, .ofNat 9, []), (.ofNat 0, .ofNat 8, []), (.ofNat 0, .ofNat 9, []), (.ofNat 0, .ofNat 8, []), (.ofNat 0, .ofNat 9, []), (.ofNat 0, .ofNat 8, []), (.ofNat 0, .ofNat 9, []), (.ofNat 0, .ofNat 8, []), (.ofNat 0, .ofNat 9, []), (.ofNat 0, .ofNat 8, []), (.ofNat 0, .ofNat 9, []), (.ofNat 0, .ofNat 8, []), (.ofNat 0, .ofNat 940, []), (.ofNat 0, .ofNat 4, [])], [(1012, 0), (53100, 135)], [(0, 0, .inl (.inl (.ofNat 0))), (0, 3, .inl (.inr (0, 1, .ofNat 0))), (0, 2, .inl (.inl (.ofNat 0))), (0, 5, .inl (.inl (.ofNat 400))), (0, 8, .inr (.inr 1)), (1, 0, .inl (.inr (2, 1, .ofNat 0))), (1, 1, .inl (.inr (3, 1, .ofNat 0))), (1, 3, .inl (.inr (4, 1, .ofNat 0))), (1, 4, .inl (.inr (5, 1, .ofNat 0))), (1, 6, .inl (.inr (6, 1, .ofNat 0))), (1, 7, .inl (.inr (7, 1, .ofNat 0))), (1, 9, .inl (.inr (8, 1, .ofNat 0))), (1, 10, .inl (.inr (9, 1, .ofNat 0))), (1, 12, .inl (.inr (10, 1, .ofNat 0))), (1, 13, .inl (.inr (11, 1, .ofNat 0))), (1, 15, .inl (.inr (12, 1, .ofNat 0))), (1, 16, .inl (.inr (13, 1, .ofNat 0))), (1, 18, .inl (.inr (14, 1, .ofNat 0))), (1, 19, .inl (.inr (15, 1, .ofNat 0))), (1, 21, .inl (.inr (16, 1, .ofNat 0))), (1, 22, .inl (.inr (17, 1, .ofNat 0))), (1, 24, .inl (.inr (18, 1, .ofNat 0))), (1, 25, .inl (.inr (19, 1, .ofNat 0))), (1, 27, .inl (.inr (20, 1, .ofNat 0))), (1, 28, .inl (.inr (21, 1, .ofNat 0))), (1, 30, .inl (.inr (22, 1, .ofNat 0))), (1, 31, .inl (.inr (23, 1, .ofNat 0))), (1, 33, .inl (.inr (24, 1, .ofNat 0))), (1, 34, .inl (.inr (25, 1, .ofNat 0))), (0, 4, .inl (.inr (26, 1, .ofNat 0))), (0, 11, .inl (.inr (27, 1, .ofNat 0)))], [some (.inr (.inr 0)), some (.inl (.inr (1, 1, .ofNat 0))), none]), [(.inl (.ofNat 999975), 0), (.inr (26, 1, .ofNat 0), 1), (.inl (.ofNat 1000000000), 0)])], [])
def cx_X12_leaks_z : ab_co := (210, 5, ([(.ofNat 0, .ofNat 940, [])], [(1012, 0)], [(0, 2, .inl (.inr (0, 1, .ofNat 0)))], [some (.inr (.inr 0))]), [(1012, 0, 0), (1012, 2, 5), (1012, 29, 34), (1012, 49, 49), (51100, 221, 355), (64100, 0, 134), (66100, 0, 119)], [(some (.inl (.inr (.inr (.negSucc 2147483647, .ofNat 2147483647, none)))), [(0, 2, .inl (.ofNat 0))])], [(42, ([(.ofNat 0, .ofNat 940, []), (.ofNat 0, .ofNat 85, []), (.ofNat 0, .ofNat 99, [])], [(1012, 0), (51100, 537)], [(0, 0, .inl (.inl (.ofNat 0))), (0, 3, .inl (.inr (0, 1, .ofNat 0))), (0, 2, .inl (.inl (.ofNat 0))), (0, 4, .inl (.inl (.ofNat 0))), (0, 5, .inl (.inl (.ofNat 940))), (0, 6, .inr (.inr 1)), (1, 0, .inl (.inl (.ofNat 5)))], [some (.inr (.inr 0)), some (.inl (.inl (.ofNat 11))), some (.inl (.inr (1, 1, .ofNat 0))), some (.inl (.inr (2, 1, .ofNat 0))), none, none, none]), [(.inl (.ofNat 999958), 0), (.inr (2, 1, .ofNat 0), 1), (.inl (.ofNat 1000000000), 0), (.inl (.ofNat 0), 0), (.inl (.ofNat 0), 0), (.inl (.ofNat 0), 0), (.inl (.ofNat 0), 0)]), (42, ([(.ofNat 0, .ofNat 940, []), (.ofNat 0, .ofNat 72, []), (.ofNat 0, .ofNat 81, [])], [(1012, 0), (51100, 537)], [(0, 0, .inl (.inl (.ofNat 0))), (0, 3, .inl (.inr (0, 1, .ofNat 0))), (0, 2, .inl (.inl (.ofNat 0))), (0, 4, .inl (.inl (.ofNat 0))), (0, 5, .inl (.inl (.ofNat 940))), (0, 6, .inr (.inr 1)), (1, 0, .inl (.inl (.ofNat 6)))], [some (.inr (.inr 0)), some (.inl (.inl (.ofNat 13))), some (.inl (.inr (1, 1, .ofNat 0))), some (.inl (.inr (2, 1, .ofNat 0))), none, none, none]), [(.inl (.ofNat 999958), 0), (.inr (2, 1, .ofNat 0), 1), (.inl (.ofNat 1000000000), 0), (.inl (.ofNat 0), 0), (.inl (.ofNat 0), 0), (.inl (.ofNat 0), 0), (.inl (.ofNat 0), 0)]), (42, ([(.ofNat 0, .ofNat 940, []), (.ofNat 0, .ofNat 62, []), (.ofNat 0, .ofNat 81, [])], [(1012, 0), (51100, 537)], [(0, 0, .inl (.inl (.ofNat 0))), (0, 3, .inl (.inr (0, 1, .ofNat 0))), (0, 2, .inl (.inl (.ofNat 0))), (0, 4, .inl (.inl (.ofNat 0))), (0, 5, .inl (.inl (.ofNat 940))), (0, 6, .inr (.inr 1)), (1, 0, .inl (.inl (.ofNat 7)))], [some (.inr (.inr 0)), some (.inl (.inl (.ofNat 15))), some (.inl (.inr (1, 1, .ofNat 0))), some (.inl (.inr (2, 1, .ofNat 0))), none, none, none]), [(.inl (.ofNat 999958), 0), (.inr (2, 1, .ofNat 0), 1), (.inl (.ofNat 1000000000), 0), (.inl (.ofNat 0), 0), (.inl (.ofNat 0), 0), (.inl (.ofNat 0), 0), (.inl (.ofNat 0), 0)]), (42, ([(.ofNat 0, .ofNat 940, []), (.ofNat 0, .ofNat 55, []), (.ofNat 0, .ofNat 81, [])], [(1012, 0), (51100, 537)], [(0, 0, .inl (.inl (.ofNat 0))), (0, 3, .inl (.inr (0, 1, .ofNat 0))), (0, 2, .inl (.inl (.ofNat 0))), (0, 4, .inl (.inl (.ofNat 0))), (0, 5, .inl (.inl (.ofNat 940))), (0, 6, .inr (.inr 1)), (1, 0, .inl (.inl (.ofNat 8)))], [some (.inr (.inr 0)), some (.inl (.inl (.ofNat 17))), some (.inl (.inr (1, 1, .ofNat 0))), some (.inl (.inr (2, 1, .ofNat 0))), none, none, none]), [(.inl (.ofNat 999958), 0), (.inr (2, 1, .ofNat 0), 1), (.inl (.ofNat 1000000000), 0), (.inl (.ofNat 0), 0), (.inl (.ofNat 0), 0), (.inl (.ofNat 0), 0), (.inl (.ofNat 0), 0)]), (42, ([(.ofNat 0, .ofNat 940, []), (.ofNat 0, .ofNat 313, []), (.ofNat 0, .ofNat 400, [])], [(1012, 0), (51100, 537)], [(0, 0, .inl (.inl (.ofNat 0))), (0, 3, .inl (.inr (0, 1, .ofNat 0))), (0, 2, .inl (.inl (.ofNat 0))), (0, 4, .inl (.inl (.ofNat 0))), (0, 5, .inl (.inl (.ofNat 940))), (0, 6, .inr (.inr 1)), (1, 0, .inl (.inl (.ofNat 1)))], [some (.inr (.inr 0)), some (.inl (.inl (.ofNat 3))), some (.inl (.inr (1, 1, .ofNat 0))), some (.inl (.inr (2, 1, .ofNat 0))), none, none, none]), [(.inl (.ofNat 999958), 0), (.inr (2, 1, .ofNat 0), 1), (.inl (.ofNat 1000000000), 0), (.inl (.ofNat 0), 0), (.inl (.ofNat 0), 0), (.inl (.ofNat 0), 0), (.inl (.ofNat 0), 0)]), (42, ([(.ofNat 0, .ofNat 940, []), (.ofNat 0, .ofNat 188, []), (.ofNat 0, .ofNat 200, [])], [(1012, 0), (51100, 537)], [(0, 0, .inl (.inl (.ofNat 0))), (0, 3, .inl (.inr (0, 1, .ofNat 0))), (0, 2, .inl (.inl (.ofNat 0))), (0, 4, .inl (.inl (.ofNat 0))), (0, 5, .inl (.inl (.ofNat 940))), (0, 6, .inr (.inr 1)), (1, 0, .inl (.inl (.ofNat 2)))], [some (.inr (.inr 0)), some (.inl (.inl (.ofNat 5))), some (.inl (.inr (1, 1, .ofNat 0))), some (.inl (.inr (2, 1, .ofNat 0))), none, none, none]), [(.inl (.ofNat 999958), 0), (.inr (2, 1, .ofNat 0), 1), (.inl (.ofNat 1000000000), 0), (.inl (.ofNat 0), 0), (.inl (.ofNat 0), 0), (.inl (.ofNat 0), 0), (.inl (.ofNat 0), 0)]), (42, ([(.ofNat 0, .ofNat 940, []), (.ofNat 0, .ofNat 134, []), (.ofNat 0, .ofNat 134, [])], [(1012, 0), (51100, 537)], [(0, 0, .inl (.inl (.ofNat 0))), (0, 3, .inl (.inr (0, 1, .ofNat 0))), (0, 2, .inl (.inl (.ofNat 0))), (0, 4, .inl (.inl (.ofNat 0))), (0, 5, .inl (.inl (.ofNat 940))), (0, 6, .inr (.inr 1)), (1, 0, .inl (.inl (.ofNat 3)))], [some (.inr (.inr 0)), some (.inl (.inl (.ofNat 7))), some (.inl (.inr (1, 1, .ofNat 0))), some (.inl (.inr (2, 1, .ofNat 0))), none, none, none]), [(.inl (.ofNat 999958), 0), (.inr (2, 1, .ofNat 0), 1), (.inl (.ofNat 1000000000), 0), (.inl (.ofNat 0), 0), (.inl (.ofNat 0), 0), (.inl (.ofNat 0), 0), (.inl (.ofNat 0), 0)]), (42, ([(.ofNat 0, .ofNat 940, []), (.ofNat 0, .ofNat 104, []), (.ofNat 0, .ofNat 134, [])], [(1012, 0), (51100, 537)], [(0, 0, .inl (.inl (.ofNat 0))), (0, 3, .inl (.inr (0, 1, .ofNat 0))), (0, 2, .inl (.inl (.ofNat 0))), (0, 4, .inl (.inl (.ofNat 0))), (0, 5, .inl (.inl (.ofNat 940))), (0, 6, .inr (.inr 1)), (1, 0, .inl (.inl (.ofNat 4)))], [some (.inr (.inr 0)), some (.inl (.inl (.ofNat 9))), some (.inl (.inr (1, 1, .ofNat 0))), some (.inl (.inr (2, 1, .ofNat 0))), none, none, none]), [(.inl (.ofNat 999958), 0), (.inr (2, 1, .ofNat 0), 1), (.inl (.ofNat 1000000000), 0), (.inl (.ofNat 0), 0), (.inl (.ofNat 0), 0), (.inl (.ofNat 0), 0), (.inl (.ofNat 0), 0)]), (80, ([(.ofNat 0, .ofNat 940, []), (.ofNat 3, .ofNat 20, []), (.ofNat 0, .ofNat 400, []), (.negSucc 2147483647, .ofNat 2147483647, []), (.ofNat 0, .ofNat 8, []), (.ofNat 1, .ofNat 8, []), (.ofNat 0, .ofNat 40, [])], [(1012, 0), (51100, 537)], [(0, 0, .inl (.inl (.ofNat 0))), (0, 3, .inl (.inr (0, 1, .ofNat 0))), (0, 2, .inl (.inl (.ofNat 0))), (0, 4, .inl (.inl (.ofNat 0))), (0, 5, .inl (.inl (.ofNat 940))), (0, 6, .inr (.inr 1)), (1, 0, .inl (.inr (5, 1, .ofNat 0))), (0, 49, .inl (.inr (6, 1, .ofNat 0)))], [some (.inr (.inr 0)), some (.inl (.inr (1, 1, .ofNat 0))), some (.inl (.inr (2, 1, .ofNat 0))), some (.inl (.inr (3, 1, .ofNat 0))), some (.inl (.inr (4, 1, .ofNat 0))), none, none]), [(.inl (.ofNat 999920), 0), (.inr (4, 1, .ofNat 0), 1), (.inl (.ofNat 1000000000), 0), (.inl (.ofNat 0), 0), (.inl (.ofNat 0), 0), (.inl (.ofNat 0), 0), (.inl (.ofNat 0), 0)]), (88, ([(.ofNat 0, .ofNat 940, []), (.ofNat 3, .ofNat 20, []), (.ofNat 0, .ofNat 400, []), (.negSucc 2147483647, .ofNat 2147483647, []), (.ofNat 0, .ofNat 7, []), (.ofNat 0, .ofNat 12, []), (.ofNat 1, .ofNat 8, []), (.ofNat 0, .ofNat 40, [])], [(1012, 0), (51100, 537)], [(0, 0, .inl (.inl (.ofNat 0))), (0, 3, .inl (.inr (0, 1, .ofNat 0))), (0, 2, .inl (.inl (.ofNat 0))), (0, 4, .inl (.inl (.ofNat 0))), (0, 5, .inl (.inl (.ofNat 940))), (0, 6, .inr (.inr 1)), (1, 0, .inl (.inr (6, 1, .ofNat 0))), (0, 49, .inl (.inr (7, 1, .ofNat 0)))], [some (.inr (.inr 0)), some (.inl (.inr (1, 1, .ofNat 0))), some (.inl (.inr (2, 1, .ofNat 0))), some (.inl (.inr (3, 1, .ofNat 0))), some (.inl (.inr (4, 1, .ofNat 0))), some (.inl (.inr (5, 1, .ofNat 0))), none]), [(.inl (.ofNat 999920), 0), (.inr (4, 1, .ofNat 0), 1), (.inl (.ofNat 999912), 0), (.inr (5, 1, .ofNat 0), 1), (.inl (.ofNat 1000000000), 0), (.inl (.ofNat 0), 0), (.inl (.ofNat 0), 0)]), (93, ([(.ofNat 0, .ofNat 940, []), (.ofNat 3, .ofNat 20, []), (.ofNat 0, .ofNat 400, []), (.negSucc 2147483647, .ofNat 2147483647, []), (.ofNat 0, .ofNat 7, []), (.ofNat 0, .ofNat 11, []), (.ofNat 1, .ofNat 11, []), (.ofNat 1, .ofNat 8, []), (.ofNat 0, .ofNat 40, [])], [(1012, 0), (51100, 537)], [(0, 0, .inl (.inl (.ofNat 0))), (0, 3, .inl (.inr (0, 1, .ofNat 0))), (0, 2, .inl (.inl (.ofNat 0))), (0, 4, .inl (.inl (.ofNat 0))), (0, 5, .inl (.inl (.ofNat 940))), (0, 6, .inr (.inr 1)), (1, 0, .inl (.inr (7, 1, .ofNat 0))), (0, 49, .inl (.inr (8, 1, .ofNat 0)))], [some (.inr (.inr 0)), some (.inl (.inr (1, 1, .ofNat 0))), some (.inl (.inr (2, 1, .ofNat 0))), some (.inl (.inr (3, 1, .ofNat 0))), some (.inl (.inr (4, 1, .ofNat 0))), some (.inl (.inr (5, 1, .ofNat 0))), some (.inl (.inr (6, 1, .ofNat 0)))]), [(.inl (.ofNat 999920), 0), (.inr (4, 1, .ofNat 0), 1), (.inl (.ofNat 999912), 0), (.inr (5, 1, .ofNat 0), 1), (.inl (.ofNat 999907), 0), (.inr (6, 1, .ofNat 0), 1), (.inl (.ofNat 1000000000), 0)])], [(210, 11)])
def cx_X12_plain_a : ab_co := (226, 5, ([(.ofNat 0, .ofNat 940, [])], [(1012, 0)], [(0, 2, .inl (.inr (0, 1, .ofNat 0)))], [some (.inr (.inr 0))]), [(1012, 0, 0), (1012, 2, 5), (1012, 11, 22), (1012, 24, 24), (52100, 0, 220), (54103, 8, 15), (56100, 0, 3)], [(some (.inl (.inr (.inr (.negSucc 2147483647, .ofNat 2147483647, none)))), [(0, 2, .inl (.ofNat 0))])], [(23, ([(.ofNat 0, .ofNat 940, []), (.ofNat 0, .ofNat 6, [])], [(1012, 0)], [(0, 0, .inl (.inl (.ofNat 0))), (0, 3, .inl (.inr (0, 1, .ofNat 0))), (0, 2, .inl (.inl (.ofNat 0))), (0, 4, .inl (.inl (.ofNat 0))), (0, 5, .inl (.inl (.ofNat 900))), (0, 15, .inl (.inl (.ofNat 0))), (0, 19, .inl (.inl (.ofNat 0))), (0, 20, .inl (.inl (.ofNat 0))), (0, 21, .inl (.inl (.ofNat 0))), (0, 22, .inl (.inl (.ofNat 0)))], [some (.inr (.inr 0)), some (.inl (.inr (1, 1, .ofNat 0)))]), [(.inl (.ofNat 999977), 0), (.inr (1, 1, .ofNat 0), 1), (.inl (.ofNat 1000000000), 0)]), (35, ([(.ofNat 0, .ofNat 940, []), (.ofNat 0, .ofNat 221, [])], [(1012, 0)], [(0, 0, .inl (.inl (.ofNat 0))), (0, 3, .inl (.inr (0, 1, .ofNat 0))), (0, 2, .inl (.inl (.ofNat 0))), (0, 4, .inl (.inl (.ofNat 0))), (0, 5, .inl (.inl (.ofNat 900))), (0, 15, .inl (.inl (.ofNat 0))), (0, 19, .inl (.inl (.ofNat 0))), (0, 20, .inl (.inl (.ofNat 0))), (0, 21, .inl (.inl (.ofNat 0))), (0, 22, .inl (.inl (.ofNat 0)))], [some (.inr (.inr 0)), some (.inl (.inr (1, 1, .ofNat 0)))]), [(.inl (.ofNat 999965), 0), (.inr (1, 1, .ofNat 0), 1), (.inl (.ofNat 1000000000), 0)]), (52, ([(.ofNat 0, .ofNat 940, []), (.negSucc 2147483647, .ofNat 2147483647, []), (.ofNat 0, .ofNat 940, []), (.ofNat 0, .ofNat 4, [])], [(1012, 0), (52100, 221)], [(0, 0, .inl (.inl (.ofNat 0))), (0, 3, .inl (.inr (0, 1, .ofNat 0))), (0, 2, .inl (.inl (.ofNat 0))), (0, 5, .inl (.inl (.ofNat 900))), (0, 19, .inl (.inr (1, 1, .ofNat 0))), (0, 7, .inr (.inr 1)), (0, 4, .inl (.inr (2, 1, .ofNat 0))), (0, 11, .inl (.inr (3, 1, .ofNat 0)))], [some (.inr (.inr 0)), some (.inl (.inl (.ofNat 221)))]), [(.inl (.ofNat 999948), 0), (.inr (2, 1, .ofNat 0), 1), (.inl (.ofNat 1000000000), 0)]), (74, ([(.ofNat 0, .ofNat 940, []), (.negSucc 2147483647, .ofNat 2147483647, []), (.ofNat 0, .ofNat 940, [])], [(1012, 0), (52100, 221)], [(0, 0, .inl (.inl (.ofNat 0))), (0, 3, .inl (.inr (0, 1, .ofNat 0))), (0, 2, .inl (.inl (.ofNat 0))), (0, 5, .inl (.inl (.ofNat 900))), (0, 19, .inl (.inr (1, 1, .ofNat 0))), (0, 7, .inr (.inr 1)), (0, 4, .inl (.inr (2, 1, .ofNat 0))), (0, 11, .inl (.inl (.ofNat 0)))], [some (.inr (.inr 0)), some (.inl (.inl (.ofNat 221)))]), [(.inl (.ofNat 999926), 0), (.inl (.ofNat 0), 0), (.inl (.ofNat 1000000000), 0)])], [])
def cx_X12_isWord : ab_co := (206, 0, ([], [(1012, 0)], [], [some (.inr (.inr 0)), some (.inr (.inl ()))]), [], [(some (.inl (.inl (.ofNat 0))), []), (some (.inl (.inl (.ofNat 1))), [])], [], [])
def cx_X12_isSign : ab_co := (203, 0, ([(.negSucc 2147483647, .ofNat 2147483647, [])], [(1012, 0)], [], [some (.inr (.inr 0)), some (.inl (.inr (0, 1, .ofNat 0)))]), [], [(some (.inl (.inl (.ofNat 0))), []), (some (.inl (.inl (.ofNat 1))), [])], [], [])
def cx_X12_leafOf : ab_co := (208, 1, ([], [(1012, 0)], [], [some (.inr (.inr 0))]), [], [(some (.inl (.inr (.inr (.negSucc 0, .ofNat 8, none)))), [])], [], [])
def cx_X12_bad : ab_co := (161, 0, ([(.negSucc 2147483647, .ofNat 2147483647, [])], [(1012, 0)], [], [some (.inr (.inr 0)), some (.inl (.inr (0, 1, .ofNat 0)))]), [(1012, 15, 16)], [(some (.inl (.inl (.ofNat 0))), [])], [], [])
def cx_X12_taken : ab_co := (245, 0, ([(.negSucc 2147483647, .ofNat 2147483647, [])], [(1012, 0)], [], [some (.inr (.inr 0)), some (.inl (.inr (0, 1, .ofNat 0)))]), [(1012, 2, 5)], [(none, [(0, 2, .inl (.ofNat 0))])], [], [])
def cx_X12_next : ab_co := (216, 1, ([(.ofNat 0, .ofNat 940, []), (.negSucc 2147483647, .ofNat 2147483647, [])], [(1012, 0)], [(0, 4, .inl (.inr (0, 1, .ofNat 0))), (0, 13, .inl (.inr (1, 1, .ofNat 0)))], [some (.inr (.inr 0))]), [(1012, 4, 4), (1012, 11, 14), (1012, 17, 17)], [(none, [(0, 4, .inr (.inr (.ofNat 0, .ofNat 940, some (0, .ofNat 0)))), (0, 11, .inl (.ofNat 0))]), (none, [(0, 4, .inr (.inr (.ofNat 0, .ofNat 940, some (0, .ofNat 0)))), (0, 11, .inl (.ofNat 1))]), (none, [(0, 4, .inr (.inr (.ofNat 0, .ofNat 940, some (0, .ofNat 0)))), (0, 11, .inl (.ofNat 2))]), (none, [(0, 4, .inr (.inr (.ofNat 1, .ofNat 940, some (0, .ofNat 1)))), (0, 11, .inl (.ofNat 3))]), (none, [(0, 4, .inr (.inr (.ofNat 0, .ofNat 940, some (0, .ofNat 0)))), (0, 11, .inl (.ofNat 4))])], [(0, ([(.ofNat 0, .ofNat 939, []), (.negSucc 2147483647, .ofNat 2147483647, []), (.ofNat 1, .ofNat 940, [(0, .ofNat 1)]), (.ofNat 1, .ofNat 940, [(0, .ofNat 1)])], [(1012, 0), (50101, 940)], [(0, 13, .inl (.inr (1, 1, .ofNat 0))), (0, 3, .inl (.inr (2, 1, .ofNat 0))), (0, 1, .inr (.inr 1)), (0, 4, .inl (.inr (3, 1, .ofNat 0)))], [some (.inr (.inr 0)), none, none, none]), [(.inl (.ofNat 1000000), 0), (.inr (3, 1, .ofNat 0), 1), (.inl (.ofNat 1000000000), 0)]), (96, ([(.ofNat 0, .ofNat 939, []), (.negSucc 2147483647, .ofNat 2147483647, []), (.ofNat 48, .ofNat 122, []), (.ofNat 0, .ofNat 1, []), (.ofNat 0, .ofNat 939, [(0, .ofNat 0)]), (.ofNat 1, .ofNat 940, [(0, .ofNat 1)]), (.ofNat 1, .ofNat 2147483647, [(0, .ofNat 1)])], [(1012, 0), (50101, 940)], [(0, 4, .inl (.inr (4, 1, .ofNat 0))), (0, 3, .inl (.inr (5, 1, .ofNat 0))), (0, 1, .inr (.inr 1)), (0, 12, .inl (.inr (4, 1, .ofNat 0))), (0, 13, .inl (.inl (.ofNat 0))), (0, 5, .inl (.inr (6, 1, .ofNat 0))), (0, 14, .inl (.inl (.ofNat 0)))], [some (.inr (.inr 0)), some (.inl (.inr (2, 1, .ofNat 0))), some (.inl (.inr (3, 1, .ofNat 0))), some (.inl (.inl (.ofNat 1)))]), [(.inl (.ofNat 999904), 0), (.inr (4, 1, .ofNat 0), 1), (.inl (.ofNat 1000000000), 0)]), (96, ([(.ofNat 0, .ofNat 939, []), (.negSucc 2147483647, .ofNat 2147483647, []), (.ofNat 48, .ofNat 122, []), (.ofNat 0, .ofNat 1, []), (.ofNat 0, .ofNat 1, []), (.ofNat 1, .ofNat 940, [(0, .ofNat 1)]), (.ofNat 0, .ofNat 939, [(0, .ofNat 0)]), (.ofNat 1, .ofNat 2147483647, [(0, .ofNat 1)]), (.ofNat 0, .ofNat 74, []), (.ofNat 1, .ofNat 940, [(0, .ofNat 1)])], [(1012, 0), (50101, 940)], [(0, 3, .inl (.inr (5, 1, .ofNat 0))), (0, 1, .inr (.inr 1)), (0, 12, .inl (.inr (6, 1, .ofNat 0))), (0, 5, .inl (.inr (7, 1, .ofNat 0))), (0, 14, .inl (.inr (8, 1, .ofNat 0))), (0, 13, .inl (.inl (.ofNat 1))), (0, 4, .inl (.inr (9, 1, .ofNat 0)))], [some (.inr (.inr 0)), some (.inl (.inr (2, 1, .ofNat 0))), some (.inl (.inr (3, 1, .ofNat 0))), some (.inl (.inr (4, 1, .ofNat 0)))]), [(.inl (.ofNat 999904), 0), (.inr (9, 1, .ofNat 0), 1), (.inl (.ofNat 1000000000), 0)]), (96, ([(.ofNat 0, .ofNat 939, []), (.negSucc 2147483647, .ofNat 2147483647, []), (.ofNat 48, .ofNat 122, []), (.ofNat 0, .ofNat 1, []), (.ofNat 0, .ofNat 1, []), (.ofNat 2, .ofNat 940, [(0, .ofNat 2)]), (.ofNat 0, .ofNat 939, [(0, .ofNat 0)]), (.ofNat 1, .ofNat 2147483647, [(0, .ofNat 1)]), (.ofNat 0, .ofNat 814, []), (.ofNat 2, .ofNat 940, [(0, .ofNat 2)])], [(1012, 0), (50101, 940)], [(0, 3, .inl (.inr (5, 1, .ofNat 0))), (0, 1, .inr (.inr 1)), (0, 12, .inl (.inr (6, 1, .ofNat 0))), (0, 5, .inl (.inr (7, 1, .ofNat 0))), (0, 14, .inl (.inr (8, 1, .ofNat 0))), (0, 13, .inl (.inl (.ofNat 2))), (0, 4, .inl (.inr (9, 1, .ofNat 0)))], [some (.inr (.inr 0)), some (.inl (.inr (2, 1, .ofNat 0))), some (.inl (.inr (3, 1, .ofNat 0))), some (.inl (.inr (4, 1, .ofNat 0)))]), [(.inl (.ofNat 999904), 0), (.inr (9, 1, .ofNat 0), 1), (.inl (.ofNat 1000000000), 0)]), (96, ([(.ofNat 0, .ofNat 939, []), (.negSucc 2147483647, .ofNat 2147483647, []), (.ofNat 48, .ofNat 122, []), (.ofNat 0, .ofNat 1, []), (.ofNat 0, .ofNat 1, []), (.ofNat 3, .ofNat 940, [(0, .ofNat 3)]), (.ofNat 0, .ofNat 939, [(0, .ofNat 0)]), (.ofNat 1, .ofNat 2147483647, [(0, .ofNat 1)]), (.ofNat 0, .ofNat 8214, []), (.ofNat 3, .ofNat 945, []), (.ofNat 3, .ofNat 940, [(0, .ofNat 3), (9, .negSucc 4)])], [(1012, 0), (50101, 940)], [(0, 3, .inl (.inr (5, 1, .ofNat 0))), (0, 1, .inr (.inr 1)), (0, 12, .inl (.inr (6, 1, .ofNat 0))), (0, 5, .inl (.inr (7, 1, .ofNat 0))), (0, 14, .inl (.inr (8, 1, .ofNat 0))), (0, 13, .inl (.inr (9, 1, .ofNat 0))), (0, 4, .inl (.inr (10, 1, .ofNat 0)))], [some (.inr (.inr 0)), some (.inl (.inr (2, 1, .ofNat 0))), some (.inl (.inr (3, 1, .ofNat 0))), some (.inl (.inr (4, 1, .ofNat 0)))]), [(.inl (.ofNat 999904), 0), (.inr (10, 1, .ofNat 0), 1), (.inl (.ofNat 1000000000), 0)])], [])
def cx_X12_isLeaf : ab_co := (199, 1, ([(.ofNat 0, .ofNat 7, []), (.negSucc 2147483647, .ofNat 2147483647, []), (.negSucc 2147483647, .ofNat 2147483647, []), (.negSucc 2147483647, .ofNat 2147483647, [])], [(1012, 0)], [], [some (.inr (.inr 0)), some (.inl (.inr (0, 1, .ofNat 0))), some (.inl (.inr (1, 1, .ofNat 0))), some (.inl (.inr (2, 1, .ofNat 0))), some (.inl (.inr (3, 1, .ofNat 0)))]), [], [(some (.inl (.inl (.ofNat 0))), []), (some (.inl (.inl (.ofNat 1))), [])], [], [])
def cx_X12_isIn : ab_co := (198, 0, ([(.negSucc 2147483647, .ofNat 2147483647, []), (.negSucc 2147483647, .ofNat 2147483647, []), (.negSucc 2147483647, .ofNat 2147483647, [])], [], [], [some (.inl (.inr (0, 1, .ofNat 0))), some (.inl (.inr (1, 1, .ofNat 0))), some (.inl (.inr (2, 1, .ofNat 0)))]), [], [(some (.inl (.inl (.ofNat 0))), []), (some (.inl (.inl (.ofNat 1))), [])], [], [])
def cx_X11_image_neg : ab_co := (127, 0, ([(.negSucc 2147483647, .negSucc 0, []), (.ofNat 0, .ofNat 1, []), (.ofNat 0, .ofNat 1, [])], [(1011, 0), (48102, 2)], [(0, 4, .inr (.inr 1)), (1, 0, .inl (.inr (1, 1, .ofNat 0))), (1, 1, .inl (.inr (2, 1, .ofNat 0)))], [some (.inr (.inr 0)), some (.inl (.inr (0, 1, .ofNat 0)))]), [], [(some (.inl (.inl (.ofNat 0))), [(1, 0, .inr (.inl (1, .ofNat 0))), (1, 1, .inr (.inl (2, .ofNat 0)))])], [], [])
def cx_X11_image_0 : ab_co := (127, 2, ([(.ofNat 0, .ofNat 1, []), (.ofNat 0, .ofNat 1, [])], [(1011, 0), (48102, 2)], [(0, 4, .inr (.inr 1)), (1, 0, .inl (.inr (0, 1, .ofNat 0))), (1, 1, .inl (.inr (1, 1, .ofNat 0)))], [some (.inr (.inr 0)), some (.inl (.inl (.ofNat 0)))]), [(1002, 3, 3), (1004, 4, 9), (1006, 4, 5), (1010, 0, 2), (1010, 7, 14), (16100, 0, 11), (17100, 0, 11), (18100, 0, 11), (24103, 0, 7), (26100, 0, 8), (28100, 0, 11), (29100, 0, 11), (34105, 0, 39), (35100, 0, 39), (36100, 0, 39), (42100, 0, 11), (43100, 0, 11), (44100, 0, 11), (46100, 0, 10), (48102, 0, 0)], [(some (.inl (.inl (.ofNat 1))), [(1, 0, .inl (.ofNat 1)), (1, 1, .inr (.inl (1, .ofNat 0)))])], [], [])
def cx_X11_image_1 : ab_co := (127, 2, ([(.ofNat 0, .ofNat 1, []), (.ofNat 0, .ofNat 1, [])], [(1011, 0), (48102, 2)], [(0, 4, .inr (.inr 1)), (1, 0, .inl (.inr (0, 1, .ofNat 0))), (1, 1, .inl (.inr (1, 1, .ofNat 0)))], [some (.inr (.inr 0)), some (.inl (.inl (.ofNat 1)))]), [(1002, 3, 3), (1004, 4, 9), (1006, 4, 5), (1010, 0, 2), (1010, 7, 14), (16100, 0, 11), (17100, 0, 11), (18100, 0, 11), (24103, 0, 7), (26100, 0, 8), (28100, 0, 11), (29100, 0, 11), (34105, 0, 39), (35100, 0, 39), (36100, 0, 39), (42100, 0, 11), (43100, 0, 11), (44100, 0, 11), (46100, 0, 10), (48102, 1, 1)], [(some (.inl (.inl (.ofNat 1))), [(1, 0, .inr (.inl (0, .ofNat 0))), (1, 1, .inl (.ofNat 1))])], [], [])
def cx_X11_image_big : ab_co := (127, 0, ([(.ofNat 2, .ofNat 2147483647, []), (.ofNat 0, .ofNat 1, []), (.ofNat 0, .ofNat 1, [])], [(1011, 0), (48102, 2)], [(0, 4, .inr (.inr 1)), (1, 0, .inl (.inr (1, 1, .ofNat 0))), (1, 1, .inl (.inr (2, 1, .ofNat 0)))], [some (.inr (.inr 0)), some (.inl (.inr (0, 1, .ofNat 0)))]), [], [(some (.inl (.inl (.ofNat 0))), [(1, 0, .inr (.inl (1, .ofNat 0))), (1, 1, .inr (.inl (2, .ofNat 0)))])], [], [])
def cx_X11_restore_neg : ab_co := (144, 0, ([(.negSucc 2147483647, .negSucc 0, []), (.ofNat 0, .ofNat 1, []), (.ofNat 0, .ofNat 1, [])], [(1011, 0), (48102, 2)], [(0, 4, .inr (.inr 1)), (1, 0, .inl (.inr (1, 1, .ofNat 0))), (1, 1, .inl (.inr (2, 1, .ofNat 0)))], [some (.inr (.inr 0)), some (.inl (.inr (0, 1, .ofNat 0)))]), [], [(some (.inl (.inl (.ofNat 0))), [(1, 0, .inr (.inl (1, .ofNat 0))), (1, 1, .inr (.inl (2, .ofNat 0)))])], [], [])
def cx_X11_restore_big : ab_co := (144, 0, ([(.ofNat 2, .ofNat 2147483647, []), (.ofNat 0, .ofNat 1, []), (.ofNat 0, .ofNat 1, [])], [(1011, 0), (48102, 2)], [(0, 4, .inr (.inr 1)), (1, 0, .inl (.inr (1, 1, .ofNat 0))), (1, 1, .inl (.inr (2, 1, .ofNat 0)))], [some (.inr (.inr 0)), some (.inl (.inr (0, 1, .ofNat 0)))]), [], [(some (.inl (.inl (.ofNat 0))), [(1, 0, .inr (.inl (1, .ofNat 0))), (1, 1, .inr (.inl (2, .ofNat 0)))])], [], [])
def cx_X11_restore_00 : ab_co := (144, 0, ([(.ofNat 0, .ofNat 1, [])], [(1011, 0), (48102, 2)], [(0, 4, .inr (.inr 1)), (1, 0, .inl (.inl (.ofNat 0))), (1, 1, .inl (.inr (0, 1, .ofNat 0)))], [some (.inr (.inr 0)), some (.inl (.inl (.ofNat 0)))]), [], [(some (.inl (.inl (.ofNat 0))), [(1, 0, .inl (.ofNat 0)), (1, 1, .inr (.inl (0, .ofNat 0)))])], [], [])
def cx_X11_restore_01 : ab_co := (144, 2, ([(.ofNat 0, .ofNat 1, [])], [(1011, 0), (48102, 2)], [(0, 4, .inr (.inr 1)), (1, 0, .inl (.inl (.ofNat 1))), (1, 1, .inl (.inr (0, 1, .ofNat 0)))], [some (.inr (.inr 0)), some (.inl (.inl (.ofNat 0)))]), [(1002, 3, 3), (1004, 4, 9), (1006, 4, 5), (1009, 3, 3), (1010, 0, 2), (1010, 7, 14), (16100, 0, 11), (17100, 0, 11), (18100, 0, 11), (24103, 0, 7), (26100, 0, 8), (28100, 0, 11), (29100, 0, 11), (34105, 0, 39), (35100, 0, 39), (36100, 0, 39), (42100, 0, 11), (43100, 0, 11), (44100, 0, 11), (46100, 0, 10)], [(some (.inl (.inl (.ofNat 1))), [(1, 0, .inl (.ofNat 1)), (1, 1, .inr (.inl (0, .ofNat 0)))])], [], [])
def cx_X11_restore_10 : ab_co := (144, 0, ([(.ofNat 0, .ofNat 1, [])], [(1011, 0), (48102, 2)], [(0, 4, .inr (.inr 1)), (1, 0, .inl (.inr (0, 1, .ofNat 0))), (1, 1, .inl (.inl (.ofNat 0)))], [some (.inr (.inr 0)), some (.inl (.inl (.ofNat 1)))]), [], [(some (.inl (.inl (.ofNat 0))), [(1, 0, .inr (.inl (0, .ofNat 0))), (1, 1, .inl (.ofNat 0))])], [], [])
def cx_X11_restore_11 : ab_co := (144, 2, ([(.ofNat 0, .ofNat 1, [])], [(1011, 0), (48102, 2)], [(0, 4, .inr (.inr 1)), (1, 0, .inl (.inr (0, 1, .ofNat 0))), (1, 1, .inl (.inl (.ofNat 1)))], [some (.inr (.inr 0)), some (.inl (.inl (.ofNat 1)))]), [(1002, 3, 3), (1004, 4, 9), (1006, 4, 5), (1009, 3, 3), (1010, 0, 2), (1010, 7, 14), (16100, 0, 11), (17100, 0, 11), (18100, 0, 11), (24103, 0, 7), (26100, 0, 8), (28100, 0, 11), (29100, 0, 11), (34105, 0, 39), (35100, 0, 39), (36100, 0, 39), (42100, 0, 11), (43100, 0, 11), (44100, 0, 11), (46100, 0, 10)], [(some (.inl (.inl (.ofNat 1))), [(1, 0, .inr (.inl (0, .ofNat 0))), (1, 1, .inl (.ofNat 1))])], [], [])
end
section
/-! ===== the contracts that tell more hold ===== -/
set_option maxRecDepth 100000 in
theorem xe_X11_feed_lo : ab_ce cx_X11_feed_lo 214 = true := by decide +kernel
set_option maxRecDepth 100000 in
theorem xl_X11_feed_lo : (ab_c cx_X11_feed_lo).all (ab_cc cx_X11_feed_lo 214) = true := by decide +kernel
set_option maxRecDepth 100000 in
theorem xo_X11_feed_lo : ab_ok cx_X11_feed_lo := ab_ok_of ⟨by decide +kernel, xe_X11_feed_lo, fun b hb => List.all_eq_true.mp xl_X11_feed_lo b hb⟩ (ab_all_ok 214 (Nat.le_refl 214))
set_option maxRecDepth 100000 in
theorem xe_X11_feed_hi : ab_ce cx_X11_feed_hi 214 = true := by decide +kernel
set_option maxRecDepth 100000 in
theorem xl_X11_feed_hi : (ab_c cx_X11_feed_hi).all (ab_cc cx_X11_feed_hi 214) = true := by decide +kernel
set_option maxRecDepth 100000 in
theorem xo_X11_feed_hi : ab_ok cx_X11_feed_hi := ab_ok_of ⟨by decide +kernel, xe_X11_feed_hi, fun b hb => List.all_eq_true.mp xl_X11_feed_hi b hb⟩ (ab_all_ok 214 (Nat.le_refl 214))
set_option maxRecDepth 100000 in
theorem xe_X11_end_neg : ab_ce cx_X11_end_neg 214 = true := by decide +kernel
set_option maxRecDepth 100000 in
theorem xl_X11_end_neg : (ab_c cx_X11_end_neg).all (ab_cc cx_X11_end_neg 214) = true := by decide +kernel
set_option maxRecDepth 100000 in
theorem xo_X11_end_neg : ab_ok cx_X11_end_neg := ab_ok_of ⟨by decide +kernel, xe_X11_end_neg, fun b hb => List.all_eq_true.mp xl_X11_end_neg b hb⟩ (ab_all_ok 214 (Nat.le_refl 214))
set_option maxRecDepth 100000 in
theorem xe_X11_end_big : ab_ce cx_X11_end_big 214 = true := by decide +kernel
set_option maxRecDepth 100000 in
theorem xl_X11_end_big : (ab_c cx_X11_end_big).all (ab_cc cx_X11_end_big 214) = true := by decide +kernel
set_option maxRecDepth 100000 in
theorem xo_X11_end_big : ab_ok cx_X11_end_big := ab_ok_of ⟨by decide +kernel, xe_X11_end_big, fun b hb => List.all_eq_true.mp xl_X11_end_big b hb⟩ (ab_all_ok 214 (Nat.le_refl 214))
set_option maxRecDepth 100000 in
theorem xe_X11_end_fit : ab_ce cx_X11_end_fit 214 = true := by decide +kernel
set_option maxRecDepth 100000 in
theorem xl_X11_end_fit : (ab_c cx_X11_end_fit).all (ab_cc cx_X11_end_fit 214) = true := by decide +kernel
set_option maxRecDepth 100000 in
theorem xo_X11_end_fit : ab_ok cx_X11_end_fit := ab_ok_of ⟨by decide +kernel, xe_X11_end_fit, fun b hb => List.all_eq_true.mp xl_X11_end_fit b hb⟩ (ab_all_ok 214 (Nat.le_refl 214))
set_option maxRecDepth 100000 in
theorem xe_X11_plain_z : ab_ce cx_X11_plain_z 214 = true := by decide +kernel
set_option maxRecDepth 100000 in
theorem xl_X11_plain_z : (ab_c cx_X11_plain_z).all (ab_cc cx_X11_plain_z 214) = true := by decide +kernel
set_option maxRecDepth 100000 in
theorem xo_X11_plain_z : ab_ok cx_X11_plain_z := ab_ok_of ⟨by decide +kernel, xe_X11_plain_z, fun b hb => List.all_eq_true.mp xl_X11_plain_z b hb⟩ (ab_all_ok 214 (Nat.le_refl 214))
set_option maxRecDepth 100000 in
theorem xe_X11_contracts_z : ab_ce cx_X11_contracts_z 214 = true := by decide +kernel
set_option maxRecDepth 100000 in
theorem xl_X11_contracts_z : (ab_c cx_X11_contracts_z).all (ab_cc cx_X11_contracts_z 214) = true := by decide +kernel
set_option maxRecDepth 100000 in
theorem xo_X11_contracts_z : ab_ok cx_X11_contracts_z := ab_ok_of ⟨by decide +kernel, xe_X11_contracts_z, fun b hb => List.all_eq_true.mp xl_X11_contracts_z b hb⟩ (ab_all_ok 214 (Nat.le_refl 214))
set_option maxRecDepth 100000 in
theorem xe_X11_sentence_z : ab_ce cx_X11_sentence_z 214 = true := by decide +kernel
set_option maxRecDepth 100000 in
theorem xl_X11_sentence_z : (ab_c cx_X11_sentence_z).all (ab_cc cx_X11_sentence_z 214) = true := by decide +kernel
set_option maxRecDepth 100000 in
theorem xo_X11_sentence_z : ab_ok cx_X11_sentence_z := ab_ok_of ⟨by decide +kernel, xe_X11_sentence_z, fun b hb => List.all_eq_true.mp xl_X11_sentence_z b hb⟩ (ab_all_ok 214 (Nat.le_refl 214))
set_option maxRecDepth 100000 in
theorem xe_X11_leaks_z : ab_ce cx_X11_leaks_z 214 = true := by decide +kernel
set_option maxRecDepth 100000 in
theorem xl_X11_leaks_z : (ab_c cx_X11_leaks_z).all (ab_cc cx_X11_leaks_z 214) = true := by decide +kernel
set_option maxRecDepth 100000 in
theorem xo_X11_leaks_z : ab_ok cx_X11_leaks_z := ab_ok_of ⟨by decide +kernel, xe_X11_leaks_z, fun b hb => List.all_eq_true.mp xl_X11_leaks_z b hb⟩ (ab_all_ok 214 (Nat.le_refl 214))
set_option maxRecDepth 100000 in
theorem xe_X12_feed_lo : ab_ce cx_X12_feed_lo 214 = true := by decide +kernel
set_option maxRecDepth 100000 in
theorem xl_X12_feed_lo : (ab_c cx_X12_feed_lo).all (ab_cc cx_X12_feed_lo 214) = true := by decide +kernel
set_option maxRecDepth 100000 in
theorem xo_X12_feed_lo : ab_ok cx_X12_feed_lo := ab_ok_of ⟨by decide +kernel, xe_X12_feed_lo, fun b hb => List.all_eq_true.mp xl_X12_feed_lo b hb⟩ (ab_all_ok 214 (Nat.le_refl 214))
set_option maxRecDepth 100000 in
theorem xe_X12_feed_hi : ab_ce cx_X12_feed_hi 214 = true := by decide +kernel
set_option maxRecDepth 100000 in
theorem xl_X12_feed_hi : (ab_c cx_X12_feed_hi).all (ab_cc cx_X12_feed_hi 214) = true := by decide +kernel
set_option maxRecDepth 100000 in
theorem xo_X12_feed_hi : ab_ok cx_X12_feed_hi := ab_ok_of ⟨by decide +kernel, xe_X12_feed_hi, fun b hb => List.all_eq_true.mp xl_X12_feed_hi b hb⟩ (ab_all_ok 214 (Nat.le_refl 214))
set_option maxRecDepth 100000 in
theorem xe_X12_end_neg : ab_ce cx_X12_end_neg 214 = true := by decide +kernel
set_option maxRecDepth 100000 in
theorem xl_X12_end_neg : (ab_c cx_X12_end_neg).all (ab_cc cx_X12_end_neg 214) = true := by decide +kernel
set_option maxRecDepth 100000 in
theorem xo_X12_end_neg : ab_ok cx_X12_end_neg := ab_ok_of ⟨by decide +kernel, xe_X12_end_neg, fun b hb => List.all_eq_true.mp xl_X12_end_neg b hb⟩ (ab_all_ok 214 (Nat.le_refl 214))
set_option maxRecDepth 100000 in
theorem xe_X12_end_big : ab_ce cx_X12_end_big 214 = true := by decide +kernel
set_option maxRecDepth 100000 in
theorem xl_X12_end_big : (ab_c cx_X12_end_big).all (ab_cc cx_X12_end_big 214) = true := by decide +kernel
set_option maxRecDepth 100000 in
theorem xo_X12_end_big : ab_ok cx_X12_end_big := ab_ok_of ⟨by decide +kernel, xe_X12_end_big, fun b hb => List.all_eq_true.mp xl_X12_end_big b hb⟩ (ab_all_ok 214 (Nat.le_refl 214))
set_option maxRecDepth 100000 in
theorem xe_X12_end_fit : ab_ce cx_X12_end_fit 214 = true := by decide +kernel
set_option maxRecDepth 100000 in
theorem xl_X12_end_fit : (ab_c cx_X12_end_fit).all (ab_cc cx_X12_end_fit 214) = true := by decide +kernel
set_option maxRecDepth 100000 in
theorem xo_X12_end_fit : ab_ok cx_X12_end_fit := ab_ok_of ⟨by decide +kernel, xe_X12_end_fit, fun b hb => List.all_eq_true.mp xl_X12_end_fit b hb⟩ (ab_all_ok 214 (Nat.le_refl 214))
set_option maxRecDepth 100000 in
theorem xe_X12_contracts_z : ab_ce cx_X12_contracts_z 214 = true := by decide +kernel
set_option maxRecDepth 100000 in
theorem xl_X12_contracts_z : (ab_c cx_X12_contracts_z).all (ab_cc cx_X12_contracts_z 214) = true := by decide +kernel
set_option maxRecDepth 100000 in
theorem xo_X12_contracts_z : ab_ok cx_X12_contracts_z := ab_ok_of ⟨by decide +kernel, xe_X12_contracts_z, fun b hb => List.all_eq_true.mp xl_X12_contracts_z b hb⟩ (ab_all_ok 214 (Nat.le_refl 214))
set_option maxRecDepth 100000 in
theorem xe_X12_leaks_z : ab_ce cx_X12_leaks_z 214 = true := by decide +kernel
set_option maxRecDepth 100000 in
theorem xl_X12_leaks_z : (ab_c cx_X12_leaks_z).all (ab_cc cx_X12_leaks_z 214) = true := by decide +kernel
set_option maxRecDepth 100000 in
theorem xo_X12_leaks_z : ab_ok cx_X12_leaks_z := ab_ok_of ⟨by decide +kernel, xe_X12_leaks_z, fun b hb => List.all_eq_true.mp xl_X12_leaks_z b hb⟩ (ab_all_ok 214 (Nat.le_refl 214))
set_option maxRecDepth 100000 in
theorem xe_X12_plain_a : ab_ce cx_X12_plain_a 214 = true := by decide +kernel
set_option maxRecDepth 100000 in
theorem xl_X12_plain_a : (ab_c cx_X12_plain_a).all (fun b => Nat.beq b.1 74 || ab_cc cx_X12_plain_a 214 b) = true := by decide +kernel
set_option maxRecDepth 100000 in
theorem xe_X12_isWord : ab_ce cx_X12_isWord 214 = true := by decide +kernel
set_option maxRecDepth 100000 in
theorem xl_X12_isWord : (ab_c cx_X12_isWord).all (ab_cc cx_X12_isWord 214) = true := by decide +kernel
set_option maxRecDepth 100000 in
theorem xo_X12_isWord : ab_ok cx_X12_isWord := ab_ok_of ⟨by decide +kernel, xe_X12_isWord, fun b hb => List.all_eq_true.mp xl_X12_isWord b hb⟩ (ab_all_ok 214 (Nat.le_refl 214))
set_option maxRecDepth 100000 in
theorem xe_X12_isSign : ab_ce cx_X12_isSign 214 = true := by decide +kernel
set_option maxRecDepth 100000 in
theorem xl_X12_isSign : (ab_c cx_X12_isSign).all (ab_cc cx_X12_isSign 214) = true := by decide +kernel
set_option maxRecDepth 100000 in
theorem xo_X12_isSign : ab_ok cx_X12_isSign := ab_ok_of ⟨by decide +kernel, xe_X12_isSign, fun b hb => List.all_eq_true.mp xl_X12_isSign b hb⟩ (ab_all_ok 214 (Nat.le_refl 214))
set_option maxRecDepth 100000 in
theorem xe_X12_leafOf : ab_ce cx_X12_leafOf 214 = true := by decide +kernel
set_option maxRecDepth 100000 in
theorem xl_X12_leafOf : (ab_c cx_X12_leafOf).all (ab_cc cx_X12_leafOf 214) = true := by decide +kernel
set_option maxRecDepth 100000 in
theorem xo_X12_leafOf : ab_ok cx_X12_leafOf := ab_ok_of ⟨by decide +kernel, xe_X12_leafOf, fun b hb => List.all_eq_true.mp xl_X12_leafOf b hb⟩ (ab_all_ok 214 (Nat.le_refl 214))
set_option maxRecDepth 100000 in
theorem xe_X12_bad : ab_ce cx_X12_bad 214 = true := by decide +kernel
set_option maxRecDepth 100000 in
theorem xl_X12_bad : (ab_c cx_X12_bad).all (ab_cc cx_X12_bad 214) = true := by decide +kernel
set_option maxRecDepth 100000 in
theorem xo_X12_bad : ab_ok cx_X12_bad := ab_ok_of ⟨by decide +kernel, xe_X12_bad, fun b hb => List.all_eq_true.mp xl_X12_bad b hb⟩ (ab_all_ok 214 (Nat.le_refl 214))
set_option maxRecDepth 100000 in
theorem xe_X12_taken : ab_ce cx_X12_taken 214 = true := by decide +kernel
set_option maxRecDepth 100000 in
theorem xl_X12_taken : (ab_c cx_X12_taken).all (ab_cc cx_X12_taken 214) = true := by decide +kernel
set_option maxRecDepth 100000 in
theorem xo_X12_taken : ab_ok cx_X12_taken := ab_ok_of ⟨by decide +kernel, xe_X12_taken, fun b hb => List.all_eq_true.mp xl_X12_taken b hb⟩ (ab_all_ok 214 (Nat.le_refl 214))
set_option maxRecDepth 100000 in
theorem xe_X12_next : ab_ce cx_X12_next 214 = true := by decide +kernel
set_option maxRecDepth 100000 in
theorem xl_X12_next : (ab_c cx_X12_next).all (ab_cc cx_X12_next 214) = true := by decide +kernel
set_option maxRecDepth 100000 in
theorem xo_X12_next : ab_ok cx_X12_next := ab_ok_of ⟨by decide +kernel, xe_X12_next, fun b hb => List.all_eq_true.mp xl_X12_next b hb⟩ (ab_all_ok 214 (Nat.le_refl 214))
set_option maxRecDepth 100000 in
theorem xe_X12_isLeaf : ab_ce cx_X12_isLeaf 214 = true := by decide +kernel
set_option maxRecDepth 100000 in
theorem xl_X12_isLeaf : (ab_c cx_X12_isLeaf).all (ab_cc cx_X12_isLeaf 214) = true := by decide +kernel
set_option maxRecDepth 100000 in
theorem xo_X12_isLeaf : ab_ok cx_X12_isLeaf := ab_ok_of ⟨by decide +kernel, xe_X12_isLeaf, fun b hb => List.all_eq_true.mp xl_X12_isLeaf b hb⟩ (ab_all_ok 214 (Nat.le_refl 214))
set_option maxRecDepth 100000 in
theorem xe_X12_isIn : ab_ce cx_X12_isIn 214 = true := by decide +kernel
set_option maxRecDepth 100000 in
theorem xl_X12_isIn : (ab_c cx_X12_isIn).all (ab_cc cx_X12_isIn 214) = true := by decide +kernel
set_option maxRecDepth 100000 in
theorem xo_X12_isIn : ab_ok cx_X12_isIn := ab_ok_of ⟨by decide +kernel, xe_X12_isIn, fun b hb => List.all_eq_true.mp xl_X12_isIn b hb⟩ (ab_all_ok 214 (Nat.le_refl 214))
set_option maxRecDepth 100000 in
theorem xe_X11_image_neg : ab_ce cx_X11_image_neg 214 = true := by decide +kernel
set_option maxRecDepth 100000 in
theorem xl_X11_image_neg : (ab_c cx_X11_image_neg).all (ab_cc cx_X11_image_neg 214) = true := by decide +kernel
set_option maxRecDepth 100000 in
theorem xo_X11_image_neg : ab_ok cx_X11_image_neg := ab_ok_of ⟨by decide +kernel, xe_X11_image_neg, fun b hb => List.all_eq_true.mp xl_X11_image_neg b hb⟩ (ab_all_ok 214 (Nat.le_refl 214))
set_option maxRecDepth 100000 in
theorem xe_X11_image_0 : ab_ce cx_X11_image_0 214 = true := by decide +kernel
set_option maxRecDepth 100000 in
theorem xl_X11_image_0 : (ab_c cx_X11_image_0).all (ab_cc cx_X11_image_0 214) = true := by decide +kernel
set_option maxRecDepth 100000 in
theorem xo_X11_image_0 : ab_ok cx_X11_image_0 := ab_ok_of ⟨by decide +kernel, xe_X11_image_0, fun b hb => List.all_eq_true.mp xl_X11_image_0 b hb⟩ (ab_all_ok 214 (Nat.le_refl 214))
set_option maxRecDepth 100000 in
theorem xe_X11_image_1 : ab_ce cx_X11_image_1 214 = true := by decide +kernel
set_option maxRecDepth 100000 in
theorem xl_X11_image_1 : (ab_c cx_X11_image_1).all (ab_cc cx_X11_image_1 214) = true := by decide +kernel
set_option maxRecDepth 100000 in
theorem xo_X11_image_1 : ab_ok cx_X11_image_1 := ab_ok_of ⟨by decide +kernel, xe_X11_image_1, fun b hb => List.all_eq_true.mp xl_X11_image_1 b hb⟩ (ab_all_ok 214 (Nat.le_refl 214))
set_option maxRecDepth 100000 in
theorem xe_X11_image_big : ab_ce cx_X11_image_big 214 = true := by decide +kernel
set_option maxRecDepth 100000 in
theorem xl_X11_image_big : (ab_c cx_X11_image_big).all (ab_cc cx_X11_image_big 214) = true := by decide +kernel
set_option maxRecDepth 100000 in
theorem xo_X11_image_big : ab_ok cx_X11_image_big := ab_ok_of ⟨by decide +kernel, xe_X11_image_big, fun b hb => List.all_eq_true.mp xl_X11_image_big b hb⟩ (ab_all_ok 214 (Nat.le_refl 214))
set_option maxRecDepth 100000 in
theorem xe_X11_restore_neg : ab_ce cx_X11_restore_neg 214 = true := by decide +kernel
set_option maxRecDepth 100000 in
theorem xl_X11_restore_neg : (ab_c cx_X11_restore_neg).all (ab_cc cx_X11_restore_neg 214) = true := by decide +kernel
set_option maxRecDepth 100000 in
theorem xo_X11_restore_neg : ab_ok cx_X11_restore_neg := ab_ok_of ⟨by decide +kernel, xe_X11_restore_neg, fun b hb => List.all_eq_true.mp xl_X11_restore_neg b hb⟩ (ab_all_ok 214 (Nat.le_refl 214))
set_option maxRecDepth 100000 in
theorem xe_X11_restore_big : ab_ce cx_X11_restore_big 214 = true := by decide +kernel
set_option maxRecDepth 100000 in
theorem xl_X11_restore_big : (ab_c cx_X11_restore_big).all (ab_cc cx_X11_restore_big 214) = true := by decide +kernel
set_option maxRecDepth 100000 in
theorem xo_X11_restore_big : ab_ok cx_X11_restore_big := ab_ok_of ⟨by decide +kernel, xe_X11_restore_big, fun b hb => List.all_eq_true.mp xl_X11_restore_big b hb⟩ (ab_all_ok 214 (Nat.le_refl 214))
set_option maxRecDepth 100000 in
theorem xe_X11_restore_00 : ab_ce cx_X11_restore_00 214 = true := by decide +kernel
set_option maxRecDepth 100000 in
theorem xl_X11_restore_00 : (ab_c cx_X11_restore_00).all (ab_cc cx_X11_restore_00 214) = true := by decide +kernel
set_option maxRecDepth 100000 in
theorem xo_X11_restore_00 : ab_ok cx_X11_restore_00 := ab_ok_of ⟨by decide +kernel, xe_X11_restore_00, fun b hb => List.all_eq_true.mp xl_X11_restore_00 b hb⟩ (ab_all_ok 214 (Nat.le_refl 214))
set_option maxRecDepth 100000 in
theorem xe_X11_restore_01 : ab_ce cx_X11_restore_01 214 = true := by decide +kernel
set_option maxRecDepth 100000 in
theorem xl_X11_restore_01 : (ab_c cx_X11_restore_01).all (ab_cc cx_X11_restore_01 214) = true := by decide +kernel
set_option maxRecDepth 100000 in
theorem xo_X11_restore_01 : ab_ok cx_X11_restore_01 := ab_ok_of ⟨by decide +kernel, xe_X11_restore_01, fun b hb => List.all_eq_true.mp xl_X11_restore_01 b hb⟩ (ab_all_ok 214 (Nat.le_refl 214))
set_option maxRecDepth 100000 in
theorem xe_X11_restore_10 : ab_ce cx_X11_restore_10 214 = true := by decide +kernel
set_option maxRecDepth 100000 in
theorem xl_X11_restore_10 : (ab_c cx_X11_restore_10).all (ab_cc cx_X11_restore_10 214) = true := by decide +kernel
set_option maxRecDepth 100000 in
theorem xo_X11_restore_10 : ab_ok cx_X11_restore_10 := ab_ok_of ⟨by decide +kernel, xe_X11_restore_10, fun b hb => List.all_eq_true.mp xl_X11_restore_10 b hb⟩ (ab_all_ok 214 (Nat.le_refl 214))
set_option maxRecDepth 100000 in
theorem xe_X11_restore_11 : ab_ce cx_X11_restore_11 214 = true := by decide +kernel
set_option maxRecDepth 100000 in
theorem xl_X11_restore_11 : (ab_c cx_X11_restore_11).all (ab_cc cx_X11_restore_11 214) = true := by decide +kernel
set_option maxRecDepth 100000 in
theorem xo_X11_restore_11 : ab_ok cx_X11_restore_11 := ab_ok_of ⟨by decide +kernel, xe_X11_restore_11, fun b hb => List.all_eq_true.mp xl_X11_restore_11 b hb⟩ (ab_all_ok 214 (Nat.le_refl 214))
end
section
/-! ===== by hand: rows of the machine with their values told ===== -/
theorem hn_s {M : mj_M} {a k : Nat} {z : Int} : (mj_p0 M a k z).1 a k = z := if_pos ⟨rfl, rfl⟩
theorem hn_n {M : mj_M} {a k x j : Nat} {z : Int} (h : x ≠ a ∨ j ≠ k) : (mj_p0 M a k z).1 x j = M.1 x j := if_neg (fun e => h.elim (fun q => q e.1) (fun q => q e.2))
theorem hn_ne {G : mj_G} {a b t t' n n' : Nat} (ha : G a = (t, n)) (hb : G b = (t', n')) (h : t ≠ t') : a ≠ b := fun q => h (by subst q; exact (Prod.mk.inj (ha.symm.trans hb)).1)
theorem hn_gi {fk : Nat} {l : List Nat} {m : Nat} {st : List mj_V} {G : mj_G} {M : mj_M} {k : List mj_V → Prop} {A : Prop} {v : Int} (hl : l ≠ []) (hh : mj_hd l = 11) (hf : mj_h1 l = fk) (hso : mj_so 11 fk = 0) (hm : G m = (1012, 0)) (hv : M.1 m fk = v) (hk : k (.inl v :: st)) : l ≠ [] ∧ mj_br (mj_hd l = 49) A (mj_get (mj_hd l) (mj_h1 l) (.inr (.inr (some m)) :: st) G M k) := by
  subst hf hv
  refine ⟨hl, fun e => absurd (hh.symm.trans e) (by decide), fun _ => ?_⟩
  rw [hh]
  refine ⟨1012, 0, hm, rfl, ?_⟩
  rw [hso]
  exact hk
theorem hn_gr {fk : Nat} {l : List Nat} {m b : Nat} {st : List mj_V} {G : mj_G} {M : mj_M} {k : List mj_V → Prop} {A : Prop} (hl : l ≠ []) (hh : mj_hd l = 11) (hf : mj_h1 l = fk) (hso : mj_so 11 fk = 2) (hm : G m = (1012, 0)) (hv : M.2.2 m fk = some b) (hk : k (.inr (.inr (some b)) :: st)) : l ≠ [] ∧ mj_br (mj_hd l = 49) A (mj_get (mj_hd l) (mj_h1 l) (.inr (.inr (some m)) :: st) G M k) := by
  subst hf
  refine ⟨hl, fun e => absurd (hh.symm.trans e) (by decide), fun _ => ?_⟩
  rw [hh]
  refine ⟨1012, 0, hm, rfl, ?_⟩
  rw [hso]
  refine ⟨fun b' hb => ?_, fun hb => ?_⟩
  · cases hv.symm.trans hb
    exact hk
  · cases hv.symm.trans hb
theorem hn_pi {fk : Nat} {l : List Nat} {m : Nat} {st : List mj_V} {G : mj_G} {M : mj_M} {k : List mj_V → mj_M → Prop} {v : Int} (hl : l ≠ []) (hh : mj_hd l = 11) (hf : mj_h1 l = fk) (hso : mj_so 11 fk = 0) (hm : G m = (1012, 0)) (hb : mj_ty 11 fk = .boolean → v = 0 ∨ v = 1) (hk : k st (mj_p0 M m fk v)) : l ≠ [] ∧ mj_put (mj_hd l) (mj_h1 l) (.inl v :: .inr (.inr (some m)) :: st) G M k := by
  subst hf
  refine ⟨hl, ?_⟩
  unfold mj_put
  rw [hh, hso]
  exact ⟨1012, 0, hm, rfl, by decide, hb, hk⟩
/-! what is not written -/
theorem hn_nc {W : List (Nat × Nat × Nat)} {t k : Nat} (h : W.all (fun q => !(Nat.beq q.1 t && (Nat.ble q.2.1 k && Nat.ble k q.2.2))) = true) : ¬ ab_cov W t k := by
  rintro ⟨q, hq, q1, q2, q3⟩
  have h1 := List.all_eq_true.mp h q hq
  rw [q1, Nat.beq_refl, Nat.ble_eq_true_of_le q2, Nat.ble_eq_true_of_le q3] at h1
  cases h1
theorem hn_nt {W : List (Nat × Nat × Nat)} {t k : Nat} (h : W.all (fun q => !(Nat.beq q.1 t)) = true) : ¬ ab_cov W t k := by
  rintro ⟨q, hq, q1, -, -⟩
  have h1 := List.all_eq_true.mp h q hq
  rw [q1, Nat.beq_refl] at h1
  cases h1
theorem hn_f0 {W : List (Nat × Nat × Nat)} {G : mj_G} {M0 M : mj_M} {a j : Nat} {z : Int} (h : ab_frm W G M0 M) (hc : ab_cov W (G a).1 j) : ab_frm W G M0 (mj_p0 M a j z) := h.wr ab_p0_w hc
theorem hn_up {W W' : List (Nat × Nat × Nat)} {G : mj_G} {M M' : mj_M} (h : ab_frm W G M M') (hw : W.all (fun e => ab_cw W' e.1 (.ofNat e.2.1) (.ofNat e.2.2)) = true) : ab_frm W' G M M' := fun a k hn => h a k (fun hc => hn (ab_cov_all hw hc))
/-! the height of the values' stack behind i codes; binary words on the stack -/
def hn_k (f : Nat → Int) : Nat → Nat → Prop
  | 0, n => n = 0
  | i + 1, n => ∃ k, hn_k f i k ∧ ((f i = 10 ∧ 1 ≤ k ∧ n = k) ∨ ((f i = 11 ∨ f i = 12) ∧ 2 ≤ k ∧ n + 1 = k) ∨ (f i ≠ 10 ∧ f i ≠ 11 ∧ f i ≠ 12 ∧ n = k + 1))
theorem hn_k.cg {f g : Nat → Int} : ∀ {i n : Nat}, (∀ j, j < i → f j = g j) → hn_k f i n → hn_k g i n
  | 0, _, _, h => h
  | i + 1, _, e, ⟨k, h1, h2⟩ => ⟨k, h1.cg (fun j hj => e j (by omega)), by rw [← e i (by omega)]; exact h2⟩
theorem hn_k.le {f : Nat → Int} : ∀ {i n : Nat}, hn_k f i n → n ≤ i
  | 0, _, h => by have h : _ = 0 := h; omega
  | i + 1, _, ⟨k, h1, h2⟩ => by have := h1.le; omega
theorem hn_k.fn {f : Nat → Int} : ∀ {i n m : Nat}, hn_k f i n → hn_k f i m → n = m
  | 0, _, _, h, h' => (show _ = 0 from h).trans (show _ = 0 from h').symm
  | i + 1, _, _, ⟨k, h1, h2⟩, ⟨k', h1', h2'⟩ => by
    have e := h1.fn h1'
    omega
theorem hn_k.pre {f : Nat → Int} : ∀ {j i n : Nat}, hn_k f (i + j) n → ∃ k, hn_k f i k
  | 0, _, n, h => ⟨n, h⟩
  | j + 1, i, _, ⟨_, h1, _⟩ => hn_k.pre (j := j) (i := i) h1
def hn_b (f : Nat → Int) : Nat → Nat
  | 0 => 0
  | t + 1 => hn_b f t + (if f t = 11 ∨ f t = 12 then 1 else 0)
theorem hn_b.cg {f g : Nat → Int} : ∀ {t : Nat}, (∀ j, j < t → f j = g j) → hn_b f t = hn_b g t
  | 0, _ => rfl
  | t + 1, e => by
    show hn_b f t + _ = hn_b g t + _
    rw [hn_b.cg (fun j hj => e j (by omega)), e t (by omega)]
end
section
/-! ===== by hand: code, nots, joins of the reference ===== -/
/-- the reference, its codes and its stack -/
def hn_R (G : mj_G) (M : mj_M) (m rd sk : Nat) : Prop := G m = (1012, 0) ∧ M.2.2 m 8 = some rd ∧ G rd = (53100, 135) ∧ M.2.2 m 52 = some sk ∧ G sk = (68100, 45)
abbrev hn_W : List (Nat × Nat × Nat) := [(1012, 53, 53), (1012, 55, 56), (53100, 0, 134)]
theorem hn_R.fr {W : List (Nat × Nat × Nat)} {G : mj_G} {M M' : mj_M} {m rd sk : Nat} (h : hn_R G M m rd sk) (hf : ab_frm W G M M') (h1 : ¬ ab_cov W 1012 8) (h2 : ¬ ab_cov W 1012 52) : hn_R G M' m rd sk := by
  obtain ⟨a, b, c, d, e⟩ := h
  refine ⟨a, ?_, c, ?_, e⟩
  · rw [(hf m 8 (by rw [a]; exact h1)).2]; exact b
  · rw [(hf m 52 (by rw [a]; exact h2)).2]; exact d
set_option maxRecDepth 100000 in
theorem r_code {d m rd sk c : Nat} {x y z : Int} {G : mj_G} {M : mj_M} {Q : mj_P} (hr : hn_R G M m rd sk) (hI : ab_Inv G M) (hc : M.1 m 53 = (c : Int)) (hc1 : c ≤ 44) (hx : mj_in x) (hy : mj_in y) (hz : mj_in z)
    (hQ : ∀ M', ab_Inv G M' → ab_frm hn_W G M M' → M'.1 m 53 = ((c + 1 : Nat) : Int) → M'.1 m 55 = M.1 m 55 → M'.1 m 54 = M.1 m 54 → M'.1 rd (3 * c) = x → (∀ j, j < 3 * c → M'.1 rd j = M.1 rd j) → Q none G M') : mj_R mj_tab (d + 1) 174 [.inr (.inr (some m)), .inl x, .inl y, .inl z] G M Q := by
  obtain ⟨hm, h8, hrd, -, -⟩ := hr
  have nr : m ≠ rd := hn_ne hm hrd (by decide)
  refine ⟨Nat.le_of_ble_eq_true rfl, mj_W.run (mj_R_mo _ _) 40 ?_⟩
  have any : ∀ k (v : Int), mj_in v → (ab_rg (G rd).1 k).1 ≤ v ∧ v ≤ (ab_rg (G rd).1 k).2 := fun k v hv => by
    rw [hrd]
    exact ⟨hv.1, by have := hv.2; show v ≤ 2147483647; omega⟩
  have cv : ∀ k, k ≤ 134 → ab_cov hn_W (G rd).1 k := fun k hk => ⟨(53100, 0, 134), by decide, by rw [hrd], Nat.zero_le _, hk⟩
  have e1 : ∀ j1, (mj_p0 M rd j1 x).1 m 53 = (c : Int) := fun _ => (hn_n (Or.inl nr)).trans hc
  have e2 : ∀ j1 j2, (mj_p0 (mj_p0 M rd j1 x) rd j2 y).1 m 53 = (c : Int) := fun _ _ => (hn_n (Or.inl nr)).trans (e1 _)
  have e3 : ∀ j1 j2 j3, (mj_p0 (mj_p0 (mj_p0 M rd j1 x) rd j2 y) rd j3 z).1 m 53 = (c : Int) := fun _ _ _ => (hn_n (Or.inl nr)).trans (e2 _ _)
  have fin : ∀ (j1 j2 j3 : Nat) (v : Int), j1 = 3 * c → j2 = 3 * c + 1 → j3 = 3 * c + 2 → v = ((c + 1 : Nat) : Int) → Q none G (mj_p0 (mj_p0 (mj_p0 (mj_p0 M rd j1 x) rd j2 y) rd j3 z) m 53 v) := by
    intro j1 j2 j3 v g1 g2 g3 g4
    subst g1 g2 g3 g4
    refine hQ _ ((((hI.p0 (any _ _ hx)).p0 (any _ _ hy)).p0 (any _ _ hz)).p0 ?_) (hn_f0 (hn_f0 (hn_f0 (hn_f0 ab_frm.rf (cv _ (by omega))) (cv _ (by omega))) (cv _ (by omega))) ⟨(1012, 53, 53), by decide, by rw [hm], by decide, by decide⟩) hn_s ?_ ?_ ?_ (fun j hj => ?_)
    · rw [hm]
      exact ⟨by show (-2147483648 : Int) ≤ _; omega, by show _ ≤ (2147483647 : Int); omega⟩
    · exact (hn_n (Or.inr (by decide))).trans ((hn_n (Or.inl nr)).trans ((hn_n (Or.inl nr)).trans (hn_n (Or.inl nr))))
    · exact (hn_n (Or.inr (by decide))).trans ((hn_n (Or.inl nr)).trans ((hn_n (Or.inl nr)).trans (hn_n (Or.inl nr))))
    · exact (hn_n (Or.inl nr.symm)).trans ((hn_n (Or.inr (by omega))).trans ((hn_n (Or.inr (by omega))).trans hn_s))
    · exact (hn_n (Or.inl nr.symm)).trans ((hn_n (Or.inr (by omega))).trans ((hn_n (Or.inr (by omega))).trans (hn_n (Or.inr (by omega)))))
  refine hn_gr (fk := 8) (List.cons_ne_nil _ _) rfl rfl rfl hm h8 ?_
  refine hn_gi (fk := 53) (v := (c : Int)) (List.cons_ne_nil _ _) rfl rfl rfl hm hc ?_
  refine Or.inl ⟨⟨by show (-2147483648 : Int) ≤ (3 : Int) * (c : Int); omega, by show (3 : Int) * (c : Int) < (2147483648 : Int); omega⟩, ?_⟩
  refine ⟨53100, 135, hrd, rfl, by decide, by show (0 : Int) ≤ (3 : Int) * (c : Int); omega, by show (3 : Int) * (c : Int) < ((135 : Nat) : Int); omega, ?_⟩
  refine hn_gr (fk := 8) (List.cons_ne_nil _ _) rfl rfl rfl hm h8 ?_
  refine hn_gi (fk := 53) (v := (c : Int)) (List.cons_ne_nil _ _) rfl rfl rfl hm (e1 _) ?_
  refine Or.inl ⟨⟨by show (-2147483648 : Int) ≤ (3 : Int) * (c : Int); omega, by show (3 : Int) * (c : Int) < (2147483648 : Int); omega⟩, ?_⟩
  refine Or.inl ⟨⟨by show (-2147483648 : Int) ≤ (3 : Int) * (c : Int) + 1; omega, by show (3 : Int) * (c : Int) + 1 < (2147483648 : Int); omega⟩, ?_⟩
  refine ⟨53100, 135, hrd, rfl, by decide, by show (0 : Int) ≤ (3 : Int) * (c : Int) + 1; omega, by show (3 : Int) * (c : Int) + 1 < ((135 : Nat) : Int); omega, ?_⟩
  refine hn_gr (fk := 8) (List.cons_ne_nil _ _) rfl rfl rfl hm h8 ?_
  refine hn_gi (fk := 53) (v := (c : Int)) (List.cons_ne_nil _ _) rfl rfl rfl hm (e2 _ _) ?_
  refine Or.inl ⟨⟨by show (-2147483648 : Int) ≤ (3 : Int) * (c : Int); omega, by show (3 : Int) * (c : Int) < (2147483648 : Int); omega⟩, ?_⟩
  refine Or.inl ⟨⟨by show (-2147483648 : Int) ≤ (3 : Int) * (c : Int) + 2; omega, by show (3 : Int) * (c : Int) + 2 < (2147483648 : Int); omega⟩, ?_⟩
  refine ⟨53100, 135, hrd, rfl, by decide, by show (0 : Int) ≤ (3 : Int) * (c : Int) + 2; omega, by show (3 : Int) * (c : Int) + 2 < ((135 : Nat) : Int); omega, ?_⟩
  refine hn_gi (fk := 53) (v := (c : Int)) (List.cons_ne_nil _ _) rfl rfl rfl hm (e3 _ _ _) ?_
  refine Or.inl ⟨⟨by show (-2147483648 : Int) ≤ (c : Int) + 1; omega, by show (c : Int) + 1 < (2147483648 : Int); omega⟩, ?_⟩
  refine hn_pi (fk := 53) (List.cons_ne_nil _ _) rfl rfl rfl hm (fun q => by cases q) ?_
  exact And.intro rfl (fin _ _ _ _ (by show ((3 : Int) * (c : Int)).toNat = _; omega) (by show ((3 : Int) * (c : Int) + 1).toNat = _; omega) (by show ((3 : Int) * (c : Int) + 2).toNat = _; omega) (by show (c : Int) + 1 = _; omega))
def hn_J (G : mj_G) (M : mj_M) (m rd sk t c h : Nat) : Prop := hn_R G M m rd sk ∧ ab_Inv G M ∧ M.1 m 55 = (t : Int) ∧ M.1 m 53 = (c : Int) ∧ hn_k (fun i => M.1 rd (3 * i)) c h
theorem hn_ci {v : Int} (h1 : -2147483648 ≤ v) (h2 : v < 2147483648) {k : Nat} (h : 53 ≤ k ∧ k ≤ 56) : (ab_rg 1012 k).1 ≤ v ∧ v ≤ (ab_rg 1012 k).2 := by
  have : k = 53 ∨ k = 54 ∨ k = 55 ∨ k = 56 := by omega
  rcases this with rfl | rfl | rfl | rfl <;> exact ⟨h1, by show v ≤ 2147483647; omega⟩
set_option maxRecDepth 100000 in
theorem r_nots_w {d m rd sk h : Nat} {G : mj_G} {Q : mj_P} (h1 : 1 ≤ h) : ∀ (t : Nat) (M : mj_M) (c cb sb : Nat), hn_J G M m rd sk t c h → c + t ≤ 45 →
    (∀ M' t' c', hn_J G M' m rd sk t' c' h → t' ≤ t → c' + t' = c + t → ab_frm hn_W G M M' → hn_b (fun i => M.1 sk i) t' = hn_b (fun i => M.1 sk i) t → Q none G M') →
    mj_W sx_ms (mj_R mj_tab (d + 1)) mt_X12_nots.2.2.2.2.1 Q mt_X12_nots.2.2.2.2.1 [some (.inr (.inr (some m)))] [] G M cb sb := by
  intro t
  induction t with
  | zero =>
    intro M c cb sb hJ hb hQ
    have hJ0 := hJ
    obtain ⟨⟨hm, h8, hrd, h52, hsk⟩, hI, h55, h53, hk⟩ := hJ
    refine mj_W.run (mj_R_mo _ _) 30 ?_
    refine hn_gi (fk := 55) (v := ((0 : Nat) : Int)) (List.cons_ne_nil _ _) rfl rfl rfl hm h55 ?_
    refine ⟨fun c1 => And.intro rfl (hQ M 0 c hJ0 (Nat.le_refl 0) rfl ab_frm.rf rfl), fun c1 => absurd (show ((0 : Nat) : Int) ≤ 0 from Int.le_refl 0) c1⟩
  | succ t ih =>
    intro M c cb sb hJ hb hQ
    have hJ0 := hJ
    obtain ⟨⟨hm, h8, hrd, h52, hsk⟩, hI, h55, h53, hk⟩ := hJ
    have nr : m ≠ rd := hn_ne hm hrd (by decide)
    have nk : sk ≠ m := hn_ne hsk hm (by decide)
    have nkr : sk ≠ rd := hn_ne hsk hrd (by decide)
    refine mj_W.run (mj_R_mo _ _) 30 ?_
    refine hn_gi (fk := 55) (v := ((t + 1 : Nat) : Int)) (List.cons_ne_nil _ _) rfl rfl rfl hm h55 ?_
    refine ⟨fun c1 => absurd (show ((t + 1 : Nat) : Int) ≤ 0 from c1) (by omega), fun _ => ?_⟩
    refine hn_gr (fk := 52) (List.cons_ne_nil _ _) rfl rfl rfl hm h52 ?_
    refine hn_gi (fk := 55) (v := ((t + 1 : Nat) : Int)) (List.cons_ne_nil _ _) rfl rfl rfl hm h55 ?_
    refine Or.inl ⟨⟨by show (-2147483648 : Int) ≤ ((t + 1 : Nat) : Int) - 1; omega, by show ((t + 1 : Nat) : Int) - 1 < (2147483648 : Int); omega⟩, ?_⟩
    refine ⟨68100, 45, hsk, rfl, by show (0 : Int) ≤ ((t + 1 : Nat) : Int) - 1; omega, by show ((t + 1 : Nat) : Int) - 1 < ((45 : Nat) : Int); omega, ?_⟩
    have ti : (((t + 1 : Nat) : Int) - 1).toNat = t := by omega
    refine ⟨fun c1 => And.intro rfl (hQ M (t + 1) c hJ0 (Nat.le_refl _) rfl ab_frm.rf rfl), fun c1 => ?_⟩
    have c1 : M.1 sk t = 10 := by
      have c1 : ¬ M.1 sk (((t + 1 : Nat) : Int) - 1).toNat ≠ 10 := c1
      rw [ti] at c1
      omega
    refine hn_gi (fk := 55) (v := ((t + 1 : Nat) : Int)) (List.cons_ne_nil _ _) rfl rfl rfl hm h55 ?_
    refine Or.inl ⟨⟨by show (-2147483648 : Int) ≤ ((t + 1 : Nat) : Int) - 1; omega, by show ((t + 1 : Nat) : Int) - 1 < (2147483648 : Int); omega⟩, ?_⟩
    refine hn_pi (fk := 55) (List.cons_ne_nil _ _) rfl rfl rfl hm (fun q => by cases q) ?_
    refine hn_gi (fk := 56) (v := M.1 m 56) (List.cons_ne_nil _ _) rfl rfl rfl hm (hn_n (Or.inr (by decide))) ?_
    refine Or.inr (fun z hz _ => ?_)
    refine hn_pi (fk := 56) (List.cons_ne_nil _ _) rfl rfl rfl hm (fun q => by cases q) ?_
    have ii : ∀ v : Int, mj_in v → ∀ k, 53 ≤ k ∧ k ≤ 56 → (ab_rg (G m).1 k).1 ≤ v ∧ v ≤ (ab_rg (G m).1 k).2 := fun v hv k hk => by rw [hm]; exact hn_ci hv.1 hv.2 hk
    have cv : ∀ k, 55 ≤ k ∧ k ≤ 56 → ab_cov hn_W (G m).1 k := fun k hk => ⟨(1012, 55, 56), by decide, by rw [hm], hk.1, hk.2⟩
    have i2 : ab_Inv G (mj_p0 (mj_p0 M m 55 (((t + 1 : Nat) : Int) - 1)) m 56 z) := (hI.p0 (ii _ ⟨by omega, by omega⟩ _ (by decide))).p0 (ii _ hz _ (by decide))
    have f2 : ab_frm hn_W G M (mj_p0 (mj_p0 M m 55 (((t + 1 : Nat) : Int) - 1)) m 56 z) := hn_f0 (hn_f0 ab_frm.rf (cv _ (by decide))) (cv _ (by decide))
    refine ⟨List.cons_ne_nil _ _, 1012, 0, hm, rfl, by decide, Nat.zero_le _, Nat.zero_le _, ?_⟩
    refine r_code (rd := rd) (sk := sk) (c := c) ⟨hm, h8, hrd, h52, hsk⟩ i2 ((hn_n (Or.inr (by decide))).trans ((hn_n (Or.inr (by decide))).trans h53)) (by omega) ⟨by decide, by decide⟩ ⟨by decide, by decide⟩ ⟨by decide, by decide⟩ (fun M3 i3 f3 k53 k55 _ kx kb => ?_)
    have q55 : M3.1 m 55 = (t : Int) := k55.trans ((hn_n (Or.inr (by decide))).trans (hn_s.trans (by show ((t + 1 : Nat) : Int) - 1 = _; omega)))
    have qr : ∀ k, (mj_p0 (mj_p0 M m 55 (((t + 1 : Nat) : Int) - 1)) m 56 z).1 rd k = M.1 rd k := fun k => (hn_n (Or.inl nr.symm)).trans (hn_n (Or.inl nr.symm))
    have fk := f2.tr f3
    have qk : ∀ k, M3.1 sk k = M.1 sk k := fun k => (fk sk k (by rw [hsk]; exact hn_nt (by decide))).1
    have J3 : hn_J G M3 m rd sk t (c + 1) h := ⟨hn_R.fr hJ0.1 fk (hn_nc (by decide)) (hn_nc (by decide)), i3, q55, k53, h, hk.cg (fun j hj => by
      show M.1 rd (3 * j) = M3.1 rd (3 * j)
      rw [kb _ (by omega), qr]), Or.inl ⟨kx, h1, rfl⟩⟩
    refine (show mj_W sx_ms (mj_R mj_tab (d + 1)) mt_X12_nots.2.2.2.2.1 Q mt_X12_nots.2.2.2.2.1 [some (.inr (.inr (some m)))] [] G M3 _ _ from ih M3 (c + 1) _ _ J3 (by omega) (fun M' t' c' g1 g2 g3 g4 g5 => hQ M' t' c' g1 (by omega) (by omega) (fk.tr g4) ?_))
    have b1 : ∀ u, hn_b (fun i => M3.1 sk i) u = hn_b (fun i => M.1 sk i) u := fun u => hn_b.cg (fun j _ => qk j)
    rw [b1, b1] at g5
    rw [g5]
    show _ = hn_b (fun i => M.1 sk i) t + (if M.1 sk t = 11 ∨ M.1 sk t = 12 then 1 else 0)
    rw [c1]
    rfl
set_option maxRecDepth 100000 in
theorem r_nots {d m rd sk h t c : Nat} {G : mj_G} {M : mj_M} {Q : mj_P} (h1 : 1 ≤ h) (hJ : hn_J G M m rd sk t c h) (hb : c + t ≤ 45)
    (hQ : ∀ M' t' c', hn_J G M' m rd sk t' c' h → t' ≤ t → c' + t' = c + t → ab_frm hn_W G M M' → hn_b (fun i => M.1 sk i) t' = hn_b (fun i => M.1 sk i) t → Q none G M') : mj_R mj_tab (d + 2) 217 [.inr (.inr (some m))] G M Q :=
  ⟨Nat.le_of_ble_eq_true rfl, r_nots_w h1 t M c _ _ hJ hb hQ⟩
abbrev hn_f (M : mj_M) (a : Nat) : Nat → Int := fun i => M.1 a i
set_option maxRecDepth 100000 in
theorem r_joins_w {d m rd sk : Nat} {G : mj_G} {Q : mj_P} {till : Int} : ∀ (t : Nat) (M : mj_M) (c cb sb : Nat), hn_J G M m rd sk t c (hn_b (hn_f M sk) t + 1) → c + t ≤ 45 →
    (∀ M' t' c', hn_J G M' m rd sk t' c' (hn_b (hn_f M sk) t' + 1) → t' ≤ t → c' + t' = c + t → ab_frm hn_W G M M' → (till = 12 → ∀ u, t' = u + 1 → M.1 sk u ≠ 11 ∧ M.1 sk u ≠ 12) → Q none G M') →
    mj_W sx_ms (mj_R mj_tab (d + 1)) mt_X12_joins.2.2.2.2.1 Q mt_X12_joins.2.2.2.2.1 [some (.inr (.inr (some m))), some (.inl till)] [] G M cb sb := by
  intro t
  induction t with
  | zero =>
    intro M c cb sb hJ hb hQ
    have hJ0 := hJ
    obtain ⟨⟨hm, h8, hrd, h52, hsk⟩, hI, h55, h53, hk⟩ := hJ
    refine mj_W.run (mj_R_mo _ _) 30 ?_
    refine hn_gi (fk := 55) (v := ((0 : Nat) : Int)) (List.cons_ne_nil _ _) rfl rfl rfl hm h55 ?_
    refine ⟨fun c1 => And.intro rfl (hQ M 0 c hJ0 (Nat.le_refl 0) rfl ab_frm.rf (fun _ u hu => by omega)), fun c1 => absurd (show ((0 : Nat) : Int) ≤ 0 from Int.le_refl 0) c1⟩
  | succ t ih =>
    intro M c cb sb hJ hb hQ
    have hJ0 := hJ
    obtain ⟨⟨hm, h8, hrd, h52, hsk⟩, hI, h55, h53, hk⟩ := hJ
    have nr : m ≠ rd := hn_ne hm hrd (by decide)
    have nk : sk ≠ m := hn_ne hsk hm (by decide)
    have ti : (((t + 1 : Nat) : Int) - 1).toNat = t := by omega
    have pop : (M.1 sk t = 11 ∨ M.1 sk t = 12) → mj_W sx_ms (mj_R mj_tab (d + 1)) mt_X12_joins.2.2.2.2.1 Q (mt_X12_joins.2.2.2.2.1.drop 24) [some (.inr (.inr (some m))), some (.inl till)] [] G M cb sb := by
      intro hv
      refine mj_W.run (mj_R_mo _ _) 16 ?_
      refine hn_gi (fk := 55) (v := ((t + 1 : Nat) : Int)) (List.cons_ne_nil _ _) rfl rfl rfl hm h55 ?_
      refine Or.inl ⟨⟨by show (-2147483648 : Int) ≤ ((t + 1 : Nat) : Int) - 1; omega, by show ((t + 1 : Nat) : Int) - 1 < (2147483648 : Int); omega⟩, ?_⟩
      refine hn_pi (fk := 55) (List.cons_ne_nil _ _) rfl rfl rfl hm (fun q => by cases q) ?_
      refine hn_gr (fk := 52) (List.cons_ne_nil _ _) rfl rfl rfl hm h52 ?_
      refine hn_gi (fk := 55) (v := ((t + 1 : Nat) : Int) - 1) (List.cons_ne_nil _ _) rfl rfl rfl hm hn_s ?_
      refine ⟨68100, 45, hsk, rfl, by show (0 : Int) ≤ ((t + 1 : Nat) : Int) - 1; omega, by show ((t + 1 : Nat) : Int) - 1 < ((45 : Nat) : Int); omega, ?_⟩
      have i2 : ab_Inv G (mj_p0 M m 55 (((t + 1 : Nat) : Int) - 1)) := hI.p0 (by rw [hm]; exact hn_ci (by omega) (by omega) (by decide))
      have f2 : ab_frm hn_W G M (mj_p0 M m 55 (((t + 1 : Nat) : Int) - 1)) := hn_f0 ab_frm.rf ⟨(1012, 55, 56), by decide, by rw [hm], by decide, by decide⟩
      refine ⟨List.cons_ne_nil _ _, 1012, 0, hm, rfl, by decide, Nat.zero_le _, Nat.zero_le _, ?_⟩
      refine r_code (rd := rd) (sk := sk) (c := c) ⟨hm, h8, hrd, h52, hsk⟩ i2 ((hn_n (Or.inr (by decide))).trans h53) (by omega) (i2.mj _ _) ⟨by decide, by decide⟩ ⟨by decide, by decide⟩ (fun M3 i3 f3 k53 k55 _ kx kb => ?_)
      have q55 : M3.1 m 55 = (t : Int) := k55.trans (hn_s.trans (by show ((t + 1 : Nat) : Int) - 1 = _; omega))
      have kx : M3.1 rd (3 * c) = M.1 sk t := kx.trans ((hn_n (Or.inl nk)).trans (by show M.1 sk (((t + 1 : Nat) : Int) - 1).toNat = _; rw [ti]))
      have fk := f2.tr f3
      have qk : ∀ k, M3.1 sk k = M.1 sk k := fun k => (fk sk k (by rw [hsk]; exact hn_nt (by decide))).1
      have bt : hn_b (hn_f M sk) (t + 1) = hn_b (hn_f M sk) t + 1 := by
        show hn_b (hn_f M sk) t + (if M.1 sk t = 11 ∨ M.1 sk t = 12 then 1 else 0) = _
        rw [if_pos hv]
      have b1 : ∀ u, hn_b (hn_f M3 sk) u = hn_b (hn_f M sk) u := fun u => hn_b.cg (fun j _ => qk j)
      have J3 : hn_J G M3 m rd sk t (c + 1) (hn_b (hn_f M3 sk) t + 1) := ⟨hn_R.fr hJ0.1 fk (hn_nc (by decide)) (hn_nc (by decide)), i3, q55, k53, hn_b (hn_f M sk) (t + 1) + 1, hk.cg (fun j hj => by
        show M.1 rd (3 * j) = M3.1 rd (3 * j)
        rw [kb _ (by omega)]
        exact (hn_n (Or.inl nr.symm)).symm), Or.inr (Or.inl ⟨by show M3.1 rd (3 * c) = 11 ∨ M3.1 rd (3 * c) = 12; rw [kx]; exact hv, by omega, by rw [b1, bt]⟩)⟩
      refine (show mj_W sx_ms (mj_R mj_tab (d + 1)) mt_X12_joins.2.2.2.2.1 Q mt_X12_joins.2.2.2.2.1 [some (.inr (.inr (some m))), some (.inl till)] [] G M3 _ _ from ih M3 (c + 1) _ _ J3 (by omega) (fun M' t' c' g1 g2 g3 g4 g5 => hQ M' t' c' (by rw [b1] at g1; exact g1) (by omega) (by omega) (fk.tr g4) (fun e u hu => ?_)))
      rw [← qk u]
      exact g5 e u hu
    refine mj_W.run (mj_R_mo _ _) 30 ?_
    refine hn_gi (fk := 55) (v := ((t + 1 : Nat) : Int)) (List.cons_ne_nil _ _) rfl rfl rfl hm h55 ?_
    refine ⟨fun c1 => absurd (show ((t + 1 : Nat) : Int) ≤ 0 from c1) (by omega), fun _ => ?_⟩
    refine hn_gr (fk := 52) (List.cons_ne_nil _ _) rfl rfl rfl hm h52 ?_
    refine hn_gi (fk := 55) (v := ((t + 1 : Nat) : Int)) (List.cons_ne_nil _ _) rfl rfl rfl hm h55 ?_
    refine Or.inl ⟨⟨by show (-2147483648 : Int) ≤ ((t + 1 : Nat) : Int) - 1; omega, by show ((t + 1 : Nat) : Int) - 1 < (2147483648 : Int); omega⟩, ?_⟩
    refine ⟨68100, 45, hsk, rfl, by show (0 : Int) ≤ ((t + 1 : Nat) : Int) - 1; omega, by show ((t + 1 : Nat) : Int) - 1 < ((45 : Nat) : Int); omega, ?_⟩
    refine ⟨fun c1 => mj_W.stay (mj_R_mo _ _) _ (pop (Or.inl (by
      have c1 : M.1 sk (((t + 1 : Nat) : Int) - 1).toNat = 11 := c1
      rw [ti] at c1
      exact c1))), fun c1 => ?_⟩
    have c1 : M.1 sk t ≠ 11 := by
      have c1 : ¬ M.1 sk (((t + 1 : Nat) : Int) - 1).toNat = 11 := c1
      rw [ti] at c1
      exact c1
    refine hn_gr (fk := 52) (List.cons_ne_nil _ _) rfl rfl rfl hm h52 ?_
    refine hn_gi (fk := 55) (v := ((t + 1 : Nat) : Int)) (List.cons_ne_nil _ _) rfl rfl rfl hm h55 ?_
    refine Or.inl ⟨⟨by show (-2147483648 : Int) ≤ ((t + 1 : Nat) : Int) - 1; omega, by show ((t + 1 : Nat) : Int) - 1 < (2147483648 : Int); omega⟩, ?_⟩
    refine ⟨68100, 45, hsk, rfl, by show (0 : Int) ≤ ((t + 1 : Nat) : Int) - 1; omega, by show ((t + 1 : Nat) : Int) - 1 < ((45 : Nat) : Int); omega, ?_⟩
    refine ⟨fun c2 => And.intro rfl (hQ M (t + 1) c hJ0 (Nat.le_refl _) rfl ab_frm.rf (fun _ u hu => ?_)), fun c2 => ?_⟩
    · have c2 : M.1 sk (((t + 1 : Nat) : Int) - 1).toNat ≠ 12 := c2
      rw [ti] at c2
      have : u = t := by omega
      subst this
      exact ⟨c1, c2⟩
    have c2 : M.1 sk t = 12 := by
      have c2 : ¬ M.1 sk (((t + 1 : Nat) : Int) - 1).toNat ≠ 12 := c2
      rw [ti] at c2
      omega
    refine ⟨fun c3 => And.intro rfl (hQ M (t + 1) c hJ0 (Nat.le_refl _) rfl ab_frm.rf (fun e => absurd e c3)), fun c3 => ?_⟩
    exact mj_W.stay (mj_R_mo _ _) _ (pop (Or.inr c2))
set_option maxRecDepth 100000 in
theorem r_joins {d m rd sk t c : Nat} {till : Int} {G : mj_G} {M : mj_M} {Q : mj_P} (hJ : hn_J G M m rd sk t c (hn_b (hn_f M sk) t + 1)) (hb : c + t ≤ 45)
    (hQ : ∀ M' t' c', hn_J G M' m rd sk t' c' (hn_b (hn_f M sk) t' + 1) → t' ≤ t → c' + t' = c + t → ab_frm hn_W G M M' → (till = 12 → ∀ u, t' = u + 1 → M.1 sk u ≠ 11 ∧ M.1 sk u ≠ 12) → Q none G M') : mj_R mj_tab (d + 2) 207 [.inr (.inr (some m)), .inl till] G M Q :=
  ⟨Nat.le_of_ble_eq_true rfl, r_joins_w t M c _ _ hJ hb hQ⟩
end
section
/-! ===== by hand: calls of the reference's small methods ===== -/
theorem hn_RR {G : mj_G} {m n : Nat} {f : Nat → Int} (hm : G m = (1012, 0)) : ab_RR (n, f, 1, fun _ => some m) G [(1012, 0)] := ⟨rfl, fun i q h => by
  cases i with
  | zero =>
    cases h
    exact Or.inr (Or.inr (Or.inr ⟨by decide, by decide, by decide, m, rfl, hm⟩))
  | succ i => cases h⟩
def hn_g (zs : List Int) (i : Nat) : Int := zs.getD i 0
theorem hn_Y {zs : List Int} {q : Nat × (Nat → Option Nat)} {Y : ab_Y} (h : Y.length = zs.length) (hy : ∀ i lo hi r, ab_ny Y i = some (lo, hi, r) → r = [] ∧ lo ≤ hn_g zs i ∧ hn_g zs i ≤ hi) : ab_RY (zs.length, hn_g zs, q) Y := ⟨h.symm, fun i (lo, hi, r) e => by
  obtain ⟨rfl, h1, h2⟩ := hy i lo hi r e
  exact ⟨h1, h2, fun r hr => by cases hr⟩⟩
theorem hn_Y0 {q : Nat × (Nat → Option Nat)} : ab_RY (0, hn_g [], q) [] := hn_Y (zs := []) rfl (fun i lo hi r e => by cases e)
theorem hn_Y1 {z lo hi : Int} {q : Nat × (Nat → Option Nat)} (h : lo ≤ z ∧ z ≤ hi) : ab_RY (1, hn_g [z], q) [(lo, hi, [])] := hn_Y (zs := [z]) rfl (fun i lo hi r e => by
  cases i with
  | zero => cases e; exact ⟨rfl, h⟩
  | succ i => cases e)
theorem hn_Y2 {z lo hi z2 lo2 hi2 : Int} {q : Nat × (Nat → Option Nat)} (h : lo ≤ z ∧ z ≤ hi) (h2 : lo2 ≤ z2 ∧ z2 ≤ hi2) : ab_RY (2, hn_g [z, z2], q) [(lo, hi, []), (lo2, hi2, [])] := hn_Y (zs := [z, z2]) rfl (fun i lo hi r e => by
  cases i with
  | zero => cases e; exact ⟨rfl, h⟩
  | succ i => cases i with
    | zero => cases e; exact ⟨rfl, h2⟩
    | succ i => cases e)
theorem hn_Y4 {z lo hi z2 lo2 hi2 z3 lo3 hi3 z4 lo4 hi4 : Int} {q : Nat × (Nat → Option Nat)} (h : lo ≤ z ∧ z ≤ hi) (h2 : lo2 ≤ z2 ∧ z2 ≤ hi2) (h3 : lo3 ≤ z3 ∧ z3 ≤ hi3) (h4 : lo4 ≤ z4 ∧ z4 ≤ hi4) : ab_RY (4, hn_g [z, z2, z3, z4], q) [(lo, hi, []), (lo2, hi2, []), (lo3, hi3, []), (lo4, hi4, [])] := hn_Y (zs := [z, z2, z3, z4]) rfl (fun i lo hi r e => by
  cases i with
  | zero => cases e; exact ⟨rfl, h⟩
  | succ i => cases i with
    | zero => cases e; exact ⟨rfl, h2⟩
    | succ i => cases i with
      | zero => cases e; exact ⟨rfl, h3⟩
      | succ i => cases i with
        | zero => cases e; exact ⟨rfl, h4⟩
        | succ i => cases e)
theorem hn_ii {z : Int} (h : mj_in z) : (Int.negSucc 2147483647 : Int) ≤ z ∧ z ≤ .ofNat 2147483647 := ⟨h.1, by have := h.2; show z ≤ 2147483647; omega⟩
theorem hn_I {w : ab_wd} {i : Nat} {z : Int} (h : i < w.1) (e : w.2.1 i = z) : ab_RI w (.inr (i, 1, .ofNat 0)) z := ⟨h, by
  have h4 : Int.ofNat 1 * w.2.1 i = w.2.1 i := Int.one_mul _
  show Int.ofNat 1 * w.2.1 i + 0 = z
  omega⟩
theorem r_isWord {d m : Nat} {v : Int64} {G : mj_G} {M : mj_M} {Q : mj_P} (hm : G m = (1012, 0)) (hI : ab_Inv G M) (hQ : ∀ M' z, ab_Inv G M' → ab_frm [] G M M' → (z = 0 ∨ z = 1) → Q (some (.inl z)) G M') : mj_R mj_tab (d + 1) 206 [.inr (.inr (some m)), .inr (.inl v)] G M Q := by
  refine xo_X12_isWord (d) (Nat.zero_le _) G M (0, hn_g [], 1, fun _ => some m) _ Q hn_Y0 (hn_RR hm) (fun e he => by cases he) ⟨_, _, rfl, ⟨Nat.zero_lt_one, rfl⟩, _, _, rfl, ⟨_, rfl⟩, rfl⟩ hI (fun r M' i f ⟨po, hp, h1⟩ => ?_)
  cases hp with
  | head => obtain ⟨⟨z, rfl, hz⟩, -⟩ := h1; exact hQ M' z i f (Or.inl hz)
  | tail _ hp => cases hp with
    | head => obtain ⟨⟨z, rfl, hz⟩, -⟩ := h1; exact hQ M' z i f (Or.inr hz)
    | tail _ hp => cases hp
theorem r_isSign {d m : Nat} {v : Int} {G : mj_G} {M : mj_M} {Q : mj_P} (hm : G m = (1012, 0)) (hI : ab_Inv G M) (hv : mj_in v) (hQ : ∀ M' z, ab_Inv G M' → ab_frm [] G M M' → (z = 0 ∨ z = 1) → Q (some (.inl z)) G M') : mj_R mj_tab (d + 1) 203 [.inr (.inr (some m)), .inl v] G M Q := by
  refine xo_X12_isSign (d) (Nat.zero_le _) G M (1, hn_g [v], 1, fun _ => some m) _ Q (hn_Y1 (hn_ii hv)) (hn_RR hm) (fun e he => by cases he) ⟨_, _, rfl, ⟨Nat.zero_lt_one, rfl⟩, _, _, rfl, ⟨_, rfl, hn_I (Nat.le_of_ble_eq_true rfl) rfl⟩, rfl⟩ hI (fun r M' i f ⟨po, hp, h1⟩ => ?_)
  cases hp with
  | head => obtain ⟨⟨z, rfl, hz⟩, -⟩ := h1; exact hQ M' z i f (Or.inl hz)
  | tail _ hp => cases hp with
    | head => obtain ⟨⟨z, rfl, hz⟩, -⟩ := h1; exact hQ M' z i f (Or.inr hz)
    | tail _ hp => cases hp
theorem r_leafOf {d m : Nat} {G : mj_G} {M : mj_M} {Q : mj_P} (hm : G m = (1012, 0)) (hI : ab_Inv G M) (hQ : ∀ M' z, ab_Inv G M' → ab_frm [] G M M' → (-1 ≤ z ∧ z ≤ 8) → Q (some (.inl z)) G M') : mj_R mj_tab (d + 2) 208 [.inr (.inr (some m))] G M Q := by
  refine xo_X12_leafOf (d + 1) (Nat.le_add_left _ _) G M (0, hn_g [], 1, fun _ => some m) _ Q hn_Y0 (hn_RR hm) (fun e he => by cases he) ⟨_, _, rfl, ⟨Nat.zero_lt_one, rfl⟩, rfl⟩ hI (fun r M' i f ⟨po, hp, h1⟩ => ?_)
  cases hp with
  | head => obtain ⟨⟨z, rfl, hz⟩, -⟩ := h1; exact hQ M' z i f ⟨hz.1, hz.2.1⟩
  | tail _ hp => cases hp
theorem r_bad {d m : Nat} {v : Int} {G : mj_G} {M : mj_M} {Q : mj_P} (hm : G m = (1012, 0)) (hI : ab_Inv G M) (hv : mj_in v) (hQ : ∀ M', ab_Inv G M' → ab_frm [(1012, 15, 16)] G M M' → Q (some (.inl 0)) G M') : mj_R mj_tab (d + 1) 161 [.inr (.inr (some m)), .inl v] G M Q := by
  refine xo_X12_bad (d) (Nat.zero_le _) G M (1, hn_g [v], 1, fun _ => some m) _ Q (hn_Y1 (hn_ii hv)) (hn_RR hm) (fun e he => by cases he) ⟨_, _, rfl, ⟨Nat.zero_lt_one, rfl⟩, _, _, rfl, ⟨_, rfl, hn_I (Nat.le_of_ble_eq_true rfl) rfl⟩, rfl⟩ hI (fun r M' i f ⟨po, hp, h1⟩ => ?_)
  cases hp with
  | head =>
    obtain ⟨⟨z, rfl, hz⟩, -⟩ := h1
    have hz : z = 0 := hz
    subst hz
    exact hQ M' i f
  | tail _ hp => cases hp
theorem r_taken {d m : Nat} {v : Int} {G : mj_G} {M : mj_M} {Q : mj_P} (hm : G m = (1012, 0)) (hI : ab_Inv G M) (hv : mj_in v) (hQ : ∀ M', ab_Inv G M' → ab_frm [(1012, 2, 5)] G M M' → M'.1 m 2 = 0 → Q none G M') : mj_R mj_tab (d + 1) 245 [.inr (.inr (some m)), .inl v] G M Q := by
  refine xo_X12_taken (d) (Nat.zero_le _) G M (1, hn_g [v], 1, fun _ => some m) _ Q (hn_Y1 (hn_ii hv)) (hn_RR hm) (fun e he => by cases he) ⟨_, _, rfl, ⟨Nat.zero_lt_one, rfl⟩, _, _, rfl, ⟨_, rfl, hn_I (Nat.le_of_ble_eq_true rfl) rfl⟩, rfl⟩ hI (fun r M' i f ⟨po, hp, h1⟩ => ?_)
  cases hp with
  | head =>
    obtain ⟨rfl, h2⟩ := h1
    obtain ⟨a, ha, hx⟩ := h2 _ (List.Mem.head _)
    cases ha
    exact hQ M' i f hx
  | tail _ hp => cases hp
theorem r_next {d m : Nat} {G : mj_G} {M : mj_M} {Q : mj_P} (hm : G m = (1012, 0)) (hI : ab_Inv G M) (hQ : ∀ M', ab_Inv G M' → ab_frm [(1012, 4, 4), (1012, 11, 14), (1012, 17, 17)] G M M' → Q none G M') : mj_R mj_tab (d + 2) 216 [.inr (.inr (some m))] G M Q := by
  refine xo_X12_next (d + 1) (Nat.le_add_left _ _) G M (2, hn_g [M.1 m 4, M.1 m 13], 1, fun _ => some m) _ Q (hn_Y2 (by have := hI.1 m 4; rw [hm] at this; exact this) (hn_ii (hI.mj m 13))) (hn_RR hm) (fun e he => by
    cases he with
    | head => exact ⟨Nat.zero_lt_one, m, 4, rfl, rfl, by decide, hn_I (Nat.le_of_ble_eq_true rfl) rfl⟩
    | tail _ he => cases he with
      | head => exact ⟨Nat.zero_lt_one, m, 13, rfl, rfl, by decide, hn_I (Nat.le_of_ble_eq_true rfl) rfl⟩
      | tail _ he => cases he) ⟨_, _, rfl, ⟨Nat.zero_lt_one, rfl⟩, rfl⟩ hI (fun r M' i f ⟨po, hp, h1⟩ => ?_)
  have fin : r = none → Q r G M' := fun e => by subst e; exact hQ M' i f
  apply fin
  cases hp with
  | head => exact h1.1
  | tail _ hp => cases hp with
    | head => exact h1.1
    | tail _ hp => cases hp with
      | head => exact h1.1
      | tail _ hp => cases hp with
        | head => exact h1.1
        | tail _ hp => cases hp with
          | head => exact h1.1
          | tail _ hp => cases hp
theorem r_isLeaf {d m : Nat} {v v2 v3 v4 : Int} {G : mj_G} {M : mj_M} {Q : mj_P} (hm : G m = (1012, 0)) (hI : ab_Inv G M) (hv : 0 ≤ v ∧ v ≤ 7) (hv2 : mj_in v2) (hv3 : mj_in v3) (hv4 : mj_in v4) (hQ : ∀ M' z, ab_Inv G M' → ab_frm [] G M M' → (z = 0 ∨ z = 1) → Q (some (.inl z)) G M') : mj_R mj_tab (d + 2) 199 [.inr (.inr (some m)), .inl v, .inl v2, .inl v3, .inl v4] G M Q := by
  refine xo_X12_isLeaf (d + 1) (Nat.le_add_left _ _) G M (4, hn_g [v, v2, v3, v4], 1, fun _ => some m) _ Q (hn_Y4 hv (hn_ii hv2) (hn_ii hv3) (hn_ii hv4)) (hn_RR hm) (fun e he => by cases he) ⟨_, _, rfl, ⟨Nat.zero_lt_one, rfl⟩, _, _, rfl, ⟨_, rfl, hn_I (Nat.le_of_ble_eq_true rfl) rfl⟩, _, _, rfl, ⟨_, rfl, hn_I (Nat.le_of_ble_eq_true rfl) rfl⟩, _, _, rfl, ⟨_, rfl, hn_I (Nat.le_of_ble_eq_true rfl) rfl⟩, _, _, rfl, ⟨_, rfl, hn_I (Nat.le_of_ble_eq_true rfl) rfl⟩, rfl⟩ hI (fun r M' i f ⟨po, hp, h1⟩ => ?_)
  cases hp with
  | head => obtain ⟨⟨z, rfl, hz⟩, -⟩ := h1; exact hQ M' z i f (Or.inl hz)
  | tail _ hp => cases hp with
    | head => obtain ⟨⟨z, rfl, hz⟩, -⟩ := h1; exact hQ M' z i f (Or.inr hz)
    | tail _ hp => cases hp
end
section
/-! ===== by hand: operand of the reference ===== -/
/-- sentence's state: the stack's top, codes, the height, ones, isWhole, binary words on the stack -/
def hn_Q (G : mj_G) (M : mj_M) (m rd sk t c h o b B : Nat) : Prop := hn_J G M m rd sk t c h ∧ M.1 m 54 = (o : Int) ∧ M.1 m 57 = (b : Int) ∧ hn_b (hn_f M sk) t = B
abbrev hn_WS : List (Nat × Nat × Nat) := [(1012, 4, 4), (1012, 11, 17), (1012, 53, 57), (53100, 0, 134), (68100, 0, 44)]
theorem hn_Q.fr {W : List (Nat × Nat × Nat)} {G : mj_G} {M M' : mj_M} {m rd sk t c h o b B : Nat} (hq : hn_Q G M m rd sk t c h o b B) (hf : ab_frm W G M M') (hI : ab_Inv G M') (hw : W.all (fun q => !(Nat.beq q.1 53100) && (!(Nat.beq q.1 68100) && (!(Nat.beq q.1 1012) || (Nat.blt q.2.2 8 || (Nat.blt 8 q.2.1 && (Nat.blt q.2.2 52 || Nat.blt 57 q.2.1)))))) = true) : hn_Q G M' m rd sk t c h o b B := by
  have n1 : ∀ k, k = 8 ∨ (52 ≤ k ∧ k ≤ 57) → ¬ ab_cov W 1012 k := by
    rintro k hk ⟨q, hq, q1, q2, q3⟩
    have h1 := List.all_eq_true.mp hw q hq
    rw [q1] at h1
    obtain ⟨-, h1⟩ := sx_nd h1
    obtain ⟨-, h1⟩ := sx_nd h1
    have h1 : (Nat.blt q.2.2 8 || (Nat.blt 8 q.2.1 && (Nat.blt q.2.2 52 || Nat.blt 57 q.2.1))) = true := h1
    rcases Bool.or_eq_true_iff.mp h1 with h1 | h1
    · have := sx_blt h1; omega
    · obtain ⟨h2, h1⟩ := sx_nd h1
      have := sx_blt h2
      rcases Bool.or_eq_true_iff.mp h1 with h1 | h1
      · have := sx_blt h1; omega
      · have := sx_blt h1; omega
  have n2 : ∀ k, ¬ ab_cov W 53100 k := by
    rintro k ⟨q, hq, q1, -, -⟩
    have h1 := List.all_eq_true.mp hw q hq
    rw [q1] at h1
    cases h1
  have n3 : ∀ k, ¬ ab_cov W 68100 k := by
    rintro k ⟨q, hq, q1, -, -⟩
    have h1 := List.all_eq_true.mp hw q hq
    rw [q1] at h1
    cases h1
  obtain ⟨⟨hR, -, h55, h53, hk⟩, h54, h57, hb⟩ := hq
  have hm := hR.1
  have g : ∀ k, k = 8 ∨ (52 ≤ k ∧ k ≤ 57) → M'.1 m k = M.1 m k := fun k h => (hf m k (by rw [hm]; exact n1 k h)).1
  have gr : ∀ k, M'.1 rd k = M.1 rd k := fun k => (hf rd k (by rw [hR.2.2.1]; exact n2 k)).1
  have gk : ∀ k, M'.1 sk k = M.1 sk k := fun k => (hf sk k (by rw [hR.2.2.2.2]; exact n3 k)).1
  exact ⟨⟨hR.fr hf (n1 8 (Or.inl rfl)) (n1 52 (Or.inr (by decide))), hI, (g 55 (Or.inr (by decide))).trans h55, (g 53 (Or.inr (by decide))).trans h53, hk.cg (fun j _ => (gr _).symm)⟩, (g 54 (Or.inr (by decide))).trans h54, (g 57 (Or.inr (by decide))).trans h57, (hn_b.cg (fun j _ => gk j)).trans hb⟩
/-- an int of the reference itself is written -/
theorem hn_Q.mi {G : mj_G} {M : mj_M} {m rd sk : Nat} (hm : G m = (1012, 0)) (hI : ab_Inv G M) {k : Nat} {v : Int} (hv : mj_in v) (hk : 53 ≤ k ∧ k ≤ 56) : ab_Inv G (mj_p0 M m k v) := hI.p0 (by rw [hm]; exact hn_ci hv.1 hv.2 hk)
theorem hn_fm {G : mj_G} {M0 M : mj_M} {m : Nat} (hm : G m = (1012, 0)) {k : Nat} {v : Int} (hf : ab_frm hn_WS G M0 M) (hk : 53 ≤ k ∧ k ≤ 57) : ab_frm hn_WS G M0 (mj_p0 M m k v) := hn_f0 hf ⟨(1012, 53, 57), by decide, by rw [hm], hk.1, hk.2⟩
set_option maxRecDepth 100000 in
theorem r_operand {d m rd sk t c o B : Nat} {G : mj_G} {M : mj_M} {Q : mj_P} (hS : hn_Q G M m rd sk t c B o 0 B) (ho : o ≤ 20) (hto : t ≤ o) (hct : c + t ≤ 2 * o)
    (hQ0 : ∀ M', ab_Inv G M' → ab_frm hn_WS G M M' → Q (some (.inl 0)) G M')
    (hQ1 : ∀ M' t' c' b', hn_Q G M' m rd sk t' c' (B + b') (o + 1) b' B → o ≤ 19 → ((t' = t + 1 ∧ b' = 0 ∧ c' = c) ∨ (t' = t ∧ b' = 1 ∧ c' = c + 1)) → ab_frm hn_WS G M M' → Q (some (.inl 1)) G M') : mj_R mj_tab (d + 3) 222 [.inr (.inr (some m))] G M Q := by
  have hm : G m = (1012, 0) := hS.1.1.1
  have hrd : G rd = (53100, 135) := hS.1.1.2.2.1
  have hsk : G sk = (68100, 45) := hS.1.1.2.2.2.2
  have nr : m ≠ rd := hn_ne hm hrd (by decide)
  have nk : m ≠ sk := hn_ne hm hsk (by decide)
  have nkr : rd ≠ sk := hn_ne hrd hsk (by decide)
  refine ⟨Nat.le_of_ble_eq_true rfl, mj_W.run (mj_R_mo _ _) 40 ?_⟩
  refine ⟨List.cons_ne_nil _ _, 1012, 0, hm, rfl, by decide, Nat.zero_le _, Nat.zero_le _, ?_⟩
  refine r_isWord hm hS.1.2.1 (fun M1 p i1 f1 hp => ?_)
  have S1 := hS.fr f1 i1 (by decide)
  have F1 : ab_frm hn_WS G M M1 := hn_up f1 (by decide)
  refine ⟨List.cons_ne_nil _ _, 1012, 0, hm, rfl, by decide, Nat.zero_le _, Nat.zero_le _, ?_⟩
  refine r_isSign hm i1 ⟨by decide, by decide⟩ (fun M2 u i2 f2 hu => ?_)
  have S2 := S1.fr f2 i2 (by decide)
  have F2 : ab_frm hn_WS G M M2 := F1.tr (hn_up f2 (by decide))
  refine ⟨List.cons_ne_nil _ _, 1012, 0, hm, rfl, by decide, Nat.zero_le _, Nat.zero_le _, ?_⟩
  refine r_leafOf hm i2 (fun M3 l i3 f3 hl => ?_)
  have S3 := S2.fr f3 i3 (by decide)
  have F3 : ab_frm hn_WS G M M3 := F2.tr (hn_up f3 (by decide))
  clear S1 S2 F1 F2 f1 f2 f3
  have P94 : ∀ (M5 : mj_M) (q : Option mj_V) cb sb, ab_Inv G M5 → ab_frm hn_WS G M M5 → mj_W sx_ms (mj_R mj_tab (d + 2)) mt_X12_operand.2.2.2.2.1 Q (mt_X12_operand.2.2.2.2.1.drop 94) [some (.inr (.inr (some m))), some (.inl p), some (.inl u), some (.inl l), q] [] G M5 cb sb := by
    intro M5 q cb sb I5 F5
    refine mj_W.run (mj_R_mo _ _) 10 ?_
    refine ⟨List.cons_ne_nil _ _, 1012, 0, hm, rfl, by decide, Nat.zero_le _, Nat.zero_le _, ?_⟩
    exact r_bad hm I5 ⟨by decide, by decide⟩ (fun Mb ib fb => ⟨rfl, fun _ => Or.inl rfl, hQ0 Mb ib ((F5).tr (hn_up fb (by decide)))⟩)
  have P98 : ∀ (M5 : mj_M) cb sb, hn_Q G M5 m rd sk t c B (o + 1) 1 B → o ≤ 19 → ab_frm hn_WS G M M5 → mj_W sx_ms (mj_R mj_tab (d + 2)) mt_X12_operand.2.2.2.2.1 Q (mt_X12_operand.2.2.2.2.1.drop 98) [some (.inr (.inr (some m))), some (.inl p), some (.inl u), some (.inl l), none] [] G M5 cb sb := by
    intro M5 cb sb S5 o19 F5
    refine mj_W.run (mj_R_mo _ _) 40 ?_
    refine hn_gi (fk := 14) (v := M5.1 m 14) (List.cons_ne_nil _ _) rfl rfl rfl hm rfl ?_
    refine ⟨List.cons_ne_nil _ _, 1012, 0, hm, rfl, by decide, Nat.zero_le _, Nat.zero_le _, ?_⟩
    refine r_next hm S5.1.2.1 (fun M6 i6 f6 => ?_)
    have S6 := S5.fr f6 i6 (by decide)
    have F6 : ab_frm hn_WS G M M6 := F5.tr (hn_up f6 (by decide))
    refine hn_gi (fk := 11) (v := M6.1 m 11) (List.cons_ne_nil _ _) rfl rfl rfl hm rfl ?_
    refine ⟨fun c1 => ?_, fun c1 => ?_⟩
    · refine hn_gi (fk := 14) (v := M6.1 m 14) (List.cons_ne_nil _ _) rfl rfl rfl hm rfl ?_
      refine ⟨List.cons_ne_nil _ _, 1012, 0, hm, rfl, by decide, Nat.zero_le _, Nat.zero_le _, ?_⟩
      refine r_code (rd := rd) (sk := sk) (c := c) S6.1.1 i6 S6.1.2.2.2.1 (by omega) ⟨by omega, by omega⟩ (S5.1.2.1.mj m 14) (i6.mj m 14) (fun M7 i7 f7 k53 k55 _ kx kb => ?_)
      have S7 : hn_Q G M7 m rd sk t (c + 1) (B + 1) (o + 1) 1 B := ⟨⟨S6.1.1.fr f7 (hn_nc (by decide)) (hn_nc (by decide)), i7, k55.trans S6.1.2.2.1, k53, B, S6.1.2.2.2.2.cg (fun j hj => (kb _ (by omega)).symm), Or.inr (Or.inr (by
        have kx : M7.1 rd (3 * c) = l := kx
        show M7.1 rd (3 * c) ≠ 10 ∧ M7.1 rd (3 * c) ≠ 11 ∧ M7.1 rd (3 * c) ≠ 12 ∧ B + 1 = B + 1
        rw [kx]
        exact ⟨by omega, by omega, by omega, rfl⟩))⟩, (f7 m 54 (by rw [hm]; exact hn_nc (by decide))).1.trans S6.2.1, (f7 m 57 (by rw [hm]; exact hn_nc (by decide))).1.trans S6.2.2.1, (hn_b.cg (fun j _ => (f7 sk j (by rw [hsk]; exact hn_nt (by decide))).1)).trans S6.2.2.2⟩
      have F7 : ab_frm hn_WS G M M7 := F6.tr (hn_up f7 (by decide))
      refine ⟨List.cons_ne_nil _ _, 1012, 0, hm, rfl, by decide, Nat.zero_le _, Nat.zero_le _, ?_⟩
      exact r_next hm i7 (fun M8 i8 f8 => ⟨rfl, fun _ => Or.inr rfl, hQ1 M8 t (c + 1) 1 (S7.fr f8 i8 (by decide)) o19 (Or.inr ⟨rfl, rfl, rfl⟩) (F7.tr (hn_up f8 (by decide)))⟩)
    · refine ⟨List.cons_ne_nil _ _, 1012, 0, hm, rfl, by decide, Nat.zero_le _, Nat.zero_le _, ?_⟩
      exact r_bad hm i6 ⟨by decide, by decide⟩ (fun Mb ib fb => ⟨rfl, fun _ => Or.inl rfl, hQ0 Mb ib (F6.tr (hn_up fb (by decide)))⟩)
  have P69 : ∀ (M4 : mj_M) cb sb, hn_Q G M4 m rd sk t c B (o + 1) 0 B → o ≤ 19 → ab_frm hn_WS G M M4 → mj_W sx_ms (mj_R mj_tab (d + 2)) mt_X12_operand.2.2.2.2.1 Q (mt_X12_operand.2.2.2.2.1.drop 69) [some (.inr (.inr (some m))), some (.inl p), some (.inl u), some (.inl l), none] [] G M4 cb sb := by
    intro M4 cb sb S4 o19 F4
    refine mj_W.run (mj_R_mo _ _) 40 ?_
    refine hn_pi (fk := 57) (List.cons_ne_nil _ _) rfl rfl rfl hm (fun _ => Or.inr rfl) ?_
    have i5 : ab_Inv G (mj_p0 M4 m 57 1) := S4.1.2.1.p0 (by rw [hm]; exact ⟨by decide, by decide⟩)
    have F5 : ab_frm hn_WS G M (mj_p0 M4 m 57 1) := hn_fm hm F4 (by decide)
    have S5 : hn_Q G (mj_p0 M4 m 57 1) m rd sk t c B (o + 1) 1 B := ⟨⟨S4.1.1, i5, (hn_n (Or.inr (by decide))).trans S4.1.2.2.1, (hn_n (Or.inr (by decide))).trans S4.1.2.2.2.1, S4.1.2.2.2.2.cg (fun j _ => (hn_n (Or.inl nr.symm)).symm)⟩, (hn_n (Or.inr (by decide))).trans S4.2.1, hn_s, (hn_b.cg (fun j _ => hn_n (Or.inl nk.symm))).trans S4.2.2.2⟩
    refine ⟨fun c1 => ?_, fun c1 => ?_⟩
    · refine hn_gi (fk := 11) (v := (mj_p0 M4 m 57 1).1 m 11) (List.cons_ne_nil _ _) rfl rfl rfl hm rfl ?_
      refine ⟨fun c2 => mj_W.stay (mj_R_mo _ _) _ (P94 _ _ _ _ i5 F5), fun c2 => ?_⟩
      refine hn_gi (fk := 14) (v := (mj_p0 M4 m 57 1).1 m 14) (List.cons_ne_nil _ _) rfl rfl rfl hm rfl ?_
      refine ⟨fun c3 => mj_W.stay (mj_R_mo _ _) _ (P94 _ _ _ _ i5 F5), fun c3 => ?_⟩
      refine hn_gi (fk := 14) (v := (mj_p0 M4 m 57 1).1 m 14) (List.cons_ne_nil _ _) rfl rfl rfl hm rfl ?_
      exact ⟨fun c4 => mj_W.stay (mj_R_mo _ _) _ (P98 _ _ _ S5 o19 F5), fun c4 => mj_W.stay (mj_R_mo _ _) _ (P94 _ _ _ _ i5 F5)⟩
    · refine ⟨List.cons_ne_nil _ _, 1012, 0, hm, rfl, by decide, Nat.zero_le _, Nat.zero_le _, ?_⟩
      refine r_code (rd := rd) (sk := sk) (c := c) S5.1.1 i5 S5.1.2.2.2.1 (by omega) ⟨by omega, by omega⟩ ⟨by decide, by decide⟩ ⟨by decide, by decide⟩ (fun M7 i7 f7 k53 k55 _ kx kb => ?_)
      have S7 : hn_Q G M7 m rd sk t (c + 1) (B + 1) (o + 1) 1 B := ⟨⟨S5.1.1.fr f7 (hn_nc (by decide)) (hn_nc (by decide)), i7, k55.trans S5.1.2.2.1, k53, B, S5.1.2.2.2.2.cg (fun j hj => (kb _ (by omega)).symm), Or.inr (Or.inr (by
        have kx : M7.1 rd (3 * c) = l := kx
        show M7.1 rd (3 * c) ≠ 10 ∧ M7.1 rd (3 * c) ≠ 11 ∧ M7.1 rd (3 * c) ≠ 12 ∧ B + 1 = B + 1
        rw [kx]
        exact ⟨by omega, by omega, by omega, rfl⟩))⟩, (f7 m 54 (by rw [hm]; exact hn_nc (by decide))).1.trans S5.2.1, (f7 m 57 (by rw [hm]; exact hn_nc (by decide))).1.trans S5.2.2.1, (hn_b.cg (fun j _ => (f7 sk j (by rw [hsk]; exact hn_nt (by decide))).1)).trans S5.2.2.2⟩
      exact ⟨rfl, fun _ => Or.inr rfl, hQ1 M7 t (c + 1) 1 S7 o19 (Or.inr ⟨rfl, rfl, rfl⟩) (F5.tr (hn_up f7 (by decide)))⟩
  have P54 : ∀ (M4 : mj_M) (v : Int) cb sb, (v = 10 ∨ v = 13) → hn_Q G M4 m rd sk t c B (o + 1) 0 B → o ≤ 19 → ab_frm hn_WS G M M4 → mj_W sx_ms (mj_R mj_tab (d + 2)) mt_X12_operand.2.2.2.2.1 Q (mt_X12_operand.2.2.2.2.1.drop 54) [some (.inr (.inr (some m))), some (.inl p), some (.inl u), some (.inl l), none] [.inl v, .inl (t : Int), .inr (.inr (some sk))] G M4 cb sb := by
    intro M4 v cb sb hv S4 o19 F4
    have fin : ∀ (j : Nat) (T z : Int), j = t → T = ((t + 1 : Nat) : Int) → mj_in z → Q (some (.inl 1)) G (mj_p0 (mj_p0 (mj_p0 M4 sk j v) m 55 T) m 56 z) := by
      intro j T z e1 e2 hz
      subst e1 e2
      have i5 : ab_Inv G (mj_p0 M4 sk j v) := S4.1.2.1.p0 (by rw [hsk]; rcases hv with rfl | rfl <;> exact ⟨(by decide : (-2147483648 : Int) ≤ _), (by decide : _ ≤ (2147483647 : Int))⟩)
      have i6 := hn_Q.mi (rd := rd) (sk := sk) hm i5 (k := 55) (v := ((j + 1 : Nat) : Int)) ⟨by omega, by omega⟩ (by decide)
      have i7 := hn_Q.mi (rd := rd) (sk := sk) hm i6 (k := 56) hz (by decide)
      have F5 : ab_frm hn_WS G M (mj_p0 M4 sk j v) := hn_f0 F4 ⟨(68100, 0, 44), by decide, by rw [hsk], Nat.zero_le _, by show j ≤ 44; omega⟩
      have qm : ∀ k, k ≠ 55 → k ≠ 56 → (mj_p0 (mj_p0 (mj_p0 M4 sk j v) m 55 ((j + 1 : Nat) : Int)) m 56 z).1 m k = M4.1 m k := fun k h1 h2 => (hn_n (Or.inr h2)).trans ((hn_n (Or.inr h1)).trans (hn_n (Or.inl nk)))
      have qr : ∀ k, (mj_p0 (mj_p0 (mj_p0 M4 sk j v) m 55 ((j + 1 : Nat) : Int)) m 56 z).1 rd k = M4.1 rd k := fun k => (hn_n (Or.inl nr.symm)).trans ((hn_n (Or.inl nr.symm)).trans (hn_n (Or.inl nkr)))
      have qk : ∀ k, (mj_p0 (mj_p0 (mj_p0 M4 sk j v) m 55 ((j + 1 : Nat) : Int)) m 56 z).1 sk k = (mj_p0 M4 sk j v).1 sk k := fun k => (hn_n (Or.inl nk.symm)).trans (hn_n (Or.inl nk.symm))
      refine hQ1 _ (j + 1) c 0 ⟨⟨S4.1.1, i7, (hn_n (Or.inr (by decide))).trans hn_s, (qm 53 (by decide) (by decide)).trans S4.1.2.2.2.1, S4.1.2.2.2.2.cg (fun j _ => (qr _).symm)⟩, (qm 54 (by decide) (by decide)).trans S4.2.1, (qm 57 (by decide) (by decide)).trans S4.2.2.1, ?_⟩ o19 (Or.inl ⟨rfl, rfl, rfl⟩) (hn_fm hm (hn_fm hm F5 (by decide)) (by decide))
      have b1 := S4.2.2.2
      have b2 : hn_b (hn_f (mj_p0 (mj_p0 (mj_p0 M4 sk j v) m 55 ((j + 1 : Nat) : Int)) m 56 z) sk) j = hn_b (hn_f M4 sk) j := hn_b.cg (fun i hi => (qk i).trans (hn_n (Or.inr (by omega))))
      show hn_b (hn_f (mj_p0 (mj_p0 (mj_p0 M4 sk j v) m 55 ((j + 1 : Nat) : Int)) m 56 z) sk) j + (if (mj_p0 (mj_p0 (mj_p0 M4 sk j v) m 55 ((j + 1 : Nat) : Int)) m 56 z).1 sk j = 11 ∨ (mj_p0 (mj_p0 (mj_p0 M4 sk j v) m 55 ((j + 1 : Nat) : Int)) m 56 z).1 sk j = 12 then 1 else 0) = B
      rw [b2, b1, qk, hn_s, if_neg (by omega)]
      rfl
    refine mj_W.run (mj_R_mo _ _) 40 ?_
    refine ⟨68100, 45, hsk, rfl, by decide, by show (0 : Int) ≤ (t : Int); omega, by show (t : Int) < ((45 : Nat) : Int); omega, ?_⟩
    refine hn_gi (fk := 55) (v := (t : Int)) (List.cons_ne_nil _ _) rfl rfl rfl hm ((hn_n (Or.inl nk)).trans S4.1.2.2.1) ?_
    refine Or.inl ⟨⟨by show (-2147483648 : Int) ≤ (t : Int) + 1; omega, by show (t : Int) + 1 < (2147483648 : Int); omega⟩, ?_⟩
    refine hn_pi (fk := 55) (List.cons_ne_nil _ _) rfl rfl rfl hm (fun q => by cases q) ?_
    refine hn_gi (fk := 56) (List.cons_ne_nil _ _) rfl rfl rfl hm rfl ?_
    refine Or.inr (fun z hz _ => ?_)
    refine hn_pi (fk := 56) (List.cons_ne_nil _ _) rfl rfl rfl hm (fun q => by cases q) ?_
    exact ⟨rfl, fun _ => Or.inr rfl, fin _ _ _ (by show ((t : Int)).toNat = t; omega) (by show (t : Int) + 1 = _; omega) hz⟩
  have P45 : ∀ (M4 : mj_M) cb sb, hn_Q G M4 m rd sk t c B (o + 1) 0 B → o ≤ 19 → ab_frm hn_WS G M M4 → mj_W sx_ms (mj_R mj_tab (d + 2)) mt_X12_operand.2.2.2.2.1 Q (mt_X12_operand.2.2.2.2.1.drop 45) [some (.inr (.inr (some m))), some (.inl p), some (.inl u), some (.inl l), none] [] G M4 cb sb := by
    intro M4 cb sb S4 o19 F4
    refine mj_W.run (mj_R_mo _ _) 40 ?_
    refine hn_gr (fk := 52) (List.cons_ne_nil _ _) rfl rfl rfl hm S4.1.1.2.2.2.1 ?_
    refine hn_gi (fk := 55) (v := (t : Int)) (List.cons_ne_nil _ _) rfl rfl rfl hm S4.1.2.2.1 ?_
    exact ⟨fun c1 => mj_W.stay (mj_R_mo _ _) 33 (P54 M4 13 _ _ (Or.inr rfl) S4 o19 F4), fun c1 => mj_W.stay (mj_R_mo _ _) 32 (P54 M4 10 _ _ (Or.inl rfl) S4 o19 F4)⟩
  have P33 : ∀ cb sb, o ≠ 20 → mj_W sx_ms (mj_R mj_tab (d + 2)) mt_X12_operand.2.2.2.2.1 Q (mt_X12_operand.2.2.2.2.1.drop 33) [some (.inr (.inr (some m))), some (.inl p), some (.inl u), some (.inl l), none] [] G M3 cb sb := by
    intro cb sb o20
    refine mj_W.run (mj_R_mo _ _) 40 ?_
    refine hn_gi (fk := 54) (v := (o : Int)) (List.cons_ne_nil _ _) rfl rfl rfl hm S3.2.1 ?_
    refine Or.inl ⟨⟨by show (-2147483648 : Int) ≤ (o : Int) + 1; omega, by show (o : Int) + 1 < (2147483648 : Int); omega⟩, ?_⟩
    refine hn_pi (fk := 54) (List.cons_ne_nil _ _) rfl rfl rfl hm (fun q => by cases q) ?_
    have i4 : ab_Inv G (mj_p0 M3 m 54 ((o : Int) + 1)) := hn_Q.mi (rd := rd) (sk := sk) hm i3 ⟨by omega, by omega⟩ (by decide)
    have S4 : hn_Q G (mj_p0 M3 m 54 ((o : Int) + 1)) m rd sk t c B (o + 1) 0 B := ⟨⟨S3.1.1, i4, (hn_n (Or.inr (by decide))).trans S3.1.2.2.1, (hn_n (Or.inr (by decide))).trans S3.1.2.2.2.1, S3.1.2.2.2.2.cg (fun j _ => (hn_n (Or.inl nr.symm)).symm)⟩, hn_s.trans (by omega), (hn_n (Or.inr (by decide))).trans S3.2.2.1, (hn_b.cg (fun j _ => hn_n (Or.inl nk.symm))).trans S3.2.2.2⟩
    have F4 : ab_frm hn_WS G M (mj_p0 M3 m 54 ((o : Int) + 1)) := hn_fm hm F3 (by decide)
    refine ⟨List.cons_ne_nil _ _, 1012, 0, hm, rfl, by decide, Nat.zero_le _, Nat.zero_le _, ?_⟩
    refine r_next hm i4 (fun M5 i5 f5 => ?_)
    have S5 := S4.fr f5 i5 (by decide)
    have F5 : ab_frm hn_WS G M M5 := F4.tr (hn_up f5 (by decide))
    exact ⟨fun c1 => mj_W.stay (mj_R_mo _ _) _ (P45 M5 _ _ S5 (by omega) F5), fun c1 => ⟨fun c2 => mj_W.stay (mj_R_mo _ _) _ (P69 M5 _ _ S5 (by omega) F5), fun c2 => mj_W.stay (mj_R_mo _ _) _ (P45 M5 _ _ S5 (by omega) F5)⟩⟩
  have P29 : ∀ cb sb, mj_W sx_ms (mj_R mj_tab (d + 2)) mt_X12_operand.2.2.2.2.1 Q (mt_X12_operand.2.2.2.2.1.drop 29) [some (.inr (.inr (some m))), some (.inl p), some (.inl u), some (.inl l), none] [] G M3 cb sb := by
    intro cb sb
    refine mj_W.run (mj_R_mo _ _) 10 ?_
    refine ⟨List.cons_ne_nil _ _, 1012, 0, hm, rfl, by decide, Nat.zero_le _, Nat.zero_le _, ?_⟩
    exact r_bad hm i3 ⟨by decide, by decide⟩ (fun Mb ib fb => ⟨rfl, fun _ => Or.inl rfl, hQ0 Mb ib ((F3).tr (hn_up fb (by decide)))⟩)
  have P21 : ∀ cb sb, mj_W sx_ms (mj_R mj_tab (d + 2)) mt_X12_operand.2.2.2.2.1 Q (mt_X12_operand.2.2.2.2.1.drop 21) [some (.inr (.inr (some m))), some (.inl p), some (.inl u), some (.inl l), none] [] G M3 cb sb := by
    intro cb sb
    refine mj_W.run (mj_R_mo _ _) 20 ?_
    refine hn_gi (fk := 54) (v := (o : Int)) (List.cons_ne_nil _ _) rfl rfl rfl hm S3.2.1 ?_
    refine ⟨fun c1 => mj_W.stay (mj_R_mo _ _) _ (P29 _ _), fun c1 => ?_⟩
    have c1 : ¬ (o : Int) = 20 := c1
    refine hn_gi (fk := 56) (List.cons_ne_nil _ _) rfl rfl rfl hm rfl ?_
    exact ⟨fun c2 => mj_W.stay (mj_R_mo _ _) _ (P33 _ _ (by omega)), fun c2 => mj_W.stay (mj_R_mo _ _) _ (P29 _ _)⟩
  refine ⟨fun c1 => mj_W.stay (mj_R_mo _ _) _ (P21 _ _), fun c1 => ⟨fun c2 => mj_W.stay (mj_R_mo _ _) _ (P21 _ _), fun c2 => ⟨fun c3 => mj_W.stay (mj_R_mo _ _) _ (P21 _ _), fun c3 => ?_⟩⟩⟩
  refine ⟨List.cons_ne_nil _ _, 1012, 0, hm, rfl, by decide, Nat.zero_le _, Nat.zero_le _, ?_⟩
  exact r_bad hm i3 ⟨by decide, by decide⟩ (fun Mb ib fb => ⟨rfl, fun _ => Or.inl rfl, hQ0 Mb ib ((F3).tr (hn_up fb (by decide)))⟩)
end
section
/-! ===== by hand: behind of the reference ===== -/
theorem hn_Q.wr {G : mj_G} {M M' : mj_M} {m rd sk t c h o b B t' c' h' B' : Nat} (hq : hn_Q G M m rd sk t c h o b B) (hJ : hn_J G M' m rd sk t' c' h') (hf : ab_frm hn_W G M M') (hb : hn_b (hn_f M sk) t' = B') : hn_Q G M' m rd sk t' c' h' o b B' := by
  have hm : G m = (1012, 0) := hq.1.1.1
  have hsk : G sk = (68100, 45) := hq.1.1.2.2.2.2
  exact ⟨hJ, (hf m 54 (by rw [hm]; exact hn_nc (by decide))).1.trans hq.2.1, (hf m 57 (by rw [hm]; exact hn_nc (by decide))).1.trans hq.2.2.1, (hn_b.cg (fun j _ => (hf sk j (by rw [hsk]; exact hn_nt (by decide))).1)).trans hb⟩
set_option maxRecDepth 100000 in
theorem r_behind {d m rd sk t c o B : Nat} {G : mj_G} {M : mj_M} {Q : mj_P} (hS : hn_Q G M m rd sk t c (B + 1) o 1 B) (ho : o ≤ 20) (hto : t + 1 ≤ o) (hct : c + t + 1 ≤ 2 * o)
    (hQ0 : ∀ M', ab_Inv G M' → ab_frm hn_WS G M M' → Q (some (.inl 0)) G M')
    (hQ1 : ∀ M' t' c' b' B', hn_Q G M' m rd sk t' c' (B' + b') o b' B' → ((b' = 0 ∧ t' ≤ t + 1 ∧ c' + t' = c + t + 1) ∨ (b' = 1 ∧ t' + 1 ≤ t ∧ c' + t' + 1 = c + t)) → ab_frm hn_WS G M M' → Q (some (.inl 1)) G M') : mj_R mj_tab (d + 3) 164 [.inr (.inr (some m))] G M Q := by
  have hm : G m = (1012, 0) := hS.1.1.1
  have hrd : G rd = (53100, 135) := hS.1.1.2.2.1
  have hsk : G sk = (68100, 45) := hS.1.1.2.2.2.2
  have nr : m ≠ rd := hn_ne hm hrd (by decide)
  have nk : m ≠ sk := hn_ne hm hsk (by decide)
  have nkr : rd ≠ sk := hn_ne hrd hsk (by decide)
  have P30 : ∀ (M6 : mj_M) (v : Int) (t2 c2 B2 cb sb : Nat), (v = 11 ∨ v = 12) → hn_Q G M6 m rd sk t2 c2 (B2 + 1) o 1 B2 → t2 ≤ t → c2 + t2 = c + t → ab_frm hn_WS G M M6 → mj_W sx_ms (mj_R mj_tab (d + 2)) mt_X12_behind.2.2.2.2.1 Q (mt_X12_behind.2.2.2.2.1.drop 30) [some (.inr (.inr (some m)))] [.inl v, .inl (t2 : Int), .inr (.inr (some sk))] G M6 cb sb := by
    intro M6 v t2 c2 B2 cb sb hv S6 h1 h2 F6
    have fin : ∀ (j : Nat) (T : Int), j = t2 → T = ((t2 + 1 : Nat) : Int) → hn_Q G (mj_p0 (mj_p0 (mj_p0 M6 sk j v) m 55 T) m 57 0) m rd sk (t2 + 1) c2 (B2 + 1 + 0) o 0 (B2 + 1) ∧ ab_frm hn_WS G M (mj_p0 (mj_p0 (mj_p0 M6 sk j v) m 55 T) m 57 0) := by
      intro j T e1 e2
      subst e1 e2
      have i5 : ab_Inv G (mj_p0 M6 sk j v) := S6.1.2.1.p0 (by rw [hsk]; rcases hv with rfl | rfl <;> exact ⟨(by decide : (-2147483648 : Int) ≤ _), (by decide : _ ≤ (2147483647 : Int))⟩)
      have i6 := hn_Q.mi (rd := rd) (sk := sk) hm i5 (k := 55) (v := ((j + 1 : Nat) : Int)) ⟨by omega, by omega⟩ (by decide)
      have i7 : ab_Inv G (mj_p0 (mj_p0 (mj_p0 M6 sk j v) m 55 ((j + 1 : Nat) : Int)) m 57 0) := i6.p0 (by rw [hm]; exact ⟨by decide, by decide⟩)
      have F5 : ab_frm hn_WS G M (mj_p0 M6 sk j v) := hn_f0 F6 ⟨(68100, 0, 44), by decide, by rw [hsk], Nat.zero_le _, by show j ≤ 44; omega⟩
      have qm : ∀ k, k ≠ 55 → k ≠ 57 → (mj_p0 (mj_p0 (mj_p0 M6 sk j v) m 55 ((j + 1 : Nat) : Int)) m 57 0).1 m k = M6.1 m k := fun k h1 h2 => (hn_n (Or.inr h2)).trans ((hn_n (Or.inr h1)).trans (hn_n (Or.inl nk)))
      have qr : ∀ k, (mj_p0 (mj_p0 (mj_p0 M6 sk j v) m 55 ((j + 1 : Nat) : Int)) m 57 0).1 rd k = M6.1 rd k := fun k => (hn_n (Or.inl nr.symm)).trans ((hn_n (Or.inl nr.symm)).trans (hn_n (Or.inl nkr)))
      have qk : ∀ k, (mj_p0 (mj_p0 (mj_p0 M6 sk j v) m 55 ((j + 1 : Nat) : Int)) m 57 0).1 sk k = (mj_p0 M6 sk j v).1 sk k := fun k => (hn_n (Or.inl nk.symm)).trans (hn_n (Or.inl nk.symm))
      refine ⟨⟨⟨S6.1.1, i7, (hn_n (Or.inr (by decide))).trans hn_s, (qm 53 (by decide) (by decide)).trans S6.1.2.2.2.1, S6.1.2.2.2.2.cg (fun j _ => (qr _).symm)⟩, (qm 54 (by decide) (by decide)).trans S6.2.1, hn_s, ?_⟩, hn_fm hm (hn_fm hm F5 (by decide)) (by decide)⟩
      have b1 := S6.2.2.2
      have b2 : hn_b (hn_f (mj_p0 (mj_p0 (mj_p0 M6 sk j v) m 55 ((j + 1 : Nat) : Int)) m 57 0) sk) j = hn_b (hn_f M6 sk) j := hn_b.cg (fun i hi => (qk i).trans (hn_n (Or.inr (by omega))))
      show hn_b (hn_f (mj_p0 (mj_p0 (mj_p0 M6 sk j v) m 55 ((j + 1 : Nat) : Int)) m 57 0) sk) j + (if (mj_p0 (mj_p0 (mj_p0 M6 sk j v) m 55 ((j + 1 : Nat) : Int)) m 57 0).1 sk j = 11 ∨ (mj_p0 (mj_p0 (mj_p0 M6 sk j v) m 55 ((j + 1 : Nat) : Int)) m 57 0).1 sk j = 12 then 1 else 0) = B2 + 1
      rw [b2, b1, qk, hn_s, if_pos hv]
    refine mj_W.run (mj_R_mo _ _) 40 ?_
    refine ⟨68100, 45, hsk, rfl, by decide, by show (0 : Int) ≤ (t2 : Int); omega, by show (t2 : Int) < ((45 : Nat) : Int); omega, ?_⟩
    refine hn_gi (fk := 55) (v := (t2 : Int)) (List.cons_ne_nil _ _) rfl rfl rfl hm ((hn_n (Or.inl nk)).trans S6.1.2.2.1) ?_
    refine Or.inl ⟨⟨by show (-2147483648 : Int) ≤ (t2 : Int) + 1; omega, by show (t2 : Int) + 1 < (2147483648 : Int); omega⟩, ?_⟩
    refine hn_pi (fk := 55) (List.cons_ne_nil _ _) rfl rfl rfl hm (fun q => by cases q) ?_
    refine hn_pi (fk := 57) (List.cons_ne_nil _ _) rfl rfl rfl hm (fun _ => Or.inl rfl) ?_
    refine ⟨List.cons_ne_nil _ _, 1012, 0, hm, rfl, Nat.le_of_ble_eq_true rfl, Nat.zero_le _, Nat.zero_le _, ?_⟩
    obtain ⟨S7, F7⟩ := fin _ _ (show ((t2 : Int)).toNat = t2 by omega) (show (t2 : Int) + 1 = _ by omega)
    exact r_next hm S7.1.2.1 (fun M8 i8 f8 => ⟨rfl, fun _ => Or.inr rfl, hQ1 M8 (t2 + 1) c2 0 (B2 + 1) (S7.fr f8 i8 (by decide)) (Or.inl ⟨rfl, by omega, by omega⟩) (F7.tr (hn_up f8 (by decide)))⟩)
  have P18 : ∀ (M4 : mj_M) (till : Int) (t1 c1 cb sb : Nat), hn_Q G M4 m rd sk t1 c1 (B + 1) o 1 B → t1 ≤ t → c1 + t1 = c + t → ab_frm hn_WS G M M4 → mj_W sx_ms (mj_R mj_tab (d + 2)) mt_X12_behind.2.2.2.2.1 Q (mt_X12_behind.2.2.2.2.1.drop 18) [some (.inr (.inr (some m)))] [.inl till, .inr (.inr (some m))] G M4 cb sb := by
    intro M4 till t1 c1 cb sb S4 h1 h2 F4
    refine mj_W.run (mj_R_mo _ _) 40 ?_
    refine ⟨List.cons_ne_nil _ _, 1012, 0, hm, rfl, Nat.le_of_ble_eq_true rfl, Nat.zero_le _, Nat.zero_le _, ?_⟩
    refine r_joins (t := t1) (c := c1) (by rw [S4.2.2.2]; exact S4.1) (by omega) (fun M5 t2 c2 J5 g2 g3 f5 _ => ?_)
    have S5 : hn_Q G M5 m rd sk t2 c2 (hn_b (hn_f M4 sk) t2 + 1) o 1 (hn_b (hn_f M4 sk) t2) := S4.wr J5 f5 rfl
    have F5 : ab_frm hn_WS G M M5 := F4.tr (hn_up f5 (by decide))
    refine hn_gr (fk := 52) (List.cons_ne_nil _ _) rfl rfl rfl hm S5.1.1.2.2.2.1 ?_
    refine hn_gi (fk := 55) (v := (t2 : Int)) (List.cons_ne_nil _ _) rfl rfl rfl hm S5.1.2.2.1 ?_
    refine ⟨List.cons_ne_nil _ _, 1012, 0, hm, rfl, Nat.le_of_ble_eq_true rfl, Nat.zero_le _, Nat.zero_le _, ?_⟩
    refine r_isWord hm S5.1.2.1 (fun M6 p i6 f6 hp => ?_)
    have S6 := S5.fr f6 i6 (by decide)
    have F6 : ab_frm hn_WS G M M6 := F5.tr (hn_up f6 (by decide))
    exact ⟨fun c1 => mj_W.stay (mj_R_mo _ _) 30 (P30 M6 12 t2 c2 _ _ _ (Or.inr rfl) S6 (by omega) (by omega) F6), fun c1 => mj_W.stay (mj_R_mo _ _) 29 (P30 M6 11 t2 c2 _ _ _ (Or.inl rfl) S6 (by omega) (by omega) F6)⟩
  have P10 : ∀ (M3 : mj_M) (t1 c1 cb sb : Nat), hn_Q G M3 m rd sk t1 c1 (B + 1) o 1 B → t1 ≤ t → c1 + t1 = c + t → ab_frm hn_WS G M M3 → mj_W sx_ms (mj_R mj_tab (d + 2)) mt_X12_behind.2.2.2.2.1 Q (mt_X12_behind.2.2.2.2.1.drop 10) [some (.inr (.inr (some m)))] [] G M3 cb sb := by
    intro M3 t1 c1 cb sb S3 h1 h2 F3
    refine mj_W.run (mj_R_mo _ _) 40 ?_
    refine ⟨List.cons_ne_nil _ _, 1012, 0, hm, rfl, Nat.le_of_ble_eq_true rfl, Nat.zero_le _, Nat.zero_le _, ?_⟩
    refine r_isWord hm S3.1.2.1 (fun M4 p i4 f4 hp => ?_)
    have S4 := S3.fr f4 i4 (by decide)
    have F4 : ab_frm hn_WS G M M4 := F3.tr (hn_up f4 (by decide))
    exact ⟨fun c1 => mj_W.stay (mj_R_mo _ _) 34 (P18 M4 12 t1 _ _ _ S4 h1 h2 F4), fun c1 => mj_W.stay (mj_R_mo _ _) 33 (P18 M4 11 t1 _ _ _ S4 h1 h2 F4)⟩
  have P54 : ∀ (M5 : mj_M) (cb sb : Nat), ab_Inv G M5 → ab_frm hn_WS G M M5 → mj_W sx_ms (mj_R mj_tab (d + 2)) mt_X12_behind.2.2.2.2.1 Q (mt_X12_behind.2.2.2.2.1.drop 54) [some (.inr (.inr (some m)))] [] G M5 cb sb := by
    intro M5 cb sb I5 F5
    refine mj_W.run (mj_R_mo _ _) 10 ?_
    refine ⟨List.cons_ne_nil _ _, 1012, 0, hm, rfl, Nat.le_of_ble_eq_true rfl, Nat.zero_le _, Nat.zero_le _, ?_⟩
    exact r_bad hm I5 ⟨by decide, by decide⟩ (fun Mb ib fb => ⟨rfl, fun _ => Or.inl rfl, hQ0 Mb ib (F5.tr (hn_up fb (by decide)))⟩)
  have P58 : ∀ (M5 : mj_M) (u c2 B2 cb sb : Nat), hn_Q G M5 m rd sk (u + 1) c2 (B2 + 1) o 1 B2 → (M5.1 sk u ≠ 11 ∧ M5.1 sk u ≠ 12) → u + 1 ≤ t → c2 + (u + 1) = c + t → ab_frm hn_WS G M M5 → mj_W sx_ms (mj_R mj_tab (d + 2)) mt_X12_behind.2.2.2.2.1 Q (mt_X12_behind.2.2.2.2.1.drop 58) [some (.inr (.inr (some m)))] [] G M5 cb sb := by
    intro M5 u c2 B2 cb sb S5 hu h1 h2 F5
    have fin : ∀ (T z : Int), T = (u : Int) → mj_in z → hn_Q G (mj_p0 (mj_p0 M5 m 55 T) m 56 z) m rd sk u c2 (B2 + 1) o 1 B2 ∧ ab_frm hn_WS G M (mj_p0 (mj_p0 M5 m 55 T) m 56 z) := by
      intro T z e hz
      subst e
      have i6 := hn_Q.mi (rd := rd) (sk := sk) hm S5.1.2.1 (k := 55) (v := (u : Int)) ⟨by omega, by omega⟩ (by decide)
      have i7 := hn_Q.mi (rd := rd) (sk := sk) hm i6 (k := 56) hz (by decide)
      have qm : ∀ k, k ≠ 55 → k ≠ 56 → (mj_p0 (mj_p0 M5 m 55 (u : Int)) m 56 z).1 m k = M5.1 m k := fun k h1 h2 => (hn_n (Or.inr h2)).trans (hn_n (Or.inr h1))
      refine ⟨⟨⟨S5.1.1, i7, (hn_n (Or.inr (by decide))).trans hn_s, (qm 53 (by decide) (by decide)).trans S5.1.2.2.2.1, S5.1.2.2.2.2.cg (fun j _ => ((hn_n (Or.inl nr.symm)).trans (hn_n (Or.inl nr.symm))).symm)⟩, (qm 54 (by decide) (by decide)).trans S5.2.1, (qm 57 (by decide) (by decide)).trans S5.2.2.1, (hn_b.cg (fun j _ => (hn_n (Or.inl nk.symm)).trans (hn_n (Or.inl nk.symm)))).trans ?_⟩, hn_fm hm (hn_fm hm F5 (by decide)) (by decide)⟩
      have b1 : hn_b (hn_f M5 sk) u + (if M5.1 sk u = 11 ∨ M5.1 sk u = 12 then 1 else 0) = B2 := S5.2.2.2
      rw [if_neg (fun e => e.elim hu.1 hu.2)] at b1
      exact b1
    refine mj_W.run (mj_R_mo _ _) 40 ?_
    refine hn_gi (fk := 55) (v := ((u + 1 : Nat) : Int)) (List.cons_ne_nil _ _) rfl rfl rfl hm S5.1.2.2.1 ?_
    refine Or.inl ⟨⟨by show (-2147483648 : Int) ≤ ((u + 1 : Nat) : Int) - 1; omega, by show ((u + 1 : Nat) : Int) - 1 < (2147483648 : Int); omega⟩, ?_⟩
    refine hn_pi (fk := 55) (List.cons_ne_nil _ _) rfl rfl rfl hm (fun q => by cases q) ?_
    refine hn_gi (fk := 56) (List.cons_ne_nil _ _) rfl rfl rfl hm rfl ?_
    refine Or.inr (fun z hz _ => ?_)
    refine hn_pi (fk := 56) (List.cons_ne_nil _ _) rfl rfl rfl hm (fun q => by cases q) ?_
    refine ⟨List.cons_ne_nil _ _, 1012, 0, hm, rfl, Nat.le_of_ble_eq_true rfl, Nat.zero_le _, Nat.zero_le _, ?_⟩
    obtain ⟨S7, F7⟩ := fin _ z (show ((u + 1 : Nat) : Int) - 1 = _ by omega) hz
    exact r_next hm S7.1.2.1 (fun M8 i8 f8 => ⟨rfl, fun _ => Or.inr rfl, hQ1 M8 u c2 1 B2 (S7.fr f8 i8 (by decide)) (Or.inr ⟨rfl, h1, by omega⟩) (F7.tr (hn_up f8 (by decide)))⟩)
  have P44 : ∀ (M3 : mj_M) (t1 c1 cb sb : Nat), hn_Q G M3 m rd sk t1 c1 (B + 1) o 1 B → t1 ≤ t → c1 + t1 = c + t → ab_frm hn_WS G M M3 → mj_W sx_ms (mj_R mj_tab (d + 2)) mt_X12_behind.2.2.2.2.1 Q (mt_X12_behind.2.2.2.2.1.drop 44) [some (.inr (.inr (some m)))] [] G M3 cb sb := by
    intro M3 t1 c1 cb sb S3 h1 h2 F3
    refine mj_W.run (mj_R_mo _ _) 40 ?_
    refine ⟨List.cons_ne_nil _ _, 1012, 0, hm, rfl, Nat.le_of_ble_eq_true rfl, Nat.zero_le _, Nat.zero_le _, ?_⟩
    refine r_joins (t := t1) (c := c1) (by rw [S3.2.2.2]; exact S3.1) (by omega) (fun M4 t2 c2 J4 g2 g3 f4 g5 => ?_)
    have S4 : hn_Q G M4 m rd sk t2 c2 (hn_b (hn_f M3 sk) t2 + 1) o 1 (hn_b (hn_f M3 sk) t2) := S3.wr J4 f4 rfl
    have F4 : ab_frm hn_WS G M M4 := F3.tr (hn_up f4 (by decide))
    refine ⟨List.cons_ne_nil _ _, 1012, 0, hm, rfl, Nat.le_of_ble_eq_true rfl, Nat.zero_le _, Nat.zero_le _, ?_⟩
    refine r_isSign hm S4.1.2.1 ⟨by decide, by decide⟩ (fun M5 p i5 f5 hp => ?_)
    have S5 := S4.fr f5 i5 (by decide)
    have F5 : ab_frm hn_WS G M M5 := F4.tr (hn_up f5 (by decide))
    refine ⟨fun c1 => mj_W.stay (mj_R_mo _ _) _ (P54 M5 _ _ i5 F5), fun c1 => ?_⟩
    refine hn_gi (fk := 55) (v := (t2 : Int)) (List.cons_ne_nil _ _) rfl rfl rfl hm S5.1.2.2.1 ?_
    refine ⟨fun c2 => ?_, fun c2 => mj_W.stay (mj_R_mo _ _) _ (P54 M5 _ _ i5 F5)⟩
    have c2 : (t2 : Int) ≠ 0 := c2
    cases t2 with
    | zero => exact absurd rfl c2
    | succ u =>
      have e : M5.1 sk u = M3.1 sk u := ((f4.tr (hn_up f5 (by decide))) sk u (by rw [hsk]; exact hn_nt (by decide))).1
      exact mj_W.stay (mj_R_mo _ _) _ (P58 M5 u _ _ _ _ S5 (by rw [e]; exact g5 rfl u rfl) (by omega) (by omega) F5)
  refine ⟨Nat.le_of_ble_eq_true rfl, mj_W.run (mj_R_mo _ _) 40 ?_⟩
  refine ⟨List.cons_ne_nil _ _, 1012, 0, hm, rfl, Nat.le_of_ble_eq_true rfl, Nat.zero_le _, Nat.zero_le _, ?_⟩
  refine r_nots (h := B + 1) (by omega) hS.1 (by omega) (fun M1 t1 c1 J1 g2 g3 f1 g5 => ?_)
  have S1 : hn_Q G M1 m rd sk t1 c1 (B + 1) o 1 B := hS.wr J1 f1 (g5.trans hS.2.2.2)
  have F1 : ab_frm hn_WS G M M1 := hn_up f1 (by decide)
  refine ⟨List.cons_ne_nil _ _, 1012, 0, hm, rfl, Nat.le_of_ble_eq_true rfl, Nat.zero_le _, Nat.zero_le _, ?_⟩
  refine r_isWord hm S1.1.2.1 (fun M2 p i2 f2 hp => ?_)
  have S2 := S1.fr f2 i2 (by decide)
  have F2 : ab_frm hn_WS G M M2 := F1.tr (hn_up f2 (by decide))
  refine ⟨fun c1 => mj_W.stay (mj_R_mo _ _) _ (P10 M2 t1 _ _ _ S2 g2 g3 F2), fun c1 => ?_⟩
  refine ⟨List.cons_ne_nil _ _, 1012, 0, hm, rfl, Nat.le_of_ble_eq_true rfl, Nat.zero_le _, Nat.zero_le _, ?_⟩
  refine r_isWord hm i2 (fun M3 p3 i3 f3 hp3 => ?_)
  have S3 := S2.fr f3 i3 (by decide)
  have F3 : ab_frm hn_WS G M M3 := F2.tr (hn_up f3 (by decide))
  exact ⟨fun c1 => mj_W.stay (mj_R_mo _ _) _ (P44 M3 t1 _ _ _ S3 g2 g3 F3), fun c1 => mj_W.stay (mj_R_mo _ _) _ (P10 M3 t1 _ _ _ S3 g2 g3 F3)⟩
end
section
/-! ===== by hand: sentence of the reference ===== -/
/-- the codes at p of the array a can be run -/
def hn_F (M : mj_M) (a p : Nat) : Prop := ∃ c n : Nat, M.1 a p = (c : Int) ∧ hn_k (fun i => M.1 a (p + 1 + 3 * i)) c n
theorem hn_rf {G : mj_G} {M : mj_M} {a t n k : Nat} {q : Nat × Nat} (hI : ab_Inv G M) (ha : G a = (t, n)) (e : ab_rf t k = some q) (h1 : q.1 ≠ 0) (h2 : q.1 ≠ 1) (h3 : q.1 ≠ 50) (h4 : 100 ≤ t % 1000 → k < n) : ∃ b, M.2.2 a k = some b ∧ G b = q := by
  have := hI.2.1 a k q (by rw [ha]; exact e) (by rw [ha]; exact h4)
  rcases this with h | h | h | ⟨-, -, -, b, hb, hG⟩
  · exact absurd h.1 h1
  · exact absurd h.1 h2
  · exact absurd h.1 h3
  · exact ⟨b, hb, hG⟩
theorem hn_rs {k : Nat} (h : 357 ≤ k) : ab_rg 51100 k = ab_ii := by
  show ab_s k = ab_ii
  unfold ab_s
  have a1 : Nat.beq k 0 = false := Bool.eq_false_iff.mpr (fun e => by have := sx_beq e; omega)
  have a2 : Nat.beq k 222 = false := Bool.eq_false_iff.mpr (fun e => by have := sx_beq e; omega)
  have a3 : Nat.beq k 356 = false := Bool.eq_false_iff.mpr (fun e => by have := sx_beq e; omega)
  have a4 : Nat.blt k 220 = false := Bool.eq_false_iff.mpr (fun e => by have := sx_blt e; omega)
  have a5 : Nat.blt k 356 = false := Bool.eq_false_iff.mpr (fun e => by have := sx_blt e; omega)
  rw [a1, a2, a3, a4, a5, Bool.and_false, Bool.and_false]
  rfl
abbrev hn_WX : List (Nat × Nat × Nat) := [(1012, 0, 0), (1012, 2, 5), (1012, 11, 17), (1012, 53, 57), (53100, 0, 134), (68100, 0, 44), (51100, 356, 491)]
/-- what sentence keeps -/
def hn_X (G : mj_G) (M M' : mj_M) (m s : Nat) : Prop := ab_frm hn_WX G M M' ∧ M'.1 m 2 = 0 ∧ hn_F M' s 356 ∧ M'.2.2 m 6 = some s
theorem hn_F.cg {M M' : mj_M} {a p : Nat} (h : hn_F M a p) (e : ∀ k, p ≤ k → M'.1 a k = M.1 a k) : hn_F M' a p := by
  obtain ⟨c, n, h1, h2⟩ := h
  exact ⟨c, n, (e p (Nat.le_refl _)).trans h1, h2.cg (fun j _ => (e _ (by omega)).symm)⟩
theorem hn_X.up {W : List (Nat × Nat × Nat)} {G : mj_G} {M M1 M2 : mj_M} {m s : Nat} (hX : hn_X G M M1 m s) (hm : G m = (1012, 0)) (hs : G s = (51100, 537)) (f : ab_frm W G M1 M2) (h1 : W.all (fun e => ab_cw hn_WX e.1 (.ofNat e.2.1) (.ofNat e.2.2)) = true) (h2 : W.all (fun q => !(Nat.beq q.1 1012 && (Nat.ble q.2.1 2 && Nat.ble 2 q.2.2))) = true) (h3 : W.all (fun q => !(Nat.beq q.1 1012 && (Nat.ble q.2.1 6 && Nat.ble 6 q.2.2))) = true) (h4 : W.all (fun q => !(Nat.beq q.1 51100)) = true) : hn_X G M M2 m s :=
  ⟨hX.1.tr (hn_up f h1), (f m 2 (by rw [hm]; exact hn_nc h2)).1.trans hX.2.1, hX.2.2.1.cg (fun k _ => (f s k (by rw [hs]; exact hn_nt h4)).1), (f m 6 (by rw [hm]; exact hn_nc h3)).2.trans hX.2.2.2⟩
set_option maxRecDepth 100000 in
theorem r_sent_copy {d m rd sk s c h o b B : Nat} {G : mj_G} {M : mj_M} {Q : mj_P} (hs : G s = (51100, 537)) (hc : c ≤ 45)
    (hQ : ∀ z M', ab_Inv G M' → hn_X G M M' m s → Q (some (.inl z)) G M') : ∀ (j i : Nat) (M1 : mj_M) (cb sb : Nat), i + j = 3 * c → hn_Q G M1 m rd sk 0 c h o b B → ab_frm hn_WX G M M1 → M1.1 m 2 = 0 → M1.2.2 m 6 = some s → M1.1 s 356 = (c : Int) → (∀ k, k < i → M1.1 s (357 + k) = M1.1 rd k) → mj_W sx_ms (mj_R mj_tab (d + 3)) mt_X12_sentence.2.2.2.2.1 Q (mt_X12_sentence.2.2.2.2.1.drop 79) [some (.inr (.inr (some m))), some (.inl 0), some (.inl (i : Int))] [] G M1 cb sb := by
  intro j
  induction j with
  | zero =>
    intro i M1 cb sb hi S1 F1 e2 e6 e356 hk
    have hm : G m = (1012, 0) := S1.1.1.1
    refine mj_W.run (mj_R_mo _ _) 20 ?_
    refine hn_gi (fk := 53) (v := (c : Int)) (List.cons_ne_nil _ _) rfl rfl rfl hm S1.1.2.2.2.1 ?_
    refine Or.inl ⟨⟨by show (-2147483648 : Int) ≤ (3 : Int) * (c : Int); omega, by show (3 : Int) * (c : Int) < (2147483648 : Int); omega⟩, ?_⟩
    refine ⟨fun c1 => ?_, fun c1 => absurd (show (3 : Int) * (c : Int) ≤ (i : Int) by omega) c1⟩
    refine hn_gi (fk := 54) (v := (o : Int)) (List.cons_ne_nil _ _) rfl rfl rfl hm S1.2.1 ?_
    refine ⟨rfl, (fun e => by cases e), hQ _ M1 S1.1.2.1 ⟨F1, e2, ⟨c, h, e356, S1.1.2.2.2.2.cg (fun j hj => ?_)⟩, e6⟩⟩
    show M1.1 rd (3 * j) = M1.1 s (356 + 1 + 3 * j)
    exact (hk (3 * j) (by omega)).symm
  | succ j ih =>
    intro i M1 cb sb hi S1 F1 e2 e6 e356 hk
    have hm : G m = (1012, 0) := S1.1.1.1
    have hrd : G rd = (53100, 135) := S1.1.1.2.2.1
    have hsk : G sk = (68100, 45) := S1.1.1.2.2.2.2
    have n1 : m ≠ s := hn_ne hm hs (by decide)
    have n2 : rd ≠ s := hn_ne hrd hs (by decide)
    have n3 : sk ≠ s := hn_ne hsk hs (by decide)
    have fin : ∀ p v, p = 357 + i → v = M1.1 rd i → ∀ (z : Int), z = ((i + 1 : Nat) : Int) → ∀ cb sb, mj_W sx_ms (mj_R mj_tab (d + 3)) mt_X12_sentence.2.2.2.2.1 Q (mt_X12_sentence.2.2.2.2.1.drop 79) [some (.inr (.inr (some m))), some (.inl 0), some (.inl z)] [] G (mj_p0 M1 s p v) cb sb := by
      intro p v ep ev z ez cb sb
      subst ep ev ez
      have i2 : ab_Inv G (mj_p0 M1 s (357 + i) (M1.1 rd i)) := S1.1.2.1.p0 (by
        rw [hs]
        show (ab_rg 51100 (357 + i)).1 ≤ _ ∧ _ ≤ (ab_rg 51100 (357 + i)).2
        rw [hn_rs (by omega)]
        exact hn_ii (S1.1.2.1.mj rd i))
      refine ih (i + 1) _ cb sb (by omega) ⟨⟨S1.1.1, i2, (hn_n (Or.inl n1)).trans S1.1.2.2.1, (hn_n (Or.inl n1)).trans S1.1.2.2.2.1, S1.1.2.2.2.2.cg (fun j _ => (hn_n (Or.inl n2)).symm)⟩, (hn_n (Or.inl n1)).trans S1.2.1, (hn_n (Or.inl n1)).trans S1.2.2.1, (hn_b.cg (fun j _ => hn_n (Or.inl n3))).trans S1.2.2.2⟩ (hn_f0 F1 ⟨(51100, 356, 491), by decide, by rw [hs], by show 356 ≤ 357 + i; omega, by show 357 + i ≤ 491; omega⟩) ((hn_n (Or.inl n1)).trans e2) e6 ((hn_n (Or.inr (by omega))).trans e356) (fun k hk2 => ?_)
      by_cases e : k = i
      · subst e
        exact hn_s.trans (hn_n (Or.inl n2)).symm
      · exact (hn_n (Or.inr (by omega))).trans ((hk k (by omega)).trans (hn_n (Or.inl n2)).symm)
    refine mj_W.run (mj_R_mo _ _) 18 ?_
    refine hn_gi (fk := 53) (v := (c : Int)) (List.cons_ne_nil _ _) rfl rfl rfl hm S1.1.2.2.2.1 ?_
    refine Or.inl ⟨⟨by show (-2147483648 : Int) ≤ (3 : Int) * (c : Int); omega, by show (3 : Int) * (c : Int) < (2147483648 : Int); omega⟩, ?_⟩
    refine ⟨fun c1 => absurd (show (3 : Int) * (c : Int) ≤ (i : Int) from c1) (by omega), fun c1 => ?_⟩
    refine hn_gr (fk := 6) (List.cons_ne_nil _ _) rfl rfl rfl hm e6 ?_
    refine Or.inl ⟨⟨by show (-2147483648 : Int) ≤ (357 : Int) + (i : Int); omega, by show (357 : Int) + (i : Int) < (2147483648 : Int); omega⟩, ?_⟩
    refine hn_gr (fk := 8) (List.cons_ne_nil _ _) rfl rfl rfl hm S1.1.1.2.1 ?_
    refine ⟨53100, 135, hrd, rfl, by show (0 : Int) ≤ (i : Int); omega, by show (i : Int) < ((135 : Nat) : Int); omega, ?_⟩
    refine ⟨51100, 537, hs, rfl, by decide, by show (0 : Int) ≤ (357 : Int) + (i : Int); omega, by show (357 : Int) + (i : Int) < ((537 : Nat) : Int); omega, ?_⟩
    refine Or.inl ⟨⟨by show (-2147483648 : Int) ≤ (i : Int) + 1; omega, by show (i : Int) + 1 < (2147483648 : Int); omega⟩, ?_⟩
    exact fin _ _ (show ((357 : Int) + (i : Int)).toNat = _ by omega) (show M1.1 rd ((i : Int)).toNat = _ from rfl) ((i : Int) + 1) (by omega) _ _
set_option maxRecDepth 100000 in
theorem r_sent_w {d m rd sk s : Nat} {G : mj_G} {M : mj_M} {Q : mj_P} (hs : G s = (51100, 537)) (hm : G m = (1012, 0))
    (hQ : ∀ z M', ab_Inv G M' → hn_X G M M' m s → Q (some (.inl z)) G M') : ∀ (n : Nat) (M1 : mj_M) (t c o b B cb sb : Nat), hn_Q G M1 m rd sk t c (B + b) o b B → b ≤ 1 → t + b ≤ o → o ≤ 20 → c + t + b ≤ 2 * o → 4 * (21 - o) + 2 * b + t < n → hn_X G M M1 m s → mj_W sx_ms (mj_R mj_tab (d + 3)) mt_X12_sentence.2.2.2.2.1 Q (mt_X12_sentence.2.2.2.2.1.drop 28) [some (.inr (.inr (some m))), some (.inl 1), none] [] G M1 cb sb := by
  -- an error's end
  have P66 : ∀ (M1 : mj_M) (x y : Option mj_V) (cb sb : Nat), ab_Inv G M1 → hn_X G M M1 m s → mj_W sx_ms (mj_R mj_tab (d + 3)) mt_X12_sentence.2.2.2.2.1 Q (mt_X12_sentence.2.2.2.2.1.drop 66) [some (.inr (.inr (some m))), x, y] [] G M1 cb sb := by
    intro M1 x y cb sb I1 X1
    refine mj_W.run (mj_R_mo _ _) 20 ?_
    refine hn_gi (fk := 16) (v := M1.1 m 16) (List.cons_ne_nil _ _) rfl rfl rfl hm rfl ?_
    refine Or.inr (fun z hz _ => ⟨rfl, (fun e => by cases e), hQ z M1 I1 X1⟩)
  -- the codes are kept
  have P28 : ∀ (M1 : mj_M) (c h o b B cb sb : Nat), hn_Q G M1 m rd sk 0 c h o b B → c ≤ 45 → hn_X G M M1 m s → mj_W sx_ms (mj_R mj_tab (d + 3)) mt_X12_sentence.2.2.2.2.1 Q (mt_X12_sentence.2.2.2.2.1.drop 28) [some (.inr (.inr (some m))), some (.inl 0), none] [] G M1 cb sb := by
    intro M1 c h o b B cb sb S1 hc X1
    have hrd : G rd = (53100, 135) := S1.1.1.2.2.1
    have hsk : G sk = (68100, 45) := S1.1.1.2.2.2.2
    have n1 : m ≠ s := hn_ne hm hs (by decide)
    have n2 : rd ≠ s := hn_ne hrd hs (by decide)
    have n3 : sk ≠ s := hn_ne hsk hs (by decide)
    refine mj_W.run (mj_R_mo _ _) 10 ?_
    refine ⟨fun _ => ?_, fun c1 => absurd rfl c1⟩
    refine hn_gr (fk := 6) (List.cons_ne_nil _ _) rfl rfl rfl hm X1.2.2.2 ?_
    refine hn_gi (fk := 53) (v := (c : Int)) (List.cons_ne_nil _ _) rfl rfl rfl hm S1.1.2.2.2.1 ?_
    refine ⟨51100, 537, hs, rfl, by decide, by show (0 : Int) ≤ (356 : Int); omega, by show (356 : Int) < ((537 : Nat) : Int); omega, ?_⟩
    have i2 : ab_Inv G (mj_p0 M1 s 356 (c : Int)) := S1.1.2.1.p0 (by
      rw [hs]
      exact ⟨by show (0 : Int) ≤ (c : Int); omega, by show (c : Int) ≤ 45; omega⟩)
    have r := r_sent_copy (d := d) (Q := Q) hs hc hQ (3 * c) 0 (mj_p0 M1 s 356 (c : Int)) cb sb (by omega) ⟨⟨S1.1.1, i2, (hn_n (Or.inl n1)).trans S1.1.2.2.1, (hn_n (Or.inl n1)).trans S1.1.2.2.2.1, S1.1.2.2.2.2.cg (fun j _ => (hn_n (Or.inl n2)).symm)⟩, (hn_n (Or.inl n1)).trans S1.2.1, (hn_n (Or.inl n1)).trans S1.2.2.1, (hn_b.cg (fun j _ => hn_n (Or.inl n3))).trans S1.2.2.2⟩ (hn_f0 X1.1 ⟨(51100, 356, 491), by decide, by rw [hs], by decide, by decide⟩) ((hn_n (Or.inl n1)).trans X1.2.1) X1.2.2.2 hn_s (fun k hk => absurd hk (by omega))
    exact r
  have P53 : ∀ (M1 : mj_M) (c h o b B cb sb : Nat), hn_Q G M1 m rd sk 0 c h o b B → c ≤ 45 → hn_X G M M1 m s → mj_W sx_ms (mj_R mj_tab (d + 3)) mt_X12_sentence.2.2.2.2.1 Q (mt_X12_sentence.2.2.2.2.1.drop 53) [some (.inr (.inr (some m))), some (.inl 1), none] [] G M1 cb sb := fun M1 c h o b B cb sb S1 hc X1 => mj_W.run (mj_R_mo _ _) 3 (P28 M1 c h o b B cb sb S1 hc X1)
  intro n
  induction n with
  | zero => intro M1 t c o b B cb sb S1 h1 h2 h3 h4 h5; omega
  | succ n ih =>
    intro M1 t c o b B cb sb S1 h1 h2 h3 h4 h5 X1
    have P56 : ∀ (M2 : mj_M) (cb sb : Nat), hn_Q G M2 m rd sk t c (B + b) o b B → hn_X G M M2 m s → mj_W sx_ms (mj_R mj_tab (d + 3)) mt_X12_sentence.2.2.2.2.1 Q (mt_X12_sentence.2.2.2.2.1.drop 56) [some (.inr (.inr (some m))), some (.inl 1), none] [] G M2 cb sb := by
      intro M2 cb sb S2 X2
      refine mj_W.run (mj_R_mo _ _) 20 ?_
      refine hn_gi (fk := 57) (v := (b : Int)) (List.cons_ne_nil _ _) rfl rfl rfl hm S2.2.2.1 ?_
      refine ⟨fun c1 => ?_, fun c1 => ?_⟩
      · have c1 : (b : Int) = 0 := c1
        have b0 : b = 0 := by omega
        subst b0
        refine ⟨List.cons_ne_nil _ _, 1012, 0, hm, rfl, Nat.le_of_ble_eq_true rfl, Nat.zero_le _, Nat.zero_le _, ?_⟩
        exact r_operand (B := B) S2 h3 (by omega) (by omega) (fun M3 i3 f3 => ⟨fun c2 => absurd rfl c2, fun _ => mj_W.stay (mj_R_mo _ _) _ (P66 M3 _ _ _ _ i3 (X2.up hm hs f3 (by decide) (by decide) (by decide) (by decide)))⟩) (fun M3 t' c' b' S3 o19 ht f3 => ⟨fun _ => mj_W.stay (mj_R_mo _ _) _ (ih M3 t' c' (o + 1) b' B _ _ S3 (by omega) (by omega) (by omega) (by omega) (by omega) (X2.up hm hs f3 (by decide) (by decide) (by decide) (by decide))), fun c2 => absurd (show (1 : Int) ≠ 0 by decide) c2⟩)
      · have c1 : ¬ (b : Int) = 0 := c1
        have b1 : b = 1 := by omega
        subst b1
        refine ⟨List.cons_ne_nil _ _, 1012, 0, hm, rfl, Nat.le_of_ble_eq_true rfl, Nat.zero_le _, Nat.zero_le _, ?_⟩
        exact r_behind (B := B) S2 h3 (by omega) (by omega) (fun M3 i3 f3 => ⟨fun c2 => absurd rfl c2, fun _ => mj_W.stay (mj_R_mo _ _) 13 (P66 M3 _ _ _ _ i3 (X2.up hm hs f3 (by decide) (by decide) (by decide) (by decide)))⟩) (fun M3 t' c' b' B' S3 ht f3 => ⟨fun _ => mj_W.stay (mj_R_mo _ _) _ (ih M3 t' c' o b' B' _ _ S3 (by omega) (by omega) (by omega) (by omega) (by omega) (X2.up hm hs f3 (by decide) (by decide) (by decide) (by decide))), fun c2 => absurd (show (1 : Int) ≠ 0 by decide) c2⟩)
    refine mj_W.run (mj_R_mo _ _) 40 ?_
    refine ⟨fun c1 => absurd (show (1 : Int) = 0 from c1) (by decide), fun _ => ?_⟩
    refine hn_gi (fk := 57) (v := (b : Int)) (List.cons_ne_nil _ _) rfl rfl rfl hm S1.2.2.1 ?_
    refine ⟨fun c1 => mj_W.stay (mj_R_mo _ _) _ (P56 M1 _ _ S1 X1), fun c1 => ?_⟩
    have c1 : ¬ (b : Int) = 0 := c1
    have b1 : b = 1 := by omega
    subst b1
    refine hn_gi (fk := 11) (v := M1.1 m 11) (List.cons_ne_nil _ _) rfl rfl rfl hm rfl ?_
    refine ⟨fun c2 => mj_W.stay (mj_R_mo _ _) _ (P56 M1 _ _ S1 X1), fun c2 => ?_⟩
    refine ⟨List.cons_ne_nil _ _, 1012, 0, hm, rfl, Nat.le_of_ble_eq_true rfl, Nat.zero_le _, Nat.zero_le _, ?_⟩
    refine r_nots (h := B + 1) (by omega) S1.1 (by omega) (fun M2 t1 c1 J2 g2 g3 f2 g5 => ?_)
    have S2 : hn_Q G M2 m rd sk t1 c1 (B + 1) o 1 B := S1.wr J2 f2 (g5.trans S1.2.2.2)
    have X2 := (X1.up hm hs f2 (by decide) (by decide) (by decide) (by decide))
    refine ⟨List.cons_ne_nil _ _, 1012, 0, hm, rfl, Nat.le_of_ble_eq_true rfl, Nat.zero_le _, Nat.zero_le _, ?_⟩
    refine r_joins (t := t1) (c := c1) (by rw [S2.2.2.2]; exact S2.1) (by omega) (fun M3 t2 c2 J3 k2 k3 f3 _ => ?_)
    have S3 : hn_Q G M3 m rd sk t2 c2 (hn_b (hn_f M2 sk) t2 + 1) o 1 (hn_b (hn_f M2 sk) t2) := S2.wr J3 f3 rfl
    have X3 := (X2.up hm hs f3 (by decide) (by decide) (by decide) (by decide))
    refine hn_gi (fk := 55) (v := (t2 : Int)) (List.cons_ne_nil _ _) rfl rfl rfl hm S3.1.2.2.1 ?_
    refine ⟨fun e => ?_, fun e => ?_⟩
    · have e : (t2 : Int) ≤ 0 := e
      have e0 : t2 = 0 := by omega
      subst e0
      exact mj_W.stay (mj_R_mo _ _) _ (P53 M3 c2 _ o 1 _ _ _ S3 (by omega) X3)
    · refine ⟨List.cons_ne_nil _ _, 1012, 0, hm, rfl, Nat.le_of_ble_eq_true rfl, Nat.zero_le _, Nat.zero_le _, ?_⟩
      refine r_bad hm S3.1.2.1 ⟨by decide, by decide⟩ (fun M4 i4 f4 => ?_)
      have X4 := (X3.up hm hs f4 (by decide) (by decide) (by decide) (by decide))
      refine hn_gi (fk := 16) (v := M4.1 m 16) (List.cons_ne_nil _ _) rfl rfl rfl hm rfl ?_
      exact Or.inr (fun z hz _ => ⟨rfl, (fun e => by cases e), hQ z M4 i4 X4⟩)
set_option maxRecDepth 100000 in
theorem r_sentence {d m s : Nat} {G : mj_G} {M : mj_M} {Q : mj_P} (hm : G m = (1012, 0)) (hs : G s = (51100, 537)) (h6 : M.2.2 m 6 = some s) (hI : ab_Inv G M) (hF : hn_F M s 356)
    (hQ : ∀ z M', ab_Inv G M' → hn_X G M M' m s → Q (some (.inl z)) G M') : mj_R mj_tab (d + 4) 239 [.inr (.inr (some m))] G M Q := by
  have n1 : m ≠ s := hn_ne hm hs (by decide)
  refine ⟨Nat.le_of_ble_eq_true rfl, mj_W.run (mj_R_mo _ _) 28 ?_⟩
  refine hn_pi (fk := 0) (List.cons_ne_nil _ _) rfl rfl rfl hm (fun q => by cases q) ?_
  have i1 : ab_Inv G (mj_p0 M m 0 0) := hI.p0 (by rw [hm]; exact ⟨by decide, by decide⟩)
  refine ⟨List.cons_ne_nil _ _, 1012, 0, hm, rfl, Nat.le_of_ble_eq_true rfl, Nat.zero_le _, Nat.zero_le _, ?_⟩
  refine r_taken hm i1 ⟨by decide, by decide⟩ (fun M2 i2 f2 e2 => ?_)
  have F2 : ab_frm hn_WX G M M2 := (hn_f0 (G := G) (M0 := M) (M := M) ab_frm.rf ⟨(1012, 0, 0), by decide, by rw [hm], by decide, by decide⟩).tr (hn_up f2 (by decide))
  have X2 : hn_X G M M2 m s := ⟨F2, e2, hF.cg (fun k _ => ((f2 s k (by rw [hs]; exact hn_nt (by decide))).1).trans (hn_n (Or.inl n1.symm))), ((f2 m 6 (by rw [hm]; exact hn_nc (by decide))).2).trans h6⟩
  refine hn_pi (fk := 15) (List.cons_ne_nil _ _) rfl rfl rfl hm (fun q => by cases q) ?_
  refine hn_pi (fk := 53) (List.cons_ne_nil _ _) rfl rfl rfl hm (fun q => by cases q) ?_
  refine hn_pi (fk := 54) (List.cons_ne_nil _ _) rfl rfl rfl hm (fun q => by cases q) ?_
  refine hn_pi (fk := 55) (List.cons_ne_nil _ _) rfl rfl rfl hm (fun q => by cases q) ?_
  refine hn_pi (fk := 56) (List.cons_ne_nil _ _) rfl rfl rfl hm (fun q => by cases q) ?_
  refine hn_pi (fk := 57) (List.cons_ne_nil _ _) rfl rfl rfl hm (fun _ => Or.inl rfl) ?_
  have i8 : ab_Inv G (mj_p0 (mj_p0 (mj_p0 (mj_p0 (mj_p0 (mj_p0 M2 m 15 0) m 53 0) m 54 0) m 55 0) m 56 1) m 57 0) := ((((((i2.p0 (by rw [hm]; exact ⟨by decide, by decide⟩)).p0 (by rw [hm]; exact ⟨by decide, by decide⟩)).p0 (by rw [hm]; exact ⟨by decide, by decide⟩)).p0 (by rw [hm]; exact ⟨by decide, by decide⟩)).p0 (by rw [hm]; exact ⟨by decide, by decide⟩)).p0 (by rw [hm]; exact ⟨by decide, by decide⟩))
  have cv : ∀ k, (k = 15 ∨ (53 ≤ k ∧ k ≤ 57)) → ab_cov [(1012, 15, 15), (1012, 53, 57)] (G m).1 k := fun k hk => by
    rw [hm]
    rcases hk with rfl | hk
    · exact ⟨(1012, 15, 15), by decide, rfl, by decide, by decide⟩
    · exact ⟨(1012, 53, 57), by decide, rfl, hk.1, hk.2⟩
  have f8 : ab_frm [(1012, 15, 15), (1012, 53, 57)] G M2 (mj_p0 (mj_p0 (mj_p0 (mj_p0 (mj_p0 (mj_p0 M2 m 15 0) m 53 0) m 54 0) m 55 0) m 56 1) m 57 0) := hn_f0 (hn_f0 (hn_f0 (hn_f0 (hn_f0 (hn_f0 ab_frm.rf (cv _ (by decide))) (cv _ (by decide))) (cv _ (by decide))) (cv _ (by decide))) (cv _ (by decide))) (cv _ (by decide))
  have X8 := X2.up hm hs f8 (by decide) (by decide) (by decide) (by decide)
  obtain ⟨rd, h8, hrd⟩ := hn_rf (k := 8) (q := (53100, 135)) i8 hm rfl (by decide) (by decide) (by decide) (fun e => absurd e (by decide))
  obtain ⟨sk, h52, hsk⟩ := hn_rf (k := 52) (q := (68100, 45)) i8 hm rfl (by decide) (by decide) (by decide) (fun e => absurd e (by decide))
  have S8 : hn_Q G (mj_p0 (mj_p0 (mj_p0 (mj_p0 (mj_p0 (mj_p0 M2 m 15 0) m 53 0) m 54 0) m 55 0) m 56 1) m 57 0) m rd sk 0 0 0 0 0 0 := by
    refine ⟨⟨⟨hm, h8, hrd, h52, hsk⟩, i8, ?_, ?_, rfl⟩, ?_, hn_s, rfl⟩
    · exact (hn_n (Or.inr (by decide))).trans ((hn_n (Or.inr (by decide))).trans hn_s)
    · exact (hn_n (Or.inr (by decide))).trans ((hn_n (Or.inr (by decide))).trans ((hn_n (Or.inr (by decide))).trans ((hn_n (Or.inr (by decide))).trans hn_s)))
    · exact (hn_n (Or.inr (by decide))).trans ((hn_n (Or.inr (by decide))).trans ((hn_n (Or.inr (by decide))).trans hn_s))
  refine ⟨List.cons_ne_nil _ _, 1012, 0, hm, rfl, Nat.le_of_ble_eq_true rfl, Nat.zero_le _, Nat.zero_le _, ?_⟩
  refine r_next hm i8 (fun M9 i9 f9 => ?_)
  have X9 := X8.up hm hs f9 (by decide) (by decide) (by decide) (by decide)
  exact r_sent_w (d := d) (rd := rd) (sk := sk) hs hm hQ 100 M9 0 0 0 0 0 _ _ (S8.fr f9 i9 (by decide)) (by decide) (by decide) (by decide) (by decide) (by decide) X9
end
section
/-! ===== by hand: isSaid and said of the reference ===== -/
abbrev hn_WV : List (Nat × Nat × Nat) := [(69102, 0, 44)]
set_option maxRecDepth 100000 in
theorem r_isSaid_w {d m s vs c N : Nat} {k : Int} {G : mj_G} {M : mj_M} {Q : mj_P} (hm : G m = (1012, 0)) (hs : G s = (51100, 537)) (hvs : G vs = (69102, 45)) (hk0 : 0 ≤ k ∧ k ≤ 7) (h6 : M.2.2 m 6 = some s) (h58 : M.2.2 m 58 = some vs) (hc : M.1 s 356 = (c : Int)) (hc1 : c ≤ 45) (hN : hn_k (fun i => M.1 s (356 + 1 + 3 * i)) c N)
    (hQ : ∀ z M', ab_Inv G M' → ab_frm hn_WV G M M' → (z = 0 ∨ z = 1) → Q (some (.inl z)) G M') : ∀ (j i n : Nat) (M1 : mj_M) (x : Option mj_V) (cb sb : Nat), i + j = c → hn_k (fun i => M.1 s (356 + 1 + 3 * i)) i n → ab_Inv G M1 → ab_frm hn_WV G M M1 → mj_W sx_ms (mj_R mj_tab (d + 2)) mt_X12_isSaid.2.2.2.2.1 Q (mt_X12_isSaid.2.2.2.2.1.drop 4) [some (.inr (.inr (some m))), some (.inl k), some (.inl (n : Int)), some (.inl (i : Int)), x] [] G M1 cb sb := by
  have ks : ∀ {M1 : mj_M}, ab_frm hn_WV G M M1 → ∀ p, M1.1 s p = M.1 s p := fun f p => (f s p (by rw [hs]; exact hn_nt (by decide))).1
  have k6 : ∀ {M1 : mj_M}, ab_frm hn_WV G M M1 → M1.2.2 m 6 = some s := fun f => (f m 6 (by rw [hm]; exact hn_nc (by decide))).2.trans h6
  have k58 : ∀ {M1 : mj_M}, ab_frm hn_WV G M M1 → M1.2.2 m 58 = some vs := fun f => (f m 58 (by rw [hm]; exact hn_nc (by decide))).2.trans h58
  have iv : ∀ {M1 : mj_M} {p : Nat} {z : Int}, ab_Inv G M1 → (z = 0 ∨ z = 1) → ab_Inv G (mj_p0 M1 vs p z) := fun {M1 p z} h hz => h.p0 (by
    rw [hvs]
    rcases hz with rfl | rfl
    · exact ⟨(by decide : (0 : Int) ≤ 0), (by decide : (0 : Int) ≤ 1)⟩
    · exact ⟨(by decide : (0 : Int) ≤ 1), (by decide : (1 : Int) ≤ 1)⟩)
  have fv : ∀ {M1 : mj_M} {p : Nat} {z : Int}, ab_frm hn_WV G M M1 → p ≤ 44 → ab_frm hn_WV G M (mj_p0 M1 vs p z) := fun {M1 p z} h hp => hn_f0 h ⟨(69102, 0, 44), by decide, by rw [hvs], Nat.zero_le _, hp⟩
  intro j
  induction j with
  | zero =>
    intro i n M1 x cb sb hi hn I1 F1
    refine mj_W.run (mj_R_mo _ _) 20 ?_
    refine hn_gr (fk := 6) (List.cons_ne_nil _ _) rfl rfl rfl hm (k6 F1) ?_
    refine ⟨51100, 537, hs, rfl, by show (0 : Int) ≤ (356 : Int); omega, by show (356 : Int) < ((537 : Nat) : Int); omega, ?_⟩
    refine ⟨fun c1 => ?_, fun c1 => absurd (show M1.1 s 356 ≤ (i : Int) by rw [ks F1, hc]; omega) c1⟩
    refine hn_gr (fk := 58) (List.cons_ne_nil _ _) rfl rfl rfl hm (k58 F1) ?_
    refine Or.inr ⟨69102, 45, hvs, rfl, by show (0 : Int) ≤ (0 : Int); omega, by show (0 : Int) < ((45 : Nat) : Int); omega, ?_⟩
    have r := I1.1 vs 0
    rw [hvs] at r
    have r : (0 : Int) ≤ M1.1 vs 0 ∧ M1.1 vs 0 ≤ 1 := r
    have r2 : M1.1 vs 0 = 0 ∨ M1.1 vs 0 = 1 := by omega
    exact ⟨rfl, fun _ => r2, hQ _ M1 I1 F1 r2⟩
  | succ j ih =>
    intro i n M1 x cb sb hi hn I1 F1
    obtain ⟨n2, n0, hn0, hst⟩ : ∃ n2, hn_k (fun i => M.1 s (356 + 1 + 3 * i)) (i + 1) n2 := hn_k.pre (j := j) (i := i + 1) (by rw [show i + 1 + j = c by omega]; exact hN)
    have en := hn0.fn hn
    subst en
    have hle := hn0.le
    have hst : (M.1 s (356 + 1 + 3 * i) = 10 ∧ 1 ≤ n0 ∧ n2 = n0) ∨ ((M.1 s (356 + 1 + 3 * i) = 11 ∨ M.1 s (356 + 1 + 3 * i) = 12) ∧ 2 ≤ n0 ∧ n2 + 1 = n0) ∨ (M.1 s (356 + 1 + 3 * i) ≠ 10 ∧ M.1 s (356 + 1 + 3 * i) ≠ 11 ∧ M.1 s (356 + 1 + 3 * i) ≠ 12 ∧ n2 = n0 + 1) := hst
    have hn2 : hn_k (fun i => M.1 s (356 + 1 + 3 * i)) (i + 1) n2 := ⟨n0, hn0, hst⟩
    have ti : ((357 : Int) + 3 * (i : Int)).toNat = 356 + 1 + 3 * i := by omega
    have P120 : ∀ (M2 : mj_M) (nz : Int) (y : Option mj_V) (cb sb : Nat), nz = (n2 : Int) → ab_Inv G M2 → ab_frm hn_WV G M M2 → mj_W sx_ms (mj_R mj_tab (d + 2)) mt_X12_isSaid.2.2.2.2.1 Q (mt_X12_isSaid.2.2.2.2.1.drop 120) [some (.inr (.inr (some m))), some (.inl k), some (.inl nz), some (.inl (i : Int)), y] [] G M2 cb sb := by
      intro M2 nz y cb sb e I2 F2
      subst e
      refine mj_W.run (mj_R_mo _ _) 2 ?_
      refine Or.inl ⟨⟨by show (-2147483648 : Int) ≤ (i : Int) + 1; omega, by show (i : Int) + 1 < (2147483648 : Int); omega⟩, ?_⟩
      exact ih (i + 1) n2 M2 y cb sb (by omega) hn2 I2 F2
    have P37 : ∀ (z : Int) (cb sb : Nat), (z = 0 ∨ z = 1) → 1 ≤ n0 → n2 = n0 → mj_W sx_ms (mj_R mj_tab (d + 2)) mt_X12_isSaid.2.2.2.2.1 Q (mt_X12_isSaid.2.2.2.2.1.drop 37) [some (.inr (.inr (some m))), some (.inl k), some (.inl (n0 : Int)), some (.inl (i : Int)), some (.inl ((357 : Int) + 3 * (i : Int)))] [.inl z, .inl ((n0 : Int) - 1), .inr (.inr (some vs))] G M1 cb sb := by
      intro z cb sb hz h1 h2
      refine mj_W.run (mj_R_mo _ _) 2 ?_
      refine Or.inr ⟨hz, ⟨69102, 45, hvs, rfl, by decide, by show (0 : Int) ≤ (n0 : Int) - 1; omega, by show (n0 : Int) - 1 < ((45 : Nat) : Int); omega, ?_⟩⟩
      exact P120 _ _ _ _ _ (by omega) (iv I1 hz) (fv F1 (by show ((n0 : Int) - 1).toNat ≤ 44; omega))
    have P94 : ∀ (z nz : Int) (cb sb : Nat), (z = 0 ∨ z = 1) → nz = (n2 : Int) → 2 ≤ n0 → n2 + 1 = n0 → mj_W sx_ms (mj_R mj_tab (d + 2)) mt_X12_isSaid.2.2.2.2.1 Q (mt_X12_isSaid.2.2.2.2.1.drop 94) [some (.inr (.inr (some m))), some (.inl k), some (.inl nz), some (.inl (i : Int)), some (.inl ((357 : Int) + 3 * (i : Int)))] [.inl z, .inl (nz - 1), .inr (.inr (some vs))] G M1 cb sb := by
      intro z nz cb sb hz e h1 h2
      subst e
      refine mj_W.run (mj_R_mo _ _) 2 ?_
      refine Or.inr ⟨hz, ⟨69102, 45, hvs, rfl, by decide, by show (0 : Int) ≤ (n2 : Int) - 1; omega, by show (n2 : Int) - 1 < ((45 : Nat) : Int); omega, ?_⟩⟩
      exact P120 _ _ _ _ _ rfl (iv I1 hz) (fv F1 (by show ((n2 : Int) - 1).toNat ≤ 44; omega))
    have P51 : (M.1 s (356 + 1 + 3 * i) = 11 ∨ M.1 s (356 + 1 + 3 * i) = 12) → ∀ cb sb : Nat, mj_W sx_ms (mj_R mj_tab (d + 2)) mt_X12_isSaid.2.2.2.2.1 Q (mt_X12_isSaid.2.2.2.2.1.drop 51) [some (.inr (.inr (some m))), some (.inl k), some (.inl (n0 : Int)), some (.inl (i : Int)), some (.inl ((357 : Int) + 3 * (i : Int)))] [] G M1 cb sb := by
      intro hb cb sb
      have h1 : 2 ≤ n0 ∧ n2 + 1 = n0 := by omega
      have e0 : (n0 : Int) + -1 = (n2 : Int) := by omega
      refine mj_W.run (mj_R_mo _ _) 44 ?_
      refine Or.inl ⟨⟨by show (-2147483648 : Int) ≤ (n0 : Int) + -1; omega, by show (n0 : Int) + -1 < (2147483648 : Int); omega⟩, ?_⟩
      refine hn_gr (fk := 58) (List.cons_ne_nil _ _) rfl rfl rfl hm (k58 F1) ?_
      refine Or.inl ⟨⟨by show (-2147483648 : Int) ≤ (n0 : Int) + -1 - 1; omega, by show (n0 : Int) + -1 - 1 < (2147483648 : Int); omega⟩, ?_⟩
      refine hn_gr (fk := 6) (List.cons_ne_nil _ _) rfl rfl rfl hm (k6 F1) ?_
      refine ⟨51100, 537, hs, rfl, by show (0 : Int) ≤ (357 : Int) + 3 * (i : Int); omega, by show (357 : Int) + 3 * (i : Int) < ((537 : Nat) : Int); omega, ?_⟩
      refine ⟨fun _ => ?_, fun _ => ?_⟩
      · refine hn_gr (fk := 58) (List.cons_ne_nil _ _) rfl rfl rfl hm (k58 F1) ?_
        refine Or.inl ⟨⟨by show (-2147483648 : Int) ≤ (n0 : Int) + -1 - 1; omega, by show (n0 : Int) + -1 - 1 < (2147483648 : Int); omega⟩, ?_⟩
        refine Or.inr ⟨69102, 45, hvs, rfl, by show (0 : Int) ≤ (n0 : Int) + -1 - 1; omega, by show (n0 : Int) + -1 - 1 < ((45 : Nat) : Int); omega, ?_⟩
        refine ⟨fun _ => mj_W.stay (mj_R_mo _ _) 23 (P94 1 _ _ _ (Or.inr rfl) e0 h1.1 h1.2), fun _ => ?_⟩
        refine hn_gr (fk := 58) (List.cons_ne_nil _ _) rfl rfl rfl hm (k58 F1) ?_
        refine Or.inr ⟨69102, 45, hvs, rfl, by show (0 : Int) ≤ (n0 : Int) + -1; omega, by show (n0 : Int) + -1 < ((45 : Nat) : Int); omega, ?_⟩
        exact ⟨fun _ => mj_W.stay (mj_R_mo _ _) 19 (P94 0 _ _ _ (Or.inl rfl) e0 h1.1 h1.2), fun _ => mj_W.stay (mj_R_mo _ _) 18 (P94 1 _ _ _ (Or.inr rfl) e0 h1.1 h1.2)⟩
      · refine hn_gr (fk := 58) (List.cons_ne_nil _ _) rfl rfl rfl hm (k58 F1) ?_
        refine Or.inl ⟨⟨by show (-2147483648 : Int) ≤ (n0 : Int) + -1 - 1; omega, by show (n0 : Int) + -1 - 1 < (2147483648 : Int); omega⟩, ?_⟩
        refine Or.inr ⟨69102, 45, hvs, rfl, by show (0 : Int) ≤ (n0 : Int) + -1 - 1; omega, by show (n0 : Int) + -1 - 1 < ((45 : Nat) : Int); omega, ?_⟩
        refine ⟨fun _ => mj_W.stay (mj_R_mo _ _) 23 (P94 0 _ _ _ (Or.inl rfl) e0 h1.1 h1.2), fun _ => ?_⟩
        refine hn_gr (fk := 58) (List.cons_ne_nil _ _) rfl rfl rfl hm (k58 F1) ?_
        refine Or.inr ⟨69102, 45, hvs, rfl, by show (0 : Int) ≤ (n0 : Int) + -1; omega, by show (n0 : Int) + -1 < ((45 : Nat) : Int); omega, ?_⟩
        exact ⟨fun _ => mj_W.stay (mj_R_mo _ _) 18 (P94 0 _ _ _ (Or.inl rfl) e0 h1.1 h1.2), fun _ => mj_W.stay (mj_R_mo _ _) 18 (P94 1 _ _ _ (Or.inr rfl) e0 h1.1 h1.2)⟩
    have P96 : (M.1 s (356 + 1 + 3 * i) ≠ 10 ∧ M.1 s (356 + 1 + 3 * i) ≠ 11 ∧ M.1 s (356 + 1 + 3 * i) ≠ 12) → ∀ cb sb : Nat, mj_W sx_ms (mj_R mj_tab (d + 2)) mt_X12_isSaid.2.2.2.2.1 Q (mt_X12_isSaid.2.2.2.2.1.drop 96) [some (.inr (.inr (some m))), some (.inl k), some (.inl (n0 : Int)), some (.inl (i : Int)), some (.inl ((357 : Int) + 3 * (i : Int)))] [] G M1 cb sb := by
      intro hb cb sb
      have h1 : n2 = n0 + 1 := by omega
      refine mj_W.run (mj_R_mo _ _) 24 ?_
      refine hn_gr (fk := 58) (List.cons_ne_nil _ _) rfl rfl rfl hm (k58 F1) ?_
      refine hn_gr (fk := 6) (List.cons_ne_nil _ _) rfl rfl rfl hm (k6 F1) ?_
      refine ⟨51100, 537, hs, rfl, by show (0 : Int) ≤ (357 : Int) + 3 * (i : Int); omega, by show (357 : Int) + 3 * (i : Int) < ((537 : Nat) : Int); omega, ?_⟩
      refine hn_gr (fk := 6) (List.cons_ne_nil _ _) rfl rfl rfl hm (k6 F1) ?_
      refine Or.inl ⟨⟨by show (-2147483648 : Int) ≤ (357 : Int) + 3 * (i : Int) + 1; omega, by show (357 : Int) + 3 * (i : Int) + 1 < (2147483648 : Int); omega⟩, ?_⟩
      refine ⟨51100, 537, hs, rfl, by show (0 : Int) ≤ (357 : Int) + 3 * (i : Int) + 1; omega, by show (357 : Int) + 3 * (i : Int) + 1 < ((537 : Nat) : Int); omega, ?_⟩
      refine hn_gr (fk := 6) (List.cons_ne_nil _ _) rfl rfl rfl hm (k6 F1) ?_
      refine Or.inl ⟨⟨by show (-2147483648 : Int) ≤ (357 : Int) + 3 * (i : Int) + 2; omega, by show (357 : Int) + 3 * (i : Int) + 2 < (2147483648 : Int); omega⟩, ?_⟩
      refine ⟨51100, 537, hs, rfl, by show (0 : Int) ≤ (357 : Int) + 3 * (i : Int) + 2; omega, by show (357 : Int) + 3 * (i : Int) + 2 < ((537 : Nat) : Int); omega, ?_⟩
      refine ⟨List.cons_ne_nil _ _, 1012, 0, hm, rfl, Nat.le_of_ble_eq_true rfl, Nat.zero_le _, Nat.zero_le _, ?_⟩
      refine r_isLeaf hm I1 hk0 (I1.mj _ _) (I1.mj _ _) (I1.mj _ _) (fun M2 z I2 f2 hz => ?_)
      have F2 : ab_frm hn_WV G M M2 := F1.tr (hn_up f2 (by decide))
      refine Or.inr ⟨hz, ⟨69102, 45, hvs, rfl, by decide, by show (0 : Int) ≤ (n0 : Int); omega, by show (n0 : Int) < ((45 : Nat) : Int); omega, ?_⟩⟩
      refine Or.inl ⟨⟨by show (-2147483648 : Int) ≤ (n0 : Int) + 1; omega, by show (n0 : Int) + 1 < (2147483648 : Int); omega⟩, ?_⟩
      exact P120 _ _ _ _ _ (by show (n0 : Int) + 1 = _; omega) (iv I2 hz) (fv F2 (by show ((n0 : Int)).toNat ≤ 44; omega))
    refine mj_W.run (mj_R_mo _ _) 60 ?_
    refine hn_gr (fk := 6) (List.cons_ne_nil _ _) rfl rfl rfl hm (k6 F1) ?_
    refine ⟨51100, 537, hs, rfl, by show (0 : Int) ≤ (356 : Int); omega, by show (356 : Int) < ((537 : Nat) : Int); omega, ?_⟩
    refine ⟨fun c1 => absurd (show M1.1 s 356 ≤ (i : Int) from c1) (by rw [ks F1, hc]; omega), fun c1 => ?_⟩
    refine Or.inl ⟨⟨by show (-2147483648 : Int) ≤ 3 * (i : Int); omega, by show 3 * (i : Int) < (2147483648 : Int); omega⟩, ?_⟩
    refine Or.inl ⟨⟨by show (-2147483648 : Int) ≤ (357 : Int) + 3 * (i : Int); omega, by show (357 : Int) + 3 * (i : Int) < (2147483648 : Int); omega⟩, ?_⟩
    refine hn_gr (fk := 6) (List.cons_ne_nil _ _) rfl rfl rfl hm (k6 F1) ?_
    refine ⟨51100, 537, hs, rfl, by show (0 : Int) ≤ (357 : Int) + 3 * (i : Int); omega, by show (357 : Int) + 3 * (i : Int) < ((537 : Nat) : Int); omega, ?_⟩
    refine ⟨fun c2 => ?_, fun c2 => ?_⟩
    · have c2 : M.1 s (356 + 1 + 3 * i) ≠ 10 := by
        have c2 : M1.1 s ((357 : Int) + 3 * (i : Int)).toNat ≠ 10 := c2
        rw [ti, ks F1] at c2
        exact c2
      refine hn_gr (fk := 6) (List.cons_ne_nil _ _) rfl rfl rfl hm (k6 F1) ?_
      refine ⟨51100, 537, hs, rfl, by show (0 : Int) ≤ (357 : Int) + 3 * (i : Int); omega, by show (357 : Int) + 3 * (i : Int) < ((537 : Nat) : Int); omega, ?_⟩
      refine ⟨fun c3 => mj_W.stay (mj_R_mo _ _) _ (P51 (Or.inl (by
        have c3 : M1.1 s ((357 : Int) + 3 * (i : Int)).toNat = 11 := c3
        rw [ti, ks F1] at c3
        exact c3)) _ _), fun c3 => ?_⟩
      have c3 : M.1 s (356 + 1 + 3 * i) ≠ 11 := by
        have c3 : ¬ M1.1 s ((357 : Int) + 3 * (i : Int)).toNat = 11 := c3
        rw [ti, ks F1] at c3
        exact c3
      refine hn_gr (fk := 6) (List.cons_ne_nil _ _) rfl rfl rfl hm (k6 F1) ?_
      refine ⟨51100, 537, hs, rfl, by show (0 : Int) ≤ (357 : Int) + 3 * (i : Int); omega, by show (357 : Int) + 3 * (i : Int) < ((537 : Nat) : Int); omega, ?_⟩
      refine ⟨fun c4 => mj_W.stay (mj_R_mo _ _) _ (P96 ⟨c2, c3, by
        have c4 : M1.1 s ((357 : Int) + 3 * (i : Int)).toNat ≠ 12 := c4
        rw [ti, ks F1] at c4
        exact c4⟩ _ _), fun c4 => mj_W.stay (mj_R_mo _ _) _ (P51 (Or.inr (by
        have c4 : ¬ M1.1 s ((357 : Int) + 3 * (i : Int)).toNat ≠ 12 := c4
        rw [ti, ks F1] at c4
        omega)) _ _)⟩
    · have c2 : M.1 s (356 + 1 + 3 * i) = 10 := by
        have c2 : ¬ M1.1 s ((357 : Int) + 3 * (i : Int)).toNat ≠ 10 := c2
        rw [ti, ks F1] at c2
        omega
      have h1 : 1 ≤ n0 ∧ n2 = n0 := by omega
      refine hn_gr (fk := 58) (List.cons_ne_nil _ _) rfl rfl rfl hm (k58 F1) ?_
      refine Or.inl ⟨⟨by show (-2147483648 : Int) ≤ (n0 : Int) - 1; omega, by show (n0 : Int) - 1 < (2147483648 : Int); omega⟩, ?_⟩
      refine hn_gr (fk := 58) (List.cons_ne_nil _ _) rfl rfl rfl hm (k58 F1) ?_
      refine Or.inl ⟨⟨by show (-2147483648 : Int) ≤ (n0 : Int) - 1; omega, by show (n0 : Int) - 1 < (2147483648 : Int); omega⟩, ?_⟩
      refine Or.inr ⟨69102, 45, hvs, rfl, by show (0 : Int) ≤ (n0 : Int) - 1; omega, by show (n0 : Int) - 1 < ((45 : Nat) : Int); omega, ?_⟩
      exact ⟨fun _ => mj_W.stay (mj_R_mo _ _) 29 (P37 0 _ _ (Or.inl rfl) h1.1 h1.2), fun _ => mj_W.stay (mj_R_mo _ _) 28 (P37 1 _ _ (Or.inr rfl) h1.1 h1.2)⟩
set_option maxRecDepth 100000 in
theorem r_isSaid {d m s : Nat} {k : Int} {G : mj_G} {M : mj_M} {Q : mj_P} (hm : G m = (1012, 0)) (hs : G s = (51100, 537)) (h6 : M.2.2 m 6 = some s) (hI : ab_Inv G M) (hF : hn_F M s 356) (hk0 : 0 ≤ k ∧ k ≤ 7)
    (hQ : ∀ z M', ab_Inv G M' → ab_frm hn_WV G M M' → (z = 0 ∨ z = 1) → Q (some (.inl z)) G M') : mj_R mj_tab (d + 3) 202 [.inr (.inr (some m)), .inl k] G M Q := by
  obtain ⟨vs, h58, hvs⟩ := hn_rf (k := 58) (q := (69102, 45)) hI hm rfl (by decide) (by decide) (by decide) (fun e => absurd e (by decide))
  obtain ⟨c, N, h1, h2⟩ := hF
  have hc : (c : Int) ≤ 45 := by
    have := (hI.1 s 356).2
    rw [hs, h1] at this
    exact this
  refine ⟨Nat.le_of_ble_eq_true rfl, mj_W.run (mj_R_mo _ _) 4 ?_⟩
  exact r_isSaid_w (d := d) hm hs hvs hk0 h6 h58 h1 (by omega) h2 hQ c 0 0 M none _ _ (by omega) rfl hI ab_frm.rf
end
section
/-! ===== by hand: said of the reference ===== -/
abbrev hn_WD : List (Nat × Nat × Nat) := [(1012, 0, 0), (69102, 0, 44)]
set_option maxRecDepth 100000 in
theorem r_said_w {d m s : Nat} {k : Int} {G : mj_G} {M : mj_M} {Q : mj_P} (hm : G m = (1012, 0)) (hs : G s = (51100, 537)) (h6 : M.2.2 m 6 = some s) (hF : hn_F M s 356)
    (hQ : ∀ z M', ab_Inv G M' → ab_frm hn_WD G M M' → Q (some (.inl z)) G M') : ∀ (j i : Nat) (n : Int) (M1 : mj_M) (cb sb : Nat), i + j = 8 → ab_Inv G M1 → ab_frm hn_WD G M M1 → mj_W sx_ms (mj_R mj_tab (d + 3)) mt_X12_said.2.2.2.2.1 Q (mt_X12_said.2.2.2.2.1.drop 22) [some (.inr (.inr (some m))), some (.inl k), some (.inl n), some (.inl (i : Int))] [] G M1 cb sb := by
  have ks : ∀ {M1 : mj_M}, ab_frm hn_WD G M M1 → ∀ p, M1.1 s p = M.1 s p := fun f p => (f s p (by rw [hs]; exact hn_nt (by decide))).1
  have k6 : ∀ {M1 : mj_M}, ab_frm hn_WD G M M1 → M1.2.2 m 6 = some s := fun f => (f m 6 (by rw [hm]; exact hn_nc (by decide))).2.trans h6
  have P41 : ∀ (i n : Int) (M1 : mj_M) (cb sb : Nat), ab_Inv G M1 → ab_frm hn_WD G M M1 → mj_W sx_ms (mj_R mj_tab (d + 3)) mt_X12_said.2.2.2.2.1 Q (mt_X12_said.2.2.2.2.1.drop 41) [some (.inr (.inr (some m))), some (.inl k), some (.inl n), some (.inl i)] [] G M1 cb sb := by
    intro i n M1 cb sb I1 F1
    refine mj_W.run (mj_R_mo _ _) 10 ?_
    exact ⟨fun _ => ⟨rfl, (fun e => by cases e), hQ _ M1 I1 F1⟩, fun _ => ⟨rfl, (fun e => by cases e), hQ _ M1 I1 F1⟩⟩
  intro j
  induction j with
  | zero =>
    intro i n M1 cb sb hi I1 F1
    refine mj_W.run (mj_R_mo _ _) 10 ?_
    refine hn_gr (fk := 6) (List.cons_ne_nil _ _) rfl rfl rfl hm (k6 F1) ?_
    refine ⟨51100, 537, hs, rfl, by show (0 : Int) ≤ (0 : Int); omega, by show (0 : Int) < ((537 : Nat) : Int); omega, ?_⟩
    have r := (I1.1 s 0).2
    rw [hs] at r
    have r : M1.1 s 0 ≤ 8 := r
    refine ⟨fun c1 => mj_W.stay (mj_R_mo _ _) _ (P41 _ _ _ _ _ I1 F1), fun c1 => absurd (show M1.1 s 0 ≤ (i : Int) by omega) c1⟩
  | succ j ih =>
    intro i n M1 cb sb hi I1 F1
    have P39 : ∀ (n : Int) (M2 : mj_M) (cb sb : Nat), ab_Inv G M2 → ab_frm hn_WD G M M2 → mj_W sx_ms (mj_R mj_tab (d + 3)) mt_X12_said.2.2.2.2.1 Q (mt_X12_said.2.2.2.2.1.drop 39) [some (.inr (.inr (some m))), some (.inl k), some (.inl n), some (.inl (i : Int))] [] G M2 cb sb := by
      intro n M2 cb sb I2 F2
      refine mj_W.run (mj_R_mo _ _) 2 ?_
      refine Or.inl ⟨⟨by show (-2147483648 : Int) ≤ (i : Int) + 1; omega, by show (i : Int) + 1 < (2147483648 : Int); omega⟩, ?_⟩
      exact ih (i + 1) n M2 cb sb (by omega) I2 F2
    refine mj_W.run (mj_R_mo _ _) 30 ?_
    refine hn_gr (fk := 6) (List.cons_ne_nil _ _) rfl rfl rfl hm (k6 F1) ?_
    refine ⟨51100, 537, hs, rfl, by show (0 : Int) ≤ (0 : Int); omega, by show (0 : Int) < ((537 : Nat) : Int); omega, ?_⟩
    refine ⟨fun c1 => mj_W.stay (mj_R_mo _ _) _ (P41 _ _ _ _ _ I1 F1), fun c1 => ?_⟩
    refine ⟨List.cons_ne_nil _ _, 1012, 0, hm, rfl, Nat.le_of_ble_eq_true rfl, Nat.zero_le _, Nat.zero_le _, ?_⟩
    refine r_isSaid hm hs (k6 F1) I1 (hF.cg (fun p _ => ks F1 p)) ⟨by omega, by omega⟩ (fun z M2 I2 f2 hz => ?_)
    have F2 : ab_frm hn_WD G M M2 := F1.tr (hn_up f2 (by decide))
    refine ⟨fun _ => ⟨fun _ => ?_, fun _ => ⟨rfl, (fun e => by cases e), hQ _ M2 I2 F2⟩⟩, fun _ => mj_W.stay (mj_R_mo _ _) 19 (P39 _ M2 _ _ I2 F2)⟩
    exact Or.inr (fun q _ _ => mj_W.stay (mj_R_mo _ _) _ (P39 q M2 _ _ I2 F2))
set_option maxRecDepth 100000 in
theorem r_said {d m s : Nat} {k : Int} {G : mj_G} {M : mj_M} {Q : mj_P} (hm : G m = (1012, 0)) (hs : G s = (51100, 537)) (h6 : M.2.2 m 6 = some s) (hI : ab_Inv G M) (hF : hn_F M s 356)
    (hQ : ∀ z M', ab_Inv G M' → ab_frm hn_WD G M M' → Q (some (.inl z)) G M') : mj_R mj_tab (d + 4) 238 [.inr (.inr (some m)), .inl k] G M Q := by
  have n1 : m ≠ s := hn_ne hm hs (by decide)
  have i1 : ab_Inv G (mj_p0 M m 0 0) := hI.p0 (by rw [hm]; exact ⟨by decide, by decide⟩)
  have F1 : ab_frm hn_WD G M (mj_p0 M m 0 0) := hn_f0 ab_frm.rf ⟨(1012, 0, 0), by decide, by rw [hm], by decide, by decide⟩
  have P16 : ∀ cb sb : Nat, mj_W sx_ms (mj_R mj_tab (d + 3)) mt_X12_said.2.2.2.2.1 Q (mt_X12_said.2.2.2.2.1.drop 16) [some (.inr (.inr (some m))), some (.inl k), none, none] [] G (mj_p0 M m 0 0) cb sb := by
    intro cb sb
    refine mj_W.run (mj_R_mo _ _) 3 ?_
    exact ⟨rfl, (fun e => by cases e), hQ _ _ i1 F1⟩
  have P18 : ∀ cb sb : Nat, mj_W sx_ms (mj_R mj_tab (d + 3)) mt_X12_said.2.2.2.2.1 Q (mt_X12_said.2.2.2.2.1.drop 18) [some (.inr (.inr (some m))), some (.inl k), none, none] [] G (mj_p0 M m 0 0) cb sb := by
    intro cb sb
    refine mj_W.run (mj_R_mo _ _) 4 ?_
    exact r_said_w (d := d) hm hs h6 hF hQ 8 0 0 _ cb sb rfl i1 F1
  refine ⟨Nat.le_of_ble_eq_true rfl, mj_W.run (mj_R_mo _ _) 20 ?_⟩
  refine hn_pi (fk := 0) (List.cons_ne_nil _ _) rfl rfl rfl hm (fun q => by cases q) ?_
  refine hn_gr (fk := 6) (List.cons_ne_nil _ _) rfl rfl rfl hm h6 ?_
  refine ⟨51100, 537, hs, rfl, by show (0 : Int) ≤ (356 : Int); omega, by show (356 : Int) < ((537 : Nat) : Int); omega, ?_⟩
  refine ⟨fun _ => mj_W.stay (mj_R_mo _ _) _ (P16 _ _), fun _ => ?_⟩
  refine hn_gr (fk := 6) (List.cons_ne_nil _ _) rfl rfl rfl hm h6 ?_
  refine ⟨51100, 537, hs, rfl, by show (0 : Int) ≤ (221 : Int); omega, by show (221 : Int) < ((537 : Nat) : Int); omega, ?_⟩
  exact ⟨fun _ => mj_W.stay (mj_R_mo _ _) _ (P16 _ _), fun _ => ⟨fun _ => mj_W.stay (mj_R_mo _ _) _ (P18 _ _), fun _ => mj_W.stay (mj_R_mo _ _) _ (P16 _ _)⟩⟩
end
section
/-! ===== by hand: image and restore of the reference ===== -/
theorem r_isIn {d : Nat} {v lo hi : Int} {G : mj_G} {M : mj_M} {Q : mj_P} (h1 : lo ≤ v → v ≤ hi → Q (some (.inl 1)) G M) (h2 : ¬ (lo ≤ v ∧ v ≤ hi) → Q (some (.inl 0)) G M) : mj_R mj_tab (d + 1) 198 [.inl v, .inl lo, .inl hi] G M Q := by
  refine ⟨Nat.le_of_ble_eq_true rfl, mj_W.run (mj_R_mo _ _) 20 ?_⟩
  refine ⟨fun c1 => ⟨rfl, fun _ => Or.inl rfl, h2 (fun e => ?_)⟩, fun c1 => ⟨fun c2 => ⟨rfl, fun _ => Or.inl rfl, h2 (fun e => ?_)⟩, fun c2 => ⟨rfl, fun _ => Or.inr rfl, h1 (Int.not_lt.mp c1) (Int.not_lt.mp c2)⟩⟩⟩
  · have c1 : v < lo := c1
    omega
  · have c2 : hi < v := c2
    omega
theorem hn_rk0 (p : Nat) : ab_rg 70100 p = cond (Nat.blt (Nat.mod p 538) 537) (ab_s (Nat.mod p 538)) ab_ii := by
  have ct : ∀ (x y : Int × Int), cond true x y = x := fun _ _ => rfl
  have cf : ∀ (x y : Int × Int), cond false x y = y := fun _ _ => rfl
  unfold ab_rg
  rw [show ab_per 70100 = true by decide, ct]
  unfold ab_rgp
  rw [show (Nat.beq 70100 51100 || Nat.beq 70100 52100) = false by decide, cf, show Nat.beq 70100 64100 = false by decide, cf, show Nat.beq 70100 70100 = true by decide, ct]
theorem hn_rk {k i : Nat} (hk : k ≤ 1) (hi : i < 537) : ab_rg 70100 (538 * k + i) = ab_s i := by
  rw [hn_rk0]
  have e : Nat.mod (538 * k + i) 538 = i := by
    show (538 * k + i) % 538 = i
    omega
  rw [e]
  have e2 : Nat.blt i 537 = true := Nat.ble_eq_true_of_le hi
  rw [e2]
  exact (fun (x y : Int × Int) => (rfl : cond true x y = x)) _ _
theorem hn_rk2 {k : Nat} (hk : k ≤ 1) : ab_rg 70100 (538 * k + 537) = ab_ii := by
  rw [hn_rk0]
  have e : Nat.mod (538 * k + 537) 538 = 537 := by
    show (538 * k + 537) % 538 = 537
    omega
  rw [e, show Nat.blt 537 537 = false by decide]
  exact (fun (x y : Int × Int) => (rfl : cond false x y = y)) _ _
/-- i ints of b, from off on, are copied to a, from base on -/
def hn_C (G : mj_G) (M0 M1 : mj_M) (a b base off i : Nat) : Prop := ab_Inv G M1 ∧ M1.2 = M0.2 ∧ (∀ x q, x ≠ a → M1.1 x q = M0.1 x q) ∧ (∀ q, q < base ∨ base + i ≤ q → M1.1 a q = M0.1 a q) ∧ ∀ p, p < i → M1.1 a (base + p) = M0.1 b (off + p)
theorem hn_C.st {G : mj_G} {M0 M1 : mj_M} {a b base off i : Nat} (h : hn_C G M0 M1 a b base off i) (hr : (ab_rg (G a).1 (base + i)).1 ≤ M0.1 b (off + i) ∧ M0.1 b (off + i) ≤ (ab_rg (G a).1 (base + i)).2) : hn_C G M0 (mj_p0 M1 a (base + i) (M0.1 b (off + i))) a b base off (i + 1) := by
  obtain ⟨h1, h2, h3, h4, h5⟩ := h
  refine ⟨h1.p0 hr, h2, fun x q hx => (hn_n (Or.inl hx)).trans (h3 x q hx), fun q hq => (hn_n (Or.inr (by omega))).trans (h4 q (by omega)), fun p hp => ?_⟩
  by_cases e : p = i
  · subst e; exact hn_s
  · exact (hn_n (Or.inr (by omega))).trans (h5 p (by omega))
theorem hn_L {G : mj_G} {M M' : mj_M} (h : ab_Inv G M) (e1 : M'.1 = M.1) (e2 : M'.2.2 = M.2.2) (e5 : ∀ a k, (G a).1 = 55103 → M'.2.1 a k = M.2.1 a k) : ab_Inv G M' := by
  unfold ab_Inv at h ⊢
  rw [e1, e2]
  exact ⟨h.1, h.2.1, h.2.2.1, h.2.2.2.1, fun a k ha hk => (e5 a k ha).trans (h.2.2.2.2 a k ha hk)⟩
abbrev hn_WI : List (Nat × Nat × Nat) := [(1012, 0, 0), (70100, 0, 1075), (72102, 0, 1)]
abbrev hn_WR : List (Nat × Nat × Nat) := [(1012, 0, 0), (1012, 25, 25), (1012, 28, 28), (51100, 0, 536)]
set_option maxRecDepth 100000 in
theorem r_image_1 {d m s kp k : Nat} {G : mj_G} {M0 : mj_M} {Q : mj_P} (hm : G m = (1012, 0)) (hs : G s = (51100, 537)) (hkp : G kp = (70100, 1076)) (h6 : M0.2.2 m 6 = some s) (h59 : M0.2.2 m 59 = some kp) (hk : k ≤ 1) (hI : ab_Inv G M0)
    (hK : ∀ M2 cb sb, hn_C G M0 M2 kp s (538 * k) 0 537 → mj_W sx_ms (mj_R mj_tab (d + 1)) mt_X12_image.2.2.2.2.1 Q (mt_X12_image.2.2.2.2.1.drop 29) [some (.inr (.inr (some m))), some (.inl (k : Int)), some (.inl ((537 : Nat) : Int))] [] G M2 cb sb) : ∀ (j i : Nat) (M1 : mj_M) (cb sb : Nat), i + j = 537 → hn_C G M0 M1 kp s (538 * k) 0 i → mj_W sx_ms (mj_R mj_tab (d + 1)) mt_X12_image.2.2.2.2.1 Q (mt_X12_image.2.2.2.2.1.drop 12) [some (.inr (.inr (some m))), some (.inl (k : Int)), some (.inl (i : Int))] [] G M1 cb sb := by
  have n1 : s ≠ kp := hn_ne hs hkp (by decide)
  intro j
  induction j with
  | zero =>
    intro i M1 cb sb hi C1
    have hi : i = 537 := by omega
    subst hi
    refine mj_W.run (mj_R_mo _ _) 10 ?_
    exact ⟨fun _ => mj_W.stay (mj_R_mo _ _) _ (hK M1 _ _ C1), fun c1 => absurd (show (537 : Int) ≤ ((537 : Nat) : Int) by decide) c1⟩
  | succ j ih =>
    intro i M1 cb sb hi C1
    have r6 : M1.2.2 m 6 = some s := by rw [C1.2.1]; exact h6
    have r59 : M1.2.2 m 59 = some kp := by rw [C1.2.1]; exact h59
    have fin : ∀ (p : Nat) (v z : Int), p = 538 * k + i → v = M0.1 s (0 + i) → z = ((i + 1 : Nat) : Int) → ∀ cb sb : Nat, mj_W sx_ms (mj_R mj_tab (d + 1)) mt_X12_image.2.2.2.2.1 Q (mt_X12_image.2.2.2.2.1.drop 12) [some (.inr (.inr (some m))), some (.inl (k : Int)), some (.inl z)] [] G (mj_p0 M1 kp p v) cb sb := by
      intro p v z e1 e2 e3 cb sb
      subst e1 e2 e3
      refine ih (i + 1) _ cb sb (by omega) (C1.st ?_)
      have r := hI.1 s (0 + i)
      rw [hs] at r
      rw [hkp]
      show (ab_rg 70100 (538 * k + i)).1 ≤ _ ∧ _ ≤ (ab_rg 70100 (538 * k + i)).2
      rw [hn_rk hk (by omega)]
      rw [Nat.zero_add] at r ⊢
      exact r
    refine mj_W.run (mj_R_mo _ _) 17 ?_
    refine ⟨fun c1 => absurd (show (537 : Int) ≤ (i : Int) from c1) (by omega), fun c1 => ?_⟩
    refine hn_gr (fk := 59) (List.cons_ne_nil _ _) rfl rfl rfl hm r59 ?_
    refine Or.inl ⟨⟨by show (-2147483648 : Int) ≤ (538 : Int) * (k : Int); omega, by show (538 : Int) * (k : Int) < (2147483648 : Int); omega⟩, ?_⟩
    refine Or.inl ⟨⟨by show (-2147483648 : Int) ≤ (538 : Int) * (k : Int) + (i : Int); omega, by show (538 : Int) * (k : Int) + (i : Int) < (2147483648 : Int); omega⟩, ?_⟩
    refine hn_gr (fk := 6) (List.cons_ne_nil _ _) rfl rfl rfl hm r6 ?_
    refine ⟨51100, 537, hs, rfl, by show (0 : Int) ≤ (i : Int); omega, by show (i : Int) < ((537 : Nat) : Int); omega, ?_⟩
    refine ⟨70100, 1076, hkp, rfl, by decide, by show (0 : Int) ≤ (538 : Int) * (k : Int) + (i : Int); omega, by show (538 : Int) * (k : Int) + (i : Int) < ((1076 : Nat) : Int); omega, ?_⟩
    refine Or.inl ⟨⟨by show (-2147483648 : Int) ≤ (i : Int) + 1; omega, by show (i : Int) + 1 < (2147483648 : Int); omega⟩, ?_⟩
    exact fin _ _ _ (show ((538 : Int) * (k : Int) + (i : Int)).toNat = _ by omega) (show M1.1 s ((i : Int)).toNat = _ by rw [C1.2.2.1 _ _ n1, Nat.zero_add]; rfl) (show (i : Int) + 1 = _ by omega) _ _
set_option maxRecDepth 100000 in
theorem r_image_2 {d m nm nk k : Nat} {G : mj_G} {M0 : mj_M} {Q : mj_P} (hm : G m = (1012, 0)) (hnm : G nm = (54103, 16)) (hnk : G nk = (71103, 16)) (h9 : M0.2.2 m 9 = some nm) (h60 : M0.2.2 m 60 = some nk) (hk : k ≤ 1)
    (hK : ∀ M2 cb sb, M2.1 = M0.1 → M2.2.2 = M0.2.2 → (∀ a k, (G a).1 = 55103 → M2.2.1 a k = M0.2.1 a k) → mj_W sx_ms (mj_R mj_tab (d + 1)) mt_X12_image.2.2.2.2.1 Q (mt_X12_image.2.2.2.2.1.drop 58) [some (.inr (.inr (some m))), some (.inl (k : Int)), some (.inl ((8 : Nat) : Int))] [] G M2 cb sb) : ∀ (j i : Nat) (M1 : mj_M) (cb sb : Nat), i + j = 8 → M1.1 = M0.1 → M1.2.2 = M0.2.2 → (∀ a k, (G a).1 = 55103 → M1.2.1 a k = M0.2.1 a k) → mj_W sx_ms (mj_R mj_tab (d + 1)) mt_X12_image.2.2.2.2.1 Q (mt_X12_image.2.2.2.2.1.drop 41) [some (.inr (.inr (some m))), some (.inl (k : Int)), some (.inl (i : Int))] [] G M1 cb sb := by
  intro j
  induction j with
  | zero =>
    intro i M1 cb sb hi e1 e2 e5
    have hi : i = 8 := by omega
    subst hi
    refine mj_W.run (mj_R_mo _ _) 10 ?_
    exact ⟨fun _ => mj_W.stay (mj_R_mo _ _) _ (hK M1 _ _ e1 e2 e5), fun c1 => absurd (show (8 : Int) ≤ ((8 : Nat) : Int) by decide) c1⟩
  | succ j ih =>
    intro i M1 cb sb hi e1 e2 e5
    have r9 : M1.2.2 m 9 = some nm := by rw [e2]; exact h9
    have r60 : M1.2.2 m 60 = some nk := by rw [e2]; exact h60
    have fin : ∀ (p : Nat) (v : Int64) (z : Int), z = ((i + 1 : Nat) : Int) → ∀ cb sb : Nat, mj_W sx_ms (mj_R mj_tab (d + 1)) mt_X12_image.2.2.2.2.1 Q (mt_X12_image.2.2.2.2.1.drop 41) [some (.inr (.inr (some m))), some (.inl (k : Int)), some (.inl z)] [] G (mj_p1 M1 nk p v) cb sb := by
      intro p v z e3 cb sb
      subst e3
      exact ih (i + 1) _ cb sb (by omega) e1 e2 (fun a k h => (if_neg (fun e => by rw [e.1, hnk] at h; exact absurd h (by decide))).trans (e5 a k h))
    refine mj_W.run (mj_R_mo _ _) 17 ?_
    refine ⟨fun c1 => absurd (show (8 : Int) ≤ (i : Int) from c1) (by omega), fun c1 => ?_⟩
    refine hn_gr (fk := 60) (List.cons_ne_nil _ _) rfl rfl rfl hm r60 ?_
    refine Or.inl ⟨⟨by show (-2147483648 : Int) ≤ (8 : Int) * (k : Int); omega, by show (8 : Int) * (k : Int) < (2147483648 : Int); omega⟩, ?_⟩
    refine Or.inl ⟨⟨by show (-2147483648 : Int) ≤ (8 : Int) * (k : Int) + (i : Int); omega, by show (8 : Int) * (k : Int) + (i : Int) < (2147483648 : Int); omega⟩, ?_⟩
    refine hn_gr (fk := 9) (List.cons_ne_nil _ _) rfl rfl rfl hm r9 ?_
    refine ⟨54103, 16, hnm, rfl, by show (0 : Int) ≤ (i : Int); omega, by show (i : Int) < ((16 : Nat) : Int); omega, ?_⟩
    refine ⟨71103, 16, hnk, rfl, by decide, by show (0 : Int) ≤ (8 : Int) * (k : Int) + (i : Int); omega, by show (8 : Int) * (k : Int) + (i : Int) < ((16 : Nat) : Int); omega, ?_⟩
    refine Or.inl ⟨⟨by show (-2147483648 : Int) ≤ (i : Int) + 1; omega, by show (i : Int) + 1 < (2147483648 : Int); omega⟩, ?_⟩
    exact fin _ _ _ (show (i : Int) + 1 = _ by omega) _ _
set_option maxRecDepth 100000 in
theorem r_image {d m s kp ik : Nat} {kz : Int} {G : mj_G} {M : mj_M} {Q : mj_P} (hm : G m = (1012, 0)) (hs : G s = (51100, 537)) (hkp : G kp = (70100, 1076)) (hik : G ik = (72102, 2)) (h6 : M.2.2 m 6 = some s) (h59 : M.2.2 m 59 = some kp) (h61 : M.2.2 m 61 = some ik) (hI : ab_Inv G M)
    (hQ0 : ¬ (0 ≤ kz ∧ kz ≤ 1) → Q (some (.inl 0)) G (mj_p0 M m 0 0))
    (hQ1 : ∀ (k : Nat) M', kz = (k : Int) → k ≤ 1 → ab_Inv G M' → M'.2.2 = M.2.2 → ab_frm hn_WI G M M' → (∀ p, p < 537 → M'.1 kp (538 * k + p) = M.1 s p) → (∀ q, q < 538 * k ∨ 538 * k + 538 ≤ q → M'.1 kp q = M.1 kp q) → M'.1 ik k = 1 → (∀ q, q ≠ k → M'.1 ik q = M.1 ik q) → Q (some (.inl 1)) G M') : mj_R mj_tab (d + 2) 195 [.inr (.inr (some m)), .inl kz] G M Q := by
  have i0 : ab_Inv G (mj_p0 M m 0 0) := hI.p0 (by rw [hm]; exact ⟨by decide, by decide⟩)
  have F0 : ab_frm hn_WI G M (mj_p0 M m 0 0) := hn_f0 ab_frm.rf ⟨(1012, 0, 0), by decide, by rw [hm], by decide, by decide⟩
  have a1 : m ≠ s := hn_ne hm hs (by decide)
  have a2 : m ≠ kp := hn_ne hm hkp (by decide)
  have a3 : m ≠ ik := hn_ne hm hik (by decide)
  have a4 : kp ≠ ik := hn_ne hkp hik (by decide)
  have a5 : s ≠ kp := hn_ne hs hkp (by decide)
  obtain ⟨nm, h9, hnm⟩ := hn_rf (k := 9) (q := (54103, 16)) hI hm rfl (by decide) (by decide) (by decide) (fun e => absurd e (by decide))
  obtain ⟨nk, h60, hnk⟩ := hn_rf (k := 60) (q := (71103, 16)) hI hm rfl (by decide) (by decide) (by decide) (fun e => absurd e (by decide))
  have P10 : ∀ (k : Nat) (cb sb : Nat), kz = (k : Int) → k ≤ 1 → mj_W sx_ms (mj_R mj_tab (d + 1)) mt_X12_image.2.2.2.2.1 Q (mt_X12_image.2.2.2.2.1.drop 10) [some (.inr (.inr (some m))), some (.inl (k : Int)), none] [] G (mj_p0 M m 0 0) cb sb := by
    intro k cb sb ek hk
    -- the end
    have P58 : ∀ (M0 M2 : mj_M) cb sb, M2.1 = M0.1 → M2.2.2 = M0.2.2 → hn_C G (mj_p0 M m 0 0) M0 kp s (538 * k) 0 537 → False → mj_W sx_ms (mj_R mj_tab (d + 1)) mt_X12_image.2.2.2.2.1 Q (mt_X12_image.2.2.2.2.1.drop 58) [some (.inr (.inr (some m))), some (.inl (k : Int)), some (.inl ((8 : Nat) : Int))] [] G M2 cb sb := fun _ _ _ _ _ _ _ f => f.elim
    refine mj_W.run (mj_R_mo _ _) 2 ?_
    refine r_image_1 (d := d) (M0 := mj_p0 M m 0 0) hm hs hkp h6 h59 hk i0 (fun M2 cb sb C2 => ?_) 537 0 _ cb sb rfl ⟨i0, rfl, fun _ _ _ => rfl, fun _ _ => rfl, fun p hp => absurd hp (by omega)⟩
    obtain ⟨c1, c2, c3, c4, c5⟩ := C2
    have r59 : M2.2.2 m 59 = some kp := by rw [c2]; exact h59
    have r61 : M2.2.2 m 61 = some ik := by rw [c2]; exact h61
    have r9 : M2.2.2 m 9 = some nm := by rw [c2]; exact h9
    have r60 : M2.2.2 m 60 = some nk := by rw [c2]; exact h60
    have fin : ∀ (p : Nat) (v : Int), p = 538 * k + 537 → mj_in v → ∀ cb sb : Nat, mj_W sx_ms (mj_R mj_tab (d + 1)) mt_X12_image.2.2.2.2.1 Q (mt_X12_image.2.2.2.2.1.drop 41) [some (.inr (.inr (some m))), some (.inl (k : Int)), some (.inl 0)] [] G (mj_p0 M2 kp p v) cb sb := by
      intro p v ep hv cb sb
      subst ep
      have i3 : ab_Inv G (mj_p0 M2 kp (538 * k + 537) v) := c1.p0 (by
        rw [hkp]
        show (ab_rg 70100 (538 * k + 537)).1 ≤ _ ∧ _ ≤ (ab_rg 70100 (538 * k + 537)).2
        rw [hn_rk2 hk]
        exact hn_ii hv)
      refine r_image_2 (d := d) (M0 := mj_p0 M2 kp (538 * k + 537) v) hm hnm hnk r9 r60 hk (fun M4 cb sb e1 e2 e5 => ?_) 8 0 _ cb sb rfl rfl rfl (fun _ _ _ => rfl)
      have i4 : ab_Inv G M4 := hn_L i3 e1 e2 e5
      have q61 : M4.2.2 m 61 = some ik := by rw [e2]; exact r61
      have end1 : ∀ (p : Nat), p = k → Q (some (.inl 1)) G (mj_p0 M4 ik p 1) := by
        intro p ep
        subst ep
        have o1 : ∀ x q, x ≠ kp → M4.1 x q = (mj_p0 M m 0 0).1 x q := fun x q hx => by rw [e1]; exact (hn_n (Or.inl hx)).trans (c3 x q hx)
        refine hQ1 p _ ek hk (i4.p0 (by rw [hik]; exact ⟨(by decide : (0 : Int) ≤ 1), (by decide : (1 : Int) ≤ 1)⟩)) (by show M4.2.2 = M.2.2; rw [e2]; show M2.2.2 = M.2.2; rw [c2]; rfl) ?_ (fun q hq => ?_) (fun q hq => ?_) hn_s (fun q hq => ?_)
        · intro x q hn
          have x1 : ¬ (x = m ∧ q = 0) := fun e => hn ⟨(1012, 0, 0), by decide, by rw [e.1, hm], by rw [e.2]; decide, by rw [e.2]; decide⟩
          have x3 : ¬ (x = ik ∧ q = p) := fun e => hn ⟨(72102, 0, 1), by decide, by rw [e.1, hik], Nat.zero_le _, by rw [e.2]; exact hk⟩
          have x2 : ¬ (x = kp ∧ q ≤ 1075) := fun e => hn ⟨(70100, 0, 1075), by decide, by rw [e.1, hkp], Nat.zero_le _, e.2⟩
          refine ⟨?_, by show M4.2.2 x q = _; rw [e2]; show M2.2.2 x q = _; rw [c2]; rfl⟩
          have z1 : (mj_p0 M4 ik p 1).1 x q = M4.1 x q := if_neg x3
          have z0 : (mj_p0 M m 0 0).1 x q = M.1 x q := if_neg x1
          rw [z1]
          by_cases ex : x = kp
          · subst ex
            rw [e1]
            have hq : 1076 ≤ q := by
              by_cases g : q ≤ 1075
              · exact absurd ⟨rfl, g⟩ x2
              · omega
            exact (hn_n (Or.inr (by omega))).trans ((c4 q (by omega)).trans z0)
          · exact (o1 x q ex).trans z0
        · refine (hn_n (Or.inl a4)).trans ?_
          rw [e1]
          refine (hn_n (Or.inr (by omega))).trans ((c5 q hq).trans ?_)
          rw [Nat.zero_add]
          exact hn_n (Or.inl a1.symm)
        · refine (hn_n (Or.inl a4)).trans ?_
          rw [e1]
          exact (hn_n (Or.inr (by omega))).trans ((c4 q (by omega)).trans (hn_n (Or.inl a2.symm)))
        · exact (hn_n (Or.inr hq)).trans ((o1 ik q a4.symm).trans (hn_n (Or.inl a3.symm)))
      refine mj_W.run (mj_R_mo _ _) 10 ?_
      refine hn_gr (fk := 61) (List.cons_ne_nil _ _) rfl rfl rfl hm q61 ?_
      refine Or.inr ⟨Or.inr rfl, ⟨72102, 2, hik, rfl, by decide, by show (0 : Int) ≤ (k : Int); omega, by show (k : Int) < ((2 : Nat) : Int); omega, ?_⟩⟩
      exact ⟨rfl, fun _ => Or.inr rfl, end1 _ (show ((k : Int)).toNat = k by omega)⟩
    refine mj_W.run (mj_R_mo _ _) 12 ?_
    refine hn_gr (fk := 59) (List.cons_ne_nil _ _) rfl rfl rfl hm r59 ?_
    refine Or.inl ⟨⟨by show (-2147483648 : Int) ≤ (538 : Int) * (k : Int); omega, by show (538 : Int) * (k : Int) < (2147483648 : Int); omega⟩, ?_⟩
    refine Or.inl ⟨⟨by show (-2147483648 : Int) ≤ (538 : Int) * (k : Int) + 537; omega, by show (538 : Int) * (k : Int) + 537 < (2147483648 : Int); omega⟩, ?_⟩
    refine hn_gi (fk := 25) (v := M2.1 m 25) (List.cons_ne_nil _ _) rfl rfl rfl hm rfl ?_
    refine ⟨70100, 1076, hkp, rfl, by decide, by show (0 : Int) ≤ (538 : Int) * (k : Int) + 537; omega, by show (538 : Int) * (k : Int) + 537 < ((1076 : Nat) : Int); omega, ?_⟩
    exact fin _ _ (show ((538 : Int) * (k : Int) + 537).toNat = _ by omega) (c1.mj m 25) _ _
  refine ⟨Nat.le_of_ble_eq_true rfl, mj_W.run (mj_R_mo _ _) 20 ?_⟩
  refine hn_pi (fk := 0) (List.cons_ne_nil _ _) rfl rfl rfl hm (fun q => by cases q) ?_
  refine ⟨List.cons_ne_nil _ _, Nat.le_of_ble_eq_true rfl, Nat.zero_le _, Nat.zero_le _, ?_⟩
  refine r_isIn (fun g1 g2 => ?_) (fun g => ?_)
  · refine ⟨fun _ => ?_, fun c1 => absurd (show (1 : Int) ≠ 0 by decide) c1⟩
    obtain ⟨k, rfl⟩ : ∃ k : Nat, kz = (k : Int) := ⟨kz.toNat, by omega⟩
    exact mj_W.stay (mj_R_mo _ _) _ (P10 k _ _ rfl (by omega))
  · exact ⟨fun c1 => absurd rfl c1, fun _ => ⟨rfl, fun _ => Or.inl rfl, hQ0 g⟩⟩
end
section
/-! ===== by hand: restore of the reference ===== -/
theorem hn_rs0 (p : Nat) : ab_rg 51100 p = ab_s p := by
  show ab_s p = ab_s p
  rfl
set_option maxRecDepth 100000 in
theorem r_restore_1 {d m s kp k : Nat} {G : mj_G} {M0 : mj_M} {Q : mj_P} (hm : G m = (1012, 0)) (hs : G s = (51100, 537)) (hkp : G kp = (70100, 1076)) (h6 : M0.2.2 m 6 = some s) (h59 : M0.2.2 m 59 = some kp) (hk : k ≤ 1) (hI : ab_Inv G M0)
    (hK : ∀ M2 cb sb, hn_C G M0 M2 s kp 0 (538 * k) 537 → mj_W sx_ms (mj_R mj_tab (d + 1)) mt_X12_restore.2.2.2.2.1 Q (mt_X12_restore.2.2.2.2.1.drop 34) [some (.inr (.inr (some m))), some (.inl (k : Int)), some (.inl ((537 : Nat) : Int))] [] G M2 cb sb) : ∀ (j i : Nat) (M1 : mj_M) (cb sb : Nat), i + j = 537 → hn_C G M0 M1 s kp 0 (538 * k) i → mj_W sx_ms (mj_R mj_tab (d + 1)) mt_X12_restore.2.2.2.2.1 Q (mt_X12_restore.2.2.2.2.1.drop 17) [some (.inr (.inr (some m))), some (.inl (k : Int)), some (.inl (i : Int))] [] G M1 cb sb := by
  have n1 : kp ≠ s := hn_ne hkp hs (by decide)
  intro j
  induction j with
  | zero =>
    intro i M1 cb sb hi C1
    have hi : i = 537 := by omega
    subst hi
    refine mj_W.run (mj_R_mo _ _) 10 ?_
    exact ⟨fun _ => mj_W.stay (mj_R_mo _ _) _ (hK M1 _ _ C1), fun c1 => absurd (show (537 : Int) ≤ ((537 : Nat) : Int) by decide) c1⟩
  | succ j ih =>
    intro i M1 cb sb hi C1
    have r6 : M1.2.2 m 6 = some s := by rw [C1.2.1]; exact h6
    have r59 : M1.2.2 m 59 = some kp := by rw [C1.2.1]; exact h59
    have fin : ∀ (p : Nat) (v z : Int), p = 0 + i → v = M0.1 kp (538 * k + i) → z = ((i + 1 : Nat) : Int) → ∀ cb sb : Nat, mj_W sx_ms (mj_R mj_tab (d + 1)) mt_X12_restore.2.2.2.2.1 Q (mt_X12_restore.2.2.2.2.1.drop 17) [some (.inr (.inr (some m))), some (.inl (k : Int)), some (.inl z)] [] G (mj_p0 M1 s p v) cb sb := by
      intro p v z e1 e2 e3 cb sb
      subst e1 e2 e3
      refine ih (i + 1) _ cb sb (by omega) (C1.st ?_)
      have r := hI.1 kp (538 * k + i)
      rw [hkp] at r
      have r : (ab_rg 70100 (538 * k + i)).1 ≤ _ ∧ _ ≤ (ab_rg 70100 (538 * k + i)).2 := r
      rw [hn_rk hk (by omega)] at r
      rw [hs]
      show (ab_rg 51100 (0 + i)).1 ≤ _ ∧ _ ≤ (ab_rg 51100 (0 + i)).2
      rw [hn_rs0, Nat.zero_add]
      exact r
    refine mj_W.run (mj_R_mo _ _) 17 ?_
    refine ⟨fun c1 => absurd (show (537 : Int) ≤ (i : Int) from c1) (by omega), fun c1 => ?_⟩
    refine hn_gr (fk := 6) (List.cons_ne_nil _ _) rfl rfl rfl hm r6 ?_
    refine hn_gr (fk := 59) (List.cons_ne_nil _ _) rfl rfl rfl hm r59 ?_
    refine Or.inl ⟨⟨by show (-2147483648 : Int) ≤ (538 : Int) * (k : Int); omega, by show (538 : Int) * (k : Int) < (2147483648 : Int); omega⟩, ?_⟩
    refine Or.inl ⟨⟨by show (-2147483648 : Int) ≤ (538 : Int) * (k : Int) + (i : Int); omega, by show (538 : Int) * (k : Int) + (i : Int) < (2147483648 : Int); omega⟩, ?_⟩
    refine ⟨70100, 1076, hkp, rfl, by show (0 : Int) ≤ (538 : Int) * (k : Int) + (i : Int); omega, by show (538 : Int) * (k : Int) + (i : Int) < ((1076 : Nat) : Int); omega, ?_⟩
    refine ⟨51100, 537, hs, rfl, by decide, by show (0 : Int) ≤ (i : Int); omega, by show (i : Int) < ((537 : Nat) : Int); omega, ?_⟩
    refine Or.inl ⟨⟨by show (-2147483648 : Int) ≤ (i : Int) + 1; omega, by show (i : Int) + 1 < (2147483648 : Int); omega⟩, ?_⟩
    exact fin _ _ _ (show ((i : Int)).toNat = _ by omega) (show M1.1 kp ((538 : Int) * (k : Int) + (i : Int)).toNat = _ by rw [C1.2.2.1 _ _ n1, show ((538 : Int) * (k : Int) + (i : Int)).toNat = 538 * k + i by omega]) (show (i : Int) + 1 = _ by omega) _ _
set_option maxRecDepth 100000 in
theorem r_restore_2 {d m nm nk k : Nat} {G : mj_G} {M0 : mj_M} {Q : mj_P} (hm : G m = (1012, 0)) (hnm : G nm = (54103, 16)) (hnk : G nk = (71103, 16)) (h9 : M0.2.2 m 9 = some nm) (h60 : M0.2.2 m 60 = some nk) (hk : k ≤ 1)
    (hK : ∀ M2 cb sb, M2.1 = M0.1 → M2.2.2 = M0.2.2 → (∀ a k, (G a).1 = 55103 → M2.2.1 a k = M0.2.1 a k) → mj_W sx_ms (mj_R mj_tab (d + 1)) mt_X12_restore.2.2.2.2.1 Q (mt_X12_restore.2.2.2.2.1.drop 63) [some (.inr (.inr (some m))), some (.inl (k : Int)), some (.inl ((8 : Nat) : Int))] [] G M2 cb sb) : ∀ (j i : Nat) (M1 : mj_M) (cb sb : Nat), i + j = 8 → M1.1 = M0.1 → M1.2.2 = M0.2.2 → (∀ a k, (G a).1 = 55103 → M1.2.1 a k = M0.2.1 a k) → mj_W sx_ms (mj_R mj_tab (d + 1)) mt_X12_restore.2.2.2.2.1 Q (mt_X12_restore.2.2.2.2.1.drop 46) [some (.inr (.inr (some m))), some (.inl (k : Int)), some (.inl (i : Int))] [] G M1 cb sb := by
  intro j
  induction j with
  | zero =>
    intro i M1 cb sb hi e1 e2 e5
    have hi : i = 8 := by omega
    subst hi
    refine mj_W.run (mj_R_mo _ _) 10 ?_
    exact ⟨fun _ => mj_W.stay (mj_R_mo _ _) _ (hK M1 _ _ e1 e2 e5), fun c1 => absurd (show (8 : Int) ≤ ((8 : Nat) : Int) by decide) c1⟩
  | succ j ih =>
    intro i M1 cb sb hi e1 e2 e5
    have r9 : M1.2.2 m 9 = some nm := by rw [e2]; exact h9
    have r60 : M1.2.2 m 60 = some nk := by rw [e2]; exact h60
    have fin : ∀ (p : Nat) (v : Int64) (z : Int), z = ((i + 1 : Nat) : Int) → ∀ cb sb : Nat, mj_W sx_ms (mj_R mj_tab (d + 1)) mt_X12_restore.2.2.2.2.1 Q (mt_X12_restore.2.2.2.2.1.drop 46) [some (.inr (.inr (some m))), some (.inl (k : Int)), some (.inl z)] [] G (mj_p1 M1 nm p v) cb sb := by
      intro p v z e3 cb sb
      subst e3
      exact ih (i + 1) _ cb sb (by omega) e1 e2 (fun a k h => (if_neg (fun e => by rw [e.1, hnm] at h; exact absurd h (by decide))).trans (e5 a k h))
    refine mj_W.run (mj_R_mo _ _) 17 ?_
    refine ⟨fun c1 => absurd (show (8 : Int) ≤ (i : Int) from c1) (by omega), fun c1 => ?_⟩
    refine hn_gr (fk := 9) (List.cons_ne_nil _ _) rfl rfl rfl hm r9 ?_
    refine hn_gr (fk := 60) (List.cons_ne_nil _ _) rfl rfl rfl hm r60 ?_
    refine Or.inl ⟨⟨by show (-2147483648 : Int) ≤ (8 : Int) * (k : Int); omega, by show (8 : Int) * (k : Int) < (2147483648 : Int); omega⟩, ?_⟩
    refine Or.inl ⟨⟨by show (-2147483648 : Int) ≤ (8 : Int) * (k : Int) + (i : Int); omega, by show (8 : Int) * (k : Int) + (i : Int) < (2147483648 : Int); omega⟩, ?_⟩
    refine ⟨71103, 16, hnk, rfl, by show (0 : Int) ≤ (8 : Int) * (k : Int) + (i : Int); omega, by show (8 : Int) * (k : Int) + (i : Int) < ((16 : Nat) : Int); omega, ?_⟩
    refine ⟨54103, 16, hnm, rfl, by decide, by show (0 : Int) ≤ (i : Int); omega, by show (i : Int) < ((16 : Nat) : Int); omega, ?_⟩
    refine Or.inl ⟨⟨by show (-2147483648 : Int) ≤ (i : Int) + 1; omega, by show (i : Int) + 1 < (2147483648 : Int); omega⟩, ?_⟩
    exact fin _ _ _ (show (i : Int) + 1 = _ by omega) _ _
set_option maxRecDepth 100000 in
theorem r_restore {d m s kp ik : Nat} {kz : Int} {G : mj_G} {M : mj_M} {Q : mj_P} (hm : G m = (1012, 0)) (hs : G s = (51100, 537)) (hkp : G kp = (70100, 1076)) (hik : G ik = (72102, 2)) (h6 : M.2.2 m 6 = some s) (h59 : M.2.2 m 59 = some kp) (h61 : M.2.2 m 61 = some ik) (hI : ab_Inv G M)
    (hQ0 : (¬ (0 ≤ kz ∧ kz ≤ 1) ∨ ∃ k : Nat, kz = (k : Int) ∧ k ≤ 1 ∧ M.1 ik k = 0) → Q (some (.inl 0)) G (mj_p0 M m 0 0))
    (hQ1 : ∀ (k : Nat) M', kz = (k : Int) → k ≤ 1 → M.1 ik k ≠ 0 → ab_Inv G M' → M'.2.2 = M.2.2 → ab_frm hn_WR G M M' → (∀ p, p < 537 → M'.1 s p = M.1 kp (538 * k + p)) → Q (some (.inl 1)) G M') : mj_R mj_tab (d + 2) 235 [.inr (.inr (some m)), .inl kz] G M Q := by
  have i0 : ab_Inv G (mj_p0 M m 0 0) := hI.p0 (by rw [hm]; exact ⟨by decide, by decide⟩)
  have a1 : m ≠ s := hn_ne hm hs (by decide)
  have a2 : m ≠ kp := hn_ne hm hkp (by decide)
  have a3 : m ≠ ik := hn_ne hm hik (by decide)
  obtain ⟨nm, h9, hnm⟩ := hn_rf (k := 9) (q := (54103, 16)) hI hm rfl (by decide) (by decide) (by decide) (fun e => absurd e (by decide))
  obtain ⟨nk, h60, hnk⟩ := hn_rf (k := 60) (q := (71103, 16)) hI hm rfl (by decide) (by decide) (by decide) (fun e => absurd e (by decide))
  have P15 : ∀ (k : Nat) (cb sb : Nat), kz = (k : Int) → k ≤ 1 → M.1 ik k ≠ 0 → mj_W sx_ms (mj_R mj_tab (d + 1)) mt_X12_restore.2.2.2.2.1 Q (mt_X12_restore.2.2.2.2.1.drop 15) [some (.inr (.inr (some m))), some (.inl (k : Int)), none] [] G (mj_p0 M m 0 0) cb sb := by
    intro k cb sb ek hk hik0
    refine mj_W.run (mj_R_mo _ _) 2 ?_
    refine r_restore_1 (d := d) (M0 := mj_p0 M m 0 0) hm hs hkp h6 h59 hk i0 (fun M2 cb sb C2 => ?_) 537 0 _ cb sb rfl ⟨i0, rfl, fun _ _ _ => rfl, fun _ _ => rfl, fun p hp => absurd hp (by omega)⟩
    obtain ⟨c1, c2, c3, c4, c5⟩ := C2
    have r59 : M2.2.2 m 59 = some kp := by rw [c2]; exact h59
    have r9 : M2.2.2 m 9 = some nm := by rw [c2]; exact h9
    have r60 : M2.2.2 m 60 = some nk := by rw [c2]; exact h60
    have fin : ∀ (v : Int), mj_in v → ∀ cb sb : Nat, mj_W sx_ms (mj_R mj_tab (d + 1)) mt_X12_restore.2.2.2.2.1 Q (mt_X12_restore.2.2.2.2.1.drop 46) [some (.inr (.inr (some m))), some (.inl (k : Int)), some (.inl 0)] [] G (mj_p0 M2 m 25 v) cb sb := by
      intro v hv cb sb
      have i3 : ab_Inv G (mj_p0 M2 m 25 v) := c1.p0 (by
        rw [hm]
        exact hn_ii hv)
      refine r_restore_2 (d := d) (M0 := mj_p0 M2 m 25 v) hm hnm hnk r9 r60 hk (fun M4 cb sb e1 e2 e5 => ?_) 8 0 _ cb sb rfl rfl rfl (fun _ _ _ => rfl)
      have i4 : ab_Inv G M4 := hn_L i3 e1 e2 e5
      have end1 : Q (some (.inl 1)) G (mj_p0 M4 m 28 0) := by
        have o1 : ∀ x q, x ≠ s → ¬ (x = m ∧ q = 25) → M4.1 x q = (mj_p0 M m 0 0).1 x q := fun x q hx h25 => by rw [e1]; exact (show (mj_p0 M2 m 25 v).1 x q = M2.1 x q from if_neg h25).trans (c3 x q hx)
        refine hQ1 k _ ek hk hik0 (i4.p0 (by rw [hm]; exact ⟨by decide, by decide⟩)) (by show M4.2.2 = M.2.2; rw [e2]; show M2.2.2 = M.2.2; rw [c2]; rfl) ?_ (fun q hq => ?_)
        · intro x q hn
          have x1 : ¬ (x = m ∧ q = 0) := fun e => hn ⟨(1012, 0, 0), by decide, by rw [e.1, hm], by rw [e.2]; decide, by rw [e.2]; decide⟩
          have x2 : ¬ (x = m ∧ q = 25) := fun e => hn ⟨(1012, 25, 25), by decide, by rw [e.1, hm], by rw [e.2]; decide, by rw [e.2]; decide⟩
          have x3 : ¬ (x = m ∧ q = 28) := fun e => hn ⟨(1012, 28, 28), by decide, by rw [e.1, hm], by rw [e.2]; decide, by rw [e.2]; decide⟩
          have x4 : ¬ (x = s ∧ q ≤ 536) := fun e => hn ⟨(51100, 0, 536), by decide, by rw [e.1, hs], Nat.zero_le _, e.2⟩
          refine ⟨?_, by show M4.2.2 x q = _; rw [e2]; show M2.2.2 x q = _; rw [c2]; rfl⟩
          have z1 : (mj_p0 M4 m 28 0).1 x q = M4.1 x q := if_neg x3
          have z0 : (mj_p0 M m 0 0).1 x q = M.1 x q := if_neg x1
          rw [z1]
          by_cases ex : x = s
          · subst ex
            rw [e1]
            have hq : 537 ≤ q := by
              by_cases g : q ≤ 536
              · exact absurd ⟨rfl, g⟩ x4
              · omega
            exact (hn_n (Or.inl a1.symm)).trans ((c4 q (by omega)).trans z0)
          · exact (o1 x q ex x2).trans z0
        · refine (hn_n (Or.inl a1.symm)).trans ?_
          rw [e1]
          have c5 := c5 q hq
          rw [Nat.zero_add] at c5
          exact (hn_n (Or.inl a1.symm)).trans (c5.trans (hn_n (Or.inl a2.symm)))
      refine mj_W.run (mj_R_mo _ _) 10 ?_
      refine hn_pi (fk := 28) (List.cons_ne_nil _ _) rfl rfl rfl hm (fun q => by cases q) ?_
      exact ⟨rfl, fun _ => Or.inr rfl, end1⟩
    refine mj_W.run (mj_R_mo _ _) 12 ?_
    refine hn_gr (fk := 59) (List.cons_ne_nil _ _) rfl rfl rfl hm r59 ?_
    refine Or.inl ⟨⟨by show (-2147483648 : Int) ≤ (538 : Int) * (k : Int); omega, by show (538 : Int) * (k : Int) < (2147483648 : Int); omega⟩, ?_⟩
    refine Or.inl ⟨⟨by show (-2147483648 : Int) ≤ (538 : Int) * (k : Int) + 537; omega, by show (538 : Int) * (k : Int) + 537 < (2147483648 : Int); omega⟩, ?_⟩
    refine ⟨70100, 1076, hkp, rfl, by show (0 : Int) ≤ (538 : Int) * (k : Int) + 537; omega, by show (538 : Int) * (k : Int) + 537 < ((1076 : Nat) : Int); omega, ?_⟩
    refine hn_pi (fk := 25) (List.cons_ne_nil _ _) rfl rfl rfl hm (fun q => by cases q) ?_
    exact fin _ (c1.mj kp _) _ _
  refine ⟨Nat.le_of_ble_eq_true rfl, mj_W.run (mj_R_mo _ _) 20 ?_⟩
  refine hn_pi (fk := 0) (List.cons_ne_nil _ _) rfl rfl rfl hm (fun q => by cases q) ?_
  refine ⟨List.cons_ne_nil _ _, Nat.le_of_ble_eq_true rfl, Nat.zero_le _, Nat.zero_le _, ?_⟩
  refine r_isIn (fun g1 g2 => ?_) (fun g => ?_)
  · refine ⟨fun c1 => absurd (show (1 : Int) = 0 from c1) (by decide), fun _ => ?_⟩
    obtain ⟨k, rfl⟩ : ∃ k : Nat, kz = (k : Int) := ⟨kz.toNat, by omega⟩
    refine hn_gr (fk := 61) (List.cons_ne_nil _ _) rfl rfl rfl hm h61 ?_
    refine Or.inr ⟨72102, 2, hik, rfl, by show (0 : Int) ≤ (k : Int); omega, by show (k : Int) < ((2 : Nat) : Int); omega, ?_⟩
    have e : (mj_p0 M m 0 0).1 ik ((k : Int)).toNat = M.1 ik k := hn_n (Or.inl a3.symm)
    refine ⟨fun c2 => mj_W.stay (mj_R_mo _ _) _ (P15 k _ _ rfl (by omega) (by
      have c2 : (mj_p0 M m 0 0).1 ik ((k : Int)).toNat ≠ 0 := c2
      rw [e] at c2
      exact c2)), fun c2 => ⟨rfl, fun _ => Or.inl rfl, hQ0 (Or.inr ⟨k, rfl, by omega, ?_⟩)⟩⟩
    have c2 : ¬ (mj_p0 M m 0 0).1 ik ((k : Int)).toNat ≠ 0 := c2
    rw [e] at c2
    omega
  · exact ⟨fun _ => ⟨rfl, fun _ => Or.inl rfl, hQ0 (Or.inl g)⟩, fun c1 => absurd (show (0 : Int) = 0 from rfl) c1⟩
end
section
/-! ===== by hand: plain of the reference ===== -/
def hn_z0 (q : Int × Int) : Prop := q.1 ≤ 0 ∧ 0 ≤ q.2
theorem hn_z0c {b : Bool} {x y : Int × Int} (h1 : hn_z0 x) (h2 : hn_z0 y) : hn_z0 (cond b x y) := by cases b <;> assumption
theorem hn_s0 (k : Nat) : hn_z0 (ab_s k) := by
  unfold ab_s
  repeat' first | exact ⟨by decide, by decide⟩ | apply hn_z0c
theorem hn_rh0 (p : Nat) : ab_rg 52100 p = ab_s p := by
  show ab_s p = ab_s p
  rfl
abbrev hn_WP : List (Nat × Nat × Nat) := [(1012, 0, 0), (1012, 2, 5), (1012, 11, 22), (1012, 24, 26), (1012, 28, 28), (51100, 0, 536), (52100, 0, 220), (54103, 0, 15), (56100, 0, 3)]
set_option maxRecDepth 100000 in
theorem r_plain_1 {d m s h : Nat} {G : mj_G} {M : mj_M} {Q : mj_P} (hm : G m = (1012, 0)) (hs : G s = (51100, 537)) (hh : G h = (52100, 221)) (h6 : M.2.2 m 6 = some s) (h7 : M.2.2 m 7 = some h)
    (hK : ∀ M2 cb sb, ab_Inv G M2 → ab_frm hn_WP G M M2 → M2.1 m 2 = 0 → M2.1 s 356 = 0 → mj_W sx_ms (mj_R mj_tab d) mt_X12_plain.2.2.2.2.1 Q (mt_X12_plain.2.2.2.2.1.drop 94) [some (.inr (.inr (some m))), some (.inl ((537 : Nat) : Int))] [] G M2 cb sb) : ∀ (j i : Nat) (M1 : mj_M) (cb sb : Nat), i + j = 537 → ab_Inv G M1 → ab_frm hn_WP G M M1 → M1.1 m 2 = 0 → (356 < i → M1.1 s 356 = 0) → mj_W sx_ms (mj_R mj_tab d) mt_X12_plain.2.2.2.2.1 Q (mt_X12_plain.2.2.2.2.1.drop 76) [some (.inr (.inr (some m))), some (.inl (i : Int))] [] G M1 cb sb := by
  have n1 : m ≠ s := hn_ne hm hs (by decide)
  intro j
  induction j with
  | zero =>
    intro i M1 cb sb hi I1 F1 L1 Z1
    have hi : i = 537 := by omega
    subst hi
    refine mj_W.run (mj_R_mo _ _) 10 ?_
    exact ⟨fun _ => mj_W.stay (mj_R_mo _ _) _ (hK M1 _ _ I1 F1 L1 (Z1 (by decide))), fun c1 => absurd (show (537 : Int) ≤ ((537 : Nat) : Int) by decide) c1⟩
  | succ j ih =>
    intro i M1 cb sb hi I1 F1 L1 Z1
    have r6 : M1.2.2 m 6 = some s := (F1 m 6 (by rw [hm]; exact hn_nc (by decide))).2.trans h6
    have r7 : M1.2.2 m 7 = some h := (F1 m 7 (by rw [hm]; exact hn_nc (by decide))).2.trans h7
    have fin : ∀ (p : Nat) (v z : Int), p = i → z = ((i + 1 : Nat) : Int) → (i = 356 → v = 0) → ((ab_s i).1 ≤ v ∧ v ≤ (ab_s i).2) → ∀ cb sb : Nat, mj_W sx_ms (mj_R mj_tab d) mt_X12_plain.2.2.2.2.1 Q (mt_X12_plain.2.2.2.2.1.drop 76) [some (.inr (.inr (some m))), some (.inl z)] [] G (mj_p0 M1 s p v) cb sb := by
      intro p v z e1 e3 hv hr cb sb
      subst e1 e3
      refine ih (p + 1) _ cb sb (by omega) (I1.p0 (by rw [hs]; show (ab_rg 51100 p).1 ≤ _ ∧ _ ≤ (ab_rg 51100 p).2; rw [hn_rs0]; exact hr)) (hn_f0 F1 ⟨(51100, 0, 536), by decide, by rw [hs], Nat.zero_le _, by show p ≤ 536; omega⟩) ((hn_n (Or.inl n1)).trans L1) (fun hp => ?_)
      by_cases e : p = 356
      · have := hv e
        subst e this
        exact hn_s
      · exact (hn_n (Or.inr (fun q => e q.symm))).trans (Z1 (by omega))
    have P91 : ∀ (v : Int) (cb sb : Nat), (i = 356 → v = 0) → ((ab_s i).1 ≤ v ∧ v ≤ (ab_s i).2) → mj_W sx_ms (mj_R mj_tab d) mt_X12_plain.2.2.2.2.1 Q (mt_X12_plain.2.2.2.2.1.drop 91) [some (.inr (.inr (some m))), some (.inl (i : Int))] [.inl v, .inl (i : Int), .inr (.inr (some s))] G M1 cb sb := by
      intro v cb sb hv hr
      refine mj_W.run (mj_R_mo _ _) 3 ?_
      refine ⟨51100, 537, hs, rfl, by decide, by show (0 : Int) ≤ (i : Int); omega, by show (i : Int) < ((537 : Nat) : Int); omega, ?_⟩
      refine Or.inl ⟨⟨by show (-2147483648 : Int) ≤ (i : Int) + 1; omega, by show (i : Int) + 1 < (2147483648 : Int); omega⟩, ?_⟩
      exact fin _ _ _ (show ((i : Int)).toNat = i by omega) (show (i : Int) + 1 = _ by omega) hv hr _ _
    have P89 : ∀ (v : Int) (cb sb : Nat), (i = 356 → v = 0) → ((ab_s i).1 ≤ v ∧ v ≤ (ab_s i).2) → mj_W sx_ms (mj_R mj_tab d) mt_X12_plain.2.2.2.2.1 Q (mt_X12_plain.2.2.2.2.1.drop 89) [some (.inr (.inr (some m))), some (.inl (i : Int))] [.inl v, .inl (i : Int), .inr (.inr (some s))] G M1 cb sb := fun v cb sb hv hr => mj_W.run (mj_R_mo _ _) 1 (P91 v cb sb hv hr)
    have P90 : ∀ (cb sb : Nat), mj_W sx_ms (mj_R mj_tab d) mt_X12_plain.2.2.2.2.1 Q (mt_X12_plain.2.2.2.2.1.drop 90) [some (.inr (.inr (some m))), some (.inl (i : Int))] [.inl (i : Int), .inr (.inr (some s))] G M1 cb sb := fun cb sb => mj_W.run (mj_R_mo _ _) 1 (P91 0 cb sb (fun _ => rfl) (hn_s0 i))
    refine mj_W.run (mj_R_mo _ _) 30 ?_
    refine ⟨fun c1 => absurd (show (537 : Int) ≤ (i : Int) from c1) (by omega), fun c1 => ?_⟩
    refine hn_gr (fk := 6) (List.cons_ne_nil _ _) rfl rfl rfl hm r6 ?_
    refine ⟨fun c2 => mj_W.stay (mj_R_mo _ _) _ (P90 _ _), fun c2 => ?_⟩
    have c2 : ¬ (221 : Int) ≤ (i : Int) := c2
    refine hn_gr (fk := 7) (List.cons_ne_nil _ _) rfl rfl rfl hm r7 ?_
    refine ⟨52100, 221, hh, rfl, by show (0 : Int) ≤ (i : Int); omega, by show (i : Int) < ((221 : Nat) : Int); omega, ?_⟩
    refine mj_W.stay (mj_R_mo _ _) _ (P89 _ _ _ (fun e => absurd e (by omega)) ?_)
    have r := I1.1 h i
    rw [hh] at r
    have r : (ab_rg 52100 i).1 ≤ _ ∧ _ ≤ (ab_rg 52100 i).2 := r
    rw [hn_rh0] at r
    exact r
set_option maxRecDepth 100000 in
theorem r_plain_2 {d m nm : Nat} {G : mj_G} {M0 : mj_M} {Q : mj_P} (hm : G m = (1012, 0)) (hnm : G nm = (54103, 16)) (h9 : M0.2.2 m 9 = some nm)
    (hK : ∀ M2 cb sb, M2.1 = M0.1 → M2.2.2 = M0.2.2 → (∀ a k, (G a).1 = 55103 → M2.2.1 a k = M0.2.1 a k) → mj_W sx_ms (mj_R mj_tab d) mt_X12_plain.2.2.2.2.1 Q (mt_X12_plain.2.2.2.2.1.drop 111) [some (.inr (.inr (some m))), some (.inl ((8 : Nat) : Int))] [] G M2 cb sb) : ∀ (j i : Nat) (M1 : mj_M) (cb sb : Nat), i + j = 8 → M1.1 = M0.1 → M1.2.2 = M0.2.2 → (∀ a k, (G a).1 = 55103 → M1.2.1 a k = M0.2.1 a k) → mj_W sx_ms (mj_R mj_tab d) mt_X12_plain.2.2.2.2.1 Q (mt_X12_plain.2.2.2.2.1.drop 96) [some (.inr (.inr (some m))), some (.inl (i : Int))] [] G M1 cb sb := by
  intro j
  induction j with
  | zero =>
    intro i M1 cb sb hi e1 e2 e5
    have hi : i = 8 := by omega
    subst hi
    refine mj_W.run (mj_R_mo _ _) 10 ?_
    exact ⟨fun _ => mj_W.stay (mj_R_mo _ _) _ (hK M1 _ _ e1 e2 e5), fun c1 => absurd (show (8 : Int) ≤ ((8 : Nat) : Int) by decide) c1⟩
  | succ j ih =>
    intro i M1 cb sb hi e1 e2 e5
    have r9 : M1.2.2 m 9 = some nm := by rw [e2]; exact h9
    have fin : ∀ (p : Nat) (v : Int64) (z : Int), z = ((i + 1 : Nat) : Int) → ∀ cb sb : Nat, mj_W sx_ms (mj_R mj_tab d) mt_X12_plain.2.2.2.2.1 Q (mt_X12_plain.2.2.2.2.1.drop 96) [some (.inr (.inr (some m))), some (.inl z)] [] G (mj_p1 M1 nm p v) cb sb := by
      intro p v z e3 cb sb
      subst e3
      exact ih (i + 1) _ cb sb (by omega) e1 e2 (fun a k h => (if_neg (fun e => by rw [e.1, hnm] at h; exact absurd h (by decide))).trans (e5 a k h))
    refine mj_W.run (mj_R_mo _ _) 15 ?_
    refine ⟨fun c1 => absurd (show (8 : Int) ≤ (i : Int) from c1) (by omega), fun c1 => ?_⟩
    refine hn_gr (fk := 9) (List.cons_ne_nil _ _) rfl rfl rfl hm r9 ?_
    refine hn_gr (fk := 9) (List.cons_ne_nil _ _) rfl rfl rfl hm r9 ?_
    refine Or.inl ⟨⟨by show (-2147483648 : Int) ≤ (8 : Int) + (i : Int); omega, by show (8 : Int) + (i : Int) < (2147483648 : Int); omega⟩, ?_⟩
    refine ⟨54103, 16, hnm, rfl, by show (0 : Int) ≤ (8 : Int) + (i : Int); omega, by show (8 : Int) + (i : Int) < ((16 : Nat) : Int); omega, ?_⟩
    refine ⟨54103, 16, hnm, rfl, by decide, by show (0 : Int) ≤ (i : Int); omega, by show (i : Int) < ((16 : Nat) : Int); omega, ?_⟩
    refine Or.inl ⟨⟨by show (-2147483648 : Int) ≤ (i : Int) + 1; omega, by show (i : Int) + 1 < (2147483648 : Int); omega⟩, ?_⟩
    exact fin _ _ _ (show (i : Int) + 1 = _ by omega) _ _
set_option maxRecDepth 100000 in
theorem r_plain_t {d m s : Nat} {G : mj_G} {M : mj_M} {Q : mj_P} (hm : G m = (1012, 0)) (hs : G s = (51100, 537)) (h6 : M.2.2 m 6 = some s) (hI0 : ab_Inv G M)
    (hQ : ∀ z M', ab_Inv G M' → ab_frm hn_WP G M M' → M'.1 m 2 = 0 → hn_F M' s 356 → Q (some (.inl z)) G M') (M1 : mj_M) (x : Int) (cb sb : Nat) (I1 : ab_Inv G M1) (F1 : ab_frm hn_WP G M M1) (L1 : M1.1 m 2 = 0) : mj_W sx_ms (mj_R mj_tab d) mt_X12_plain.2.2.2.2.1 Q (mt_X12_plain.2.2.2.2.1.drop 74) [some (.inr (.inr (some m))), some (.inl x)] [] G M1 cb sb := by
  obtain ⟨h, h7, hh⟩ := hn_rf (k := 7) (q := (52100, 221)) hI0 hm rfl (by decide) (by decide) (by decide) (fun e => absurd e (by decide))
  obtain ⟨nm, h9, hnm⟩ := hn_rf (k := 9) (q := (54103, 16)) hI0 hm rfl (by decide) (by decide) (by decide) (fun e => absurd e (by decide))
  have n1 : s ≠ m := hn_ne hs hm (by decide)
  refine mj_W.run (mj_R_mo _ _) 2 ?_
  refine r_plain_1 (d := d) hm hs hh h6 h7 (fun M2 cb sb I2 F2 L2 Z2 => ?_) 537 0 M1 cb sb rfl I1 F1 L1 (fun e => absurd e (by decide))
  have r9 : M2.2.2 m 9 = some nm := (F2 m 9 (by rw [hm]; exact hn_nc (by decide))).2.trans h9
  refine mj_W.run (mj_R_mo _ _) 2 ?_
  refine r_plain_2 (d := d) (M0 := M2) hm hnm r9 (fun M3 cb sb e1 e2 e5 => ?_) 8 0 M2 cb sb rfl rfl rfl (fun _ _ _ => rfl)
  have i3 : ab_Inv G M3 := hn_L I2 e1 e2 e5
  have F3 : ab_frm hn_WP G M M3 := fun a k hn => by rw [e1, e2]; exact F2 a k hn
  have fin : ∀ z v y : Int, mj_in z → mj_in v → Q (some (.inl y)) G (mj_p0 (mj_p0 (mj_p0 M3 m 28 0) m 26 z) m 25 v) := by
    intro z v y hz hv
    have i4 : ab_Inv G (mj_p0 M3 m 28 0) := i3.p0 (by rw [hm]; exact ⟨by decide, by decide⟩)
    have i5 : ab_Inv G (mj_p0 (mj_p0 M3 m 28 0) m 26 z) := i4.p0 (by rw [hm]; exact hn_ii hz)
    have i6 : ab_Inv G (mj_p0 (mj_p0 (mj_p0 M3 m 28 0) m 26 z) m 25 v) := i5.p0 (by rw [hm]; exact hn_ii hv)
    refine hQ y _ i6 (hn_f0 (hn_f0 (hn_f0 F3 ⟨(1012, 28, 28), by decide, by rw [hm], by decide, by decide⟩) ⟨(1012, 24, 26), by decide, by rw [hm], by decide, by decide⟩) ⟨(1012, 24, 26), by decide, by rw [hm], by decide, by decide⟩) ?_ ⟨0, 0, ?_, rfl⟩
    · exact (hn_n (Or.inr (by decide))).trans ((hn_n (Or.inr (by decide))).trans ((hn_n (Or.inr (by decide))).trans (by rw [e1]; exact L2)))
    · exact (hn_n (Or.inl n1)).trans ((hn_n (Or.inl n1)).trans ((hn_n (Or.inl n1)).trans (by rw [e1]; exact Z2)))
  refine mj_W.run (mj_R_mo _ _) 20 ?_
  refine hn_pi (fk := 28) (List.cons_ne_nil _ _) rfl rfl rfl hm (fun q => by cases q) ?_
  refine hn_gi (fk := 26) (List.cons_ne_nil _ _) rfl rfl rfl hm rfl ?_
  refine Or.inr (fun z hz _ => ?_)
  refine hn_pi (fk := 26) (List.cons_ne_nil _ _) rfl rfl rfl hm (fun q => by cases q) ?_
  refine hn_gi (fk := 26) (v := z) (List.cons_ne_nil _ _) rfl rfl rfl hm hn_s ?_
  refine hn_pi (fk := 25) (List.cons_ne_nil _ _) rfl rfl rfl hm (fun q => by cases q) ?_
  refine hn_gi (fk := 19) (List.cons_ne_nil _ _) rfl rfl rfl hm rfl ?_
  exact ⟨rfl, (fun e => by cases e), fin _ _ _ hz hz⟩
theorem hn_pl3 : (ab_c cx_X12_plain_a).all (fun b => Nat.beq b.2.2.length 3) = true := by decide +kernel
set_option maxRecDepth 100000 in
theorem r_plain {d m s : Nat} {G : mj_G} {M : mj_M} {Q : mj_P} (hm : G m = (1012, 0)) (hs : G s = (51100, 537)) (h6 : M.2.2 m 6 = some s) (hI : ab_Inv G M) (hF : hn_F M s 356)
    (hQ : ∀ z M', ab_Inv G M' → ab_frm hn_WP G M M' → M'.1 m 2 = 0 → hn_F M' s 356 → Q (some (.inl z)) G M') : mj_R mj_tab (d + 6) 226 [.inr (.inr (some m))] G M Q := by
  refine ab_seg (c := cx_X12_plain_a) (id := 214) (fun i => Nat.beq i 74) (by decide +kernel) xe_X12_plain_a (fun b hb => List.all_eq_true.mp xl_X12_plain_a b hb) (fun b hb b' hb' => ?_) (ab_all_ok 214 (Nat.le_refl _)) (dd := d + 5) (Nat.le_add_left _ _) (w0 := (1, hn_g [M.1 m 2], 1, fun _ => some m)) (hn_Y1 (by have := hI.1 m 2; rw [hm] at this; exact this)) (hn_RR hm) (fun e he => ?_) ⟨_, _, rfl, ⟨Nat.zero_lt_one, rfl⟩, rfl⟩ hI (fun r M' i f ⟨po, hp, h1⟩ => ?_) (fun b hb hex wb Lb Mb cb sb hg => ?_)
  · rw [sx_beq (List.all_eq_true.mp hn_pl3 b hb), sx_beq (List.all_eq_true.mp hn_pl3 b' hb')]
  · cases he with
    | head => exact ⟨Nat.zero_lt_one, m, 2, rfl, rfl, by decide, hn_I (Nat.le_of_ble_eq_true rfl) rfl⟩
    | tail _ he => cases he
  · cases hp with
    | head =>
      obtain ⟨⟨z, rfl, hz⟩, h2⟩ := h1
      obtain ⟨a, ha, hx⟩ := h2 _ (List.Mem.head _)
      cases ha
      exact hQ z M' i (hn_up f (by decide +kernel)) hx (hF.cg (fun k _ => (f s k (by rw [hs]; exact hn_nt (by decide +kernel))).1))
    | tail _ hp => cases hp
  · cases hb with
    | head => cases hex
    | tail _ hb => cases hb with
      | head => cases hex
      | tail _ hb => cases hb with
        | head => cases hex
        | tail _ hb => cases hb with
          | head =>
            obtain ⟨p1, p2, p3, p4, p5, p6, p7⟩ := hg
            obtain ⟨v, L', rfl, ⟨-, rfl⟩, v2, L2, rfl, ⟨z, rfl, -⟩, hL2⟩ := p4
            have hL2 : L2 = [] := hL2
            subst hL2
            have e0 : wb.2.2.2 0 = some m := p7.2.2.2 0 Nat.zero_lt_one
            obtain ⟨-, a, z2, ha, hz2, -, hv⟩ := p3 _ (List.Mem.tail _ (List.Mem.tail _ (List.Mem.head _)))
            have ha : wb.2.2.2 0 = some a := ha
            have hz2 : (2 : Int) = z2 := hz2
            have hv : (0 : Int) = Mb.1 a z2.toNat := hv
            cases e0.symm.trans ha
            subst hz2
            show mj_W sx_ms (mj_R mj_tab (d + 5)) mt_X12_plain.2.2.2.2.1 Q (mt_X12_plain.2.2.2.2.1.drop 74) [some (.inr (.inr (wb.2.2.2 0))), some (.inl z)] [] G Mb cb sb
            rw [e0]
            exact r_plain_t hm hs h6 hI hQ Mb z cb sb p5 (hn_up p6 (by decide +kernel)) hv.symm
          | tail _ hb => cases hb
end
