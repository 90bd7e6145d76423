section
/-! ===== contracts of public methods that tell more, laid by a program ===== -/
def cx_X11_feed_lo : ab_co := (124, 1, ([(.negSucc 2147483647, .ofNat 2147483647, []), (.negSucc 2147483647, .ofNat 2147483647, []), (.negSucc 2147483647, .ofNat 2147483647, []), (.negSucc 2147483647, .ofNat 2147483647, []), (.negSucc 2147483647, .ofNat 2147483647, []), (.ofNat 0, .ofNat 920, [])], [(1011, 0), (1008, 0)], [(0, 0, .inr (.inr 1)), (1, 1, .inl (.inr (5, 1, .ofNat 0)))], [some (.inr (.inr 0)), some (.inl (.inr (0, 1, .ofNat 0))), some (.inl (.inr (1, 1, .ofNat 0))), some (.inl (.inr (2, 1, .ofNat 0))), some (.inl (.inr (3, 1, .ofNat 0))), some (.inl (.inr (4, 1, .ofNat 0)))]), [(1008, 1, 1), (38101, 0, 939)], [(some (.inl (.inr (.inl (5, .ofNat 20)))), [(1, 1, .inr (.inl (5, .ofNat 20)))])], [], [])
def cx_X11_feed_hi : ab_co := (124, 1, ([(.negSucc 2147483647, .ofNat 2147483647, []), (.negSucc 2147483647, .ofNat 2147483647, []), (.negSucc 2147483647, .ofNat 2147483647, []), (.negSucc 2147483647, .ofNat 2147483647, []), (.negSucc 2147483647, .ofNat 2147483647, []), (.ofNat 921, .ofNat 940, [])], [(1011, 0), (1008, 0)], [(0, 0, .inr (.inr 1)), (1, 1, .inl (.inr (5, 1, .ofNat 0)))], [some (.inr (.inr 0)), some (.inl (.inr (0, 1, .ofNat 0))), some (.inl (.inr (1, 1, .ofNat 0))), some (.inl (.inr (2, 1, .ofNat 0))), some (.inl (.inr (3, 1, .ofNat 0))), some (.inl (.inr (4, 1, .ofNat 0)))]), [], [(some (.inl (.inl (.negSucc 0))), [(1, 1, .inr (.inl (5, .ofNat 0)))])], [], [])
def cx_X11_end_neg : ab_co := (121, 0, ([(.negSucc 2147483647, .negSucc 0, []), (.ofNat 0, .ofNat 940, [])], [(1011, 0), (1008, 0)], [(0, 0, .inr (.inr 1)), (1, 1, .inl (.inr (1, 1, .ofNat 0)))], [some (.inr (.inr 0)), some (.inl (.inr (0, 1, .ofNat 0)))]), [], [(some (.inl (.inl (.ofNat 0))), [(1, 1, .inr (.inl (1, .ofNat 0)))])], [], [])
def cx_X11_end_big : ab_co := (121, 0, ([(.ofNat 1, .ofNat 2147483647, [(1, .ofNat 1)]), (.ofNat 0, .ofNat 940, [])], [(1011, 0), (1008, 0)], [(0, 0, .inr (.inr 1)), (1, 1, .inl (.inr (1, 1, .ofNat 0)))], [some (.inr (.inr 0)), some (.inl (.inr (0, 1, .ofNat 0)))]), [], [(some (.inl (.inl (.ofNat 0))), [(1, 1, .inr (.inl (1, .ofNat 0)))])], [], [])
def cx_X11_end_fit : ab_co := (121, 0, ([(.ofNat 0, .ofNat 940, []), (.ofNat 0, .ofNat 940, [(0, .ofNat 0)])], [(1011, 0), (1008, 0)], [(0, 0, .inr (.inr 1)), (1, 1, .inl (.inr (1, 1, .ofNat 0)))], [some (.inr (.inr 0)), some (.inl (.inr (0, 1, .ofNat 0)))]), [(1008, 1, 1)], [(some (.inl (.inl (.ofNat 1))), [(1, 1, .inr (.inl (0, .ofNat 0)))])], [], [])
def cx_X11_plain_z : ab_co := (138, 7, ([(.ofNat 0, .ofNat 940, [])], [(1011, 0), (1008, 0)], [(0, 0, .inr (.inr 1)), (1, 1, .inl (.inr (0, 1, .ofNat 0)))], [some (.inr (.inr 0))]), [(1002, 3, 3), (1004, 4, 9), (1004, 11, 14), (1006, 4, 5), (1007, 0, 0), (1008, 1, 11), (1009, 3, 3), (1010, 0, 0), (1011, 12, 13), (16100, 0, 11), (17100, 0, 11), (18100, 0, 11), (24103, 0, 7), (26100, 0, 8), (28100, 0, 11), (29100, 0, 11), (30100, 0, 7)], [(some (.inl (.inr (.inr (.negSucc 2147483647, .ofNat 2147483647, none)))), [(1, 1, .inl (.ofNat 0))])], [], [])
def cx_X11_contracts_z : ab_co := (117, 7, ([(.ofNat 0, .ofNat 940, [])], [(1011, 0), (1008, 0)], [(0, 0, .inr (.inr 1)), (1, 1, .inl (.inr (0, 1, .ofNat 0)))], [some (.inr (.inr 0))]), [(1002, 3, 3), (1007, 1, 1), (1008, 1, 11), (1011, 12, 12), (16100, 0, 11), (17100, 0, 11), (18100, 0, 11)], [(some (.inl (.inr (.inr (.negSucc 2147483647, .ofNat 2147483647, none)))), [(1, 1, .inl (.ofNat 0))])], [], [])
def cx_X11_sentence_z : ab_co := (147, 30, ([(.ofNat 0, .ofNat 940, [])], [(1011, 0), (1008, 0)], [(0, 0, .inr (.inr 1)), (1, 1, .inl (.inr (0, 1, .ofNat 0)))], [some (.inr (.inr 0))]), [(1006, 4, 5), (1007, 2, 2), (1008, 1, 11), (1011, 12, 12), (34105, 0, 39), (35100, 0, 39), (36100, 0, 39)], [(some (.inl (.inr (.inr (.negSucc 2147483647, .ofNat 2147483647, none)))), [(1, 1, .inl (.ofNat 0))])], [], [])
def cx_X11_leaks_z : ab_co := (132, 5, ([(.ofNat 0, .ofNat 940, [])], [(1011, 0), (1008, 0)], [(0, 0, .inr (.inr 1)), (1, 1, .inl (.inr (0, 1, .ofNat 0)))], [some (.inr (.inr 0))]), [(1003, 1, 2), (1003, 5, 5), (1008, 1, 1), (2010, 0, 2), (2010, 7, 14), (20100, 0, 2), (21102, 0, 11), (23100, 0, 7), (73100, 0, 11), (74100, 0, 11), (75100, 0, 11), (77100, 0, 10)], [(some (.inl (.inr (.inr (.negSucc 2147483647, .ofNat 2147483647, none)))), [(1, 1, .inl (.ofNat 0))])], [], [])
def cx_X12_feed_lo : ab_co := (187, 1, ([(.negSucc 2147483647, .ofNat 2147483647, []), (.negSucc 2147483647, .ofNat 2147483647, []), (.negSucc 2147483647, .ofNat 2147483647, []), (.negSucc 2147483647, .ofNat 2147483647, []), (.negSucc 2147483647, .ofNat 2147483647, []), (.ofNat 0, .ofNat 920, [])], [(1012, 0)], [(0, 2, .inl (.inr (5, 1, .ofNat 0)))], [some (.inr (.inr 0)), some (.inl (.inr (0, 1, .ofNat 0))), some (.inl (.inr (1, 1, .ofNat 0))), some (.inl (.inr (2, 1, .ofNat 0))), some (.inl (.inr (3, 1, .ofNat 0))), some (.inl (.inr (4, 1, .ofNat 0)))]), [(1012, 0, 0), (1012, 2, 2), (50101, 0, 939)], [(some (.inl (.inr (.inl (5, .ofNat 20)))), [(0, 2, .inr (.inl (5, .ofNat 20)))])], [], [])
def cx_X12_feed_hi : ab_co := (187, 0, ([(.negSucc 2147483647, .ofNat 2147483647, []), (.negSucc 2147483647, .ofNat 2147483647, []), (.negSucc 2147483647, .ofNat 2147483647, []), (.negSucc 2147483647, .ofNat 2147483647, []), (.negSucc 2147483647, .ofNat 2147483647, []), (.ofNat 921, .ofNat 940, [])], [(1012, 0)], [(0, 2, .inl (.inr (5, 1, .ofNat 0)))], [some (.inr (.inr 0)), some (.inl (.inr (0, 1, .ofNat 0))), some (.inl (.inr (1, 1, .ofNat 0))), some (.inl (.inr (2, 1, .ofNat 0))), some (.inl (.inr (3, 1, .ofNat 0))), some (.inl (.inr (4, 1, .ofNat 0)))]), [(1012, 0, 0)], [(some (.inl (.inl (.negSucc 0))), [(0, 2, .inr (.inl (5, .ofNat 0)))])], [], [])
def cx_X12_end_neg : ab_co := (184, 0, ([(.negSucc 2147483647, .negSucc 0, []), (.ofNat 0, .ofNat 940, [])], [(1012, 0)], [(0, 2, .inl (.inr (1, 1, .ofNat 0)))], [some (.inr (.inr 0)), some (.inl (.inr (0, 1, .ofNat 0)))]), [(1012, 0, 0)], [(some (.inl (.inl (.ofNat 0))), [(0, 2, .inr (.inl (1, .ofNat 0)))])], [], [])
def cx_X12_end_big : ab_co := (184, 0, ([(.ofNat 1, .ofNat 2147483647, [(1, .ofNat 1)]), (.ofNat 0, .ofNat 940, [])], [(1012, 0)], [(0, 2, .inl (.inr (1, 1, .ofNat 0)))], [some (.inr (.inr 0)), some (.inl (.inr (0, 1, .ofNat 0)))]), [(1012, 0, 0)], [(some (.inl (.inl (.ofNat 0))), [(0, 2, .inr (.inl (1, .ofNat 0)))])], [], [])
def cx_X12_end_fit : ab_co := (184, 0, ([(.ofNat 0, .ofNat 940, []), (.ofNat 0, .ofNat 940, [(0, .ofNat 0)])], [(1012, 0)], [(0, 2, .inl (.inr (1, 1, .ofNat 0)))], [some (.inr (.inr 0)), some (.inl (.inr (0, 1, .ofNat 0)))]), [(1012, 0, 0), (1012, 2, 2)], [(some (.inl (.inl (.ofNat 1))), [(0, 2, .inr (.inl (0, .ofNat 0)))])], [], [])
def cx_X12_contracts_z : ab_co := (177, 4, ([(.ofNat 0, .ofNat 940, [])], [(1012, 0)], [(0, 2, .inl (.inr (0, 1, .ofNat 0)))], [some (.inr (.inr 0))]), [(1012, 0, 0), (1012, 2, 5), (1012, 11, 18), (51100, 184, 220), (53100, 0, 35)], [(some (.inl (.inr (.inr (.negSucc 2147483647, .ofNat 2147483647, none)))), [(0, 2, .inl (.ofNat 0))])], [(25, ([(.ofNat 0, .ofNat 940, []), (.negSucc 2147483647, .ofNat 2147483647, []), (.ofNat 0, .ofNat 9, []), (.ofNat 0, .ofNat 8, []), (.ofNat 0, .ofNat 9, []), (.ofNat 0, .ofNat 8, []), (.ofNat 0, .ofNat 9, []), (.ofNat 0, .ofNat 8, []), (.ofNat 0, .ofNat 9, []), (.ofNat 0, .ofNat 8, []), (.ofNat 0, .ofNat 9, []), (.ofNat 0, .ofNat 8, []), (.ofNat 0, .ofNat 9, []), (.ofNat 0, .ofNat 8, []), (.ofNat 0, .ofNat 9, []), (.ofNat 0, .ofNat 8, []), (.ofNat 0, .ofNat 9, []), (.ofNat 0, .ofNat 8, []), (.ofNat 0, .ofNat 9, []), (.ofNat 0, .ofNat 8, []), (.ofNat 0, .ofNat 9, []), (.ofNat 0, .ofNat 8, []), (.ofNat 0, .ofNat 9, []), (.ofNat 0, .ofNat 8, []), (.ofNat 0, .ofNat 9, []), (.ofNat 0, .ofNat 8, []), (.ofNat 0, .ofNat 940, []), (.ofNat 0, .ofNat 4, [])], [(1012, 0), (53100, 135)], [(0, 0, .inl (.inl (.ofNat 0))), (0, 3, .inl (.inr (0, 1, .ofNat 0))), (0, 2, .inl (.inl (.ofNat 0))), (0, 5, .inl (.inl (.ofNat 400))), (0, 8, .inr (.inr 1)), (1, 0, .inl (.inr (2, 1, .ofNat 0))), (1, 1, .inl (.inr (3, 1, .ofNat 0))), (1, 3, .inl (.inr (4, 1, .ofNat 0))), (1, 4, .inl (.inr (5, 1, .ofNat 0))), (1, 6, .inl (.inr (6, 1, .ofNat 0))), (1, 7, .inl (.inr (7, 1, .ofNat 0))), (1, 9, .inl (.inr (8, 1, .ofNat 0))), (1, 10, .inl (.inr (9, 1, .ofNat 0))), (1, 12, .inl (.inr (10, 1, .ofNat 0))), (1, 13, .inl (.inr (11, 1, .ofNat 0))), (1, 15, .inl (.inr (12, 1, .ofNat 0))), (1, 16, .inl (.inr (13, 1, .ofNat 0))), (1, 18, .inl (.inr (14, 1, .ofNat 0))), (1, 19, .inl (.inr (15, 1, .ofNat 0))), (1, 21, .inl (.inr (16, 1, .ofNat 0))), (1, 22, .inl (.inr (17, 1, .ofNat 0))), (1, 24, .inl (.inr (18, 1, .ofNat 0))), (1, 25, .inl (.inr (19, 1, .ofNat 0))), (1, 27, .inl (.inr (20, 1, .ofNat 0))), (1, 28, .inl (.inr (21, 1, .ofNat 0))), (1, 30, .inl (.inr (22, 1, .ofNat 0))), (1, 31, .inl (.inr (23, 1, .ofNat 0))), (1, 33, .inl (.inr (24, 1, .ofNat 0))), (1, 34, .inl (.inr (25, 1, .ofNat 0))), (0, 4, .inl (.inr (26, 1, .ofNat 0))), (0, 11, .inl (.inr (27, 1, .ofNat 0)))], [some (.inr (.inr 0)), some (.inl (.inr (1, 1, .ofNat 0))), none]), [(.inl (.ofNat 999975), 0), (.inr (26, 1, .ofNat 0), 1), (.inl (.ofNat 1000000000), 0)])], [])
def cx_X12_leaks_z : ab_co := (210, 5, ([(.ofNat 0, .ofNat 940, [])], [(1012, 0)], [(0, 2, .inl (.inr (0, 1, .ofNat 0)))], [some (.inr (.inr 0))]), [(1012, 0, 0), (1012, 2, 5), (1012, 29, 34), (1012, 49, 49), (51100, 221, 355), (64100, 0, 134), (66100, 0, 119)], [(some (.inl (.inr (.inr (.negSucc 2147483647, .ofNat 2147483647, none)))), [(0, 2, .inl (.ofNat 0))])], [(42, ([(.ofNat 0, .ofNat 940, []), (.ofNat 0, .ofNat 85, []), (.ofNat 0, .ofNat 99, [])], [(1012, 0), (51100, 537)], [(0, 0, .inl (.inl (.ofNat 0))), (0, 3, .inl (.inr (0, 1, .ofNat 0))), (0, 2, .inl (.inl (.ofNat 0))), (0, 4, .inl (.inl (.ofNat 0))), (0, 5, .inl (.inl (.ofNat 940))), (0, 6, .inr (.inr 1)), (1, 0, .inl (.inl (.ofNat 5)))], [some (.inr (.inr 0)), some (.inl (.inl (.ofNat 11))), some (.inl (.inr (1, 1, .ofNat 0))), some (.inl (.inr (2, 1, .ofNat 0))), none, none, none]), [(.inl (.ofNat 999958), 0), (.inr (2, 1, .ofNat 0), 1), (.inl (.ofNat 1000000000), 0), (.inl (.ofNat 0), 0), (.inl (.ofNat 0), 0), (.inl (.ofNat 0), 0), (.inl (.ofNat 0), 0)]), (42, ([(.ofNat 0, .ofNat 940, []), (.ofNat 0, .ofNat 72, []), (.ofNat 0, .ofNat 81, [])], [(1012, 0), (51100, 537)], [(0, 0, .inl (.inl (.ofNat 0))), (0, 3, .inl (.inr (0, 1, .ofNat 0))), (0, 2, .inl (.inl (.ofNat 0))), (0, 4, .inl (.inl (.ofNat 0))), (0, 5, .inl (.inl (.ofNat 940))), (0, 6, .inr (.inr 1)), (1, 0, .inl (.inl (.ofNat 6)))], [some (.inr (.inr 0)), some (.inl (.inl (.ofNat 13))), some (.inl (.inr (1, 1, .ofNat 0))), some (.inl (.inr (2, 1, .ofNat 0))), none, none, none]), [(.inl (.ofNat 999958), 0), (.inr (2, 1, .ofNat 0), 1), (.inl (.ofNat 1000000000), 0), (.inl (.ofNat 0), 0), (.inl (.ofNat 0), 0), (.inl (.ofNat 0), 0), (.inl (.ofNat 0), 0)]), (42, ([(.ofNat 0, .ofNat 940, []), (.ofNat 0, .ofNat 62, []), (.ofNat 0, .ofNat 81, [])], [(1012, 0), (51100, 537)], [(0, 0, .inl (.inl (.ofNat 0))), (0, 3, .inl (.inr (0, 1, .ofNat 0))), (0, 2, .inl (.inl (.ofNat 0))), (0, 4, .inl (.inl (.ofNat 0))), (0, 5, .inl (.inl (.ofNat 940))), (0, 6, .inr (.inr 1)), (1, 0, .inl (.inl (.ofNat 7)))], [some (.inr (.inr 0)), some (.inl (.inl (.ofNat 15))), some (.inl (.inr (1, 1, .ofNat 0))), some (.inl (.inr (2, 1, .ofNat 0))), none, none, none]), [(.inl (.ofNat 999958), 0), (.inr (2, 1, .ofNat 0), 1), (.inl (.ofNat 1000000000), 0), (.inl (.ofNat 0), 0), (.inl (.ofNat 0), 0), (.inl (.ofNat 0), 0), (.inl (.ofNat 0), 0)]), (42, ([(.ofNat 0, .ofNat 940, []), (.ofNat 0, .ofNat 55, []), (.ofNat 0, .ofNat 81, [])], [(1012, 0), (51100, 537)], [(0, 0, .inl (.inl (.ofNat 0))), (0, 3, .inl (.inr (0, 1, .ofNat 0))), (0, 2, .inl (.inl (.ofNat 0))), (0, 4, .inl (.inl (.ofNat 0))), (0, 5, .inl (.inl (.ofNat 940))), (0, 6, .inr (.inr 1)), (1, 0, .inl (.inl (.ofNat 8)))], [some (.inr (.inr 0)), some (.inl (.inl (.ofNat 17))), some (.inl (.inr (1, 1, .ofNat 0))), some (.inl (.inr (2, 1, .ofNat 0))), none, none, none]), [(.inl (.ofNat 999958), 0), (.inr (2, 1, .ofNat 0), 1), (.inl (.ofNat 1000000000), 0), (.inl (.ofNat 0), 0), (.inl (.ofNat 0), 0), (.inl (.ofNat 0), 0), (.inl (.ofNat 0), 0)]), (42, ([(.ofNat 0, .ofNat 940, []), (.ofNat 0, .ofNat 313, []), (.ofNat 0, .ofNat 400, [])], [(1012, 0), (51100, 537)], [(0, 0, .inl (.inl (.ofNat 0))), (0, 3, .inl (.inr (0, 1, .ofNat 0))), (0, 2, .inl (.inl (.ofNat 0))), (0, 4, .inl (.inl (.ofNat 0))), (0, 5, .inl (.inl (.ofNat 940))), (0, 6, .inr (.inr 1)), (1, 0, .inl (.inl (.ofNat 1)))], [some (.inr (.inr 0)), some (.inl (.inl (.ofNat 3))), some (.inl (.inr (1, 1, .ofNat 0))), some (.inl (.inr (2, 1, .ofNat 0))), none, none, none]), [(.inl (.ofNat 999958), 0), (.inr (2, 1, .ofNat 0), 1), (.inl (.ofNat 1000000000), 0), (.inl (.ofNat 0), 0), (.inl (.ofNat 0), 0), (.inl (.ofNat 0), 0), (.inl (.ofNat 0), 0)]), (42, ([(.ofNat 0, .ofNat 940, []), (.ofNat 0, .ofNat 188, []), (.ofNat 0, .ofNat 200, [])], [(1012, 0), (51100, 537)], [(0, 0, .inl (.inl (.ofNat 0))), (0, 3, .inl (.inr (0, 1, .ofNat 0))), (0, 2, .inl (.inl (.ofNat 0))), (0, 4, .inl (.inl (.ofNat 0))), (0, 5, .inl (.inl (.ofNat 940))), (0, 6, .inr (.inr 1)), (1, 0, .inl (.inl (.ofNat 2)))], [some (.inr (.inr 0)), some (.inl (.inl (.ofNat 5))), some (.inl (.inr (1, 1, .ofNat 0))), some (.inl (.inr (2, 1, .ofNat 0))), none, none, none]), [(.inl (.ofNat 999958), 0), (.inr (2, 1, .ofNat 0), 1), (.inl (.ofNat 1000000000), 0), (.inl (.ofNat 0), 0), (.inl (.ofNat 0), 0), (.inl (.ofNat 0), 0), (.inl (.ofNat 0), 0)]), (42, ([(.ofNat 0, .ofNat 940, []), (.ofNat 0, .ofNat 134, []), (.ofNat 0, .ofNat 134, [])], [(1012, 0), (51100, 537)], [(0, 0, .inl (.inl (.ofNat 0))), (0, 3, .inl (.inr (0, 1, .ofNat 0))), (0, 2, .inl (.inl (.ofNat 0))), (0, 4, .inl (.inl (.ofNat 0))), (0, 5, .inl (.inl (.ofNat 940))), (0, 6, .inr (.inr 1)), (1, 0, .inl (.inl (.ofNat 3)))], [some (.inr (.inr 0)), some (.inl (.inl (.ofNat 7))), some (.inl (.inr (1, 1, .ofNat 0))), some (.inl (.inr (2, 1, .ofNat 0))), none, none, none]), [(.inl (.ofNat 999958), 0), (.inr (2, 1, .ofNat 0), 1), (.inl (.ofNat 1000000000), 0), (.inl (.ofNat 0), 0), (.inl (.ofNat 0), 0), (.inl (.ofNat 0), 0), (.inl (.ofNat 0), 0)]), (42, ([(.ofNat 0, .ofNat 940, []), (.ofNat 0, .ofNat 104, []), (.ofNat 0, .ofNat 134, [])], [(1012, 0), (51100, 537)], [(0, 0, .inl (.inl (.ofNat 0))), (0, 3, .inl (.inr (0, 1, .ofNat 0))), (0, 2, .inl (.inl (.ofNat 0))), (0, 4, .inl (.inl (.ofNat 0))), (0, 5, .inl (.inl (.ofNat 940))), (0, 6, .inr (.inr 1)), (1, 0, .inl (.inl (.ofNat 4)))], [some (.inr (.inr 0)), some (.inl (.inl (.ofNat 9))), some (.inl (.inr (1, 1, .ofNat 0))), some (.inl (.inr (2, 1, .ofNat 0))), none, none, none]), [(.inl (.ofNat 999958), 0), (.inr (2, 1, .ofNat 0), 1), (.inl (.ofNat 1000000000), 0), (.inl (.ofNat 0), 0), (.inl (.ofNat 0), 0), (.inl (.ofNat 0), 0), (.inl (.ofNat 0), 0)]), (80, ([(.ofNat 0, .ofNat 940, []), (.ofNat 3, .ofNat 20, []), (.ofNat 0, .ofNat 400, []), (.negSucc 2147483647, .ofNat 2147483647, []), (.ofNat 0, .ofNat 8, []), (.ofNat 1, .ofNat 8, []), (.ofNat 0, .ofNat 40, [])], [(1012, 0), (51100, 537)], [(0, 0, .inl (.inl (.ofNat 0))), (0, 3, .inl (.inr (0, 1, .ofNat 0))), (0, 2, .inl (.inl (.ofNat 0))), (0, 4, .inl (.inl (.ofNat 0))), (0, 5, .inl (.inl (.ofNat 940))), (0, 6, .inr (.inr 1)), (1, 0, .inl (.inr (5, 1, .ofNat 0))), (0, 49, .inl (.inr (6, 1, .ofNat 0)))], [some (.inr (.inr 0)), some (.inl (.inr (1, 1, .ofNat 0))), some (.inl (.inr (2, 1, .ofNat 0))), some (.inl (.inr (3, 1, .ofNat 0))), some (.inl (.inr (4, 1, .ofNat 0))), none, none]), [(.inl (.ofNat 999920), 0), (.inr (4, 1, .ofNat 0), 1), (.inl (.ofNat 1000000000), 0), (.inl (.ofNat 0), 0), (.inl (.ofNat 0), 0), (.inl (.ofNat 0), 0), (.inl (.ofNat 0), 0)]), (88, ([(.ofNat 0, .ofNat 940, []), (.ofNat 3, .ofNat 20, []), (.ofNat 0, .ofNat 400, []), (.negSucc 2147483647, .ofNat 2147483647, []), (.ofNat 0, .ofNat 7, []), (.ofNat 0, .ofNat 12, []), (.ofNat 1, .ofNat 8, []), (.ofNat 0, .ofNat 40, [])], [(1012, 0), (51100, 537)], [(0, 0, .inl (.inl (.ofNat 0))), (0, 3, .inl (.inr (0, 1, .ofNat 0))), (0, 2, .inl (.inl (.ofNat 0))), (0, 4, .inl (.inl (.ofNat 0))), (0, 5, .inl (.inl (.ofNat 940))), (0, 6, .inr (.inr 1)), (1, 0, .inl (.inr (6, 1, .ofNat 0))), (0, 49, .inl (.inr (7, 1, .ofNat 0)))], [some (.inr (.inr 0)), some (.inl (.inr (1, 1, .ofNat 0))), some (.inl (.inr (2, 1, .ofNat 0))), some (.inl (.inr (3, 1, .ofNat 0))), some (.inl (.inr (4, 1, .ofNat 0))), some (.inl (.inr (5, 1, .ofNat 0))), none]), [(.inl (.ofNat 999920), 0), (.inr (4, 1, .ofNat 0), 1), (.inl (.ofNat 999912), 0), (.inr (5, 1, .ofNat 0), 1), (.inl (.ofNat 1000000000), 0), (.inl (.ofNat 0), 0), (.inl (.ofNat 0), 0)]), (93, ([(.ofNat 0, .ofNat 940, []), (.ofNat 3, .ofNat 20, []), (.ofNat 0, .ofNat 400, []), (.negSucc 2147483647, .ofNat 2147483647, []), (.ofNat 0, .ofNat 7, []), (.ofNat 0, .ofNat 11, []), (.ofNat 1, .ofNat 11, []), (.ofNat 1, .ofNat 8, []), (.ofNat 0, .ofNat 40, [])], [(1012, 0), (51100, 537)], [(0, 0, .inl (.inl (.ofNat 0))), (0, 3, .inl (.inr (0, 1, .ofNat 0))), (0, 2, .inl (.inl (.ofNat 0))), (0, 4, .inl (.inl (.ofNat 0))), (0, 5, .inl (.inl (.ofNat 940))), (0, 6, .inr (.inr 1)), (1, 0, .inl (.inr (7, 1, .ofNat 0))), (0, 49, .inl (.inr (8, 1, .ofNat 0)))], [some (.inr (.inr 0)), some (.inl (.inr (1, 1, .ofNat 0))), some (.inl (.inr (2, 1, .ofNat 0))), some (.inl (.inr (3, 1, .ofNat 0))), some (.inl (.inr (4, 1, .ofNat 0))), some (.inl (.inr (5, 1, .ofNat 0))), some (.inl (.inr (6, 1, .ofNat 0)))]), [(.inl (.ofNat 999920), 0), (.inr (4, 1, .ofNat 0), 1), (.inl (.ofNat 999912), 0), (.inr (5, 1, .ofNat 0), 1), (.inl (.ofNat 999907), 0), (.inr (6, 1, .ofNat 0), 1), (.inl (.ofNat 1000000000), 0)])], [(210, 11)])
def cx_X12_plain_a : ab_co := (226, 5, ([(.ofNat 0, .ofNat 940, [])], [(1012, 0)], [(0, 2, .inl (.inr (0, 1, .ofNat 0)))], [some (.inr (.inr 0))]), [(1012, 0, 0), (1012, 2, 5), (1012, 11, 22), (1012, 24, 24), (52100, 0, 220), (54103, 8, 15), (56100, 0, 3)], [(some (.inl (.inr (.inr (.negSucc 2147483647, .ofNat 2147483647, none)))), [(0, 2, .inl (.ofNat 0))])], [(23, ([(.ofNat 0, .ofNat 940, []), (.ofNat 0, .ofNat 6, [])], [(1012, 0)], [(0, 0, .inl (.inl (.ofNat 0))), (0, 3, .inl (.inr (0, 1, .ofNat 0))), (0, 2, .inl (.inl (.ofNat 0))), (0, 4, .inl (.inl (.ofNat 0))), (0, 5, .inl (.inl (.ofNat 900))), (0, 15, .inl (.inl (.ofNat 0))), (0, 19, .inl (.inl (.ofNat 0))), (0, 20, .inl (.inl (.ofNat 0))), (0, 21, .inl (.inl (.ofNat 0))), (0, 22, .inl (.inl (.ofNat 0)))], [some (.inr (.inr 0)), some (.inl (.inr (1, 1, .ofNat 0)))]), [(.inl (.ofNat 999977), 0), (.inr (1, 1, .ofNat 0), 1), (.inl (.ofNat 1000000000), 0)]), (35, ([(.ofNat 0, .ofNat 940, []), (.ofNat 0, .ofNat 221, [])], [(1012, 0)], [(0, 0, .inl (.inl (.ofNat 0))), (0, 3, .inl (.inr (0, 1, .ofNat 0))), (0, 2, .inl (.inl (.ofNat 0))), (0, 4, .inl (.inl (.ofNat 0))), (0, 5, .inl (.inl (.ofNat 900))), (0, 15, .inl (.inl (.ofNat 0))), (0, 19, .inl (.inl (.ofNat 0))), (0, 20, .inl (.inl (.ofNat 0))), (0, 21, .inl (.inl (.ofNat 0))), (0, 22, .inl (.inl (.ofNat 0)))], [some (.inr (.inr 0)), some (.inl (.inr (1, 1, .ofNat 0)))]), [(.inl (.ofNat 999965), 0), (.inr (1, 1, .ofNat 0), 1), (.inl (.ofNat 1000000000), 0)]), (52, ([(.ofNat 0, .ofNat 940, []), (.negSucc 2147483647, .ofNat 2147483647, []), (.ofNat 0, .ofNat 940, []), (.ofNat 0, .ofNat 4, [])], [(1012, 0), (52100, 221)], [(0, 0, .inl (.inl (.ofNat 0))), (0, 3, .inl (.inr (0, 1, .ofNat 0))), (0, 2, .inl (.inl (.ofNat 0))), (0, 5, .inl (.inl (.ofNat 900))), (0, 19, .inl (.inr (1, 1, .ofNat 0))), (0, 7, .inr (.inr 1)), (0, 4, .inl (.inr (2, 1, .ofNat 0))), (0, 11, .inl (.inr (3, 1, .ofNat 0)))], [some (.inr (.inr 0)), some (.inl (.inl (.ofNat 221)))]), [(.inl (.ofNat 999948), 0), (.inr (2, 1, .ofNat 0), 1), (.inl (.ofNat 1000000000), 0)]), (74, ([(.ofNat 0, .ofNat 940, []), (.negSucc 2147483647, .ofNat 2147483647, []), (.ofNat 0, .ofNat 940, [])], [(1012, 0), (52100, 221)], [(0, 0, .inl (.inl (.ofNat 0))), (0, 3, .inl (.inr (0, 1, .ofNat 0))), (0, 2, .inl (.inl (.ofNat 0))), (0, 5, .inl (.inl (.ofNat 900))), (0, 19, .inl (.inr (1, 1, .ofNat 0))), (0, 7, .inr (.inr 1)), (0, 4, .inl (.inr (2, 1, .ofNat 0))), (0, 11, .inl (.inl (.ofNat 0)))], [some (.inr (.inr 0)), some (.inl (.inl (.ofNat 221)))]), [(.inl (.ofNat 999926), 0), (.inl (.ofNat 0), 0), (.inl (.ofNat 1000000000), 0)])], [])
def cx_X12_isWord : ab_co := (206, 0, ([], [(1012, 0)], [], [some (.inr (.inr 0)), some (.inr (.inl ()))]), [], [(some (.inl (.inl (.ofNat 0))), []), (some (.inl (.inl (.ofNat 1))), [])], [], [])
def cx_X12_isSign : ab_co := (203, 0, ([(.negSucc 2147483647, .ofNat 2147483647, [])], [(1012, 0)], [], [some (.inr (.inr 0)), some (.inl (.inr (0, 1, .ofNat 0)))]), [], [(some (.inl (.inl (.ofNat 0))), []), (some (.inl (.inl (.ofNat 1))), [])], [], [])
def cx_X12_leafOf : ab_co := (208, 1, ([], [(1012, 0)], [], [some (.inr (.inr 0))]), [], [(some (.inl (.inr (.inr (.negSucc 0, .ofNat 8, none)))), [])], [], [])
def cx_X12_bad : ab_co := (161, 0, ([(.negSucc 2147483647, .ofNat 2147483647, [])], [(1012, 0)], [], [some (.inr (.inr 0)), some (.inl (.inr (0, 1, .ofNat 0)))]), [(1012, 15, 16)], [(some (.inl (.inl (.ofNat 0))), [])], [], [])
def cx_X12_taken : ab_co := (245, 0, ([(.negSucc 2147483647, .ofNat 2147483647, [])], [(1012, 0)], [], [some (.inr (.inr 0)), some (.inl (.inr (0, 1, .ofNat 0)))]), [(1012, 2, 5)], [(none, [(0, 2, .inl (.ofNat 0))])], [], [])
def cx_X12_next : ab_co := (216, 1, ([(.ofNat 0, .ofNat 940, []), (.negSucc 2147483647, .ofNat 2147483647, [])], [(1012, 0)], [(0, 4, .inl (.inr (0, 1, .ofNat 0))), (0, 13, .inl (.inr (1, 1, .ofNat 0)))], [some (.inr (.inr 0))]), [(1012, 4, 4), (1012, 11, 14), (1012, 17, 17)], [(none, [(0, 4, .inr (.inr (.ofNat 0, .ofNat 940, some (0, .ofNat 0)))), (0, 11, .inl (.ofNat 0))]), (none, [(0, 4, .inr (.inr (.ofNat 0, .ofNat 940, some (0, .ofNat 0)))), (0, 11, .inl (.ofNat 1))]), (none, [(0, 4, .inr (.inr (.ofNat 0, .ofNat 940, some (0, .ofNat 0)))), (0, 11, .inl (.ofNat 2))]), (none, [(0, 4, .inr (.inr (.ofNat 1, .ofNat 940, some (0, .ofNat 1)))), (0, 11, .inl (.ofNat 3))]), (none, [(0, 4, .inr (.inr (.ofNat 0, .ofNat 940, some (0, .ofNat 0)))), (0, 11, .inl (.ofNat 4))])], [(0, ([(.ofNat 0, .ofNat 939, []), (.negSucc 2147483647, .ofNat 2147483647, []), (.ofNat 1, .ofNat 940, [(0, .ofNat 1)]), (.ofNat 1, .ofNat 940, [(0, .ofNat 1)])], [(1012, 0), (50101, 940)], [(0, 13, .inl (.inr (1, 1, .ofNat 0))), (0, 3, .inl (.inr (2, 1, .ofNat 0))), (0, 1, .inr (.inr 1)), (0, 4, .inl (.inr (3, 1, .ofNat 0)))], [some (.inr (.inr 0)), none, none, none]), [(.inl (.ofNat 1000000), 0), (.inr (3, 1, .ofNat 0), 1), (.inl (.ofNat 1000000000), 0)]), (96, ([(.ofNat 0, .ofNat 939, []), (.negSucc 2147483647, .ofNat 2147483647, []), (.ofNat 48, .ofNat 122, []), (.ofNat 0, .ofNat 1, []), (.ofNat 0, .ofNat 939, [(0, .ofNat 0)]), (.ofNat 1, .ofNat 940, [(0, .ofNat 1)]), (.ofNat 1, .ofNat 2147483647, [(0, .ofNat 1)])], [(1012, 0), (50101, 940)], [(0, 4, .inl (.inr (4, 1, .ofNat 0))), (0, 3, .inl (.inr (5, 1, .ofNat 0))), (0, 1, .inr (.inr 1)), (0, 12, .inl (.inr (4, 1, .ofNat 0))), (0, 13, .inl (.inl (.ofNat 0))), (0, 5, .inl (.inr (6, 1, .ofNat 0))), (0, 14, .inl (.inl (.ofNat 0)))], [some (.inr (.inr 0)), some (.inl (.inr (2, 1, .ofNat 0))), some (.inl (.inr (3, 1, .ofNat 0))), some (.inl (.inl (.ofNat 1)))]), [(.inl (.ofNat 999904), 0), (.inr (4, 1, .ofNat 0), 1), (.inl (.ofNat 1000000000), 0)]), (96, ([(.ofNat 0, .ofNat 939, []), (.negSucc 2147483647, .ofNat 2147483647, []), (.ofNat 48, .ofNat 122, []), (.ofNat 0, .ofNat 1, []), (.ofNat 0, .ofNat 1, []), (.ofNat 1, .ofNat 940, [(0, .ofNat 1)]), (.ofNat 0, .ofNat 939, [(0, .ofNat 0)]), (.ofNat 1, .ofNat 2147483647, [(0, .ofNat 1)]), (.ofNat 0, .ofNat 74, []), (.ofNat 1, .ofNat 940, [(0, .ofNat 1)])], [(1012, 0), (50101, 940)], [(0, 3, .inl (.inr (5, 1, .ofNat 0))), (0, 1, .inr (.inr 1)), (0, 12, .inl (.inr (6, 1, .ofNat 0))), (0, 5, .inl (.inr (7, 1, .ofNat 0))), (0, 14, .inl (.inr (8, 1, .ofNat 0))), (0, 13, .inl (.inl (.ofNat 1))), (0, 4, .inl (.inr (9, 1, .ofNat 0)))], [some (.inr (.inr 0)), some (.inl (.inr (2, 1, .ofNat 0))), some (.inl (.inr (3, 1, .ofNat 0))), some (.inl (.inr (4, 1, .ofNat 0)))]), [(.inl (.ofNat 999904), 0), (.inr (9, 1, .ofNat 0), 1), (.inl (.ofNat 1000000000), 0)]), (96, ([(.ofNat 0, .ofNat 939, []), (.negSucc 2147483647, .ofNat 2147483647, []), (.ofNat 48, .ofNat 122, []), (.ofNat 0, .ofNat 1, []), (.ofNat 0, .ofNat 1, []), (.ofNat 2, .ofNat 940, [(0, .ofNat 2)]), (.ofNat 0, .ofNat 939, [(0, .ofNat 0)]), (.ofNat 1, .ofNat 2147483647, [(0, .ofNat 1)]), (.ofNat 0, .ofNat 814, []), (.ofNat 2, .ofNat 940, [(0, .ofNat 2)])], [(1012, 0), (50101, 940)], [(0, 3, .inl (.inr (5, 1, .ofNat 0))), (0, 1, .inr (.inr 1)), (0, 12, .inl (.inr (6, 1, .ofNat 0))), (0, 5, .inl (.inr (7, 1, .ofNat 0))), (0, 14, .inl (.inr (8, 1, .ofNat 0))), (0, 13, .inl (.inl (.ofNat 2))), (0, 4, .inl (.inr (9, 1, .ofNat 0)))], [some (.inr (.inr 0)), some (.inl (.inr (2, 1, .ofNat 0))), some (.inl (.inr (3, 1, .ofNat 0))), some (.inl (.inr (4, 1, .ofNat 0)))]), [(.inl (.ofNat 999904), 0), (.inr (9, 1, .ofNat 0), 1), (.inl (.ofNat 1000000000), 0)]), (96, ([(.ofNat 0, .ofNat 939, []), (.negSucc 2147483647, .ofNat 2147483647, []), (.ofNat 48, .ofNat 122, []), (.ofNat 0, .ofNat 1, []), (.ofNat 0, .ofNat 1, []), (.ofNat 3, .ofNat 940, [(0, .ofNat 3)]), (.ofNat 0, .ofNat 939, [(0, .ofNat 0)]), (.ofNat 1, .ofNat 2147483647, [(0, .ofNat 1)]), (.ofNat 0, .ofNat 8214, []), (.ofNat 3, .ofNat 945, []), (.ofNat 3, .ofNat 940, [(0, .ofNat 3), (9, .negSucc 4)])], [(1012, 0), (50101, 940)], [(0, 3, .inl (.inr (5, 1, .ofNat 0))), (0, 1, .inr (.inr 1)), (0, 12, .inl (.inr (6, 1, .ofNat 0))), (0, 5, .inl (.inr (7, 1, .ofNat 0))), (0, 14, .inl (.inr (8, 1, .ofNat 0))), (0, 13, .inl (.inr (9, 1, .ofNat 0))), (0, 4, .inl (.inr (10, 1, .ofNat 0)))], [some (.inr (.inr 0)), some (.inl (.inr (2, 1, .ofNat 0))), some (.inl (.inr (3, 1, .ofNat 0))), some (.inl (.inr (4, 1, .ofNat 0)))]), [(.inl (.ofNat 999904), 0), (.inr (10, 1, .ofNat 0), 1), (.inl (.ofNat 1000000000), 0)])], [])
def cx_X12_isLeaf : ab_co := (199, 1, ([(.ofNat 0, .ofNat 7, []), (.negSucc 2147483647, .ofNat 2147483647, []), (.negSucc 2147483647, .ofNat 2147483647, []), (.negSucc 2147483647, .ofNat 2147483647, [])], [(1012, 0)], [], [some (.inr (.inr 0)), some (.inl (.inr (0, 1, .ofNat 0))), some (.inl (.inr (1, 1, .ofNat 0))), some (.inl (.inr (2, 1, .ofNat 0))), some (.inl (.inr (3, 1, .ofNat 0)))]), [], [(some (.inl (.inl (.ofNat 0))), []), (some (.inl (.inl (.ofNat 1))), [])], [], [])
def cx_X12_isIn : ab_co := (198, 0, ([(.negSucc 2147483647, .ofNat 2147483647, []), (.negSucc 2147483647, .ofNat 2147483647, []), (.negSucc 2147483647, .ofNat 2147483647, [])], [], [], [some (.inl (.inr (0, 1, .ofNat 0))), some (.inl (.inr (1, 1, .ofNat 0))), some (.inl (.inr (2, 1, .ofNat 0)))]), [], [(some (.inl (.inl (.ofNat 0))), []), (some (.inl (.inl (.ofNat 1))), [])], [], [])
def cx_X11_image_neg : ab_co := (127, 0, ([(.negSucc 2147483647, .negSucc 0, []), (.ofNat 0, .ofNat 1, []), (.ofNat 0, .ofNat 1, [])], [(1011, 0), (48102, 2)], [(0, 4, .inr (.inr 1)), (1, 0, .inl (.inr (1, 1, .ofNat 0))), (1, 1, .inl (.inr (2, 1, .ofNat 0)))], [some (.inr (.inr 0)), some (.inl (.inr (0, 1, .ofNat 0)))]), [], [(some (.inl (.inl (.ofNat 0))), [(1, 0, .inr (.inl (1, .ofNat 0))), (1, 1, .inr (.inl (2, .ofNat 0)))])], [], [])
def cx_X11_image_0 : ab_co := (127, 2, ([(.ofNat 0, .ofNat 1, []), (.ofNat 0, .ofNat 1, [])], [(1011, 0), (48102, 2)], [(0, 4, .inr (.inr 1)), (1, 0, .inl (.inr (0, 1, .ofNat 0))), (1, 1, .inl (.inr (1, 1, .ofNat 0)))], [some (.inr (.inr 0)), some (.inl (.inl (.ofNat 0)))]), [(1002, 3, 3), (1004, 4, 9), (1006, 4, 5), (1010, 0, 2), (1010, 7, 14), (16100, 0, 11), (17100, 0, 11), (18100, 0, 11), (24103, 0, 7), (26100, 0, 8), (28100, 0, 11), (29100, 0, 11), (34105, 0, 39), (35100, 0, 39), (36100, 0, 39), (42100, 0, 11), (43100, 0, 11), (44100, 0, 11), (46100, 0, 10), (48102, 0, 0)], [(some (.inl (.inl (.ofNat 1))), [(1, 0, .inl (.ofNat 1)), (1, 1, .inr (.inl (1, .ofNat 0)))])], [], [])
def cx_X11_image_1 : ab_co := (127, 2, ([(.ofNat 0, .ofNat 1, []), (.ofNat 0, .ofNat 1, [])], [(1011, 0), (48102, 2)], [(0, 4, .inr (.inr 1)), (1, 0, .inl (.inr (0, 1, .ofNat 0))), (1, 1, .inl (.inr (1, 1, .ofNat 0)))], [some (.inr (.inr 0)), some (.inl (.inl (.ofNat 1)))]), [(1002, 3, 3), (1004, 4, 9), (1006, 4, 5), (1010, 0, 2), (1010, 7, 14), (16100, 0, 11), (17100, 0, 11), (18100, 0, 11), (24103, 0, 7), (26100, 0, 8), (28100, 0, 11), (29100, 0, 11), (34105, 0, 39), (35100, 0, 39), (36100, 0, 39), (42100, 0, 11), (43100, 0, 11), (44100, 0, 11), (46100, 0, 10), (48102, 1, 1)], [(some (.inl (.inl (.ofNat 1))), [(1, 0, .inr (.inl (0, .ofNat 0))), (1, 1, .inl (.ofNat 1))])], [], [])
def cx_X11_image_big : ab_co := (127, 0, ([(.ofNat 2, .ofNat 2147483647, []), (.ofNat 0, .ofNat 1, []), (.ofNat 0, .ofNat 1, [])], [(1011, 0), (48102, 2)], [(0, 4, .inr (.inr 1)), (1, 0, .inl (.inr (1, 1, .ofNat 0))), (1, 1, .inl (.inr (2, 1, .ofNat 0)))], [some (.inr (.inr 0)), some (.inl (.inr (0, 1, .ofNat 0)))]), [], [(some (.inl (.inl (.ofNat 0))), [(1, 0, .inr (.inl (1, .ofNat 0))), (1, 1, .inr (.inl (2, .ofNat 0)))])], [], [])
def cx_X11_restore_neg : ab_co := (144, 0, ([(.negSucc 2147483647, .negSucc 0, []), (.ofNat 0, .ofNat 1, []), (.ofNat 0, .ofNat 1, [])], [(1011, 0), (48102, 2)], [(0, 4, .inr (.inr 1)), (1, 0, .inl (.inr (1, 1, .ofNat 0))), (1, 1, .inl (.inr (2, 1, .ofNat 0)))], [some (.inr (.inr 0)), some (.inl (.inr (0, 1, .ofNat 0)))]), [], [(some (.inl (.inl (.ofNat 0))), [(1, 0, .inr (.inl (1, .ofNat 0))), (1, 1, .inr (.inl (2, .ofNat 0)))])], [], [])
def cx_X11_restore_big : ab_co := (144, 0, ([(.ofNat 2, .ofNat 2147483647, []), (.ofNat 0, .ofNat 1, []), (.ofNat 0, .ofNat 1, [])], [(1011, 0), (48102, 2)], [(0, 4, .inr (.inr 1)), (1, 0, .inl (.inr (1, 1, .ofNat 0))), (1, 1, .inl (.inr (2, 1, .ofNat 0)))], [some (.inr (.inr 0)), some (.inl (.inr (0, 1, .ofNat 0)))]), [], [(some (.inl (.inl (.ofNat 0))), [(1, 0, .inr (.inl (1, .ofNat 0))), (1, 1, .inr (.inl (2, .ofNat 0)))])], [], [])
def cx_X11_restore_00 : ab_co := (144, 0, ([(.ofNat 0, .ofNat 1, [])], [(1011, 0), (48102, 2)], [(0, 4, .inr (.inr 1)), (1, 0, .inl (.inl (.ofNat 0))), (1, 1, .inl (.inr (0, 1, .ofNat 0)))], [some (.inr (.inr 0)), some (.inl (.inl (.ofNat 0)))]), [], [(some (.inl (.inl (.ofNat 0))), [(1, 0, .inl (.ofNat 0)), (1, 1, .inr (.inl (0, .ofNat 0)))])], [], [])
def cx_X11_restore_01 : ab_co := (144, 2, ([(.ofNat 0, .ofNat 1, [])], [(1011, 0), (48102, 2)], [(0, 4, .inr (.inr 1)), (1, 0, .inl (.inl (.ofNat 1))), (1, 1, .inl (.inr (0, 1, .ofNat 0)))], [some (.inr (.inr 0)), some (.inl (.inl (.ofNat 0)))]), [(1002, 3, 3), (1004, 4, 9), (1006, 4, 5), (1009, 3, 3), (1010, 0, 2), (1010, 7, 14), (16100, 0, 11), (17100, 0, 11), (18100, 0, 11), (24103, 0, 7), (26100, 0, 8), (28100, 0, 11), (29100, 0, 11), (34105, 0, 39), (35100, 0, 39), (36100, 0, 39), (42100, 0, 11), (43100, 0, 11), (44100, 0, 11), (46100, 0, 10)], [(some (.inl (.inl (.ofNat 1))), [(1, 0, .inl (.ofNat 1)), (1, 1, .inr (.inl (0, .ofNat 0)))])], [], [])
def cx_X11_restore_10 : ab_co := (144, 0, ([(.ofNat 0, .ofNat 1, [])], [(1011, 0), (48102, 2)], [(0, 4, .inr (.inr 1)), (1, 0, .inl (.inr (0, 1, .ofNat 0))), (1, 1, .inl (.inl (.ofNat 0)))], [some (.inr (.inr 0)), some (.inl (.inl (.ofNat 1)))]), [], [(some (.inl (.inl (.ofNat 0))), [(1, 0, .inr (.inl (0, .ofNat 0))), (1, 1, .inl (.ofNat 0))])], [], [])
def cx_X11_restore_11 : ab_co := (144, 2, ([(.ofNat 0, .ofNat 1, [])], [(1011, 0), (48102, 2)], [(0, 4, .inr (.inr 1)), (1, 0, .inl (.inr (0, 1, .ofNat 0))), (1, 1, .inl (.inl (.ofNat 1)))], [some (.inr (.inr 0)), some (.inl (.inl (.ofNat 1)))]), [(1002, 3, 3), (1004, 4, 9), (1006, 4, 5), (1009, 3, 3), (1010, 0, 2), (1010, 7, 14), (16100, 0, 11), (17100, 0, 11), (18100, 0, 11), (24103, 0, 7), (26100, 0, 8), (28100, 0, 11), (29100, 0, 11), (34105, 0, 39), (35100, 0, 39), (36100, 0, 39), (42100, 0, 11), (43100, 0, 11), (44100, 0, 11), (46100, 0, 10)], [(some (.inl (.inl (.ofNat 1))), [(1, 0, .inr (.inl (0, .ofNat 0))), (1, 1, .inl (.ofNat 1))])], [], [])
end
section
/-! ===== the contracts that tell more hold ===== -/
set_option maxRecDepth 100000 in
theorem xe_X11_feed_lo : ab_ce cx_X11_feed_lo 223 = true := by decide +kernel
set_option maxRecDepth 100000 in
theorem xl_X11_feed_lo : (ab_c cx_X11_feed_lo).all (ab_cc cx_X11_feed_lo 223) = true := by decide +kernel
set_option maxRecDepth 100000 in
theorem xo_X11_feed_lo : ab_ok cx_X11_feed_lo := ab_ok_of ⟨by decide +kernel, xe_X11_feed_lo, fun b hb => List.all_eq_true.mp xl_X11_feed_lo b hb⟩ (ab_all_ok 223 (Nat.le_refl 223))
set_option maxRecDepth 100000 in
theorem xe_X11_feed_hi : ab_ce cx_X11_feed_hi 223 = true := by decide +kernel
set_option maxRecDepth 100000 in
theorem xl_X11_feed_hi : (ab_c cx_X11_feed_hi).all (ab_cc cx_X11_feed_hi 223) = true := by decide +kernel
set_option maxRecDepth 100000 in
theorem xo_X11_feed_hi : ab_ok cx_X11_feed_hi := ab_ok_of ⟨by decide +kernel, xe_X11_feed_hi, fun b hb => List.all_eq_true.mp xl_X11_feed_hi b hb⟩ (ab_all_ok 223 (Nat.le_refl 223))
set_option maxRecDepth 100000 in
theorem xe_X11_end_neg : ab_ce cx_X11_end_neg 223 = true := by decide +kernel
set_option maxRecDepth 100000 in
theorem xl_X11_end_neg : (ab_c cx_X11_end_neg).all (ab_cc cx_X11_end_neg 223) = true := by decide +kernel
set_option maxRecDepth 100000 in
theorem xo_X11_end_neg : ab_ok cx_X11_end_neg := ab_ok_of ⟨by decide +kernel, xe_X11_end_neg, fun b hb => List.all_eq_true.mp xl_X11_end_neg b hb⟩ (ab_all_ok 223 (Nat.le_refl 223))
set_option maxRecDepth 100000 in
theorem xe_X11_end_big : ab_ce cx_X11_end_big 223 = true := by decide +kernel
set_option maxRecDepth 100000 in
theorem xl_X11_end_big : (ab_c cx_X11_end_big).all (ab_cc cx_X11_end_big 223) = true := by decide +kernel
set_option maxRecDepth 100000 in
theorem xo_X11_end_big : ab_ok cx_X11_end_big := ab_ok_of ⟨by decide +kernel, xe_X11_end_big, fun b hb => List.all_eq_true.mp xl_X11_end_big b hb⟩ (ab_all_ok 223 (Nat.le_refl 223))
set_option maxRecDepth 100000 in
theorem xe_X11_end_fit : ab_ce cx_X11_end_fit 223 = true := by decide +kernel
set_option maxRecDepth 100000 in
theorem xl_X11_end_fit : (ab_c cx_X11_end_fit).all (ab_cc cx_X11_end_fit 223) = true := by decide +kernel
set_option maxRecDepth 100000 in
theorem xo_X11_end_fit : ab_ok cx_X11_end_fit := ab_ok_of ⟨by decide +kernel, xe_X11_end_fit, fun b hb => List.all_eq_true.mp xl_X11_end_fit b hb⟩ (ab_all_ok 223 (Nat.le_refl 223))
set_option maxRecDepth 100000 in
theorem xe_X11_plain_z : ab_ce cx_X11_plain_z 223 = true := by decide +kernel
set_option maxRecDepth 100000 in
theorem xl_X11_plain_z : (ab_c cx_X11_plain_z).all (ab_cc cx_X11_plain_z 223) = true := by decide +kernel
set_option maxRecDepth 100000 in
theorem xo_X11_plain_z : ab_ok cx_X11_plain_z := ab_ok_of ⟨by decide +kernel, xe_X11_plain_z, fun b hb => List.all_eq_true.mp xl_X11_plain_z b hb⟩ (ab_all_ok 223 (Nat.le_refl 223))
set_option maxRecDepth 100000 in
theorem xe_X11_contracts_z : ab_ce cx_X11_contracts_z 223 = true := by decide +kernel
set_option maxRecDepth 100000 in
theorem xl_X11_contracts_z : (ab_c cx_X11_contracts_z).all (ab_cc cx_X11_contracts_z 223) = true := by decide +kernel
set_option maxRecDepth 100000 in
theorem xo_X11_contracts_z : ab_ok cx_X11_contracts_z := ab_ok_of ⟨by decide +kernel, xe_X11_contracts_z, fun b hb => List.all_eq_true.mp xl_X11_contracts_z b hb⟩ (ab_all_ok 223 (Nat.le_refl 223))
set_option maxRecDepth 100000 in
theorem xe_X11_sentence_z : ab_ce cx_X11_sentence_z 223 = true := by decide +kernel
set_option maxRecDepth 100000 in
theorem xl_X11_sentence_z : (ab_c cx_X11_sentence_z).all (ab_cc cx_X11_sentence_z 223) = true := by decide +kernel
set_option maxRecDepth 100000 in
theorem xo_X11_sentence_z : ab_ok cx_X11_sentence_z := ab_ok_of ⟨by decide +kernel, xe_X11_sentence_z, fun b hb => List.all_eq_true.mp xl_X11_sentence_z b hb⟩ (ab_all_ok 223 (Nat.le_refl 223))
set_option maxRecDepth 100000 in
theorem xe_X11_leaks_z : ab_ce cx_X11_leaks_z 223 = true := by decide +kernel
set_option maxRecDepth 100000 in
theorem xl_X11_leaks_z : (ab_c cx_X11_leaks_z).all (ab_cc cx_X11_leaks_z 223) = true := by decide +kernel
set_option maxRecDepth 100000 in
theorem xo_X11_leaks_z : ab_ok cx_X11_leaks_z := ab_ok_of ⟨by decide +kernel, xe_X11_leaks_z, fun b hb => List.all_eq_true.mp xl_X11_leaks_z b hb⟩ (ab_all_ok 223 (Nat.le_refl 223))
set_option maxRecDepth 100000 in
theorem xe_X12_feed_lo : ab_ce cx_X12_feed_lo 223 = true := by decide +kernel
set_option maxRecDepth 100000 in
theorem xl_X12_feed_lo : (ab_c cx_X12_feed_lo).all (ab_cc cx_X12_feed_lo 223) = true := by decide +kernel
set_option maxRecDepth 100000 in
theorem xo_X12_feed_lo : ab_ok cx_X12_feed_lo := ab_ok_of ⟨by decide +kernel, xe_X12_feed_lo, fun b hb => List.all_eq_true.mp xl_X12_feed_lo b hb⟩ (ab_all_ok 223 (Nat.le_refl 223))
set_option maxRecDepth 100000 in
theorem xe_X12_feed_hi : ab_ce cx_X12_feed_hi 223 = true := by decide +kernel
set_option maxRecDepth 100000 in
theorem xl_X12_feed_hi : (ab_c cx_X12_feed_hi).all (ab_cc cx_X12_feed_hi 223) = true := by decide +kernel
set_option maxRecDepth 100000 in
theorem xo_X12_feed_hi : ab_ok cx_X12_feed_hi := ab_ok_of ⟨by decide +kernel, xe_X12_feed_hi, fun b hb => List.all_eq_true.mp xl_X12_feed_hi b hb⟩ (ab_all_ok 223 (Nat.le_refl 223))
set_option maxRecDepth 100000 in
theorem xe_X12_end_neg : ab_ce cx_X12_end_neg 223 = true := by decide +kernel
set_option maxRecDepth 100000 in
theorem xl_X12_end_neg : (ab_c cx_X12_end_neg).all (ab_cc cx_X12_end_neg 223) = true := by decide +kernel
set_option maxRecDepth 100000 in
theorem xo_X12_end_neg : ab_ok cx_X12_end_neg := ab_ok_of ⟨by decide +kernel, xe_X12_end_neg, fun b hb => List.all_eq_true.mp xl_X12_end_neg b hb⟩ (ab_all_ok 223 (Nat.le_refl 223))
set_option maxRecDepth 100000 in
theorem xe_X12_end_big : ab_ce cx_X12_end_big 223 = true := by decide +kernel
set_option maxRecDepth 100000 in
theorem xl_X12_end_big : (ab_c cx_X12_end_big).all (ab_cc cx_X12_end_big 223) = true := by decide +kernel
set_option maxRecDepth 100000 in
theorem xo_X12_end_big : ab_ok cx_X12_end_big := ab_ok_of ⟨by decide +kernel, xe_X12_end_big, fun b hb => List.all_eq_true.mp xl_X12_end_big b hb⟩ (ab_all_ok 223 (Nat.le_refl 223))
set_option maxRecDepth 100000 in
theorem xe_X12_end_fit : ab_ce cx_X12_end_fit 223 = true := by decide +kernel
set_option maxRecDepth 100000 in
theorem xl_X12_end_fit : (ab_c cx_X12_end_fit).all (ab_cc cx_X12_end_fit 223) = true := by decide +kernel
set_option maxRecDepth 100000 in
theorem xo_X12_end_fit : ab_ok cx_X12_end_fit := ab_ok_of ⟨by decide +kernel, xe_X12_end_fit, fun b hb => List.all_eq_true.mp xl_X12_end_fit b hb⟩ (ab_all_ok 223 (Nat.le_refl 223))
set_option maxRecDepth 100000 in
theorem xe_X12_contracts_z : ab_ce cx_X12_contracts_z 223 = true := by decide +kernel
set_option maxRecDepth 100000 in
theorem xl_X12_contracts_z : (ab_c cx_X12_contracts_z).all (ab_cc cx_X12_contracts_z 223) = true := by decide +kernel
set_option maxRecDepth 100000 in
theorem xo_X12_contracts_z : ab_ok cx_X12_contracts_z := ab_ok_of ⟨by decide +kernel, xe_X12_contracts_z, fun b hb => List.all_eq_true.mp xl_X12_contracts_z b hb⟩ (ab_all_ok 223 (Nat.le_refl 223))
set_option maxRecDepth 100000 in
theorem xe_X12_leaks_z : ab_ce cx_X12_leaks_z 223 = true := by decide +kernel
set_option maxRecDepth 100000 in
theorem xl_X12_leaks_z : (ab_c cx_X12_leaks_z).all (ab_cc cx_X12_leaks_z 223) = true := by decide +kernel
set_option maxRecDepth 100000 in
theorem xo_X12_leaks_z : ab_ok cx_X12_leaks_z := ab_ok_of ⟨by decide +kernel, xe_X12_leaks_z, fun b hb => List.all_eq_true.mp xl_X12_leaks_z b hb⟩ (ab_all_ok 223 (Nat.le_refl 223))
set_option maxRecDepth 100000 in
theorem xe_X12_plain_a : ab_ce cx_X12_plain_a 223 = true := by decide +kernel
set_option maxRecDepth 100000 in
theorem xl_X12_plain_a : (ab_c cx_X12_plain_a).all (fun b => Nat.beq b.1 74 || ab_cc cx_X12_plain_a 223 b) = true := by decide +kernel
set_option maxRecDepth 100000 in
theorem xe_X12_isWord : ab_ce cx_X12_isWord 223 = true := by decide +kernel
set_option maxRecDepth 100000 in
theorem xl_X12_isWord : (ab_c cx_X12_isWord).all (ab_cc cx_X12_isWord 223) = true := by decide +kernel
set_option maxRecDepth 100000 in
theorem xo_X12_isWord : ab_ok cx_X12_isWord := ab_ok_of ⟨by decide +kernel, xe_X12_isWord, fun b hb => List.all_eq_true.mp xl_X12_isWord b hb⟩ (ab_all_ok 223 (Nat.le_refl 223))
set_option maxRecDepth 100000 in
theorem xe_X12_isSign : ab_ce cx_X12_isSign 223 = true := by decide +kernel
set_option maxRecDepth 100000 in
theorem xl_X12_isSign : (ab_c cx_X12_isSign).all (ab_cc cx_X12_isSign 223) = true := by decide +kernel
set_option maxRecDepth 100000 in
theorem xo_X12_isSign : ab_ok cx_X12_isSign := ab_ok_of ⟨by decide +kernel, xe_X12_isSign, fun b hb => List.all_eq_true.mp xl_X12_isSign b hb⟩ (ab_all_ok 223 (Nat.le_refl 223))
set_option maxRecDepth 100000 in
theorem xe_X12_leafOf : ab_ce cx_X12_leafOf 223 = true := by decide +kernel
set_option maxRecDepth 100000 in
theorem xl_X12_leafOf : (ab_c cx_X12_leafOf).all (ab_cc cx_X12_leafOf 223) = true := by decide +kernel
set_option maxRecDepth 100000 in
theorem xo_X12_leafOf : ab_ok cx_X12_leafOf := ab_ok_of ⟨by decide +kernel, xe_X12_leafOf, fun b hb => List.all_eq_true.mp xl_X12_leafOf b hb⟩ (ab_all_ok 223 (Nat.le_refl 223))
set_option maxRecDepth 100000 in
theorem xe_X12_bad : ab_ce cx_X12_bad 223 = true := by decide +kernel
set_option maxRecDepth 100000 in
theorem xl_X12_bad : (ab_c cx_X12_bad).all (ab_cc cx_X12_bad 223) = true := by decide +kernel
set_option maxRecDepth 100000 in
theorem xo_X12_bad : ab_ok cx_X12_bad := ab_ok_of ⟨by decide +kernel, xe_X12_bad, fun b hb => List.all_eq_true.mp xl_X12_bad b hb⟩ (ab_all_ok 223 (Nat.le_refl 223))
set_option maxRecDepth 100000 in
theorem xe_X12_taken : ab_ce cx_X12_taken 223 = true := by decide +kernel
set_option maxRecDepth 100000 in
theorem xl_X12_taken : (ab_c cx_X12_taken).all (ab_cc cx_X12_taken 223) = true := by decide +kernel
set_option maxRecDepth 100000 in
theorem xo_X12_taken : ab_ok cx_X12_taken := ab_ok_of ⟨by decide +kernel, xe_X12_taken, fun b hb => List.all_eq_true.mp xl_X12_taken b hb⟩ (ab_all_ok 223 (Nat.le_refl 223))
set_option maxRecDepth 100000 in
theorem xe_X12_next : ab_ce cx_X12_next 223 = true := by decide +kernel
set_option maxRecDepth 100000 in
theorem xl_X12_next : (ab_c cx_X12_next).all (ab_cc cx_X12_next 223) = true := by decide +kernel
set_option maxRecDepth 100000 in
theorem xo_X12_next : ab_ok cx_X12_next := ab_ok_of ⟨by decide +kernel, xe_X12_next, fun b hb => List.all_eq_true.mp xl_X12_next b hb⟩ (ab_all_ok 223 (Nat.le_refl 223))
set_option maxRecDepth 100000 in
theorem xe_X12_isLeaf : ab_ce cx_X12_isLeaf 223 = true := by decide +kernel
set_option maxRecDepth 100000 in
theorem xl_X12_isLeaf : (ab_c cx_X12_isLeaf).all (ab_cc cx_X12_isLeaf 223) = true := by decide +kernel
set_option maxRecDepth 100000 in
theorem xo_X12_isLeaf : ab_ok cx_X12_isLeaf := ab_ok_of ⟨by decide +kernel, xe_X12_isLeaf, fun b hb => List.all_eq_true.mp xl_X12_isLeaf b hb⟩ (ab_all_ok 223 (Nat.le_refl 223))
set_option maxRecDepth 100000 in
theorem xe_X12_isIn : ab_ce cx_X12_isIn 223 = true := by decide +kernel
set_option maxRecDepth 100000 in
theorem xl_X12_isIn : (ab_c cx_X12_isIn).all (ab_cc cx_X12_isIn 223) = true := by decide +kernel
set_option maxRecDepth 100000 in
theorem xo_X12_isIn : ab_ok cx_X12_isIn := ab_ok_of ⟨by decide +kernel, xe_X12_isIn, fun b hb => List.all_eq_true.mp xl_X12_isIn b hb⟩ (ab_all_ok 223 (Nat.le_refl 223))
set_option maxRecDepth 100000 in
theorem xe_X11_image_neg : ab_ce cx_X11_image_neg 223 = true := by decide +kernel
set_option maxRecDepth 100000 in
theorem xl_X11_image_neg : (ab_c cx_X11_image_neg).all (ab_cc cx_X11_image_neg 223) = true := by decide +kernel
set_option maxRecDepth 100000 in
theorem xo_X11_image_neg : ab_ok cx_X11_image_neg := ab_ok_of ⟨by decide +kernel, xe_X11_image_neg, fun b hb => List.all_eq_true.mp xl_X11_image_neg b hb⟩ (ab_all_ok 223 (Nat.le_refl 223))
set_option maxRecDepth 100000 in
theorem xe_X11_image_0 : ab_ce cx_X11_image_0 223 = true := by decide +kernel
set_option maxRecDepth 100000 in
theorem xl_X11_image_0 : (ab_c cx_X11_image_0).all (ab_cc cx_X11_image_0 223) = true := by decide +kernel
set_option maxRecDepth 100000 in
theorem xo_X11_image_0 : ab_ok cx_X11_image_0 := ab_ok_of ⟨by decide +kernel, xe_X11_image_0, fun b hb => List.all_eq_true.mp xl_X11_image_0 b hb⟩ (ab_all_ok 223 (Nat.le_refl 223))
set_option maxRecDepth 100000 in
theorem xe_X11_image_1 : ab_ce cx_X11_image_1 223 = true := by decide +kernel
set_option maxRecDepth 100000 in
theorem xl_X11_image_1 : (ab_c cx_X11_image_1).all (ab_cc cx_X11_image_1 223) = true := by decide +kernel
set_option maxRecDepth 100000 in
theorem xo_X11_image_1 : ab_ok cx_X11_image_1 := ab_ok_of ⟨by decide +kernel, xe_X11_image_1, fun b hb => List.all_eq_true.mp xl_X11_image_1 b hb⟩ (ab_all_ok 223 (Nat.le_refl 223))
set_option maxRecDepth 100000 in
theorem xe_X11_image_big : ab_ce cx_X11_image_big 223 = true := by decide +kernel
set_option maxRecDepth 100000 in
theorem xl_X11_image_big : (ab_c cx_X11_image_big).all (ab_cc cx_X11_image_big 223) = true := by decide +kernel
set_option maxRecDepth 100000 in
theorem xo_X11_image_big : ab_ok cx_X11_image_big := ab_ok_of ⟨by decide +kernel, xe_X11_image_big, fun b hb => List.all_eq_true.mp xl_X11_image_big b hb⟩ (ab_all_ok 223 (Nat.le_refl 223))
set_option maxRecDepth 100000 in
theorem xe_X11_restore_neg : ab_ce cx_X11_restore_neg 223 = true := by decide +kernel
set_option maxRecDepth 100000 in
theorem xl_X11_restore_neg : (ab_c cx_X11_restore_neg).all (ab_cc cx_X11_restore_neg 223) = true := by decide +kernel
set_option maxRecDepth 100000 in
theorem xo_X11_restore_neg : ab_ok cx_X11_restore_neg := ab_ok_of ⟨by decide +kernel, xe_X11_restore_neg, fun b hb => List.all_eq_true.mp xl_X11_restore_neg b hb⟩ (ab_all_ok 223 (Nat.le_refl 223))
set_option maxRecDepth 100000 in
theorem xe_X11_restore_big : ab_ce cx_X11_restore_big 223 = true := by decide +kernel
set_option maxRecDepth 100000 in
theorem xl_X11_restore_big : (ab_c cx_X11_restore_big).all (ab_cc cx_X11_restore_big 223) = true := by decide +kernel
set_option maxRecDepth 100000 in
theorem xo_X11_restore_big : ab_ok cx_X11_restore_big := ab_ok_of ⟨by decide +kernel, xe_X11_restore_big, fun b hb => List.all_eq_true.mp xl_X11_restore_big b hb⟩ (ab_all_ok 223 (Nat.le_refl 223))
set_option maxRecDepth 100000 in
theorem xe_X11_restore_00 : ab_ce cx_X11_restore_00 223 = true := by decide +kernel
set_option maxRecDepth 100000 in
theorem xl_X11_restore_00 : (ab_c cx_X11_restore_00).all (ab_cc cx_X11_restore_00 223) = true := by decide +kernel
set_option maxRecDepth 100000 in
theorem xo_X11_restore_00 : ab_ok cx_X11_restore_00 := ab_ok_of ⟨by decide +kernel, xe_X11_restore_00, fun b hb => List.all_eq_true.mp xl_X11_restore_00 b hb⟩ (ab_all_ok 223 (Nat.le_refl 223))
set_option maxRecDepth 100000 in
theorem xe_X11_restore_01 : ab_ce cx_X11_restore_01 223 = true := by decide +kernel
set_option maxRecDepth 100000 in
theorem xl_X11_restore_01 : (ab_c cx_X11_restore_01).all (ab_cc cx_X11_restore_01 223) = true := by decide +kernel
set_option maxRecDepth 100000 in
theorem xo_X11_restore_01 : ab_ok cx_X11_restore_01 := ab_ok_of ⟨by decide +kernel, xe_X11_restore_01, fun b hb => List.all_eq_true.mp xl_X11_restore_01 b hb⟩ (ab_all_ok 223 (Nat.le_refl 223))
set_option maxRecDepth 100000 in
theorem xe_X11_restore_10 : ab_ce cx_X11_restore_10 223 = true := by decide +kernel
set_option maxRecDepth 100000 in
theorem xl_X11_restore_10 : (ab_c cx_X11_restore_10).all (ab_cc cx_X11_restore_10 223) = true := by decide +kernel
set_option maxRecDepth 100000 in
theorem xo_X11_restore_10 : ab_ok cx_X11_restore_10 := ab_ok_of ⟨by decide +kernel, xe_X11_restore_10, fun b hb => List.all_eq_true.mp xl_X11_restore_10 b hb⟩ (ab_all_ok 223 (Nat.le_refl 223))
set_option maxRecDepth 100000 in
theorem xe_X11_restore_11 : ab_ce cx_X11_restore_11 223 = true := by decide +kernel
set_option maxRecDepth 100000 in
theorem xl_X11_restore_11 : (ab_c cx_X11_restore_11).all (ab_cc cx_X11_restore_11 223) = true := by decide +kernel
set_option maxRecDepth 100000 in
theorem xo_X11_restore_11 : ab_ok cx_X11_restore_11 := ab_ok_of ⟨by decide +kernel, xe_X11_restore_11, fun b hb => List.all_eq_true.mp xl_X11_restore_11 b hb⟩ (ab_all_ok 223 (Nat.le_refl 223))
end
section
/-! ===== by hand: rows of the machine with their values told ===== -/
theorem hn_s {M : mj_M} {a k : Nat} {z : Int} : (mj_p0 M a k z).1 a k = z := if_pos ⟨rfl, rfl⟩
theorem hn_n {M : mj_M} {a k x j : Nat} {z : Int} (h : x ≠ a ∨ j ≠ k) : (mj_p0 M a k z).1 x j = M.1 x j := if_neg (fun e => h.elim (fun q => q e.1) (fun q => q e.2))
theorem hn_ne {G : mj_G} {a b t t' n n' : Nat} (ha : G a = (t, n)) (hb : G b = (t', n')) (h : t ≠ t') : a ≠ b := fun q => h (by subst q; exact (Prod.mk.inj (ha.symm.trans hb)).1)
theorem hn_gi {fk : Nat} {l : List Nat} {m : Nat} {st : List mj_V} {G : mj_G} {M : mj_M} {k : List mj_V → Prop} {A : Prop} {v : Int} (hl : l ≠ []) (hh : mj_hd l = 11) (hf : mj_h1 l = fk) (hso : mj_so 11 fk = 0) (hm : G m = (1012, 0)) (hv : M.1 m fk = v) (hk : k (.inl v :: st)) : l ≠ [] ∧ mj_br (mj_hd l = 49) A (mj_get (mj_hd l) (mj_h1 l) (.inr (.inr (some m)) :: st) G M k) := by
  subst hf hv
  refine ⟨hl, fun e => absurd (hh.symm.trans e) (by decide), fun _ => ?_⟩
  rw [hh]
  refine ⟨1012, 0, hm, rfl, ?_⟩
  rw [hso]
  exact hk
theorem hn_gr {fk : Nat} {l : List Nat} {m b : Nat} {st : List mj_V} {G : mj_G} {M : mj_M} {k : List mj_V → Prop} {A : Prop} (hl : l ≠ []) (hh : mj_hd l = 11) (hf : mj_h1 l = fk) (hso : mj_so 11 fk = 2) (hm : G m = (1012, 0)) (hv : M.2.2 m fk = some b) (hk : k (.inr (.inr (some b)) :: st)) : l ≠ [] ∧ mj_br (mj_hd l = 49) A (mj_get (mj_hd l) (mj_h1 l) (.inr (.inr (some m)) :: st) G M k) := by
  subst hf
  refine ⟨hl, fun e => absurd (hh.symm.trans e) (by decide), fun _ => ?_⟩
  rw [hh]
  refine ⟨1012, 0, hm, rfl, ?_⟩
  rw [hso]
  refine ⟨fun b' hb => ?_, fun hb => ?_⟩
  · cases hv.symm.trans hb
    exact hk
  · cases hv.symm.trans hb
theorem hn_pi {fk : Nat} {l : List Nat} {m : Nat} {st : List mj_V} {G : mj_G} {M : mj_M} {k : List mj_V → mj_M → Prop} {v : Int} (hl : l ≠ []) (hh : mj_hd l = 11) (hf : mj_h1 l = fk) (hso : mj_so 11 fk = 0) (hm : G m = (1012, 0)) (hb : mj_ty 11 fk = .boolean → v = 0 ∨ v = 1) (hk : k st (mj_p0 M m fk v)) : l ≠ [] ∧ mj_put (mj_hd l) (mj_h1 l) (.inl v :: .inr (.inr (some m)) :: st) G M k := by
  subst hf
  refine ⟨hl, ?_⟩
  unfold mj_put
  rw [hh, hso]
  exact ⟨1012, 0, hm, rfl, by decide, hb, hk⟩
/-! what is not written -/
theorem hn_nc {W : List (Nat × Nat × Nat)} {t k : Nat} (h : W.all (fun q => !(Nat.beq q.1 t && (Nat.ble q.2.1 k && Nat.ble k q.2.2))) = true) : ¬ ab_cov W t k := by
  rintro ⟨q, hq, q1, q2, q3⟩
  have h1 := List.all_eq_true.mp h q hq
  rw [q1, Nat.beq_refl, Nat.ble_eq_true_of_le q2, Nat.ble_eq_true_of_le q3] at h1
  cases h1
theorem hn_nt {W : List (Nat × Nat × Nat)} {t k : Nat} (h : W.all (fun q => !(Nat.beq q.1 t)) = true) : ¬ ab_cov W t k := by
  rintro ⟨q, hq, q1, -, -⟩
  have h1 := List.all_eq_true.mp h q hq
  rw [q1, Nat.beq_refl] at h1
  cases h1
theorem hn_f0 {W : List (Nat × Nat × Nat)} {G : mj_G} {M0 M : mj_M} {a j : Nat} {z : Int} (h : ab_frm W G M0 M) (hc : ab_cov W (G a).1 j) : ab_frm W G M0 (mj_p0 M a j z) := h.wr ab_p0_w hc
theorem hn_up {W W' : List (Nat × Nat × Nat)} {G : mj_G} {M M' : mj_M} (h : ab_frm W G M M') (hw : W.all (fun e => ab_cw W' e.1 (.ofNat e.2.1) (.ofNat e.2.2)) = true) : ab_frm W' G M M' := fun a k hn => h a k (fun hc => hn (ab_cov_all hw hc))
/-! the height of the values' stack behind i codes; binary words on the stack -/
def hn_k (f : Nat → Int) : Nat → Nat → Prop
  | 0, n => n = 0
  | i + 1, n => ∃ k, hn_k f i k ∧ ((f i = 10 ∧ 1 ≤ k ∧ n = k) ∨ ((f i = 11 ∨ f i = 12) ∧ 2 ≤ k ∧ n + 1 = k) ∨ (f i ≠ 10 ∧ f i ≠ 11 ∧ f i ≠ 12 ∧ n = k + 1))
theorem hn_k.cg {f g : Nat → Int} : ∀ {i n : Nat}, (∀ j, j < i → f j = g j) → hn_k f i n → hn_k g i n
  | 0, _, _, h => h
  | i + 1, _, e, ⟨k, h1, h2⟩ => ⟨k, h1.cg (fun j hj => e j (by omega)), by rw [← e i (by omega)]; exact h2⟩
theorem hn_k.le {f : Nat → Int} : ∀ {i n : Nat}, hn_k f i n → n ≤ i
  | 0, _, h => by have h : _ = 0 := h; omega
  | i + 1, _, ⟨k, h1, h2⟩ => by have := h1.le; omega
theorem hn_k.fn {f : Nat → Int} : ∀ {i n m : Nat}, hn_k f i n → hn_k f i m → n = m
  | 0, _, _, h, h' => (show _ = 0 from h).trans (show _ = 0 from h').symm
  | i + 1, _, _, ⟨k, h1, h2⟩, ⟨k', h1', h2'⟩ => by
    have e := h1.fn h1'
    omega
theorem hn_k.pre {f : Nat → Int} : ∀ {j i n : Nat}, hn_k f (i + j) n → ∃ k, hn_k f i k
  | 0, _, n, h => ⟨n, h⟩
  | j + 1, i, _, ⟨_, h1, _⟩ => hn_k.pre (j := j) (i := i) h1
def hn_b (f : Nat → Int) : Nat → Nat
  | 0 => 0
  | t + 1 => hn_b f t + (if f t = 11 ∨ f t = 12 then 1 else 0)
theorem hn_b.cg {f g : Nat → Int} : ∀ {t : Nat}, (∀ j, j < t → f j = g j) → hn_b f t = hn_b g t
  | 0, _ => rfl
  | t + 1, e => by
    show hn_b f t + _ = hn_b g t + _
    rw [hn_b.cg (fun j hj => e j (by omega)), e t (by omega)]
end
section
/-! ===== by hand: code, nots, joins of the reference ===== -/
/-- the reference, its codes and its stack -/
def hn_R (G : mj_G) (M : mj_M) (m rd sk : Nat) : Prop := G m = (1012, 0) ∧ M.2.2 m 8 = some rd ∧ G rd = (53100, 135) ∧ M.2.2 m 52 = some sk ∧ G sk = (68100, 45)
abbrev hn_W : List (Nat × Nat × Nat) := [(1012, 53, 53), (1012, 55, 56), (53100, 0, 134)]
theorem hn_R.fr {W : List (Nat × Nat × Nat)} {G : mj_G} {M M' : mj_M} {m rd sk : Nat} (h : hn_R G M m rd sk) (hf : ab_frm W G M M') (h1 : ¬ ab_cov W 1012 8) (h2 : ¬ ab_cov W 1012 52) : hn_R G M' m rd sk := by
  obtain ⟨a, b, c, d, e⟩ := h
  refine ⟨a, ?_, c, ?_, e⟩
  · rw [(hf m 8 (by rw [a]; exact h1)).2]; exact b
  · rw [(hf m 52 (by rw [a]; exact h2)).2]; exact d
set_option maxRecDepth 100000 in
theorem r_code {d m rd sk c : Nat} {x y z : Int} {G : mj_G} {M : mj_M} {Q : mj_P} (hr : hn_R G M m rd sk) (hI : ab_Inv G M) (hc : M.1 m 53 = (c : Int)) (hc1 : c ≤ 44) (hx : mj_in x) (hy : mj_in y) (hz : mj_in z)
    (hQ : ∀ M', ab_Inv G M' → ab_frm hn_W G M M' → M'.1 m 53 = ((c + 1 : Nat) : Int) → M'.1 m 55 = M.1 m 55 → M'.1 m 54 = M.1 m 54 → M'.1 rd (3 * c) = x → (∀ j, j < 3 * c → M'.1 rd j = M.1 rd j) → Q none G M') : mj_R mj_tab (d + 1) 174 [.inr (.inr (some m)), .inl x, .inl y, .inl z] G M Q := by
  obtain ⟨hm, h8, hrd, -, -⟩ := hr
  have nr : m ≠ rd := hn_ne hm hrd (by decide)
  refine ⟨Nat.le_of_ble_eq_true rfl, mj_W.run (mj_R_mo _ _) 40 ?_⟩
  have any : ∀ k (v : Int), mj_in v → (ab_rg (G rd).1 k).1 ≤ v ∧ v ≤ (ab_rg (G rd).1 k).2 := fun k v hv => by
    rw [hrd]
    exact ⟨hv.1, by have := hv.2; show v ≤ 2147483647; omega⟩
  have cv : ∀ k, k ≤ 134 → ab_cov hn_W (G rd).1 k := fun k hk => ⟨(53100, 0, 134), by decide, by rw [hrd], Nat.zero_le _, hk⟩
  have e1 : ∀ j1, (mj_p0 M rd j1 x).1 m 53 = (c : Int) := fun _ => (hn_n (Or.inl nr)).trans hc
  have e2 : ∀ j1 j2, (mj_p0 (mj_p0 M rd j1 x) rd j2 y).1 m 53 = (c : Int) := fun _ _ => (hn_n (Or.inl nr)).trans (e1 _)
  have e3 : ∀ j1 j2 j3, (mj_p0 (mj_p0 (mj_p0 M rd j1 x) rd j2 y) rd j3 z).1 m 53 = (c : Int) := fun _ _ _ => (hn_n (Or.inl nr)).trans (e2 _ _)
  have fin : ∀ (j1 j2 j3 : Nat) (v : Int), j1 = 3 * c → j2 = 3 * c + 1 → j3 = 3 * c + 2 → v = ((c + 1 : Nat) : Int) → Q none G (mj_p0 (mj_p0 (mj_p0 (mj_p0 M rd j1 x) rd j2 y) rd j3 z) m 53 v) := by
    intro j1 j2 j3 v g1 g2 g3 g4
    subst g1 g2 g3 g4
    refine hQ _ ((((hI.p0 (any _ _ hx)).p0 (any _ _ hy)).p0 (any _ _ hz)).p0 ?_) (hn_f0 (hn_f0 (hn_f0 (hn_f0 ab_frm.rf (cv _ (by omega))) (cv _ (by omega))) (cv _ (by omega))) ⟨(1012, 53, 53), by decide, by rw [hm], by decide, by decide⟩) hn_s ?_ ?_ ?_ (fun j hj => ?_)
    · rw [hm]
      exact ⟨by show (-2147483648 : Int) ≤ _; omega, by show _ ≤ (2147483647 : Int); omega⟩
    · exact (hn_n (Or.inr (by decide))).trans ((hn_n (Or.inl nr)).trans ((hn_n (Or.inl nr)).trans (hn_n (Or.inl nr))))
    · exact (hn_n (Or.inr (by decide))).trans ((hn_n (Or.inl nr)).trans ((hn_n (Or.inl nr)).trans (hn_n (Or.inl nr))))
    · exact (hn_n (Or.inl nr.symm)).trans ((hn_n (Or.inr (by omega))).trans ((hn_n (Or.inr (by omega))).trans hn_s))
    · exact (hn_n (Or.inl nr.symm)).trans ((hn_n (Or.inr (by omega))).trans ((hn_n (Or.inr (by omega))).trans (hn_n (Or.inr (by omega)))))
  refine hn_gr (fk := 8) (List.cons_ne_nil _ _) rfl rfl rfl hm h8 ?_
  refine hn_gi (fk := 53) (v := (c : Int)) (List.cons_ne_nil _ _) rfl rfl rfl hm hc ?_
  refine Or.inl ⟨⟨by show (-2147483648 : Int) ≤ (3 : Int) * (c : Int); omega, by show (3 : Int) * (c : Int) < (2147483648 : Int); omega⟩, ?_⟩
  refine ⟨53100, 135, hrd, rfl, by decide, by show (0 : Int) ≤ (3 : Int) * (c : Int); omega, by show (3 : Int) * (c : Int) < ((135 : Nat) : Int); omega, ?_⟩
  refine hn_gr (fk := 8) (List.cons_ne_nil _ _) rfl rfl rfl hm h8 ?_
  refine hn_gi (fk := 53) (v := (c : Int)) (List.cons_ne_nil _ _) rfl rfl rfl hm (e1 _) ?_
  refine Or.inl ⟨⟨by show (-2147483648 : Int) ≤ (3 : Int) * (c : Int); omega, by show (3 : Int) * (c : Int) < (2147483648 : Int); omega⟩, ?_⟩
  refine Or.inl ⟨⟨by show (-2147483648 : Int) ≤ (3 : Int) * (c : Int) + 1; omega, by show (3 : Int) * (c : Int) + 1 < (2147483648 : Int); omega⟩, ?_⟩
  refine ⟨53100, 135, hrd, rfl, by decide, by show (0 : Int) ≤ (3 : Int) * (c : Int) + 1; omega, by show (3 : Int) * (c : Int) + 1 < ((135 : Nat) : Int); omega, ?_⟩
  refine hn_gr (fk := 8) (List.cons_ne_nil _ _) rfl rfl rfl hm h8 ?_
  refine hn_gi (fk := 53) (v := (c : Int)) (List.cons_ne_nil _ _) rfl rfl rfl hm (e2 _ _) ?_
  refine Or.inl ⟨⟨by show (-2147483648 : Int) ≤ (3 : Int) * (c : Int); omega, by show (3 : Int) * (c : Int) < (2147483648 : Int); omega⟩, ?_⟩
  refine Or.inl ⟨⟨by show (-2147483648 : Int) ≤ (3 : Int) * (c : Int) + 2; omega, by show (3 : Int) * (c : Int) + 2 < (2147483648 : Int); omega⟩, ?_⟩
  refine ⟨53100, 135, hrd, rfl, by decide, by show (0 : Int) ≤ (3 : Int) * (c : Int) + 2; omega, by show (3 : Int) * (c : Int) + 2 < ((135 : Nat) : Int); omega, ?_⟩
  refine hn_gi (fk := 53) (v := (c : Int)) (List.cons_ne_nil _ _) rfl rfl rfl hm (e3 _ _ _) ?_
  refine Or.inl ⟨⟨by show (-2147483648 : Int) ≤ (c : Int) + 1; omega, by show (c : Int) + 1 < (2147483648 : Int); omega⟩, ?_⟩
  refine hn_pi (fk := 53) (List.cons_ne_nil _ _) rfl rfl rfl hm (fun q => by cases q) ?_
  exact And.intro rfl (fin _ _ _ _ (by show ((3 : Int) * (c : Int)).toNat = _; omega) (by show ((3 : Int) * (c : Int) + 1).toNat = _; omega) (by show ((3 : Int) * (c : Int) + 2).toNat = _; omega) (by show (c : Int) + 1 = _; omega))
def hn_J (G : mj_G) (M : mj_M) (m rd sk t c h : Nat) : Prop := hn_R G M m rd sk ∧ ab_Inv G M ∧ M.1 m 55 = (t : Int) ∧ M.1 m 53 = (c : Int) ∧ hn_k (fun i => M.1 rd (3 * i)) c h
theorem hn_ci {v : Int} (h1 : -2147483648 ≤ v) (h2 : v < 2147483648) {k : Nat} (h : 53 ≤ k ∧ k ≤ 56) : (ab_rg 1012 k).1 ≤ v ∧ v ≤ (ab_rg 1012 k).2 := by
  have : k = 53 ∨ k = 54 ∨ k = 55 ∨ k = 56 := by omega
  rcases this with rfl | rfl | rfl | rfl <;> exact ⟨h1, by show v ≤ 2147483647; omega⟩
set_option maxRecDepth 100000 in
theorem r_nots_w {d m rd sk h : Nat} {G : mj_G} {Q : mj_P} (h1 : 1 ≤ h) : ∀ (t : Nat) (M : mj_M) (c cb sb : Nat), hn_J G M m rd sk t c h → c + t ≤ 45 →
    (∀ M' t' c', hn_J G M' m rd sk t' c' h → t' ≤ t → c' + t' = c + t → ab_frm hn_W G M M' → hn_b (fun i => M.1 sk i) t' = hn_b (fun i => M.1 sk i) t → Q none G M') →
    mj_W sx_ms (mj_R mj_tab (d + 1)) mt_X12_nots.2.2.2.2.1 Q mt_X12_nots.2.2.2.2.1 [some (.inr (.inr (some m)))] [] G M cb sb := by
  intro t
  induction t with
  | zero =>
    intro M c cb sb hJ hb hQ
    have hJ0 := hJ
    obtain ⟨⟨hm, h8, hrd, h52, hsk⟩, hI, h55, h53, hk⟩ := hJ
    refine mj_W.run (mj_R_mo _ _) 30 ?_
    refine hn_gi (fk := 55) (v := ((0 : Nat) : Int)) (List.cons_ne_nil _ _) rfl rfl rfl hm h55 ?_
    refine ⟨fun c1 => And.intro rfl (hQ M 0 c hJ0 (Nat.le_refl 0) rfl ab_frm.rf rfl), fun c1 => absurd (show ((0 : Nat) : Int) ≤ 0 from Int.le_refl 0) c1⟩
  | succ t ih =>
    intro M c cb sb hJ hb hQ
    have hJ0 := hJ
    obtain ⟨⟨hm, h8, hrd, h52, hsk⟩, hI, h55, h53, hk⟩ := hJ
    have nr : m ≠ rd := hn_ne hm hrd (by decide)
    have nk : sk ≠ m := hn_ne hsk hm (by decide)
    have nkr : sk ≠ rd := hn_ne hsk hrd (by decide)
    refine mj_W.run (mj_R_mo _ _) 30 ?_
    refine hn_gi (fk := 55) (v := ((t + 1 : Nat) : Int)) (List.cons_ne_nil _ _) rfl rfl rfl hm h55 ?_
    refine ⟨fun c1 => absurd (show ((t + 1 : Nat) : Int) ≤ 0 from c1) (by omega), fun _ => ?_⟩
    refine hn_gr (fk := 52) (List.cons_ne_nil _ _) rfl rfl rfl hm h52 ?_
    refine hn_gi (fk := 55) (v := ((t + 1 : Nat) : Int)) (List.cons_ne_nil _ _) rfl rfl rfl hm h55 ?_
    refine Or.inl ⟨⟨by show (-2147483648 : Int) ≤ ((t + 1 : Nat) : Int) - 1; omega, by show ((t + 1 : Nat) : Int) - 1 < (2147483648 : Int); omega⟩, ?_⟩
    refine ⟨68100, 45, hsk, rfl, by show (0 : Int) ≤ ((t + 1 : Nat) : Int) - 1; omega, by show ((t + 1 : Nat) : Int) - 1 < ((45 : Nat) : Int); omega, ?_⟩
    have ti : (((t + 1 : Nat) : Int) - 1).toNat = t := by omega
    refine ⟨fun c1 => And.intro rfl (hQ M (t + 1) c hJ0 (Nat.le_refl _) rfl ab_frm.rf rfl), fun c1 => ?_⟩
    have c1 : M.1 sk t = 10 := by
      have c1 : ¬ M.1 sk (((t + 1 : Nat) : Int) - 1).toNat ≠ 10 := c1
      rw [ti] at c1
      omega
    refine hn_gi (fk := 55) (v := ((t + 1 : Nat) : Int)) (List.cons_ne_nil _ _) rfl rfl rfl hm h55 ?_
    refine Or.inl ⟨⟨by show (-2147483648 : Int) ≤ ((t + 1 : Nat) : Int) - 1; omega, by show ((t + 1 : Nat) : Int) - 1 < (2147483648 : Int); omega⟩, ?_⟩
    refine hn_pi (fk := 55) (List.cons_ne_nil _ _) rfl rfl rfl hm (fun q => by cases q) ?_
    refine hn_gi (fk := 56) (v := M.1 m 56) (List.cons_ne_nil _ _) rfl rfl rfl hm (hn_n (Or.inr (by decide))) ?_
    refine Or.inr (fun z hz _ => ?_)
    refine hn_pi (fk := 56) (List.cons_ne_nil _ _) rfl rfl rfl hm (fun q => by cases q) ?_
    have ii : ∀ v : Int, mj_in v → ∀ k, 53 ≤ k ∧ k ≤ 56 → (ab_rg (G m).1 k).1 ≤ v ∧ v ≤ (ab_rg (G m).1 k).2 := fun v hv k hk => by rw [hm]; exact hn_ci hv.1 hv.2 hk
    have cv : ∀ k, 55 ≤ k ∧ k ≤ 56 → ab_cov hn_W (G m).1 k := fun k hk => ⟨(1012, 55, 56), by decide, by rw [hm], hk.1, hk.2⟩
    have i2 : ab_Inv G (mj_p0 (mj_p0 M m 55 (((t + 1 : Nat) : Int) - 1)) m 56 z) := (hI.p0 (ii _ ⟨by omega, by omega⟩ _ (by decide))).p0 (ii _ hz _ (by decide))
    have f2 : ab_frm hn_W G M (mj_p0 (mj_p0 M m 55 (((t + 1 : Nat) : Int) - 1)) m 56 z) := hn_f0 (hn_f0 ab_frm.rf (cv _ (by decide))) (cv _ (by decide))
    refine ⟨List.cons_ne_nil _ _, 1012, 0, hm, rfl, by decide, Nat.zero_le _, Nat.zero_le _, ?_⟩
    refine r_code (rd := rd) (sk := sk) (c := c) ⟨hm, h8, hrd, h52, hsk⟩ i2 ((hn_n (Or.inr (by decide))).trans ((hn_n (Or.inr (by decide))).trans h53)) (by omega) ⟨by decide, by decide⟩ ⟨by decide, by decide⟩ ⟨by decide, by decide⟩ (fun M3 i3 f3 k53 k55 _ kx kb => ?_)
    have q55 : M3.1 m 55 = (t : Int) := k55.trans ((hn_n (Or.inr (by decide))).trans (hn_s.trans (by show ((t + 1 : Nat) : Int) - 1 = _; omega)))
    have qr : ∀ k, (mj_p0 (mj_p0 M m 55 (((t + 1 : Nat) : Int) - 1)) m 56 z).1 rd k = M.1 rd k := fun k => (hn_n (Or.inl nr.symm)).trans (hn_n (Or.inl nr.symm))
    have fk := f2.tr f3
    have qk : ∀ k, M3.1 sk k = M.1 sk k := fun k => (fk sk k (by rw [hsk]; exact hn_nt (by decide))).1
    have J3 : hn_J G M3 m rd sk t (c + 1) h := ⟨hn_R.fr hJ0.1 fk (hn_nc (by decide)) (hn_nc (by decide)), i3, q55, k53, h, hk.cg (fun j hj => by
      show M.1 rd (3 * j) = M3.1 rd (3 * j)
      rw [kb _ (by omega), qr]), Or.inl ⟨kx, h1, rfl⟩⟩
    refine (show mj_W sx_ms (mj_R mj_tab (d + 1)) mt_X12_nots.2.2.2.2.1 Q mt_X12_nots.2.2.2.2.1 [some (.inr (.inr (some m)))] [] G M3 _ _ from ih M3 (c + 1) _ _ J3 (by omega) (fun M' t' c' g1 g2 g3 g4 g5 => hQ M' t' c' g1 (by omega) (by omega) (fk.tr g4) ?_))
    have b1 : ∀ u, hn_b (fun i => M3.1 sk i) u = hn_b (fun i => M.1 sk i) u := fun u => hn_b.cg (fun j _ => qk j)
    rw [b1, b1] at g5
    rw [g5]
    show _ = hn_b (fun i => M.1 sk i) t + (if M.1 sk t = 11 ∨ M.1 sk t = 12 then 1 else 0)
    rw [c1]
    rfl
set_option maxRecDepth 100000 in
theorem r_nots {d m rd sk h t c : Nat} {G : mj_G} {M : mj_M} {Q : mj_P} (h1 : 1 ≤ h) (hJ : hn_J G M m rd sk t c h) (hb : c + t ≤ 45)
    (hQ : ∀ M' t' c', hn_J G M' m rd sk t' c' h → t' ≤ t → c' + t' = c + t → ab_frm hn_W G M M' → hn_b (fun i => M.1 sk i) t' = hn_b (fun i => M.1 sk i) t → Q none G M') : mj_R mj_tab (d + 2) 217 [.inr (.inr (some m))] G M Q :=
  ⟨Nat.le_of_ble_eq_true rfl, r_nots_w h1 t M c _ _ hJ hb hQ⟩
abbrev hn_f (M : mj_M) (a : Nat) : Nat → Int := fun i => M.1 a i
set_option maxRecDepth 100000 in
theorem r_joins_w {d m rd sk : Nat} {G : mj_G} {Q : mj_P} {till : Int} : ∀ (t : Nat) (M : mj_M) (c cb sb : Nat), hn_J G M m rd sk t c (hn_b (hn_f M sk) t + 1) → c + t ≤ 45 →
    (∀ M' t' c', hn_J G M' m rd sk t' c' (hn_b (hn_f M sk) t' + 1) → t' ≤ t → c' + t' = c + t → ab_frm hn_W G M M' → (till = 12 → ∀ u, t' = u + 1 → M.1 sk u ≠ 11 ∧ M.1 sk u ≠ 12) → Q none G M') →
    mj_W sx_ms (mj_R mj_tab (d + 1)) mt_X12_joins.2.2.2.2.1 Q mt_X12_joins.2.2.2.2.1 [some (.inr (.inr (some m))), some (.inl till)] [] G M cb sb := by
  intro t
  induction t with
  | zero =>
    intro M c cb sb hJ hb hQ
    have hJ0 := hJ
    obtain ⟨⟨hm, h8, hrd, h52, hsk⟩, hI, h55, h53, hk⟩ := hJ
    refine mj_W.run (mj_R_mo _ _) 30 ?_
    refine hn_gi (fk := 55) (v := ((0 : Nat) : Int)) (List.cons_ne_nil _ _) rfl rfl rfl hm h55 ?_
    refine ⟨fun c1 => And.intro rfl (hQ M 0 c hJ0 (Nat.le_refl 0) rfl ab_frm.rf (fun _ u hu => by omega)), fun c1 => absurd (show ((0 : Nat) : Int) ≤ 0 from Int.le_refl 0) c1⟩
  | succ t ih =>
    intro M c cb sb hJ hb hQ
    have hJ0 := hJ
    obtain ⟨⟨hm, h8, hrd, h52, hsk⟩, hI, h55, h53, hk⟩ := hJ
    have nr : m ≠ rd := hn_ne hm hrd (by decide)
    have nk : sk ≠ m := hn_ne hsk hm (by decide)
    have ti : (((t + 1 : Nat) : Int) - 1).toNat = t := by omega
    have pop : (M.1 sk t = 11 ∨ M.1 sk t = 12) → mj_W sx_ms (mj_R mj_tab (d + 1)) mt_X12_joins.2.2.2.2.1 Q (mt_X12_joins.2.2.2.2.1.drop 24) [some (.inr (.inr (some m))), some (.inl till)] [] G M cb sb := by
      intro hv
      refine mj_W.run (mj_R_mo _ _) 16 ?_
      refine hn_gi (fk := 55) (v := ((t + 1 : Nat) : Int)) (List.cons_ne_nil _ _) rfl rfl rfl hm h55 ?_
      refine Or.inl ⟨⟨by show (-2147483648 : Int) ≤ ((t + 1 : Nat) : Int) - 1; omega, by show ((t + 1 : Nat) : Int) - 1 < (2147483648 : Int); omega⟩, ?_⟩
      refine hn_pi (fk := 55) (List.cons_ne_nil _ _) rfl rfl rfl hm (fun q => by cases q) ?_
      refine hn_gr (fk := 52) (List.cons_ne_nil _ _) rfl rfl rfl hm h52 ?_
      refine hn_gi (fk := 55) (v := ((t + 1 : Nat) : Int) - 1) (List.cons_ne_nil _ _) rfl rfl rfl hm hn_s ?_
      refine ⟨68100, 45, hsk, rfl, by show (0 : Int) ≤ ((t + 1 : Nat) : Int) - 1; omega, by show ((t + 1 : Nat) : Int) - 1 < ((45 : Nat) : Int); omega, ?_⟩
      have i2 : ab_Inv G (mj_p0 M m 55 (((t + 1 : Nat) : Int) - 1)) := hI.p0 (by rw [hm]; exact hn_ci (by omega) (by omega) (by decide))
      have f2 : ab_frm hn_W G M (mj_p0 M m 55 (((t + 1 : Nat) : Int) - 1)) := hn_f0 ab_frm.rf ⟨(1012, 55, 56), by decide, by rw [hm], by decide, by decide⟩
      refine ⟨List.cons_ne_nil _ _, 1012, 0, hm, rfl, by decide, Nat.zero_le _, Nat.zero_le _, ?_⟩
      refine r_code (rd := rd) (sk := sk) (c := c) ⟨hm, h8, hrd, h52, hsk⟩ i2 ((hn_n (Or.inr (by decide))).trans h53) (by omega) (i2.mj _ _) ⟨by decide, by decide⟩ ⟨by decide, by decide⟩ (fun M3 i3 f3 k53 k55 _ kx kb => ?_)
      have q55 : M3.1 m 55 = (t : Int) := k55.trans (hn_s.trans (by show ((t + 1 : Nat) : Int) - 1 = _; omega))
      have kx : M3.1 rd (3 * c) = M.1 sk t := kx.trans ((hn_n (Or.inl nk)).trans (by show M.1 sk (((t + 1 : Nat) : Int) - 1).toNat = _; rw [ti]))
      have fk := f2.tr f3
      have qk : ∀ k, M3.1 sk k = M.1 sk k := fun k => (fk sk k (by rw [hsk]; exact hn_nt (by decide))).1
      have bt : hn_b (hn_f M sk) (t + 1) = hn_b (hn_f M sk) t + 1 := by
        show hn_b (hn_f M sk) t + (if M.1 sk t = 11 ∨ M.1 sk t = 12 then 1 else 0) = _
        rw [if_pos hv]
      have b1 : ∀ u, hn_b (hn_f M3 sk) u = hn_b (hn_f M sk) u := fun u => hn_b.cg (fun j _ => qk j)
      have J3 : hn_J G M3 m rd sk t (c + 1) (hn_b (hn_f M3 sk) t + 1) := ⟨hn_R.fr hJ0.1 fk (hn_nc (by decide)) (hn_nc (by decide)), i3, q55, k53, hn_b (hn_f M sk) (t + 1) + 1, hk.cg (fun j hj => by
        show M.1 rd (3 * j) = M3.1 rd (3 * j)
        rw [kb _ (by omega)]
        exact (hn_n (Or.inl nr.symm)).symm), Or.inr (Or.inl ⟨by show M3.1 rd (3 * c) = 11 ∨ M3.1 rd (3 * c) = 12; rw [kx]; exact hv, by omega, by rw [b1, bt]⟩)⟩
      refine (show mj_W sx_ms (mj_R mj_tab (d + 1)) mt_X12_joins.2.2.2.2.1 Q mt_X12_joins.2.2.2.2.1 [some (.inr (.inr (some m))), some (.inl till)] [] G M3 _ _ from ih M3 (c + 1) _ _ J3 (by omega) (fun M' t' c' g1 g2 g3 g4 g5 => hQ M' t' c' (by rw [b1] at g1; exact g1) (by omega) (by omega) (fk.tr g4) (fun e u hu => ?_)))
      rw [← qk u]
      exact g5 e u hu
    refine mj_W.run (mj_R_mo _ _) 30 ?_
    refine hn_gi (fk := 55) (v := ((t + 1 : Nat) : Int)) (List.cons_ne_nil _ _) rfl rfl rfl hm h55 ?_
    refine ⟨fun c1 => absurd (show ((t + 1 : Nat) : Int) ≤ 0 from c1) (by omega), fun _ => ?_⟩
    refine hn_gr (fk := 52) (List.cons_ne_nil _ _) rfl rfl rfl hm h52 ?_
    refine hn_gi (fk := 55) (v := ((t + 1 : Nat) : Int)) (List.cons_ne_nil _ _) rfl rfl rfl hm h55 ?_
    refine Or.inl ⟨⟨by show (-2147483648 : Int) ≤ ((t + 1 : Nat) : Int) - 1; omega, by show ((t + 1 : Nat) : Int) - 1 < (2147483648 : Int); omega⟩, ?_⟩
    refine ⟨68100, 45, hsk, rfl, by show (0 : Int) ≤ ((t + 1 : Nat) : Int) - 1; omega, by show ((t + 1 : Nat) : Int) - 1 < ((45 : Nat) : Int); omega, ?_⟩
    refine ⟨fun c1 => mj_W.stay (mj_R_mo _ _) _ (pop (Or.inl (by
      have c1 : M.1 sk (((t + 1 : Nat) : Int) - 1).toNat = 11 := c1
      rw [ti] at c1
      exact c1))), fun c1 => ?_⟩
    have c1 : M.1 sk t ≠ 11 := by
      have c1 : ¬ M.1 sk (((t + 1 : Nat) : Int) - 1).toNat = 11 := c1
      rw [ti] at c1
      exact c1
    refine hn_gr (fk := 52) (List.cons_ne_nil _ _) rfl rfl rfl hm h52 ?_
    refine hn_gi (fk := 55) (v := ((t + 1 : Nat) : Int)) (List.cons_ne_nil _ _) rfl rfl rfl hm h55 ?_
    refine Or.inl ⟨⟨by show (-2147483648 : Int) ≤ ((t + 1 : Nat) : Int) - 1; omega, by show ((t + 1 : Nat) : Int) - 1 < (2147483648 : Int); omega⟩, ?_⟩
    refine ⟨68100, 45, hsk, rfl, by show (0 : Int) ≤ ((t + 1 : Nat) : Int) - 1; omega, by show ((t + 1 : Nat) : Int) - 1 < ((45 : Nat) : Int); omega, ?_⟩
    refine ⟨fun c2 => And.intro rfl (hQ M (t + 1) c hJ0 (Nat.le_refl _) rfl ab_frm.rf (fun _ u hu => ?_)), fun c2 => ?_⟩
    · have c2 : M.1 sk (((t + 1 : Nat) : Int) - 1).toNat ≠ 12 := c2
      rw [ti] at c2
      have : u = t := by omega
      subst this
      exact ⟨c1, c2⟩
    have c2 : M.1 sk t = 12 := by
      have c2 : ¬ M.1 sk (((t + 1 : Nat) : Int) - 1).toNat ≠ 12 := c2
      rw [ti] at c2
      omega
    refine ⟨fun c3 => And.intro rfl (hQ M (t + 1) c hJ0 (Nat.le_refl _) rfl ab_frm.rf (fun e => absurd e c3)), fun c3 => ?_⟩
    exact mj_W.stay (mj_R_mo _ _) _ (pop (Or.inr c2))
set_option maxRecDepth 100000 in
theorem r_joins {d m rd sk t c : Nat} {till : Int} {G : mj_G} {M : mj_M} {Q : mj_P} (hJ : hn_J G M m rd sk t c (hn_b (hn_f M sk) t + 1)) (hb : c + t ≤ 45)
    (hQ : ∀ M' t' c', hn_J G M' m rd sk t' c' (hn_b (hn_f M sk) t' + 1) → t' ≤ t → c' + t' = c + t → ab_frm hn_W G M M' → (till = 12 → ∀ u, t' = u + 1 → M.1 sk u ≠ 11 ∧ M.1 sk u ≠ 12) → Q none G M') : mj_R mj_tab (d + 2) 207 [.inr (.inr (some m)), .inl till] G M Q :=
  ⟨Nat.le_of_ble_eq_true rfl, r_joins_w t M c _ _ hJ hb hQ⟩
end
section
/-! ===== by hand: calls of the reference's small methods ===== -/
theorem hn_RR {G : mj_G} {m n : Nat} {f : Nat → Int} (hm : G m = (1012, 0)) : ab_RR (n, f, 1, fun _ => some m) G [(1012, 0)] := ⟨rfl, fun i q h => by
  cases i with
  | zero =>
    cases h
    exact Or.inr (Or.inr (Or.inr ⟨by decide, by decide, by decide, m, rfl, hm⟩))
  | succ i => cases h⟩
def hn_g (zs : List Int) (i : Nat) : Int := zs.getD i 0
theorem hn_Y {zs : List Int} {q : Nat × (Nat → Option Nat)} {Y : ab_Y} (h : Y.length = zs.length) (hy : ∀ i lo hi r, ab_ny Y i = some (lo, hi, r) → r = [] ∧ lo ≤ hn_g zs i ∧ hn_g zs i ≤ hi) : ab_RY (zs.length, hn_g zs, q) Y := ⟨h.symm, fun i (lo, hi, r) e => by
  obtain ⟨rfl, h1, h2⟩ := hy i lo hi r e
  exact ⟨h1, h2, fun r hr => by cases hr⟩⟩
theorem hn_Y0 {q : Nat × (Nat → Option Nat)} : ab_RY (0, hn_g [], q) [] := hn_Y (zs := []) rfl (fun i lo hi r e => by cases e)
theorem hn_Y1 {z lo hi : Int} {q : Nat × (Nat → Option Nat)} (h : lo ≤ z ∧ z ≤ hi) : ab_RY (1, hn_g [z], q) [(lo, hi, [])] := hn_Y (zs := [z]) rfl (fun i lo hi r e => by
  cases i with
  | zero => cases e; exact ⟨rfl, h⟩
  | succ i => cases e)
theorem hn_Y2 {z lo hi z2 lo2 hi2 : Int} {q : Nat × (Nat → Option Nat)} (h : lo ≤ z ∧ z ≤ hi) (h2 : lo2 ≤ z2 ∧ z2 ≤ hi2) : ab_RY (2, hn_g [z, z2], q) [(lo, hi, []), (lo2, hi2, [])] := hn_Y (zs := [z, z2]) rfl (fun i lo hi r e => by
  cases i with
  | zero => cases e; exact ⟨rfl, h⟩
  | succ i => cases i with
    | zero => cases e; exact ⟨rfl, h2⟩
    | succ i => cases e)
theorem hn_Y4 {z lo hi z2 lo2 hi2 z3 lo3 hi3 z4 lo4 hi4 : Int} {q : Nat × (Nat → Option Nat)} (h : lo ≤ z ∧ z ≤ hi) (h2 : lo2 ≤ z2 ∧ z2 ≤ hi2) (h3 : lo3 ≤ z3 ∧ z3 ≤ hi3) (h4 : lo4 ≤ z4 ∧ z4 ≤ hi4) : ab_RY (4, hn_g [z, z2, z3, z4], q) [(lo, hi, []), (lo2, hi2, []), (lo3, hi3, []), (lo4, hi4, [])] := hn_Y (zs := [z, z2, z3, z4]) rfl (fun i lo hi r e => by
  cases i with
  | zero => cases e; exact ⟨rfl, h⟩
  | succ i => cases i with
    | zero => cases e; exact ⟨rfl, h2⟩
    | succ i => cases i with
      | zero => cases e; exact ⟨rfl, h3⟩
      | succ i => cases i with
        | zero => cases e; exact ⟨rfl, h4⟩
        | succ i => cases e)
theorem hn_ii {z : Int} (h : mj_in z) : (Int.negSucc 2147483647 : Int) ≤ z ∧ z ≤ .ofNat 2147483647 := ⟨h.1, by have := h.2; show z ≤ 2147483647; omega⟩
theorem hn_I {w : ab_wd} {i : Nat} {z : Int} (h : i < w.1) (e : w.2.1 i = z) : ab_RI w (.inr (i, 1, .ofNat 0)) z := ⟨h, by
  have h4 : Int.ofNat 1 * w.2.1 i = w.2.1 i := Int.one_mul _
  show Int.ofNat 1 * w.2.1 i + 0 = z
  omega⟩
theorem r_isWord {d m : Nat} {v : Int64} {G : mj_G} {M : mj_M} {Q : mj_P} (hm : G m = (1012, 0)) (hI : ab_Inv G M) (hQ : ∀ M' z, ab_Inv G M' → ab_frm [] G M M' → (z = 0 ∨ z = 1) → Q (some (.inl z)) G M') : mj_R mj_tab (d + 1) 206 [.inr (.inr (some m)), .inr (.inl v)] G M Q := by
  refine xo_X12_isWord (d) (Nat.zero_le _) G M (0, hn_g [], 1, fun _ => some m) _ Q hn_Y0 (hn_RR hm) (fun e he => by cases he) ⟨_, _, rfl, ⟨Nat.zero_lt_one, rfl⟩, _, _, rfl, ⟨_, rfl⟩, rfl⟩ hI (fun r M' i f ⟨po, hp, h1⟩ => ?_)
  cases hp with
  | head => obtain ⟨⟨z, rfl, hz⟩, -⟩ := h1; exact hQ M' z i f (Or.inl hz)
  | tail _ hp => cases hp with
    | head => obtain ⟨⟨z, rfl, hz⟩, -⟩ := h1; exact hQ M' z i f (Or.inr hz)
    | tail _ hp => cases hp
theorem r_isSign {d m : Nat} {v : Int} {G : mj_G} {M : mj_M} {Q : mj_P} (hm : G m = (1012, 0)) (hI : ab_Inv G M) (hv : mj_in v) (hQ : ∀ M' z, ab_Inv G M' → ab_frm [] G M M' → (z = 0 ∨ z = 1) → Q (some (.inl z)) G M') : mj_R mj_tab (d + 1) 203 [.inr (.inr (some m)), .inl v] G M Q := by
  refine xo_X12_isSign (d) (Nat.zero_le _) G M (1, hn_g [v], 1, fun _ => some m) _ Q (hn_Y1 (hn_ii hv)) (hn_RR hm) (fun e he => by cases he) ⟨_, _, rfl, ⟨Nat.zero_lt_one, rfl⟩, _, _, rfl, ⟨_, rfl, hn_I (Nat.le_of_ble_eq_true rfl) rfl⟩, rfl⟩ hI (fun r M' i f ⟨po, hp, h1⟩ => ?_)
  cases hp with
  | head => obtain ⟨⟨z, rfl, hz⟩, -⟩ := h1; exact hQ M' z i f (Or.inl hz)
  | tail _ hp => cases hp with
    | head => obtain ⟨⟨z, rfl, hz⟩, -⟩ := h1; exact hQ M' z i f (Or.inr hz)
    | tail _ hp => cases hp
theorem r_leafOf {d m : Nat} {G : mj_G} {M : mj_M} {Q : mj_P} (hm : G m = (1012, 0)) (hI : ab_Inv G M) (hQ : ∀ M' z, ab_Inv G M' → ab_frm [] G M M' → (-1 ≤ z ∧ z ≤ 8) → Q (some (.inl z)) G M') : mj_R mj_tab (d + 2) 208 [.inr (.inr (some m))] G M Q := by
  refine xo_X12_leafOf (d + 1) (Nat.le_add_left _ _) G M (0, hn_g [], 1, fun _ => some m) _ Q hn_Y0 (hn_RR hm) (fun e he => by cases he) ⟨_, _, rfl, ⟨Nat.zero_lt_one, rfl⟩, rfl⟩ hI (fun r M' i f ⟨po, hp, h1⟩ => ?_)
  cases hp with
  | head => obtain ⟨⟨z, rfl, hz⟩, -⟩ := h1; exact hQ M' z i f ⟨hz.1, hz.2.1⟩
  | tail _ hp => cases hp
theorem r_bad {d m : Nat} {v : Int} {G : mj_G} {M : mj_M} {Q : mj_P} (hm : G m = (1012, 0)) (hI : ab_Inv G M) (hv : mj_in v) (hQ : ∀ M', ab_Inv G M' → ab_frm [(1012, 15, 16)] G M M' → Q (some (.inl 0)) G M') : mj_R mj_tab (d + 1) 161 [.inr (.inr (some m)), .inl v] G M Q := by
  refine xo_X12_bad (d) (Nat.zero_le _) G M (1, hn_g [v], 1, fun _ => some m) _ Q (hn_Y1 (hn_ii hv)) (hn_RR hm) (fun e he => by cases he) ⟨_, _, rfl, ⟨Nat.zero_lt_one, rfl⟩, _, _, rfl, ⟨_, rfl, hn_I (Nat.le_of_ble_eq_true rfl) rfl⟩, rfl⟩ hI (fun r M' i f ⟨po, hp, h1⟩ => ?_)
  cases hp with
  | head =>
    obtain ⟨⟨z, rfl, hz⟩, -⟩ := h1
    have hz : z = 0 := hz
    subst hz
    exact hQ M' i f
  | tail _ hp => cases hp
theorem r_taken {d m : Nat} {v : Int} {G : mj_G} {M : mj_M} {Q : mj_P} (hm : G m = (1012, 0)) (hI : ab_Inv G M) (hv : mj_in v) (hQ : ∀ M', ab_Inv G M' → ab_frm [(1012, 2, 5)] G M M' → M'.1 m 2 = 0 → Q none G M') : mj_R mj_tab (d + 1) 245 [.inr (.inr (some m)), .inl v] G M Q := by
  refine xo_X12_taken (d) (Nat.zero_le _) G M (1, hn_g [v], 1, fun _ => some m) _ Q (hn_Y1 (hn_ii hv)) (hn_RR hm) (fun e he => by cases he) ⟨_, _, rfl, ⟨Nat.zero_lt_one, rfl⟩, _, _, rfl, ⟨_, rfl, hn_I (Nat.le_of_ble_eq_true rfl) rfl⟩, rfl⟩ hI (fun r M' i f ⟨po, hp, h1⟩ => ?_)
  cases hp with
  | head =>
    obtain ⟨rfl, h2⟩ := h1
    obtain ⟨a, ha, hx⟩ := h2 _ (List.Mem.head _)
    cases ha
    exact hQ M' i f hx
  | tail _ hp => cases hp
theorem r_next {d m : Nat} {G : mj_G} {M : mj_M} {Q : mj_P} (hm : G m = (1012, 0)) (hI : ab_Inv G M) (hQ : ∀ M', ab_Inv G M' → ab_frm [(1012, 4, 4), (1012, 11, 14), (1012, 17, 17)] G M M' → Q none G M') : mj_R mj_tab (d + 2) 216 [.inr (.inr (some m))] G M Q := by
  refine xo_X12_next (d + 1) (Nat.le_add_left _ _) G M (2, hn_g [M.1 m 4, M.1 m 13], 1, fun _ => some m) _ Q (hn_Y2 (by have := hI.1 m 4; rw [hm] at this; exact this) (hn_ii (hI.mj m 13))) (hn_RR hm) (fun e he => by
    cases he with
    | head => exact ⟨Nat.zero_lt_one, m, 4, rfl, rfl, by decide, hn_I (Nat.le_of_ble_eq_true rfl) rfl⟩
    | tail _ he => cases he with
      | head => exact ⟨Nat.zero_lt_one, m, 13, rfl, rfl, by decide, hn_I (Nat.le_of_ble_eq_true rfl) rfl⟩
      | tail _ he => cases he) ⟨_, _, rfl, ⟨Nat.zero_lt_one, rfl⟩, rfl⟩ hI (fun r M' i f ⟨po, hp, h1⟩ => ?_)
  have fin : r = none → Q r G M' := fun e => by subst e; exact hQ M' i f
  apply fin
  cases hp with
  | head => exact h1.1
  | tail _ hp => cases hp with
    | head => exact h1.1
    | tail _ hp => cases hp with
      | head => exact h1.1
      | tail _ hp => cases hp with
        | head => exact h1.1
        | tail _ hp => cases hp with
          | head => exact h1.1
          | tail _ hp => cases hp
theorem r_isLeaf {d m : Nat} {v v2 v3 v4 : Int} {G : mj_G} {M : mj_M} {Q : mj_P} (hm : G m = (1012, 0)) (hI : ab_Inv G M) (hv : 0 ≤ v ∧ v ≤ 7) (hv2 : mj_in v2) (hv3 : mj_in v3) (hv4 : mj_in v4) (hQ : ∀ M' z, ab_Inv G M' → ab_frm [] G M M' → (z = 0 ∨ z = 1) → Q (some (.inl z)) G M') : mj_R mj_tab (d + 2) 199 [.inr (.inr (some m)), .inl v, .inl v2, .inl v3, .inl v4] G M Q := by
  refine xo_X12_isLeaf (d + 1) (Nat.le_add_left _ _) G M (4, hn_g [v, v2, v3, v4], 1, fun _ => some m) _ Q (hn_Y4 hv (hn_ii hv2) (hn_ii hv3) (hn_ii hv4)) (hn_RR hm) (fun e he => by cases he) ⟨_, _, rfl, ⟨Nat.zero_lt_one, rfl⟩, _, _, rfl, ⟨_, rfl, hn_I (Nat.le_of_ble_eq_true rfl) rfl⟩, _, _, rfl, ⟨_, rfl, hn_I (Nat.le_of_ble_eq_true rfl) rfl⟩, _, _, rfl, ⟨_, rfl, hn_I (Nat.le_of_ble_eq_true rfl) rfl⟩, _, _, rfl, ⟨_, rfl, hn_I (Nat.le_of_ble_eq_true rfl) rfl⟩, rfl⟩ hI (fun r M' i f ⟨po, hp, h1⟩ => ?_)
  cases hp with
  | head => obtain ⟨⟨z, rfl, hz⟩, -⟩ := h1; exact hQ M' z i f (Or.inl hz)
  | tail _ hp => cases hp with
    | head => obtain ⟨⟨z, rfl, hz⟩, -⟩ := h1; exact hQ M' z i f (Or.inr hz)
    | tail _ hp => cases hp
end
