section
def oGK : List (Nat × Nat) := [(8, 8), (0, 5), (20, 328), (20, 4), (20, 4), (5, 9), (20, 20), (20, 20), (20, 8), (20, 8), (20, 4), (1, 2), (23, 5), (5, 9), (20, 20), (20, 20), (20, 8), (20, 8), (20, 4), (5, 9), (20, 20), (20, 20), (20, 8), (20, 8), (20, 4), (5, 9), (20, 20), (20, 20), (20, 8), (20, 8), (20, 4), (5, 9), (20, 20), (20, 20), (20, 8), (20, 8), (20, 4), (5, 9), (20, 20), (20, 20), (20, 8), (20, 8), (20, 4), (2, 3), (21, 328), (21, 8), (4, 10), (21, 1024), (22, 256), (6, 2), (20, 120), (3, 13), (20, 120), (20, 120), (20, 120), (20, 120), (20, 120), (20, 120), (20, 120), (20, 120), (7, 3), (20, 40), (9, 27), (20, 349), (20, 1745), (20, 349), (20, 120), (20, 4), (20, 40), (20, 65536), (20, 256), (20, 180), (20, 60), (20, 60), (20, 60), (20, 700), (20, 140), (21, 1), (21, 20480)]
def tGK (a : Nat) : Nat × Nat := oGK.getD a (99, 0)
def oGF : List (List (Option Nat)) := [[some 1, some 5, some 11, some 43, some 46, some 49, some 51, some 60], [some 2, some 3, some 4, none, none], [], [], [], [none, none, none, some 6, some 7, none, some 8, some 9, some 10], [], [], [], [], [], [some 12, none], [], [none, none, none, some 14, some 15, none, some 16, some 17, some 18], [], [], [], [], [], [none, none, none, some 20, some 21, none, some 22, some 23, some 24], [], [], [], [], [], [none, none, none, some 26, some 27, none, some 28, some 29, some 30], [], [], [], [], [], [none, none, none, some 32, some 33, none, some 34, some 35, some 36], [], [], [], [], [], [none, none, none, some 38, some 39, none, some 40, some 41, some 42], [], [], [], [], [], [some 1, some 44, some 45], [], [], [some 1, some 5, some 43, some 47, none, none, none, none, some 48, none], [], [], [some 50, none], [], [some 49, none, none, some 52, some 53, some 54, none, some 55, some 56, some 57, some 58, none, some 59], [], [], [], [], [], [], [], [], [some 1, some 49, some 61], [], [some 63, some 64, some 65, none, none, some 66, none, some 67, some 68, some 69, none, none, some 70, none, some 71, none, some 72, some 73, none, none, none, some 74, some 75, none, some 76, none, none], [], [], [], [], [], [], [], [], [], [], [], [], [], [], [], []]
def tGF (a k : Nat) : Option Nat := (oGF.getD a []).getD k none
def oFT : List (List Nat) := [[2, 2, 2, 0, 0], [2, 0], [2, 2, 2], [2, 0, 0, 2, 2, 2, 0, 2, 2, 2, 2, 0, 2], [2, 2, 2, 2, 3, 0, 0, 0, 2, 2], [0, 0, 0, 2, 2, 0, 2, 2, 2], [2, 0], [2, 2, 2], [2, 2, 2, 2, 2, 2, 2, 2], [2, 2, 2, 0, 0, 2, 0, 2, 2, 2, 3, 0, 2, 0, 2, 0, 2, 2, 0, 0, 0, 2, 2, 0, 2, 0, 1]]
def tFT (ci k : Nat) : Nat := (oFT.getD ci []).getD k 9
def tNF (ci : Nat) : Nat := (oFT.getD ci []).length
def tLB (j : Nat) : Int64 := ([-6148914691236517206, -3689348814741910324, -1085102592571150096, -71777214294589696, -281470681808896, -4294967296] : List Int64).getD j 0
def oFLD : List (List (Nat × (Nat × (Nat × Nat)))) := [[(9, (0, (0, 0))), (15, (0, (1, 0))), (18, (0, (2, 0))), (21, (0, (3, 0))), (25, (0, (4, 0)))], [(29, (5, (0, 1))), (11, (1, (0, 0))), (18, (1, (1, 0)))], [(51, (5, (5, 1))), (61, (5, (6, 1))), (57, (5, (7, 1))), (18, (2, (0, 0))), (9, (2, (1, 0))), (15, (2, (2, 0)))], [(36, (3, (0, 0))), (40, (3, (1, 0))), (44, (3, (2, 0))), (9, (3, (3, 0))), (15, (3, (4, 0))), (18, (3, (5, 0))), (47, (3, (6, 0))), (21, (3, (7, 0))), (24, (3, (8, 0))), (27, (3, (9, 0))), (30, (3, (10, 0))), (50, (3, (11, 0))), (33, (3, (12, 0)))], [(68, (5, (2, 1))), (73, (5, (3, 1))), (121, (5, (5, 1))), (124, (5, (6, 1))), (19, (4, (0, 0))), (23, (4, (1, 0))), (27, (4, (2, 0))), (9, (4, (3, 0))), (31, (4, (4, 0))), (38, (4, (5, 0))), (93, (4, (6, 0))), (96, (4, (7, 0))), (15, (4, (8, 0))), (158, (4, (9, 0)))], [(27, (5, (0, 0))), (31, (5, (1, 0))), (34, (5, (2, 0))), (9, (5, (3, 0))), (15, (5, (4, 0))), (37, (5, (5, 0))), (18, (5, (6, 0))), (21, (5, (7, 0))), (24, (5, (8, 0)))], [(9, (6, (0, 0))), (15, (6, (1, 0)))], [(15, (7, (0, 0))), (19, (7, (1, 0))), (9, (7, (2, 0)))], [(327, (5, (0, 1))), (204, (5, (1, 1))), (192, (5, (2, 1))), (222, (5, (3, 1))), (219, (5, (4, 1))), (276, (5, (5, 1))), (347, (5, (6, 1))), (350, (5, (7, 1))), (96, (5, (8, 1))), (12, (8, (0, 0))), (19, (8, (1, 0))), (26, (8, (2, 0))), (35, (8, (3, 0))), (44, (8, (4, 0))), (51, (8, (5, 0))), (60, (8, (6, 0))), (69, (8, (7, 0)))], [(7, (9, (0, 0))), (13, (9, (1, 0))), (16, (9, (2, 0))), (61, (9, (3, 0))), (57, (9, (4, 0))), (19, (9, (5, 0))), (192, (9, (6, 0))), (22, (9, (7, 0))), (25, (9, (8, 0))), (29, (9, (9, 0))), (53, (9, (10, 0))), (157, (9, (11, 0))), (32, (9, (12, 0))), (186, (9, (13, 0))), (35, (9, (14, 0))), (247, (9, (15, 0))), (38, (9, (16, 0))), (41, (9, (17, 0))), (276, (9, (18, 0))), (241, (9, (19, 0))), (256, (9, (20, 0))), (44, (9, (21, 0))), (47, (9, (22, 0))), (309, (9, (23, 0))), (50, (9, (24, 0))), (306, (9, (25, 0))), (328, (9, (26, 0)))], [], [], [], []]
def tFLD (own : Nat) : List (Nat × (Nat × (Nat × Nat))) := oFLD.getD own []
def oCALL : List (List (Nat × (Nat × (Nat × Nat)))) := [[(80, (0, (3, 0))), (28, (0, (5, 0))), (83, (1, (26, 0))), (45, (0, (27, 0))), (87, (1, (289, 0))), (32, (0, (4, 0))), (92, (0, (28, 0))), (95, (0, (8, 0))), (36, (0, (7, 0))), (98, (1, (187, 1))), (49, (0, (20, 0))), (53, (0, (21, 0))), (56, (0, (22, 0))), (77, (0, (23, 0))), (59, (1, (186, 1))), (63, (0, (6, 0))), (66, (0, (19, 0))), (70, (0, (17, 0))), (74, (0, (18, 0))), (40, (1, (290, 0)))], [(17, (2, (118, 1))), (22, (0, (36, 0))), (25, (0, (119, 0)))], [(22, (0, (1, 0))), (28, (0, (54, 0))), (36, (0, (5, 0))), (68, (0, (55, 0))), (44, (1, (53, 0))), (72, (0, (28, 0))), (75, (0, (56, 0))), (79, (0, (57, 0))), (105, (0, (58, 0))), (108, (0, (59, 0))), (111, (0, (60, 0))), (83, (0, (61, 0))), (86, (0, (62, 0))), (116, (0, (63, 0))), (120, (0, (64, 0))), (89, (0, (65, 0))), (124, (0, (66, 0))), (127, (0, (68, 0))), (130, (0, (67, 0))), (92, (0, (69, 0))), (47, (0, (70, 0))), (133, (0, (71, 0))), (96, (0, (72, 0))), (99, (0, (73, 0))), (137, (0, (74, 0))), (140, (0, (76, 0))), (143, (0, (77, 0))), (146, (0, (75, 0))), (40, (0, (47, 0))), (64, (0, (52, 0))), (32, (1, (187, 1)))], [(53, (0, (124, 0))), (59, (0, (81, 0))), (66, (0, (125, 0))), (62, (0, (80, 0))), (70, (0, (82, 0))), (73, (0, (85, 0))), (99, (0, (90, 0))), (102, (0, (92, 0))), (85, (1, (91, 0))), (105, (1, (42, 0))), (111, (1, (38, 0))), (114, (1, (39, 0))), (76, (0, (83, 0))), (89, (0, (88, 0))), (92, (0, (89, 0))), (96, (0, (84, 0))), (79, (0, (86, 0))), (82, (0, (87, 0))), (117, (0, (94, 0))), (121, (0, (7, 0))), (126, (0, (11, 0))), (130, (0, (16, 0))), (134, (0, (14, 0))), (137, (0, (15, 0))), (140, (0, (13, 0))), (143, (0, (12, 0)))], [(35, (0, (98, 0))), (42, (0, (99, 0))), (77, (0, (25, 0))), (46, (0, (30, 0))), (51, (0, (29, 0))), (55, (0, (45, 0))), (61, (0, (100, 0))), (83, (0, (47, 0))), (64, (1, (101, 0))), (87, (1, (288, 0))), (150, (0, (116, 0))), (106, (1, (187, 1))), (154, (0, (117, 0))), (99, (0, (106, 0))), (118, (0, (6, 0))), (103, (0, (107, 0))), (110, (0, (108, 0))), (127, (0, (49, 0))), (130, (0, (50, 0))), (133, (0, (51, 0))), (114, (0, (109, 0))), (137, (0, (48, 0))), (140, (0, (111, 0))), (144, (0, (113, 0))), (147, (0, (46, 0)))], [], [], [(23, (0, (130, 0))), (33, (0, (5, 0))), (38, (1, (40, 0))), (43, (1, (39, 0))), (46, (1, (38, 0))), (27, (1, (290, 0))), (49, (0, (126, 0))), (55, (0, (134, 0))), (58, (0, (6, 0))), (61, (0, (132, 0))), (71, (1, (41, 0))), (64, (0, (131, 0))), (68, (0, (133, 0)))], [(11, (2, (0, 1))), (18, (2, (118, 1))), (25, (2, (33, 0))), (32, (2, (44, 0))), (41, (2, (95, 0))), (50, (2, (123, 1))), (57, (2, (78, 0))), (66, (2, (128, 0))), (84, (0, (1, 0))), (100, (0, (2, 0))), (225, (0, (97, 0))), (271, (0, (115, 0))), (173, (0, (180, 0))), (357, (0, (35, 0))), (234, (0, (105, 0))), (238, (0, (103, 0))), (286, (0, (124, 0))), (294, (0, (127, 0))), (297, (0, (79, 0))), (317, (0, (125, 0))), (332, (0, (176, 0))), (176, (0, (31, 0))), (343, (0, (24, 0))), (180, (0, (45, 0))), (336, (1, (178, 0))), (162, (0, (5, 0))), (152, (0, (25, 0))), (156, (1, (288, 0))), (184, (0, (46, 0))), (340, (0, (177, 0))), (228, (0, (32, 0))), (320, (0, (34, 0))), (73, (1, (185, 0))), (88, (0, (10, 0))), (92, (0, (179, 0))), (103, (0, (96, 0))), (106, (1, (186, 0))), (231, (1, (187, 0))), (112, (0, (11, 0))), (117, (0, (181, 0))), (361, (0, (3, 0))), (121, (0, (12, 0))), (127, (0, (13, 0))), (130, (0, (17, 0))), (136, (0, (14, 0))), (139, (0, (18, 0))), (144, (0, (15, 0))), (147, (0, (16, 0))), (165, (0, (182, 0))), (366, (0, (4, 0))), (168, (0, (8, 0))), (187, (1, (188, 0))), (201, (0, (120, 0))), (211, (0, (121, 0))), (243, (0, (104, 0))), (246, (0, (110, 0))), (250, (1, (184, 0))), (253, (0, (102, 0))), (256, (1, (290, 0))), (261, (0, (112, 0))), (264, (0, (114, 0))), (267, (0, (183, 0))), (281, (0, (122, 0))), (291, (0, (126, 0))), (302, (0, (93, 0))), (306, (0, (9, 0))), (309, (0, (129, 0))), (314, (0, (131, 0))), (323, (0, (37, 0)))], [(64, (0, (191, 0))), (72, (1, (192, 0))), (90, (0, (204, 0))), (80, (0, (198, 0))), (68, (0, (196, 0))), (87, (0, (194, 0))), (83, (0, (202, 0))), (76, (0, (197, 0))), (97, (1, (206, 0))), (94, (1, (201, 0))), (101, (0, (203, 0))), (105, (0, (199, 0))), (108, (0, (208, 0))), (111, (0, (209, 0))), (115, (0, (212, 0))), (118, (0, (214, 0))), (121, (0, (216, 0))), (127, (0, (221, 0))), (124, (0, (220, 0))), (130, (0, (200, 0))), (150, (0, (193, 0))), (154, (0, (229, 0))), (147, (0, (228, 0))), (144, (0, (227, 0))), (136, (1, (225, 0))), (133, (1, (224, 0))), (140, (1, (226, 0))), (167, (0, (238, 0))), (164, (0, (237, 0))), (160, (0, (230, 0))), (170, (0, (239, 0))), (173, (0, (242, 0))), (177, (0, (247, 0))), (180, (0, (250, 0))), (183, (0, (253, 0))), (189, (0, (257, 0))), (297, (0, (276, 0))), (291, (0, (274, 0))), (250, (0, (268, 0))), (244, (0, (266, 0))), (253, (1, (267, 0))), (262, (0, (270, 0))), (266, (0, (269, 0))), (279, (0, (272, 0))), (259, (0, (271, 0))), (282, (0, (273, 0))), (272, (1, (263, 0))), (294, (0, (275, 0))), (285, (1, (264, 0))), (288, (1, (265, 0))), (303, (0, (278, 0))), (300, (0, (279, 0))), (320, (0, (282, 0))), (312, (0, (281, 0))), (323, (0, (284, 0))), (315, (0, (283, 0))), (334, (0, (286, 0)))], [(27, (1, (43, 0))), (31, (0, (125, 0))), (11, (1, (41, 0)))], [(111, (2, (135, 0))), (145, (0, (143, 0))), (149, (0, (144, 0))), (173, (0, (151, 0))), (180, (0, (153, 0))), (214, (0, (163, 0))), (221, (0, (165, 0))), (225, (0, (166, 0))), (235, (0, (169, 0))), (239, (0, (170, 0))), (249, (0, (173, 0))), (256, (0, (175, 0))), (115, (1, (302, 0))), (7, (0, (136, 0))), (124, (1, (303, 0))), (17, (0, (137, 0))), (128, (1, (304, 0))), (21, (0, (138, 0))), (132, (1, (305, 0))), (27, (0, (139, 0))), (135, (1, (306, 0))), (30, (0, (140, 0))), (138, (1, (307, 0))), (33, (0, (141, 0))), (142, (1, (308, 0))), (37, (0, (142, 0))), (153, (1, (309, 0))), (40, (0, (145, 0))), (156, (1, (310, 0))), (43, (0, (146, 0))), (159, (1, (311, 0))), (46, (0, (147, 0))), (163, (1, (312, 0))), (50, (0, (148, 0))), (166, (1, (313, 0))), (53, (0, (149, 0))), (170, (1, (314, 0))), (57, (0, (150, 0))), (177, (1, (315, 0))), (60, (0, (152, 0))), (185, (1, (316, 0))), (63, (0, (154, 0))), (188, (1, (317, 0))), (66, (0, (155, 0))), (192, (1, (318, 0))), (70, (0, (156, 0))), (196, (1, (319, 0))), (74, (0, (157, 0))), (199, (1, (320, 0))), (77, (0, (158, 0))), (202, (1, (321, 0))), (80, (0, (159, 0))), (205, (1, (322, 0))), (83, (0, (160, 0))), (208, (1, (323, 0))), (86, (0, (161, 0))), (211, (1, (324, 0))), (90, (0, (162, 0))), (218, (1, (325, 0))), (93, (0, (164, 0))), (229, (1, (326, 0))), (96, (0, (167, 0))), (232, (1, (327, 0))), (99, (0, (168, 0))), (243, (1, (328, 0))), (102, (0, (171, 0))), (246, (1, (329, 0))), (105, (0, (172, 0))), (253, (1, (330, 0))), (108, (0, (174, 0))), (114, (2, (189, 0))), (121, (0, (190, 0))), (255, (0, (195, 0))), (120, (0, (205, 0))), (127, (0, (207, 0))), (131, (0, (210, 0))), (134, (0, (211, 0))), (137, (0, (213, 0))), (141, (0, (215, 0))), (144, (0, (217, 0))), (148, (0, (218, 0))), (152, (0, (219, 0))), (155, (0, (222, 0))), (158, (0, (223, 0))), (162, (0, (231, 0))), (165, (0, (232, 0))), (169, (0, (233, 0))), (172, (0, (234, 0))), (176, (0, (235, 0))), (179, (0, (236, 0))), (184, (0, (240, 0))), (187, (0, (241, 0))), (191, (0, (243, 0))), (195, (0, (244, 0))), (198, (0, (245, 0))), (201, (0, (246, 0))), (204, (0, (248, 0))), (207, (0, (249, 0))), (210, (0, (251, 0))), (213, (0, (252, 0))), (217, (0, (254, 0))), (220, (0, (255, 0))), (224, (0, (256, 0))), (228, (0, (258, 0))), (231, (0, (259, 0))), (234, (0, (260, 0))), (238, (0, (261, 0))), (252, (0, (262, 0))), (242, (0, (277, 0))), (245, (0, (280, 0))), (248, (0, (285, 0))), (260, (0, (287, 0)))], [], []]
def tCALL (own : Nat) : List (Nat × (Nat × (Nat × Nat))) := oCALL.getD own []
def tCON (own : Nat) : List (Nat × Int) := ([[], [], [], [], [], [], [], [], [], [(28, 65536)], [], [], [], []] : List (List (Nat × Int))).getD own []
def oCOL : List (List (Nat × Int64)) := [[(90, -1)], [], [(114, -1)], [], [(81, -1)], [], [], [], [(330, 1862), (353, 31)], [(270, -1), (195, 6579297), (197, 6452595), (199, 7107949), (201, 6581857), (203, 29295), (205, 7499640), (207, 7104627), (209, 7497843), (211, 7496051), (213, 7760228), (215, 7169394), (217, 29029), (219, 29804), (221, 25964), (223, 7629939), (225, 6646899), (227, 7627107), (229, 7630702), (231, 6776174), (233, 435459550323), (235, 1954047354), (237, 1954047347), (239, 6648937), (318, 255), (332, 1862), (326, 31)], [], [], [(314, 6148914691236517205), (316, 3689348814741910323), (318, 1085102592571150095)], []]
def tCOL (own : Nat) : List (Nat × Int64) := oCOL.getD own []
def tNEW (own : Nat) : List (Nat × Nat) := ([[], [(9, 5)], [], [], [], [], [], [], [(9, 0), (16, 5), (23, 1), (30, 2), (39, 4), (48, 6), (55, 3), (64, 7)], [], [], [(8, 8), (112, 9)], [], []] : List (List (Nat × Nat))).getD own []
def oMP : List (Nat × Nat) := [(0, 0), (0, 0), (0, 0), (1, 0), (1, 0), (2, 0), (1, 0), (1, 0), (1, 0), (1, 0), (1, 0), (2, 0), (3, 0), (2, 0), (3, 0), (3, 0), (3, 0), (3, 0), (2, 0), (3, 0), (2, 0), (2, 0), (0, 0), (1, 0), (0, 0), (1, 0), (1, 0), (0, 0), (1, 0), (0, 0), (0, 0), (1, 0), (2, 0), (0, 1), (0, 1), (2, 1), (0, 1), (1, 1), (1, 20), (1, 20), (1, 20), (2, 20), (3, 20), (4, 20), (1, 2), (2, 2), (2, 2), (2, 2), (1, 2), (2, 2), (2, 2), (1, 2), (2, 2), (2, 2), (2, 2), (3, 2), (4, 2), (5, 2), (4, 2), (4, 2), (4, 2), (5, 2), (5, 2), (4, 2), (5, 2), (5, 2), (3, 2), (4, 2), (3, 2), (4, 2), (3, 2), (4, 2), (5, 2), (5, 2), (3, 2), (4, 2), (3, 2), (3, 2), (1, 3), (0, 3), (0, 3), (0, 3), (0, 3), (0, 3), (0, 3), (0, 3), (0, 3), (0, 3), (0, 3), (3, 3), (0, 3), (1, 3), (1, 3), (1, 3), (3, 3), (3, 4), (0, 4), (0, 4), (0, 4), (0, 4), (0, 4), (2, 4), (0, 4), (0, 4), (0, 4), (4, 4), (2, 4), (0, 4), (4, 4), (2, 4), (2, 4), (4, 4), (1, 4), (2, 4), (1, 4), (0, 4), (0, 4), (2, 4), (0, 5), (1, 5), (1, 5), (0, 5), (2, 5), (0, 6), (0, 6), (1, 6), (1, 6), (0, 6), (2, 7), (1, 7), (1, 7), (2, 7), (1, 7), (2, 7), (1, 7), (0, 8), (1, 8), (2, 8), (3, 8), (2, 8), (3, 8), (3, 8), (3, 8), (0, 8), (0, 8), (2, 8), (2, 8), (2, 8), (1, 8), (0, 8), (0, 8), (0, 8), (2, 8), (0, 8), (1, 8), (3, 8), (3, 8), (2, 8), (1, 8), (2, 8), (2, 8), (2, 8), (3, 8), (0, 8), (2, 8), (0, 8), (0, 8), (1, 8), (1, 8), (0, 8), (0, 8), (0, 8), (1, 8), (1, 8), (0, 8), (0, 8), (1, 8), (1, 8), (2, 8), (2, 8), (0, 8), (1, 8), (1, 8), (2, 8), (1, 8), (1, 8), (2, 8), (1, 8), (2, 8), (0, 9), (0, 9), (1, 9), (3, 9), (1, 9), (0, 9), (0, 9), (2, 9), (1, 9), (1, 9), (1, 9), (1, 9), (1, 9), (7, 9), (8, 9), (0, 9), (1, 9), (2, 9), (2, 9), (3, 9), (3, 9), (3, 9), (2, 9), (3, 9), (3, 9), (2, 9), (3, 9), (3, 9), (3, 9), (0, 9), (0, 9), (1, 9), (2, 9), (2, 9), (2, 9), (2, 9), (4, 9), (4, 9), (1, 9), (0, 9), (0, 9), (1, 9), (2, 9), (1, 9), (0, 9), (0, 9), (0, 9), (2, 9), (0, 9), (1, 9), (2, 9), (0, 9), (1, 9), (3, 9), (3, 9), (3, 9), (2, 9), (1, 9), (1, 9), (2, 9), (2, 9), (2, 9), (2, 9), (3, 9), (1, 9), (0, 9), (2, 9), (0, 9), (0, 9), (0, 9), (1, 9), (1, 9), (0, 9), (1, 9), (1, 9), (1, 9), (1, 9), (1, 9), (1, 9), (0, 9), (3, 9), (0, 9), (1, 9), (0, 9), (0, 9), (0, 9), (0, 9), (0, 9), (0, 9), (0, 9), (4, 9), (0, 9), (1, 9), (1, 9), (1, 9), (1, 9), (1, 9), (1, 9), (0, 9), (1, 20), (2, 20), (2, 20), (0, 20), (1, 20), (0, 20), (0, 20), (2, 20), (2, 20), (2, 20), (1, 20), (2, 20), (2, 20), (3, 20), (3, 20), (4, 20), (5, 20), (4, 20), (5, 20), (5, 20), (5, 20), (4, 20), (4, 20), (4, 20), (3, 20), (2, 20), (2, 20), (4, 20), (3, 20), (5, 20), (5, 20), (4, 20), (3, 20), (4, 20), (4, 20), (4, 20), (5, 20), (4, 20), (3, 20), (3, 20), (2, 20), (3, 20), (2, 20), (1, 20)]
def tMP (n : Nat) : Nat × Nat := oMP.getD n (0, 99)
end
section
/-! ===== an abstract machine over numbered objects: values, heap, instructions (a condition for each of them), one method's code ===== -/
abbrev AV : Type := Int ⊕ (Int64 ⊕ Option Nat)
abbrev Hp : Type := Nat × ((Nat → Nat → Int) × ((Nat → Nat → Int64) × (Nat → Nat → Option Nat)))
def hN (h : Hp) : Nat := h.1
def hI (h : Hp) : Nat → Nat → Int := h.2.1
def hJ (h : Hp) : Nat → Nat → Int64 := h.2.2.1
def hR (h : Hp) : Nat → Nat → Option Nat := h.2.2.2
def up2 {α : Type} (f : Nat → Nat → α) (a k : Nat) (x : α) : Nat → Nat → α := fun b j => if b = a ∧ j = k then x else f b j
def setI (h : Hp) (a k : Nat) (x : Int) : Hp := (h.1, up2 h.2.1 a k x, h.2.2)
def setJ (h : Hp) (a k : Nat) (x : Int64) : Hp := (h.1, h.2.1, up2 h.2.2.1 a k x, h.2.2.2)
def setR (h : Hp) (a k : Nat) (x : Option Nat) : Hp := (h.1, h.2.1, h.2.2.1, up2 h.2.2.2 a k x)
/-- a new object or array, all zero -/
def hnew (h : Hp) : Hp := (h.1 + 1, (fun a k => if a = h.1 then 0 else h.2.1 a k), (fun a k => if a = h.1 then 0 else h.2.2.1 a k), (fun a k => if a = h.1 then none else h.2.2.2 a k))
/-- n ints of the row b from q on come into the row a from d on -/
def cpyI (h : Hp) (b q a d n : Nat) : Hp := (h.1, (fun x k => if x = a ∧ d ≤ k ∧ k < d + n then h.2.1 b (q + (k - d)) else h.2.1 x k), h.2.2)
def Rng (x : Int) : Prop := -2147483648 ≤ x ∧ x < 2147483648
abbrev iw (x : Int) : Int32 := Int32.ofInt x
def bAnd (x y : Int) : Int := (iw x &&& iw y).toInt
def bOr (x y : Int) : Int := (iw x ||| iw y).toInt
def bXor (x y : Int) : Int := (iw x ^^^ iw y).toInt
def sShl (x y : Int) : Int := (iw x <<< (iw y &&& 31)).toInt
def sShr (x y : Int) : Int := (iw x >>> (iw y &&& 31)).toInt
def lShl (x : Int64) (y : Int) : Int64 := x <<< ((iw y).toInt64 &&& 63)
def lShr (x : Int64) (y : Int) : Int64 := x >>> ((iw y).toInt64 &&& 63)
def lUshr (x : Int64) (y : Int) : Int64 := (x.toUInt64 >>> ((iw y).toInt64.toUInt64 &&& Int64.toUInt64 63)).toInt64
def i2L (x : Int) : Int64 := (iw x).toInt64
def l2I (x : Int64) : Int := x.toInt32.toInt
def cmpL (x y : Int64) : Int := if x > y then 1 else if x = y then 0 else -1
def cat1 : AV → Bool
  | .inr (.inl _) => false
  | _ => true
def catS : List AV → Nat
  | [] => 0
  | v :: l => (if cat1 v then 1 else 2) + catS l
/-- what a place of the locals holds -/
def lget : List (Nat × AV) → Nat → Option AV
  | [], _ => none
  | q :: l, i => cond (Nat.beq q.1 i) (some q.2) (lget l i)
def lset1 (l : List (Nat × AV)) (i : Nat) (v : AV) : List (Nat × AV) := (i, v) :: l.filter (fun q => !(q.1 == i) && !(q.1 + 1 == i && !(cat1 q.2)))
def lset2 (l : List (Nat × AV)) (i : Nat) (v : AV) : List (Nat × AV) := (i, v) :: l.filter (fun q => !(q.1 == i) && (!(q.1 == i + 1) && !(q.1 + 1 == i && !(cat1 q.2))))
def memb (x : Nat) : List Nat → Bool
  | [] => false
  | y :: l => cond (Nat.beq x y) true (memb x l)
def look {α : Type} : List (Nat × α) → Nat → Option α
  | [], _ => none
  | q :: l, i => cond (Nat.beq q.1 i) (some q.2) (look l i)
/-- a row of code: the place of the next one, the places that it may jump to -/
abbrev Row : Type := Instr × (Nat × List Nat)
abbrev AK : Type := Nat → List (Nat × AV) → List AV → Hp → Nat → Nat → Prop
abbrev Spec : Type := List AV → Hp → (Option AV → Hp → Prop) → (Nat → Hp → Prop) → Prop
/-- what a caller knows of a callee: cells and slots that it may make, what it asks and gives -/
abbrev CS : Type := (List AV → Hp → Nat × Nat) × Spec
def noS : CS := (fun _ _ => (0, 0), fun _ _ _ _ => False)
def zero : List AV → Hp → Nat × Nat := fun _ _ => (0, 0)
def takeA : Nat → List AV → List AV → Option (List AV × List AV)
  | 0, acc, st => some (acc, st)
  | n + 1, acc, v :: st => takeA n (v :: acc) st
  | _ + 1, _, [] => none
def putR (r : Option AV) (st : List AV) : List AV := match r with
  | none => st
  | some v => v :: st
def ob (b : Bool) (P : Prop) : Prop := cond b P False
def hfind (hd : List (Nat × (Nat × (Nat × Nat)))) (pc E : Nat) : Option Nat := match hd with
  | [] => none
  | q :: l => cond (Nat.ble q.1 pc && (Nat.blt pc q.2.1 && Nat.beq q.2.2.1 E)) (some q.2.2.2) (hfind l pc E)
def swt (x lo : Int) (g : Nat → Prop) : List Nat → Prop
  | [] => True
  | t :: l => (x = lo → g t) ∧ swt x (lo + 1) g l
section Stp
variable (fx : Bool) (own rk MC MS : Nat) (S : Nat → CS) (hd : List (Nat × (Nat × (Nat × Nat)))) (Rt : Option AV → Hp → Nat → Nat → Prop) (X : Nat → Hp → Nat → Nat → Prop) (SL : Nat) (SX : Nat → Int) (k : AK)
def ldI (ls : List (Nat × AV)) (n : Nat) (g : AV → Prop) : Prop := match lget ls n with
  | some (.inl x) => g (.inl x)
  | _ => False
def ldL (ls : List (Nat × AV)) (n : Nat) (g : AV → Prop) : Prop := match lget ls n with
  | some (.inr (.inl x)) => g (.inr (.inl x))
  | _ => False
def ldA (ls : List (Nat × AV)) (n : Nat) (g : AV → Prop) : Prop := match lget ls n with
  | some (.inr (.inr x)) => g (.inr (.inr x))
  | _ => False
def two (st : List AV) (g : Int → Int → List AV → Prop) : Prop := match st with
  | .inl y :: .inl x :: r => g x y r
  | _ => False
def twoL (st : List AV) (g : Int64 → Int64 → List AV → Prop) : Prop := match st with
  | .inr (.inl y) :: .inr (.inl x) :: r => g x y r
  | _ => False
def oneI (st : List AV) (g : Int → List AV → Prop) : Prop := match st with
  | .inl x :: r => g x r
  | _ => False
def oneL (st : List AV) (g : Int64 → List AV → Prop) : Prop := match st with
  | .inr (.inl x) :: r => g x r
  | _ => False
def oneA (st : List AV) (g : Nat → List AV → Prop) : Prop := match st with
  | .inr (.inr (some a)) :: r => g a r
  | _ => False
def br (c : ClassFile.Cond) (x y : Int) (A B : Prop) : Prop := match c with
  | .eq => (x = y → A) ∧ (x ≠ y → B)
  | .ne => (x ≠ y → A) ∧ (x = y → B)
  | .lt => (x < y → A) ∧ (y ≤ x → B)
  | .ge => (y ≤ x → A) ∧ (x < y → B)
  | .gt => (y < x → A) ∧ (x ≤ y → B)
  | .le => (x ≤ y → A) ∧ (y < x → B)
def tg0 (tg : List Nat) : Nat := match tg with
  | t :: _ => t
  | [] => 0
/-- constants, locals, the stack, jumps -/
def stpA (pc : Nat) (i : Instr) (nx : Nat) (tg : List Nat) (ls : List (Nat × AV)) (st : List AV) (h : Hp) (c s : Nat) (other : Prop) : Prop := match i with
  | .iconst n => k nx ls (.inl n :: st) h c s
  | .bipush n => k nx ls (.inl n :: st) h c s
  | .sipush n => k nx ls (.inl n :: st) h c s
  | .lconst n => k nx ls (.inr (.inl (Int64.ofNat n)) :: st) h c s
  | .ldc idx => (match look (tCON own) idx with
    | some x => k nx ls (.inl x :: st) h c s
    | none => False)
  | .ldc2_w idx => (match look (tCOL own) idx with
    | some x => k nx ls (.inr (.inl x) :: st) h c s
    | none => False)
  | .aconst_null => k nx ls (.inr (.inr none) :: st) h c s
  | .iload_n n => ldI ls n (fun v => k nx ls (v :: st) h c s)
  | .iload n => ldI ls n (fun v => k nx ls (v :: st) h c s)
  | .lload_n n => ldL ls n (fun v => k nx ls (v :: st) h c s)
  | .lload n => ldL ls n (fun v => k nx ls (v :: st) h c s)
  | .aload_n n => ldA ls n (fun v => k nx ls (v :: st) h c s)
  | .aload n => ldA ls n (fun v => k nx ls (v :: st) h c s)
  | .istore_n n => oneI st (fun x r => k nx (lset1 ls n (.inl x)) r h c s)
  | .istore n => oneI st (fun x r => k nx (lset1 ls n (.inl x)) r h c s)
  | .lstore_n n => oneL st (fun x r => k nx (lset2 ls n (.inr (.inl x))) r h c s)
  | .lstore n => oneL st (fun x r => k nx (lset2 ls n (.inr (.inl x))) r h c s)
  | .astore_n n => oneA st (fun x r => k nx (lset1 ls n (.inr (.inr (some x)))) r h c s)
  | .astore n => oneA st (fun x r => k nx (lset1 ls n (.inr (.inr (some x)))) r h c s)
  | .iinc n d => (match lget ls n with
    | some (.inl x) => Rng (x + d) ∧ k nx (lset1 ls n (.inl (x + d))) st h c s
    | _ => False)
  | .dup => (match st with
    | v :: r => ob (cat1 v) (k nx ls (v :: v :: r) h c s)
    | _ => False)
  | .dup2 => (match st with
    | .inr (.inl x) :: r => k nx ls (.inr (.inl x) :: .inr (.inl x) :: r) h c s
    | v :: w :: r => ob (cat1 v && cat1 w) (k nx ls (v :: w :: v :: w :: r) h c s)
    | _ => False)
  | .pop => (match st with
    | v :: r => ob (cat1 v) (k nx ls r h c s)
    | _ => False)
  | .goto _ => k (tg0 tg) ls st h c s
  | .ifCond q _ => oneI st (fun x r => br q x 0 (k (tg0 tg) ls r h c s) (k nx ls r h c s))
  | .if_icmp q _ => two st (fun x y r => br q x y (k (tg0 tg) ls r h c s) (k nx ls r h c s))
  | .ifnonnull _ => (match st with
    | .inr (.inr v) :: r => (∀ a, v = some a → k (tg0 tg) ls r h c s) ∧ (v = none → k nx ls r h c s)
    | _ => False)
  | .tableswitch _ lo hi _ => oneI st (fun x r => (match tg with
    | d :: l => (x < lo ∨ hi < x → k d ls r h c s) ∧ swt x lo (fun t => k t ls r h c s) l
    | [] => False))
  | _ => other
/-- arithmetic -/
def stpB (i : Instr) (nx : Nat) (ls : List (Nat × AV)) (st : List AV) (h : Hp) (c s : Nat) (other : Prop) : Prop := match i with
  | .iadd => two st (fun x y r => Rng (x + y) ∧ k nx ls (.inl (x + y) :: r) h c s)
  | .isub => two st (fun x y r => Rng (x - y) ∧ k nx ls (.inl (x - y) :: r) h c s)
  | .imul => two st (fun x y r => Rng (x * y) ∧ k nx ls (.inl (x * y) :: r) h c s)
  | .idiv => two st (fun x y r => 0 ≤ x ∧ 0 < y ∧ k nx ls (.inl (x / y) :: r) h c s)
  | .irem => two st (fun x y r => 0 ≤ x ∧ 0 < y ∧ k nx ls (.inl (x % y) :: r) h c s)
  | .iand => two st (fun x y r => k nx ls (.inl (bAnd x y) :: r) h c s)
  | .ior => two st (fun x y r => k nx ls (.inl (bOr x y) :: r) h c s)
  | .ixor => two st (fun x y r => k nx ls (.inl (bXor x y) :: r) h c s)
  | .ishl => two st (fun x y r => k nx ls (.inl (sShl x y) :: r) h c s)
  | .ishr => two st (fun x y r => k nx ls (.inl (sShr x y) :: r) h c s)
  | .ineg => oneI st (fun x r => Rng (-x) ∧ k nx ls (.inl (-x) :: r) h c s)
  | .i2l => oneI st (fun x r => k nx ls (.inr (.inl (i2L x)) :: r) h c s)
  | .l2i => oneL st (fun x r => k nx ls (.inl (l2I x) :: r) h c s)
  | .ladd => twoL st (fun x y r => k nx ls (.inr (.inl (x + y)) :: r) h c s)
  | .lsub => twoL st (fun x y r => k nx ls (.inr (.inl (x - y)) :: r) h c s)
  | .lmul => twoL st (fun x y r => k nx ls (.inr (.inl (x * y)) :: r) h c s)
  | .land => twoL st (fun x y r => k nx ls (.inr (.inl (x &&& y)) :: r) h c s)
  | .lor => twoL st (fun x y r => k nx ls (.inr (.inl (x ||| y)) :: r) h c s)
  | .lxor => twoL st (fun x y r => k nx ls (.inr (.inl (x ^^^ y)) :: r) h c s)
  | .lcmp => twoL st (fun x y r => k nx ls (.inl (cmpL x y) :: r) h c s)
  | .lneg => oneL st (fun x r => k nx ls (.inr (.inl (-x)) :: r) h c s)
  | .lshl => (match st with
    | .inl y :: .inr (.inl x) :: r => k nx ls (.inr (.inl (lShl x y)) :: r) h c s
    | _ => False)
  | .lshr => (match st with
    | .inl y :: .inr (.inl x) :: r => k nx ls (.inr (.inl (lShr x y)) :: r) h c s
    | _ => False)
  | .lushr => (match st with
    | .inl y :: .inr (.inl x) :: r => k nx ls (.inr (.inl (lUshr x y)) :: r) h c s
    | _ => False)
  | _ => other
def inR (i : Int) (n : Nat) : Prop := 0 ≤ i ∧ i < n
/-- fields and arrays -/
def stpC (i : Instr) (nx : Nat) (ls : List (Nat × AV)) (st : List AV) (h : Hp) (c s : Nat) (other : Prop) : Prop := match i with
  | .getfield idx => (match look (tFLD own) idx with
    | some q => oneA st (fun a r => ob (Nat.beq (tGK a).1 q.1) (match tFT q.1 q.2.1 with
      | 1 => k nx ls (.inr (.inl (hJ h a q.2.1)) :: r) h c s
      | 2 => (match tGF a q.2.1 with
        | some b => (cond fx (k nx ls (.inr (.inr (some b)) :: r) h c s) (hR h a q.2.1 = some b ∧ k nx ls (.inr (.inr (some b)) :: r) h c s))
        | none => k nx ls (.inr (.inr (hR h a q.2.1)) :: r) h c s)
      | _ => k nx ls (.inl (hI h a q.2.1) :: r) h c s))
    | none => False)
  | .putfield idx => (match look (tFLD own) idx with
    | some q => (match st with
      | .inl x :: .inr (.inr (some a)) :: r => ob (Nat.beq (tGK a).1 q.1) (match tFT q.1 q.2.1 with
        | 0 => k nx ls r (setI h a q.2.1 x) c s
        | 3 => (x = 0 ∨ x = 1) ∧ k nx ls r (setI h a q.2.1 x) c s
        | _ => False)
      | .inr (.inl x) :: .inr (.inr (some a)) :: r => ob (Nat.beq (tGK a).1 q.1 && Nat.beq (tFT q.1 q.2.1) 1) (k nx ls r (setJ h a q.2.1 x) c s)
      | .inr (.inr (some b)) :: .inr (.inr (some a)) :: r => ob (Nat.beq (tGK a).1 q.1 && (Nat.beq (tFT q.1 q.2.1) 2 && (Nat.blt b 1000 && cond fx ((tGF a q.2.1).isNone) true))) (k nx ls r (setR h a q.2.1 (some b)) c s)
      | _ => False)
    | none => False)
  | .iaload => (match st with
    | .inl j :: .inr (.inr (some a)) :: r => cond (Nat.beq a 1000) (inR j SL ∧ k nx ls (.inl (SX j.toNat) :: r) h c s) (ob (Nat.beq (tGK a).1 20) (inR j (tGK a).2 ∧ k nx ls (.inl (hI h a j.toNat) :: r) h c s))
    | _ => False)
  | .laload => (match st with
    | .inl j :: .inr (.inr (some a)) :: r => cond (Nat.beq a 1001) (inR j 6 ∧ k nx ls (.inr (.inl (tLB j.toNat)) :: r) h c s) (ob (Nat.beq (tGK a).1 21) (inR j (tGK a).2 ∧ k nx ls (.inr (.inl (hJ h a j.toNat)) :: r) h c s))
    | _ => False)
  | .baload => (match st with
    | .inl j :: .inr (.inr (some a)) :: r => ob (Nat.beq (tGK a).1 22) (inR j (tGK a).2 ∧ k nx ls (.inl (hI h a j.toNat) :: r) h c s)
    | _ => False)
  | .aaload => (match st with
    | .inl j :: .inr (.inr (some a)) :: r => ob (Nat.beq (tGK a).1 23) (inR j (tGK a).2 ∧ k nx ls (.inr (.inr (hR h a j.toNat)) :: r) h c s)
    | _ => False)
  | .iastore => (match st with
    | .inl x :: .inl j :: .inr (.inr (some a)) :: r => ob (Nat.beq (tGK a).1 20) (inR j (tGK a).2 ∧ k nx ls r (setI h a j.toNat x) c s)
    | _ => False)
  | .lastore => (match st with
    | .inr (.inl x) :: .inl j :: .inr (.inr (some a)) :: r => ob (Nat.beq (tGK a).1 21) (inR j (tGK a).2 ∧ k nx ls r (setJ h a j.toNat x) c s)
    | _ => False)
  | .bastore => (match st with
    | .inl x :: .inl j :: .inr (.inr (some a)) :: r => ob (Nat.beq (tGK a).1 22) (inR j (tGK a).2 ∧ (x = 0 ∨ x = 1) ∧ k nx ls r (setI h a j.toNat x) c s)
    | _ => False)
  | .aastore => (match st with
    | .inr (.inr (some b)) :: .inl j :: .inr (.inr (some a)) :: r => ob (Nat.beq (tGK a).1 23 && Nat.beq (tGK b).1 5) (inR j (tGK a).2 ∧ b < 1000 ∧ k nx ls r (setR h a j.toNat (some b)) c s)
    | _ => False)
  | .arraylength => oneA st (fun a r => cond (Nat.beq a 1000) (k nx ls (.inl (SL : Int) :: r) h c s) (ob (Nat.ble 20 (tGK a).1) (k nx ls (.inl ((tGK a).2 : Int) :: r) h c s)))
  | .newarray t => (match t, st with
    | .int, .inl n :: r => c + 1 ≤ MC ∧ s + n.toNat ≤ MS ∧ ob (Nat.beq (tGK (hN h)).1 20) (n = (tGK (hN h)).2 ∧ k nx ls (.inr (.inr (some (hN h))) :: r) (hnew h) (c + 1) (s + n.toNat))
    | .long, .inl n :: r => c + 1 ≤ MC ∧ s + n.toNat ≤ MS ∧ ob (Nat.beq (tGK (hN h)).1 21) (n = (tGK (hN h)).2 ∧ k nx ls (.inr (.inr (some (hN h))) :: r) (hnew h) (c + 1) (s + n.toNat))
    | .boolean, .inl n :: r => c + 1 ≤ MC ∧ s + n.toNat ≤ MS ∧ ob (Nat.beq (tGK (hN h)).1 22) (n = (tGK (hN h)).2 ∧ k nx ls (.inr (.inr (some (hN h))) :: r) (hnew h) (c + 1) (s + n.toNat))
    | _, _ => False)
  | .anewarray _ => (match st with
    | .inl n :: r => c + 1 ≤ MC ∧ s + n.toNat ≤ MS ∧ ob (Nat.beq (tGK (hN h)).1 23) (n = (tGK (hN h)).2 ∧ k nx ls (.inr (.inr (some (hN h))) :: r) (hnew h) (c + 1) (s + n.toNat))
    | _ => False)
  | .getstatic _ => k nx ls (.inr (.inr (some 1001)) :: st) h c s
  | _ => other
/-- a call of the method n: its words -/
def doC (pc nx : Nat) (ls : List (Nat × AV)) (h : Hp) (c s : Nat) (n : Nat) (as rest : List AV) : Prop :=
  ob (Nat.ble (catS rest) 8) (c + ((S n).1 as h).1 ≤ MC ∧ s + ((S n).1 as h).2 ≤ MS ∧ (S n).2 as h (fun r h1 => k nx ls (putR r rest) h1 (c + ((S n).1 as h).1) (s + ((S n).1 as h).2))
    (fun E h1 => match hfind hd pc E with
      | some t => k t [] [.inr (.inr (some 1003))] h1 (c + ((S n).1 as h).1) (s + ((S n).1 as h).2)
      | none => X E h1 (c + ((S n).1 as h).1) (s + ((S n).1 as h).2)))
/-- calls, ends, what is made and thrown -/
def stpD (pc : Nat) (i : Instr) (nx : Nat) (tg : List Nat) (ls : List (Nat × AV)) (st : List AV) (h : Hp) (c s : Nat) : Prop := match i with
  | .invokevirtual idx => (match look (tCALL own) idx with
    | some q => (match takeA (tMP q.2.1).1 [] st with
      | some (as, .inr (.inr (some a)) :: rest) => ob (Nat.beq q.1 0 && Nat.beq (tGK a).1 (tMP q.2.1).2) (doC MC MS S hd X k pc nx ls h c s q.2.1 (.inr (.inr (some a)) :: as) rest)
      | _ => False)
    | none => False)
  | .invokestatic idx => (match look (tCALL own) idx with
    | some q => (match takeA (tMP q.2.1).1 [] st with
      | some (as, rest) => ob (Nat.beq q.1 1) (doC MC MS S hd X k pc nx ls h c s q.2.1 as rest)
      | _ => False)
    | none => (match st with
      | .inl n :: .inl d :: .inr (.inr (some a)) :: .inl q :: .inr (.inr (some b)) :: r => ob (Nat.beq (tGK a).1 20 && (Nat.beq (tGK b).1 20 && Nat.ble (catS r) 8)) (0 ≤ n ∧ 0 ≤ d ∧ 0 ≤ q ∧ q + n ≤ (tGK b).2 ∧ d + n ≤ (tGK a).2 ∧ k nx ls r (cpyI h b q.toNat a d.toNat n.toNat) c s)
      | _ => False))
  | .invokespecial idx => (match look (tCALL own) idx with
    | some q => (match takeA (tMP q.2.1).1 [] st with
      | some (as, .inr (.inr (some a)) :: rest) => ob (Nat.beq q.1 2 && Nat.beq (tGK a).1 (tMP q.2.1).2) (doC MC MS S hd X k pc nx ls h c s q.2.1 (.inr (.inr (some a)) :: as) rest)
      | _ => False)
    | none => oneA st (fun _ r => ob (Nat.ble (catS r) 8) (k nx ls r h c s)))
  | .new idx => (match tg with
    | [] => (match look (tNEW own) idx with
      | some q => c + 1 ≤ MC ∧ s + (tNF q) ≤ MS ∧ ob (!fx && Nat.beq (tGK (hN h)).1 q) (k nx ls (.inr (.inr (some (hN h))) :: st) (hnew h) (c + 1) (s + (tNF q)))
      | none => False)
    | E :: _ => c + 1 ≤ MC ∧ s + 6 ≤ MS ∧ ob (Nat.ble (catS st) 8) (X E h (c + 1) (s + 6)))
  | .ireturn => (match st with
    | [.inl x] => (match rk with
      | 1 => Rt (some (.inl x)) h c s
      | 2 => (x = 0 ∨ x = 1) ∧ Rt (some (.inl x)) h c s
      | _ => False)
    | _ => False)
  | .lreturn => (match st with
    | [.inr (.inl x)] => ob (Nat.beq rk 3) (Rt (some (.inr (.inl x))) h c s)
    | _ => False)
  | .areturn => (match st with
    | [.inr (.inr x)] => ob (Nat.beq rk 4) (Rt (some (.inr (.inr x))) h c s)
    | _ => False)
  | .return_ => (match st with
    | [] => ob (Nat.beq rk 0) (Rt none h c s)
    | _ => False)
  | _ => False
def stp (pc : Nat) (i : Instr) (nx : Nat) (tg : List Nat) (ls : List (Nat × AV)) (st : List AV) (h : Hp) (c s : Nat) : Prop :=
  stpA own k pc i nx tg ls st h c s (stpB k i nx ls st h c s (stpC fx own MC MS SL SX k i nx ls st h c s (stpD fx own rk MC MS S hd Rt X k pc i nx tg ls st h c s)))
end Stp
/-- from the place pc on, till the places of cut, where K must hold: the condition that all goes well -/
def aw (fx : Bool) (own rk MC MS : Nat) (S : Nat → CS) (hd : List (Nat × (Nat × (Nat × Nat)))) (Rt : Option AV → Hp → Nat → Nat → Prop) (X : Nat → Hp → Nat → Nat → Prop) (SL : Nat) (SX : Nat → Int) (code : List (Nat × Row)) (cut : List Nat) (K : AK) : Nat → AK
  | 0, _, _, _, _, _, _ => False
  | n + 1, pc, ls, st, h, c, s => match look code pc with
    | none => False
    | some r => stp fx own rk MC MS S hd Rt X SL SX (fun pc1 ls1 st1 h1 c1 s1 => cond (memb pc1 cut) (K pc1 ls1 st1 h1 c1 s1) (aw fx own rk MC MS S hd Rt X SL SX code cut K n pc1 ls1 st1 h1 c1 s1)) pc r.1 r.2.1 r.2.2 ls st h c s
end
section
def code_X0_get : List (Nat × Row) := [(0, (.iload_n 1, (1, []))), (1, (.ifCond .lt 25, (4, [26]))), (4, (.iload_n 1, (5, []))), (5, (.aload_n 0, (6, []))), (6, (.getfield 21, (9, []))), (9, (.if_icmp .ge 17, (12, [26]))), (12, (.iload_n 2, (13, []))), (13, (.ifCond .lt 13, (16, [26]))), (16, (.iload_n 2, (17, []))), (17, (.bipush 8, (19, []))), (19, (.if_icmp .ge 7, (22, [26]))), (22, (.iconst 1, (23, []))), (23, (.goto 4, (26, [27]))), (26, (.iconst 0, (27, []))), (27, (.istore_n 3, (28, []))), (28, (.iload_n 3, (29, []))), (29, (.ifCond .eq 17, (32, [46]))), (32, (.aload_n 0, (33, []))), (33, (.getfield 9, (36, []))), (36, (.iload_n 1, (37, []))), (37, (.bipush 8, (39, []))), (39, (.imul, (40, []))), (40, (.iload_n 2, (41, []))), (41, (.iadd, (42, []))), (42, (.iaload, (43, []))), (43, (.goto 4, (46, [47]))), (46, (.iconst (-1), (47, []))), (47, (.ireturn, (48, [])))]
set_option maxRecDepth 100000 in
theorem test_get (S : Nat → CS) (Rt : Option AV → Hp → Nat → Nat → Prop) (X : Nat → Hp → Nat → Nat → Prop) (K : AK) (h : Hp) (n w : Int)
    (h1 : 0 ≤ n ∧ n < hI h 1 3 ∧ 0 ≤ w ∧ w < 8 → Rt (some (.inl (hI h 2 (n * 8 + w).toNat))) h 0 0) (h2 : ¬ (0 ≤ n ∧ n < hI h 1 3 ∧ 0 ≤ w ∧ w < 8) → Rt (some (.inl (-1))) h 0 0) (hc : hI h 1 3 ≤ 40) :
    aw true 0 1 0 0 S [] Rt X 0 (fun _ => 0) code_X0_get [] K 40 0 [(0, .inr (.inr (some 1))), (1, .inl n), (2, .inl w)] [] h 0 0 := by
  apply And.intro
  · intro a1
    trace_state
    sorry
  · intro a1
    trace_state
    sorry
end
