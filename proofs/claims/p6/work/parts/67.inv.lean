def zk127 : Nat := 2574299122149394828747542311560225531564479899227072588332342068254215407461651186397916201960649812011108712085671690176545615365988176598889859332041736449
def zk128 : Nat := 73391955745858096860624395081159678378375970345329997597168905833321158156719791559179788876954217583083686
def zk129 : Nat := 27670116106269504048
def zk130 : Nat := 37662610406474078034711971967035618231110595735427607560291
def zk131 : Nat := 27802324040296509319766169648491939646962842039046924021763329829305907705211017291570640864808568742600751563261795168283198723748270366493124205327049361759491678446536312088065395927780558394153835110167575472357097498837045433423212342318725469001302943848250963778847717396342880212916741891120309620199081010390586763325283452676046565408064424387519730238358018239355738221441807045287606308251935722758751410705579603198059141293016972896564955963646351435202632513407923746262676010270974300228493374398163327279442792086124052729349389017555973424968002874882866368718135497046189264029339640471018228935796029840744216957619783705106946960419579175711334720294642625059381623948606432963206627470723495774160283152868143394032380507412000106203691613977376977688493906810800582804209955487872883626461698240574839034707954347024002712897514543701214711810270221510649121097976378697635991630270928356319061408386300097243523352192650469571500246581837024040692186314283932825781633755524234497979709415700912324043995858691334575844295007585643724815321464682177900773897142853318910936282916081076850639786496512294816568776175511205601454442534985745385800710805729753922382606135633579454044422876593738527395450391541749461936126026411537215355226153
def zk132 : Nat := 39614081275578913050870297200
def zk133 : Nat := 27670116106269504112
def zk134 : Nat := 27670116106269493264
def zk135 : Nat := 2574299122149394828747542311560225531564479899227072588332342068254215407461651186397916201960649812011108712085671690176545654980069433731058656104016904449
/-! ===== what holds between two calls ===== -/
def zqi0 : List (Nat × Nat) := [(0, zk0), (1, zk14), (2, zk15), (3, zk127), (4, zk128), (5, 131827), (6, zk129), (7, zk129), (8, 143923), (9, zk21), (10, 131475), (11, zk12), (12, zk12), (13, zk12), (14, zk12), (15, zk5), (16, zk18), (17, zk18), (18, zk19), (19, zk3), (20, zk7), (21, zk10), (22, zk12), (23, zk12), (24, zk12), (25, zk12), (26, zk11), (27, zk11), (28, zk22), (29, zk12), (30, zk12), (31, zk12), (32, zk12), (33, zk11), (34, zk11), (35, zk130), (36, zk24), (37, zk25), (38, zk12), (39, zk12), (40, zk12), (41, zk12), (42, zk11), (43, zk11), (44, zk26), (45, zk12), (46, zk12), (47, zk12), (48, zk12), (49, zk11), (50, zk11), (51, zk27), (52, zk12), (53, zk12), (54, zk12), (55, zk12), (56, zk11), (57, zk11), (58, zk28), (59, zk12), (60, zk12), (61, zk12), (62, zk12), (63, zk11), (64, zk11), (65, zk29), (66, zk12), (67, zk12), (68, zk12), (69, zk12), (70, zk11), (71, zk11), (72, zk30), (73, zk12), (74, zk12), (75, zk12), (76, zk12), (77, zk11), (78, zk11), (79, zk31), (80, zk12), (81, zk12), (82, zk12), (83, zk12), (84, zk11), (85, zk11), (86, zk32), (87, zk12), (88, zk12), (89, zk12), (90, zk12), (91, zk11), (92, zk11), (93, zk33), (94, zk12), (95, zk12), (96, zk12), (97, zk12), (98, zk11), (99, zk11), (100, zk34), (101, zk12), (102, zk12), (103, zk12), (104, zk12), (105, zk11), (106, zk11), (107, zk35), (108, zk12), (109, zk12), (110, zk12), (111, zk12), (112, zk11), (113, zk11), (114, zk36), (115, zk12), (116, zk12), (117, zk12), (118, zk12), (119, zk11), (120, zk11), (121, zk37), (122, zk12), (123, zk12), (124, zk12), (125, zk12), (126, zk11), (127, zk11), (128, zk38), (129, zk12), (130, zk12), (131, zk12), (132, zk12), (133, zk11), (134, zk11), (135, zk39), (136, zk12), (137, zk12), (138, zk12), (139, zk12), (140, zk11), (141, zk11), (142, zk40), (143, zk12), (144, zk12), (145, zk12), (146, zk12), (147, zk11), (148, zk11), (149, zk41), (150, zk12), (151, zk12), (152, zk12), (153, zk12), (154, zk11), (155, zk11), (156, zk42), (157, zk12), (158, zk12), (159, zk12), (160, zk12), (161, zk11), (162, zk11), (163, zk43), (164, zk12), (165, zk12), (166, zk12), (167, zk12), (168, zk11), (169, zk11), (170, zk44), (171, zk12), (172, zk12), (173, zk12), (174, zk12), (175, zk11), (176, zk11), (177, zk45), (178, zk12), (179, zk12), (180, zk12), (181, zk12), (182, zk11), (183, zk11), (184, zk46), (185, zk12), (186, zk12), (187, zk12), (188, zk12), (189, zk11), (190, zk11), (191, zk47), (192, zk12), (193, zk12), (194, zk12), (195, zk12), (196, zk11), (197, zk11), (198, zk48), (199, zk12), (200, zk12), (201, zk12), (202, zk12), (203, zk11), (204, zk11), (205, zk49), (206, zk12), (207, zk12), (208, zk12), (209, zk12), (210, zk11), (211, zk11), (212, zk50), (213, zk12), (214, zk12), (215, zk12), (216, zk12), (217, zk11), (218, zk11), (219, zk51), (220, zk12), (221, zk12), (222, zk12), (223, zk12), (224, zk11), (225, zk11), (226, zk52), (227, zk12), (228, zk12), (229, zk12), (230, zk12), (231, zk11), (232, zk11), (233, zk53), (234, zk12), (235, zk12), (236, zk12), (237, zk12), (238, zk11), (239, zk11), (240, zk54), (241, zk12), (242, zk12), (243, zk12), (244, zk12), (245, zk11), (246, zk11), (247, zk90), (248, zk13), (249, zk6), (250, zk7), (251, zk7), (252, zk7), (253, zk89), (254, zk99), (255, zk7), (256, zk11), (257, zk123), (258, zk123), (259, zk20), (260, 131475), (261, zk12), (262, zk12), (263, zk12), (264, zk12), (265, zk2), (266, zk18), (267, zk18), (268, zk19), (269, zk3), (270, zk7), (271, zk91), (272, zk12), (273, zk12), (274, zk12), (275, zk12), (276, zk11), (277, zk11), (278, zk94), (279, zk12), (280, zk12), (281, zk12), (282, zk12), (283, zk11), (284, zk11), (285, zk96), (286, zk12), (287, zk12), (288, zk12), (289, zk12), (290, zk11), (291, zk11), (292, zk131), (293, zk15), (294, zk15), (295, zk132), (296, zk133), (297, zk133), (298, 143987), (299, 131827), (300, 131475), (301, zk107), (302, zk111), (303, zk111), (304, zk107), (305, zk111), (306, zk111), (307, zk103), (308, zk103), (309, zk103), (310, zk103), (320, zk134), (321, zk3), (322, zk116), (323, zk104), (324, zk104), (325, zk108), (326, zk7), (327, zk123), (328, zk118), (329, zk118), (330, zk7), (331, zk7), (332, zk7), (333, zk18), (334, zk13), (335, zk114)]
def zAi0 : zAm := [[[zk0, zk14, zk15, zk127, zk128, 131827, zk129, zk129], [143923, zk21, 131475, zk12, zk12, zk12, zk12, zk5], [zk18, zk18, zk19, zk3, zk7, zk10, zk12, zk12], [zk12, zk12, zk11, zk11, zk22, zk12, zk12, zk12], [zk12, zk11, zk11, zk130, zk24, zk25, zk12, zk12], [zk12, zk12, zk11, zk11, zk26, zk12, zk12, zk12], [zk12, zk11, zk11, zk27, zk12, zk12, zk12, zk12], [zk11, zk11, zk28, zk12, zk12, zk12, zk12, zk11]],
  [[zk11, zk29, zk12, zk12, zk12, zk12, zk11, zk11], [zk30, zk12, zk12, zk12, zk12, zk11, zk11, zk31], [zk12, zk12, zk12, zk12, zk11, zk11, zk32, zk12], [zk12, zk12, zk12, zk11, zk11, zk33, zk12, zk12], [zk12, zk12, zk11, zk11, zk34, zk12, zk12, zk12], [zk12, zk11, zk11, zk35, zk12, zk12, zk12, zk12], [zk11, zk11, zk36, zk12, zk12, zk12, zk12, zk11], [zk11, zk37, zk12, zk12, zk12, zk12, zk11, zk11]],
  [[zk38, zk12, zk12, zk12, zk12, zk11, zk11, zk39], [zk12, zk12, zk12, zk12, zk11, zk11, zk40, zk12], [zk12, zk12, zk12, zk11, zk11, zk41, zk12, zk12], [zk12, zk12, zk11, zk11, zk42, zk12, zk12, zk12], [zk12, zk11, zk11, zk43, zk12, zk12, zk12, zk12], [zk11, zk11, zk44, zk12, zk12, zk12, zk12, zk11], [zk11, zk45, zk12, zk12, zk12, zk12, zk11, zk11], [zk46, zk12, zk12, zk12, zk12, zk11, zk11, zk47]],
  [[zk12, zk12, zk12, zk12, zk11, zk11, zk48, zk12], [zk12, zk12, zk12, zk11, zk11, zk49, zk12, zk12], [zk12, zk12, zk11, zk11, zk50, zk12, zk12, zk12], [zk12, zk11, zk11, zk51, zk12, zk12, zk12, zk12], [zk11, zk11, zk52, zk12, zk12, zk12, zk12, zk11], [zk11, zk53, zk12, zk12, zk12, zk12, zk11, zk11], [zk54, zk12, zk12, zk12, zk12, zk11, zk11, zk90], [zk13, zk6, zk7, zk7, zk7, zk89, zk99, zk7]],
  [[zk11, zk123, zk123, zk20, 131475, zk12, zk12, zk12], [zk12, zk2, zk18, zk18, zk19, zk3, zk7, zk91], [zk12, zk12, zk12, zk12, zk11, zk11, zk94, zk12], [zk12, zk12, zk12, zk11, zk11, zk96, zk12, zk12], [zk12, zk12, zk11, zk11, zk131, zk15, zk15, zk132], [zk133, zk133, 143987, 131827, 131475, zk107, zk111, zk111], [zk107, zk111, zk111, zk103, zk103, zk103, zk103]],
  [[zk134, zk3, zk116, zk104, zk104, zk108, zk7, zk123], [zk118, zk118, zk7, zk7, zk7, zk18, zk13, zk114]]]
theorem zAi0_e : zP zqi0 = zAi0 := zAeq_t (by decide +kernel)
def zqi1 : List (Nat × Nat) := [(0, zk1), (1, zk14), (2, zk15), (3, zk135), (4, zk128), (5, 131827), (6, zk129), (7, zk129), (8, 143923), (9, zk21), (10, 131475), (11, zk12), (12, zk12), (13, zk12), (14, zk12), (15, zk5), (16, zk18), (17, zk18), (18, zk19), (19, zk3), (20, zk7), (21, zk10), (22, zk12), (23, zk12), (24, zk12), (25, zk12), (26, zk11), (27, zk11), (28, zk22), (29, zk12), (30, zk12), (31, zk12), (32, zk12), (33, zk11), (34, zk11), (35, zk130), (36, zk24), (37, zk25), (38, zk12), (39, zk12), (40, zk12), (41, zk12), (42, zk11), (43, zk11), (44, zk26), (45, zk12), (46, zk12), (47, zk12), (48, zk12), (49, zk11), (50, zk11), (51, zk27), (52, zk12), (53, zk12), (54, zk12), (55, zk12), (56, zk11), (57, zk11), (58, zk28), (59, zk12), (60, zk12), (61, zk12), (62, zk12), (63, zk11), (64, zk11), (65, zk29), (66, zk12), (67, zk12), (68, zk12), (69, zk12), (70, zk11), (71, zk11), (72, zk30), (73, zk12), (74, zk12), (75, zk12), (76, zk12), (77, zk11), (78, zk11), (79, zk31), (80, zk12), (81, zk12), (82, zk12), (83, zk12), (84, zk11), (85, zk11), (86, zk32), (87, zk12), (88, zk12), (89, zk12), (90, zk12), (91, zk11), (92, zk11), (93, zk33), (94, zk12), (95, zk12), (96, zk12), (97, zk12), (98, zk11), (99, zk11), (100, zk34), (101, zk12), (102, zk12), (103, zk12), (104, zk12), (105, zk11), (106, zk11), (107, zk35), (108, zk12), (109, zk12), (110, zk12), (111, zk12), (112, zk11), (113, zk11), (114, zk36), (115, zk12), (116, zk12), (117, zk12), (118, zk12), (119, zk11), (120, zk11), (121, zk37), (122, zk12), (123, zk12), (124, zk12), (125, zk12), (126, zk11), (127, zk11), (128, zk38), (129, zk12), (130, zk12), (131, zk12), (132, zk12), (133, zk11), (134, zk11), (135, zk39), (136, zk12), (137, zk12), (138, zk12), (139, zk12), (140, zk11), (141, zk11), (142, zk40), (143, zk12), (144, zk12), (145, zk12), (146, zk12), (147, zk11), (148, zk11), (149, zk41), (150, zk12), (151, zk12), (152, zk12), (153, zk12), (154, zk11), (155, zk11), (156, zk42), (157, zk12), (158, zk12), (159, zk12), (160, zk12), (161, zk11), (162, zk11), (163, zk43), (164, zk12), (165, zk12), (166, zk12), (167, zk12), (168, zk11), (169, zk11), (170, zk44), (171, zk12), (172, zk12), (173, zk12), (174, zk12), (175, zk11), (176, zk11), (177, zk45), (178, zk12), (179, zk12), (180, zk12), (181, zk12), (182, zk11), (183, zk11), (184, zk46), (185, zk12), (186, zk12), (187, zk12), (188, zk12), (189, zk11), (190, zk11), (191, zk47), (192, zk12), (193, zk12), (194, zk12), (195, zk12), (196, zk11), (197, zk11), (198, zk48), (199, zk12), (200, zk12), (201, zk12), (202, zk12), (203, zk11), (204, zk11), (205, zk49), (206, zk12), (207, zk12), (208, zk12), (209, zk12), (210, zk11), (211, zk11), (212, zk50), (213, zk12), (214, zk12), (215, zk12), (216, zk12), (217, zk11), (218, zk11), (219, zk51), (220, zk12), (221, zk12), (222, zk12), (223, zk12), (224, zk11), (225, zk11), (226, zk52), (227, zk12), (228, zk12), (229, zk12), (230, zk12), (231, zk11), (232, zk11), (233, zk53), (234, zk12), (235, zk12), (236, zk12), (237, zk12), (238, zk11), (239, zk11), (240, zk54), (241, zk12), (242, zk12), (243, zk12), (244, zk12), (245, zk11), (246, zk11), (247, zk90), (248, zk13), (249, zk6), (250, zk7), (251, zk7), (252, zk7), (253, zk89), (254, zk99), (255, zk7), (256, zk11), (257, zk123), (258, zk123), (259, zk20), (260, 131475), (261, zk12), (262, zk12), (263, zk12), (264, zk12), (265, zk2), (266, zk18), (267, zk18), (268, zk19), (269, zk3), (270, zk7), (271, zk91), (272, zk12), (273, zk12), (274, zk12), (275, zk12), (276, zk11), (277, zk11), (278, zk94), (279, zk12), (280, zk12), (281, zk12), (282, zk12), (283, zk11), (284, zk11), (285, zk96), (286, zk12), (287, zk12), (288, zk12), (289, zk12), (290, zk11), (291, zk11), (292, zk131), (293, zk15), (294, zk15), (295, zk132), (296, zk133), (297, zk133), (298, 143987), (299, 131827), (300, 131475), (301, zk107), (302, zk111), (303, zk111), (304, zk107), (305, zk111), (306, zk111), (307, zk103), (308, zk103), (309, zk103), (310, zk103), (320, zk134), (321, zk3), (322, zk116), (323, zk104), (324, zk104), (325, zk108), (326, zk7), (327, zk123), (328, zk118), (329, zk118), (330, zk7), (331, zk7), (332, zk7), (333, zk18), (334, zk13), (335, zk114)]
def zAi1 : zAm := [[[zk1, zk14, zk15, zk135, zk128, 131827, zk129, zk129], [143923, zk21, 131475, zk12, zk12, zk12, zk12, zk5], [zk18, zk18, zk19, zk3, zk7, zk10, zk12, zk12], [zk12, zk12, zk11, zk11, zk22, zk12, zk12, zk12], [zk12, zk11, zk11, zk130, zk24, zk25, zk12, zk12], [zk12, zk12, zk11, zk11, zk26, zk12, zk12, zk12], [zk12, zk11, zk11, zk27, zk12, zk12, zk12, zk12], [zk11, zk11, zk28, zk12, zk12, zk12, zk12, zk11]],
  [[zk11, zk29, zk12, zk12, zk12, zk12, zk11, zk11], [zk30, zk12, zk12, zk12, zk12, zk11, zk11, zk31], [zk12, zk12, zk12, zk12, zk11, zk11, zk32, zk12], [zk12, zk12, zk12, zk11, zk11, zk33, zk12, zk12], [zk12, zk12, zk11, zk11, zk34, zk12, zk12, zk12], [zk12, zk11, zk11, zk35, zk12, zk12, zk12, zk12], [zk11, zk11, zk36, zk12, zk12, zk12, zk12, zk11], [zk11, zk37, zk12, zk12, zk12, zk12, zk11, zk11]],
  [[zk38, zk12, zk12, zk12, zk12, zk11, zk11, zk39], [zk12, zk12, zk12, zk12, zk11, zk11, zk40, zk12], [zk12, zk12, zk12, zk11, zk11, zk41, zk12, zk12], [zk12, zk12, zk11, zk11, zk42, zk12, zk12, zk12], [zk12, zk11, zk11, zk43, zk12, zk12, zk12, zk12], [zk11, zk11, zk44, zk12, zk12, zk12, zk12, zk11], [zk11, zk45, zk12, zk12, zk12, zk12, zk11, zk11], [zk46, zk12, zk12, zk12, zk12, zk11, zk11, zk47]],
  [[zk12, zk12, zk12, zk12, zk11, zk11, zk48, zk12], [zk12, zk12, zk12, zk11, zk11, zk49, zk12, zk12], [zk12, zk12, zk11, zk11, zk50, zk12, zk12, zk12], [zk12, zk11, zk11, zk51, zk12, zk12, zk12, zk12], [zk11, zk11, zk52, zk12, zk12, zk12, zk12, zk11], [zk11, zk53, zk12, zk12, zk12, zk12, zk11, zk11], [zk54, zk12, zk12, zk12, zk12, zk11, zk11, zk90], [zk13, zk6, zk7, zk7, zk7, zk89, zk99, zk7]],
  [[zk11, zk123, zk123, zk20, 131475, zk12, zk12, zk12], [zk12, zk2, zk18, zk18, zk19, zk3, zk7, zk91], [zk12, zk12, zk12, zk12, zk11, zk11, zk94, zk12], [zk12, zk12, zk12, zk11, zk11, zk96, zk12, zk12], [zk12, zk12, zk11, zk11, zk131, zk15, zk15, zk132], [zk133, zk133, 143987, 131827, 131475, zk107, zk111, zk111], [zk107, zk111, zk111, zk103, zk103, zk103, zk103]],
  [[zk134, zk3, zk116, zk104, zk104, zk108, zk7, zk123], [zk118, zk118, zk7, zk7, zk7, zk18, zk13, zk114]]]
theorem zAi1_e : zP zqi1 = zAi1 := zAeq_t (by decide +kernel)
def vInv (I : qMI) (L : qML) (R : qMR) : Prop := (zM (I, L, R) 336 zAi0 I L R ∨ zM (I, L, R) 336 zAi1 I L R) ∧ zGood (I, L, R)
noncomputable def kV : zKr := fun r t A => bif Nat.beq t 336 then Option.rec (motive := fun _ => Bool) false (fun x => zI x (fun _ => bif (bif zhas A zqi0 then true else zhas A zqi1) then (bif zunk A zUN then zunp A else false) else false)) r else false
/-- the same, with the answer known -/
noncomputable def kVr (c : Nat) : zKr := fun r t A => bif kV r t A then zrw r (some (.inl c)) else false
abbrev vQ : qQ := fun r t I' L' R' => t = 336 ∧ (∃ y, r = some (.int y)) ∧ vInv I' L' R'
theorem kV_t {I I' : qMI} {L L' : qML} {R R' : qMR} {r0 : Option zX} {r : Option Value} {t : Nat} {A : zAm} (hg : zGood (I, L, R)) (h : kV r0 t A = true) (q1 : zgo r0 r) (q2 : zM (I, L, R) t A I' L' R') : vQ r t I' L' R' := by
  obtain ⟨h1, h⟩ := zand h
  have e1 := Nat.eq_of_beq_eq_true h1
  subst e1
  cases r0 with
  | none => cases h
  | some x =>
    cases r with
    | none => exact q1.elim
    | some v =>
      obtain ⟨c, y, rfl, -, h⟩ := zI_t (f := fun _ => bif (bif zhas A zqi0 then true else zhas A zqi1) then (bif zunk A zUN then zunp A else false) else false) h q1
      obtain ⟨h2, h⟩ := zand h
      obtain ⟨h3, h4⟩ := zand h
      refine ⟨rfl, ⟨y, rfl⟩, ?_, zGood_ok _ I' L' R' hg (fun x hx => q2.2.1 x (zunk_t h3 x hx)) (zunp_t h4 q2)⟩
      rcases zelse h2 with ⟨h5, -⟩ | h5
      · have := zM_part q2 h5
        rw [zAi0_e] at this
        exact Or.inl this
      · have := zM_part q2 h5
        rw [zAi1_e] at this
        exact Or.inr this
theorem vcall {l : Launch} {G : qG} {d : Nat} {N : qMn} {g : zMt} {as : List zX} {as' : List Value} {A : zAm} {I : qMI} {L : qML} {R : qMR} (hc : zC l G (I, L, R) d N g) (h : g as 336 A kV = true) (hs : zgs as as') (hm : zM (I, L, R) 336 A I L R) (hg : zGood (I, L, R)) : qCall l G d N as' 336 I L R vQ := by
  refine qCall_mono (hc as 336 A _ h as' I L R hs hm) ?_
  intro r t I1 L1 R1 hq
  obtain ⟨r0, A', q1, q2, q3⟩ := hq
  exact kV_t hg q3 q1 q2
/-- the same, and both tapes as they were -/
def zTU : List Nat := [0, 1, 2, 5, 248, 249, 293, 299, 334]
def zTUc : List Nat := [0, 1, 2, 5, 249, 293, 299, 334]
def zTUm : List Nat := [0, 1, 2, 5, 248, 249, 293, 299]
noncomputable def kT (u : List Nat) (k : zKr) : zKr := fun r t A => bif k r t A then zunk A u else false
def vT (u : List Nat) (I : qMI) (L : qML) (I' : qMI) (L' : qML) : Prop := (∀ k ∈ u, I' k = I k ∧ L' k = L k) ∧ ∀ j, zscr j = false → I' 292 j = I 292 j
abbrev vR (I : qMI) (L : qML) : qQ := fun r t I' L' R' => t = 336 ∧ (∃ y, r = some (.int y)) ∧ vInv I' L' R' ∧ vT zTU I L I' L'
theorem kT_t {u : List Nat} {I I' : qMI} {L L' : qML} {R R' : qMR} {r0 : Option zX} {t : Nat} {A : zAm} (h : kV r0 t A = true) (h1 : zunk A u = true) (q2 : zM (I, L, R) t A I' L' R') : vT u I L I' L' := by
  refine ⟨fun k hk => ⟨(q2.2.1 k (zunk_t h1 k hk)).1, (q2.2.1 k (zunk_t h1 k hk)).2.1⟩, ?_⟩
  obtain ⟨-, h⟩ := zand h
  cases r0 with
  | none => cases h
  | some x =>
    cases x with
    | inr v => cases h
    | inl c =>
      obtain ⟨-, h⟩ := zand (show (bif (bif zhas A zqi0 then true else zhas A zqi1) then (bif zunk A zUN then zunp A else false) else false) = true from h)
      exact zunp_t (zand h).2 q2
theorem vcallT {l : Launch} {G : qG} {d : Nat} {N : qMn} {g : zMt} {as : List zX} {as' : List Value} {A : zAm} {I : qMI} {L : qML} {R : qMR} (hc : zC l G (I, L, R) d N g) (h : g as 336 A (kT zTU kV) = true) (hs : zgs as as') (hm : zM (I, L, R) 336 A I L R) (hg : zGood (I, L, R)) : qCall l G d N as' 336 I L R (vR I L) := by
  refine qCall_mono (hc as 336 A _ h as' I L R hs hm) ?_
  intro r t I1 L1 R1 hq
  obtain ⟨r0, A', q1, q2, q3⟩ := hq
  obtain ⟨q4, q5⟩ := zand q3
  obtain ⟨e1, e2, e3⟩ := kV_t hg q4 q1 q2
  exact ⟨e1, e2, e3, kT_t q4 q5 q2⟩
theorem vcallr {u : List Nat} {l : Launch} {G : qG} {d : Nat} {N : qMn} {g : zMt} {as : List zX} {as' : List Value} {A : zAm} {I : qMI} {L : qML} {R : qMR} {c : Nat} (hc : zC l G (I, L, R) d N g) (h : g as 336 A (kT u (kVr c)) = true) (hs : zgs as as') (hm : zM (I, L, R) 336 A I L R) (hg : zGood (I, L, R)) : qCall l G d N as' 336 I L R (fun r t I' L' R' => t = 336 ∧ (∃ y, r = some (.int y) ∧ zin c y) ∧ vInv I' L' R' ∧ vT u I L I' L') := by
  refine qCall_mono (hc as 336 A _ h as' I L R hs hm) ?_
  intro r t I1 L1 R1 hq
  obtain ⟨r0, A', q1, q2, q3⟩ := hq
  obtain ⟨q3, q6⟩ := zand q3
  obtain ⟨q4, q5⟩ := zand q3
  obtain ⟨e1, ⟨y, rfl⟩, e3⟩ := kV_t hg q4 q1 q2
  obtain ⟨y', e4, e5⟩ := zrw_t q5 q1
  cases e4
  exact ⟨e1, ⟨y, rfl, e5⟩, e3, kT_t q4 q6 q2⟩
noncomputable def zall (ps : List Nat) (f : Nat → Bool) : Bool := List.rec (motive := fun _ => Bool) true (fun c _ ih => bif f c then ih else false) ps
theorem zall_t {f : Nat → Bool} : ∀ {ps : List Nat}, zall ps f = true → ∀ c ∈ ps, f c = true
  | [], _, _, h => by cases h
  | x :: ps, h, c, hc => by
    have h : (bif f x then zall ps f else false) = true := h
    obtain ⟨h1, h2⟩ := zand h
    rcases List.mem_cons.mp hc with rfl | hc
    · exact h1
    · exact zall_t h2 c hc
noncomputable def zcov (ps : List Nat) (n : Nat) : Bool := List.rec (motive := fun _ => Nat → Bool) (fun n => Nat.ble 4294967296 n) (fun c _ ih n => bif Nat.beq (zlo c) n then ih (Nat.succ (zhi c)) else false) ps n
theorem zcov_t : ∀ {ps : List Nat} {n : Nat} {x : Int32}, zcov ps n = true → n ≤ zb x → ∃ c ∈ ps, zin c x
  | [], n, x, h, hx => by
    have h1 := Nat.le_of_ble_eq_true (show Nat.ble 4294967296 n = true from h)
    have := zb_lt x
    omega
  | c :: ps, n, x, h, hx => by
    have h : (bif Nat.beq (zlo c) n then zcov ps (Nat.succ (zhi c)) else false) = true := h
    obtain ⟨h1, h2⟩ := zand h
    have e := Nat.eq_of_beq_eq_true h1
    by_cases hc : zb x ≤ zhi c
    · exact ⟨c, List.mem_cons_self, by rw [e]; exact hx, hc⟩
    · obtain ⟨c', m, z⟩ := zcov_t h2 (x := x) (by omega)
      exact ⟨c', List.mem_cons_of_mem _ m, z⟩
theorem zcover {ps : List Nat} (h : zcov ps 0 = true) (x : Int32) : ∃ c ∈ ps, zin c x := zcov_t h (Nat.zero_le _)
theorem zg_i {c : Nat} {x : Int32} (h : zin c x) : zg (.inl c) (.int x) := ⟨x, rfl, h⟩
noncomputable def zhold (c : Nat) : Nat := bif Nat.ble 2147483648 c then (bif Nat.ble c 2147483650 then 2147483649 else 2147483648) else 2147483648
def zhv (x : Int32) : Int32 := if 2147483648 ≤ zb x ∧ zb x ≤ 2147483650 then 1 else 0
theorem zhold_t {c : Nat} {x y : Int32} (hc : c ∈ [6442450943, 2147483648, 2147483649, 2147483650, 9223372058329612287]) (hx : zin c x) (hy : zin (zhold c) y) : y = zhv x := by
  have one : ∀ v : Int32, zin (zb v) y → y = v := fun v h => by
    have h1 := zb_lt v
    have h2 := h.1
    have h3 := h.2
    unfold zlo at h2
    unfold zhi at h3
    rw [show Nat.ble 4294967296 (zb v) = false from by cases q : Nat.ble 4294967296 (zb v) with | false => rfl | true => exact absurd (Nat.le_of_ble_eq_true q) (by omega)] at h2
    have h2 : zb v ≤ zb y := h2
    have h3 : zb y ≤ zb v % 4294967296 := h3
    have e1 := zb_int v
    have e2 := zb_int y
    exact i_eq.mpr (by omega)
  unfold zhv
  simp only [List.mem_cons, List.not_mem_nil, or_false] at hc
  rcases hc with rfl | rfl | rfl | rfl | rfl
  · rw [if_neg (fun q => by have h2 : zb x ≤ 2147483647 := hx.2; omega)]
    exact one 0 hy
  · rw [if_pos ⟨hx.1, by have h2 : zb x ≤ 2147483648 := hx.2; omega⟩]
    exact one 1 hy
  · rw [if_pos ⟨by have h2 : 2147483649 ≤ zb x := hx.1; omega, by have h2 : zb x ≤ 2147483649 := hx.2; omega⟩]
    exact one 1 hy
  · rw [if_pos ⟨by have h2 : 2147483650 ≤ zb x := hx.1; omega, by have h2 : zb x ≤ 2147483650 := hx.2; omega⟩]
    exact one 1 hy
  · rw [if_neg (fun q => by have h2 : 2147483651 ≤ zb x := hx.1; omega)]
    exact one 0 hy
/-! ===== what stays as it was, call by call ===== -/
def zUc : List Nat := [0, 1, 2, 5, 247, 248, 249] ++ List.range' 9 10 ++ List.range' 259 10 ++ List.range' 271 21 ++ List.range' 292 44
def zUq : List Nat := zUc ++ List.range' 21 7 ++ List.range' 35 212
def zHc : List Nat := [0, 1, 2, 5, 247, 249] ++ List.range' 9 10 ++ List.range' 21 7 ++ List.range' 35 212 ++ List.range' 259 10 ++ List.range' 292 44
def zUm : List Nat := List.range 292 ++ [293, 299] ++ List.range' 301 19 ++ [334, 335]
def zUr : List Nat := List.range 292 ++ [293, 299] ++ List.range' 301 19 ++ [323, 325, 334, 335]
def zHm : List Nat := List.range 292 ++ [293, 299] ++ List.range' 301 19 ++ [323, 325]
abbrev vR3 (u : List Nat) (I : qMI) (L : qML) (R : qMR) : qQ := fun r t I' L' R' => t = 336 ∧ (∃ y, r = some (.int y)) ∧ vInv I' L' R' ∧ (∀ k ∈ u, I' k = I k ∧ L' k = L k ∧ R' k = R k) ∧ ∀ j, zscr j = false → I' 292 j = I 292 j
theorem vR3_2 {u : List Nat} {I I' : qMI} {L L' : qML} {R R' : qMR} {r : Option Value} {t : Nat} (hu : ∀ k ∈ zTU, k ∈ u) (h : vR3 u I L R r t I' L' R') : vR I L r t I' L' R' := ⟨h.1, h.2.1, h.2.2.1, fun k hk => ⟨(h.2.2.2.1 k (hu k hk)).1, (h.2.2.2.1 k (hu k hk)).2.1⟩, h.2.2.2.2⟩
theorem vcallT3 {u : List Nat} {l : Launch} {G : qG} {d : Nat} {N : qMn} {g : zMt} {as : List zX} {as' : List Value} {A : zAm} {I : qMI} {L : qML} {R : qMR} (hc : zC l G (I, L, R) d N g) (h : g as 336 A (kT u kV) = true) (hs : zgs as as') (hm : zM (I, L, R) 336 A I L R) (hg : zGood (I, L, R)) : qCall l G d N as' 336 I L R (vR3 u I L R) := by
  refine qCall_mono (hc as 336 A _ h as' I L R hs hm) ?_
  intro r t I1 L1 R1 hq
  obtain ⟨r0, A', q1, q2, q3⟩ := hq
  obtain ⟨q4, q5⟩ := zand q3
  obtain ⟨e1, e2, e3⟩ := kV_t hg q4 q1 q2
  exact ⟨e1, e2, e3, fun k hk => q2.2.1 k (zunk_t q5 k hk), (kT_t q4 q5 q2).2⟩
noncomputable def kV0 : zKr := fun r t A => bif Nat.beq t 336 then Option.rec (motive := fun _ => Bool) false (fun x => zI x (fun _ => bif zhas A zqi0 then true else zhas A zqi1)) r else false
abbrev vR0 (u : List Nat) (I : qMI) (L : qML) (R : qMR) : qQ := fun r t I' L' R' => t = 336 ∧ (∃ y, r = some (.int y)) ∧ (zM (I', L', R') 336 zAi0 I' L' R' ∨ zM (I', L', R') 336 zAi1 I' L' R') ∧ ∀ k ∈ u, I' k = I k ∧ L' k = L k ∧ R' k = R k
theorem kV0_t {I I' : qMI} {L L' : qML} {R R' : qMR} {r0 : Option zX} {r : Option Value} {t : Nat} {A : zAm} (h : kV0 r0 t A = true) (q1 : zgo r0 r) (q2 : zM (I, L, R) t A I' L' R') : t = 336 ∧ (∃ y, r = some (.int y)) ∧ (zM (I', L', R') 336 zAi0 I' L' R' ∨ zM (I', L', R') 336 zAi1 I' L' R') := by
  obtain ⟨h1, h⟩ := zand h
  have e1 := Nat.eq_of_beq_eq_true h1
  subst e1
  cases r0 with
  | none => cases h
  | some x =>
    cases r with
    | none => exact q1.elim
    | some v =>
      obtain ⟨c, y, rfl, -, h⟩ := zI_t (f := fun _ => bif zhas A zqi0 then true else zhas A zqi1) h q1
      refine ⟨rfl, ⟨y, rfl⟩, ?_⟩
      rcases zelse h with ⟨h5, -⟩ | h5
      · have := zM_part q2 h5
        rw [zAi0_e] at this
        exact Or.inl this
      · have := zM_part q2 h5
        rw [zAi1_e] at this
        exact Or.inr this
theorem vcallT0 {u : List Nat} {l : Launch} {G : qG} {d : Nat} {N : qMn} {g : zMt} {as : List zX} {as' : List Value} {A : zAm} {I : qMI} {L : qML} {R : qMR} (hc : zC l G (I, L, R) d N g) (h : g as 336 A (kT u kV0) = true) (hs : zgs as as') (hm : zM (I, L, R) 336 A I L R) (_hg : zGood (I, L, R)) : qCall l G d N as' 336 I L R (vR0 u I L R) := by
  refine qCall_mono (hc as 336 A _ h as' I L R hs hm) ?_
  intro r t I1 L1 R1 hq
  obtain ⟨r0, A', q1, q2, q3⟩ := hq
  obtain ⟨q4, q5⟩ := zand q3
  obtain ⟨e1, e2, e3⟩ := kV0_t q4 q1 q2
  exact ⟨e1, e2, e3, fun k hk => q2.2.1 k (zunk_t q5 k hk)⟩
