def zk143 : Nat := 39614081275578913050870297200
def zk144 : Nat := 27670116106269504112
def zk145 : Nat := 27670116106269493264
/-! ===== what holds between two calls ===== -/
def zqi0 : List (Nat × Nat) := [(0, zk12), (1, zk25), (2, zk26), (3, zk1), (4, zk0), (5, 131827), (6, zk2), (7, zk2), (8, 143923), (9, zk6), (10, 131475), (11, zk10), (12, zk10), (13, zk10), (14, zk10), (15, zk17), (16, zk33), (17, zk33), (18, zk34), (19, zk15), (20, zk19), (21, zk22), (22, zk10), (23, zk10), (24, zk10), (25, zk10), (26, zk23), (27, zk23), (28, zk32), (29, zk10), (30, zk10), (31, zk10), (32, zk10), (33, zk23), (34, zk23), (35, zk35), (36, zk36), (37, zk37), (38, zk10), (39, zk10), (40, zk10), (41, zk10), (42, zk23), (43, zk23), (44, zk38), (45, zk10), (46, zk10), (47, zk10), (48, zk10), (49, zk23), (50, zk23), (51, zk39), (52, zk10), (53, zk10), (54, zk10), (55, zk10), (56, zk23), (57, zk23), (58, zk40), (59, zk10), (60, zk10), (61, zk10), (62, zk10), (63, zk23), (64, zk23), (65, zk41), (66, zk10), (67, zk10), (68, zk10), (69, zk10), (70, zk23), (71, zk23), (72, zk42), (73, zk10), (74, zk10), (75, zk10), (76, zk10), (77, zk23), (78, zk23), (79, zk43), (80, zk10), (81, zk10), (82, zk10), (83, zk10), (84, zk23), (85, zk23), (86, zk44), (87, zk10), (88, zk10), (89, zk10), (90, zk10), (91, zk23), (92, zk23), (93, zk45), (94, zk10), (95, zk10), (96, zk10), (97, zk10), (98, zk23), (99, zk23), (100, zk46), (101, zk10), (102, zk10), (103, zk10), (104, zk10), (105, zk23), (106, zk23), (107, zk47), (108, zk10), (109, zk10), (110, zk10), (111, zk10), (112, zk23), (113, zk23), (114, zk48), (115, zk10), (116, zk10), (117, zk10), (118, zk10), (119, zk23), (120, zk23), (121, zk49), (122, zk10), (123, zk10), (124, zk10), (125, zk10), (126, zk23), (127, zk23), (128, zk50), (129, zk10), (130, zk10), (131, zk10), (132, zk10), (133, zk23), (134, zk23), (135, zk51), (136, zk10), (137, zk10), (138, zk10), (139, zk10), (140, zk23), (141, zk23), (142, zk52), (143, zk10), (144, zk10), (145, zk10), (146, zk10), (147, zk23), (148, zk23), (149, zk53), (150, zk10), (151, zk10), (152, zk10), (153, zk10), (154, zk23), (155, zk23), (156, zk54), (157, zk10), (158, zk10), (159, zk10), (160, zk10), (161, zk23), (162, zk23), (163, zk55), (164, zk10), (165, zk10), (166, zk10), (167, zk10), (168, zk23), (169, zk23), (170, zk56), (171, zk10), (172, zk10), (173, zk10), (174, zk10), (175, zk23), (176, zk23), (177, zk57), (178, zk10), (179, zk10), (180, zk10), (181, zk10), (182, zk23), (183, zk23), (184, zk58), (185, zk10), (186, zk10), (187, zk10), (188, zk10), (189, zk23), (190, zk23), (191, zk59), (192, zk10), (193, zk10), (194, zk10), (195, zk10), (196, zk23), (197, zk23), (198, zk60), (199, zk10), (200, zk10), (201, zk10), (202, zk10), (203, zk23), (204, zk23), (205, zk61), (206, zk10), (207, zk10), (208, zk10), (209, zk10), (210, zk23), (211, zk23), (212, zk62), (213, zk10), (214, zk10), (215, zk10), (216, zk10), (217, zk23), (218, zk23), (219, zk63), (220, zk10), (221, zk10), (222, zk10), (223, zk10), (224, zk23), (225, zk23), (226, zk64), (227, zk10), (228, zk10), (229, zk10), (230, zk10), (231, zk23), (232, zk23), (233, zk65), (234, zk10), (235, zk10), (236, zk10), (237, zk10), (238, zk23), (239, zk23), (240, zk66), (241, zk10), (242, zk10), (243, zk10), (244, zk10), (245, zk23), (246, zk23), (247, zk100), (248, zk24), (249, zk18), (250, zk19), (251, zk19), (252, zk19), (253, zk99), (254, zk111), (255, zk19), (256, zk23), (257, zk137), (258, zk141), (259, zk8), (260, 131475), (261, zk10), (262, zk10), (263, zk10), (264, zk10), (265, zk14), (266, zk33), (267, zk33), (268, zk34), (269, zk15), (270, zk19), (271, zk101), (272, zk10), (273, zk10), (274, zk10), (275, zk10), (276, zk23), (277, zk23), (278, zk104), (279, zk10), (280, zk10), (281, zk10), (282, zk10), (283, zk23), (284, zk23), (285, zk106), (286, zk10), (287, zk10), (288, zk10), (289, zk10), (290, zk23), (291, zk23), (292, zk120), (293, zk26), (294, zk26), (295, zk143), (296, zk144), (297, zk144), (298, 143987), (299, 131827), (300, 131475), (301, zk125), (302, zk128), (303, zk128), (304, zk125), (305, zk128), (306, zk128), (307, zk121), (308, zk121), (309, zk121), (310, zk121), (320, zk145), (321, zk15), (322, zk133), (323, zk122), (324, zk122), (325, zk126), (326, zk19), (327, zk139), (328, zk135), (329, zk135), (330, zk19), (331, zk19), (332, zk19), (333, zk33), (334, zk24), (335, zk131)]
def zAi0 : zAm := [[[zk12, zk25, zk26, zk1, zk0, 131827, zk2, zk2], [143923, zk6, 131475, zk10, zk10, zk10, zk10, zk17], [zk33, zk33, zk34, zk15, zk19, zk22, zk10, zk10], [zk10, zk10, zk23, zk23, zk32, zk10, zk10, zk10], [zk10, zk23, zk23, zk35, zk36, zk37, zk10, zk10], [zk10, zk10, zk23, zk23, zk38, zk10, zk10, zk10], [zk10, zk23, zk23, zk39, zk10, zk10, zk10, zk10], [zk23, zk23, zk40, zk10, zk10, zk10, zk10, zk23]],
  [[zk23, zk41, zk10, zk10, zk10, zk10, zk23, zk23], [zk42, zk10, zk10, zk10, zk10, zk23, zk23, zk43], [zk10, zk10, zk10, zk10, zk23, zk23, zk44, zk10], [zk10, zk10, zk10, zk23, zk23, zk45, zk10, zk10], [zk10, zk10, zk23, zk23, zk46, zk10, zk10, zk10], [zk10, zk23, zk23, zk47, zk10, zk10, zk10, zk10], [zk23, zk23, zk48, zk10, zk10, zk10, zk10, zk23], [zk23, zk49, zk10, zk10, zk10, zk10, zk23, zk23]],
  [[zk50, zk10, zk10, zk10, zk10, zk23, zk23, zk51], [zk10, zk10, zk10, zk10, zk23, zk23, zk52, zk10], [zk10, zk10, zk10, zk23, zk23, zk53, zk10, zk10], [zk10, zk10, zk23, zk23, zk54, zk10, zk10, zk10], [zk10, zk23, zk23, zk55, zk10, zk10, zk10, zk10], [zk23, zk23, zk56, zk10, zk10, zk10, zk10, zk23], [zk23, zk57, zk10, zk10, zk10, zk10, zk23, zk23], [zk58, zk10, zk10, zk10, zk10, zk23, zk23, zk59]],
  [[zk10, zk10, zk10, zk10, zk23, zk23, zk60, zk10], [zk10, zk10, zk10, zk23, zk23, zk61, zk10, zk10], [zk10, zk10, zk23, zk23, zk62, zk10, zk10, zk10], [zk10, zk23, zk23, zk63, zk10, zk10, zk10, zk10], [zk23, zk23, zk64, zk10, zk10, zk10, zk10, zk23], [zk23, zk65, zk10, zk10, zk10, zk10, zk23, zk23], [zk66, zk10, zk10, zk10, zk10, zk23, zk23, zk100], [zk24, zk18, zk19, zk19, zk19, zk99, zk111, zk19]],
  [[zk23, zk137, zk141, zk8, 131475, zk10, zk10, zk10], [zk10, zk14, zk33, zk33, zk34, zk15, zk19, zk101], [zk10, zk10, zk10, zk10, zk23, zk23, zk104, zk10], [zk10, zk10, zk10, zk23, zk23, zk106, zk10, zk10], [zk10, zk10, zk23, zk23, zk120, zk26, zk26, zk143], [zk144, zk144, 143987, 131827, 131475, zk125, zk128, zk128], [zk125, zk128, zk128, zk121, zk121, zk121, zk121]],
  [[zk145, zk15, zk133, zk122, zk122, zk126, zk19, zk139], [zk135, zk135, zk19, zk19, zk19, zk33, zk24, zk131]]]
theorem zAi0_e : zP zqi0 = zAi0 := zAeq_t (by decide +kernel)
def zqi1 : List (Nat × Nat) := [(0, zk13), (1, zk25), (2, zk26), (3, zk4), (4, zk0), (5, 131827), (6, zk2), (7, zk2), (8, 143923), (9, zk6), (10, 131475), (11, zk10), (12, zk10), (13, zk10), (14, zk10), (15, zk17), (16, zk33), (17, zk33), (18, zk34), (19, zk15), (20, zk19), (21, zk22), (22, zk10), (23, zk10), (24, zk10), (25, zk10), (26, zk23), (27, zk23), (28, zk32), (29, zk10), (30, zk10), (31, zk10), (32, zk10), (33, zk23), (34, zk23), (35, zk35), (36, zk36), (37, zk37), (38, zk10), (39, zk10), (40, zk10), (41, zk10), (42, zk23), (43, zk23), (44, zk38), (45, zk10), (46, zk10), (47, zk10), (48, zk10), (49, zk23), (50, zk23), (51, zk39), (52, zk10), (53, zk10), (54, zk10), (55, zk10), (56, zk23), (57, zk23), (58, zk40), (59, zk10), (60, zk10), (61, zk10), (62, zk10), (63, zk23), (64, zk23), (65, zk41), (66, zk10), (67, zk10), (68, zk10), (69, zk10), (70, zk23), (71, zk23), (72, zk42), (73, zk10), (74, zk10), (75, zk10), (76, zk10), (77, zk23), (78, zk23), (79, zk43), (80, zk10), (81, zk10), (82, zk10), (83, zk10), (84, zk23), (85, zk23), (86, zk44), (87, zk10), (88, zk10), (89, zk10), (90, zk10), (91, zk23), (92, zk23), (93, zk45), (94, zk10), (95, zk10), (96, zk10), (97, zk10), (98, zk23), (99, zk23), (100, zk46), (101, zk10), (102, zk10), (103, zk10), (104, zk10), (105, zk23), (106, zk23), (107, zk47), (108, zk10), (109, zk10), (110, zk10), (111, zk10), (112, zk23), (113, zk23), (114, zk48), (115, zk10), (116, zk10), (117, zk10), (118, zk10), (119, zk23), (120, zk23), (121, zk49), (122, zk10), (123, zk10), (124, zk10), (125, zk10), (126, zk23), (127, zk23), (128, zk50), (129, zk10), (130, zk10), (131, zk10), (132, zk10), (133, zk23), (134, zk23), (135, zk51), (136, zk10), (137, zk10), (138, zk10), (139, zk10), (140, zk23), (141, zk23), (142, zk52), (143, zk10), (144, zk10), (145, zk10), (146, zk10), (147, zk23), (148, zk23), (149, zk53), (150, zk10), (151, zk10), (152, zk10), (153, zk10), (154, zk23), (155, zk23), (156, zk54), (157, zk10), (158, zk10), (159, zk10), (160, zk10), (161, zk23), (162, zk23), (163, zk55), (164, zk10), (165, zk10), (166, zk10), (167, zk10), (168, zk23), (169, zk23), (170, zk56), (171, zk10), (172, zk10), (173, zk10), (174, zk10), (175, zk23), (176, zk23), (177, zk57), (178, zk10), (179, zk10), (180, zk10), (181, zk10), (182, zk23), (183, zk23), (184, zk58), (185, zk10), (186, zk10), (187, zk10), (188, zk10), (189, zk23), (190, zk23), (191, zk59), (192, zk10), (193, zk10), (194, zk10), (195, zk10), (196, zk23), (197, zk23), (198, zk60), (199, zk10), (200, zk10), (201, zk10), (202, zk10), (203, zk23), (204, zk23), (205, zk61), (206, zk10), (207, zk10), (208, zk10), (209, zk10), (210, zk23), (211, zk23), (212, zk62), (213, zk10), (214, zk10), (215, zk10), (216, zk10), (217, zk23), (218, zk23), (219, zk63), (220, zk10), (221, zk10), (222, zk10), (223, zk10), (224, zk23), (225, zk23), (226, zk64), (227, zk10), (228, zk10), (229, zk10), (230, zk10), (231, zk23), (232, zk23), (233, zk65), (234, zk10), (235, zk10), (236, zk10), (237, zk10), (238, zk23), (239, zk23), (240, zk66), (241, zk10), (242, zk10), (243, zk10), (244, zk10), (245, zk23), (246, zk23), (247, zk100), (248, zk24), (249, zk18), (250, zk19), (251, zk19), (252, zk19), (253, zk99), (254, zk111), (255, zk19), (256, zk23), (257, zk137), (258, zk141), (259, zk8), (260, 131475), (261, zk10), (262, zk10), (263, zk10), (264, zk10), (265, zk14), (266, zk33), (267, zk33), (268, zk34), (269, zk15), (270, zk19), (271, zk101), (272, zk10), (273, zk10), (274, zk10), (275, zk10), (276, zk23), (277, zk23), (278, zk104), (279, zk10), (280, zk10), (281, zk10), (282, zk10), (283, zk23), (284, zk23), (285, zk106), (286, zk10), (287, zk10), (288, zk10), (289, zk10), (290, zk23), (291, zk23), (292, zk120), (293, zk26), (294, zk26), (295, zk143), (296, zk144), (297, zk144), (298, 143987), (299, 131827), (300, 131475), (301, zk125), (302, zk128), (303, zk128), (304, zk125), (305, zk128), (306, zk128), (307, zk121), (308, zk121), (309, zk121), (310, zk121), (320, zk145), (321, zk15), (322, zk133), (323, zk122), (324, zk122), (325, zk126), (326, zk19), (327, zk139), (328, zk135), (329, zk135), (330, zk19), (331, zk19), (332, zk19), (333, zk33), (334, zk24), (335, zk131)]
def zAi1 : zAm := [[[zk13, zk25, zk26, zk4, zk0, 131827, zk2, zk2], [143923, zk6, 131475, zk10, zk10, zk10, zk10, zk17], [zk33, zk33, zk34, zk15, zk19, zk22, zk10, zk10], [zk10, zk10, zk23, zk23, zk32, zk10, zk10, zk10], [zk10, zk23, zk23, zk35, zk36, zk37, zk10, zk10], [zk10, zk10, zk23, zk23, zk38, zk10, zk10, zk10], [zk10, zk23, zk23, zk39, zk10, zk10, zk10, zk10], [zk23, zk23, zk40, zk10, zk10, zk10, zk10, zk23]],
  [[zk23, zk41, zk10, zk10, zk10, zk10, zk23, zk23], [zk42, zk10, zk10, zk10, zk10, zk23, zk23, zk43], [zk10, zk10, zk10, zk10, zk23, zk23, zk44, zk10], [zk10, zk10, zk10, zk23, zk23, zk45, zk10, zk10], [zk10, zk10, zk23, zk23, zk46, zk10, zk10, zk10], [zk10, zk23, zk23, zk47, zk10, zk10, zk10, zk10], [zk23, zk23, zk48, zk10, zk10, zk10, zk10, zk23], [zk23, zk49, zk10, zk10, zk10, zk10, zk23, zk23]],
  [[zk50, zk10, zk10, zk10, zk10, zk23, zk23, zk51], [zk10, zk10, zk10, zk10, zk23, zk23, zk52, zk10], [zk10, zk10, zk10, zk23, zk23, zk53, zk10, zk10], [zk10, zk10, zk23, zk23, zk54, zk10, zk10, zk10], [zk10, zk23, zk23, zk55, zk10, zk10, zk10, zk10], [zk23, zk23, zk56, zk10, zk10, zk10, zk10, zk23], [zk23, zk57, zk10, zk10, zk10, zk10, zk23, zk23], [zk58, zk10, zk10, zk10, zk10, zk23, zk23, zk59]],
  [[zk10, zk10, zk10, zk10, zk23, zk23, zk60, zk10], [zk10, zk10, zk10, zk23, zk23, zk61, zk10, zk10], [zk10, zk10, zk23, zk23, zk62, zk10, zk10, zk10], [zk10, zk23, zk23, zk63, zk10, zk10, zk10, zk10], [zk23, zk23, zk64, zk10, zk10, zk10, zk10, zk23], [zk23, zk65, zk10, zk10, zk10, zk10, zk23, zk23], [zk66, zk10, zk10, zk10, zk10, zk23, zk23, zk100], [zk24, zk18, zk19, zk19, zk19, zk99, zk111, zk19]],
  [[zk23, zk137, zk141, zk8, 131475, zk10, zk10, zk10], [zk10, zk14, zk33, zk33, zk34, zk15, zk19, zk101], [zk10, zk10, zk10, zk10, zk23, zk23, zk104, zk10], [zk10, zk10, zk10, zk23, zk23, zk106, zk10, zk10], [zk10, zk10, zk23, zk23, zk120, zk26, zk26, zk143], [zk144, zk144, 143987, 131827, 131475, zk125, zk128, zk128], [zk125, zk128, zk128, zk121, zk121, zk121, zk121]],
  [[zk145, zk15, zk133, zk122, zk122, zk126, zk19, zk139], [zk135, zk135, zk19, zk19, zk19, zk33, zk24, zk131]]]
theorem zAi1_e : zP zqi1 = zAi1 := zAeq_t (by decide +kernel)
def vInv (I : qMI) (L : qML) (R : qMR) : Prop := (zM (I, L, R) 336 zAi0 I L R ∨ zM (I, L, R) 336 zAi1 I L R) ∧ zGood (I, L, R)
noncomputable def kV : zKr := fun r t A => bif Nat.beq t 336 then Option.rec (motive := fun _ => Bool) false (fun x => zI x (fun _ => bif (bif zhas A zqi0 then true else zhas A zqi1) then (bif zunk A zUN then zunp A else false) else false)) r else false
/-- the same, with the answer known -/
noncomputable def kVr (c : Nat) : zKr := fun r t A => bif kV r t A then zrw r (some (.inl c)) else false
abbrev vQ : qQ := fun r t I' L' R' => t = 336 ∧ (∃ y, r = some (.int y)) ∧ vInv I' L' R'
theorem kV_t {I I' : qMI} {L L' : qML} {R R' : qMR} {r0 : Option zX} {r : Option Value} {t : Nat} {A : zAm} (hg : zGood (I, L, R)) (h : kV r0 t A = true) (q1 : zgo r0 r) (q2 : zM (I, L, R) t A I' L' R') : vQ r t I' L' R' := by
  obtain ⟨h1, h⟩ := zand h
  have e1 := Nat.eq_of_beq_eq_true h1
  subst e1
  cases r0 with
  | none => cases h
  | some x =>
    cases r with
    | none => exact q1.elim
    | some v =>
      obtain ⟨c, y, rfl, -, h⟩ := zI_t (f := fun _ => bif (bif zhas A zqi0 then true else zhas A zqi1) then (bif zunk A zUN then zunp A else false) else false) h q1
      obtain ⟨h2, h⟩ := zand h
      obtain ⟨h3, h4⟩ := zand h
      refine ⟨rfl, ⟨y, rfl⟩, ?_, zGood_ok _ I' L' R' hg (fun x hx => q2.2.1 x (zunk_t h3 x hx)) (zunp_t h4 q2)⟩
      rcases zelse h2 with ⟨h5, -⟩ | h5
      · have := zM_part q2 h5
        rw [zAi0_e] at this
        exact Or.inl this
      · have := zM_part q2 h5
        rw [zAi1_e] at this
        exact Or.inr this
theorem vcall {l : Launch} {G : qG} {d : Nat} {N : qMn} {g : zMt} {as : List zX} {as' : List Value} {A : zAm} {I : qMI} {L : qML} {R : qMR} (hc : zC l G (I, L, R) d N g) (h : g as 336 A kV = true) (hs : zgs as as') (hm : zM (I, L, R) 336 A I L R) (hg : zGood (I, L, R)) : qCall l G d N as' 336 I L R vQ := by
  refine qCall_mono (hc as 336 A _ h as' I L R hs hm) ?_
  intro r t I1 L1 R1 hq
  obtain ⟨r0, A', q1, q2, q3⟩ := hq
  exact kV_t hg q3 q1 q2
/-- the same, and both tapes as they were -/
noncomputable def kT (k : zKr) : zKr := fun r t A => bif k r t A then zfr (zcell A 1) else false
def vT (I I' : qMI) : Prop := I' 1 1 = I 1 1 ∧ I' 292 2 = I 292 2
abbrev vR (I : qMI) : qQ := fun r t I' L' R' => t = 336 ∧ (∃ y, r = some (.int y)) ∧ vInv I' L' R' ∧ vT I I'
theorem kT_t {I I' : qMI} {L L' : qML} {R R' : qMR} {r0 : Option zX} {t : Nat} {A : zAm} (h : kV r0 t A = true) (h1 : zfr (zcell A 1) = true) (q2 : zM (I, L, R) t A I' L' R') : vT I I' := by
  refine ⟨by rw [(q2.2.1 1 (Or.inr h1)).1], ?_⟩
  obtain ⟨-, h⟩ := zand h
  cases r0 with
  | none => cases h
  | some x =>
    cases x with
    | inr v => cases h
    | inl c =>
      obtain ⟨-, h⟩ := zand (show (bif (bif zhas A zqi0 then true else zhas A zqi1) then (bif zunk A zUN then zunp A else false) else false) = true from h)
      exact zunp_t (zand h).2 q2 2 (by decide)
theorem vcallT {l : Launch} {G : qG} {d : Nat} {N : qMn} {g : zMt} {as : List zX} {as' : List Value} {A : zAm} {I : qMI} {L : qML} {R : qMR} (hc : zC l G (I, L, R) d N g) (h : g as 336 A (kT kV) = true) (hs : zgs as as') (hm : zM (I, L, R) 336 A I L R) (hg : zGood (I, L, R)) : qCall l G d N as' 336 I L R (vR I) := by
  refine qCall_mono (hc as 336 A _ h as' I L R hs hm) ?_
  intro r t I1 L1 R1 hq
  obtain ⟨r0, A', q1, q2, q3⟩ := hq
  obtain ⟨q4, q5⟩ := zand q3
  obtain ⟨e1, e2, e3⟩ := kV_t hg q4 q1 q2
  exact ⟨e1, e2, e3, kT_t q4 q5 q2⟩
theorem vcallr {l : Launch} {G : qG} {d : Nat} {N : qMn} {g : zMt} {as : List zX} {as' : List Value} {A : zAm} {I : qMI} {L : qML} {R : qMR} {c : Nat} (hc : zC l G (I, L, R) d N g) (h : g as 336 A (kT (kVr c)) = true) (hs : zgs as as') (hm : zM (I, L, R) 336 A I L R) (hg : zGood (I, L, R)) : qCall l G d N as' 336 I L R (fun r t I' L' R' => t = 336 ∧ (∃ y, r = some (.int y) ∧ zin c y) ∧ vInv I' L' R' ∧ vT I I') := by
  refine qCall_mono (hc as 336 A _ h as' I L R hs hm) ?_
  intro r t I1 L1 R1 hq
  obtain ⟨r0, A', q1, q2, q3⟩ := hq
  obtain ⟨q3, q6⟩ := zand q3
  obtain ⟨q4, q5⟩ := zand q3
  obtain ⟨e1, ⟨y, rfl⟩, e3⟩ := kV_t hg q4 q1 q2
  obtain ⟨y', e4, e5⟩ := zrw_t q5 q1
  cases e4
  exact ⟨e1, ⟨y, rfl, e5⟩, e3, kT_t q4 q6 q2⟩
noncomputable def zall (ps : List Nat) (f : Nat → Bool) : Bool := List.rec (motive := fun _ => Bool) true (fun c _ ih => bif f c then ih else false) ps
theorem zall_t {f : Nat → Bool} : ∀ {ps : List Nat}, zall ps f = true → ∀ c ∈ ps, f c = true
  | [], _, _, h => by cases h
  | x :: ps, h, c, hc => by
    have h : (bif f x then zall ps f else false) = true := h
    obtain ⟨h1, h2⟩ := zand h
    rcases List.mem_cons.mp hc with rfl | hc
    · exact h1
    · exact zall_t h2 c hc
noncomputable def zcov (ps : List Nat) (n : Nat) : Bool := List.rec (motive := fun _ => Nat → Bool) (fun n => Nat.ble 4294967296 n) (fun c _ ih n => bif Nat.beq (zlo c) n then ih (Nat.succ (zhi c)) else false) ps n
theorem zcov_t : ∀ {ps : List Nat} {n : Nat} {x : Int32}, zcov ps n = true → n ≤ zb x → ∃ c ∈ ps, zin c x
  | [], n, x, h, hx => by
    have h1 := Nat.le_of_ble_eq_true (show Nat.ble 4294967296 n = true from h)
    have := zb_lt x
    omega
  | c :: ps, n, x, h, hx => by
    have h : (bif Nat.beq (zlo c) n then zcov ps (Nat.succ (zhi c)) else false) = true := h
    obtain ⟨h1, h2⟩ := zand h
    have e := Nat.eq_of_beq_eq_true h1
    by_cases hc : zb x ≤ zhi c
    · exact ⟨c, List.mem_cons_self, by rw [e]; exact hx, hc⟩
    · obtain ⟨c', m, z⟩ := zcov_t h2 (x := x) (by omega)
      exact ⟨c', List.mem_cons_of_mem _ m, z⟩
theorem zcover {ps : List Nat} (h : zcov ps 0 = true) (x : Int32) : ∃ c ∈ ps, zin c x := zcov_t h (Nat.zero_le _)
theorem zg_i {c : Nat} {x : Int32} (h : zin c x) : zg (.inl c) (.int x) := ⟨x, rfl, h⟩
noncomputable def zhold (c : Nat) : Nat := bif Nat.ble 2147483648 c then (bif Nat.ble c 2147483650 then 2147483649 else 2147483648) else 2147483648
def zhv (x : Int32) : Int32 := if 2147483648 ≤ zb x ∧ zb x ≤ 2147483650 then 1 else 0
theorem zhold_t {c : Nat} {x y : Int32} (hc : c ∈ [6442450943, 2147483648, 2147483649, 2147483650, 9223372058329612287]) (hx : zin c x) (hy : zin (zhold c) y) : y = zhv x := by
  have one : ∀ v : Int32, zin (zb v) y → y = v := fun v h => by
    have h1 := zb_lt v
    have h2 := h.1
    have h3 := h.2
    unfold zlo at h2
    unfold zhi at h3
    rw [show Nat.ble 4294967296 (zb v) = false from by cases q : Nat.ble 4294967296 (zb v) with | false => rfl | true => exact absurd (Nat.le_of_ble_eq_true q) (by omega)] at h2
    have h2 : zb v ≤ zb y := h2
    have h3 : zb y ≤ zb v % 4294967296 := h3
    have e1 := zb_int v
    have e2 := zb_int y
    exact i_eq.mpr (by omega)
  unfold zhv
  simp only [List.mem_cons, List.not_mem_nil, or_false] at hc
  rcases hc with rfl | rfl | rfl | rfl | rfl
  · rw [if_neg (fun q => by have h2 : zb x ≤ 2147483647 := hx.2; omega)]
    exact one 0 hy
  · rw [if_pos ⟨hx.1, by have h2 : zb x ≤ 2147483648 := hx.2; omega⟩]
    exact one 1 hy
  · rw [if_pos ⟨by have h2 : 2147483649 ≤ zb x := hx.1; omega, by have h2 : zb x ≤ 2147483649 := hx.2; omega⟩]
    exact one 1 hy
  · rw [if_pos ⟨by have h2 : 2147483650 ≤ zb x := hx.1; omega, by have h2 : zb x ≤ 2147483650 := hx.2; omega⟩]
    exact one 1 hy
  · rw [if_neg (fun q => by have h2 : 2147483651 ≤ zb x := hx.1; omega)]
    exact one 0 hy
