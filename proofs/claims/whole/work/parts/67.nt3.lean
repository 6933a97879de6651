/-! the table: for each c from 2 to 1024 and each remainder of D by 4 or 12, at most so many pairs -/
def tb_1 : List (Nat × Nat) := [(2, 129), (3, 18014398543036545), (4, 130), (5, 130), (6, 36028797052518657), (7, 130), (8, 132), (9, 54043195562000515), (10, 258), (11, 130), (12, 36028797086073090), (13, 130), (14, 258), (15, 36028797086073090), (16, 132), (17, 130)]
theorem tb_1_ok : ckL tb_1 2 = true := by decide +kernel
theorem tb_1_n : tb_1.length = 16 := by decide +kernel
noncomputable def sm_1 (p : Nat) : Nat := smL p tb_1
theorem sg_1 (D : Nat) : SG D 2 16 ≤ sm_1 (D % 12) := by
  have a := ckL_ok D tb_1 2 (by decide) (by rw [tb_1_n]; decide) tb_1_ok
  rw [tb_1_n] at a
  exact a
def tb_2 : List (Nat × Nat) := [(18, 108086391090446595), (19, 130), (20, 260), (21, 36028797086073090), (22, 258), (23, 130), (24, 36028797153181956), (25, 325), (26, 258), (27, 108086391090446470), (28, 260), (29, 130), (30, 72057594105037314), (31, 130), (32, 136), (33, 36028797086073090)]
theorem tb_2_ok : ckL tb_2 18 = true := by decide +kernel
theorem tb_2_n : tb_2.length = 16 := by decide +kernel
noncomputable def sm_2 (p : Nat) : Nat := Nat.add (sm_1 p) (smL p tb_2)
theorem sg_2 (D : Nat) : SG D 2 32 ≤ sm_2 (D % 12) := by
  have a := ckL_ok D tb_2 18 (by decide) (by rw [tb_2_n]; decide) tb_2_ok
  rw [tb_2_n] at a
  have h : SG D 2 32 = SG D 2 16 + SG D 18 16 := SG_add D 2 16 16
  rw [h]
  exact Nat.add_le_add (sg_1 D) a
def tb_3 : List (Nat × Nat) := [(34, 258), (35, 260), (36, 108086391124001030), (37, 130), (38, 258), (39, 36028797086073090), (40, 264), (41, 130), (42, 72057594105037314), (43, 130), (44, 260), (45, 108086391124001030), (46, 258), (47, 130), (48, 36028797153181956), (49, 455)]
theorem tb_3_ok : ckL tb_3 34 = true := by decide +kernel
theorem tb_3_n : tb_3.length = 16 := by decide +kernel
noncomputable def sm_3 (p : Nat) : Nat := Nat.add (sm_2 p) (smL p tb_3)
theorem sg_3 (D : Nat) : SG D 2 48 ≤ sm_3 (D % 12) := by
  have a := ckL_ok D tb_3 34 (by decide) (by rw [tb_3_n]; decide) tb_3_ok
  rw [tb_3_n] at a
  have h : SG D 2 48 = SG D 2 32 + SG D 34 16 := SG_add D 2 32 16
  rw [h]
  exact Nat.add_le_add (sg_2 D) a
def tb_4 : List (Nat × Nat) := [(50, 645), (51, 36028797086073090), (52, 260), (53, 130), (54, 216172782147338502), (55, 260), (56, 264), (57, 36028797086073090), (58, 258), (59, 130), (60, 72057594172146180), (61, 130), (62, 258), (63, 108086391124001030), (64, 136), (65, 260)]
theorem tb_4_ok : ckL tb_4 50 = true := by decide +kernel
theorem tb_4_n : tb_4.length = 16 := by decide +kernel
noncomputable def sm_4 (p : Nat) : Nat := Nat.add (sm_3 p) (smL p tb_4)
theorem sg_4 (D : Nat) : SG D 2 64 ≤ sm_4 (D % 12) := by
  have a := ckL_ok D tb_4 50 (by decide) (by rw [tb_4_n]; decide) tb_4_ok
  rw [tb_4_n] at a
  have h : SG D 2 64 = SG D 2 48 + SG D 50 16 := SG_add D 2 48 16
  rw [h]
  exact Nat.add_le_add (sg_3 D) a
def tb_5 : List (Nat × Nat) := [(66, 72057594105037314), (67, 130), (68, 260), (69, 36028797086073090), (70, 516), (71, 130), (72, 108086391191109900), (73, 130), (74, 258), (75, 90071992715182725), (76, 260), (77, 260), (78, 72057594105037314), (79, 130), (80, 264), (81, 162129586618892425)]
theorem tb_5_ok : ckL tb_5 66 = true := by decide +kernel
theorem tb_5_n : tb_5.length = 16 := by decide +kernel
noncomputable def sm_5 (p : Nat) : Nat := Nat.add (sm_4 p) (smL p tb_5)
theorem sg_5 (D : Nat) : SG D 2 80 ≤ sm_5 (D % 12) := by
  have a := ckL_ok D tb_5 66 (by decide) (by rw [tb_5_n]; decide) tb_5_ok
  rw [tb_5_n] at a
  have h : SG D 2 80 = SG D 2 64 + SG D 66 16 := SG_add D 2 64 16
  rw [h]
  exact Nat.add_le_add (sg_4 D) a
def tb_6 : List (Nat × Nat) := [(82, 258), (83, 130), (84, 72057594172146180), (85, 260), (86, 258), (87, 36028797086073090), (88, 264), (89, 130), (90, 216172782180893190), (91, 260), (92, 260), (93, 36028797086073090), (94, 258), (95, 260), (96, 36028797287399688), (97, 130)]
theorem tb_6_ok : ckL tb_6 82 = true := by decide +kernel
theorem tb_6_n : tb_6.length = 16 := by decide +kernel
noncomputable def sm_6 (p : Nat) : Nat := Nat.add (sm_5 p) (smL p tb_6)
theorem sg_6 (D : Nat) : SG D 2 96 ≤ sm_6 (D % 12) := by
  have a := ckL_ok D tb_6 82 (by decide) (by rw [tb_6_n]; decide) tb_6_ok
  rw [tb_6_n] at a
  have h : SG D 2 96 = SG D 2 80 + SG D 82 16 := SG_add D 2 80 16
  rw [h]
  exact Nat.add_le_add (sg_5 D) a
def tb_7 : List (Nat × Nat) := [(98, 903), (99, 108086391124001030), (100, 650), (101, 130), (102, 72057594105037314), (103, 130), (104, 264), (105, 72057594172146180), (106, 258), (107, 130), (108, 216172782180892940), (109, 130), (110, 516), (111, 36028797086073090), (112, 264), (113, 130)]
theorem tb_7_ok : ckL tb_7 98 = true := by decide +kernel
theorem tb_7_n : tb_7.length = 16 := by decide +kernel
noncomputable def sm_7 (p : Nat) : Nat := Nat.add (sm_6 p) (smL p tb_7)
theorem sg_7 (D : Nat) : SG D 2 112 ≤ sm_7 (D % 12) := by
  have a := ckL_ok D tb_7 98 (by decide) (by rw [tb_7_n]; decide) tb_7_ok
  rw [tb_7_n] at a
  have h : SG D 2 112 = SG D 2 96 + SG D 98 16 := SG_add D 2 96 16
  rw [h]
  exact Nat.add_le_add (sg_6 D) a
def tb_8 : List (Nat × Nat) := [(114, 72057594105037314), (115, 260), (116, 260), (117, 108086391124001030), (118, 258), (119, 260), (120, 72057594306363912), (121, 715), (122, 258), (123, 36028797086073090), (124, 260), (125, 650), (126, 216172782180893190), (127, 130), (128, 144), (129, 36028797086073090)]
theorem tb_8_ok : ckL tb_8 114 = true := by decide +kernel
theorem tb_8_n : tb_8.length = 16 := by decide +kernel
noncomputable def sm_8 (p : Nat) : Nat := Nat.add (sm_7 p) (smL p tb_8)
theorem sg_8 (D : Nat) : SG D 2 128 ≤ sm_8 (D % 12) := by
  have a := ckL_ok D tb_8 114 (by decide) (by rw [tb_8_n]; decide) tb_8_ok
  rw [tb_8_n] at a
  have h : SG D 2 128 = SG D 2 112 + SG D 114 16 := SG_add D 2 112 16
  rw [h]
  exact Nat.add_le_add (sg_7 D) a
def tb_9 : List (Nat × Nat) := [(130, 516), (131, 130), (132, 72057594172146180), (133, 260), (134, 258), (135, 216172782180892940), (136, 264), (137, 130), (138, 72057594105037314), (139, 130), (140, 520), (141, 36028797086073090), (142, 258), (143, 260), (144, 108086391191109900), (145, 260)]
theorem tb_9_ok : ckL tb_9 130 = true := by decide +kernel
theorem tb_9_n : tb_9.length = 16 := by decide +kernel
noncomputable def sm_9 (p : Nat) : Nat := Nat.add (sm_8 p) (smL p tb_9)
theorem sg_9 (D : Nat) : SG D 2 144 ≤ sm_9 (D % 12) := by
  have a := ckL_ok D tb_9 130 (by decide) (by rw [tb_9_n]; decide) tb_9_ok
  rw [tb_9_n] at a
  have h : SG D 2 144 = SG D 2 128 + SG D 130 16 := SG_add D 2 128 16
  rw [h]
  exact Nat.add_le_add (sg_8 D) a
def tb_10 : List (Nat × Nat) := [(146, 258), (147, 126100789801255815), (148, 260), (149, 130), (150, 180143985262593285), (151, 130), (152, 264), (153, 108086391124001030), (154, 516), (155, 260), (156, 72057594172146180), (157, 130), (158, 258), (159, 36028797086073090), (160, 272), (161, 260)]
theorem tb_10_ok : ckL tb_10 146 = true := by decide +kernel
theorem tb_10_n : tb_10.length = 16 := by decide +kernel
noncomputable def sm_10 (p : Nat) : Nat := Nat.add (sm_9 p) (smL p tb_10)
theorem sg_10 (D : Nat) : SG D 2 160 ≤ sm_10 (D % 12) := by
  have a := ckL_ok D tb_10 146 (by decide) (by rw [tb_10_n]; decide) tb_10_ok
  rw [tb_10_n] at a
  have h : SG D 2 160 = SG D 2 144 + SG D 146 16 := SG_add D 2 144 16
  rw [h]
  exact Nat.add_le_add (sg_9 D) a
def tb_11 : List (Nat × Nat) := [(162, 324259173204230409), (163, 130), (164, 260), (165, 72057594172146180), (166, 258), (167, 130), (168, 72057594306363912), (169, 845), (170, 516), (171, 108086391124001030), (172, 260), (173, 130), (174, 72057594105037314), (175, 650), (176, 264), (177, 36028797086073090)]
theorem tb_11_ok : ckL tb_11 162 = true := by decide +kernel
theorem tb_11_n : tb_11.length = 16 := by decide +kernel
noncomputable def sm_11 (p : Nat) : Nat := Nat.add (sm_10 p) (smL p tb_11)
theorem sg_11 (D : Nat) : SG D 2 176 ≤ sm_11 (D % 12) := by
  have a := ckL_ok D tb_11 162 (by decide) (by rw [tb_11_n]; decide) tb_11_ok
  rw [tb_11_n] at a
  have h : SG D 2 176 = SG D 2 160 + SG D 162 16 := SG_add D 2 160 16
  rw [h]
  exact Nat.add_le_add (sg_10 D) a
def tb_12 : List (Nat × Nat) := [(178, 258), (179, 130), (180, 216172782248002060), (181, 130), (182, 516), (183, 36028797086073090), (184, 264), (185, 260), (186, 72057594105037314), (187, 260), (188, 260), (189, 216172782180892940), (190, 516), (191, 130), (192, 36028797287399688), (193, 130)]
theorem tb_12_ok : ckL tb_12 178 = true := by decide +kernel
theorem tb_12_n : tb_12.length = 16 := by decide +kernel
noncomputable def sm_12 (p : Nat) : Nat := Nat.add (sm_11 p) (smL p tb_12)
theorem sg_12 (D : Nat) : SG D 2 192 ≤ sm_12 (D % 12) := by
  have a := ckL_ok D tb_12 178 (by decide) (by rw [tb_12_n]; decide) tb_12_ok
  rw [tb_12_n] at a
  have h : SG D 2 192 = SG D 2 176 + SG D 178 16 := SG_add D 2 176 16
  rw [h]
  exact Nat.add_le_add (sg_11 D) a
def tb_13 : List (Nat × Nat) := [(194, 258), (195, 72057594172146180), (196, 910), (197, 130), (198, 216172782180893190), (199, 130), (200, 660), (201, 36028797086073090), (202, 258), (203, 260), (204, 72057594172146180), (205, 260), (206, 258), (207, 108086391124001030), (208, 264), (209, 260)]
theorem tb_13_ok : ckL tb_13 194 = true := by decide +kernel
theorem tb_13_n : tb_13.length = 16 := by decide +kernel
noncomputable def sm_13 (p : Nat) : Nat := Nat.add (sm_12 p) (smL p tb_13)
theorem sg_13 (D : Nat) : SG D 2 208 ≤ sm_13 (D % 12) := by
  have a := ckL_ok D tb_13 194 (by decide) (by rw [tb_13_n]; decide) tb_13_ok
  rw [tb_13_n] at a
  have h : SG D 2 208 = SG D 2 192 + SG D 194 16 := SG_add D 2 192 16
  rw [h]
  exact Nat.add_le_add (sg_12 D) a
def tb_14 : List (Nat × Nat) := [(210, 144115188210074628), (211, 130), (212, 260), (213, 36028797086073090), (214, 258), (215, 260), (216, 216172782248001816), (217, 260), (218, 258), (219, 36028797086073090), (220, 520), (221, 260), (222, 72057594105037314), (223, 130), (224, 272), (225, 270215977810002575)]
theorem tb_14_ok : ckL tb_14 210 = true := by decide +kernel
theorem tb_14_n : tb_14.length = 16 := by decide +kernel
noncomputable def sm_14 (p : Nat) : Nat := Nat.add (sm_13 p) (smL p tb_14)
theorem sg_14 (D : Nat) : SG D 2 224 ≤ sm_14 (D % 12) := by
  have a := ckL_ok D tb_14 210 (by decide) (by rw [tb_14_n]; decide) tb_14_ok
  rw [tb_14_n] at a
  have h : SG D 2 224 = SG D 2 208 + SG D 210 16 := SG_add D 2 208 16
  rw [h]
  exact Nat.add_le_add (sg_13 D) a
def tb_15 : List (Nat × Nat) := [(226, 258), (227, 130), (228, 72057594172146180), (229, 130), (230, 516), (231, 72057594172146180), (232, 264), (233, 130), (234, 216172782180893190), (235, 260), (236, 260), (237, 36028797086073090), (238, 516), (239, 130), (240, 72057594306363912), (241, 130)]
theorem tb_15_ok : ckL tb_15 226 = true := by decide +kernel
theorem tb_15_n : tb_15.length = 16 := by decide +kernel
noncomputable def sm_15 (p : Nat) : Nat := Nat.add (sm_14 p) (smL p tb_15)
theorem sg_15 (D : Nat) : SG D 2 240 ≤ sm_15 (D % 12) := by
  have a := ckL_ok D tb_15 226 (by decide) (by rw [tb_15_n]; decide) tb_15_ok
  rw [tb_15_n] at a
  have h : SG D 2 240 = SG D 2 224 + SG D 226 16 := SG_add D 2 224 16
  rw [h]
  exact Nat.add_le_add (sg_14 D) a
def tb_16 : List (Nat × Nat) := [(242, 1419), (243, 324259173204230290), (244, 260), (245, 910), (246, 72057594105037314), (247, 260), (248, 264), (249, 36028797086073090), (250, 1290), (251, 130), (252, 216172782248002060), (253, 260), (254, 258), (255, 72057594172146180), (256, 144), (257, 130)]
theorem tb_16_ok : ckL tb_16 242 = true := by decide +kernel
theorem tb_16_n : tb_16.length = 16 := by decide +kernel
noncomputable def sm_16 (p : Nat) : Nat := Nat.add (sm_15 p) (smL p tb_16)
theorem sg_16 (D : Nat) : SG D 2 256 ≤ sm_16 (D % 12) := by
  have a := ckL_ok D tb_16 242 (by decide) (by rw [tb_16_n]; decide) tb_16_ok
  rw [tb_16_n] at a
  have h : SG D 2 256 = SG D 2 240 + SG D 242 16 := SG_add D 2 240 16
  rw [h]
  exact Nat.add_le_add (sg_15 D) a
def tb_17 : List (Nat × Nat) := [(258, 72057594105037314), (259, 260), (260, 520), (261, 108086391124001030), (262, 258), (263, 130), (264, 72057594306363912), (265, 260), (266, 516), (267, 36028797086073090), (268, 260), (269, 130), (270, 432345564294677004), (271, 130), (272, 264), (273, 72057594172146180)]
theorem tb_17_ok : ckL tb_17 258 = true := by decide +kernel
theorem tb_17_n : tb_17.length = 16 := by decide +kernel
noncomputable def sm_17 (p : Nat) : Nat := Nat.add (sm_16 p) (smL p tb_17)
theorem sg_17 (D : Nat) : SG D 2 272 ≤ sm_17 (D % 12) := by
  have a := ckL_ok D tb_17 258 (by decide) (by rw [tb_17_n]; decide) tb_17_ok
  rw [tb_17_n] at a
  have h : SG D 2 272 = SG D 2 256 + SG D 258 16 := SG_add D 2 256 16
  rw [h]
  exact Nat.add_le_add (sg_16 D) a
def tb_18 : List (Nat × Nat) := [(274, 258), (275, 650), (276, 72057594172146180), (277, 130), (278, 258), (279, 108086391124001030), (280, 528), (281, 130), (282, 72057594105037314), (283, 130), (284, 260), (285, 72057594172146180), (286, 516), (287, 260), (288, 108086391325327640), (289, 1105)]
theorem tb_18_ok : ckL tb_18 274 = true := by decide +kernel
theorem tb_18_n : tb_18.length = 16 := by decide +kernel
noncomputable def sm_18 (p : Nat) : Nat := Nat.add (sm_17 p) (smL p tb_18)
theorem sg_18 (D : Nat) : SG D 2 288 ≤ sm_18 (D % 12) := by
  have a := ckL_ok D tb_18 274 (by decide) (by rw [tb_18_n]; decide) tb_18_ok
  rw [tb_18_n] at a
  have h : SG D 2 288 = SG D 2 272 + SG D 274 16 := SG_add D 2 272 16
  rw [h]
  exact Nat.add_le_add (sg_17 D) a
def tb_19 : List (Nat × Nat) := [(290, 516), (291, 36028797086073090), (292, 260), (293, 130), (294, 252201579367630599), (295, 260), (296, 264), (297, 216172782180892940), (298, 258), (299, 260), (300, 180143985430365450), (301, 260), (302, 258), (303, 36028797086073090), (304, 264), (305, 260)]
theorem tb_19_ok : ckL tb_19 290 = true := by decide +kernel
theorem tb_19_n : tb_19.length = 16 := by decide +kernel
noncomputable def sm_19 (p : Nat) : Nat := Nat.add (sm_18 p) (smL p tb_19)
theorem sg_19 (D : Nat) : SG D 2 304 ≤ sm_19 (D % 12) := by
  have a := ckL_ok D tb_19 290 (by decide) (by rw [tb_19_n]; decide) tb_19_ok
  rw [tb_19_n] at a
  have h : SG D 2 304 = SG D 2 288 + SG D 290 16 := SG_add D 2 288 16
  rw [h]
  exact Nat.add_le_add (sg_18 D) a
def tb_20 : List (Nat × Nat) := [(306, 216172782180893190), (307, 130), (308, 520), (309, 36028797086073090), (310, 516), (311, 130), (312, 72057594306363912), (313, 130), (314, 258), (315, 216172782248002060), (316, 260), (317, 130), (318, 72057594105037314), (319, 260), (320, 272), (321, 36028797086073090)]
theorem tb_20_ok : ckL tb_20 306 = true := by decide +kernel
theorem tb_20_n : tb_20.length = 16 := by decide +kernel
noncomputable def sm_20 (p : Nat) : Nat := Nat.add (sm_19 p) (smL p tb_20)
theorem sg_20 (D : Nat) : SG D 2 320 ≤ sm_20 (D % 12) := by
  have a := ckL_ok D tb_20 306 (by decide) (by rw [tb_20_n]; decide) tb_20_ok
  rw [tb_20_n] at a
  have h : SG D 2 320 = SG D 2 304 + SG D 306 16 := SG_add D 2 304 16
  rw [h]
  exact Nat.add_le_add (sg_19 D) a
def tb_21 : List (Nat × Nat) := [(322, 516), (323, 260), (324, 324259173237784850), (325, 650), (326, 258), (327, 36028797086073090), (328, 264), (329, 260), (330, 144115188210074628), (331, 130), (332, 260), (333, 108086391124001030), (334, 258), (335, 260), (336, 72057594306363912), (337, 130)]
theorem tb_21_ok : ckL tb_21 322 = true := by decide +kernel
theorem tb_21_n : tb_21.length = 16 := by decide +kernel
noncomputable def sm_21 (p : Nat) : Nat := Nat.add (sm_20 p) (smL p tb_21)
theorem sg_21 (D : Nat) : SG D 2 336 ≤ sm_21 (D % 12) := by
  have a := ckL_ok D tb_21 322 (by decide) (by rw [tb_21_n]; decide) tb_21_ok
  rw [tb_21_n] at a
  have h : SG D 2 336 = SG D 2 320 + SG D 322 16 := SG_add D 2 320 16
  rw [h]
  exact Nat.add_le_add (sg_20 D) a
def tb_22 : List (Nat × Nat) := [(338, 1677), (339, 36028797086073090), (340, 520), (341, 260), (342, 216172782180893190), (343, 910), (344, 264), (345, 72057594172146180), (346, 258), (347, 130), (348, 72057594172146180), (349, 130), (350, 1290), (351, 216172782180892940), (352, 272), (353, 130)]
theorem tb_22_ok : ckL tb_22 338 = true := by decide +kernel
theorem tb_22_n : tb_22.length = 16 := by decide +kernel
noncomputable def sm_22 (p : Nat) : Nat := Nat.add (sm_21 p) (smL p tb_22)
theorem sg_22 (D : Nat) : SG D 2 352 ≤ sm_22 (D % 12) := by
  have a := ckL_ok D tb_22 338 (by decide) (by rw [tb_22_n]; decide) tb_22_ok
  rw [tb_22_n] at a
  have h : SG D 2 352 = SG D 2 336 + SG D 338 16 := SG_add D 2 336 16
  rw [h]
  exact Nat.add_le_add (sg_21 D) a
def tb_23 : List (Nat × Nat) := [(354, 72057594105037314), (355, 260), (356, 260), (357, 72057594172146180), (358, 258), (359, 130), (360, 216172782382219800), (361, 1235), (362, 258), (363, 198158383973401995), (364, 520), (365, 260), (366, 72057594105037314), (367, 130), (368, 264), (369, 108086391124001030)]
theorem tb_23_ok : ckL tb_23 354 = true := by decide +kernel
theorem tb_23_n : tb_23.length = 16 := by decide +kernel
noncomputable def sm_23 (p : Nat) : Nat := Nat.add (sm_22 p) (smL p tb_23)
theorem sg_23 (D : Nat) : SG D 2 368 ≤ sm_23 (D % 12) := by
  have a := ckL_ok D tb_23 354 (by decide) (by rw [tb_23_n]; decide) tb_23_ok
  rw [tb_23_n] at a
  have h : SG D 2 368 = SG D 2 352 + SG D 354 16 := SG_add D 2 352 16
  rw [h]
  exact Nat.add_le_add (sg_22 D) a
def tb_24 : List (Nat × Nat) := [(370, 516), (371, 260), (372, 72057594172146180), (373, 130), (374, 516), (375, 180143985430365450), (376, 264), (377, 260), (378, 432345564294677004), (379, 130), (380, 520), (381, 36028797086073090), (382, 258), (383, 130), (384, 36028797555835152), (385, 520)]
theorem tb_24_ok : ckL tb_24 370 = true := by decide +kernel
theorem tb_24_n : tb_24.length = 16 := by decide +kernel
noncomputable def sm_24 (p : Nat) : Nat := Nat.add (sm_23 p) (smL p tb_24)
theorem sg_24 (D : Nat) : SG D 2 384 ≤ sm_24 (D % 12) := by
  have a := ckL_ok D tb_24 370 (by decide) (by rw [tb_24_n]; decide) tb_24_ok
  rw [tb_24_n] at a
  have h : SG D 2 384 = SG D 2 368 + SG D 370 16 := SG_add D 2 368 16
  rw [h]
  exact Nat.add_le_add (sg_23 D) a
def tb_25 : List (Nat × Nat) := [(386, 258), (387, 108086391124001030), (388, 260), (389, 130), (390, 144115188210074628), (391, 260), (392, 924), (393, 36028797086073090), (394, 258), (395, 260), (396, 216172782248002060), (397, 130), (398, 258), (399, 72057594172146180), (400, 660), (401, 130)]
theorem tb_25_ok : ckL tb_25 386 = true := by decide +kernel
theorem tb_25_n : tb_25.length = 16 := by decide +kernel
noncomputable def sm_25 (p : Nat) : Nat := Nat.add (sm_24 p) (smL p tb_25)
theorem sg_25 (D : Nat) : SG D 2 400 ≤ sm_25 (D % 12) := by
  have a := ckL_ok D tb_25 386 (by decide) (by rw [tb_25_n]; decide) tb_25_ok
  rw [tb_25_n] at a
  have h : SG D 2 400 = SG D 2 384 + SG D 386 16 := SG_add D 2 384 16
  rw [h]
  exact Nat.add_le_add (sg_24 D) a
def tb_26 : List (Nat × Nat) := [(402, 72057594105037314), (403, 260), (404, 260), (405, 324259173237784850), (406, 516), (407, 260), (408, 72057594306363912), (409, 130), (410, 516), (411, 36028797086073090), (412, 260), (413, 260), (414, 216172782180893190), (415, 260), (416, 272), (417, 36028797086073090)]
theorem tb_26_ok : ckL tb_26 402 = true := by decide +kernel
theorem tb_26_n : tb_26.length = 16 := by decide +kernel
noncomputable def sm_26 (p : Nat) : Nat := Nat.add (sm_25 p) (smL p tb_26)
theorem sg_26 (D : Nat) : SG D 2 416 ≤ sm_26 (D % 12) := by
  have a := ckL_ok D tb_26 402 (by decide) (by rw [tb_26_n]; decide) tb_26_ok
  rw [tb_26_n] at a
  have h : SG D 2 416 = SG D 2 400 + SG D 402 16 := SG_add D 2 400 16
  rw [h]
  exact Nat.add_le_add (sg_25 D) a
def tb_27 : List (Nat × Nat) := [(418, 516), (419, 130), (420, 144115188344292360), (421, 130), (422, 258), (423, 108086391124001030), (424, 264), (425, 650), (426, 72057594105037314), (427, 260), (428, 260), (429, 72057594172146180), (430, 516), (431, 130), (432, 216172782248001816), (433, 130)]
theorem tb_27_ok : ckL tb_27 418 = true := by decide +kernel
theorem tb_27_n : tb_27.length = 16 := by decide +kernel
noncomputable def sm_27 (p : Nat) : Nat := Nat.add (sm_26 p) (smL p tb_27)
theorem sg_27 (D : Nat) : SG D 2 432 ≤ sm_27 (D % 12) := by
  have a := ckL_ok D tb_27 418 (by decide) (by rw [tb_27_n]; decide) tb_27_ok
  rw [tb_27_n] at a
  have h : SG D 2 432 = SG D 2 416 + SG D 418 16 := SG_add D 2 416 16
  rw [h]
  exact Nat.add_le_add (sg_26 D) a
def tb_28 : List (Nat × Nat) := [(434, 516), (435, 72057594172146180), (436, 260), (437, 260), (438, 72057594105037314), (439, 130), (440, 528), (441, 378302368934003605), (442, 516), (443, 130), (444, 72057594172146180), (445, 260), (446, 258), (447, 36028797086073090), (448, 272), (449, 130)]
theorem tb_28_ok : ckL tb_28 434 = true := by decide +kernel
theorem tb_28_n : tb_28.length = 16 := by decide +kernel
noncomputable def sm_28 (p : Nat) : Nat := Nat.add (sm_27 p) (smL p tb_28)
theorem sg_28 (D : Nat) : SG D 2 448 ≤ sm_28 (D % 12) := by
  have a := ckL_ok D tb_28 434 (by decide) (by rw [tb_28_n]; decide) tb_28_ok
  rw [tb_28_n] at a
  have h : SG D 2 448 = SG D 2 432 + SG D 434 16 := SG_add D 2 432 16
  rw [h]
  exact Nat.add_le_add (sg_27 D) a
def tb_29 : List (Nat × Nat) := [(450, 540431955452232975), (451, 260), (452, 260), (453, 36028797086073090), (454, 258), (455, 520), (456, 72057594306363912), (457, 130), (458, 258), (459, 216172782180892940), (460, 520), (461, 130), (462, 144115188210074628), (463, 130), (464, 264), (465, 72057594172146180)]
theorem tb_29_ok : ckL tb_29 450 = true := by decide +kernel
theorem tb_29_n : tb_29.length = 16 := by decide +kernel
noncomputable def sm_29 (p : Nat) : Nat := Nat.add (sm_28 p) (smL p tb_29)
theorem sg_29 (D : Nat) : SG D 2 464 ≤ sm_29 (D % 12) := by
  have a := ckL_ok D tb_29 450 (by decide) (by rw [tb_29_n]; decide) tb_29_ok
  rw [tb_29_n] at a
  have h : SG D 2 464 = SG D 2 448 + SG D 450 16 := SG_add D 2 448 16
  rw [h]
  exact Nat.add_le_add (sg_28 D) a
def tb_30 : List (Nat × Nat) := [(466, 258), (467, 130), (468, 216172782248002060), (469, 260), (470, 516), (471, 36028797086073090), (472, 264), (473, 260), (474, 72057594105037314), (475, 650), (476, 520), (477, 108086391124001030), (478, 258), (479, 130), (480, 72057594574799376), (481, 260)]
theorem tb_30_ok : ckL tb_30 466 = true := by decide +kernel
theorem tb_30_n : tb_30.length = 16 := by decide +kernel
noncomputable def sm_30 (p : Nat) : Nat := Nat.add (sm_29 p) (smL p tb_30)
theorem sg_30 (D : Nat) : SG D 2 480 ≤ sm_30 (D % 12) := by
  have a := ckL_ok D tb_30 466 (by decide) (by rw [tb_30_n]; decide) tb_30_ok
  rw [tb_30_n] at a
  have h : SG D 2 480 = SG D 2 464 + SG D 466 16 := SG_add D 2 464 16
  rw [h]
  exact Nat.add_le_add (sg_29 D) a
def tb_31 : List (Nat × Nat) := [(482, 258), (483, 72057594172146180), (484, 1430), (485, 260), (486, 648518346374906130), (487, 130), (488, 264), (489, 36028797086073090), (490, 1806), (491, 130), (492, 72057594172146180), (493, 260), (494, 516), (495, 216172782248002060), (496, 264), (497, 260)]
theorem tb_31_ok : ckL tb_31 482 = true := by decide +kernel
theorem tb_31_n : tb_31.length = 16 := by decide +kernel
noncomputable def sm_31 (p : Nat) : Nat := Nat.add (sm_30 p) (smL p tb_31)
theorem sg_31 (D : Nat) : SG D 2 496 ≤ sm_31 (D % 12) := by
  have a := ckL_ok D tb_31 482 (by decide) (by rw [tb_31_n]; decide) tb_31_ok
  rw [tb_31_n] at a
  have h : SG D 2 496 = SG D 2 480 + SG D 482 16 := SG_add D 2 480 16
  rw [h]
  exact Nat.add_le_add (sg_30 D) a
def tb_32 : List (Nat × Nat) := [(498, 72057594105037314), (499, 130), (500, 1300), (501, 36028797086073090), (502, 258), (503, 130), (504, 216172782382219800), (505, 260), (506, 516), (507, 234187181059475085), (508, 260), (509, 130), (510, 144115188210074628), (511, 260), (512, 160), (513, 216172782180892940)]
theorem tb_32_ok : ckL tb_32 498 = true := by decide +kernel
theorem tb_32_n : tb_32.length = 16 := by decide +kernel
noncomputable def sm_32 (p : Nat) : Nat := Nat.add (sm_31 p) (smL p tb_32)
theorem sg_32 (D : Nat) : SG D 2 512 ≤ sm_32 (D % 12) := by
  have a := ckL_ok D tb_32 498 (by decide) (by rw [tb_32_n]; decide) tb_32_ok
  rw [tb_32_n] at a
  have h : SG D 2 512 = SG D 2 496 + SG D 498 16 := SG_add D 2 496 16
  rw [h]
  exact Nat.add_le_add (sg_31 D) a
def tb_33 : List (Nat × Nat) := [(514, 258), (515, 260), (516, 72057594172146180), (517, 260), (518, 516), (519, 36028797086073090), (520, 528), (521, 130), (522, 216172782180893190), (523, 130), (524, 260), (525, 180143985430365450), (526, 258), (527, 260), (528, 72057594306363912), (529, 1495)]
theorem tb_33_ok : ckL tb_33 514 = true := by decide +kernel
theorem tb_33_n : tb_33.length = 16 := by decide +kernel
noncomputable def sm_33 (p : Nat) : Nat := Nat.add (sm_32 p) (smL p tb_33)
theorem sg_33 (D : Nat) : SG D 2 528 ≤ sm_33 (D % 12) := by
  have a := ckL_ok D tb_33 514 (by decide) (by rw [tb_33_n]; decide) tb_33_ok
  rw [tb_33_n] at a
  have h : SG D 2 528 = SG D 2 512 + SG D 514 16 := SG_add D 2 512 16
  rw [h]
  exact Nat.add_le_add (sg_32 D) a
def tb_34 : List (Nat × Nat) := [(530, 516), (531, 108086391124001030), (532, 520), (533, 260), (534, 72057594105037314), (535, 260), (536, 264), (537, 36028797086073090), (538, 258), (539, 910), (540, 432345564361785880), (541, 130), (542, 258), (543, 36028797086073090), (544, 272), (545, 260)]
theorem tb_34_ok : ckL tb_34 530 = true := by decide +kernel
theorem tb_34_n : tb_34.length = 16 := by decide +kernel
noncomputable def sm_34 (p : Nat) : Nat := Nat.add (sm_33 p) (smL p tb_34)
theorem sg_34 (D : Nat) : SG D 2 544 ≤ sm_34 (D % 12) := by
  have a := ckL_ok D tb_34 530 (by decide) (by rw [tb_34_n]; decide) tb_34_ok
  rw [tb_34_n] at a
  have h : SG D 2 544 = SG D 2 528 + SG D 530 16 := SG_add D 2 528 16
  rw [h]
  exact Nat.add_le_add (sg_33 D) a
def tb_35 : List (Nat × Nat) := [(546, 144115188210074628), (547, 130), (548, 260), (549, 108086391124001030), (550, 1290), (551, 260), (552, 72057594306363912), (553, 260), (554, 258), (555, 72057594172146180), (556, 260), (557, 130), (558, 216172782180893190), (559, 260), (560, 528), (561, 72057594172146180)]
theorem tb_35_ok : ckL tb_35 546 = true := by decide +kernel
theorem tb_35_n : tb_35.length = 16 := by decide +kernel
noncomputable def sm_35 (p : Nat) : Nat := Nat.add (sm_34 p) (smL p tb_35)
theorem sg_35 (D : Nat) : SG D 2 560 ≤ sm_35 (D % 12) := by
  have a := ckL_ok D tb_35 546 (by decide) (by rw [tb_35_n]; decide) tb_35_ok
  rw [tb_35_n] at a
  have h : SG D 2 560 = SG D 2 544 + SG D 546 16 := SG_add D 2 544 16
  rw [h]
  exact Nat.add_le_add (sg_34 D) a
def tb_36 : List (Nat × Nat) := [(562, 258), (563, 130), (564, 72057594172146180), (565, 260), (566, 258), (567, 324259173237784850), (568, 264), (569, 130), (570, 144115188210074628), (571, 130), (572, 520), (573, 36028797086073090), (574, 516), (575, 650), (576, 108086391325327640), (577, 130)]
theorem tb_36_ok : ckL tb_36 562 = true := by decide +kernel
theorem tb_36_n : tb_36.length = 16 := by decide +kernel
noncomputable def sm_36 (p : Nat) : Nat := Nat.add (sm_35 p) (smL p tb_36)
theorem sg_36 (D : Nat) : SG D 2 576 ≤ sm_36 (D % 12) := by
  have a := ckL_ok D tb_36 562 (by decide) (by rw [tb_36_n]; decide) tb_36_ok
  rw [tb_36_n] at a
  have h : SG D 2 576 = SG D 2 560 + SG D 562 16 := SG_add D 2 560 16
  rw [h]
  exact Nat.add_le_add (sg_35 D) a
def tb_37 : List (Nat × Nat) := [(578, 2193), (579, 36028797086073090), (580, 520), (581, 260), (582, 72057594105037314), (583, 260), (584, 264), (585, 216172782248002060), (586, 258), (587, 130), (588, 252201579602511630), (589, 260), (590, 516), (591, 36028797086073090), (592, 264), (593, 130)]
theorem tb_37_ok : ckL tb_37 578 = true := by decide +kernel
theorem tb_37_n : tb_37.length = 16 := by decide +kernel
noncomputable def sm_37 (p : Nat) : Nat := Nat.add (sm_36 p) (smL p tb_37)
theorem sg_37 (D : Nat) : SG D 2 592 ≤ sm_37 (D % 12) := by
  have a := ckL_ok D tb_37 578 (by decide) (by rw [tb_37_n]; decide) tb_37_ok
  rw [tb_37_n] at a
  have h : SG D 2 592 = SG D 2 576 + SG D 578 16 := SG_add D 2 576 16
  rw [h]
  exact Nat.add_le_add (sg_36 D) a
def tb_38 : List (Nat × Nat) := [(594, 432345564294677004), (595, 520), (596, 260), (597, 36028797086073090), (598, 516), (599, 130), (600, 180143985765909780), (601, 130), (602, 516), (603, 108086391124001030), (604, 260), (605, 1430), (606, 72057594105037314), (607, 130), (608, 272), (609, 72057594172146180)]
theorem tb_38_ok : ckL tb_38 594 = true := by decide +kernel
theorem tb_38_n : tb_38.length = 16 := by decide +kernel
noncomputable def sm_38 (p : Nat) : Nat := Nat.add (sm_37 p) (smL p tb_38)
theorem sg_38 (D : Nat) : SG D 2 608 ≤ sm_38 (D % 12) := by
  have a := ckL_ok D tb_38 594 (by decide) (by rw [tb_38_n]; decide) tb_38_ok
  rw [tb_38_n] at a
  have h : SG D 2 608 = SG D 2 592 + SG D 594 16 := SG_add D 2 592 16
  rw [h]
  exact Nat.add_le_add (sg_37 D) a
def tb_39 : List (Nat × Nat) := [(610, 516), (611, 260), (612, 216172782248002060), (613, 130), (614, 258), (615, 72057594172146180), (616, 528), (617, 130), (618, 72057594105037314), (619, 130), (620, 520), (621, 216172782180892940), (622, 258), (623, 260), (624, 72057594306363912), (625, 1625)]
theorem tb_39_ok : ckL tb_39 610 = true := by decide +kernel
theorem tb_39_n : tb_39.length = 16 := by decide +kernel
noncomputable def sm_39 (p : Nat) : Nat := Nat.add (sm_38 p) (smL p tb_39)
theorem sg_39 (D : Nat) : SG D 2 624 ≤ sm_39 (D % 12) := by
  have a := ckL_ok D tb_39 610 (by decide) (by rw [tb_39_n]; decide) tb_39_ok
  rw [tb_39_n] at a
  have h : SG D 2 624 = SG D 2 608 + SG D 610 16 := SG_add D 2 608 16
  rw [h]
  exact Nat.add_le_add (sg_38 D) a
def tb_40 : List (Nat × Nat) := [(626, 258), (627, 72057594172146180), (628, 260), (629, 260), (630, 432345564361786380), (631, 130), (632, 264), (633, 36028797086073090), (634, 258), (635, 260), (636, 72057594172146180), (637, 910), (638, 516), (639, 108086391124001030), (640, 288), (641, 130)]
theorem tb_40_ok : ckL tb_40 626 = true := by decide +kernel
theorem tb_40_n : tb_40.length = 16 := by decide +kernel
noncomputable def sm_40 (p : Nat) : Nat := Nat.add (sm_39 p) (smL p tb_40)
theorem sg_40 (D : Nat) : SG D 2 640 ≤ sm_40 (D % 12) := by
  have a := ckL_ok D tb_40 626 (by decide) (by rw [tb_40_n]; decide) tb_40_ok
  rw [tb_40_n] at a
  have h : SG D 2 640 = SG D 2 624 + SG D 626 16 := SG_add D 2 624 16
  rw [h]
  exact Nat.add_le_add (sg_39 D) a
def tb_41 : List (Nat × Nat) := [(642, 72057594105037314), (643, 130), (644, 520), (645, 72057594172146180), (646, 516), (647, 130), (648, 324259173304893732), (649, 260), (650, 1290), (651, 72057594172146180), (652, 260), (653, 130), (654, 72057594105037314), (655, 260), (656, 264), (657, 108086391124001030)]
theorem tb_41_ok : ckL tb_41 642 = true := by decide +kernel
theorem tb_41_n : tb_41.length = 16 := by decide +kernel
noncomputable def sm_41 (p : Nat) : Nat := Nat.add (sm_40 p) (smL p tb_41)
theorem sg_41 (D : Nat) : SG D 2 656 ≤ sm_41 (D % 12) := by
  have a := ckL_ok D tb_41 642 (by decide) (by rw [tb_41_n]; decide) tb_41_ok
  rw [tb_41_n] at a
  have h : SG D 2 656 = SG D 2 640 + SG D 642 16 := SG_add D 2 640 16
  rw [h]
  exact Nat.add_le_add (sg_40 D) a
def tb_42 : List (Nat × Nat) := [(658, 516), (659, 130), (660, 144115188344292360), (661, 130), (662, 258), (663, 72057594172146180), (664, 264), (665, 520), (666, 216172782180893190), (667, 260), (668, 260), (669, 36028797086073090), (670, 516), (671, 260), (672, 72057594574799376), (673, 130)]
theorem tb_42_ok : ckL tb_42 658 = true := by decide +kernel
theorem tb_42_n : tb_42.length = 16 := by decide +kernel
noncomputable def sm_42 (p : Nat) : Nat := Nat.add (sm_41 p) (smL p tb_42)
theorem sg_42 (D : Nat) : SG D 2 672 ≤ sm_42 (D % 12) := by
  have a := ckL_ok D tb_42 658 (by decide) (by rw [tb_42_n]; decide) tb_42_ok
  rw [tb_42_n] at a
  have h : SG D 2 672 = SG D 2 656 + SG D 658 16 := SG_add D 2 656 16
  rw [h]
  exact Nat.add_le_add (sg_41 D) a
def tb_43 : List (Nat × Nat) := [(674, 258), (675, 540431955452232350), (676, 1690), (677, 130), (678, 72057594105037314), (679, 260), (680, 528), (681, 36028797086073090), (682, 516), (683, 130), (684, 216172782248002060), (685, 260), (686, 1806), (687, 36028797086073090), (688, 264), (689, 260)]
theorem tb_43_ok : ckL tb_43 674 = true := by decide +kernel
theorem tb_43_n : tb_43.length = 16 := by decide +kernel
noncomputable def sm_43 (p : Nat) : Nat := Nat.add (sm_42 p) (smL p tb_43)
theorem sg_43 (D : Nat) : SG D 2 688 ≤ sm_43 (D % 12) := by
  have a := ckL_ok D tb_43 674 (by decide) (by rw [tb_43_n]; decide) tb_43_ok
  rw [tb_43_n] at a
  have h : SG D 2 688 = SG D 2 672 + SG D 674 16 := SG_add D 2 672 16
  rw [h]
  exact Nat.add_le_add (sg_42 D) a
def tb_44 : List (Nat × Nat) := [(690, 144115188210074628), (691, 130), (692, 260), (693, 216172782248002060), (694, 258), (695, 260), (696, 72057594306363912), (697, 260), (698, 258), (699, 36028797086073090), (700, 1300), (701, 130), (702, 432345564294677004), (703, 260), (704, 272), (705, 72057594172146180)]
theorem tb_44_ok : ckL tb_44 690 = true := by decide +kernel
theorem tb_44_n : tb_44.length = 16 := by decide +kernel
noncomputable def sm_44 (p : Nat) : Nat := Nat.add (sm_43 p) (smL p tb_44)
theorem sg_44 (D : Nat) : SG D 2 704 ≤ sm_44 (D % 12) := by
  have a := ckL_ok D tb_44 690 (by decide) (by rw [tb_44_n]; decide) tb_44_ok
  rw [tb_44_n] at a
  have h : SG D 2 704 = SG D 2 688 + SG D 690 16 := SG_add D 2 688 16
  rw [h]
  exact Nat.add_le_add (sg_43 D) a
def tb_45 : List (Nat × Nat) := [(706, 258), (707, 260), (708, 72057594172146180), (709, 130), (710, 516), (711, 108086391124001030), (712, 264), (713, 260), (714, 144115188210074628), (715, 520), (716, 260), (717, 36028797086073090), (718, 258), (719, 130), (720, 216172782382219800), (721, 260)]
theorem tb_45_ok : ckL tb_45 706 = true := by decide +kernel
theorem tb_45_n : tb_45.length = 16 := by decide +kernel
noncomputable def sm_45 (p : Nat) : Nat := Nat.add (sm_44 p) (smL p tb_45)
theorem sg_45 (D : Nat) : SG D 2 720 ≤ sm_45 (D % 12) := by
  have a := ckL_ok D tb_45 706 (by decide) (by rw [tb_45_n]; decide) tb_45_ok
  rw [tb_45_n] at a
  have h : SG D 2 720 = SG D 2 704 + SG D 706 16 := SG_add D 2 704 16
  rw [h]
  exact Nat.add_le_add (sg_44 D) a
def tb_46 : List (Nat × Nat) := [(722, 2451), (723, 36028797086073090), (724, 260), (725, 650), (726, 396316767577705227), (727, 130), (728, 528), (729, 486388759789568155), (730, 516), (731, 260), (732, 72057594172146180), (733, 130), (734, 258), (735, 252201579602511630), (736, 272), (737, 260)]
theorem tb_46_ok : ckL tb_46 722 = true := by decide +kernel
theorem tb_46_n : tb_46.length = 16 := by decide +kernel
noncomputable def sm_46 (p : Nat) : Nat := Nat.add (sm_45 p) (smL p tb_46)
theorem sg_46 (D : Nat) : SG D 2 736 ≤ sm_46 (D % 12) := by
  have a := ckL_ok D tb_46 722 (by decide) (by rw [tb_46_n]; decide) tb_46_ok
  rw [tb_46_n] at a
  have h : SG D 2 736 = SG D 2 720 + SG D 722 16 := SG_add D 2 720 16
  rw [h]
  exact Nat.add_le_add (sg_45 D) a
def tb_47 : List (Nat × Nat) := [(738, 216172782180893190), (739, 130), (740, 520), (741, 72057594172146180), (742, 516), (743, 130), (744, 72057594306363912), (745, 260), (746, 258), (747, 108086391124001030), (748, 520), (749, 260), (750, 360287970525186570), (751, 130), (752, 264), (753, 36028797086073090)]
theorem tb_47_ok : ckL tb_47 738 = true := by decide +kernel
theorem tb_47_n : tb_47.length = 16 := by decide +kernel
noncomputable def sm_47 (p : Nat) : Nat := Nat.add (sm_46 p) (smL p tb_47)
theorem sg_47 (D : Nat) : SG D 2 752 ≤ sm_47 (D % 12) := by
  have a := ckL_ok D tb_47 738 (by decide) (by rw [tb_47_n]; decide) tb_47_ok
  rw [tb_47_n] at a
  have h : SG D 2 752 = SG D 2 736 + SG D 738 16 := SG_add D 2 736 16
  rw [h]
  exact Nat.add_le_add (sg_46 D) a
def tb_48 : List (Nat × Nat) := [(754, 516), (755, 260), (756, 432345564361785880), (757, 130), (758, 258), (759, 72057594172146180), (760, 528), (761, 130), (762, 72057594105037314), (763, 260), (764, 260), (765, 216172782248002060), (766, 258), (767, 260), (768, 36028797555835152), (769, 130)]
theorem tb_48_ok : ckL tb_48 754 = true := by decide +kernel
theorem tb_48_n : tb_48.length = 16 := by decide +kernel
noncomputable def sm_48 (p : Nat) : Nat := Nat.add (sm_47 p) (smL p tb_48)
theorem sg_48 (D : Nat) : SG D 2 768 ≤ sm_48 (D % 12) := by
  have a := ckL_ok D tb_48 754 (by decide) (by rw [tb_48_n]; decide) tb_48_ok
  rw [tb_48_n] at a
  have h : SG D 2 768 = SG D 2 752 + SG D 754 16 := SG_add D 2 752 16
  rw [h]
  exact Nat.add_le_add (sg_47 D) a
def tb_49 : List (Nat × Nat) := [(770, 1032), (771, 36028797086073090), (772, 260), (773, 130), (774, 216172782180893190), (775, 650), (776, 264), (777, 72057594172146180), (778, 258), (779, 260), (780, 144115188344292360), (781, 260), (782, 516), (783, 216172782180892940), (784, 924), (785, 260)]
theorem tb_49_ok : ckL tb_49 770 = true := by decide +kernel
theorem tb_49_n : tb_49.length = 16 := by decide +kernel
noncomputable def sm_49 (p : Nat) : Nat := Nat.add (sm_48 p) (smL p tb_49)
theorem sg_49 (D : Nat) : SG D 2 784 ≤ sm_49 (D % 12) := by
  have a := ckL_ok D tb_49 770 (by decide) (by rw [tb_49_n]; decide) tb_49_ok
  rw [tb_49_n] at a
  have h : SG D 2 784 = SG D 2 768 + SG D 770 16 := SG_add D 2 768 16
  rw [h]
  exact Nat.add_le_add (sg_48 D) a
def tb_50 : List (Nat × Nat) := [(786, 72057594105037314), (787, 130), (788, 260), (789, 36028797086073090), (790, 516), (791, 260), (792, 216172782382219800), (793, 260), (794, 258), (795, 72057594172146180), (796, 260), (797, 130), (798, 144115188210074628), (799, 260), (800, 680), (801, 108086391124001030)]
theorem tb_50_ok : ckL tb_50 786 = true := by decide +kernel
theorem tb_50_n : tb_50.length = 16 := by decide +kernel
noncomputable def sm_50 (p : Nat) : Nat := Nat.add (sm_49 p) (smL p tb_50)
theorem sg_50 (D : Nat) : SG D 2 800 ≤ sm_50 (D % 12) := by
  have a := ckL_ok D tb_50 786 (by decide) (by rw [tb_50_n]; decide) tb_50_ok
  rw [tb_50_n] at a
  have h : SG D 2 800 = SG D 2 784 + SG D 786 16 := SG_add D 2 784 16
  rw [h]
  exact Nat.add_le_add (sg_49 D) a
def tb_51 : List (Nat × Nat) := [(802, 258), (803, 260), (804, 72057594172146180), (805, 520), (806, 516), (807, 36028797086073090), (808, 264), (809, 130), (810, 648518346408460818), (811, 130), (812, 520), (813, 36028797086073090), (814, 516), (815, 260), (816, 72057594306363912), (817, 260)]
theorem tb_51_ok : ckL tb_51 802 = true := by decide +kernel
theorem tb_51_n : tb_51.length = 16 := by decide +kernel
noncomputable def sm_51 (p : Nat) : Nat := Nat.add (sm_50 p) (smL p tb_51)
theorem sg_51 (D : Nat) : SG D 2 816 ≤ sm_51 (D % 12) := by
  have a := ckL_ok D tb_51 802 (by decide) (by rw [tb_51_n]; decide) tb_51_ok
  rw [tb_51_n] at a
  have h : SG D 2 816 = SG D 2 800 + SG D 802 16 := SG_add D 2 800 16
  rw [h]
  exact Nat.add_le_add (sg_50 D) a
def tb_52 : List (Nat × Nat) := [(818, 258), (819, 216172782248002060), (820, 520), (821, 130), (822, 72057594105037314), (823, 130), (824, 264), (825, 180143985430365450), (826, 516), (827, 130), (828, 216172782248002060), (829, 130), (830, 516), (831, 36028797086073090), (832, 272), (833, 910)]
theorem tb_52_ok : ckL tb_52 818 = true := by decide +kernel
theorem tb_52_n : tb_52.length = 16 := by decide +kernel
noncomputable def sm_52 (p : Nat) : Nat := Nat.add (sm_51 p) (smL p tb_52)
theorem sg_52 (D : Nat) : SG D 2 832 ≤ sm_52 (D % 12) := by
  have a := ckL_ok D tb_52 818 (by decide) (by rw [tb_52_n]; decide) tb_52_ok
  rw [tb_52_n] at a
  have h : SG D 2 832 = SG D 2 816 + SG D 818 16 := SG_add D 2 816 16
  rw [h]
  exact Nat.add_le_add (sg_51 D) a
def tb_53 : List (Nat × Nat) := [(834, 72057594105037314), (835, 260), (836, 520), (837, 216172782180892940), (838, 258), (839, 130), (840, 144115188612727824), (841, 1885), (842, 258), (843, 36028797086073090), (844, 260), (845, 1690), (846, 216172782180893190), (847, 1430), (848, 264), (849, 36028797086073090)]
theorem tb_53_ok : ckL tb_53 834 = true := by decide +kernel
theorem tb_53_n : tb_53.length = 16 := by decide +kernel
noncomputable def sm_53 (p : Nat) : Nat := Nat.add (sm_52 p) (smL p tb_53)
theorem sg_53 (D : Nat) : SG D 2 848 ≤ sm_53 (D % 12) := by
  have a := ckL_ok D tb_53 834 (by decide) (by rw [tb_53_n]; decide) tb_53_ok
  rw [tb_53_n] at a
  have h : SG D 2 848 = SG D 2 832 + SG D 834 16 := SG_add D 2 832 16
  rw [h]
  exact Nat.add_le_add (sg_52 D) a
def tb_54 : List (Nat × Nat) := [(850, 1290), (851, 260), (852, 72057594172146180), (853, 130), (854, 516), (855, 216172782248002060), (856, 264), (857, 130), (858, 144115188210074628), (859, 130), (860, 520), (861, 72057594172146180), (862, 258), (863, 130), (864, 216172782382219568), (865, 260)]
theorem tb_54_ok : ckL tb_54 850 = true := by decide +kernel
theorem tb_54_n : tb_54.length = 16 := by decide +kernel
noncomputable def sm_54 (p : Nat) : Nat := Nat.add (sm_53 p) (smL p tb_54)
theorem sg_54 (D : Nat) : SG D 2 864 ≤ sm_54 (D % 12) := by
  have a := ckL_ok D tb_54 850 (by decide) (by rw [tb_54_n]; decide) tb_54_ok
  rw [tb_54_n] at a
  have h : SG D 2 864 = SG D 2 848 + SG D 850 16 := SG_add D 2 848 16
  rw [h]
  exact Nat.add_le_add (sg_53 D) a
def tb_55 : List (Nat × Nat) := [(866, 258), (867, 306244775231621265), (868, 520), (869, 260), (870, 144115188210074628), (871, 260), (872, 264), (873, 108086391124001030), (874, 516), (875, 1300), (876, 72057594172146180), (877, 130), (878, 258), (879, 36028797086073090), (880, 528), (881, 130)]
theorem tb_55_ok : ckL tb_55 866 = true := by decide +kernel
theorem tb_55_n : tb_55.length = 16 := by decide +kernel
noncomputable def sm_55 (p : Nat) : Nat := Nat.add (sm_54 p) (smL p tb_55)
theorem sg_55 (D : Nat) : SG D 2 880 ≤ sm_55 (D % 12) := by
  have a := ckL_ok D tb_55 866 (by decide) (by rw [tb_55_n]; decide) tb_55_ok
  rw [tb_55_n] at a
  have h : SG D 2 880 = SG D 2 864 + SG D 866 16 := SG_add D 2 864 16
  rw [h]
  exact Nat.add_le_add (sg_54 D) a
def tb_56 : List (Nat × Nat) := [(882, 756604737633126165), (883, 130), (884, 520), (885, 72057594172146180), (886, 258), (887, 130), (888, 72057594306363912), (889, 260), (890, 516), (891, 324259173237784850), (892, 260), (893, 260), (894, 72057594105037314), (895, 260), (896, 288), (897, 72057594172146180)]
theorem tb_56_ok : ckL tb_56 882 = true := by decide +kernel
theorem tb_56_n : tb_56.length = 16 := by decide +kernel
noncomputable def sm_56 (p : Nat) : Nat := Nat.add (sm_55 p) (smL p tb_56)
theorem sg_56 (D : Nat) : SG D 2 896 ≤ sm_56 (D % 12) := by
  have a := ckL_ok D tb_56 882 (by decide) (by rw [tb_56_n]; decide) tb_56_ok
  rw [tb_56_n] at a
  have h : SG D 2 896 = SG D 2 880 + SG D 882 16 := SG_add D 2 880 16
  rw [h]
  exact Nat.add_le_add (sg_55 D) a
def tb_57 : List (Nat × Nat) := [(898, 258), (899, 260), (900, 540431955620005150), (901, 260), (902, 516), (903, 72057594172146180), (904, 264), (905, 260), (906, 72057594105037314), (907, 130), (908, 260), (909, 108086391124001030), (910, 1032), (911, 130), (912, 72057594306363912), (913, 260)]
theorem tb_57_ok : ckL tb_57 898 = true := by decide +kernel
theorem tb_57_n : tb_57.length = 16 := by decide +kernel
noncomputable def sm_57 (p : Nat) : Nat := Nat.add (sm_56 p) (smL p tb_57)
theorem sg_57 (D : Nat) : SG D 2 912 ≤ sm_57 (D % 12) := by
  have a := ckL_ok D tb_57 898 (by decide) (by rw [tb_57_n]; decide) tb_57_ok
  rw [tb_57_n] at a
  have h : SG D 2 912 = SG D 2 896 + SG D 898 16 := SG_add D 2 896 16
  rw [h]
  exact Nat.add_le_add (sg_56 D) a
def tb_58 : List (Nat × Nat) := [(914, 258), (915, 72057594172146180), (916, 260), (917, 260), (918, 432345564294677004), (919, 130), (920, 528), (921, 36028797086073090), (922, 258), (923, 260), (924, 144115188344292360), (925, 650), (926, 258), (927, 108086391124001030), (928, 272), (929, 130)]
theorem tb_58_ok : ckL tb_58 914 = true := by decide +kernel
theorem tb_58_n : tb_58.length = 16 := by decide +kernel
noncomputable def sm_58 (p : Nat) : Nat := Nat.add (sm_57 p) (smL p tb_58)
theorem sg_58 (D : Nat) : SG D 2 928 ≤ sm_58 (D % 12) := by
  have a := ckL_ok D tb_58 914 (by decide) (by rw [tb_58_n]; decide) tb_58_ok
  rw [tb_58_n] at a
  have h : SG D 2 928 = SG D 2 912 + SG D 914 16 := SG_add D 2 912 16
  rw [h]
  exact Nat.add_le_add (sg_57 D) a
def tb_59 : List (Nat × Nat) := [(930, 144115188210074628), (931, 910), (932, 260), (933, 36028797086073090), (934, 258), (935, 520), (936, 216172782382219800), (937, 130), (938, 516), (939, 36028797086073090), (940, 520), (941, 130), (942, 72057594105037314), (943, 260), (944, 264), (945, 432345564361785880)]
theorem tb_59_ok : ckL tb_59 930 = true := by decide +kernel
theorem tb_59_n : tb_59.length = 16 := by decide +kernel
noncomputable def sm_59 (p : Nat) : Nat := Nat.add (sm_58 p) (smL p tb_59)
theorem sg_59 (D : Nat) : SG D 2 944 ≤ sm_59 (D % 12) := by
  have a := ckL_ok D tb_59 930 (by decide) (by rw [tb_59_n]; decide) tb_59_ok
  rw [tb_59_n] at a
  have h : SG D 2 944 = SG D 2 928 + SG D 930 16 := SG_add D 2 928 16
  rw [h]
  exact Nat.add_le_add (sg_58 D) a
def tb_60 : List (Nat × Nat) := [(946, 516), (947, 130), (948, 72057594172146180), (949, 260), (950, 1290), (951, 36028797086073090), (952, 528), (953, 130), (954, 216172782180893190), (955, 260), (956, 260), (957, 72057594172146180), (958, 258), (959, 260), (960, 72057594574799376), (961, 2015)]
theorem tb_60_ok : ckL tb_60 946 = true := by decide +kernel
theorem tb_60_n : tb_60.length = 16 := by decide +kernel
noncomputable def sm_60 (p : Nat) : Nat := Nat.add (sm_59 p) (smL p tb_60)
theorem sg_60 (D : Nat) : SG D 2 960 ≤ sm_60 (D % 12) := by
  have a := ckL_ok D tb_60 946 (by decide) (by rw [tb_60_n]; decide) tb_60_ok
  rw [tb_60_n] at a
  have h : SG D 2 960 = SG D 2 944 + SG D 946 16 := SG_add D 2 944 16
  rw [h]
  exact Nat.add_le_add (sg_59 D) a
def tb_61 : List (Nat × Nat) := [(962, 516), (963, 108086391124001030), (964, 260), (965, 260), (966, 144115188210074628), (967, 130), (968, 1452), (969, 72057594172146180), (970, 516), (971, 130), (972, 648518346408460580), (973, 260), (974, 258), (975, 180143985430365450), (976, 264), (977, 130)]
theorem tb_61_ok : ckL tb_61 962 = true := by decide +kernel
theorem tb_61_n : tb_61.length = 16 := by decide +kernel
noncomputable def sm_61 (p : Nat) : Nat := Nat.add (sm_60 p) (smL p tb_61)
theorem sg_61 (D : Nat) : SG D 2 976 ≤ sm_61 (D % 12) := by
  have a := ckL_ok D tb_61 962 (by decide) (by rw [tb_61_n]; decide) tb_61_ok
  rw [tb_61_n] at a
  have h : SG D 2 976 = SG D 2 960 + SG D 962 16 := SG_add D 2 960 16
  rw [h]
  exact Nat.add_le_add (sg_60 D) a
def tb_62 : List (Nat × Nat) := [(978, 72057594105037314), (979, 260), (980, 1820), (981, 108086391124001030), (982, 258), (983, 130), (984, 72057594306363912), (985, 260), (986, 516), (987, 72057594172146180), (988, 520), (989, 260), (990, 432345564361786380), (991, 130), (992, 272), (993, 36028797086073090)]
theorem tb_62_ok : ckL tb_62 978 = true := by decide +kernel
theorem tb_62_n : tb_62.length = 16 := by decide +kernel
noncomputable def sm_62 (p : Nat) : Nat := Nat.add (sm_61 p) (smL p tb_62)
theorem sg_62 (D : Nat) : SG D 2 992 ≤ sm_62 (D % 12) := by
  have a := ckL_ok D tb_62 978 (by decide) (by rw [tb_62_n]; decide) tb_62_ok
  rw [tb_62_n] at a
  have h : SG D 2 992 = SG D 2 976 + SG D 978 16 := SG_add D 2 976 16
  rw [h]
  exact Nat.add_le_add (sg_61 D) a
def tb_63 : List (Nat × Nat) := [(994, 516), (995, 260), (996, 72057594172146180), (997, 130), (998, 258), (999, 216172782180892940), (1000, 1320), (1001, 520), (1002, 72057594105037314), (1003, 260), (1004, 260), (1005, 72057594172146180), (1006, 258), (1007, 260), (1008, 216172782382219800), (1009, 130)]
theorem tb_63_ok : ckL tb_63 994 = true := by decide +kernel
theorem tb_63_n : tb_63.length = 16 := by decide +kernel
noncomputable def sm_63 (p : Nat) : Nat := Nat.add (sm_62 p) (smL p tb_63)
theorem sg_63 (D : Nat) : SG D 2 1008 ≤ sm_63 (D % 12) := by
  have a := ckL_ok D tb_63 994 (by decide) (by rw [tb_63_n]; decide) tb_63_ok
  rw [tb_63_n] at a
  have h : SG D 2 1008 = SG D 2 992 + SG D 994 16 := SG_add D 2 992 16
  rw [h]
  exact Nat.add_le_add (sg_62 D) a
def tb_64 : List (Nat × Nat) := [(1010, 516), (1011, 36028797086073090), (1012, 520), (1013, 130), (1014, 468374361682742541), (1015, 520), (1016, 264), (1017, 108086391124001030), (1018, 258), (1019, 130), (1020, 144115188344292360), (1021, 130), (1022, 516), (1023, 72057594172146180), (1024, 160)]
theorem tb_64_ok : ckL tb_64 1010 = true := by decide +kernel
theorem tb_64_n : tb_64.length = 15 := by decide +kernel
noncomputable def sm_64 (p : Nat) : Nat := Nat.add (sm_63 p) (smL p tb_64)
theorem sg_64 (D : Nat) : SG D 2 1023 ≤ sm_64 (D % 12) := by
  have a := ckL_ok D tb_64 1010 (by decide) (by rw [tb_64_n]; decide) tb_64_ok
  rw [tb_64_n] at a
  have h : SG D 2 1023 = SG D 2 1008 + SG D 1010 15 := SG_add D 2 1008 15
  rw [h]
  exact Nat.add_le_add (sg_63 D) a
theorem sm_all : ∀ p, p < 12 → p % 4 ≤ 1 → sm_64 p ≤ 511040 := by
  intro p hp h4
  rcases (show p = 0 ∨ p = 1 ∨ p = 4 ∨ p = 5 ∨ p = 8 ∨ p = 9 by omega) with w | w | w | w | w | w <;> subst w <;> decide +kernel
theorem SG_bd {D : Nat} (h : D % 4 ≤ 1) : SG D 2 1023 ≤ 511040 := Nat.le_trans (sg_64 D) (sm_all (D % 12) (Nat.mod_lt _ (by decide)) (by omega))
