/-! THE LAW'S TABLE, in pieces -/
def kl_0 : List ev_I := [(0, .new 8, 3, 7, 0, 0), (3, .dup, 1, 0, 0, 0), (4, .invokespecial 56, 3, 58, 2, 0), (7, .astore_n 1, 1, 0, 0, 0), (8, .new 57, 3, 8, 0, 0), (11, .dup, 1, 0, 0, 0), (12, .invokespecial 59, 3, 78, 2, 0), (15, .astore_n 2, 1, 0, 0, 0), (16, .iconst 1, 1, 0, 0, 1), (17, .newarray .long, 2, 3, 0, 0), (19, .astore_n 3, 1, 0, 0, 0), (20, .iconst 0, 1, 0, 0, 0), (21, .istore 4, 2, 0, 0, 0), (23, .iload 4, 2, 0, 0, 0), (25, .aload_n 0, 1, 0, 0, 0), (26, .arraylength, 1, 0, 99, 0), (27, .bipush 6, 2, 0, 0, 6), (29, .isub, 1, 0, 0, 0), (30, .if_icmp .gt 1029, 3, 1059, 0, 0), (33, .aload_n 0, 1, 0, 0, 0), (34, .iload 4, 2, 0, 0, 0), (36, .iaload, 1, 0, 99, 0), (37, .bipush 15, 2, 0, 0, 15), (39, .iand, 1, 0, 0, 0), (40, .tableswitch 1013 0 13 #[72, 156, 260, 364, 377, 445, 525, 573, 629, 692, 772, 840, 865, 945], 72, 0, 0, 0)]
def kl_1 : List ev_I := [(112, .aload_n 1, 1, 0, 0, 0), (113, .aload_n 0, 1, 0, 0, 0), (114, .iload 4, 2, 0, 0, 0), (116, .iconst 1, 1, 0, 0, 1), (117, .iadd, 1, 0, 0, 0), (118, .iaload, 1, 0, 99, 0), (119, .aload_n 0, 1, 0, 0, 0), (120, .iload 4, 2, 0, 0, 0), (122, .iconst 2, 1, 0, 0, 2), (123, .iadd, 1, 0, 0, 0), (124, .iaload, 1, 0, 99, 0), (125, .aload_n 0, 1, 0, 0, 0), (126, .iload 4, 2, 0, 0, 0), (128, .iconst 3, 1, 0, 0, 3), (129, .iadd, 1, 0, 0, 0), (130, .iaload, 1, 0, 99, 0), (131, .aload_n 0, 1, 0, 0, 0), (132, .iload 4, 2, 0, 0, 0), (134, .iconst 4, 1, 0, 0, 4), (135, .iadd, 1, 0, 0, 0), (136, .iaload, 1, 0, 99, 0), (137, .aload_n 0, 1, 0, 0, 0), (138, .iload 4, 2, 0, 0, 0), (140, .iconst 5, 1, 0, 0, 5), (141, .iadd, 1, 0, 0, 0), (142, .iaload, 1, 0, 99, 0), (143, .invokestatic 60, 3, 0, 99, 0), (146, .istore 5, 2, 0, 0, 0), (148, .aload_n 2, 1, 0, 0, 0), (149, .aload_n 0, 1, 0, 0, 0), (150, .iload 4, 2, 0, 0, 0), (152, .iconst 1, 1, 0, 0, 1), (153, .iadd, 1, 0, 0, 0), (154, .iaload, 1, 0, 99, 0), (155, .aload_n 0, 1, 0, 0, 0), (156, .iload 4, 2, 0, 0, 0), (158, .iconst 2, 1, 0, 0, 2), (159, .iadd, 1, 0, 0, 0), (160, .iaload, 1, 0, 99, 0), (161, .aload_n 0, 1, 0, 0, 0), (162, .iload 4, 2, 0, 0, 0), (164, .iconst 3, 1, 0, 0, 3), (165, .iadd, 1, 0, 0, 0), (166, .iaload, 1, 0, 99, 0), (167, .aload_n 0, 1, 0, 0, 0), (168, .iload 4, 2, 0, 0, 0), (170, .iconst 4, 1, 0, 0, 4), (171, .iadd, 1, 0, 0, 0), (172, .iaload, 1, 0, 99, 0), (173, .aload_n 0, 1, 0, 0, 0), (174, .iload 4, 2, 0, 0, 0), (176, .iconst 5, 1, 0, 0, 5), (177, .iadd, 1, 0, 0, 0), (178, .iaload, 1, 0, 99, 0), (179, .invokevirtual 65, 3, 119, 1, 0), (182, .aload_n 2, 1, 0, 0, 0), (183, .invokevirtual 66, 3, 79, 1, 0), (186, .iload 5, 2, 0, 0, 0), (188, .if_icmp .eq 5, 3, 193, 0, 0), (191, .iconst 0, 1, 0, 0, 0), (192, .ireturn, 1, 0, 0, 0), (193, .goto 860, 3, 1053, 0, 0)]
def kl_2 : List ev_I := [(196, .aload_n 1, 1, 0, 0, 0), (197, .aload_n 0, 1, 0, 0, 0), (198, .iload 4, 2, 0, 0, 0), (200, .iconst 1, 1, 0, 0, 1), (201, .iadd, 1, 0, 0, 0), (202, .iaload, 1, 0, 99, 0), (203, .aload_n 0, 1, 0, 0, 0), (204, .iload 4, 2, 0, 0, 0), (206, .iconst 2, 1, 0, 0, 2), (207, .iadd, 1, 0, 0, 0), (208, .iaload, 1, 0, 99, 0), (209, .aload_n 0, 1, 0, 0, 0), (210, .iload 4, 2, 0, 0, 0), (212, .iconst 3, 1, 0, 0, 3), (213, .iadd, 1, 0, 0, 0), (214, .iaload, 1, 0, 99, 0), (215, .aload_n 0, 1, 0, 0, 0), (216, .iload 4, 2, 0, 0, 0), (218, .iconst 4, 1, 0, 0, 4), (219, .iadd, 1, 0, 0, 0), (220, .iaload, 1, 0, 99, 0), (221, .aload_n 0, 1, 0, 0, 0), (222, .iload 4, 2, 0, 0, 0), (224, .iconst 5, 1, 0, 0, 5), (225, .iadd, 1, 0, 0, 0), (226, .iaload, 1, 0, 99, 0), (227, .aload_n 3, 1, 0, 0, 0), (228, .invokestatic 70, 3, 0, 99, 0), (231, .istore 5, 2, 0, 0, 0), (233, .aload_n 2, 1, 0, 0, 0), (234, .aload_n 0, 1, 0, 0, 0), (235, .iload 4, 2, 0, 0, 0), (237, .iconst 1, 1, 0, 0, 1), (238, .iadd, 1, 0, 0, 0), (239, .iaload, 1, 0, 99, 0), (240, .aload_n 0, 1, 0, 0, 0), (241, .iload 4, 2, 0, 0, 0), (243, .iconst 2, 1, 0, 0, 2), (244, .iadd, 1, 0, 0, 0), (245, .iaload, 1, 0, 99, 0), (246, .aload_n 0, 1, 0, 0, 0), (247, .iload 4, 2, 0, 0, 0), (249, .iconst 3, 1, 0, 0, 3), (250, .iadd, 1, 0, 0, 0), (251, .iaload, 1, 0, 99, 0), (252, .aload_n 0, 1, 0, 0, 0), (253, .iload 4, 2, 0, 0, 0), (255, .iconst 4, 1, 0, 0, 4), (256, .iadd, 1, 0, 0, 0), (257, .iaload, 1, 0, 99, 0), (258, .aload_n 0, 1, 0, 0, 0), (259, .iload 4, 2, 0, 0, 0), (261, .iconst 5, 1, 0, 0, 5), (262, .iadd, 1, 0, 0, 0), (263, .iaload, 1, 0, 99, 0), (264, .invokevirtual 73, 3, 120, 1, 0), (267, .istore 6, 2, 0, 0, 0), (269, .aload_n 2, 1, 0, 0, 0), (270, .invokevirtual 66, 3, 79, 1, 0), (273, .iload 5, 2, 0, 0, 0), (275, .if_icmp .eq 5, 3, 280, 0, 0), (278, .iconst 0, 1, 0, 0, 0), (279, .ireturn, 1, 0, 0, 0), (280, .iload 5, 2, 0, 0, 0), (282, .ifCond .ne 15, 3, 297, 0, 0), (285, .aload_n 3, 1, 0, 0, 0), (286, .iconst 0, 1, 0, 0, 0), (287, .laload, 1, 0, 0, 0), (288, .iload 6, 2, 0, 0, 0), (290, .i2l, 1, 0, 0, 0), (291, .lcmp, 1, 0, 0, 0), (292, .ifCond .eq 5, 3, 297, 0, 0), (295, .iconst 0, 1, 0, 0, 0), (296, .ireturn, 1, 0, 0, 0), (297, .goto 756, 3, 1053, 0, 0)]
def kl_3 : List ev_I := [(300, .aload_n 1, 1, 0, 0, 0), (301, .aload_n 0, 1, 0, 0, 0), (302, .iload 4, 2, 0, 0, 0), (304, .iconst 1, 1, 0, 0, 1), (305, .iadd, 1, 0, 0, 0), (306, .iaload, 1, 0, 99, 0), (307, .aload_n 0, 1, 0, 0, 0), (308, .iload 4, 2, 0, 0, 0), (310, .iconst 2, 1, 0, 0, 2), (311, .iadd, 1, 0, 0, 0), (312, .iaload, 1, 0, 99, 0), (313, .aload_n 0, 1, 0, 0, 0), (314, .iload 4, 2, 0, 0, 0), (316, .iconst 3, 1, 0, 0, 3), (317, .iadd, 1, 0, 0, 0), (318, .iaload, 1, 0, 99, 0), (319, .aload_n 0, 1, 0, 0, 0), (320, .iload 4, 2, 0, 0, 0), (322, .iconst 4, 1, 0, 0, 4), (323, .iadd, 1, 0, 0, 0), (324, .iaload, 1, 0, 99, 0), (325, .aload_n 0, 1, 0, 0, 0), (326, .iload 4, 2, 0, 0, 0), (328, .iconst 5, 1, 0, 0, 5), (329, .iadd, 1, 0, 0, 0), (330, .iaload, 1, 0, 99, 0), (331, .aload_n 3, 1, 0, 0, 0), (332, .invokestatic 74, 3, 0, 99, 0), (335, .istore 5, 2, 0, 0, 0), (337, .aload_n 2, 1, 0, 0, 0), (338, .aload_n 0, 1, 0, 0, 0), (339, .iload 4, 2, 0, 0, 0), (341, .iconst 1, 1, 0, 0, 1), (342, .iadd, 1, 0, 0, 0), (343, .iaload, 1, 0, 99, 0), (344, .aload_n 0, 1, 0, 0, 0), (345, .iload 4, 2, 0, 0, 0), (347, .iconst 2, 1, 0, 0, 2), (348, .iadd, 1, 0, 0, 0), (349, .iaload, 1, 0, 99, 0), (350, .aload_n 0, 1, 0, 0, 0), (351, .iload 4, 2, 0, 0, 0), (353, .iconst 3, 1, 0, 0, 3), (354, .iadd, 1, 0, 0, 0), (355, .iaload, 1, 0, 99, 0), (356, .aload_n 0, 1, 0, 0, 0), (357, .iload 4, 2, 0, 0, 0), (359, .iconst 4, 1, 0, 0, 4), (360, .iadd, 1, 0, 0, 0), (361, .iaload, 1, 0, 99, 0), (362, .aload_n 0, 1, 0, 0, 0), (363, .iload 4, 2, 0, 0, 0), (365, .iconst 5, 1, 0, 0, 5), (366, .iadd, 1, 0, 0, 0), (367, .iaload, 1, 0, 99, 0), (368, .invokevirtual 76, 3, 121, 1, 0), (371, .istore 6, 2, 0, 0, 0), (373, .aload_n 2, 1, 0, 0, 0), (374, .invokevirtual 66, 3, 79, 1, 0), (377, .iload 5, 2, 0, 0, 0), (379, .if_icmp .eq 5, 3, 384, 0, 0), (382, .iconst 0, 1, 0, 0, 0), (383, .ireturn, 1, 0, 0, 0), (384, .iload 5, 2, 0, 0, 0), (386, .ifCond .ne 15, 3, 401, 0, 0), (389, .aload_n 3, 1, 0, 0, 0), (390, .iconst 0, 1, 0, 0, 0), (391, .laload, 1, 0, 0, 0), (392, .iload 6, 2, 0, 0, 0), (394, .i2l, 1, 0, 0, 0), (395, .lcmp, 1, 0, 0, 0), (396, .ifCond .eq 5, 3, 401, 0, 0), (399, .iconst 0, 1, 0, 0, 0), (400, .ireturn, 1, 0, 0, 0), (401, .goto 652, 3, 1053, 0, 0)]
def kl_4 : List ev_I := [(404, .aload_n 1, 1, 0, 0, 0), (405, .invokevirtual 77, 3, 62, 1, 0), (408, .aload_n 2, 1, 0, 0, 0), (409, .invokevirtual 80, 3, 122, 1, 0), (412, .if_icmp .eq 641, 3, 1053, 0, 0), (415, .iconst 0, 1, 0, 0, 0), (416, .ireturn, 1, 0, 0, 0)]
def kl_5 : List ev_I := [(417, .aload_n 1, 1, 0, 0, 0), (418, .aload_n 0, 1, 0, 0, 0), (419, .iload 4, 2, 0, 0, 0), (421, .iconst 1, 1, 0, 0, 1), (422, .iadd, 1, 0, 0, 0), (423, .iaload, 1, 0, 99, 0), (424, .aload_n 0, 1, 0, 0, 0), (425, .iload 4, 2, 0, 0, 0), (427, .iconst 2, 1, 0, 0, 2), (428, .iadd, 1, 0, 0, 0), (429, .iaload, 1, 0, 99, 0), (430, .aload_n 3, 1, 0, 0, 0), (431, .invokestatic 81, 3, 0, 99, 0), (434, .istore 5, 2, 0, 0, 0), (436, .aload_n 2, 1, 0, 0, 0), (437, .aload_n 0, 1, 0, 0, 0), (438, .iload 4, 2, 0, 0, 0), (440, .iconst 1, 1, 0, 0, 1), (441, .iadd, 1, 0, 0, 0), (442, .iaload, 1, 0, 99, 0), (443, .aload_n 0, 1, 0, 0, 0), (444, .iload 4, 2, 0, 0, 0), (446, .iconst 2, 1, 0, 0, 2), (447, .iadd, 1, 0, 0, 0), (448, .iaload, 1, 0, 99, 0), (449, .invokevirtual 84, 3, 124, 1, 0), (452, .istore 6, 2, 0, 0, 0), (454, .aload_n 2, 1, 0, 0, 0), (455, .invokevirtual 66, 3, 79, 1, 0), (458, .iload 5, 2, 0, 0, 0), (460, .if_icmp .eq 5, 3, 465, 0, 0), (463, .iconst 0, 1, 0, 0, 0), (464, .ireturn, 1, 0, 0, 0), (465, .iload 5, 2, 0, 0, 0), (467, .ifCond .ne 15, 3, 482, 0, 0), (470, .aload_n 3, 1, 0, 0, 0), (471, .iconst 0, 1, 0, 0, 0), (472, .laload, 1, 0, 0, 0), (473, .iload 6, 2, 0, 0, 0), (475, .i2l, 1, 0, 0, 0), (476, .lcmp, 1, 0, 0, 0), (477, .ifCond .eq 5, 3, 482, 0, 0), (480, .iconst 0, 1, 0, 0, 0), (481, .ireturn, 1, 0, 0, 0), (482, .goto 571, 3, 1053, 0, 0)]
def kl_6 : List ev_I := [(485, .aload_n 1, 1, 0, 0, 0), (486, .aload_n 0, 1, 0, 0, 0), (487, .iload 4, 2, 0, 0, 0), (489, .iconst 1, 1, 0, 0, 1), (490, .iadd, 1, 0, 0, 0), (491, .iaload, 1, 0, 99, 0), (492, .aload_n 0, 1, 0, 0, 0), (493, .iload 4, 2, 0, 0, 0), (495, .iconst 2, 1, 0, 0, 2), (496, .iadd, 1, 0, 0, 0), (497, .iaload, 1, 0, 99, 0), (498, .aload_n 0, 1, 0, 0, 0), (499, .iload 4, 2, 0, 0, 0), (501, .iconst 3, 1, 0, 0, 3), (502, .iadd, 1, 0, 0, 0), (503, .iaload, 1, 0, 99, 0), (504, .aload_n 3, 1, 0, 0, 0), (505, .invokestatic 85, 3, 0, 99, 0), (508, .istore 5, 2, 0, 0, 0), (510, .aload_n 2, 1, 0, 0, 0), (511, .aload_n 0, 1, 0, 0, 0), (512, .iload 4, 2, 0, 0, 0), (514, .iconst 1, 1, 0, 0, 1), (515, .iadd, 1, 0, 0, 0), (516, .iaload, 1, 0, 99, 0), (517, .aload_n 0, 1, 0, 0, 0), (518, .iload 4, 2, 0, 0, 0), (520, .iconst 2, 1, 0, 0, 2), (521, .iadd, 1, 0, 0, 0), (522, .iaload, 1, 0, 99, 0), (523, .aload_n 0, 1, 0, 0, 0), (524, .iload 4, 2, 0, 0, 0), (526, .iconst 3, 1, 0, 0, 3), (527, .iadd, 1, 0, 0, 0), (528, .iaload, 1, 0, 99, 0), (529, .invokevirtual 88, 3, 125, 1, 0), (532, .istore 6, 2, 0, 0, 0), (534, .aload_n 2, 1, 0, 0, 0), (535, .invokevirtual 66, 3, 79, 1, 0), (538, .iload 5, 2, 0, 0, 0), (540, .if_icmp .eq 5, 3, 545, 0, 0), (543, .iconst 0, 1, 0, 0, 0), (544, .ireturn, 1, 0, 0, 0), (545, .iload 5, 2, 0, 0, 0), (547, .ifCond .ne 15, 3, 562, 0, 0), (550, .aload_n 3, 1, 0, 0, 0), (551, .iconst 0, 1, 0, 0, 0), (552, .laload, 1, 0, 0, 0), (553, .iload 6, 2, 0, 0, 0), (555, .i2l, 1, 0, 0, 0), (556, .lcmp, 1, 0, 0, 0), (557, .ifCond .eq 5, 3, 562, 0, 0), (560, .iconst 0, 1, 0, 0, 0), (561, .ireturn, 1, 0, 0, 0), (562, .goto 491, 3, 1053, 0, 0)]
def kl_7 : List ev_I := [(565, .aload_n 1, 1, 0, 0, 0), (566, .aload_n 0, 1, 0, 0, 0), (567, .iload 4, 2, 0, 0, 0), (569, .iconst 1, 1, 0, 0, 1), (570, .iadd, 1, 0, 0, 0), (571, .iaload, 1, 0, 99, 0), (572, .aload_n 0, 1, 0, 0, 0), (573, .iload 4, 2, 0, 0, 0), (575, .iconst 2, 1, 0, 0, 2), (576, .iadd, 1, 0, 0, 0), (577, .iaload, 1, 0, 99, 0), (578, .invokestatic 89, 3, 0, 99, 0), (581, .istore 5, 2, 0, 0, 0), (583, .aload_n 2, 1, 0, 0, 0), (584, .aload_n 0, 1, 0, 0, 0), (585, .iload 4, 2, 0, 0, 0), (587, .iconst 1, 1, 0, 0, 1), (588, .iadd, 1, 0, 0, 0), (589, .iaload, 1, 0, 99, 0), (590, .aload_n 0, 1, 0, 0, 0), (591, .iload 4, 2, 0, 0, 0), (593, .iconst 2, 1, 0, 0, 2), (594, .iadd, 1, 0, 0, 0), (595, .iaload, 1, 0, 99, 0), (596, .invokevirtual 92, 3, 126, 1, 0), (599, .aload_n 2, 1, 0, 0, 0), (600, .invokevirtual 66, 3, 79, 1, 0), (603, .iload 5, 2, 0, 0, 0), (605, .if_icmp .eq 5, 3, 610, 0, 0), (608, .iconst 0, 1, 0, 0, 0), (609, .ireturn, 1, 0, 0, 0), (610, .goto 443, 3, 1053, 0, 0)]
def kl_8 : List ev_I := [(613, .aload_n 1, 1, 0, 0, 0), (614, .aload_n 0, 1, 0, 0, 0), (615, .iload 4, 2, 0, 0, 0), (617, .iconst 1, 1, 0, 0, 1), (618, .iadd, 1, 0, 0, 0), (619, .iaload, 1, 0, 99, 0), (620, .aload_n 3, 1, 0, 0, 0), (621, .invokestatic 93, 3, 0, 99, 0), (624, .istore 5, 2, 0, 0, 0), (626, .aload_n 2, 1, 0, 0, 0), (627, .aload_n 0, 1, 0, 0, 0), (628, .iload 4, 2, 0, 0, 0), (630, .iconst 1, 1, 0, 0, 1), (631, .iadd, 1, 0, 0, 0), (632, .iaload, 1, 0, 99, 0), (633, .invokevirtual 96, 3, 115, 1, 0), (636, .istore 6, 2, 0, 0, 0), (638, .aload_n 2, 1, 0, 0, 0), (639, .invokevirtual 66, 3, 79, 1, 0), (642, .iload 5, 2, 0, 0, 0), (644, .if_icmp .eq 5, 3, 649, 0, 0), (647, .iconst 0, 1, 0, 0, 0), (648, .ireturn, 1, 0, 0, 0), (649, .iload 5, 2, 0, 0, 0), (651, .ifCond .ne 15, 3, 666, 0, 0), (654, .aload_n 3, 1, 0, 0, 0), (655, .iconst 0, 1, 0, 0, 0), (656, .laload, 1, 0, 0, 0), (657, .iload 6, 2, 0, 0, 0), (659, .i2l, 1, 0, 0, 0), (660, .lcmp, 1, 0, 0, 0), (661, .ifCond .eq 5, 3, 666, 0, 0), (664, .iconst 0, 1, 0, 0, 0), (665, .ireturn, 1, 0, 0, 0), (666, .goto 387, 3, 1053, 0, 0)]
def kl_9 : List ev_I := [(669, .aload_n 1, 1, 0, 0, 0), (670, .aload_n 0, 1, 0, 0, 0), (671, .iload 4, 2, 0, 0, 0), (673, .iconst 1, 1, 0, 0, 1), (674, .iadd, 1, 0, 0, 0), (675, .iaload, 1, 0, 99, 0), (676, .aload_n 3, 1, 0, 0, 0), (677, .invokestatic 97, 3, 0, 99, 0), (680, .istore 5, 2, 0, 0, 0), (682, .aload_n 2, 1, 0, 0, 0), (683, .aload_n 0, 1, 0, 0, 0), (684, .iload 4, 2, 0, 0, 0), (686, .iconst 1, 1, 0, 0, 1), (687, .iadd, 1, 0, 0, 0), (688, .iaload, 1, 0, 99, 0), (689, .invokevirtual 99, 3, 116, 1, 0), (692, .istore 6, 2, 0, 0, 0), (694, .aload_n 2, 1, 0, 0, 0), (695, .invokevirtual 66, 3, 79, 1, 0), (698, .iload 5, 2, 0, 0, 0), (700, .if_icmp .eq 5, 3, 705, 0, 0), (703, .iconst 0, 1, 0, 0, 0), (704, .ireturn, 1, 0, 0, 0), (705, .iload 5, 2, 0, 0, 0), (707, .ifCond .ne 22, 3, 729, 0, 0), (710, .aload_n 3, 1, 0, 0, 0), (711, .iconst 0, 1, 0, 0, 0), (712, .laload, 1, 0, 0, 0), (713, .iload 6, 2, 0, 0, 0), (715, .ifCond .eq 7, 3, 722, 0, 0), (718, .lconst 1, 1, 0, 0, 0), (719, .goto 4, 3, 723, 0, 0), (722, .lconst 0, 1, 0, 0, 0), (723, .lcmp, 1, 0, 0, 0), (724, .ifCond .eq 5, 3, 729, 0, 0), (727, .iconst 0, 1, 0, 0, 0), (728, .ireturn, 1, 0, 0, 0), (729, .goto 324, 3, 1053, 0, 0)]
def kl_10 : List ev_I := [(732, .aload_n 1, 1, 0, 0, 0), (733, .aload_n 0, 1, 0, 0, 0), (734, .iload 4, 2, 0, 0, 0), (736, .iconst 1, 1, 0, 0, 1), (737, .iadd, 1, 0, 0, 0), (738, .iaload, 1, 0, 99, 0), (739, .aload_n 0, 1, 0, 0, 0), (740, .iload 4, 2, 0, 0, 0), (742, .iconst 2, 1, 0, 0, 2), (743, .iadd, 1, 0, 0, 0), (744, .iaload, 1, 0, 99, 0), (745, .aload_n 0, 1, 0, 0, 0), (746, .iload 4, 2, 0, 0, 0), (748, .iconst 3, 1, 0, 0, 3), (749, .iadd, 1, 0, 0, 0), (750, .iaload, 1, 0, 99, 0), (751, .aload_n 3, 1, 0, 0, 0), (752, .invokestatic 100, 3, 0, 99, 0), (755, .istore 5, 2, 0, 0, 0), (757, .aload_n 2, 1, 0, 0, 0), (758, .aload_n 0, 1, 0, 0, 0), (759, .iload 4, 2, 0, 0, 0), (761, .iconst 1, 1, 0, 0, 1), (762, .iadd, 1, 0, 0, 0), (763, .iaload, 1, 0, 99, 0), (764, .aload_n 0, 1, 0, 0, 0), (765, .iload 4, 2, 0, 0, 0), (767, .iconst 2, 1, 0, 0, 2), (768, .iadd, 1, 0, 0, 0), (769, .iaload, 1, 0, 99, 0), (770, .aload_n 0, 1, 0, 0, 0), (771, .iload 4, 2, 0, 0, 0), (773, .iconst 3, 1, 0, 0, 3), (774, .iadd, 1, 0, 0, 0), (775, .iaload, 1, 0, 99, 0), (776, .invokevirtual 102, 3, 117, 1, 0), (779, .istore 6, 2, 0, 0, 0), (781, .aload_n 2, 1, 0, 0, 0), (782, .invokevirtual 66, 3, 79, 1, 0), (785, .iload 5, 2, 0, 0, 0), (787, .if_icmp .eq 5, 3, 792, 0, 0), (790, .iconst 0, 1, 0, 0, 0), (791, .ireturn, 1, 0, 0, 0), (792, .iload 5, 2, 0, 0, 0), (794, .ifCond .ne 15, 3, 809, 0, 0), (797, .aload_n 3, 1, 0, 0, 0), (798, .iconst 0, 1, 0, 0, 0), (799, .laload, 1, 0, 0, 0), (800, .iload 6, 2, 0, 0, 0), (802, .i2l, 1, 0, 0, 0), (803, .lcmp, 1, 0, 0, 0), (804, .ifCond .eq 5, 3, 809, 0, 0), (807, .iconst 0, 1, 0, 0, 0), (808, .ireturn, 1, 0, 0, 0), (809, .goto 244, 3, 1053, 0, 0)]
def kl_11 : List ev_I := [(812, .aload_n 1, 1, 0, 0, 0), (813, .aload_n 0, 1, 0, 0, 0), (814, .iload 4, 2, 0, 0, 0), (816, .iconst 1, 1, 0, 0, 1), (817, .iadd, 1, 0, 0, 0), (818, .iaload, 1, 0, 99, 0), (819, .aload_n 0, 1, 0, 0, 0), (820, .iload 4, 2, 0, 0, 0), (822, .iconst 2, 1, 0, 0, 2), (823, .iadd, 1, 0, 0, 0), (824, .iaload, 1, 0, 99, 0), (825, .aload_n 3, 1, 0, 0, 0), (826, .invokestatic 103, 3, 0, 99, 0), (829, .istore 5, 2, 0, 0, 0), (831, .aload_n 2, 1, 0, 0, 0), (832, .aload_n 0, 1, 0, 0, 0), (833, .iload 4, 2, 0, 0, 0), (835, .iconst 1, 1, 0, 0, 1), (836, .iadd, 1, 0, 0, 0), (837, .iaload, 1, 0, 99, 0), (838, .aload_n 0, 1, 0, 0, 0), (839, .iload 4, 2, 0, 0, 0), (841, .iconst 2, 1, 0, 0, 2), (842, .iadd, 1, 0, 0, 0), (843, .iaload, 1, 0, 99, 0), (844, .invokevirtual 105, 3, 127, 1, 0), (847, .istore 6, 2, 0, 0, 0), (849, .aload_n 2, 1, 0, 0, 0), (850, .invokevirtual 66, 3, 79, 1, 0), (853, .iload 5, 2, 0, 0, 0), (855, .if_icmp .eq 5, 3, 860, 0, 0), (858, .iconst 0, 1, 0, 0, 0), (859, .ireturn, 1, 0, 0, 0), (860, .iload 5, 2, 0, 0, 0), (862, .ifCond .ne 15, 3, 877, 0, 0), (865, .aload_n 3, 1, 0, 0, 0), (866, .iconst 0, 1, 0, 0, 0), (867, .laload, 1, 0, 0, 0), (868, .iload 6, 2, 0, 0, 0), (870, .i2l, 1, 0, 0, 0), (871, .lcmp, 1, 0, 0, 0), (872, .ifCond .eq 5, 3, 877, 0, 0), (875, .iconst 0, 1, 0, 0, 0), (876, .ireturn, 1, 0, 0, 0), (877, .goto 176, 3, 1053, 0, 0)]
def kl_12 : List ev_I := [(880, .aload_n 1, 1, 0, 0, 0), (881, .aload_n 0, 1, 0, 0, 0), (882, .iload 4, 2, 0, 0, 0), (884, .iconst 1, 1, 0, 0, 1), (885, .iadd, 1, 0, 0, 0), (886, .iaload, 1, 0, 99, 0), (887, .invokevirtual 106, 3, 70, 1, 0), (890, .aload_n 2, 1, 0, 0, 0), (891, .aload_n 0, 1, 0, 0, 0), (892, .iload 4, 2, 0, 0, 0), (894, .iconst 1, 1, 0, 0, 1), (895, .iadd, 1, 0, 0, 0), (896, .iaload, 1, 0, 99, 0), (897, .invokevirtual 109, 3, 128, 1, 0), (900, .if_icmp .eq 153, 3, 1053, 0, 0), (903, .iconst 0, 1, 0, 0, 0), (904, .ireturn, 1, 0, 0, 0)]
def kl_13 : List ev_I := [(905, .aload_n 1, 1, 0, 0, 0), (906, .aload_n 0, 1, 0, 0, 0), (907, .iload 4, 2, 0, 0, 0), (909, .iconst 1, 1, 0, 0, 1), (910, .iadd, 1, 0, 0, 0), (911, .iaload, 1, 0, 99, 0), (912, .aload_n 0, 1, 0, 0, 0), (913, .iload 4, 2, 0, 0, 0), (915, .iconst 2, 1, 0, 0, 2), (916, .iadd, 1, 0, 0, 0), (917, .iaload, 1, 0, 99, 0), (918, .aload_n 0, 1, 0, 0, 0), (919, .iload 4, 2, 0, 0, 0), (921, .iconst 3, 1, 0, 0, 3), (922, .iadd, 1, 0, 0, 0), (923, .iaload, 1, 0, 99, 0), (924, .aload_n 3, 1, 0, 0, 0), (925, .invokestatic 110, 3, 0, 99, 0), (928, .istore 5, 2, 0, 0, 0), (930, .aload_n 2, 1, 0, 0, 0), (931, .aload_n 0, 1, 0, 0, 0), (932, .iload 4, 2, 0, 0, 0), (934, .iconst 1, 1, 0, 0, 1), (935, .iadd, 1, 0, 0, 0), (936, .iaload, 1, 0, 99, 0), (937, .aload_n 0, 1, 0, 0, 0), (938, .iload 4, 2, 0, 0, 0), (940, .iconst 2, 1, 0, 0, 2), (941, .iadd, 1, 0, 0, 0), (942, .iaload, 1, 0, 99, 0), (943, .aload_n 0, 1, 0, 0, 0), (944, .iload 4, 2, 0, 0, 0), (946, .iconst 3, 1, 0, 0, 3), (947, .iadd, 1, 0, 0, 0), (948, .iaload, 1, 0, 99, 0), (949, .invokevirtual 112, 3, 129, 1, 0), (952, .istore 6, 2, 0, 0, 0), (954, .aload_n 2, 1, 0, 0, 0), (955, .invokevirtual 66, 3, 79, 1, 0), (958, .iload 5, 2, 0, 0, 0), (960, .if_icmp .eq 5, 3, 965, 0, 0), (963, .iconst 0, 1, 0, 0, 0), (964, .ireturn, 1, 0, 0, 0), (965, .iload 5, 2, 0, 0, 0), (967, .ifCond .ne 15, 3, 982, 0, 0), (970, .aload_n 3, 1, 0, 0, 0), (971, .iconst 0, 1, 0, 0, 0), (972, .laload, 1, 0, 0, 0), (973, .iload 6, 2, 0, 0, 0), (975, .i2l, 1, 0, 0, 0), (976, .lcmp, 1, 0, 0, 0), (977, .ifCond .eq 5, 3, 982, 0, 0), (980, .iconst 0, 1, 0, 0, 0), (981, .ireturn, 1, 0, 0, 0), (982, .goto 71, 3, 1053, 0, 0)]
def kl_14 : List ev_I := [(985, .aload_n 1, 1, 0, 0, 0), (986, .aload_n 0, 1, 0, 0, 0), (987, .iload 4, 2, 0, 0, 0), (989, .iconst 1, 1, 0, 0, 1), (990, .iadd, 1, 0, 0, 0), (991, .iaload, 1, 0, 99, 0), (992, .aload_n 0, 1, 0, 0, 0), (993, .iload 4, 2, 0, 0, 0), (995, .iconst 2, 1, 0, 0, 2), (996, .iadd, 1, 0, 0, 0), (997, .iaload, 1, 0, 99, 0), (998, .aload_n 3, 1, 0, 0, 0), (999, .invokestatic 113, 3, 0, 99, 0), (1002, .istore 5, 2, 0, 0, 0), (1004, .aload_n 2, 1, 0, 0, 0), (1005, .aload_n 0, 1, 0, 0, 0), (1006, .iload 4, 2, 0, 0, 0), (1008, .iconst 1, 1, 0, 0, 1), (1009, .iadd, 1, 0, 0, 0), (1010, .iaload, 1, 0, 99, 0), (1011, .aload_n 0, 1, 0, 0, 0), (1012, .iload 4, 2, 0, 0, 0), (1014, .iconst 2, 1, 0, 0, 2), (1015, .iadd, 1, 0, 0, 0), (1016, .iaload, 1, 0, 99, 0), (1017, .invokevirtual 115, 3, 130, 1, 0), (1020, .istore 6, 2, 0, 0, 0), (1022, .aload_n 2, 1, 0, 0, 0), (1023, .invokevirtual 66, 3, 79, 1, 0), (1026, .iload 5, 2, 0, 0, 0), (1028, .if_icmp .eq 5, 3, 1033, 0, 0), (1031, .iconst 0, 1, 0, 0, 0), (1032, .ireturn, 1, 0, 0, 0), (1033, .iload 5, 2, 0, 0, 0), (1035, .ifCond .ne 15, 3, 1050, 0, 0), (1038, .aload_n 3, 1, 0, 0, 0), (1039, .iconst 0, 1, 0, 0, 0), (1040, .laload, 1, 0, 0, 0), (1041, .iload 6, 2, 0, 0, 0), (1043, .i2l, 1, 0, 0, 0), (1044, .lcmp, 1, 0, 0, 0), (1045, .ifCond .eq 5, 3, 1050, 0, 0), (1048, .iconst 0, 1, 0, 0, 0), (1049, .ireturn, 1, 0, 0, 0), (1050, .goto 3, 3, 1053, 0, 0)]
def kl_15 : List ev_I := [(1053, .iinc 4 6, 3, 0, 0, 6), (1056, .goto (-1033), 3, 23, 0, 0), (1059, .iconst 1, 1, 0, 0, 1), (1060, .ireturn, 1, 0, 0, 0)]
def kl_law : List ev_I := kl_0 ++ (kl_1 ++ (kl_2 ++ (kl_3 ++ (kl_4 ++ (kl_5 ++ (kl_6 ++ (kl_7 ++ (kl_8 ++ (kl_9 ++ (kl_10 ++ (kl_11 ++ (kl_12 ++ (kl_13 ++ (kl_14 ++ (kl_15)))))))))))))))
set_option maxRecDepth 100000 in
theorem kl_ok_0 : kl_0.all (ev_okb 15 0 cL_law) = true := by decide +kernel
set_option maxRecDepth 100000 in
theorem kl_ok_1 : kl_1.all (ev_okb 15 0 cL_law) = true := by decide +kernel
set_option maxRecDepth 100000 in
theorem kl_ok_2 : kl_2.all (ev_okb 15 0 cL_law) = true := by decide +kernel
set_option maxRecDepth 100000 in
theorem kl_ok_3 : kl_3.all (ev_okb 15 0 cL_law) = true := by decide +kernel
set_option maxRecDepth 100000 in
theorem kl_ok_4 : kl_4.all (ev_okb 15 0 cL_law) = true := by decide +kernel
set_option maxRecDepth 100000 in
theorem kl_ok_5 : kl_5.all (ev_okb 15 0 cL_law) = true := by decide +kernel
set_option maxRecDepth 100000 in
theorem kl_ok_6 : kl_6.all (ev_okb 15 0 cL_law) = true := by decide +kernel
set_option maxRecDepth 100000 in
theorem kl_ok_7 : kl_7.all (ev_okb 15 0 cL_law) = true := by decide +kernel
set_option maxRecDepth 100000 in
theorem kl_ok_8 : kl_8.all (ev_okb 15 0 cL_law) = true := by decide +kernel
set_option maxRecDepth 100000 in
theorem kl_ok_9 : kl_9.all (ev_okb 15 0 cL_law) = true := by decide +kernel
set_option maxRecDepth 100000 in
theorem kl_ok_10 : kl_10.all (ev_okb 15 0 cL_law) = true := by decide +kernel
set_option maxRecDepth 100000 in
theorem kl_ok_11 : kl_11.all (ev_okb 15 0 cL_law) = true := by decide +kernel
set_option maxRecDepth 100000 in
theorem kl_ok_12 : kl_12.all (ev_okb 15 0 cL_law) = true := by decide +kernel
set_option maxRecDepth 100000 in
theorem kl_ok_13 : kl_13.all (ev_okb 15 0 cL_law) = true := by decide +kernel
set_option maxRecDepth 100000 in
theorem kl_ok_14 : kl_14.all (ev_okb 15 0 cL_law) = true := by decide +kernel
set_option maxRecDepth 100000 in
theorem kl_ok_15 : kl_15.all (ev_okb 15 0 cL_law) = true := by decide +kernel
theorem kl_ok : kl_law.all (ev_okb 15 0 cL_law) = true := by
  unfold kl_law
  simp only [List.all_append, Bool.and_eq_true]
  exact ⟨kl_ok_0, ⟨kl_ok_1, ⟨kl_ok_2, ⟨kl_ok_3, ⟨kl_ok_4, ⟨kl_ok_5, ⟨kl_ok_6, ⟨kl_ok_7, ⟨kl_ok_8, ⟨kl_ok_9, ⟨kl_ok_10, ⟨kl_ok_11, ⟨kl_ok_12, ⟨kl_ok_13, ⟨kl_ok_14, kl_ok_15⟩⟩⟩⟩⟩⟩⟩⟩⟩⟩⟩⟩⟩⟩⟩
set_option maxRecDepth 100000 in
theorem kl_in_0 : (kl_0.all fun q => decide (ev_at kl_law q.1 = some q)) = true := by decide +kernel
theorem kl_at_0 {pc : Nat} {q : ev_I} (h : ev_at kl_0 pc = some q) : ev_at kl_law pc = some q := by
  obtain ⟨h1, h2⟩ := ev_at_mem h
  rw [h2]
  exact of_decide_eq_true (List.all_eq_true.mp kl_in_0 q h1)
set_option maxRecDepth 100000 in
theorem kl_in_1 : (kl_1.all fun q => decide (ev_at kl_law q.1 = some q)) = true := by decide +kernel
theorem kl_at_1 {pc : Nat} {q : ev_I} (h : ev_at kl_1 pc = some q) : ev_at kl_law pc = some q := by
  obtain ⟨h1, h2⟩ := ev_at_mem h
  rw [h2]
  exact of_decide_eq_true (List.all_eq_true.mp kl_in_1 q h1)
set_option maxRecDepth 100000 in
theorem kl_in_2 : (kl_2.all fun q => decide (ev_at kl_law q.1 = some q)) = true := by decide +kernel
theorem kl_at_2 {pc : Nat} {q : ev_I} (h : ev_at kl_2 pc = some q) : ev_at kl_law pc = some q := by
  obtain ⟨h1, h2⟩ := ev_at_mem h
  rw [h2]
  exact of_decide_eq_true (List.all_eq_true.mp kl_in_2 q h1)
set_option maxRecDepth 100000 in
theorem kl_in_3 : (kl_3.all fun q => decide (ev_at kl_law q.1 = some q)) = true := by decide +kernel
theorem kl_at_3 {pc : Nat} {q : ev_I} (h : ev_at kl_3 pc = some q) : ev_at kl_law pc = some q := by
  obtain ⟨h1, h2⟩ := ev_at_mem h
  rw [h2]
  exact of_decide_eq_true (List.all_eq_true.mp kl_in_3 q h1)
set_option maxRecDepth 100000 in
theorem kl_in_4 : (kl_4.all fun q => decide (ev_at kl_law q.1 = some q)) = true := by decide +kernel
theorem kl_at_4 {pc : Nat} {q : ev_I} (h : ev_at kl_4 pc = some q) : ev_at kl_law pc = some q := by
  obtain ⟨h1, h2⟩ := ev_at_mem h
  rw [h2]
  exact of_decide_eq_true (List.all_eq_true.mp kl_in_4 q h1)
set_option maxRecDepth 100000 in
theorem kl_in_5 : (kl_5.all fun q => decide (ev_at kl_law q.1 = some q)) = true := by decide +kernel
theorem kl_at_5 {pc : Nat} {q : ev_I} (h : ev_at kl_5 pc = some q) : ev_at kl_law pc = some q := by
  obtain ⟨h1, h2⟩ := ev_at_mem h
  rw [h2]
  exact of_decide_eq_true (List.all_eq_true.mp kl_in_5 q h1)
set_option maxRecDepth 100000 in
theorem kl_in_6 : (kl_6.all fun q => decide (ev_at kl_law q.1 = some q)) = true := by decide +kernel
theorem kl_at_6 {pc : Nat} {q : ev_I} (h : ev_at kl_6 pc = some q) : ev_at kl_law pc = some q := by
  obtain ⟨h1, h2⟩ := ev_at_mem h
  rw [h2]
  exact of_decide_eq_true (List.all_eq_true.mp kl_in_6 q h1)
set_option maxRecDepth 100000 in
theorem kl_in_7 : (kl_7.all fun q => decide (ev_at kl_law q.1 = some q)) = true := by decide +kernel
theorem kl_at_7 {pc : Nat} {q : ev_I} (h : ev_at kl_7 pc = some q) : ev_at kl_law pc = some q := by
  obtain ⟨h1, h2⟩ := ev_at_mem h
  rw [h2]
  exact of_decide_eq_true (List.all_eq_true.mp kl_in_7 q h1)
set_option maxRecDepth 100000 in
theorem kl_in_8 : (kl_8.all fun q => decide (ev_at kl_law q.1 = some q)) = true := by decide +kernel
theorem kl_at_8 {pc : Nat} {q : ev_I} (h : ev_at kl_8 pc = some q) : ev_at kl_law pc = some q := by
  obtain ⟨h1, h2⟩ := ev_at_mem h
  rw [h2]
  exact of_decide_eq_true (List.all_eq_true.mp kl_in_8 q h1)
set_option maxRecDepth 100000 in
theorem kl_in_9 : (kl_9.all fun q => decide (ev_at kl_law q.1 = some q)) = true := by decide +kernel
theorem kl_at_9 {pc : Nat} {q : ev_I} (h : ev_at kl_9 pc = some q) : ev_at kl_law pc = some q := by
  obtain ⟨h1, h2⟩ := ev_at_mem h
  rw [h2]
  exact of_decide_eq_true (List.all_eq_true.mp kl_in_9 q h1)
set_option maxRecDepth 100000 in
theorem kl_in_10 : (kl_10.all fun q => decide (ev_at kl_law q.1 = some q)) = true := by decide +kernel
theorem kl_at_10 {pc : Nat} {q : ev_I} (h : ev_at kl_10 pc = some q) : ev_at kl_law pc = some q := by
  obtain ⟨h1, h2⟩ := ev_at_mem h
  rw [h2]
  exact of_decide_eq_true (List.all_eq_true.mp kl_in_10 q h1)
set_option maxRecDepth 100000 in
theorem kl_in_11 : (kl_11.all fun q => decide (ev_at kl_law q.1 = some q)) = true := by decide +kernel
theorem kl_at_11 {pc : Nat} {q : ev_I} (h : ev_at kl_11 pc = some q) : ev_at kl_law pc = some q := by
  obtain ⟨h1, h2⟩ := ev_at_mem h
  rw [h2]
  exact of_decide_eq_true (List.all_eq_true.mp kl_in_11 q h1)
set_option maxRecDepth 100000 in
theorem kl_in_12 : (kl_12.all fun q => decide (ev_at kl_law q.1 = some q)) = true := by decide +kernel
theorem kl_at_12 {pc : Nat} {q : ev_I} (h : ev_at kl_12 pc = some q) : ev_at kl_law pc = some q := by
  obtain ⟨h1, h2⟩ := ev_at_mem h
  rw [h2]
  exact of_decide_eq_true (List.all_eq_true.mp kl_in_12 q h1)
set_option maxRecDepth 100000 in
theorem kl_in_13 : (kl_13.all fun q => decide (ev_at kl_law q.1 = some q)) = true := by decide +kernel
theorem kl_at_13 {pc : Nat} {q : ev_I} (h : ev_at kl_13 pc = some q) : ev_at kl_law pc = some q := by
  obtain ⟨h1, h2⟩ := ev_at_mem h
  rw [h2]
  exact of_decide_eq_true (List.all_eq_true.mp kl_in_13 q h1)
set_option maxRecDepth 100000 in
theorem kl_in_14 : (kl_14.all fun q => decide (ev_at kl_law q.1 = some q)) = true := by decide +kernel
theorem kl_at_14 {pc : Nat} {q : ev_I} (h : ev_at kl_14 pc = some q) : ev_at kl_law pc = some q := by
  obtain ⟨h1, h2⟩ := ev_at_mem h
  rw [h2]
  exact of_decide_eq_true (List.all_eq_true.mp kl_in_14 q h1)
set_option maxRecDepth 100000 in
theorem kl_in_15 : (kl_15.all fun q => decide (ev_at kl_law q.1 = some q)) = true := by decide +kernel
theorem kl_at_15 {pc : Nat} {q : ev_I} (h : ev_at kl_15 pc = some q) : ev_at kl_law pc = some q := by
  obtain ⟨h1, h2⟩ := ev_at_mem h
  rw [h2]
  exact of_decide_eq_true (List.all_eq_true.mp kl_in_15 q h1)
