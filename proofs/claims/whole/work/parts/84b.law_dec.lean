theorem dL_law_17 : decode cL_law 17 = .ok (.newarray .long, 2) := by decide +kernel
theorem dL_law_40 : decode cL_law 40 = .ok (.tableswitch 4387 0 64 #[276, 320, 364, 432, 500, 568, 636, 704, 760, 828, 896, 964, 1055, 1191, 1327, 1451, 1575, 1643, 1723, 1810, 1902, 1958, 1971, 1984, 2028, 2084, 2140, 2153, 2166, 2241, 2316, 2391, 2466, 2479, 2504, 2560, 2616, 2672, 2735, 2791, 2847, 2922, 2990, 3058, 3126, 3201, 3276, 3363, 3450, 3518, 3598, 3678, 3765, 3833, 3901, 3976, 3989, 4030, 4043, 4056, 4112, 4168, 4231, 4275, 4331], 276) := by decide +kernel
theorem dL_law_4427 : decode cL_law 4427 = .ok (.iinc 4 6, 3) := by decide +kernel
def dLt_0 : List (Nat × (Instr × Nat)) := [(0, (.new 8, 3)), (3, (.dup, 1)), (4, (.invokespecial 191, 3)), (7, (.astore_n 1, 1)), (8, (.new 192, 3)), (11, (.dup, 1)), (12, (.invokespecial 194, 3)), (15, (.astore_n 2, 1)), (16, (.iconst 1, 1))]
set_option maxRecDepth 100000 in
theorem dLc_0 : ldg (cL_law.data.toList.drop 0) 0 0 dLt_0 = true := by decide +kernel
theorem dL_law_0 : decode cL_law 0 = .ok (.new 8, 3) := dLx dLc_0 (i := 0) (q := (0, (.new 8, 3))) rfl
theorem dL_law_3 : decode cL_law 3 = .ok (.dup, 1) := dLx dLc_0 (i := 1) (q := (3, (.dup, 1))) rfl
theorem dL_law_4 : decode cL_law 4 = .ok (.invokespecial 191, 3) := dLx dLc_0 (i := 2) (q := (4, (.invokespecial 191, 3))) rfl
theorem dL_law_7 : decode cL_law 7 = .ok (.astore_n 1, 1) := dLx dLc_0 (i := 3) (q := (7, (.astore_n 1, 1))) rfl
theorem dL_law_8 : decode cL_law 8 = .ok (.new 192, 3) := dLx dLc_0 (i := 4) (q := (8, (.new 192, 3))) rfl
theorem dL_law_11 : decode cL_law 11 = .ok (.dup, 1) := dLx dLc_0 (i := 5) (q := (11, (.dup, 1))) rfl
theorem dL_law_12 : decode cL_law 12 = .ok (.invokespecial 194, 3) := dLx dLc_0 (i := 6) (q := (12, (.invokespecial 194, 3))) rfl
theorem dL_law_15 : decode cL_law 15 = .ok (.astore_n 2, 1) := dLx dLc_0 (i := 7) (q := (15, (.astore_n 2, 1))) rfl
theorem dL_law_16 : decode cL_law 16 = .ok (.iconst 1, 1) := dLx dLc_0 (i := 8) (q := (16, (.iconst 1, 1))) rfl
def dLt_1 : List (Nat × (Instr × Nat)) := [(19, (.astore_n 3, 1)), (20, (.iconst 0, 1)), (21, (.istore 4, 2)), (23, (.iload 4, 2)), (25, (.aload_n 0, 1)), (26, (.arraylength, 1)), (27, (.bipush 6, 2)), (29, (.isub, 1)), (30, (.if_icmp .gt 4403, 3)), (33, (.aload_n 0, 1)), (34, (.iload 4, 2)), (36, (.iaload, 1)), (37, (.bipush 127, 2)), (39, (.iand, 1))]
set_option maxRecDepth 100000 in
theorem dLc_1 : ldg (cL_law.data.toList.drop 19) 0 19 dLt_1 = true := by decide +kernel
theorem dL_law_19 : decode cL_law 19 = .ok (.astore_n 3, 1) := dLx dLc_1 (i := 0) (q := (19, (.astore_n 3, 1))) rfl
theorem dL_law_20 : decode cL_law 20 = .ok (.iconst 0, 1) := dLx dLc_1 (i := 1) (q := (20, (.iconst 0, 1))) rfl
theorem dL_law_21 : decode cL_law 21 = .ok (.istore 4, 2) := dLx dLc_1 (i := 2) (q := (21, (.istore 4, 2))) rfl
theorem dL_law_23 : decode cL_law 23 = .ok (.iload 4, 2) := dLx dLc_1 (i := 3) (q := (23, (.iload 4, 2))) rfl
theorem dL_law_25 : decode cL_law 25 = .ok (.aload_n 0, 1) := dLx dLc_1 (i := 4) (q := (25, (.aload_n 0, 1))) rfl
theorem dL_law_26 : decode cL_law 26 = .ok (.arraylength, 1) := dLx dLc_1 (i := 5) (q := (26, (.arraylength, 1))) rfl
theorem dL_law_27 : decode cL_law 27 = .ok (.bipush 6, 2) := dLx dLc_1 (i := 6) (q := (27, (.bipush 6, 2))) rfl
theorem dL_law_29 : decode cL_law 29 = .ok (.isub, 1) := dLx dLc_1 (i := 7) (q := (29, (.isub, 1))) rfl
theorem dL_law_30 : decode cL_law 30 = .ok (.if_icmp .gt 4403, 3) := dLx dLc_1 (i := 8) (q := (30, (.if_icmp .gt 4403, 3))) rfl
theorem dL_law_33 : decode cL_law 33 = .ok (.aload_n 0, 1) := dLx dLc_1 (i := 9) (q := (33, (.aload_n 0, 1))) rfl
theorem dL_law_34 : decode cL_law 34 = .ok (.iload 4, 2) := dLx dLc_1 (i := 10) (q := (34, (.iload 4, 2))) rfl
theorem dL_law_36 : decode cL_law 36 = .ok (.iaload, 1) := dLx dLc_1 (i := 11) (q := (36, (.iaload, 1))) rfl
theorem dL_law_37 : decode cL_law 37 = .ok (.bipush 127, 2) := dLx dLc_1 (i := 12) (q := (37, (.bipush 127, 2))) rfl
theorem dL_law_39 : decode cL_law 39 = .ok (.iand, 1) := dLx dLc_1 (i := 13) (q := (39, (.iand, 1))) rfl
def dLt_2 : List (Nat × (Instr × Nat)) := [(316, (.aload_n 1, 1)), (317, (.aload_n 3, 1)), (318, (.invokestatic 195, 3)), (321, (.istore 5, 2)), (323, (.aload_n 2, 1)), (324, (.invokevirtual 200, 3)), (327, (.istore 6, 2)), (329, (.aload_n 2, 1)), (330, (.invokevirtual 201, 3)), (333, (.iload 5, 2)), (335, (.if_icmp .eq 5, 3)), (338, (.iconst 0, 1)), (339, (.ireturn, 1)), (340, (.iload 5, 2)), (342, (.ifCond .ne 15, 3)), (345, (.aload_n 3, 1)), (346, (.iconst 0, 1)), (347, (.laload, 1)), (348, (.iload 6, 2)), (350, (.i2l, 1)), (351, (.lcmp, 1)), (352, (.ifCond .eq 5, 3)), (355, (.iconst 0, 1)), (356, (.ireturn, 1)), (357, (.goto 4070, 3)), (360, (.aload_n 1, 1)), (361, (.aload_n 3, 1)), (362, (.invokestatic 204, 3)), (365, (.istore 5, 2)), (367, (.aload_n 2, 1)), (368, (.invokevirtual 206, 3)), (371, (.istore 6, 2)), (373, (.aload_n 2, 1)), (374, (.invokevirtual 201, 3)), (377, (.iload 5, 2)), (379, (.if_icmp .eq 5, 3)), (382, (.iconst 0, 1)), (383, (.ireturn, 1)), (384, (.iload 5, 2)), (386, (.ifCond .ne 15, 3)), (389, (.aload_n 3, 1)), (390, (.iconst 0, 1)), (391, (.laload, 1)), (392, (.iload 6, 2)), (394, (.i2l, 1)), (395, (.lcmp, 1)), (396, (.ifCond .eq 5, 3)), (399, (.iconst 0, 1)), (400, (.ireturn, 1)), (401, (.goto 4026, 3)), (404, (.aload_n 1, 1)), (405, (.aload_n 0, 1)), (406, (.iload 4, 2)), (408, (.iconst 1, 1)), (409, (.iadd, 1)), (410, (.iaload, 1)), (411, (.aload_n 0, 1)), (412, (.iload 4, 2)), (414, (.iconst 2, 1)), (415, (.iadd, 1)), (416, (.iaload, 1)), (417, (.aload_n 3, 1)), (418, (.invokestatic 207, 3)), (421, (.istore 5, 2)), (423, (.aload_n 2, 1)), (424, (.aload_n 0, 1)), (425, (.iload 4, 2)), (427, (.iconst 1, 1)), (428, (.iadd, 1)), (429, (.iaload, 1)), (430, (.aload_n 0, 1)), (431, (.iload 4, 2)), (433, (.iconst 2, 1)), (434, (.iadd, 1)), (435, (.iaload, 1)), (436, (.invokevirtual 210, 3)), (439, (.istore 6, 2)), (441, (.aload_n 2, 1)), (442, (.invokevirtual 201, 3)), (445, (.iload 5, 2)), (447, (.if_icmp .eq 5, 3)), (450, (.iconst 0, 1)), (451, (.ireturn, 1)), (452, (.iload 5, 2)), (454, (.ifCond .ne 15, 3)), (457, (.aload_n 3, 1)), (458, (.iconst 0, 1)), (459, (.laload, 1)), (460, (.iload 6, 2)), (462, (.i2l, 1)), (463, (.lcmp, 1)), (464, (.ifCond .eq 5, 3)), (467, (.iconst 0, 1)), (468, (.ireturn, 1)), (469, (.goto 3958, 3)), (472, (.aload_n 1, 1)), (473, (.aload_n 0, 1)), (474, (.iload 4, 2)), (476, (.iconst 1, 1)), (477, (.iadd, 1)), (478, (.iaload, 1)), (479, (.aload_n 0, 1)), (480, (.iload 4, 2)), (482, (.iconst 2, 1)), (483, (.iadd, 1)), (484, (.iaload, 1)), (485, (.aload_n 3, 1)), (486, (.invokestatic 211, 3)), (489, (.istore 5, 2)), (491, (.aload_n 2, 1)), (492, (.aload_n 0, 1)), (493, (.iload 4, 2)), (495, (.iconst 1, 1)), (496, (.iadd, 1)), (497, (.iaload, 1)), (498, (.aload_n 0, 1)), (499, (.iload 4, 2)), (501, (.iconst 2, 1)), (502, (.iadd, 1)), (503, (.iaload, 1)), (504, (.invokevirtual 213, 3)), (507, (.istore 6, 2)), (509, (.aload_n 2, 1)), (510, (.invokevirtual 201, 3)), (513, (.iload 5, 2)), (515, (.if_icmp .eq 5, 3)), (518, (.iconst 0, 1)), (519, (.ireturn, 1)), (520, (.iload 5, 2)), (522, (.ifCond .ne 15, 3)), (525, (.aload_n 3, 1)), (526, (.iconst 0, 1)), (527, (.laload, 1)), (528, (.iload 6, 2)), (530, (.i2l, 1)), (531, (.lcmp, 1)), (532, (.ifCond .eq 5, 3)), (535, (.iconst 0, 1)), (536, (.ireturn, 1)), (537, (.goto 3890, 3)), (540, (.aload_n 1, 1)), (541, (.aload_n 0, 1)), (542, (.iload 4, 2)), (544, (.iconst 1, 1)), (545, (.iadd, 1)), (546, (.iaload, 1)), (547, (.aload_n 0, 1)), (548, (.iload 4, 2)), (550, (.iconst 2, 1)), (551, (.iadd, 1)), (552, (.iaload, 1)), (553, (.aload_n 3, 1)), (554, (.invokestatic 214, 3)), (557, (.istore 5, 2)), (559, (.aload_n 2, 1)), (560, (.aload_n 0, 1)), (561, (.iload 4, 2)), (563, (.iconst 1, 1)), (564, (.iadd, 1)), (565, (.iaload, 1)), (566, (.aload_n 0, 1)), (567, (.iload 4, 2)), (569, (.iconst 2, 1)), (570, (.iadd, 1)), (571, (.iaload, 1)), (572, (.invokevirtual 216, 3)), (575, (.istore 6, 2)), (577, (.aload_n 2, 1)), (578, (.invokevirtual 201, 3)), (581, (.iload 5, 2)), (583, (.if_icmp .eq 5, 3)), (586, (.iconst 0, 1)), (587, (.ireturn, 1)), (588, (.iload 5, 2)), (590, (.ifCond .ne 15, 3)), (593, (.aload_n 3, 1)), (594, (.iconst 0, 1)), (595, (.laload, 1)), (596, (.iload 6, 2)), (598, (.i2l, 1)), (599, (.lcmp, 1)), (600, (.ifCond .eq 5, 3)), (603, (.iconst 0, 1)), (604, (.ireturn, 1)), (605, (.goto 3822, 3)), (608, (.aload_n 1, 1)), (609, (.aload_n 0, 1)), (610, (.iload 4, 2)), (612, (.iconst 1, 1)), (613, (.iadd, 1)), (614, (.iaload, 1)), (615, (.aload_n 0, 1)), (616, (.iload 4, 2)), (618, (.iconst 2, 1)), (619, (.iadd, 1)), (620, (.iaload, 1)), (621, (.aload_n 3, 1)), (622, (.invokestatic 217, 3)), (625, (.istore 5, 2)), (627, (.aload_n 2, 1)), (628, (.aload_n 0, 1)), (629, (.iload 4, 2)), (631, (.iconst 1, 1)), (632, (.iadd, 1)), (633, (.iaload, 1)), (634, (.aload_n 0, 1)), (635, (.iload 4, 2)), (637, (.iconst 2, 1)), (638, (.iadd, 1)), (639, (.iaload, 1)), (640, (.invokevirtual 219, 3)), (643, (.istore 6, 2)), (645, (.aload_n 2, 1)), (646, (.invokevirtual 201, 3)), (649, (.iload 5, 2)), (651, (.if_icmp .eq 5, 3)), (654, (.iconst 0, 1)), (655, (.ireturn, 1)), (656, (.iload 5, 2)), (658, (.ifCond .ne 15, 3)), (661, (.aload_n 3, 1)), (662, (.iconst 0, 1)), (663, (.laload, 1)), (664, (.iload 6, 2)), (666, (.i2l, 1)), (667, (.lcmp, 1)), (668, (.ifCond .eq 5, 3)), (671, (.iconst 0, 1)), (672, (.ireturn, 1)), (673, (.goto 3754, 3)), (676, (.aload_n 1, 1)), (677, (.aload_n 0, 1)), (678, (.iload 4, 2)), (680, (.iconst 1, 1)), (681, (.iadd, 1)), (682, (.iaload, 1)), (683, (.aload_n 0, 1)), (684, (.iload 4, 2)), (686, (.iconst 2, 1)), (687, (.iadd, 1)), (688, (.iaload, 1)), (689, (.aload_n 3, 1)), (690, (.invokestatic 220, 3)), (693, (.istore 5, 2)), (695, (.aload_n 2, 1)), (696, (.aload_n 0, 1)), (697, (.iload 4, 2)), (699, (.iconst 1, 1)), (700, (.iadd, 1)), (701, (.iaload, 1)), (702, (.aload_n 0, 1)), (703, (.iload 4, 2)), (705, (.iconst 2, 1)), (706, (.iadd, 1)), (707, (.iaload, 1)), (708, (.invokevirtual 222, 3)), (711, (.istore 6, 2)), (713, (.aload_n 2, 1)), (714, (.invokevirtual 201, 3)), (717, (.iload 5, 2)), (719, (.if_icmp .eq 5, 3)), (722, (.iconst 0, 1)), (723, (.ireturn, 1)), (724, (.iload 5, 2)), (726, (.ifCond .ne 15, 3)), (729, (.aload_n 3, 1)), (730, (.iconst 0, 1)), (731, (.laload, 1)), (732, (.iload 6, 2)), (734, (.i2l, 1)), (735, (.lcmp, 1)), (736, (.ifCond .eq 5, 3)), (739, (.iconst 0, 1)), (740, (.ireturn, 1)), (741, (.goto 3686, 3)), (744, (.aload_n 1, 1)), (745, (.aload_n 0, 1)), (746, (.iload 4, 2)), (748, (.iconst 1, 1)), (749, (.iadd, 1)), (750, (.iaload, 1)), (751, (.aload_n 3, 1)), (752, (.invokestatic 223, 3)), (755, (.istore 5, 2)), (757, (.aload_n 2, 1)), (758, (.aload_n 0, 1)), (759, (.iload 4, 2)), (761, (.iconst 1, 1)), (762, (.iadd, 1)), (763, (.iaload, 1)), (764, (.invokevirtual 226, 3)), (767, (.istore 6, 2)), (769, (.aload_n 2, 1)), (770, (.invokevirtual 201, 3)), (773, (.iload 5, 2)), (775, (.if_icmp .eq 5, 3)), (778, (.iconst 0, 1)), (779, (.ireturn, 1)), (780, (.iload 5, 2)), (782, (.ifCond .ne 15, 3))]
set_option maxRecDepth 100000 in
theorem dLc_2 : ldg (cL_law.data.toList.drop 316) 0 316 dLt_2 = true := by decide +kernel
theorem dL_law_316 : decode cL_law 316 = .ok (.aload_n 1, 1) := dLx dLc_2 (i := 0) (q := (316, (.aload_n 1, 1))) rfl
theorem dL_law_317 : decode cL_law 317 = .ok (.aload_n 3, 1) := dLx dLc_2 (i := 1) (q := (317, (.aload_n 3, 1))) rfl
theorem dL_law_318 : decode cL_law 318 = .ok (.invokestatic 195, 3) := dLx dLc_2 (i := 2) (q := (318, (.invokestatic 195, 3))) rfl
theorem dL_law_321 : decode cL_law 321 = .ok (.istore 5, 2) := dLx dLc_2 (i := 3) (q := (321, (.istore 5, 2))) rfl
theorem dL_law_323 : decode cL_law 323 = .ok (.aload_n 2, 1) := dLx dLc_2 (i := 4) (q := (323, (.aload_n 2, 1))) rfl
theorem dL_law_324 : decode cL_law 324 = .ok (.invokevirtual 200, 3) := dLx dLc_2 (i := 5) (q := (324, (.invokevirtual 200, 3))) rfl
theorem dL_law_327 : decode cL_law 327 = .ok (.istore 6, 2) := dLx dLc_2 (i := 6) (q := (327, (.istore 6, 2))) rfl
theorem dL_law_329 : decode cL_law 329 = .ok (.aload_n 2, 1) := dLx dLc_2 (i := 7) (q := (329, (.aload_n 2, 1))) rfl
theorem dL_law_330 : decode cL_law 330 = .ok (.invokevirtual 201, 3) := dLx dLc_2 (i := 8) (q := (330, (.invokevirtual 201, 3))) rfl
theorem dL_law_333 : decode cL_law 333 = .ok (.iload 5, 2) := dLx dLc_2 (i := 9) (q := (333, (.iload 5, 2))) rfl
theorem dL_law_335 : decode cL_law 335 = .ok (.if_icmp .eq 5, 3) := dLx dLc_2 (i := 10) (q := (335, (.if_icmp .eq 5, 3))) rfl
theorem dL_law_338 : decode cL_law 338 = .ok (.iconst 0, 1) := dLx dLc_2 (i := 11) (q := (338, (.iconst 0, 1))) rfl
theorem dL_law_339 : decode cL_law 339 = .ok (.ireturn, 1) := dLx dLc_2 (i := 12) (q := (339, (.ireturn, 1))) rfl
theorem dL_law_340 : decode cL_law 340 = .ok (.iload 5, 2) := dLx dLc_2 (i := 13) (q := (340, (.iload 5, 2))) rfl
theorem dL_law_342 : decode cL_law 342 = .ok (.ifCond .ne 15, 3) := dLx dLc_2 (i := 14) (q := (342, (.ifCond .ne 15, 3))) rfl
theorem dL_law_345 : decode cL_law 345 = .ok (.aload_n 3, 1) := dLx dLc_2 (i := 15) (q := (345, (.aload_n 3, 1))) rfl
theorem dL_law_346 : decode cL_law 346 = .ok (.iconst 0, 1) := dLx dLc_2 (i := 16) (q := (346, (.iconst 0, 1))) rfl
theorem dL_law_347 : decode cL_law 347 = .ok (.laload, 1) := dLx dLc_2 (i := 17) (q := (347, (.laload, 1))) rfl
theorem dL_law_348 : decode cL_law 348 = .ok (.iload 6, 2) := dLx dLc_2 (i := 18) (q := (348, (.iload 6, 2))) rfl
theorem dL_law_350 : decode cL_law 350 = .ok (.i2l, 1) := dLx dLc_2 (i := 19) (q := (350, (.i2l, 1))) rfl
theorem dL_law_351 : decode cL_law 351 = .ok (.lcmp, 1) := dLx dLc_2 (i := 20) (q := (351, (.lcmp, 1))) rfl
theorem dL_law_352 : decode cL_law 352 = .ok (.ifCond .eq 5, 3) := dLx dLc_2 (i := 21) (q := (352, (.ifCond .eq 5, 3))) rfl
theorem dL_law_355 : decode cL_law 355 = .ok (.iconst 0, 1) := dLx dLc_2 (i := 22) (q := (355, (.iconst 0, 1))) rfl
theorem dL_law_356 : decode cL_law 356 = .ok (.ireturn, 1) := dLx dLc_2 (i := 23) (q := (356, (.ireturn, 1))) rfl
theorem dL_law_357 : decode cL_law 357 = .ok (.goto 4070, 3) := dLx dLc_2 (i := 24) (q := (357, (.goto 4070, 3))) rfl
theorem dL_law_360 : decode cL_law 360 = .ok (.aload_n 1, 1) := dLx dLc_2 (i := 25) (q := (360, (.aload_n 1, 1))) rfl
theorem dL_law_361 : decode cL_law 361 = .ok (.aload_n 3, 1) := dLx dLc_2 (i := 26) (q := (361, (.aload_n 3, 1))) rfl
theorem dL_law_362 : decode cL_law 362 = .ok (.invokestatic 204, 3) := dLx dLc_2 (i := 27) (q := (362, (.invokestatic 204, 3))) rfl
theorem dL_law_365 : decode cL_law 365 = .ok (.istore 5, 2) := dLx dLc_2 (i := 28) (q := (365, (.istore 5, 2))) rfl
theorem dL_law_367 : decode cL_law 367 = .ok (.aload_n 2, 1) := dLx dLc_2 (i := 29) (q := (367, (.aload_n 2, 1))) rfl
theorem dL_law_368 : decode cL_law 368 = .ok (.invokevirtual 206, 3) := dLx dLc_2 (i := 30) (q := (368, (.invokevirtual 206, 3))) rfl
theorem dL_law_371 : decode cL_law 371 = .ok (.istore 6, 2) := dLx dLc_2 (i := 31) (q := (371, (.istore 6, 2))) rfl
theorem dL_law_373 : decode cL_law 373 = .ok (.aload_n 2, 1) := dLx dLc_2 (i := 32) (q := (373, (.aload_n 2, 1))) rfl
theorem dL_law_374 : decode cL_law 374 = .ok (.invokevirtual 201, 3) := dLx dLc_2 (i := 33) (q := (374, (.invokevirtual 201, 3))) rfl
theorem dL_law_377 : decode cL_law 377 = .ok (.iload 5, 2) := dLx dLc_2 (i := 34) (q := (377, (.iload 5, 2))) rfl
theorem dL_law_379 : decode cL_law 379 = .ok (.if_icmp .eq 5, 3) := dLx dLc_2 (i := 35) (q := (379, (.if_icmp .eq 5, 3))) rfl
theorem dL_law_382 : decode cL_law 382 = .ok (.iconst 0, 1) := dLx dLc_2 (i := 36) (q := (382, (.iconst 0, 1))) rfl
theorem dL_law_383 : decode cL_law 383 = .ok (.ireturn, 1) := dLx dLc_2 (i := 37) (q := (383, (.ireturn, 1))) rfl
theorem dL_law_384 : decode cL_law 384 = .ok (.iload 5, 2) := dLx dLc_2 (i := 38) (q := (384, (.iload 5, 2))) rfl
theorem dL_law_386 : decode cL_law 386 = .ok (.ifCond .ne 15, 3) := dLx dLc_2 (i := 39) (q := (386, (.ifCond .ne 15, 3))) rfl
theorem dL_law_389 : decode cL_law 389 = .ok (.aload_n 3, 1) := dLx dLc_2 (i := 40) (q := (389, (.aload_n 3, 1))) rfl
theorem dL_law_390 : decode cL_law 390 = .ok (.iconst 0, 1) := dLx dLc_2 (i := 41) (q := (390, (.iconst 0, 1))) rfl
theorem dL_law_391 : decode cL_law 391 = .ok (.laload, 1) := dLx dLc_2 (i := 42) (q := (391, (.laload, 1))) rfl
theorem dL_law_392 : decode cL_law 392 = .ok (.iload 6, 2) := dLx dLc_2 (i := 43) (q := (392, (.iload 6, 2))) rfl
theorem dL_law_394 : decode cL_law 394 = .ok (.i2l, 1) := dLx dLc_2 (i := 44) (q := (394, (.i2l, 1))) rfl
theorem dL_law_395 : decode cL_law 395 = .ok (.lcmp, 1) := dLx dLc_2 (i := 45) (q := (395, (.lcmp, 1))) rfl
theorem dL_law_396 : decode cL_law 396 = .ok (.ifCond .eq 5, 3) := dLx dLc_2 (i := 46) (q := (396, (.ifCond .eq 5, 3))) rfl
theorem dL_law_399 : decode cL_law 399 = .ok (.iconst 0, 1) := dLx dLc_2 (i := 47) (q := (399, (.iconst 0, 1))) rfl
theorem dL_law_400 : decode cL_law 400 = .ok (.ireturn, 1) := dLx dLc_2 (i := 48) (q := (400, (.ireturn, 1))) rfl
theorem dL_law_401 : decode cL_law 401 = .ok (.goto 4026, 3) := dLx dLc_2 (i := 49) (q := (401, (.goto 4026, 3))) rfl
theorem dL_law_404 : decode cL_law 404 = .ok (.aload_n 1, 1) := dLx dLc_2 (i := 50) (q := (404, (.aload_n 1, 1))) rfl
theorem dL_law_405 : decode cL_law 405 = .ok (.aload_n 0, 1) := dLx dLc_2 (i := 51) (q := (405, (.aload_n 0, 1))) rfl
theorem dL_law_406 : decode cL_law 406 = .ok (.iload 4, 2) := dLx dLc_2 (i := 52) (q := (406, (.iload 4, 2))) rfl
theorem dL_law_408 : decode cL_law 408 = .ok (.iconst 1, 1) := dLx dLc_2 (i := 53) (q := (408, (.iconst 1, 1))) rfl
theorem dL_law_409 : decode cL_law 409 = .ok (.iadd, 1) := dLx dLc_2 (i := 54) (q := (409, (.iadd, 1))) rfl
theorem dL_law_410 : decode cL_law 410 = .ok (.iaload, 1) := dLx dLc_2 (i := 55) (q := (410, (.iaload, 1))) rfl
theorem dL_law_411 : decode cL_law 411 = .ok (.aload_n 0, 1) := dLx dLc_2 (i := 56) (q := (411, (.aload_n 0, 1))) rfl
theorem dL_law_412 : decode cL_law 412 = .ok (.iload 4, 2) := dLx dLc_2 (i := 57) (q := (412, (.iload 4, 2))) rfl
theorem dL_law_414 : decode cL_law 414 = .ok (.iconst 2, 1) := dLx dLc_2 (i := 58) (q := (414, (.iconst 2, 1))) rfl
theorem dL_law_415 : decode cL_law 415 = .ok (.iadd, 1) := dLx dLc_2 (i := 59) (q := (415, (.iadd, 1))) rfl
theorem dL_law_416 : decode cL_law 416 = .ok (.iaload, 1) := dLx dLc_2 (i := 60) (q := (416, (.iaload, 1))) rfl
theorem dL_law_417 : decode cL_law 417 = .ok (.aload_n 3, 1) := dLx dLc_2 (i := 61) (q := (417, (.aload_n 3, 1))) rfl
theorem dL_law_418 : decode cL_law 418 = .ok (.invokestatic 207, 3) := dLx dLc_2 (i := 62) (q := (418, (.invokestatic 207, 3))) rfl
theorem dL_law_421 : decode cL_law 421 = .ok (.istore 5, 2) := dLx dLc_2 (i := 63) (q := (421, (.istore 5, 2))) rfl
theorem dL_law_423 : decode cL_law 423 = .ok (.aload_n 2, 1) := dLx dLc_2 (i := 64) (q := (423, (.aload_n 2, 1))) rfl
theorem dL_law_424 : decode cL_law 424 = .ok (.aload_n 0, 1) := dLx dLc_2 (i := 65) (q := (424, (.aload_n 0, 1))) rfl
theorem dL_law_425 : decode cL_law 425 = .ok (.iload 4, 2) := dLx dLc_2 (i := 66) (q := (425, (.iload 4, 2))) rfl
theorem dL_law_427 : decode cL_law 427 = .ok (.iconst 1, 1) := dLx dLc_2 (i := 67) (q := (427, (.iconst 1, 1))) rfl
theorem dL_law_428 : decode cL_law 428 = .ok (.iadd, 1) := dLx dLc_2 (i := 68) (q := (428, (.iadd, 1))) rfl
theorem dL_law_429 : decode cL_law 429 = .ok (.iaload, 1) := dLx dLc_2 (i := 69) (q := (429, (.iaload, 1))) rfl
theorem dL_law_430 : decode cL_law 430 = .ok (.aload_n 0, 1) := dLx dLc_2 (i := 70) (q := (430, (.aload_n 0, 1))) rfl
theorem dL_law_431 : decode cL_law 431 = .ok (.iload 4, 2) := dLx dLc_2 (i := 71) (q := (431, (.iload 4, 2))) rfl
theorem dL_law_433 : decode cL_law 433 = .ok (.iconst 2, 1) := dLx dLc_2 (i := 72) (q := (433, (.iconst 2, 1))) rfl
theorem dL_law_434 : decode cL_law 434 = .ok (.iadd, 1) := dLx dLc_2 (i := 73) (q := (434, (.iadd, 1))) rfl
theorem dL_law_435 : decode cL_law 435 = .ok (.iaload, 1) := dLx dLc_2 (i := 74) (q := (435, (.iaload, 1))) rfl
theorem dL_law_436 : decode cL_law 436 = .ok (.invokevirtual 210, 3) := dLx dLc_2 (i := 75) (q := (436, (.invokevirtual 210, 3))) rfl
theorem dL_law_439 : decode cL_law 439 = .ok (.istore 6, 2) := dLx dLc_2 (i := 76) (q := (439, (.istore 6, 2))) rfl
theorem dL_law_441 : decode cL_law 441 = .ok (.aload_n 2, 1) := dLx dLc_2 (i := 77) (q := (441, (.aload_n 2, 1))) rfl
theorem dL_law_442 : decode cL_law 442 = .ok (.invokevirtual 201, 3) := dLx dLc_2 (i := 78) (q := (442, (.invokevirtual 201, 3))) rfl
theorem dL_law_445 : decode cL_law 445 = .ok (.iload 5, 2) := dLx dLc_2 (i := 79) (q := (445, (.iload 5, 2))) rfl
theorem dL_law_447 : decode cL_law 447 = .ok (.if_icmp .eq 5, 3) := dLx dLc_2 (i := 80) (q := (447, (.if_icmp .eq 5, 3))) rfl
theorem dL_law_450 : decode cL_law 450 = .ok (.iconst 0, 1) := dLx dLc_2 (i := 81) (q := (450, (.iconst 0, 1))) rfl
theorem dL_law_451 : decode cL_law 451 = .ok (.ireturn, 1) := dLx dLc_2 (i := 82) (q := (451, (.ireturn, 1))) rfl
theorem dL_law_452 : decode cL_law 452 = .ok (.iload 5, 2) := dLx dLc_2 (i := 83) (q := (452, (.iload 5, 2))) rfl
theorem dL_law_454 : decode cL_law 454 = .ok (.ifCond .ne 15, 3) := dLx dLc_2 (i := 84) (q := (454, (.ifCond .ne 15, 3))) rfl
theorem dL_law_457 : decode cL_law 457 = .ok (.aload_n 3, 1) := dLx dLc_2 (i := 85) (q := (457, (.aload_n 3, 1))) rfl
theorem dL_law_458 : decode cL_law 458 = .ok (.iconst 0, 1) := dLx dLc_2 (i := 86) (q := (458, (.iconst 0, 1))) rfl
theorem dL_law_459 : decode cL_law 459 = .ok (.laload, 1) := dLx dLc_2 (i := 87) (q := (459, (.laload, 1))) rfl
theorem dL_law_460 : decode cL_law 460 = .ok (.iload 6, 2) := dLx dLc_2 (i := 88) (q := (460, (.iload 6, 2))) rfl
theorem dL_law_462 : decode cL_law 462 = .ok (.i2l, 1) := dLx dLc_2 (i := 89) (q := (462, (.i2l, 1))) rfl
theorem dL_law_463 : decode cL_law 463 = .ok (.lcmp, 1) := dLx dLc_2 (i := 90) (q := (463, (.lcmp, 1))) rfl
theorem dL_law_464 : decode cL_law 464 = .ok (.ifCond .eq 5, 3) := dLx dLc_2 (i := 91) (q := (464, (.ifCond .eq 5, 3))) rfl
theorem dL_law_467 : decode cL_law 467 = .ok (.iconst 0, 1) := dLx dLc_2 (i := 92) (q := (467, (.iconst 0, 1))) rfl
theorem dL_law_468 : decode cL_law 468 = .ok (.ireturn, 1) := dLx dLc_2 (i := 93) (q := (468, (.ireturn, 1))) rfl
theorem dL_law_469 : decode cL_law 469 = .ok (.goto 3958, 3) := dLx dLc_2 (i := 94) (q := (469, (.goto 3958, 3))) rfl
theorem dL_law_472 : decode cL_law 472 = .ok (.aload_n 1, 1) := dLx dLc_2 (i := 95) (q := (472, (.aload_n 1, 1))) rfl
theorem dL_law_473 : decode cL_law 473 = .ok (.aload_n 0, 1) := dLx dLc_2 (i := 96) (q := (473, (.aload_n 0, 1))) rfl
theorem dL_law_474 : decode cL_law 474 = .ok (.iload 4, 2) := dLx dLc_2 (i := 97) (q := (474, (.iload 4, 2))) rfl
theorem dL_law_476 : decode cL_law 476 = .ok (.iconst 1, 1) := dLx dLc_2 (i := 98) (q := (476, (.iconst 1, 1))) rfl
theorem dL_law_477 : decode cL_law 477 = .ok (.iadd, 1) := dLx dLc_2 (i := 99) (q := (477, (.iadd, 1))) rfl
theorem dL_law_478 : decode cL_law 478 = .ok (.iaload, 1) := dLx dLc_2 (i := 100) (q := (478, (.iaload, 1))) rfl
theorem dL_law_479 : decode cL_law 479 = .ok (.aload_n 0, 1) := dLx dLc_2 (i := 101) (q := (479, (.aload_n 0, 1))) rfl
theorem dL_law_480 : decode cL_law 480 = .ok (.iload 4, 2) := dLx dLc_2 (i := 102) (q := (480, (.iload 4, 2))) rfl
theorem dL_law_482 : decode cL_law 482 = .ok (.iconst 2, 1) := dLx dLc_2 (i := 103) (q := (482, (.iconst 2, 1))) rfl
theorem dL_law_483 : decode cL_law 483 = .ok (.iadd, 1) := dLx dLc_2 (i := 104) (q := (483, (.iadd, 1))) rfl
theorem dL_law_484 : decode cL_law 484 = .ok (.iaload, 1) := dLx dLc_2 (i := 105) (q := (484, (.iaload, 1))) rfl
theorem dL_law_485 : decode cL_law 485 = .ok (.aload_n 3, 1) := dLx dLc_2 (i := 106) (q := (485, (.aload_n 3, 1))) rfl
theorem dL_law_486 : decode cL_law 486 = .ok (.invokestatic 211, 3) := dLx dLc_2 (i := 107) (q := (486, (.invokestatic 211, 3))) rfl
theorem dL_law_489 : decode cL_law 489 = .ok (.istore 5, 2) := dLx dLc_2 (i := 108) (q := (489, (.istore 5, 2))) rfl
theorem dL_law_491 : decode cL_law 491 = .ok (.aload_n 2, 1) := dLx dLc_2 (i := 109) (q := (491, (.aload_n 2, 1))) rfl
theorem dL_law_492 : decode cL_law 492 = .ok (.aload_n 0, 1) := dLx dLc_2 (i := 110) (q := (492, (.aload_n 0, 1))) rfl
theorem dL_law_493 : decode cL_law 493 = .ok (.iload 4, 2) := dLx dLc_2 (i := 111) (q := (493, (.iload 4, 2))) rfl
theorem dL_law_495 : decode cL_law 495 = .ok (.iconst 1, 1) := dLx dLc_2 (i := 112) (q := (495, (.iconst 1, 1))) rfl
theorem dL_law_496 : decode cL_law 496 = .ok (.iadd, 1) := dLx dLc_2 (i := 113) (q := (496, (.iadd, 1))) rfl
theorem dL_law_497 : decode cL_law 497 = .ok (.iaload, 1) := dLx dLc_2 (i := 114) (q := (497, (.iaload, 1))) rfl
theorem dL_law_498 : decode cL_law 498 = .ok (.aload_n 0, 1) := dLx dLc_2 (i := 115) (q := (498, (.aload_n 0, 1))) rfl
theorem dL_law_499 : decode cL_law 499 = .ok (.iload 4, 2) := dLx dLc_2 (i := 116) (q := (499, (.iload 4, 2))) rfl
theorem dL_law_501 : decode cL_law 501 = .ok (.iconst 2, 1) := dLx dLc_2 (i := 117) (q := (501, (.iconst 2, 1))) rfl
theorem dL_law_502 : decode cL_law 502 = .ok (.iadd, 1) := dLx dLc_2 (i := 118) (q := (502, (.iadd, 1))) rfl
theorem dL_law_503 : decode cL_law 503 = .ok (.iaload, 1) := dLx dLc_2 (i := 119) (q := (503, (.iaload, 1))) rfl
theorem dL_law_504 : decode cL_law 504 = .ok (.invokevirtual 213, 3) := dLx dLc_2 (i := 120) (q := (504, (.invokevirtual 213, 3))) rfl
theorem dL_law_507 : decode cL_law 507 = .ok (.istore 6, 2) := dLx dLc_2 (i := 121) (q := (507, (.istore 6, 2))) rfl
theorem dL_law_509 : decode cL_law 509 = .ok (.aload_n 2, 1) := dLx dLc_2 (i := 122) (q := (509, (.aload_n 2, 1))) rfl
theorem dL_law_510 : decode cL_law 510 = .ok (.invokevirtual 201, 3) := dLx dLc_2 (i := 123) (q := (510, (.invokevirtual 201, 3))) rfl
theorem dL_law_513 : decode cL_law 513 = .ok (.iload 5, 2) := dLx dLc_2 (i := 124) (q := (513, (.iload 5, 2))) rfl
theorem dL_law_515 : decode cL_law 515 = .ok (.if_icmp .eq 5, 3) := dLx dLc_2 (i := 125) (q := (515, (.if_icmp .eq 5, 3))) rfl
theorem dL_law_518 : decode cL_law 518 = .ok (.iconst 0, 1) := dLx dLc_2 (i := 126) (q := (518, (.iconst 0, 1))) rfl
theorem dL_law_519 : decode cL_law 519 = .ok (.ireturn, 1) := dLx dLc_2 (i := 127) (q := (519, (.ireturn, 1))) rfl
theorem dL_law_520 : decode cL_law 520 = .ok (.iload 5, 2) := dLx dLc_2 (i := 128) (q := (520, (.iload 5, 2))) rfl
theorem dL_law_522 : decode cL_law 522 = .ok (.ifCond .ne 15, 3) := dLx dLc_2 (i := 129) (q := (522, (.ifCond .ne 15, 3))) rfl
theorem dL_law_525 : decode cL_law 525 = .ok (.aload_n 3, 1) := dLx dLc_2 (i := 130) (q := (525, (.aload_n 3, 1))) rfl
theorem dL_law_526 : decode cL_law 526 = .ok (.iconst 0, 1) := dLx dLc_2 (i := 131) (q := (526, (.iconst 0, 1))) rfl
theorem dL_law_527 : decode cL_law 527 = .ok (.laload, 1) := dLx dLc_2 (i := 132) (q := (527, (.laload, 1))) rfl
theorem dL_law_528 : decode cL_law 528 = .ok (.iload 6, 2) := dLx dLc_2 (i := 133) (q := (528, (.iload 6, 2))) rfl
theorem dL_law_530 : decode cL_law 530 = .ok (.i2l, 1) := dLx dLc_2 (i := 134) (q := (530, (.i2l, 1))) rfl
theorem dL_law_531 : decode cL_law 531 = .ok (.lcmp, 1) := dLx dLc_2 (i := 135) (q := (531, (.lcmp, 1))) rfl
theorem dL_law_532 : decode cL_law 532 = .ok (.ifCond .eq 5, 3) := dLx dLc_2 (i := 136) (q := (532, (.ifCond .eq 5, 3))) rfl
theorem dL_law_535 : decode cL_law 535 = .ok (.iconst 0, 1) := dLx dLc_2 (i := 137) (q := (535, (.iconst 0, 1))) rfl
theorem dL_law_536 : decode cL_law 536 = .ok (.ireturn, 1) := dLx dLc_2 (i := 138) (q := (536, (.ireturn, 1))) rfl
theorem dL_law_537 : decode cL_law 537 = .ok (.goto 3890, 3) := dLx dLc_2 (i := 139) (q := (537, (.goto 3890, 3))) rfl
theorem dL_law_540 : decode cL_law 540 = .ok (.aload_n 1, 1) := dLx dLc_2 (i := 140) (q := (540, (.aload_n 1, 1))) rfl
theorem dL_law_541 : decode cL_law 541 = .ok (.aload_n 0, 1) := dLx dLc_2 (i := 141) (q := (541, (.aload_n 0, 1))) rfl
theorem dL_law_542 : decode cL_law 542 = .ok (.iload 4, 2) := dLx dLc_2 (i := 142) (q := (542, (.iload 4, 2))) rfl
theorem dL_law_544 : decode cL_law 544 = .ok (.iconst 1, 1) := dLx dLc_2 (i := 143) (q := (544, (.iconst 1, 1))) rfl
theorem dL_law_545 : decode cL_law 545 = .ok (.iadd, 1) := dLx dLc_2 (i := 144) (q := (545, (.iadd, 1))) rfl
theorem dL_law_546 : decode cL_law 546 = .ok (.iaload, 1) := dLx dLc_2 (i := 145) (q := (546, (.iaload, 1))) rfl
theorem dL_law_547 : decode cL_law 547 = .ok (.aload_n 0, 1) := dLx dLc_2 (i := 146) (q := (547, (.aload_n 0, 1))) rfl
theorem dL_law_548 : decode cL_law 548 = .ok (.iload 4, 2) := dLx dLc_2 (i := 147) (q := (548, (.iload 4, 2))) rfl
theorem dL_law_550 : decode cL_law 550 = .ok (.iconst 2, 1) := dLx dLc_2 (i := 148) (q := (550, (.iconst 2, 1))) rfl
theorem dL_law_551 : decode cL_law 551 = .ok (.iadd, 1) := dLx dLc_2 (i := 149) (q := (551, (.iadd, 1))) rfl
theorem dL_law_552 : decode cL_law 552 = .ok (.iaload, 1) := dLx dLc_2 (i := 150) (q := (552, (.iaload, 1))) rfl
theorem dL_law_553 : decode cL_law 553 = .ok (.aload_n 3, 1) := dLx dLc_2 (i := 151) (q := (553, (.aload_n 3, 1))) rfl
theorem dL_law_554 : decode cL_law 554 = .ok (.invokestatic 214, 3) := dLx dLc_2 (i := 152) (q := (554, (.invokestatic 214, 3))) rfl
theorem dL_law_557 : decode cL_law 557 = .ok (.istore 5, 2) := dLx dLc_2 (i := 153) (q := (557, (.istore 5, 2))) rfl
theorem dL_law_559 : decode cL_law 559 = .ok (.aload_n 2, 1) := dLx dLc_2 (i := 154) (q := (559, (.aload_n 2, 1))) rfl
theorem dL_law_560 : decode cL_law 560 = .ok (.aload_n 0, 1) := dLx dLc_2 (i := 155) (q := (560, (.aload_n 0, 1))) rfl
theorem dL_law_561 : decode cL_law 561 = .ok (.iload 4, 2) := dLx dLc_2 (i := 156) (q := (561, (.iload 4, 2))) rfl
theorem dL_law_563 : decode cL_law 563 = .ok (.iconst 1, 1) := dLx dLc_2 (i := 157) (q := (563, (.iconst 1, 1))) rfl
theorem dL_law_564 : decode cL_law 564 = .ok (.iadd, 1) := dLx dLc_2 (i := 158) (q := (564, (.iadd, 1))) rfl
theorem dL_law_565 : decode cL_law 565 = .ok (.iaload, 1) := dLx dLc_2 (i := 159) (q := (565, (.iaload, 1))) rfl
theorem dL_law_566 : decode cL_law 566 = .ok (.aload_n 0, 1) := dLx dLc_2 (i := 160) (q := (566, (.aload_n 0, 1))) rfl
theorem dL_law_567 : decode cL_law 567 = .ok (.iload 4, 2) := dLx dLc_2 (i := 161) (q := (567, (.iload 4, 2))) rfl
theorem dL_law_569 : decode cL_law 569 = .ok (.iconst 2, 1) := dLx dLc_2 (i := 162) (q := (569, (.iconst 2, 1))) rfl
theorem dL_law_570 : decode cL_law 570 = .ok (.iadd, 1) := dLx dLc_2 (i := 163) (q := (570, (.iadd, 1))) rfl
theorem dL_law_571 : decode cL_law 571 = .ok (.iaload, 1) := dLx dLc_2 (i := 164) (q := (571, (.iaload, 1))) rfl
theorem dL_law_572 : decode cL_law 572 = .ok (.invokevirtual 216, 3) := dLx dLc_2 (i := 165) (q := (572, (.invokevirtual 216, 3))) rfl
theorem dL_law_575 : decode cL_law 575 = .ok (.istore 6, 2) := dLx dLc_2 (i := 166) (q := (575, (.istore 6, 2))) rfl
theorem dL_law_577 : decode cL_law 577 = .ok (.aload_n 2, 1) := dLx dLc_2 (i := 167) (q := (577, (.aload_n 2, 1))) rfl
theorem dL_law_578 : decode cL_law 578 = .ok (.invokevirtual 201, 3) := dLx dLc_2 (i := 168) (q := (578, (.invokevirtual 201, 3))) rfl
theorem dL_law_581 : decode cL_law 581 = .ok (.iload 5, 2) := dLx dLc_2 (i := 169) (q := (581, (.iload 5, 2))) rfl
theorem dL_law_583 : decode cL_law 583 = .ok (.if_icmp .eq 5, 3) := dLx dLc_2 (i := 170) (q := (583, (.if_icmp .eq 5, 3))) rfl
theorem dL_law_586 : decode cL_law 586 = .ok (.iconst 0, 1) := dLx dLc_2 (i := 171) (q := (586, (.iconst 0, 1))) rfl
theorem dL_law_587 : decode cL_law 587 = .ok (.ireturn, 1) := dLx dLc_2 (i := 172) (q := (587, (.ireturn, 1))) rfl
theorem dL_law_588 : decode cL_law 588 = .ok (.iload 5, 2) := dLx dLc_2 (i := 173) (q := (588, (.iload 5, 2))) rfl
theorem dL_law_590 : decode cL_law 590 = .ok (.ifCond .ne 15, 3) := dLx dLc_2 (i := 174) (q := (590, (.ifCond .ne 15, 3))) rfl
theorem dL_law_593 : decode cL_law 593 = .ok (.aload_n 3, 1) := dLx dLc_2 (i := 175) (q := (593, (.aload_n 3, 1))) rfl
theorem dL_law_594 : decode cL_law 594 = .ok (.iconst 0, 1) := dLx dLc_2 (i := 176) (q := (594, (.iconst 0, 1))) rfl
theorem dL_law_595 : decode cL_law 595 = .ok (.laload, 1) := dLx dLc_2 (i := 177) (q := (595, (.laload, 1))) rfl
theorem dL_law_596 : decode cL_law 596 = .ok (.iload 6, 2) := dLx dLc_2 (i := 178) (q := (596, (.iload 6, 2))) rfl
theorem dL_law_598 : decode cL_law 598 = .ok (.i2l, 1) := dLx dLc_2 (i := 179) (q := (598, (.i2l, 1))) rfl
theorem dL_law_599 : decode cL_law 599 = .ok (.lcmp, 1) := dLx dLc_2 (i := 180) (q := (599, (.lcmp, 1))) rfl
theorem dL_law_600 : decode cL_law 600 = .ok (.ifCond .eq 5, 3) := dLx dLc_2 (i := 181) (q := (600, (.ifCond .eq 5, 3))) rfl
theorem dL_law_603 : decode cL_law 603 = .ok (.iconst 0, 1) := dLx dLc_2 (i := 182) (q := (603, (.iconst 0, 1))) rfl
theorem dL_law_604 : decode cL_law 604 = .ok (.ireturn, 1) := dLx dLc_2 (i := 183) (q := (604, (.ireturn, 1))) rfl
theorem dL_law_605 : decode cL_law 605 = .ok (.goto 3822, 3) := dLx dLc_2 (i := 184) (q := (605, (.goto 3822, 3))) rfl
theorem dL_law_608 : decode cL_law 608 = .ok (.aload_n 1, 1) := dLx dLc_2 (i := 185) (q := (608, (.aload_n 1, 1))) rfl
theorem dL_law_609 : decode cL_law 609 = .ok (.aload_n 0, 1) := dLx dLc_2 (i := 186) (q := (609, (.aload_n 0, 1))) rfl
theorem dL_law_610 : decode cL_law 610 = .ok (.iload 4, 2) := dLx dLc_2 (i := 187) (q := (610, (.iload 4, 2))) rfl
theorem dL_law_612 : decode cL_law 612 = .ok (.iconst 1, 1) := dLx dLc_2 (i := 188) (q := (612, (.iconst 1, 1))) rfl
theorem dL_law_613 : decode cL_law 613 = .ok (.iadd, 1) := dLx dLc_2 (i := 189) (q := (613, (.iadd, 1))) rfl
theorem dL_law_614 : decode cL_law 614 = .ok (.iaload, 1) := dLx dLc_2 (i := 190) (q := (614, (.iaload, 1))) rfl
theorem dL_law_615 : decode cL_law 615 = .ok (.aload_n 0, 1) := dLx dLc_2 (i := 191) (q := (615, (.aload_n 0, 1))) rfl
theorem dL_law_616 : decode cL_law 616 = .ok (.iload 4, 2) := dLx dLc_2 (i := 192) (q := (616, (.iload 4, 2))) rfl
theorem dL_law_618 : decode cL_law 618 = .ok (.iconst 2, 1) := dLx dLc_2 (i := 193) (q := (618, (.iconst 2, 1))) rfl
theorem dL_law_619 : decode cL_law 619 = .ok (.iadd, 1) := dLx dLc_2 (i := 194) (q := (619, (.iadd, 1))) rfl
theorem dL_law_620 : decode cL_law 620 = .ok (.iaload, 1) := dLx dLc_2 (i := 195) (q := (620, (.iaload, 1))) rfl
theorem dL_law_621 : decode cL_law 621 = .ok (.aload_n 3, 1) := dLx dLc_2 (i := 196) (q := (621, (.aload_n 3, 1))) rfl
theorem dL_law_622 : decode cL_law 622 = .ok (.invokestatic 217, 3) := dLx dLc_2 (i := 197) (q := (622, (.invokestatic 217, 3))) rfl
theorem dL_law_625 : decode cL_law 625 = .ok (.istore 5, 2) := dLx dLc_2 (i := 198) (q := (625, (.istore 5, 2))) rfl
theorem dL_law_627 : decode cL_law 627 = .ok (.aload_n 2, 1) := dLx dLc_2 (i := 199) (q := (627, (.aload_n 2, 1))) rfl
theorem dL_law_628 : decode cL_law 628 = .ok (.aload_n 0, 1) := dLx dLc_2 (i := 200) (q := (628, (.aload_n 0, 1))) rfl
theorem dL_law_629 : decode cL_law 629 = .ok (.iload 4, 2) := dLx dLc_2 (i := 201) (q := (629, (.iload 4, 2))) rfl
theorem dL_law_631 : decode cL_law 631 = .ok (.iconst 1, 1) := dLx dLc_2 (i := 202) (q := (631, (.iconst 1, 1))) rfl
theorem dL_law_632 : decode cL_law 632 = .ok (.iadd, 1) := dLx dLc_2 (i := 203) (q := (632, (.iadd, 1))) rfl
theorem dL_law_633 : decode cL_law 633 = .ok (.iaload, 1) := dLx dLc_2 (i := 204) (q := (633, (.iaload, 1))) rfl
theorem dL_law_634 : decode cL_law 634 = .ok (.aload_n 0, 1) := dLx dLc_2 (i := 205) (q := (634, (.aload_n 0, 1))) rfl
theorem dL_law_635 : decode cL_law 635 = .ok (.iload 4, 2) := dLx dLc_2 (i := 206) (q := (635, (.iload 4, 2))) rfl
theorem dL_law_637 : decode cL_law 637 = .ok (.iconst 2, 1) := dLx dLc_2 (i := 207) (q := (637, (.iconst 2, 1))) rfl
theorem dL_law_638 : decode cL_law 638 = .ok (.iadd, 1) := dLx dLc_2 (i := 208) (q := (638, (.iadd, 1))) rfl
theorem dL_law_639 : decode cL_law 639 = .ok (.iaload, 1) := dLx dLc_2 (i := 209) (q := (639, (.iaload, 1))) rfl
theorem dL_law_640 : decode cL_law 640 = .ok (.invokevirtual 219, 3) := dLx dLc_2 (i := 210) (q := (640, (.invokevirtual 219, 3))) rfl
theorem dL_law_643 : decode cL_law 643 = .ok (.istore 6, 2) := dLx dLc_2 (i := 211) (q := (643, (.istore 6, 2))) rfl
theorem dL_law_645 : decode cL_law 645 = .ok (.aload_n 2, 1) := dLx dLc_2 (i := 212) (q := (645, (.aload_n 2, 1))) rfl
theorem dL_law_646 : decode cL_law 646 = .ok (.invokevirtual 201, 3) := dLx dLc_2 (i := 213) (q := (646, (.invokevirtual 201, 3))) rfl
theorem dL_law_649 : decode cL_law 649 = .ok (.iload 5, 2) := dLx dLc_2 (i := 214) (q := (649, (.iload 5, 2))) rfl
theorem dL_law_651 : decode cL_law 651 = .ok (.if_icmp .eq 5, 3) := dLx dLc_2 (i := 215) (q := (651, (.if_icmp .eq 5, 3))) rfl
theorem dL_law_654 : decode cL_law 654 = .ok (.iconst 0, 1) := dLx dLc_2 (i := 216) (q := (654, (.iconst 0, 1))) rfl
theorem dL_law_655 : decode cL_law 655 = .ok (.ireturn, 1) := dLx dLc_2 (i := 217) (q := (655, (.ireturn, 1))) rfl
theorem dL_law_656 : decode cL_law 656 = .ok (.iload 5, 2) := dLx dLc_2 (i := 218) (q := (656, (.iload 5, 2))) rfl
theorem dL_law_658 : decode cL_law 658 = .ok (.ifCond .ne 15, 3) := dLx dLc_2 (i := 219) (q := (658, (.ifCond .ne 15, 3))) rfl
theorem dL_law_661 : decode cL_law 661 = .ok (.aload_n 3, 1) := dLx dLc_2 (i := 220) (q := (661, (.aload_n 3, 1))) rfl
theorem dL_law_662 : decode cL_law 662 = .ok (.iconst 0, 1) := dLx dLc_2 (i := 221) (q := (662, (.iconst 0, 1))) rfl
theorem dL_law_663 : decode cL_law 663 = .ok (.laload, 1) := dLx dLc_2 (i := 222) (q := (663, (.laload, 1))) rfl
theorem dL_law_664 : decode cL_law 664 = .ok (.iload 6, 2) := dLx dLc_2 (i := 223) (q := (664, (.iload 6, 2))) rfl
theorem dL_law_666 : decode cL_law 666 = .ok (.i2l, 1) := dLx dLc_2 (i := 224) (q := (666, (.i2l, 1))) rfl
theorem dL_law_667 : decode cL_law 667 = .ok (.lcmp, 1) := dLx dLc_2 (i := 225) (q := (667, (.lcmp, 1))) rfl
theorem dL_law_668 : decode cL_law 668 = .ok (.ifCond .eq 5, 3) := dLx dLc_2 (i := 226) (q := (668, (.ifCond .eq 5, 3))) rfl
theorem dL_law_671 : decode cL_law 671 = .ok (.iconst 0, 1) := dLx dLc_2 (i := 227) (q := (671, (.iconst 0, 1))) rfl
theorem dL_law_672 : decode cL_law 672 = .ok (.ireturn, 1) := dLx dLc_2 (i := 228) (q := (672, (.ireturn, 1))) rfl
theorem dL_law_673 : decode cL_law 673 = .ok (.goto 3754, 3) := dLx dLc_2 (i := 229) (q := (673, (.goto 3754, 3))) rfl
theorem dL_law_676 : decode cL_law 676 = .ok (.aload_n 1, 1) := dLx dLc_2 (i := 230) (q := (676, (.aload_n 1, 1))) rfl
theorem dL_law_677 : decode cL_law 677 = .ok (.aload_n 0, 1) := dLx dLc_2 (i := 231) (q := (677, (.aload_n 0, 1))) rfl
theorem dL_law_678 : decode cL_law 678 = .ok (.iload 4, 2) := dLx dLc_2 (i := 232) (q := (678, (.iload 4, 2))) rfl
theorem dL_law_680 : decode cL_law 680 = .ok (.iconst 1, 1) := dLx dLc_2 (i := 233) (q := (680, (.iconst 1, 1))) rfl
theorem dL_law_681 : decode cL_law 681 = .ok (.iadd, 1) := dLx dLc_2 (i := 234) (q := (681, (.iadd, 1))) rfl
theorem dL_law_682 : decode cL_law 682 = .ok (.iaload, 1) := dLx dLc_2 (i := 235) (q := (682, (.iaload, 1))) rfl
theorem dL_law_683 : decode cL_law 683 = .ok (.aload_n 0, 1) := dLx dLc_2 (i := 236) (q := (683, (.aload_n 0, 1))) rfl
theorem dL_law_684 : decode cL_law 684 = .ok (.iload 4, 2) := dLx dLc_2 (i := 237) (q := (684, (.iload 4, 2))) rfl
theorem dL_law_686 : decode cL_law 686 = .ok (.iconst 2, 1) := dLx dLc_2 (i := 238) (q := (686, (.iconst 2, 1))) rfl
theorem dL_law_687 : decode cL_law 687 = .ok (.iadd, 1) := dLx dLc_2 (i := 239) (q := (687, (.iadd, 1))) rfl
theorem dL_law_688 : decode cL_law 688 = .ok (.iaload, 1) := dLx dLc_2 (i := 240) (q := (688, (.iaload, 1))) rfl
theorem dL_law_689 : decode cL_law 689 = .ok (.aload_n 3, 1) := dLx dLc_2 (i := 241) (q := (689, (.aload_n 3, 1))) rfl
theorem dL_law_690 : decode cL_law 690 = .ok (.invokestatic 220, 3) := dLx dLc_2 (i := 242) (q := (690, (.invokestatic 220, 3))) rfl
theorem dL_law_693 : decode cL_law 693 = .ok (.istore 5, 2) := dLx dLc_2 (i := 243) (q := (693, (.istore 5, 2))) rfl
theorem dL_law_695 : decode cL_law 695 = .ok (.aload_n 2, 1) := dLx dLc_2 (i := 244) (q := (695, (.aload_n 2, 1))) rfl
theorem dL_law_696 : decode cL_law 696 = .ok (.aload_n 0, 1) := dLx dLc_2 (i := 245) (q := (696, (.aload_n 0, 1))) rfl
theorem dL_law_697 : decode cL_law 697 = .ok (.iload 4, 2) := dLx dLc_2 (i := 246) (q := (697, (.iload 4, 2))) rfl
theorem dL_law_699 : decode cL_law 699 = .ok (.iconst 1, 1) := dLx dLc_2 (i := 247) (q := (699, (.iconst 1, 1))) rfl
theorem dL_law_700 : decode cL_law 700 = .ok (.iadd, 1) := dLx dLc_2 (i := 248) (q := (700, (.iadd, 1))) rfl
theorem dL_law_701 : decode cL_law 701 = .ok (.iaload, 1) := dLx dLc_2 (i := 249) (q := (701, (.iaload, 1))) rfl
theorem dL_law_702 : decode cL_law 702 = .ok (.aload_n 0, 1) := dLx dLc_2 (i := 250) (q := (702, (.aload_n 0, 1))) rfl
theorem dL_law_703 : decode cL_law 703 = .ok (.iload 4, 2) := dLx dLc_2 (i := 251) (q := (703, (.iload 4, 2))) rfl
theorem dL_law_705 : decode cL_law 705 = .ok (.iconst 2, 1) := dLx dLc_2 (i := 252) (q := (705, (.iconst 2, 1))) rfl
theorem dL_law_706 : decode cL_law 706 = .ok (.iadd, 1) := dLx dLc_2 (i := 253) (q := (706, (.iadd, 1))) rfl
theorem dL_law_707 : decode cL_law 707 = .ok (.iaload, 1) := dLx dLc_2 (i := 254) (q := (707, (.iaload, 1))) rfl
theorem dL_law_708 : decode cL_law 708 = .ok (.invokevirtual 222, 3) := dLx dLc_2 (i := 255) (q := (708, (.invokevirtual 222, 3))) rfl
theorem dL_law_711 : decode cL_law 711 = .ok (.istore 6, 2) := dLx dLc_2 (i := 256) (q := (711, (.istore 6, 2))) rfl
theorem dL_law_713 : decode cL_law 713 = .ok (.aload_n 2, 1) := dLx dLc_2 (i := 257) (q := (713, (.aload_n 2, 1))) rfl
theorem dL_law_714 : decode cL_law 714 = .ok (.invokevirtual 201, 3) := dLx dLc_2 (i := 258) (q := (714, (.invokevirtual 201, 3))) rfl
theorem dL_law_717 : decode cL_law 717 = .ok (.iload 5, 2) := dLx dLc_2 (i := 259) (q := (717, (.iload 5, 2))) rfl
theorem dL_law_719 : decode cL_law 719 = .ok (.if_icmp .eq 5, 3) := dLx dLc_2 (i := 260) (q := (719, (.if_icmp .eq 5, 3))) rfl
theorem dL_law_722 : decode cL_law 722 = .ok (.iconst 0, 1) := dLx dLc_2 (i := 261) (q := (722, (.iconst 0, 1))) rfl
theorem dL_law_723 : decode cL_law 723 = .ok (.ireturn, 1) := dLx dLc_2 (i := 262) (q := (723, (.ireturn, 1))) rfl
theorem dL_law_724 : decode cL_law 724 = .ok (.iload 5, 2) := dLx dLc_2 (i := 263) (q := (724, (.iload 5, 2))) rfl
theorem dL_law_726 : decode cL_law 726 = .ok (.ifCond .ne 15, 3) := dLx dLc_2 (i := 264) (q := (726, (.ifCond .ne 15, 3))) rfl
theorem dL_law_729 : decode cL_law 729 = .ok (.aload_n 3, 1) := dLx dLc_2 (i := 265) (q := (729, (.aload_n 3, 1))) rfl
theorem dL_law_730 : decode cL_law 730 = .ok (.iconst 0, 1) := dLx dLc_2 (i := 266) (q := (730, (.iconst 0, 1))) rfl
theorem dL_law_731 : decode cL_law 731 = .ok (.laload, 1) := dLx dLc_2 (i := 267) (q := (731, (.laload, 1))) rfl
theorem dL_law_732 : decode cL_law 732 = .ok (.iload 6, 2) := dLx dLc_2 (i := 268) (q := (732, (.iload 6, 2))) rfl
theorem dL_law_734 : decode cL_law 734 = .ok (.i2l, 1) := dLx dLc_2 (i := 269) (q := (734, (.i2l, 1))) rfl
theorem dL_law_735 : decode cL_law 735 = .ok (.lcmp, 1) := dLx dLc_2 (i := 270) (q := (735, (.lcmp, 1))) rfl
theorem dL_law_736 : decode cL_law 736 = .ok (.ifCond .eq 5, 3) := dLx dLc_2 (i := 271) (q := (736, (.ifCond .eq 5, 3))) rfl
theorem dL_law_739 : decode cL_law 739 = .ok (.iconst 0, 1) := dLx dLc_2 (i := 272) (q := (739, (.iconst 0, 1))) rfl
theorem dL_law_740 : decode cL_law 740 = .ok (.ireturn, 1) := dLx dLc_2 (i := 273) (q := (740, (.ireturn, 1))) rfl
theorem dL_law_741 : decode cL_law 741 = .ok (.goto 3686, 3) := dLx dLc_2 (i := 274) (q := (741, (.goto 3686, 3))) rfl
theorem dL_law_744 : decode cL_law 744 = .ok (.aload_n 1, 1) := dLx dLc_2 (i := 275) (q := (744, (.aload_n 1, 1))) rfl
theorem dL_law_745 : decode cL_law 745 = .ok (.aload_n 0, 1) := dLx dLc_2 (i := 276) (q := (745, (.aload_n 0, 1))) rfl
theorem dL_law_746 : decode cL_law 746 = .ok (.iload 4, 2) := dLx dLc_2 (i := 277) (q := (746, (.iload 4, 2))) rfl
theorem dL_law_748 : decode cL_law 748 = .ok (.iconst 1, 1) := dLx dLc_2 (i := 278) (q := (748, (.iconst 1, 1))) rfl
theorem dL_law_749 : decode cL_law 749 = .ok (.iadd, 1) := dLx dLc_2 (i := 279) (q := (749, (.iadd, 1))) rfl
theorem dL_law_750 : decode cL_law 750 = .ok (.iaload, 1) := dLx dLc_2 (i := 280) (q := (750, (.iaload, 1))) rfl
theorem dL_law_751 : decode cL_law 751 = .ok (.aload_n 3, 1) := dLx dLc_2 (i := 281) (q := (751, (.aload_n 3, 1))) rfl
theorem dL_law_752 : decode cL_law 752 = .ok (.invokestatic 223, 3) := dLx dLc_2 (i := 282) (q := (752, (.invokestatic 223, 3))) rfl
theorem dL_law_755 : decode cL_law 755 = .ok (.istore 5, 2) := dLx dLc_2 (i := 283) (q := (755, (.istore 5, 2))) rfl
theorem dL_law_757 : decode cL_law 757 = .ok (.aload_n 2, 1) := dLx dLc_2 (i := 284) (q := (757, (.aload_n 2, 1))) rfl
theorem dL_law_758 : decode cL_law 758 = .ok (.aload_n 0, 1) := dLx dLc_2 (i := 285) (q := (758, (.aload_n 0, 1))) rfl
theorem dL_law_759 : decode cL_law 759 = .ok (.iload 4, 2) := dLx dLc_2 (i := 286) (q := (759, (.iload 4, 2))) rfl
theorem dL_law_761 : decode cL_law 761 = .ok (.iconst 1, 1) := dLx dLc_2 (i := 287) (q := (761, (.iconst 1, 1))) rfl
theorem dL_law_762 : decode cL_law 762 = .ok (.iadd, 1) := dLx dLc_2 (i := 288) (q := (762, (.iadd, 1))) rfl
theorem dL_law_763 : decode cL_law 763 = .ok (.iaload, 1) := dLx dLc_2 (i := 289) (q := (763, (.iaload, 1))) rfl
theorem dL_law_764 : decode cL_law 764 = .ok (.invokevirtual 226, 3) := dLx dLc_2 (i := 290) (q := (764, (.invokevirtual 226, 3))) rfl
theorem dL_law_767 : decode cL_law 767 = .ok (.istore 6, 2) := dLx dLc_2 (i := 291) (q := (767, (.istore 6, 2))) rfl
theorem dL_law_769 : decode cL_law 769 = .ok (.aload_n 2, 1) := dLx dLc_2 (i := 292) (q := (769, (.aload_n 2, 1))) rfl
theorem dL_law_770 : decode cL_law 770 = .ok (.invokevirtual 201, 3) := dLx dLc_2 (i := 293) (q := (770, (.invokevirtual 201, 3))) rfl
theorem dL_law_773 : decode cL_law 773 = .ok (.iload 5, 2) := dLx dLc_2 (i := 294) (q := (773, (.iload 5, 2))) rfl
theorem dL_law_775 : decode cL_law 775 = .ok (.if_icmp .eq 5, 3) := dLx dLc_2 (i := 295) (q := (775, (.if_icmp .eq 5, 3))) rfl
theorem dL_law_778 : decode cL_law 778 = .ok (.iconst 0, 1) := dLx dLc_2 (i := 296) (q := (778, (.iconst 0, 1))) rfl
theorem dL_law_779 : decode cL_law 779 = .ok (.ireturn, 1) := dLx dLc_2 (i := 297) (q := (779, (.ireturn, 1))) rfl
theorem dL_law_780 : decode cL_law 780 = .ok (.iload 5, 2) := dLx dLc_2 (i := 298) (q := (780, (.iload 5, 2))) rfl
theorem dL_law_782 : decode cL_law 782 = .ok (.ifCond .ne 15, 3) := dLx dLc_2 (i := 299) (q := (782, (.ifCond .ne 15, 3))) rfl
def dLt_3 : List (Nat × (Instr × Nat)) := [(785, (.aload_n 3, 1)), (786, (.iconst 0, 1)), (787, (.laload, 1)), (788, (.iload 6, 2)), (790, (.i2l, 1)), (791, (.lcmp, 1)), (792, (.ifCond .eq 5, 3)), (795, (.iconst 0, 1)), (796, (.ireturn, 1)), (797, (.goto 3630, 3)), (800, (.aload_n 1, 1)), (801, (.aload_n 0, 1)), (802, (.iload 4, 2)), (804, (.iconst 1, 1)), (805, (.iadd, 1)), (806, (.iaload, 1)), (807, (.aload_n 0, 1)), (808, (.iload 4, 2)), (810, (.iconst 2, 1)), (811, (.iadd, 1)), (812, (.iaload, 1)), (813, (.aload_n 3, 1)), (814, (.invokestatic 227, 3)), (817, (.istore 5, 2)), (819, (.aload_n 2, 1)), (820, (.aload_n 0, 1)), (821, (.iload 4, 2)), (823, (.iconst 1, 1)), (824, (.iadd, 1)), (825, (.iaload, 1)), (826, (.aload_n 0, 1)), (827, (.iload 4, 2)), (829, (.iconst 2, 1)), (830, (.iadd, 1)), (831, (.iaload, 1)), (832, (.invokevirtual 229, 3)), (835, (.istore 6, 2)), (837, (.aload_n 2, 1)), (838, (.invokevirtual 201, 3)), (841, (.iload 5, 2)), (843, (.if_icmp .eq 5, 3)), (846, (.iconst 0, 1)), (847, (.ireturn, 1)), (848, (.iload 5, 2)), (850, (.ifCond .ne 15, 3)), (853, (.aload_n 3, 1)), (854, (.iconst 0, 1)), (855, (.laload, 1)), (856, (.iload 6, 2)), (858, (.i2l, 1)), (859, (.lcmp, 1)), (860, (.ifCond .eq 5, 3)), (863, (.iconst 0, 1)), (864, (.ireturn, 1)), (865, (.goto 3562, 3)), (868, (.aload_n 1, 1)), (869, (.aload_n 0, 1)), (870, (.iload 4, 2)), (872, (.iconst 1, 1)), (873, (.iadd, 1)), (874, (.iaload, 1)), (875, (.aload_n 0, 1)), (876, (.iload 4, 2)), (878, (.iconst 2, 1)), (879, (.iadd, 1)), (880, (.iaload, 1)), (881, (.aload_n 3, 1)), (882, (.invokestatic 230, 3)), (885, (.istore 5, 2)), (887, (.aload_n 2, 1)), (888, (.aload_n 0, 1)), (889, (.iload 4, 2)), (891, (.iconst 1, 1)), (892, (.iadd, 1)), (893, (.iaload, 1)), (894, (.aload_n 0, 1)), (895, (.iload 4, 2)), (897, (.iconst 2, 1)), (898, (.iadd, 1)), (899, (.iaload, 1)), (900, (.invokevirtual 232, 3)), (903, (.istore 6, 2)), (905, (.aload_n 2, 1)), (906, (.invokevirtual 201, 3)), (909, (.iload 5, 2)), (911, (.if_icmp .eq 5, 3)), (914, (.iconst 0, 1)), (915, (.ireturn, 1)), (916, (.iload 5, 2)), (918, (.ifCond .ne 15, 3)), (921, (.aload_n 3, 1)), (922, (.iconst 0, 1)), (923, (.laload, 1)), (924, (.iload 6, 2)), (926, (.i2l, 1)), (927, (.lcmp, 1)), (928, (.ifCond .eq 5, 3)), (931, (.iconst 0, 1)), (932, (.ireturn, 1)), (933, (.goto 3494, 3)), (936, (.aload_n 1, 1)), (937, (.aload_n 0, 1)), (938, (.iload 4, 2)), (940, (.iconst 1, 1)), (941, (.iadd, 1)), (942, (.iaload, 1)), (943, (.aload_n 0, 1)), (944, (.iload 4, 2)), (946, (.iconst 2, 1)), (947, (.iadd, 1)), (948, (.iaload, 1)), (949, (.aload_n 3, 1)), (950, (.invokestatic 233, 3)), (953, (.istore 5, 2)), (955, (.aload_n 2, 1)), (956, (.aload_n 0, 1)), (957, (.iload 4, 2)), (959, (.iconst 1, 1)), (960, (.iadd, 1)), (961, (.iaload, 1)), (962, (.aload_n 0, 1)), (963, (.iload 4, 2)), (965, (.iconst 2, 1)), (966, (.iadd, 1)), (967, (.iaload, 1)), (968, (.invokevirtual 235, 3)), (971, (.istore 6, 2)), (973, (.aload_n 2, 1)), (974, (.invokevirtual 201, 3)), (977, (.iload 5, 2)), (979, (.if_icmp .eq 5, 3)), (982, (.iconst 0, 1)), (983, (.ireturn, 1)), (984, (.iload 5, 2)), (986, (.ifCond .ne 15, 3)), (989, (.aload_n 3, 1)), (990, (.iconst 0, 1)), (991, (.laload, 1)), (992, (.iload 6, 2)), (994, (.i2l, 1)), (995, (.lcmp, 1)), (996, (.ifCond .eq 5, 3)), (999, (.iconst 0, 1)), (1000, (.ireturn, 1)), (1001, (.goto 3426, 3)), (1004, (.aload_n 1, 1)), (1005, (.aload_n 0, 1)), (1006, (.iload 4, 2)), (1008, (.iconst 1, 1)), (1009, (.iadd, 1)), (1010, (.iaload, 1)), (1011, (.aload_n 0, 1)), (1012, (.iload 4, 2)), (1014, (.iconst 2, 1)), (1015, (.iadd, 1)), (1016, (.iaload, 1)), (1017, (.ifCond .eq 7, 3)), (1020, (.iconst 1, 1)), (1021, (.goto 4, 3)), (1024, (.iconst 0, 1)), (1025, (.aload_n 3, 1)), (1026, (.invokestatic 236, 3)), (1029, (.istore 5, 2)), (1031, (.aload_n 2, 1)), (1032, (.aload_n 0, 1)), (1033, (.iload 4, 2)), (1035, (.iconst 1, 1)), (1036, (.iadd, 1)), (1037, (.iaload, 1)), (1038, (.aload_n 0, 1)), (1039, (.iload 4, 2)), (1041, (.iconst 2, 1)), (1042, (.iadd, 1)), (1043, (.iaload, 1)), (1044, (.ifCond .eq 7, 3)), (1047, (.iconst 1, 1)), (1048, (.goto 4, 3)), (1051, (.iconst 0, 1)), (1052, (.invokevirtual 239, 3)), (1055, (.istore 6, 2)), (1057, (.aload_n 2, 1)), (1058, (.invokevirtual 201, 3)), (1061, (.iload 5, 2)), (1063, (.if_icmp .eq 5, 3)), (1066, (.iconst 0, 1)), (1067, (.ireturn, 1)), (1068, (.iload 5, 2)), (1070, (.ifCond .ne 22, 3)), (1073, (.aload_n 3, 1)), (1074, (.iconst 0, 1)), (1075, (.laload, 1)), (1076, (.iload 6, 2)), (1078, (.ifCond .eq 7, 3)), (1081, (.lconst 1, 1)), (1082, (.goto 4, 3)), (1085, (.lconst 0, 1)), (1086, (.lcmp, 1)), (1087, (.ifCond .eq 5, 3)), (1090, (.iconst 0, 1)), (1091, (.ireturn, 1)), (1092, (.goto 3335, 3)), (1095, (.aload_n 1, 1)), (1096, (.aload_n 0, 1)), (1097, (.iload 4, 2)), (1099, (.iconst 1, 1)), (1100, (.iadd, 1)), (1101, (.iaload, 1)), (1102, (.aload_n 0, 1)), (1103, (.iload 4, 2)), (1105, (.iconst 2, 1)), (1106, (.iadd, 1)), (1107, (.iaload, 1)), (1108, (.aload_n 0, 1)), (1109, (.iload 4, 2)), (1111, (.iconst 3, 1)), (1112, (.iadd, 1)), (1113, (.iaload, 1)), (1114, (.aload_n 0, 1)), (1115, (.iload 4, 2)), (1117, (.iconst 4, 1)), (1118, (.iadd, 1)), (1119, (.iaload, 1)), (1120, (.ifCond .eq 7, 3)), (1123, (.iconst 1, 1)), (1124, (.goto 4, 3)), (1127, (.iconst 0, 1)), (1128, (.aload_n 0, 1)), (1129, (.iload 4, 2)), (1131, (.iconst 5, 1)), (1132, (.iadd, 1)), (1133, (.iaload, 1)), (1134, (.ifCond .eq 7, 3)), (1137, (.iconst 1, 1)), (1138, (.goto 4, 3)), (1141, (.iconst 0, 1)), (1142, (.aload_n 3, 1)), (1143, (.invokestatic 240, 3)), (1146, (.istore 5, 2)), (1148, (.aload_n 2, 1)), (1149, (.aload_n 0, 1)), (1150, (.iload 4, 2)), (1152, (.iconst 1, 1)), (1153, (.iadd, 1)), (1154, (.iaload, 1)), (1155, (.aload_n 0, 1)), (1156, (.iload 4, 2)), (1158, (.iconst 2, 1)), (1159, (.iadd, 1)), (1160, (.iaload, 1)), (1161, (.aload_n 0, 1)), (1162, (.iload 4, 2)), (1164, (.iconst 3, 1)), (1165, (.iadd, 1)), (1166, (.iaload, 1)), (1167, (.aload_n 0, 1)), (1168, (.iload 4, 2)), (1170, (.iconst 4, 1)), (1171, (.iadd, 1)), (1172, (.iaload, 1)), (1173, (.ifCond .eq 7, 3)), (1176, (.iconst 1, 1)), (1177, (.goto 4, 3)), (1180, (.iconst 0, 1)), (1181, (.aload_n 0, 1)), (1182, (.iload 4, 2)), (1184, (.iconst 5, 1)), (1185, (.iadd, 1)), (1186, (.iaload, 1)), (1187, (.ifCond .eq 7, 3)), (1190, (.iconst 1, 1)), (1191, (.goto 4, 3)), (1194, (.iconst 0, 1)), (1195, (.invokevirtual 243, 3)), (1198, (.istore 6, 2)), (1200, (.aload_n 2, 1)), (1201, (.invokevirtual 201, 3)), (1204, (.iload 5, 2)), (1206, (.if_icmp .eq 5, 3)), (1209, (.iconst 0, 1)), (1210, (.ireturn, 1)), (1211, (.iload 5, 2)), (1213, (.ifCond .ne 15, 3)), (1216, (.aload_n 3, 1)), (1217, (.iconst 0, 1)), (1218, (.laload, 1)), (1219, (.iload 6, 2)), (1221, (.i2l, 1)), (1222, (.lcmp, 1)), (1223, (.ifCond .eq 5, 3)), (1226, (.iconst 0, 1)), (1227, (.ireturn, 1)), (1228, (.goto 3199, 3)), (1231, (.aload_n 1, 1)), (1232, (.aload_n 0, 1)), (1233, (.iload 4, 2)), (1235, (.iconst 1, 1)), (1236, (.iadd, 1)), (1237, (.iaload, 1)), (1238, (.aload_n 0, 1)), (1239, (.iload 4, 2))]
set_option maxRecDepth 100000 in
theorem dLc_3 : ldg (cL_law.data.toList.drop 785) 0 785 dLt_3 = true := by decide +kernel
theorem dL_law_785 : decode cL_law 785 = .ok (.aload_n 3, 1) := dLx dLc_3 (i := 0) (q := (785, (.aload_n 3, 1))) rfl
theorem dL_law_786 : decode cL_law 786 = .ok (.iconst 0, 1) := dLx dLc_3 (i := 1) (q := (786, (.iconst 0, 1))) rfl
theorem dL_law_787 : decode cL_law 787 = .ok (.laload, 1) := dLx dLc_3 (i := 2) (q := (787, (.laload, 1))) rfl
theorem dL_law_788 : decode cL_law 788 = .ok (.iload 6, 2) := dLx dLc_3 (i := 3) (q := (788, (.iload 6, 2))) rfl
theorem dL_law_790 : decode cL_law 790 = .ok (.i2l, 1) := dLx dLc_3 (i := 4) (q := (790, (.i2l, 1))) rfl
theorem dL_law_791 : decode cL_law 791 = .ok (.lcmp, 1) := dLx dLc_3 (i := 5) (q := (791, (.lcmp, 1))) rfl
theorem dL_law_792 : decode cL_law 792 = .ok (.ifCond .eq 5, 3) := dLx dLc_3 (i := 6) (q := (792, (.ifCond .eq 5, 3))) rfl
theorem dL_law_795 : decode cL_law 795 = .ok (.iconst 0, 1) := dLx dLc_3 (i := 7) (q := (795, (.iconst 0, 1))) rfl
theorem dL_law_796 : decode cL_law 796 = .ok (.ireturn, 1) := dLx dLc_3 (i := 8) (q := (796, (.ireturn, 1))) rfl
theorem dL_law_797 : decode cL_law 797 = .ok (.goto 3630, 3) := dLx dLc_3 (i := 9) (q := (797, (.goto 3630, 3))) rfl
theorem dL_law_800 : decode cL_law 800 = .ok (.aload_n 1, 1) := dLx dLc_3 (i := 10) (q := (800, (.aload_n 1, 1))) rfl
theorem dL_law_801 : decode cL_law 801 = .ok (.aload_n 0, 1) := dLx dLc_3 (i := 11) (q := (801, (.aload_n 0, 1))) rfl
theorem dL_law_802 : decode cL_law 802 = .ok (.iload 4, 2) := dLx dLc_3 (i := 12) (q := (802, (.iload 4, 2))) rfl
theorem dL_law_804 : decode cL_law 804 = .ok (.iconst 1, 1) := dLx dLc_3 (i := 13) (q := (804, (.iconst 1, 1))) rfl
theorem dL_law_805 : decode cL_law 805 = .ok (.iadd, 1) := dLx dLc_3 (i := 14) (q := (805, (.iadd, 1))) rfl
theorem dL_law_806 : decode cL_law 806 = .ok (.iaload, 1) := dLx dLc_3 (i := 15) (q := (806, (.iaload, 1))) rfl
theorem dL_law_807 : decode cL_law 807 = .ok (.aload_n 0, 1) := dLx dLc_3 (i := 16) (q := (807, (.aload_n 0, 1))) rfl
theorem dL_law_808 : decode cL_law 808 = .ok (.iload 4, 2) := dLx dLc_3 (i := 17) (q := (808, (.iload 4, 2))) rfl
theorem dL_law_810 : decode cL_law 810 = .ok (.iconst 2, 1) := dLx dLc_3 (i := 18) (q := (810, (.iconst 2, 1))) rfl
theorem dL_law_811 : decode cL_law 811 = .ok (.iadd, 1) := dLx dLc_3 (i := 19) (q := (811, (.iadd, 1))) rfl
theorem dL_law_812 : decode cL_law 812 = .ok (.iaload, 1) := dLx dLc_3 (i := 20) (q := (812, (.iaload, 1))) rfl
theorem dL_law_813 : decode cL_law 813 = .ok (.aload_n 3, 1) := dLx dLc_3 (i := 21) (q := (813, (.aload_n 3, 1))) rfl
theorem dL_law_814 : decode cL_law 814 = .ok (.invokestatic 227, 3) := dLx dLc_3 (i := 22) (q := (814, (.invokestatic 227, 3))) rfl
theorem dL_law_817 : decode cL_law 817 = .ok (.istore 5, 2) := dLx dLc_3 (i := 23) (q := (817, (.istore 5, 2))) rfl
theorem dL_law_819 : decode cL_law 819 = .ok (.aload_n 2, 1) := dLx dLc_3 (i := 24) (q := (819, (.aload_n 2, 1))) rfl
theorem dL_law_820 : decode cL_law 820 = .ok (.aload_n 0, 1) := dLx dLc_3 (i := 25) (q := (820, (.aload_n 0, 1))) rfl
theorem dL_law_821 : decode cL_law 821 = .ok (.iload 4, 2) := dLx dLc_3 (i := 26) (q := (821, (.iload 4, 2))) rfl
theorem dL_law_823 : decode cL_law 823 = .ok (.iconst 1, 1) := dLx dLc_3 (i := 27) (q := (823, (.iconst 1, 1))) rfl
theorem dL_law_824 : decode cL_law 824 = .ok (.iadd, 1) := dLx dLc_3 (i := 28) (q := (824, (.iadd, 1))) rfl
theorem dL_law_825 : decode cL_law 825 = .ok (.iaload, 1) := dLx dLc_3 (i := 29) (q := (825, (.iaload, 1))) rfl
theorem dL_law_826 : decode cL_law 826 = .ok (.aload_n 0, 1) := dLx dLc_3 (i := 30) (q := (826, (.aload_n 0, 1))) rfl
theorem dL_law_827 : decode cL_law 827 = .ok (.iload 4, 2) := dLx dLc_3 (i := 31) (q := (827, (.iload 4, 2))) rfl
theorem dL_law_829 : decode cL_law 829 = .ok (.iconst 2, 1) := dLx dLc_3 (i := 32) (q := (829, (.iconst 2, 1))) rfl
theorem dL_law_830 : decode cL_law 830 = .ok (.iadd, 1) := dLx dLc_3 (i := 33) (q := (830, (.iadd, 1))) rfl
theorem dL_law_831 : decode cL_law 831 = .ok (.iaload, 1) := dLx dLc_3 (i := 34) (q := (831, (.iaload, 1))) rfl
theorem dL_law_832 : decode cL_law 832 = .ok (.invokevirtual 229, 3) := dLx dLc_3 (i := 35) (q := (832, (.invokevirtual 229, 3))) rfl
theorem dL_law_835 : decode cL_law 835 = .ok (.istore 6, 2) := dLx dLc_3 (i := 36) (q := (835, (.istore 6, 2))) rfl
theorem dL_law_837 : decode cL_law 837 = .ok (.aload_n 2, 1) := dLx dLc_3 (i := 37) (q := (837, (.aload_n 2, 1))) rfl
theorem dL_law_838 : decode cL_law 838 = .ok (.invokevirtual 201, 3) := dLx dLc_3 (i := 38) (q := (838, (.invokevirtual 201, 3))) rfl
theorem dL_law_841 : decode cL_law 841 = .ok (.iload 5, 2) := dLx dLc_3 (i := 39) (q := (841, (.iload 5, 2))) rfl
theorem dL_law_843 : decode cL_law 843 = .ok (.if_icmp .eq 5, 3) := dLx dLc_3 (i := 40) (q := (843, (.if_icmp .eq 5, 3))) rfl
theorem dL_law_846 : decode cL_law 846 = .ok (.iconst 0, 1) := dLx dLc_3 (i := 41) (q := (846, (.iconst 0, 1))) rfl
theorem dL_law_847 : decode cL_law 847 = .ok (.ireturn, 1) := dLx dLc_3 (i := 42) (q := (847, (.ireturn, 1))) rfl
theorem dL_law_848 : decode cL_law 848 = .ok (.iload 5, 2) := dLx dLc_3 (i := 43) (q := (848, (.iload 5, 2))) rfl
theorem dL_law_850 : decode cL_law 850 = .ok (.ifCond .ne 15, 3) := dLx dLc_3 (i := 44) (q := (850, (.ifCond .ne 15, 3))) rfl
theorem dL_law_853 : decode cL_law 853 = .ok (.aload_n 3, 1) := dLx dLc_3 (i := 45) (q := (853, (.aload_n 3, 1))) rfl
theorem dL_law_854 : decode cL_law 854 = .ok (.iconst 0, 1) := dLx dLc_3 (i := 46) (q := (854, (.iconst 0, 1))) rfl
theorem dL_law_855 : decode cL_law 855 = .ok (.laload, 1) := dLx dLc_3 (i := 47) (q := (855, (.laload, 1))) rfl
theorem dL_law_856 : decode cL_law 856 = .ok (.iload 6, 2) := dLx dLc_3 (i := 48) (q := (856, (.iload 6, 2))) rfl
theorem dL_law_858 : decode cL_law 858 = .ok (.i2l, 1) := dLx dLc_3 (i := 49) (q := (858, (.i2l, 1))) rfl
theorem dL_law_859 : decode cL_law 859 = .ok (.lcmp, 1) := dLx dLc_3 (i := 50) (q := (859, (.lcmp, 1))) rfl
theorem dL_law_860 : decode cL_law 860 = .ok (.ifCond .eq 5, 3) := dLx dLc_3 (i := 51) (q := (860, (.ifCond .eq 5, 3))) rfl
theorem dL_law_863 : decode cL_law 863 = .ok (.iconst 0, 1) := dLx dLc_3 (i := 52) (q := (863, (.iconst 0, 1))) rfl
theorem dL_law_864 : decode cL_law 864 = .ok (.ireturn, 1) := dLx dLc_3 (i := 53) (q := (864, (.ireturn, 1))) rfl
theorem dL_law_865 : decode cL_law 865 = .ok (.goto 3562, 3) := dLx dLc_3 (i := 54) (q := (865, (.goto 3562, 3))) rfl
theorem dL_law_868 : decode cL_law 868 = .ok (.aload_n 1, 1) := dLx dLc_3 (i := 55) (q := (868, (.aload_n 1, 1))) rfl
theorem dL_law_869 : decode cL_law 869 = .ok (.aload_n 0, 1) := dLx dLc_3 (i := 56) (q := (869, (.aload_n 0, 1))) rfl
theorem dL_law_870 : decode cL_law 870 = .ok (.iload 4, 2) := dLx dLc_3 (i := 57) (q := (870, (.iload 4, 2))) rfl
theorem dL_law_872 : decode cL_law 872 = .ok (.iconst 1, 1) := dLx dLc_3 (i := 58) (q := (872, (.iconst 1, 1))) rfl
theorem dL_law_873 : decode cL_law 873 = .ok (.iadd, 1) := dLx dLc_3 (i := 59) (q := (873, (.iadd, 1))) rfl
theorem dL_law_874 : decode cL_law 874 = .ok (.iaload, 1) := dLx dLc_3 (i := 60) (q := (874, (.iaload, 1))) rfl
theorem dL_law_875 : decode cL_law 875 = .ok (.aload_n 0, 1) := dLx dLc_3 (i := 61) (q := (875, (.aload_n 0, 1))) rfl
theorem dL_law_876 : decode cL_law 876 = .ok (.iload 4, 2) := dLx dLc_3 (i := 62) (q := (876, (.iload 4, 2))) rfl
theorem dL_law_878 : decode cL_law 878 = .ok (.iconst 2, 1) := dLx dLc_3 (i := 63) (q := (878, (.iconst 2, 1))) rfl
theorem dL_law_879 : decode cL_law 879 = .ok (.iadd, 1) := dLx dLc_3 (i := 64) (q := (879, (.iadd, 1))) rfl
theorem dL_law_880 : decode cL_law 880 = .ok (.iaload, 1) := dLx dLc_3 (i := 65) (q := (880, (.iaload, 1))) rfl
theorem dL_law_881 : decode cL_law 881 = .ok (.aload_n 3, 1) := dLx dLc_3 (i := 66) (q := (881, (.aload_n 3, 1))) rfl
theorem dL_law_882 : decode cL_law 882 = .ok (.invokestatic 230, 3) := dLx dLc_3 (i := 67) (q := (882, (.invokestatic 230, 3))) rfl
theorem dL_law_885 : decode cL_law 885 = .ok (.istore 5, 2) := dLx dLc_3 (i := 68) (q := (885, (.istore 5, 2))) rfl
theorem dL_law_887 : decode cL_law 887 = .ok (.aload_n 2, 1) := dLx dLc_3 (i := 69) (q := (887, (.aload_n 2, 1))) rfl
theorem dL_law_888 : decode cL_law 888 = .ok (.aload_n 0, 1) := dLx dLc_3 (i := 70) (q := (888, (.aload_n 0, 1))) rfl
theorem dL_law_889 : decode cL_law 889 = .ok (.iload 4, 2) := dLx dLc_3 (i := 71) (q := (889, (.iload 4, 2))) rfl
theorem dL_law_891 : decode cL_law 891 = .ok (.iconst 1, 1) := dLx dLc_3 (i := 72) (q := (891, (.iconst 1, 1))) rfl
theorem dL_law_892 : decode cL_law 892 = .ok (.iadd, 1) := dLx dLc_3 (i := 73) (q := (892, (.iadd, 1))) rfl
theorem dL_law_893 : decode cL_law 893 = .ok (.iaload, 1) := dLx dLc_3 (i := 74) (q := (893, (.iaload, 1))) rfl
theorem dL_law_894 : decode cL_law 894 = .ok (.aload_n 0, 1) := dLx dLc_3 (i := 75) (q := (894, (.aload_n 0, 1))) rfl
theorem dL_law_895 : decode cL_law 895 = .ok (.iload 4, 2) := dLx dLc_3 (i := 76) (q := (895, (.iload 4, 2))) rfl
theorem dL_law_897 : decode cL_law 897 = .ok (.iconst 2, 1) := dLx dLc_3 (i := 77) (q := (897, (.iconst 2, 1))) rfl
theorem dL_law_898 : decode cL_law 898 = .ok (.iadd, 1) := dLx dLc_3 (i := 78) (q := (898, (.iadd, 1))) rfl
theorem dL_law_899 : decode cL_law 899 = .ok (.iaload, 1) := dLx dLc_3 (i := 79) (q := (899, (.iaload, 1))) rfl
theorem dL_law_900 : decode cL_law 900 = .ok (.invokevirtual 232, 3) := dLx dLc_3 (i := 80) (q := (900, (.invokevirtual 232, 3))) rfl
theorem dL_law_903 : decode cL_law 903 = .ok (.istore 6, 2) := dLx dLc_3 (i := 81) (q := (903, (.istore 6, 2))) rfl
theorem dL_law_905 : decode cL_law 905 = .ok (.aload_n 2, 1) := dLx dLc_3 (i := 82) (q := (905, (.aload_n 2, 1))) rfl
theorem dL_law_906 : decode cL_law 906 = .ok (.invokevirtual 201, 3) := dLx dLc_3 (i := 83) (q := (906, (.invokevirtual 201, 3))) rfl
theorem dL_law_909 : decode cL_law 909 = .ok (.iload 5, 2) := dLx dLc_3 (i := 84) (q := (909, (.iload 5, 2))) rfl
theorem dL_law_911 : decode cL_law 911 = .ok (.if_icmp .eq 5, 3) := dLx dLc_3 (i := 85) (q := (911, (.if_icmp .eq 5, 3))) rfl
theorem dL_law_914 : decode cL_law 914 = .ok (.iconst 0, 1) := dLx dLc_3 (i := 86) (q := (914, (.iconst 0, 1))) rfl
theorem dL_law_915 : decode cL_law 915 = .ok (.ireturn, 1) := dLx dLc_3 (i := 87) (q := (915, (.ireturn, 1))) rfl
theorem dL_law_916 : decode cL_law 916 = .ok (.iload 5, 2) := dLx dLc_3 (i := 88) (q := (916, (.iload 5, 2))) rfl
theorem dL_law_918 : decode cL_law 918 = .ok (.ifCond .ne 15, 3) := dLx dLc_3 (i := 89) (q := (918, (.ifCond .ne 15, 3))) rfl
theorem dL_law_921 : decode cL_law 921 = .ok (.aload_n 3, 1) := dLx dLc_3 (i := 90) (q := (921, (.aload_n 3, 1))) rfl
theorem dL_law_922 : decode cL_law 922 = .ok (.iconst 0, 1) := dLx dLc_3 (i := 91) (q := (922, (.iconst 0, 1))) rfl
theorem dL_law_923 : decode cL_law 923 = .ok (.laload, 1) := dLx dLc_3 (i := 92) (q := (923, (.laload, 1))) rfl
theorem dL_law_924 : decode cL_law 924 = .ok (.iload 6, 2) := dLx dLc_3 (i := 93) (q := (924, (.iload 6, 2))) rfl
theorem dL_law_926 : decode cL_law 926 = .ok (.i2l, 1) := dLx dLc_3 (i := 94) (q := (926, (.i2l, 1))) rfl
theorem dL_law_927 : decode cL_law 927 = .ok (.lcmp, 1) := dLx dLc_3 (i := 95) (q := (927, (.lcmp, 1))) rfl
theorem dL_law_928 : decode cL_law 928 = .ok (.ifCond .eq 5, 3) := dLx dLc_3 (i := 96) (q := (928, (.ifCond .eq 5, 3))) rfl
theorem dL_law_931 : decode cL_law 931 = .ok (.iconst 0, 1) := dLx dLc_3 (i := 97) (q := (931, (.iconst 0, 1))) rfl
theorem dL_law_932 : decode cL_law 932 = .ok (.ireturn, 1) := dLx dLc_3 (i := 98) (q := (932, (.ireturn, 1))) rfl
theorem dL_law_933 : decode cL_law 933 = .ok (.goto 3494, 3) := dLx dLc_3 (i := 99) (q := (933, (.goto 3494, 3))) rfl
theorem dL_law_936 : decode cL_law 936 = .ok (.aload_n 1, 1) := dLx dLc_3 (i := 100) (q := (936, (.aload_n 1, 1))) rfl
theorem dL_law_937 : decode cL_law 937 = .ok (.aload_n 0, 1) := dLx dLc_3 (i := 101) (q := (937, (.aload_n 0, 1))) rfl
theorem dL_law_938 : decode cL_law 938 = .ok (.iload 4, 2) := dLx dLc_3 (i := 102) (q := (938, (.iload 4, 2))) rfl
theorem dL_law_940 : decode cL_law 940 = .ok (.iconst 1, 1) := dLx dLc_3 (i := 103) (q := (940, (.iconst 1, 1))) rfl
theorem dL_law_941 : decode cL_law 941 = .ok (.iadd, 1) := dLx dLc_3 (i := 104) (q := (941, (.iadd, 1))) rfl
theorem dL_law_942 : decode cL_law 942 = .ok (.iaload, 1) := dLx dLc_3 (i := 105) (q := (942, (.iaload, 1))) rfl
theorem dL_law_943 : decode cL_law 943 = .ok (.aload_n 0, 1) := dLx dLc_3 (i := 106) (q := (943, (.aload_n 0, 1))) rfl
theorem dL_law_944 : decode cL_law 944 = .ok (.iload 4, 2) := dLx dLc_3 (i := 107) (q := (944, (.iload 4, 2))) rfl
theorem dL_law_946 : decode cL_law 946 = .ok (.iconst 2, 1) := dLx dLc_3 (i := 108) (q := (946, (.iconst 2, 1))) rfl
theorem dL_law_947 : decode cL_law 947 = .ok (.iadd, 1) := dLx dLc_3 (i := 109) (q := (947, (.iadd, 1))) rfl
theorem dL_law_948 : decode cL_law 948 = .ok (.iaload, 1) := dLx dLc_3 (i := 110) (q := (948, (.iaload, 1))) rfl
theorem dL_law_949 : decode cL_law 949 = .ok (.aload_n 3, 1) := dLx dLc_3 (i := 111) (q := (949, (.aload_n 3, 1))) rfl
theorem dL_law_950 : decode cL_law 950 = .ok (.invokestatic 233, 3) := dLx dLc_3 (i := 112) (q := (950, (.invokestatic 233, 3))) rfl
theorem dL_law_953 : decode cL_law 953 = .ok (.istore 5, 2) := dLx dLc_3 (i := 113) (q := (953, (.istore 5, 2))) rfl
theorem dL_law_955 : decode cL_law 955 = .ok (.aload_n 2, 1) := dLx dLc_3 (i := 114) (q := (955, (.aload_n 2, 1))) rfl
theorem dL_law_956 : decode cL_law 956 = .ok (.aload_n 0, 1) := dLx dLc_3 (i := 115) (q := (956, (.aload_n 0, 1))) rfl
theorem dL_law_957 : decode cL_law 957 = .ok (.iload 4, 2) := dLx dLc_3 (i := 116) (q := (957, (.iload 4, 2))) rfl
theorem dL_law_959 : decode cL_law 959 = .ok (.iconst 1, 1) := dLx dLc_3 (i := 117) (q := (959, (.iconst 1, 1))) rfl
theorem dL_law_960 : decode cL_law 960 = .ok (.iadd, 1) := dLx dLc_3 (i := 118) (q := (960, (.iadd, 1))) rfl
theorem dL_law_961 : decode cL_law 961 = .ok (.iaload, 1) := dLx dLc_3 (i := 119) (q := (961, (.iaload, 1))) rfl
theorem dL_law_962 : decode cL_law 962 = .ok (.aload_n 0, 1) := dLx dLc_3 (i := 120) (q := (962, (.aload_n 0, 1))) rfl
theorem dL_law_963 : decode cL_law 963 = .ok (.iload 4, 2) := dLx dLc_3 (i := 121) (q := (963, (.iload 4, 2))) rfl
theorem dL_law_965 : decode cL_law 965 = .ok (.iconst 2, 1) := dLx dLc_3 (i := 122) (q := (965, (.iconst 2, 1))) rfl
theorem dL_law_966 : decode cL_law 966 = .ok (.iadd, 1) := dLx dLc_3 (i := 123) (q := (966, (.iadd, 1))) rfl
theorem dL_law_967 : decode cL_law 967 = .ok (.iaload, 1) := dLx dLc_3 (i := 124) (q := (967, (.iaload, 1))) rfl
theorem dL_law_968 : decode cL_law 968 = .ok (.invokevirtual 235, 3) := dLx dLc_3 (i := 125) (q := (968, (.invokevirtual 235, 3))) rfl
theorem dL_law_971 : decode cL_law 971 = .ok (.istore 6, 2) := dLx dLc_3 (i := 126) (q := (971, (.istore 6, 2))) rfl
theorem dL_law_973 : decode cL_law 973 = .ok (.aload_n 2, 1) := dLx dLc_3 (i := 127) (q := (973, (.aload_n 2, 1))) rfl
theorem dL_law_974 : decode cL_law 974 = .ok (.invokevirtual 201, 3) := dLx dLc_3 (i := 128) (q := (974, (.invokevirtual 201, 3))) rfl
theorem dL_law_977 : decode cL_law 977 = .ok (.iload 5, 2) := dLx dLc_3 (i := 129) (q := (977, (.iload 5, 2))) rfl
theorem dL_law_979 : decode cL_law 979 = .ok (.if_icmp .eq 5, 3) := dLx dLc_3 (i := 130) (q := (979, (.if_icmp .eq 5, 3))) rfl
theorem dL_law_982 : decode cL_law 982 = .ok (.iconst 0, 1) := dLx dLc_3 (i := 131) (q := (982, (.iconst 0, 1))) rfl
theorem dL_law_983 : decode cL_law 983 = .ok (.ireturn, 1) := dLx dLc_3 (i := 132) (q := (983, (.ireturn, 1))) rfl
theorem dL_law_984 : decode cL_law 984 = .ok (.iload 5, 2) := dLx dLc_3 (i := 133) (q := (984, (.iload 5, 2))) rfl
theorem dL_law_986 : decode cL_law 986 = .ok (.ifCond .ne 15, 3) := dLx dLc_3 (i := 134) (q := (986, (.ifCond .ne 15, 3))) rfl
theorem dL_law_989 : decode cL_law 989 = .ok (.aload_n 3, 1) := dLx dLc_3 (i := 135) (q := (989, (.aload_n 3, 1))) rfl
theorem dL_law_990 : decode cL_law 990 = .ok (.iconst 0, 1) := dLx dLc_3 (i := 136) (q := (990, (.iconst 0, 1))) rfl
theorem dL_law_991 : decode cL_law 991 = .ok (.laload, 1) := dLx dLc_3 (i := 137) (q := (991, (.laload, 1))) rfl
theorem dL_law_992 : decode cL_law 992 = .ok (.iload 6, 2) := dLx dLc_3 (i := 138) (q := (992, (.iload 6, 2))) rfl
theorem dL_law_994 : decode cL_law 994 = .ok (.i2l, 1) := dLx dLc_3 (i := 139) (q := (994, (.i2l, 1))) rfl
theorem dL_law_995 : decode cL_law 995 = .ok (.lcmp, 1) := dLx dLc_3 (i := 140) (q := (995, (.lcmp, 1))) rfl
theorem dL_law_996 : decode cL_law 996 = .ok (.ifCond .eq 5, 3) := dLx dLc_3 (i := 141) (q := (996, (.ifCond .eq 5, 3))) rfl
theorem dL_law_999 : decode cL_law 999 = .ok (.iconst 0, 1) := dLx dLc_3 (i := 142) (q := (999, (.iconst 0, 1))) rfl
theorem dL_law_1000 : decode cL_law 1000 = .ok (.ireturn, 1) := dLx dLc_3 (i := 143) (q := (1000, (.ireturn, 1))) rfl
theorem dL_law_1001 : decode cL_law 1001 = .ok (.goto 3426, 3) := dLx dLc_3 (i := 144) (q := (1001, (.goto 3426, 3))) rfl
theorem dL_law_1004 : decode cL_law 1004 = .ok (.aload_n 1, 1) := dLx dLc_3 (i := 145) (q := (1004, (.aload_n 1, 1))) rfl
theorem dL_law_1005 : decode cL_law 1005 = .ok (.aload_n 0, 1) := dLx dLc_3 (i := 146) (q := (1005, (.aload_n 0, 1))) rfl
theorem dL_law_1006 : decode cL_law 1006 = .ok (.iload 4, 2) := dLx dLc_3 (i := 147) (q := (1006, (.iload 4, 2))) rfl
theorem dL_law_1008 : decode cL_law 1008 = .ok (.iconst 1, 1) := dLx dLc_3 (i := 148) (q := (1008, (.iconst 1, 1))) rfl
theorem dL_law_1009 : decode cL_law 1009 = .ok (.iadd, 1) := dLx dLc_3 (i := 149) (q := (1009, (.iadd, 1))) rfl
theorem dL_law_1010 : decode cL_law 1010 = .ok (.iaload, 1) := dLx dLc_3 (i := 150) (q := (1010, (.iaload, 1))) rfl
theorem dL_law_1011 : decode cL_law 1011 = .ok (.aload_n 0, 1) := dLx dLc_3 (i := 151) (q := (1011, (.aload_n 0, 1))) rfl
theorem dL_law_1012 : decode cL_law 1012 = .ok (.iload 4, 2) := dLx dLc_3 (i := 152) (q := (1012, (.iload 4, 2))) rfl
theorem dL_law_1014 : decode cL_law 1014 = .ok (.iconst 2, 1) := dLx dLc_3 (i := 153) (q := (1014, (.iconst 2, 1))) rfl
theorem dL_law_1015 : decode cL_law 1015 = .ok (.iadd, 1) := dLx dLc_3 (i := 154) (q := (1015, (.iadd, 1))) rfl
theorem dL_law_1016 : decode cL_law 1016 = .ok (.iaload, 1) := dLx dLc_3 (i := 155) (q := (1016, (.iaload, 1))) rfl
theorem dL_law_1017 : decode cL_law 1017 = .ok (.ifCond .eq 7, 3) := dLx dLc_3 (i := 156) (q := (1017, (.ifCond .eq 7, 3))) rfl
theorem dL_law_1020 : decode cL_law 1020 = .ok (.iconst 1, 1) := dLx dLc_3 (i := 157) (q := (1020, (.iconst 1, 1))) rfl
theorem dL_law_1021 : decode cL_law 1021 = .ok (.goto 4, 3) := dLx dLc_3 (i := 158) (q := (1021, (.goto 4, 3))) rfl
theorem dL_law_1024 : decode cL_law 1024 = .ok (.iconst 0, 1) := dLx dLc_3 (i := 159) (q := (1024, (.iconst 0, 1))) rfl
theorem dL_law_1025 : decode cL_law 1025 = .ok (.aload_n 3, 1) := dLx dLc_3 (i := 160) (q := (1025, (.aload_n 3, 1))) rfl
theorem dL_law_1026 : decode cL_law 1026 = .ok (.invokestatic 236, 3) := dLx dLc_3 (i := 161) (q := (1026, (.invokestatic 236, 3))) rfl
theorem dL_law_1029 : decode cL_law 1029 = .ok (.istore 5, 2) := dLx dLc_3 (i := 162) (q := (1029, (.istore 5, 2))) rfl
theorem dL_law_1031 : decode cL_law 1031 = .ok (.aload_n 2, 1) := dLx dLc_3 (i := 163) (q := (1031, (.aload_n 2, 1))) rfl
theorem dL_law_1032 : decode cL_law 1032 = .ok (.aload_n 0, 1) := dLx dLc_3 (i := 164) (q := (1032, (.aload_n 0, 1))) rfl
theorem dL_law_1033 : decode cL_law 1033 = .ok (.iload 4, 2) := dLx dLc_3 (i := 165) (q := (1033, (.iload 4, 2))) rfl
theorem dL_law_1035 : decode cL_law 1035 = .ok (.iconst 1, 1) := dLx dLc_3 (i := 166) (q := (1035, (.iconst 1, 1))) rfl
theorem dL_law_1036 : decode cL_law 1036 = .ok (.iadd, 1) := dLx dLc_3 (i := 167) (q := (1036, (.iadd, 1))) rfl
theorem dL_law_1037 : decode cL_law 1037 = .ok (.iaload, 1) := dLx dLc_3 (i := 168) (q := (1037, (.iaload, 1))) rfl
theorem dL_law_1038 : decode cL_law 1038 = .ok (.aload_n 0, 1) := dLx dLc_3 (i := 169) (q := (1038, (.aload_n 0, 1))) rfl
theorem dL_law_1039 : decode cL_law 1039 = .ok (.iload 4, 2) := dLx dLc_3 (i := 170) (q := (1039, (.iload 4, 2))) rfl
theorem dL_law_1041 : decode cL_law 1041 = .ok (.iconst 2, 1) := dLx dLc_3 (i := 171) (q := (1041, (.iconst 2, 1))) rfl
theorem dL_law_1042 : decode cL_law 1042 = .ok (.iadd, 1) := dLx dLc_3 (i := 172) (q := (1042, (.iadd, 1))) rfl
theorem dL_law_1043 : decode cL_law 1043 = .ok (.iaload, 1) := dLx dLc_3 (i := 173) (q := (1043, (.iaload, 1))) rfl
theorem dL_law_1044 : decode cL_law 1044 = .ok (.ifCond .eq 7, 3) := dLx dLc_3 (i := 174) (q := (1044, (.ifCond .eq 7, 3))) rfl
theorem dL_law_1047 : decode cL_law 1047 = .ok (.iconst 1, 1) := dLx dLc_3 (i := 175) (q := (1047, (.iconst 1, 1))) rfl
theorem dL_law_1048 : decode cL_law 1048 = .ok (.goto 4, 3) := dLx dLc_3 (i := 176) (q := (1048, (.goto 4, 3))) rfl
theorem dL_law_1051 : decode cL_law 1051 = .ok (.iconst 0, 1) := dLx dLc_3 (i := 177) (q := (1051, (.iconst 0, 1))) rfl
theorem dL_law_1052 : decode cL_law 1052 = .ok (.invokevirtual 239, 3) := dLx dLc_3 (i := 178) (q := (1052, (.invokevirtual 239, 3))) rfl
theorem dL_law_1055 : decode cL_law 1055 = .ok (.istore 6, 2) := dLx dLc_3 (i := 179) (q := (1055, (.istore 6, 2))) rfl
theorem dL_law_1057 : decode cL_law 1057 = .ok (.aload_n 2, 1) := dLx dLc_3 (i := 180) (q := (1057, (.aload_n 2, 1))) rfl
theorem dL_law_1058 : decode cL_law 1058 = .ok (.invokevirtual 201, 3) := dLx dLc_3 (i := 181) (q := (1058, (.invokevirtual 201, 3))) rfl
theorem dL_law_1061 : decode cL_law 1061 = .ok (.iload 5, 2) := dLx dLc_3 (i := 182) (q := (1061, (.iload 5, 2))) rfl
theorem dL_law_1063 : decode cL_law 1063 = .ok (.if_icmp .eq 5, 3) := dLx dLc_3 (i := 183) (q := (1063, (.if_icmp .eq 5, 3))) rfl
theorem dL_law_1066 : decode cL_law 1066 = .ok (.iconst 0, 1) := dLx dLc_3 (i := 184) (q := (1066, (.iconst 0, 1))) rfl
theorem dL_law_1067 : decode cL_law 1067 = .ok (.ireturn, 1) := dLx dLc_3 (i := 185) (q := (1067, (.ireturn, 1))) rfl
theorem dL_law_1068 : decode cL_law 1068 = .ok (.iload 5, 2) := dLx dLc_3 (i := 186) (q := (1068, (.iload 5, 2))) rfl
theorem dL_law_1070 : decode cL_law 1070 = .ok (.ifCond .ne 22, 3) := dLx dLc_3 (i := 187) (q := (1070, (.ifCond .ne 22, 3))) rfl
theorem dL_law_1073 : decode cL_law 1073 = .ok (.aload_n 3, 1) := dLx dLc_3 (i := 188) (q := (1073, (.aload_n 3, 1))) rfl
theorem dL_law_1074 : decode cL_law 1074 = .ok (.iconst 0, 1) := dLx dLc_3 (i := 189) (q := (1074, (.iconst 0, 1))) rfl
theorem dL_law_1075 : decode cL_law 1075 = .ok (.laload, 1) := dLx dLc_3 (i := 190) (q := (1075, (.laload, 1))) rfl
theorem dL_law_1076 : decode cL_law 1076 = .ok (.iload 6, 2) := dLx dLc_3 (i := 191) (q := (1076, (.iload 6, 2))) rfl
theorem dL_law_1078 : decode cL_law 1078 = .ok (.ifCond .eq 7, 3) := dLx dLc_3 (i := 192) (q := (1078, (.ifCond .eq 7, 3))) rfl
theorem dL_law_1081 : decode cL_law 1081 = .ok (.lconst 1, 1) := dLx dLc_3 (i := 193) (q := (1081, (.lconst 1, 1))) rfl
theorem dL_law_1082 : decode cL_law 1082 = .ok (.goto 4, 3) := dLx dLc_3 (i := 194) (q := (1082, (.goto 4, 3))) rfl
theorem dL_law_1085 : decode cL_law 1085 = .ok (.lconst 0, 1) := dLx dLc_3 (i := 195) (q := (1085, (.lconst 0, 1))) rfl
theorem dL_law_1086 : decode cL_law 1086 = .ok (.lcmp, 1) := dLx dLc_3 (i := 196) (q := (1086, (.lcmp, 1))) rfl
theorem dL_law_1087 : decode cL_law 1087 = .ok (.ifCond .eq 5, 3) := dLx dLc_3 (i := 197) (q := (1087, (.ifCond .eq 5, 3))) rfl
theorem dL_law_1090 : decode cL_law 1090 = .ok (.iconst 0, 1) := dLx dLc_3 (i := 198) (q := (1090, (.iconst 0, 1))) rfl
theorem dL_law_1091 : decode cL_law 1091 = .ok (.ireturn, 1) := dLx dLc_3 (i := 199) (q := (1091, (.ireturn, 1))) rfl
theorem dL_law_1092 : decode cL_law 1092 = .ok (.goto 3335, 3) := dLx dLc_3 (i := 200) (q := (1092, (.goto 3335, 3))) rfl
theorem dL_law_1095 : decode cL_law 1095 = .ok (.aload_n 1, 1) := dLx dLc_3 (i := 201) (q := (1095, (.aload_n 1, 1))) rfl
theorem dL_law_1096 : decode cL_law 1096 = .ok (.aload_n 0, 1) := dLx dLc_3 (i := 202) (q := (1096, (.aload_n 0, 1))) rfl
theorem dL_law_1097 : decode cL_law 1097 = .ok (.iload 4, 2) := dLx dLc_3 (i := 203) (q := (1097, (.iload 4, 2))) rfl
theorem dL_law_1099 : decode cL_law 1099 = .ok (.iconst 1, 1) := dLx dLc_3 (i := 204) (q := (1099, (.iconst 1, 1))) rfl
theorem dL_law_1100 : decode cL_law 1100 = .ok (.iadd, 1) := dLx dLc_3 (i := 205) (q := (1100, (.iadd, 1))) rfl
theorem dL_law_1101 : decode cL_law 1101 = .ok (.iaload, 1) := dLx dLc_3 (i := 206) (q := (1101, (.iaload, 1))) rfl
theorem dL_law_1102 : decode cL_law 1102 = .ok (.aload_n 0, 1) := dLx dLc_3 (i := 207) (q := (1102, (.aload_n 0, 1))) rfl
theorem dL_law_1103 : decode cL_law 1103 = .ok (.iload 4, 2) := dLx dLc_3 (i := 208) (q := (1103, (.iload 4, 2))) rfl
theorem dL_law_1105 : decode cL_law 1105 = .ok (.iconst 2, 1) := dLx dLc_3 (i := 209) (q := (1105, (.iconst 2, 1))) rfl
theorem dL_law_1106 : decode cL_law 1106 = .ok (.iadd, 1) := dLx dLc_3 (i := 210) (q := (1106, (.iadd, 1))) rfl
theorem dL_law_1107 : decode cL_law 1107 = .ok (.iaload, 1) := dLx dLc_3 (i := 211) (q := (1107, (.iaload, 1))) rfl
theorem dL_law_1108 : decode cL_law 1108 = .ok (.aload_n 0, 1) := dLx dLc_3 (i := 212) (q := (1108, (.aload_n 0, 1))) rfl
theorem dL_law_1109 : decode cL_law 1109 = .ok (.iload 4, 2) := dLx dLc_3 (i := 213) (q := (1109, (.iload 4, 2))) rfl
theorem dL_law_1111 : decode cL_law 1111 = .ok (.iconst 3, 1) := dLx dLc_3 (i := 214) (q := (1111, (.iconst 3, 1))) rfl
theorem dL_law_1112 : decode cL_law 1112 = .ok (.iadd, 1) := dLx dLc_3 (i := 215) (q := (1112, (.iadd, 1))) rfl
theorem dL_law_1113 : decode cL_law 1113 = .ok (.iaload, 1) := dLx dLc_3 (i := 216) (q := (1113, (.iaload, 1))) rfl
theorem dL_law_1114 : decode cL_law 1114 = .ok (.aload_n 0, 1) := dLx dLc_3 (i := 217) (q := (1114, (.aload_n 0, 1))) rfl
theorem dL_law_1115 : decode cL_law 1115 = .ok (.iload 4, 2) := dLx dLc_3 (i := 218) (q := (1115, (.iload 4, 2))) rfl
theorem dL_law_1117 : decode cL_law 1117 = .ok (.iconst 4, 1) := dLx dLc_3 (i := 219) (q := (1117, (.iconst 4, 1))) rfl
theorem dL_law_1118 : decode cL_law 1118 = .ok (.iadd, 1) := dLx dLc_3 (i := 220) (q := (1118, (.iadd, 1))) rfl
theorem dL_law_1119 : decode cL_law 1119 = .ok (.iaload, 1) := dLx dLc_3 (i := 221) (q := (1119, (.iaload, 1))) rfl
theorem dL_law_1120 : decode cL_law 1120 = .ok (.ifCond .eq 7, 3) := dLx dLc_3 (i := 222) (q := (1120, (.ifCond .eq 7, 3))) rfl
theorem dL_law_1123 : decode cL_law 1123 = .ok (.iconst 1, 1) := dLx dLc_3 (i := 223) (q := (1123, (.iconst 1, 1))) rfl
theorem dL_law_1124 : decode cL_law 1124 = .ok (.goto 4, 3) := dLx dLc_3 (i := 224) (q := (1124, (.goto 4, 3))) rfl
theorem dL_law_1127 : decode cL_law 1127 = .ok (.iconst 0, 1) := dLx dLc_3 (i := 225) (q := (1127, (.iconst 0, 1))) rfl
theorem dL_law_1128 : decode cL_law 1128 = .ok (.aload_n 0, 1) := dLx dLc_3 (i := 226) (q := (1128, (.aload_n 0, 1))) rfl
theorem dL_law_1129 : decode cL_law 1129 = .ok (.iload 4, 2) := dLx dLc_3 (i := 227) (q := (1129, (.iload 4, 2))) rfl
theorem dL_law_1131 : decode cL_law 1131 = .ok (.iconst 5, 1) := dLx dLc_3 (i := 228) (q := (1131, (.iconst 5, 1))) rfl
theorem dL_law_1132 : decode cL_law 1132 = .ok (.iadd, 1) := dLx dLc_3 (i := 229) (q := (1132, (.iadd, 1))) rfl
theorem dL_law_1133 : decode cL_law 1133 = .ok (.iaload, 1) := dLx dLc_3 (i := 230) (q := (1133, (.iaload, 1))) rfl
theorem dL_law_1134 : decode cL_law 1134 = .ok (.ifCond .eq 7, 3) := dLx dLc_3 (i := 231) (q := (1134, (.ifCond .eq 7, 3))) rfl
theorem dL_law_1137 : decode cL_law 1137 = .ok (.iconst 1, 1) := dLx dLc_3 (i := 232) (q := (1137, (.iconst 1, 1))) rfl
theorem dL_law_1138 : decode cL_law 1138 = .ok (.goto 4, 3) := dLx dLc_3 (i := 233) (q := (1138, (.goto 4, 3))) rfl
theorem dL_law_1141 : decode cL_law 1141 = .ok (.iconst 0, 1) := dLx dLc_3 (i := 234) (q := (1141, (.iconst 0, 1))) rfl
theorem dL_law_1142 : decode cL_law 1142 = .ok (.aload_n 3, 1) := dLx dLc_3 (i := 235) (q := (1142, (.aload_n 3, 1))) rfl
theorem dL_law_1143 : decode cL_law 1143 = .ok (.invokestatic 240, 3) := dLx dLc_3 (i := 236) (q := (1143, (.invokestatic 240, 3))) rfl
theorem dL_law_1146 : decode cL_law 1146 = .ok (.istore 5, 2) := dLx dLc_3 (i := 237) (q := (1146, (.istore 5, 2))) rfl
theorem dL_law_1148 : decode cL_law 1148 = .ok (.aload_n 2, 1) := dLx dLc_3 (i := 238) (q := (1148, (.aload_n 2, 1))) rfl
theorem dL_law_1149 : decode cL_law 1149 = .ok (.aload_n 0, 1) := dLx dLc_3 (i := 239) (q := (1149, (.aload_n 0, 1))) rfl
theorem dL_law_1150 : decode cL_law 1150 = .ok (.iload 4, 2) := dLx dLc_3 (i := 240) (q := (1150, (.iload 4, 2))) rfl
theorem dL_law_1152 : decode cL_law 1152 = .ok (.iconst 1, 1) := dLx dLc_3 (i := 241) (q := (1152, (.iconst 1, 1))) rfl
theorem dL_law_1153 : decode cL_law 1153 = .ok (.iadd, 1) := dLx dLc_3 (i := 242) (q := (1153, (.iadd, 1))) rfl
theorem dL_law_1154 : decode cL_law 1154 = .ok (.iaload, 1) := dLx dLc_3 (i := 243) (q := (1154, (.iaload, 1))) rfl
theorem dL_law_1155 : decode cL_law 1155 = .ok (.aload_n 0, 1) := dLx dLc_3 (i := 244) (q := (1155, (.aload_n 0, 1))) rfl
theorem dL_law_1156 : decode cL_law 1156 = .ok (.iload 4, 2) := dLx dLc_3 (i := 245) (q := (1156, (.iload 4, 2))) rfl
theorem dL_law_1158 : decode cL_law 1158 = .ok (.iconst 2, 1) := dLx dLc_3 (i := 246) (q := (1158, (.iconst 2, 1))) rfl
theorem dL_law_1159 : decode cL_law 1159 = .ok (.iadd, 1) := dLx dLc_3 (i := 247) (q := (1159, (.iadd, 1))) rfl
theorem dL_law_1160 : decode cL_law 1160 = .ok (.iaload, 1) := dLx dLc_3 (i := 248) (q := (1160, (.iaload, 1))) rfl
theorem dL_law_1161 : decode cL_law 1161 = .ok (.aload_n 0, 1) := dLx dLc_3 (i := 249) (q := (1161, (.aload_n 0, 1))) rfl
theorem dL_law_1162 : decode cL_law 1162 = .ok (.iload 4, 2) := dLx dLc_3 (i := 250) (q := (1162, (.iload 4, 2))) rfl
theorem dL_law_1164 : decode cL_law 1164 = .ok (.iconst 3, 1) := dLx dLc_3 (i := 251) (q := (1164, (.iconst 3, 1))) rfl
theorem dL_law_1165 : decode cL_law 1165 = .ok (.iadd, 1) := dLx dLc_3 (i := 252) (q := (1165, (.iadd, 1))) rfl
theorem dL_law_1166 : decode cL_law 1166 = .ok (.iaload, 1) := dLx dLc_3 (i := 253) (q := (1166, (.iaload, 1))) rfl
theorem dL_law_1167 : decode cL_law 1167 = .ok (.aload_n 0, 1) := dLx dLc_3 (i := 254) (q := (1167, (.aload_n 0, 1))) rfl
theorem dL_law_1168 : decode cL_law 1168 = .ok (.iload 4, 2) := dLx dLc_3 (i := 255) (q := (1168, (.iload 4, 2))) rfl
theorem dL_law_1170 : decode cL_law 1170 = .ok (.iconst 4, 1) := dLx dLc_3 (i := 256) (q := (1170, (.iconst 4, 1))) rfl
theorem dL_law_1171 : decode cL_law 1171 = .ok (.iadd, 1) := dLx dLc_3 (i := 257) (q := (1171, (.iadd, 1))) rfl
theorem dL_law_1172 : decode cL_law 1172 = .ok (.iaload, 1) := dLx dLc_3 (i := 258) (q := (1172, (.iaload, 1))) rfl
theorem dL_law_1173 : decode cL_law 1173 = .ok (.ifCond .eq 7, 3) := dLx dLc_3 (i := 259) (q := (1173, (.ifCond .eq 7, 3))) rfl
theorem dL_law_1176 : decode cL_law 1176 = .ok (.iconst 1, 1) := dLx dLc_3 (i := 260) (q := (1176, (.iconst 1, 1))) rfl
theorem dL_law_1177 : decode cL_law 1177 = .ok (.goto 4, 3) := dLx dLc_3 (i := 261) (q := (1177, (.goto 4, 3))) rfl
theorem dL_law_1180 : decode cL_law 1180 = .ok (.iconst 0, 1) := dLx dLc_3 (i := 262) (q := (1180, (.iconst 0, 1))) rfl
theorem dL_law_1181 : decode cL_law 1181 = .ok (.aload_n 0, 1) := dLx dLc_3 (i := 263) (q := (1181, (.aload_n 0, 1))) rfl
theorem dL_law_1182 : decode cL_law 1182 = .ok (.iload 4, 2) := dLx dLc_3 (i := 264) (q := (1182, (.iload 4, 2))) rfl
theorem dL_law_1184 : decode cL_law 1184 = .ok (.iconst 5, 1) := dLx dLc_3 (i := 265) (q := (1184, (.iconst 5, 1))) rfl
theorem dL_law_1185 : decode cL_law 1185 = .ok (.iadd, 1) := dLx dLc_3 (i := 266) (q := (1185, (.iadd, 1))) rfl
theorem dL_law_1186 : decode cL_law 1186 = .ok (.iaload, 1) := dLx dLc_3 (i := 267) (q := (1186, (.iaload, 1))) rfl
theorem dL_law_1187 : decode cL_law 1187 = .ok (.ifCond .eq 7, 3) := dLx dLc_3 (i := 268) (q := (1187, (.ifCond .eq 7, 3))) rfl
theorem dL_law_1190 : decode cL_law 1190 = .ok (.iconst 1, 1) := dLx dLc_3 (i := 269) (q := (1190, (.iconst 1, 1))) rfl
theorem dL_law_1191 : decode cL_law 1191 = .ok (.goto 4, 3) := dLx dLc_3 (i := 270) (q := (1191, (.goto 4, 3))) rfl
theorem dL_law_1194 : decode cL_law 1194 = .ok (.iconst 0, 1) := dLx dLc_3 (i := 271) (q := (1194, (.iconst 0, 1))) rfl
theorem dL_law_1195 : decode cL_law 1195 = .ok (.invokevirtual 243, 3) := dLx dLc_3 (i := 272) (q := (1195, (.invokevirtual 243, 3))) rfl
theorem dL_law_1198 : decode cL_law 1198 = .ok (.istore 6, 2) := dLx dLc_3 (i := 273) (q := (1198, (.istore 6, 2))) rfl
theorem dL_law_1200 : decode cL_law 1200 = .ok (.aload_n 2, 1) := dLx dLc_3 (i := 274) (q := (1200, (.aload_n 2, 1))) rfl
theorem dL_law_1201 : decode cL_law 1201 = .ok (.invokevirtual 201, 3) := dLx dLc_3 (i := 275) (q := (1201, (.invokevirtual 201, 3))) rfl
theorem dL_law_1204 : decode cL_law 1204 = .ok (.iload 5, 2) := dLx dLc_3 (i := 276) (q := (1204, (.iload 5, 2))) rfl
theorem dL_law_1206 : decode cL_law 1206 = .ok (.if_icmp .eq 5, 3) := dLx dLc_3 (i := 277) (q := (1206, (.if_icmp .eq 5, 3))) rfl
theorem dL_law_1209 : decode cL_law 1209 = .ok (.iconst 0, 1) := dLx dLc_3 (i := 278) (q := (1209, (.iconst 0, 1))) rfl
theorem dL_law_1210 : decode cL_law 1210 = .ok (.ireturn, 1) := dLx dLc_3 (i := 279) (q := (1210, (.ireturn, 1))) rfl
theorem dL_law_1211 : decode cL_law 1211 = .ok (.iload 5, 2) := dLx dLc_3 (i := 280) (q := (1211, (.iload 5, 2))) rfl
theorem dL_law_1213 : decode cL_law 1213 = .ok (.ifCond .ne 15, 3) := dLx dLc_3 (i := 281) (q := (1213, (.ifCond .ne 15, 3))) rfl
theorem dL_law_1216 : decode cL_law 1216 = .ok (.aload_n 3, 1) := dLx dLc_3 (i := 282) (q := (1216, (.aload_n 3, 1))) rfl
theorem dL_law_1217 : decode cL_law 1217 = .ok (.iconst 0, 1) := dLx dLc_3 (i := 283) (q := (1217, (.iconst 0, 1))) rfl
theorem dL_law_1218 : decode cL_law 1218 = .ok (.laload, 1) := dLx dLc_3 (i := 284) (q := (1218, (.laload, 1))) rfl
theorem dL_law_1219 : decode cL_law 1219 = .ok (.iload 6, 2) := dLx dLc_3 (i := 285) (q := (1219, (.iload 6, 2))) rfl
theorem dL_law_1221 : decode cL_law 1221 = .ok (.i2l, 1) := dLx dLc_3 (i := 286) (q := (1221, (.i2l, 1))) rfl
theorem dL_law_1222 : decode cL_law 1222 = .ok (.lcmp, 1) := dLx dLc_3 (i := 287) (q := (1222, (.lcmp, 1))) rfl
theorem dL_law_1223 : decode cL_law 1223 = .ok (.ifCond .eq 5, 3) := dLx dLc_3 (i := 288) (q := (1223, (.ifCond .eq 5, 3))) rfl
theorem dL_law_1226 : decode cL_law 1226 = .ok (.iconst 0, 1) := dLx dLc_3 (i := 289) (q := (1226, (.iconst 0, 1))) rfl
theorem dL_law_1227 : decode cL_law 1227 = .ok (.ireturn, 1) := dLx dLc_3 (i := 290) (q := (1227, (.ireturn, 1))) rfl
theorem dL_law_1228 : decode cL_law 1228 = .ok (.goto 3199, 3) := dLx dLc_3 (i := 291) (q := (1228, (.goto 3199, 3))) rfl
theorem dL_law_1231 : decode cL_law 1231 = .ok (.aload_n 1, 1) := dLx dLc_3 (i := 292) (q := (1231, (.aload_n 1, 1))) rfl
theorem dL_law_1232 : decode cL_law 1232 = .ok (.aload_n 0, 1) := dLx dLc_3 (i := 293) (q := (1232, (.aload_n 0, 1))) rfl
theorem dL_law_1233 : decode cL_law 1233 = .ok (.iload 4, 2) := dLx dLc_3 (i := 294) (q := (1233, (.iload 4, 2))) rfl
theorem dL_law_1235 : decode cL_law 1235 = .ok (.iconst 1, 1) := dLx dLc_3 (i := 295) (q := (1235, (.iconst 1, 1))) rfl
theorem dL_law_1236 : decode cL_law 1236 = .ok (.iadd, 1) := dLx dLc_3 (i := 296) (q := (1236, (.iadd, 1))) rfl
theorem dL_law_1237 : decode cL_law 1237 = .ok (.iaload, 1) := dLx dLc_3 (i := 297) (q := (1237, (.iaload, 1))) rfl
theorem dL_law_1238 : decode cL_law 1238 = .ok (.aload_n 0, 1) := dLx dLc_3 (i := 298) (q := (1238, (.aload_n 0, 1))) rfl
theorem dL_law_1239 : decode cL_law 1239 = .ok (.iload 4, 2) := dLx dLc_3 (i := 299) (q := (1239, (.iload 4, 2))) rfl
def dLt_4 : List (Nat × (Instr × Nat)) := [(1241, (.iconst 2, 1)), (1242, (.iadd, 1)), (1243, (.iaload, 1)), (1244, (.aload_n 0, 1)), (1245, (.iload 4, 2)), (1247, (.iconst 3, 1)), (1248, (.iadd, 1)), (1249, (.iaload, 1)), (1250, (.aload_n 0, 1)), (1251, (.iload 4, 2)), (1253, (.iconst 4, 1)), (1254, (.iadd, 1)), (1255, (.iaload, 1)), (1256, (.ifCond .eq 7, 3)), (1259, (.iconst 1, 1)), (1260, (.goto 4, 3)), (1263, (.iconst 0, 1)), (1264, (.aload_n 0, 1)), (1265, (.iload 4, 2)), (1267, (.iconst 5, 1)), (1268, (.iadd, 1)), (1269, (.iaload, 1)), (1270, (.ifCond .eq 7, 3)), (1273, (.iconst 1, 1)), (1274, (.goto 4, 3)), (1277, (.iconst 0, 1)), (1278, (.aload_n 3, 1)), (1279, (.invokestatic 244, 3)), (1282, (.istore 5, 2)), (1284, (.aload_n 2, 1)), (1285, (.aload_n 0, 1)), (1286, (.iload 4, 2)), (1288, (.iconst 1, 1)), (1289, (.iadd, 1)), (1290, (.iaload, 1)), (1291, (.aload_n 0, 1)), (1292, (.iload 4, 2)), (1294, (.iconst 2, 1)), (1295, (.iadd, 1)), (1296, (.iaload, 1)), (1297, (.aload_n 0, 1)), (1298, (.iload 4, 2)), (1300, (.iconst 3, 1)), (1301, (.iadd, 1)), (1302, (.iaload, 1)), (1303, (.aload_n 0, 1)), (1304, (.iload 4, 2)), (1306, (.iconst 4, 1)), (1307, (.iadd, 1)), (1308, (.iaload, 1)), (1309, (.ifCond .eq 7, 3)), (1312, (.iconst 1, 1)), (1313, (.goto 4, 3)), (1316, (.iconst 0, 1)), (1317, (.aload_n 0, 1)), (1318, (.iload 4, 2)), (1320, (.iconst 5, 1)), (1321, (.iadd, 1)), (1322, (.iaload, 1)), (1323, (.ifCond .eq 7, 3)), (1326, (.iconst 1, 1)), (1327, (.goto 4, 3)), (1330, (.iconst 0, 1)), (1331, (.invokevirtual 246, 3)), (1334, (.istore 6, 2)), (1336, (.aload_n 2, 1)), (1337, (.invokevirtual 201, 3)), (1340, (.iload 5, 2)), (1342, (.if_icmp .eq 5, 3)), (1345, (.iconst 0, 1)), (1346, (.ireturn, 1)), (1347, (.iload 5, 2)), (1349, (.ifCond .ne 15, 3)), (1352, (.aload_n 3, 1)), (1353, (.iconst 0, 1)), (1354, (.laload, 1)), (1355, (.iload 6, 2)), (1357, (.i2l, 1)), (1358, (.lcmp, 1)), (1359, (.ifCond .eq 5, 3)), (1362, (.iconst 0, 1)), (1363, (.ireturn, 1)), (1364, (.goto 3063, 3)), (1367, (.aload_n 1, 1)), (1368, (.aload_n 0, 1)), (1369, (.iload 4, 2)), (1371, (.iconst 1, 1)), (1372, (.iadd, 1)), (1373, (.iaload, 1)), (1374, (.aload_n 0, 1)), (1375, (.iload 4, 2)), (1377, (.iconst 2, 1)), (1378, (.iadd, 1)), (1379, (.iaload, 1)), (1380, (.aload_n 0, 1)), (1381, (.iload 4, 2)), (1383, (.iconst 3, 1)), (1384, (.iadd, 1)), (1385, (.iaload, 1)), (1386, (.ifCond .eq 7, 3)), (1389, (.iconst 1, 1)), (1390, (.goto 4, 3)), (1393, (.iconst 0, 1)), (1394, (.aload_n 0, 1)), (1395, (.iload 4, 2)), (1397, (.iconst 4, 1)), (1398, (.iadd, 1)), (1399, (.iaload, 1)), (1400, (.ifCond .eq 7, 3)), (1403, (.iconst 1, 1)), (1404, (.goto 4, 3)), (1407, (.iconst 0, 1)), (1408, (.aload_n 3, 1)), (1409, (.invokestatic 247, 3)), (1412, (.istore 5, 2)), (1414, (.aload_n 2, 1)), (1415, (.aload_n 0, 1)), (1416, (.iload 4, 2)), (1418, (.iconst 1, 1)), (1419, (.iadd, 1)), (1420, (.iaload, 1)), (1421, (.aload_n 0, 1)), (1422, (.iload 4, 2)), (1424, (.iconst 2, 1)), (1425, (.iadd, 1)), (1426, (.iaload, 1)), (1427, (.aload_n 0, 1)), (1428, (.iload 4, 2)), (1430, (.iconst 3, 1)), (1431, (.iadd, 1)), (1432, (.iaload, 1)), (1433, (.ifCond .eq 7, 3)), (1436, (.iconst 1, 1)), (1437, (.goto 4, 3)), (1440, (.iconst 0, 1)), (1441, (.aload_n 0, 1)), (1442, (.iload 4, 2)), (1444, (.iconst 4, 1)), (1445, (.iadd, 1)), (1446, (.iaload, 1)), (1447, (.ifCond .eq 7, 3)), (1450, (.iconst 1, 1)), (1451, (.goto 4, 3)), (1454, (.iconst 0, 1)), (1455, (.invokevirtual 250, 3)), (1458, (.istore 6, 2)), (1460, (.aload_n 2, 1)), (1461, (.invokevirtual 201, 3)), (1464, (.iload 5, 2)), (1466, (.if_icmp .eq 5, 3)), (1469, (.iconst 0, 1)), (1470, (.ireturn, 1)), (1471, (.iload 5, 2)), (1473, (.ifCond .ne 15, 3)), (1476, (.aload_n 3, 1)), (1477, (.iconst 0, 1)), (1478, (.laload, 1)), (1479, (.iload 6, 2)), (1481, (.i2l, 1)), (1482, (.lcmp, 1)), (1483, (.ifCond .eq 5, 3)), (1486, (.iconst 0, 1)), (1487, (.ireturn, 1)), (1488, (.goto 2939, 3)), (1491, (.aload_n 1, 1)), (1492, (.aload_n 0, 1)), (1493, (.iload 4, 2)), (1495, (.iconst 1, 1)), (1496, (.iadd, 1)), (1497, (.iaload, 1)), (1498, (.aload_n 0, 1)), (1499, (.iload 4, 2)), (1501, (.iconst 2, 1)), (1502, (.iadd, 1)), (1503, (.iaload, 1)), (1504, (.aload_n 0, 1)), (1505, (.iload 4, 2)), (1507, (.iconst 3, 1)), (1508, (.iadd, 1)), (1509, (.iaload, 1)), (1510, (.ifCond .eq 7, 3)), (1513, (.iconst 1, 1)), (1514, (.goto 4, 3)), (1517, (.iconst 0, 1)), (1518, (.aload_n 0, 1)), (1519, (.iload 4, 2)), (1521, (.iconst 4, 1)), (1522, (.iadd, 1)), (1523, (.iaload, 1)), (1524, (.ifCond .eq 7, 3)), (1527, (.iconst 1, 1)), (1528, (.goto 4, 3)), (1531, (.iconst 0, 1)), (1532, (.aload_n 3, 1)), (1533, (.invokestatic 251, 3)), (1536, (.istore 5, 2)), (1538, (.aload_n 2, 1)), (1539, (.aload_n 0, 1)), (1540, (.iload 4, 2)), (1542, (.iconst 1, 1)), (1543, (.iadd, 1)), (1544, (.iaload, 1)), (1545, (.aload_n 0, 1)), (1546, (.iload 4, 2)), (1548, (.iconst 2, 1)), (1549, (.iadd, 1)), (1550, (.iaload, 1)), (1551, (.aload_n 0, 1)), (1552, (.iload 4, 2)), (1554, (.iconst 3, 1)), (1555, (.iadd, 1)), (1556, (.iaload, 1)), (1557, (.ifCond .eq 7, 3)), (1560, (.iconst 1, 1)), (1561, (.goto 4, 3)), (1564, (.iconst 0, 1)), (1565, (.aload_n 0, 1)), (1566, (.iload 4, 2)), (1568, (.iconst 4, 1)), (1569, (.iadd, 1)), (1570, (.iaload, 1)), (1571, (.ifCond .eq 7, 3)), (1574, (.iconst 1, 1)), (1575, (.goto 4, 3)), (1578, (.iconst 0, 1)), (1579, (.invokevirtual 253, 3)), (1582, (.istore 6, 2)), (1584, (.aload_n 2, 1)), (1585, (.invokevirtual 201, 3)), (1588, (.iload 5, 2)), (1590, (.if_icmp .eq 5, 3)), (1593, (.iconst 0, 1)), (1594, (.ireturn, 1)), (1595, (.iload 5, 2)), (1597, (.ifCond .ne 15, 3)), (1600, (.aload_n 3, 1)), (1601, (.iconst 0, 1)), (1602, (.laload, 1)), (1603, (.iload 6, 2)), (1605, (.i2l, 1)), (1606, (.lcmp, 1)), (1607, (.ifCond .eq 5, 3)), (1610, (.iconst 0, 1)), (1611, (.ireturn, 1)), (1612, (.goto 2815, 3)), (1615, (.aload_n 1, 1)), (1616, (.aload_n 0, 1)), (1617, (.iload 4, 2)), (1619, (.iconst 1, 1)), (1620, (.iadd, 1)), (1621, (.iaload, 1)), (1622, (.aload_n 0, 1)), (1623, (.iload 4, 2)), (1625, (.iconst 2, 1)), (1626, (.iadd, 1)), (1627, (.iaload, 1)), (1628, (.aload_n 3, 1)), (1629, (.invokestatic 254, 3)), (1632, (.istore 5, 2)), (1634, (.aload_n 2, 1)), (1635, (.aload_n 0, 1)), (1636, (.iload 4, 2)), (1638, (.iconst 1, 1)), (1639, (.iadd, 1)), (1640, (.iaload, 1)), (1641, (.aload_n 0, 1)), (1642, (.iload 4, 2)), (1644, (.iconst 2, 1)), (1645, (.iadd, 1)), (1646, (.iaload, 1)), (1647, (.invokevirtual 256, 3)), (1650, (.istore 6, 2)), (1652, (.aload_n 2, 1)), (1653, (.invokevirtual 201, 3)), (1656, (.iload 5, 2)), (1658, (.if_icmp .eq 5, 3)), (1661, (.iconst 0, 1)), (1662, (.ireturn, 1)), (1663, (.iload 5, 2)), (1665, (.ifCond .ne 15, 3)), (1668, (.aload_n 3, 1)), (1669, (.iconst 0, 1)), (1670, (.laload, 1)), (1671, (.iload 6, 2)), (1673, (.i2l, 1)), (1674, (.lcmp, 1)), (1675, (.ifCond .eq 5, 3)), (1678, (.iconst 0, 1)), (1679, (.ireturn, 1)), (1680, (.goto 2747, 3)), (1683, (.aload_n 1, 1)), (1684, (.aload_n 0, 1)), (1685, (.iload 4, 2)), (1687, (.iconst 1, 1)), (1688, (.iadd, 1)), (1689, (.iaload, 1)), (1690, (.aload_n 0, 1)), (1691, (.iload 4, 2)), (1693, (.iconst 2, 1)), (1694, (.iadd, 1))]
set_option maxRecDepth 100000 in
theorem dLc_4 : ldg (cL_law.data.toList.drop 1241) 0 1241 dLt_4 = true := by decide +kernel
theorem dL_law_1241 : decode cL_law 1241 = .ok (.iconst 2, 1) := dLx dLc_4 (i := 0) (q := (1241, (.iconst 2, 1))) rfl
theorem dL_law_1242 : decode cL_law 1242 = .ok (.iadd, 1) := dLx dLc_4 (i := 1) (q := (1242, (.iadd, 1))) rfl
theorem dL_law_1243 : decode cL_law 1243 = .ok (.iaload, 1) := dLx dLc_4 (i := 2) (q := (1243, (.iaload, 1))) rfl
theorem dL_law_1244 : decode cL_law 1244 = .ok (.aload_n 0, 1) := dLx dLc_4 (i := 3) (q := (1244, (.aload_n 0, 1))) rfl
theorem dL_law_1245 : decode cL_law 1245 = .ok (.iload 4, 2) := dLx dLc_4 (i := 4) (q := (1245, (.iload 4, 2))) rfl
theorem dL_law_1247 : decode cL_law 1247 = .ok (.iconst 3, 1) := dLx dLc_4 (i := 5) (q := (1247, (.iconst 3, 1))) rfl
theorem dL_law_1248 : decode cL_law 1248 = .ok (.iadd, 1) := dLx dLc_4 (i := 6) (q := (1248, (.iadd, 1))) rfl
theorem dL_law_1249 : decode cL_law 1249 = .ok (.iaload, 1) := dLx dLc_4 (i := 7) (q := (1249, (.iaload, 1))) rfl
theorem dL_law_1250 : decode cL_law 1250 = .ok (.aload_n 0, 1) := dLx dLc_4 (i := 8) (q := (1250, (.aload_n 0, 1))) rfl
theorem dL_law_1251 : decode cL_law 1251 = .ok (.iload 4, 2) := dLx dLc_4 (i := 9) (q := (1251, (.iload 4, 2))) rfl
theorem dL_law_1253 : decode cL_law 1253 = .ok (.iconst 4, 1) := dLx dLc_4 (i := 10) (q := (1253, (.iconst 4, 1))) rfl
theorem dL_law_1254 : decode cL_law 1254 = .ok (.iadd, 1) := dLx dLc_4 (i := 11) (q := (1254, (.iadd, 1))) rfl
theorem dL_law_1255 : decode cL_law 1255 = .ok (.iaload, 1) := dLx dLc_4 (i := 12) (q := (1255, (.iaload, 1))) rfl
theorem dL_law_1256 : decode cL_law 1256 = .ok (.ifCond .eq 7, 3) := dLx dLc_4 (i := 13) (q := (1256, (.ifCond .eq 7, 3))) rfl
theorem dL_law_1259 : decode cL_law 1259 = .ok (.iconst 1, 1) := dLx dLc_4 (i := 14) (q := (1259, (.iconst 1, 1))) rfl
theorem dL_law_1260 : decode cL_law 1260 = .ok (.goto 4, 3) := dLx dLc_4 (i := 15) (q := (1260, (.goto 4, 3))) rfl
theorem dL_law_1263 : decode cL_law 1263 = .ok (.iconst 0, 1) := dLx dLc_4 (i := 16) (q := (1263, (.iconst 0, 1))) rfl
theorem dL_law_1264 : decode cL_law 1264 = .ok (.aload_n 0, 1) := dLx dLc_4 (i := 17) (q := (1264, (.aload_n 0, 1))) rfl
theorem dL_law_1265 : decode cL_law 1265 = .ok (.iload 4, 2) := dLx dLc_4 (i := 18) (q := (1265, (.iload 4, 2))) rfl
theorem dL_law_1267 : decode cL_law 1267 = .ok (.iconst 5, 1) := dLx dLc_4 (i := 19) (q := (1267, (.iconst 5, 1))) rfl
theorem dL_law_1268 : decode cL_law 1268 = .ok (.iadd, 1) := dLx dLc_4 (i := 20) (q := (1268, (.iadd, 1))) rfl
theorem dL_law_1269 : decode cL_law 1269 = .ok (.iaload, 1) := dLx dLc_4 (i := 21) (q := (1269, (.iaload, 1))) rfl
theorem dL_law_1270 : decode cL_law 1270 = .ok (.ifCond .eq 7, 3) := dLx dLc_4 (i := 22) (q := (1270, (.ifCond .eq 7, 3))) rfl
theorem dL_law_1273 : decode cL_law 1273 = .ok (.iconst 1, 1) := dLx dLc_4 (i := 23) (q := (1273, (.iconst 1, 1))) rfl
theorem dL_law_1274 : decode cL_law 1274 = .ok (.goto 4, 3) := dLx dLc_4 (i := 24) (q := (1274, (.goto 4, 3))) rfl
theorem dL_law_1277 : decode cL_law 1277 = .ok (.iconst 0, 1) := dLx dLc_4 (i := 25) (q := (1277, (.iconst 0, 1))) rfl
theorem dL_law_1278 : decode cL_law 1278 = .ok (.aload_n 3, 1) := dLx dLc_4 (i := 26) (q := (1278, (.aload_n 3, 1))) rfl
theorem dL_law_1279 : decode cL_law 1279 = .ok (.invokestatic 244, 3) := dLx dLc_4 (i := 27) (q := (1279, (.invokestatic 244, 3))) rfl
theorem dL_law_1282 : decode cL_law 1282 = .ok (.istore 5, 2) := dLx dLc_4 (i := 28) (q := (1282, (.istore 5, 2))) rfl
theorem dL_law_1284 : decode cL_law 1284 = .ok (.aload_n 2, 1) := dLx dLc_4 (i := 29) (q := (1284, (.aload_n 2, 1))) rfl
theorem dL_law_1285 : decode cL_law 1285 = .ok (.aload_n 0, 1) := dLx dLc_4 (i := 30) (q := (1285, (.aload_n 0, 1))) rfl
theorem dL_law_1286 : decode cL_law 1286 = .ok (.iload 4, 2) := dLx dLc_4 (i := 31) (q := (1286, (.iload 4, 2))) rfl
theorem dL_law_1288 : decode cL_law 1288 = .ok (.iconst 1, 1) := dLx dLc_4 (i := 32) (q := (1288, (.iconst 1, 1))) rfl
theorem dL_law_1289 : decode cL_law 1289 = .ok (.iadd, 1) := dLx dLc_4 (i := 33) (q := (1289, (.iadd, 1))) rfl
theorem dL_law_1290 : decode cL_law 1290 = .ok (.iaload, 1) := dLx dLc_4 (i := 34) (q := (1290, (.iaload, 1))) rfl
theorem dL_law_1291 : decode cL_law 1291 = .ok (.aload_n 0, 1) := dLx dLc_4 (i := 35) (q := (1291, (.aload_n 0, 1))) rfl
theorem dL_law_1292 : decode cL_law 1292 = .ok (.iload 4, 2) := dLx dLc_4 (i := 36) (q := (1292, (.iload 4, 2))) rfl
theorem dL_law_1294 : decode cL_law 1294 = .ok (.iconst 2, 1) := dLx dLc_4 (i := 37) (q := (1294, (.iconst 2, 1))) rfl
theorem dL_law_1295 : decode cL_law 1295 = .ok (.iadd, 1) := dLx dLc_4 (i := 38) (q := (1295, (.iadd, 1))) rfl
theorem dL_law_1296 : decode cL_law 1296 = .ok (.iaload, 1) := dLx dLc_4 (i := 39) (q := (1296, (.iaload, 1))) rfl
theorem dL_law_1297 : decode cL_law 1297 = .ok (.aload_n 0, 1) := dLx dLc_4 (i := 40) (q := (1297, (.aload_n 0, 1))) rfl
theorem dL_law_1298 : decode cL_law 1298 = .ok (.iload 4, 2) := dLx dLc_4 (i := 41) (q := (1298, (.iload 4, 2))) rfl
theorem dL_law_1300 : decode cL_law 1300 = .ok (.iconst 3, 1) := dLx dLc_4 (i := 42) (q := (1300, (.iconst 3, 1))) rfl
theorem dL_law_1301 : decode cL_law 1301 = .ok (.iadd, 1) := dLx dLc_4 (i := 43) (q := (1301, (.iadd, 1))) rfl
theorem dL_law_1302 : decode cL_law 1302 = .ok (.iaload, 1) := dLx dLc_4 (i := 44) (q := (1302, (.iaload, 1))) rfl
theorem dL_law_1303 : decode cL_law 1303 = .ok (.aload_n 0, 1) := dLx dLc_4 (i := 45) (q := (1303, (.aload_n 0, 1))) rfl
theorem dL_law_1304 : decode cL_law 1304 = .ok (.iload 4, 2) := dLx dLc_4 (i := 46) (q := (1304, (.iload 4, 2))) rfl
theorem dL_law_1306 : decode cL_law 1306 = .ok (.iconst 4, 1) := dLx dLc_4 (i := 47) (q := (1306, (.iconst 4, 1))) rfl
theorem dL_law_1307 : decode cL_law 1307 = .ok (.iadd, 1) := dLx dLc_4 (i := 48) (q := (1307, (.iadd, 1))) rfl
theorem dL_law_1308 : decode cL_law 1308 = .ok (.iaload, 1) := dLx dLc_4 (i := 49) (q := (1308, (.iaload, 1))) rfl
theorem dL_law_1309 : decode cL_law 1309 = .ok (.ifCond .eq 7, 3) := dLx dLc_4 (i := 50) (q := (1309, (.ifCond .eq 7, 3))) rfl
theorem dL_law_1312 : decode cL_law 1312 = .ok (.iconst 1, 1) := dLx dLc_4 (i := 51) (q := (1312, (.iconst 1, 1))) rfl
theorem dL_law_1313 : decode cL_law 1313 = .ok (.goto 4, 3) := dLx dLc_4 (i := 52) (q := (1313, (.goto 4, 3))) rfl
theorem dL_law_1316 : decode cL_law 1316 = .ok (.iconst 0, 1) := dLx dLc_4 (i := 53) (q := (1316, (.iconst 0, 1))) rfl
theorem dL_law_1317 : decode cL_law 1317 = .ok (.aload_n 0, 1) := dLx dLc_4 (i := 54) (q := (1317, (.aload_n 0, 1))) rfl
theorem dL_law_1318 : decode cL_law 1318 = .ok (.iload 4, 2) := dLx dLc_4 (i := 55) (q := (1318, (.iload 4, 2))) rfl
theorem dL_law_1320 : decode cL_law 1320 = .ok (.iconst 5, 1) := dLx dLc_4 (i := 56) (q := (1320, (.iconst 5, 1))) rfl
theorem dL_law_1321 : decode cL_law 1321 = .ok (.iadd, 1) := dLx dLc_4 (i := 57) (q := (1321, (.iadd, 1))) rfl
theorem dL_law_1322 : decode cL_law 1322 = .ok (.iaload, 1) := dLx dLc_4 (i := 58) (q := (1322, (.iaload, 1))) rfl
theorem dL_law_1323 : decode cL_law 1323 = .ok (.ifCond .eq 7, 3) := dLx dLc_4 (i := 59) (q := (1323, (.ifCond .eq 7, 3))) rfl
theorem dL_law_1326 : decode cL_law 1326 = .ok (.iconst 1, 1) := dLx dLc_4 (i := 60) (q := (1326, (.iconst 1, 1))) rfl
theorem dL_law_1327 : decode cL_law 1327 = .ok (.goto 4, 3) := dLx dLc_4 (i := 61) (q := (1327, (.goto 4, 3))) rfl
theorem dL_law_1330 : decode cL_law 1330 = .ok (.iconst 0, 1) := dLx dLc_4 (i := 62) (q := (1330, (.iconst 0, 1))) rfl
theorem dL_law_1331 : decode cL_law 1331 = .ok (.invokevirtual 246, 3) := dLx dLc_4 (i := 63) (q := (1331, (.invokevirtual 246, 3))) rfl
theorem dL_law_1334 : decode cL_law 1334 = .ok (.istore 6, 2) := dLx dLc_4 (i := 64) (q := (1334, (.istore 6, 2))) rfl
theorem dL_law_1336 : decode cL_law 1336 = .ok (.aload_n 2, 1) := dLx dLc_4 (i := 65) (q := (1336, (.aload_n 2, 1))) rfl
theorem dL_law_1337 : decode cL_law 1337 = .ok (.invokevirtual 201, 3) := dLx dLc_4 (i := 66) (q := (1337, (.invokevirtual 201, 3))) rfl
theorem dL_law_1340 : decode cL_law 1340 = .ok (.iload 5, 2) := dLx dLc_4 (i := 67) (q := (1340, (.iload 5, 2))) rfl
theorem dL_law_1342 : decode cL_law 1342 = .ok (.if_icmp .eq 5, 3) := dLx dLc_4 (i := 68) (q := (1342, (.if_icmp .eq 5, 3))) rfl
theorem dL_law_1345 : decode cL_law 1345 = .ok (.iconst 0, 1) := dLx dLc_4 (i := 69) (q := (1345, (.iconst 0, 1))) rfl
theorem dL_law_1346 : decode cL_law 1346 = .ok (.ireturn, 1) := dLx dLc_4 (i := 70) (q := (1346, (.ireturn, 1))) rfl
theorem dL_law_1347 : decode cL_law 1347 = .ok (.iload 5, 2) := dLx dLc_4 (i := 71) (q := (1347, (.iload 5, 2))) rfl
theorem dL_law_1349 : decode cL_law 1349 = .ok (.ifCond .ne 15, 3) := dLx dLc_4 (i := 72) (q := (1349, (.ifCond .ne 15, 3))) rfl
theorem dL_law_1352 : decode cL_law 1352 = .ok (.aload_n 3, 1) := dLx dLc_4 (i := 73) (q := (1352, (.aload_n 3, 1))) rfl
theorem dL_law_1353 : decode cL_law 1353 = .ok (.iconst 0, 1) := dLx dLc_4 (i := 74) (q := (1353, (.iconst 0, 1))) rfl
theorem dL_law_1354 : decode cL_law 1354 = .ok (.laload, 1) := dLx dLc_4 (i := 75) (q := (1354, (.laload, 1))) rfl
theorem dL_law_1355 : decode cL_law 1355 = .ok (.iload 6, 2) := dLx dLc_4 (i := 76) (q := (1355, (.iload 6, 2))) rfl
theorem dL_law_1357 : decode cL_law 1357 = .ok (.i2l, 1) := dLx dLc_4 (i := 77) (q := (1357, (.i2l, 1))) rfl
theorem dL_law_1358 : decode cL_law 1358 = .ok (.lcmp, 1) := dLx dLc_4 (i := 78) (q := (1358, (.lcmp, 1))) rfl
theorem dL_law_1359 : decode cL_law 1359 = .ok (.ifCond .eq 5, 3) := dLx dLc_4 (i := 79) (q := (1359, (.ifCond .eq 5, 3))) rfl
theorem dL_law_1362 : decode cL_law 1362 = .ok (.iconst 0, 1) := dLx dLc_4 (i := 80) (q := (1362, (.iconst 0, 1))) rfl
theorem dL_law_1363 : decode cL_law 1363 = .ok (.ireturn, 1) := dLx dLc_4 (i := 81) (q := (1363, (.ireturn, 1))) rfl
theorem dL_law_1364 : decode cL_law 1364 = .ok (.goto 3063, 3) := dLx dLc_4 (i := 82) (q := (1364, (.goto 3063, 3))) rfl
theorem dL_law_1367 : decode cL_law 1367 = .ok (.aload_n 1, 1) := dLx dLc_4 (i := 83) (q := (1367, (.aload_n 1, 1))) rfl
theorem dL_law_1368 : decode cL_law 1368 = .ok (.aload_n 0, 1) := dLx dLc_4 (i := 84) (q := (1368, (.aload_n 0, 1))) rfl
theorem dL_law_1369 : decode cL_law 1369 = .ok (.iload 4, 2) := dLx dLc_4 (i := 85) (q := (1369, (.iload 4, 2))) rfl
theorem dL_law_1371 : decode cL_law 1371 = .ok (.iconst 1, 1) := dLx dLc_4 (i := 86) (q := (1371, (.iconst 1, 1))) rfl
theorem dL_law_1372 : decode cL_law 1372 = .ok (.iadd, 1) := dLx dLc_4 (i := 87) (q := (1372, (.iadd, 1))) rfl
theorem dL_law_1373 : decode cL_law 1373 = .ok (.iaload, 1) := dLx dLc_4 (i := 88) (q := (1373, (.iaload, 1))) rfl
theorem dL_law_1374 : decode cL_law 1374 = .ok (.aload_n 0, 1) := dLx dLc_4 (i := 89) (q := (1374, (.aload_n 0, 1))) rfl
theorem dL_law_1375 : decode cL_law 1375 = .ok (.iload 4, 2) := dLx dLc_4 (i := 90) (q := (1375, (.iload 4, 2))) rfl
theorem dL_law_1377 : decode cL_law 1377 = .ok (.iconst 2, 1) := dLx dLc_4 (i := 91) (q := (1377, (.iconst 2, 1))) rfl
theorem dL_law_1378 : decode cL_law 1378 = .ok (.iadd, 1) := dLx dLc_4 (i := 92) (q := (1378, (.iadd, 1))) rfl
theorem dL_law_1379 : decode cL_law 1379 = .ok (.iaload, 1) := dLx dLc_4 (i := 93) (q := (1379, (.iaload, 1))) rfl
theorem dL_law_1380 : decode cL_law 1380 = .ok (.aload_n 0, 1) := dLx dLc_4 (i := 94) (q := (1380, (.aload_n 0, 1))) rfl
theorem dL_law_1381 : decode cL_law 1381 = .ok (.iload 4, 2) := dLx dLc_4 (i := 95) (q := (1381, (.iload 4, 2))) rfl
theorem dL_law_1383 : decode cL_law 1383 = .ok (.iconst 3, 1) := dLx dLc_4 (i := 96) (q := (1383, (.iconst 3, 1))) rfl
theorem dL_law_1384 : decode cL_law 1384 = .ok (.iadd, 1) := dLx dLc_4 (i := 97) (q := (1384, (.iadd, 1))) rfl
theorem dL_law_1385 : decode cL_law 1385 = .ok (.iaload, 1) := dLx dLc_4 (i := 98) (q := (1385, (.iaload, 1))) rfl
theorem dL_law_1386 : decode cL_law 1386 = .ok (.ifCond .eq 7, 3) := dLx dLc_4 (i := 99) (q := (1386, (.ifCond .eq 7, 3))) rfl
theorem dL_law_1389 : decode cL_law 1389 = .ok (.iconst 1, 1) := dLx dLc_4 (i := 100) (q := (1389, (.iconst 1, 1))) rfl
theorem dL_law_1390 : decode cL_law 1390 = .ok (.goto 4, 3) := dLx dLc_4 (i := 101) (q := (1390, (.goto 4, 3))) rfl
theorem dL_law_1393 : decode cL_law 1393 = .ok (.iconst 0, 1) := dLx dLc_4 (i := 102) (q := (1393, (.iconst 0, 1))) rfl
theorem dL_law_1394 : decode cL_law 1394 = .ok (.aload_n 0, 1) := dLx dLc_4 (i := 103) (q := (1394, (.aload_n 0, 1))) rfl
theorem dL_law_1395 : decode cL_law 1395 = .ok (.iload 4, 2) := dLx dLc_4 (i := 104) (q := (1395, (.iload 4, 2))) rfl
theorem dL_law_1397 : decode cL_law 1397 = .ok (.iconst 4, 1) := dLx dLc_4 (i := 105) (q := (1397, (.iconst 4, 1))) rfl
theorem dL_law_1398 : decode cL_law 1398 = .ok (.iadd, 1) := dLx dLc_4 (i := 106) (q := (1398, (.iadd, 1))) rfl
theorem dL_law_1399 : decode cL_law 1399 = .ok (.iaload, 1) := dLx dLc_4 (i := 107) (q := (1399, (.iaload, 1))) rfl
theorem dL_law_1400 : decode cL_law 1400 = .ok (.ifCond .eq 7, 3) := dLx dLc_4 (i := 108) (q := (1400, (.ifCond .eq 7, 3))) rfl
theorem dL_law_1403 : decode cL_law 1403 = .ok (.iconst 1, 1) := dLx dLc_4 (i := 109) (q := (1403, (.iconst 1, 1))) rfl
theorem dL_law_1404 : decode cL_law 1404 = .ok (.goto 4, 3) := dLx dLc_4 (i := 110) (q := (1404, (.goto 4, 3))) rfl
theorem dL_law_1407 : decode cL_law 1407 = .ok (.iconst 0, 1) := dLx dLc_4 (i := 111) (q := (1407, (.iconst 0, 1))) rfl
theorem dL_law_1408 : decode cL_law 1408 = .ok (.aload_n 3, 1) := dLx dLc_4 (i := 112) (q := (1408, (.aload_n 3, 1))) rfl
theorem dL_law_1409 : decode cL_law 1409 = .ok (.invokestatic 247, 3) := dLx dLc_4 (i := 113) (q := (1409, (.invokestatic 247, 3))) rfl
theorem dL_law_1412 : decode cL_law 1412 = .ok (.istore 5, 2) := dLx dLc_4 (i := 114) (q := (1412, (.istore 5, 2))) rfl
theorem dL_law_1414 : decode cL_law 1414 = .ok (.aload_n 2, 1) := dLx dLc_4 (i := 115) (q := (1414, (.aload_n 2, 1))) rfl
theorem dL_law_1415 : decode cL_law 1415 = .ok (.aload_n 0, 1) := dLx dLc_4 (i := 116) (q := (1415, (.aload_n 0, 1))) rfl
theorem dL_law_1416 : decode cL_law 1416 = .ok (.iload 4, 2) := dLx dLc_4 (i := 117) (q := (1416, (.iload 4, 2))) rfl
theorem dL_law_1418 : decode cL_law 1418 = .ok (.iconst 1, 1) := dLx dLc_4 (i := 118) (q := (1418, (.iconst 1, 1))) rfl
theorem dL_law_1419 : decode cL_law 1419 = .ok (.iadd, 1) := dLx dLc_4 (i := 119) (q := (1419, (.iadd, 1))) rfl
theorem dL_law_1420 : decode cL_law 1420 = .ok (.iaload, 1) := dLx dLc_4 (i := 120) (q := (1420, (.iaload, 1))) rfl
theorem dL_law_1421 : decode cL_law 1421 = .ok (.aload_n 0, 1) := dLx dLc_4 (i := 121) (q := (1421, (.aload_n 0, 1))) rfl
theorem dL_law_1422 : decode cL_law 1422 = .ok (.iload 4, 2) := dLx dLc_4 (i := 122) (q := (1422, (.iload 4, 2))) rfl
theorem dL_law_1424 : decode cL_law 1424 = .ok (.iconst 2, 1) := dLx dLc_4 (i := 123) (q := (1424, (.iconst 2, 1))) rfl
theorem dL_law_1425 : decode cL_law 1425 = .ok (.iadd, 1) := dLx dLc_4 (i := 124) (q := (1425, (.iadd, 1))) rfl
theorem dL_law_1426 : decode cL_law 1426 = .ok (.iaload, 1) := dLx dLc_4 (i := 125) (q := (1426, (.iaload, 1))) rfl
theorem dL_law_1427 : decode cL_law 1427 = .ok (.aload_n 0, 1) := dLx dLc_4 (i := 126) (q := (1427, (.aload_n 0, 1))) rfl
theorem dL_law_1428 : decode cL_law 1428 = .ok (.iload 4, 2) := dLx dLc_4 (i := 127) (q := (1428, (.iload 4, 2))) rfl
theorem dL_law_1430 : decode cL_law 1430 = .ok (.iconst 3, 1) := dLx dLc_4 (i := 128) (q := (1430, (.iconst 3, 1))) rfl
theorem dL_law_1431 : decode cL_law 1431 = .ok (.iadd, 1) := dLx dLc_4 (i := 129) (q := (1431, (.iadd, 1))) rfl
theorem dL_law_1432 : decode cL_law 1432 = .ok (.iaload, 1) := dLx dLc_4 (i := 130) (q := (1432, (.iaload, 1))) rfl
theorem dL_law_1433 : decode cL_law 1433 = .ok (.ifCond .eq 7, 3) := dLx dLc_4 (i := 131) (q := (1433, (.ifCond .eq 7, 3))) rfl
theorem dL_law_1436 : decode cL_law 1436 = .ok (.iconst 1, 1) := dLx dLc_4 (i := 132) (q := (1436, (.iconst 1, 1))) rfl
theorem dL_law_1437 : decode cL_law 1437 = .ok (.goto 4, 3) := dLx dLc_4 (i := 133) (q := (1437, (.goto 4, 3))) rfl
theorem dL_law_1440 : decode cL_law 1440 = .ok (.iconst 0, 1) := dLx dLc_4 (i := 134) (q := (1440, (.iconst 0, 1))) rfl
theorem dL_law_1441 : decode cL_law 1441 = .ok (.aload_n 0, 1) := dLx dLc_4 (i := 135) (q := (1441, (.aload_n 0, 1))) rfl
theorem dL_law_1442 : decode cL_law 1442 = .ok (.iload 4, 2) := dLx dLc_4 (i := 136) (q := (1442, (.iload 4, 2))) rfl
theorem dL_law_1444 : decode cL_law 1444 = .ok (.iconst 4, 1) := dLx dLc_4 (i := 137) (q := (1444, (.iconst 4, 1))) rfl
theorem dL_law_1445 : decode cL_law 1445 = .ok (.iadd, 1) := dLx dLc_4 (i := 138) (q := (1445, (.iadd, 1))) rfl
theorem dL_law_1446 : decode cL_law 1446 = .ok (.iaload, 1) := dLx dLc_4 (i := 139) (q := (1446, (.iaload, 1))) rfl
theorem dL_law_1447 : decode cL_law 1447 = .ok (.ifCond .eq 7, 3) := dLx dLc_4 (i := 140) (q := (1447, (.ifCond .eq 7, 3))) rfl
theorem dL_law_1450 : decode cL_law 1450 = .ok (.iconst 1, 1) := dLx dLc_4 (i := 141) (q := (1450, (.iconst 1, 1))) rfl
theorem dL_law_1451 : decode cL_law 1451 = .ok (.goto 4, 3) := dLx dLc_4 (i := 142) (q := (1451, (.goto 4, 3))) rfl
theorem dL_law_1454 : decode cL_law 1454 = .ok (.iconst 0, 1) := dLx dLc_4 (i := 143) (q := (1454, (.iconst 0, 1))) rfl
theorem dL_law_1455 : decode cL_law 1455 = .ok (.invokevirtual 250, 3) := dLx dLc_4 (i := 144) (q := (1455, (.invokevirtual 250, 3))) rfl
theorem dL_law_1458 : decode cL_law 1458 = .ok (.istore 6, 2) := dLx dLc_4 (i := 145) (q := (1458, (.istore 6, 2))) rfl
theorem dL_law_1460 : decode cL_law 1460 = .ok (.aload_n 2, 1) := dLx dLc_4 (i := 146) (q := (1460, (.aload_n 2, 1))) rfl
theorem dL_law_1461 : decode cL_law 1461 = .ok (.invokevirtual 201, 3) := dLx dLc_4 (i := 147) (q := (1461, (.invokevirtual 201, 3))) rfl
theorem dL_law_1464 : decode cL_law 1464 = .ok (.iload 5, 2) := dLx dLc_4 (i := 148) (q := (1464, (.iload 5, 2))) rfl
theorem dL_law_1466 : decode cL_law 1466 = .ok (.if_icmp .eq 5, 3) := dLx dLc_4 (i := 149) (q := (1466, (.if_icmp .eq 5, 3))) rfl
theorem dL_law_1469 : decode cL_law 1469 = .ok (.iconst 0, 1) := dLx dLc_4 (i := 150) (q := (1469, (.iconst 0, 1))) rfl
theorem dL_law_1470 : decode cL_law 1470 = .ok (.ireturn, 1) := dLx dLc_4 (i := 151) (q := (1470, (.ireturn, 1))) rfl
theorem dL_law_1471 : decode cL_law 1471 = .ok (.iload 5, 2) := dLx dLc_4 (i := 152) (q := (1471, (.iload 5, 2))) rfl
theorem dL_law_1473 : decode cL_law 1473 = .ok (.ifCond .ne 15, 3) := dLx dLc_4 (i := 153) (q := (1473, (.ifCond .ne 15, 3))) rfl
theorem dL_law_1476 : decode cL_law 1476 = .ok (.aload_n 3, 1) := dLx dLc_4 (i := 154) (q := (1476, (.aload_n 3, 1))) rfl
theorem dL_law_1477 : decode cL_law 1477 = .ok (.iconst 0, 1) := dLx dLc_4 (i := 155) (q := (1477, (.iconst 0, 1))) rfl
theorem dL_law_1478 : decode cL_law 1478 = .ok (.laload, 1) := dLx dLc_4 (i := 156) (q := (1478, (.laload, 1))) rfl
theorem dL_law_1479 : decode cL_law 1479 = .ok (.iload 6, 2) := dLx dLc_4 (i := 157) (q := (1479, (.iload 6, 2))) rfl
theorem dL_law_1481 : decode cL_law 1481 = .ok (.i2l, 1) := dLx dLc_4 (i := 158) (q := (1481, (.i2l, 1))) rfl
theorem dL_law_1482 : decode cL_law 1482 = .ok (.lcmp, 1) := dLx dLc_4 (i := 159) (q := (1482, (.lcmp, 1))) rfl
theorem dL_law_1483 : decode cL_law 1483 = .ok (.ifCond .eq 5, 3) := dLx dLc_4 (i := 160) (q := (1483, (.ifCond .eq 5, 3))) rfl
theorem dL_law_1486 : decode cL_law 1486 = .ok (.iconst 0, 1) := dLx dLc_4 (i := 161) (q := (1486, (.iconst 0, 1))) rfl
theorem dL_law_1487 : decode cL_law 1487 = .ok (.ireturn, 1) := dLx dLc_4 (i := 162) (q := (1487, (.ireturn, 1))) rfl
theorem dL_law_1488 : decode cL_law 1488 = .ok (.goto 2939, 3) := dLx dLc_4 (i := 163) (q := (1488, (.goto 2939, 3))) rfl
theorem dL_law_1491 : decode cL_law 1491 = .ok (.aload_n 1, 1) := dLx dLc_4 (i := 164) (q := (1491, (.aload_n 1, 1))) rfl
theorem dL_law_1492 : decode cL_law 1492 = .ok (.aload_n 0, 1) := dLx dLc_4 (i := 165) (q := (1492, (.aload_n 0, 1))) rfl
theorem dL_law_1493 : decode cL_law 1493 = .ok (.iload 4, 2) := dLx dLc_4 (i := 166) (q := (1493, (.iload 4, 2))) rfl
theorem dL_law_1495 : decode cL_law 1495 = .ok (.iconst 1, 1) := dLx dLc_4 (i := 167) (q := (1495, (.iconst 1, 1))) rfl
theorem dL_law_1496 : decode cL_law 1496 = .ok (.iadd, 1) := dLx dLc_4 (i := 168) (q := (1496, (.iadd, 1))) rfl
theorem dL_law_1497 : decode cL_law 1497 = .ok (.iaload, 1) := dLx dLc_4 (i := 169) (q := (1497, (.iaload, 1))) rfl
theorem dL_law_1498 : decode cL_law 1498 = .ok (.aload_n 0, 1) := dLx dLc_4 (i := 170) (q := (1498, (.aload_n 0, 1))) rfl
theorem dL_law_1499 : decode cL_law 1499 = .ok (.iload 4, 2) := dLx dLc_4 (i := 171) (q := (1499, (.iload 4, 2))) rfl
theorem dL_law_1501 : decode cL_law 1501 = .ok (.iconst 2, 1) := dLx dLc_4 (i := 172) (q := (1501, (.iconst 2, 1))) rfl
theorem dL_law_1502 : decode cL_law 1502 = .ok (.iadd, 1) := dLx dLc_4 (i := 173) (q := (1502, (.iadd, 1))) rfl
theorem dL_law_1503 : decode cL_law 1503 = .ok (.iaload, 1) := dLx dLc_4 (i := 174) (q := (1503, (.iaload, 1))) rfl
theorem dL_law_1504 : decode cL_law 1504 = .ok (.aload_n 0, 1) := dLx dLc_4 (i := 175) (q := (1504, (.aload_n 0, 1))) rfl
theorem dL_law_1505 : decode cL_law 1505 = .ok (.iload 4, 2) := dLx dLc_4 (i := 176) (q := (1505, (.iload 4, 2))) rfl
theorem dL_law_1507 : decode cL_law 1507 = .ok (.iconst 3, 1) := dLx dLc_4 (i := 177) (q := (1507, (.iconst 3, 1))) rfl
theorem dL_law_1508 : decode cL_law 1508 = .ok (.iadd, 1) := dLx dLc_4 (i := 178) (q := (1508, (.iadd, 1))) rfl
theorem dL_law_1509 : decode cL_law 1509 = .ok (.iaload, 1) := dLx dLc_4 (i := 179) (q := (1509, (.iaload, 1))) rfl
theorem dL_law_1510 : decode cL_law 1510 = .ok (.ifCond .eq 7, 3) := dLx dLc_4 (i := 180) (q := (1510, (.ifCond .eq 7, 3))) rfl
theorem dL_law_1513 : decode cL_law 1513 = .ok (.iconst 1, 1) := dLx dLc_4 (i := 181) (q := (1513, (.iconst 1, 1))) rfl
theorem dL_law_1514 : decode cL_law 1514 = .ok (.goto 4, 3) := dLx dLc_4 (i := 182) (q := (1514, (.goto 4, 3))) rfl
theorem dL_law_1517 : decode cL_law 1517 = .ok (.iconst 0, 1) := dLx dLc_4 (i := 183) (q := (1517, (.iconst 0, 1))) rfl
theorem dL_law_1518 : decode cL_law 1518 = .ok (.aload_n 0, 1) := dLx dLc_4 (i := 184) (q := (1518, (.aload_n 0, 1))) rfl
theorem dL_law_1519 : decode cL_law 1519 = .ok (.iload 4, 2) := dLx dLc_4 (i := 185) (q := (1519, (.iload 4, 2))) rfl
theorem dL_law_1521 : decode cL_law 1521 = .ok (.iconst 4, 1) := dLx dLc_4 (i := 186) (q := (1521, (.iconst 4, 1))) rfl
theorem dL_law_1522 : decode cL_law 1522 = .ok (.iadd, 1) := dLx dLc_4 (i := 187) (q := (1522, (.iadd, 1))) rfl
theorem dL_law_1523 : decode cL_law 1523 = .ok (.iaload, 1) := dLx dLc_4 (i := 188) (q := (1523, (.iaload, 1))) rfl
theorem dL_law_1524 : decode cL_law 1524 = .ok (.ifCond .eq 7, 3) := dLx dLc_4 (i := 189) (q := (1524, (.ifCond .eq 7, 3))) rfl
theorem dL_law_1527 : decode cL_law 1527 = .ok (.iconst 1, 1) := dLx dLc_4 (i := 190) (q := (1527, (.iconst 1, 1))) rfl
theorem dL_law_1528 : decode cL_law 1528 = .ok (.goto 4, 3) := dLx dLc_4 (i := 191) (q := (1528, (.goto 4, 3))) rfl
theorem dL_law_1531 : decode cL_law 1531 = .ok (.iconst 0, 1) := dLx dLc_4 (i := 192) (q := (1531, (.iconst 0, 1))) rfl
theorem dL_law_1532 : decode cL_law 1532 = .ok (.aload_n 3, 1) := dLx dLc_4 (i := 193) (q := (1532, (.aload_n 3, 1))) rfl
theorem dL_law_1533 : decode cL_law 1533 = .ok (.invokestatic 251, 3) := dLx dLc_4 (i := 194) (q := (1533, (.invokestatic 251, 3))) rfl
theorem dL_law_1536 : decode cL_law 1536 = .ok (.istore 5, 2) := dLx dLc_4 (i := 195) (q := (1536, (.istore 5, 2))) rfl
theorem dL_law_1538 : decode cL_law 1538 = .ok (.aload_n 2, 1) := dLx dLc_4 (i := 196) (q := (1538, (.aload_n 2, 1))) rfl
theorem dL_law_1539 : decode cL_law 1539 = .ok (.aload_n 0, 1) := dLx dLc_4 (i := 197) (q := (1539, (.aload_n 0, 1))) rfl
theorem dL_law_1540 : decode cL_law 1540 = .ok (.iload 4, 2) := dLx dLc_4 (i := 198) (q := (1540, (.iload 4, 2))) rfl
theorem dL_law_1542 : decode cL_law 1542 = .ok (.iconst 1, 1) := dLx dLc_4 (i := 199) (q := (1542, (.iconst 1, 1))) rfl
theorem dL_law_1543 : decode cL_law 1543 = .ok (.iadd, 1) := dLx dLc_4 (i := 200) (q := (1543, (.iadd, 1))) rfl
theorem dL_law_1544 : decode cL_law 1544 = .ok (.iaload, 1) := dLx dLc_4 (i := 201) (q := (1544, (.iaload, 1))) rfl
theorem dL_law_1545 : decode cL_law 1545 = .ok (.aload_n 0, 1) := dLx dLc_4 (i := 202) (q := (1545, (.aload_n 0, 1))) rfl
theorem dL_law_1546 : decode cL_law 1546 = .ok (.iload 4, 2) := dLx dLc_4 (i := 203) (q := (1546, (.iload 4, 2))) rfl
theorem dL_law_1548 : decode cL_law 1548 = .ok (.iconst 2, 1) := dLx dLc_4 (i := 204) (q := (1548, (.iconst 2, 1))) rfl
theorem dL_law_1549 : decode cL_law 1549 = .ok (.iadd, 1) := dLx dLc_4 (i := 205) (q := (1549, (.iadd, 1))) rfl
theorem dL_law_1550 : decode cL_law 1550 = .ok (.iaload, 1) := dLx dLc_4 (i := 206) (q := (1550, (.iaload, 1))) rfl
theorem dL_law_1551 : decode cL_law 1551 = .ok (.aload_n 0, 1) := dLx dLc_4 (i := 207) (q := (1551, (.aload_n 0, 1))) rfl
theorem dL_law_1552 : decode cL_law 1552 = .ok (.iload 4, 2) := dLx dLc_4 (i := 208) (q := (1552, (.iload 4, 2))) rfl
theorem dL_law_1554 : decode cL_law 1554 = .ok (.iconst 3, 1) := dLx dLc_4 (i := 209) (q := (1554, (.iconst 3, 1))) rfl
theorem dL_law_1555 : decode cL_law 1555 = .ok (.iadd, 1) := dLx dLc_4 (i := 210) (q := (1555, (.iadd, 1))) rfl
theorem dL_law_1556 : decode cL_law 1556 = .ok (.iaload, 1) := dLx dLc_4 (i := 211) (q := (1556, (.iaload, 1))) rfl
theorem dL_law_1557 : decode cL_law 1557 = .ok (.ifCond .eq 7, 3) := dLx dLc_4 (i := 212) (q := (1557, (.ifCond .eq 7, 3))) rfl
theorem dL_law_1560 : decode cL_law 1560 = .ok (.iconst 1, 1) := dLx dLc_4 (i := 213) (q := (1560, (.iconst 1, 1))) rfl
theorem dL_law_1561 : decode cL_law 1561 = .ok (.goto 4, 3) := dLx dLc_4 (i := 214) (q := (1561, (.goto 4, 3))) rfl
theorem dL_law_1564 : decode cL_law 1564 = .ok (.iconst 0, 1) := dLx dLc_4 (i := 215) (q := (1564, (.iconst 0, 1))) rfl
theorem dL_law_1565 : decode cL_law 1565 = .ok (.aload_n 0, 1) := dLx dLc_4 (i := 216) (q := (1565, (.aload_n 0, 1))) rfl
theorem dL_law_1566 : decode cL_law 1566 = .ok (.iload 4, 2) := dLx dLc_4 (i := 217) (q := (1566, (.iload 4, 2))) rfl
theorem dL_law_1568 : decode cL_law 1568 = .ok (.iconst 4, 1) := dLx dLc_4 (i := 218) (q := (1568, (.iconst 4, 1))) rfl
theorem dL_law_1569 : decode cL_law 1569 = .ok (.iadd, 1) := dLx dLc_4 (i := 219) (q := (1569, (.iadd, 1))) rfl
theorem dL_law_1570 : decode cL_law 1570 = .ok (.iaload, 1) := dLx dLc_4 (i := 220) (q := (1570, (.iaload, 1))) rfl
theorem dL_law_1571 : decode cL_law 1571 = .ok (.ifCond .eq 7, 3) := dLx dLc_4 (i := 221) (q := (1571, (.ifCond .eq 7, 3))) rfl
theorem dL_law_1574 : decode cL_law 1574 = .ok (.iconst 1, 1) := dLx dLc_4 (i := 222) (q := (1574, (.iconst 1, 1))) rfl
theorem dL_law_1575 : decode cL_law 1575 = .ok (.goto 4, 3) := dLx dLc_4 (i := 223) (q := (1575, (.goto 4, 3))) rfl
theorem dL_law_1578 : decode cL_law 1578 = .ok (.iconst 0, 1) := dLx dLc_4 (i := 224) (q := (1578, (.iconst 0, 1))) rfl
theorem dL_law_1579 : decode cL_law 1579 = .ok (.invokevirtual 253, 3) := dLx dLc_4 (i := 225) (q := (1579, (.invokevirtual 253, 3))) rfl
theorem dL_law_1582 : decode cL_law 1582 = .ok (.istore 6, 2) := dLx dLc_4 (i := 226) (q := (1582, (.istore 6, 2))) rfl
theorem dL_law_1584 : decode cL_law 1584 = .ok (.aload_n 2, 1) := dLx dLc_4 (i := 227) (q := (1584, (.aload_n 2, 1))) rfl
theorem dL_law_1585 : decode cL_law 1585 = .ok (.invokevirtual 201, 3) := dLx dLc_4 (i := 228) (q := (1585, (.invokevirtual 201, 3))) rfl
theorem dL_law_1588 : decode cL_law 1588 = .ok (.iload 5, 2) := dLx dLc_4 (i := 229) (q := (1588, (.iload 5, 2))) rfl
theorem dL_law_1590 : decode cL_law 1590 = .ok (.if_icmp .eq 5, 3) := dLx dLc_4 (i := 230) (q := (1590, (.if_icmp .eq 5, 3))) rfl
theorem dL_law_1593 : decode cL_law 1593 = .ok (.iconst 0, 1) := dLx dLc_4 (i := 231) (q := (1593, (.iconst 0, 1))) rfl
theorem dL_law_1594 : decode cL_law 1594 = .ok (.ireturn, 1) := dLx dLc_4 (i := 232) (q := (1594, (.ireturn, 1))) rfl
theorem dL_law_1595 : decode cL_law 1595 = .ok (.iload 5, 2) := dLx dLc_4 (i := 233) (q := (1595, (.iload 5, 2))) rfl
theorem dL_law_1597 : decode cL_law 1597 = .ok (.ifCond .ne 15, 3) := dLx dLc_4 (i := 234) (q := (1597, (.ifCond .ne 15, 3))) rfl
theorem dL_law_1600 : decode cL_law 1600 = .ok (.aload_n 3, 1) := dLx dLc_4 (i := 235) (q := (1600, (.aload_n 3, 1))) rfl
theorem dL_law_1601 : decode cL_law 1601 = .ok (.iconst 0, 1) := dLx dLc_4 (i := 236) (q := (1601, (.iconst 0, 1))) rfl
theorem dL_law_1602 : decode cL_law 1602 = .ok (.laload, 1) := dLx dLc_4 (i := 237) (q := (1602, (.laload, 1))) rfl
theorem dL_law_1603 : decode cL_law 1603 = .ok (.iload 6, 2) := dLx dLc_4 (i := 238) (q := (1603, (.iload 6, 2))) rfl
theorem dL_law_1605 : decode cL_law 1605 = .ok (.i2l, 1) := dLx dLc_4 (i := 239) (q := (1605, (.i2l, 1))) rfl
theorem dL_law_1606 : decode cL_law 1606 = .ok (.lcmp, 1) := dLx dLc_4 (i := 240) (q := (1606, (.lcmp, 1))) rfl
theorem dL_law_1607 : decode cL_law 1607 = .ok (.ifCond .eq 5, 3) := dLx dLc_4 (i := 241) (q := (1607, (.ifCond .eq 5, 3))) rfl
theorem dL_law_1610 : decode cL_law 1610 = .ok (.iconst 0, 1) := dLx dLc_4 (i := 242) (q := (1610, (.iconst 0, 1))) rfl
theorem dL_law_1611 : decode cL_law 1611 = .ok (.ireturn, 1) := dLx dLc_4 (i := 243) (q := (1611, (.ireturn, 1))) rfl
theorem dL_law_1612 : decode cL_law 1612 = .ok (.goto 2815, 3) := dLx dLc_4 (i := 244) (q := (1612, (.goto 2815, 3))) rfl
theorem dL_law_1615 : decode cL_law 1615 = .ok (.aload_n 1, 1) := dLx dLc_4 (i := 245) (q := (1615, (.aload_n 1, 1))) rfl
theorem dL_law_1616 : decode cL_law 1616 = .ok (.aload_n 0, 1) := dLx dLc_4 (i := 246) (q := (1616, (.aload_n 0, 1))) rfl
theorem dL_law_1617 : decode cL_law 1617 = .ok (.iload 4, 2) := dLx dLc_4 (i := 247) (q := (1617, (.iload 4, 2))) rfl
theorem dL_law_1619 : decode cL_law 1619 = .ok (.iconst 1, 1) := dLx dLc_4 (i := 248) (q := (1619, (.iconst 1, 1))) rfl
theorem dL_law_1620 : decode cL_law 1620 = .ok (.iadd, 1) := dLx dLc_4 (i := 249) (q := (1620, (.iadd, 1))) rfl
theorem dL_law_1621 : decode cL_law 1621 = .ok (.iaload, 1) := dLx dLc_4 (i := 250) (q := (1621, (.iaload, 1))) rfl
theorem dL_law_1622 : decode cL_law 1622 = .ok (.aload_n 0, 1) := dLx dLc_4 (i := 251) (q := (1622, (.aload_n 0, 1))) rfl
theorem dL_law_1623 : decode cL_law 1623 = .ok (.iload 4, 2) := dLx dLc_4 (i := 252) (q := (1623, (.iload 4, 2))) rfl
theorem dL_law_1625 : decode cL_law 1625 = .ok (.iconst 2, 1) := dLx dLc_4 (i := 253) (q := (1625, (.iconst 2, 1))) rfl
theorem dL_law_1626 : decode cL_law 1626 = .ok (.iadd, 1) := dLx dLc_4 (i := 254) (q := (1626, (.iadd, 1))) rfl
theorem dL_law_1627 : decode cL_law 1627 = .ok (.iaload, 1) := dLx dLc_4 (i := 255) (q := (1627, (.iaload, 1))) rfl
theorem dL_law_1628 : decode cL_law 1628 = .ok (.aload_n 3, 1) := dLx dLc_4 (i := 256) (q := (1628, (.aload_n 3, 1))) rfl
theorem dL_law_1629 : decode cL_law 1629 = .ok (.invokestatic 254, 3) := dLx dLc_4 (i := 257) (q := (1629, (.invokestatic 254, 3))) rfl
theorem dL_law_1632 : decode cL_law 1632 = .ok (.istore 5, 2) := dLx dLc_4 (i := 258) (q := (1632, (.istore 5, 2))) rfl
theorem dL_law_1634 : decode cL_law 1634 = .ok (.aload_n 2, 1) := dLx dLc_4 (i := 259) (q := (1634, (.aload_n 2, 1))) rfl
theorem dL_law_1635 : decode cL_law 1635 = .ok (.aload_n 0, 1) := dLx dLc_4 (i := 260) (q := (1635, (.aload_n 0, 1))) rfl
theorem dL_law_1636 : decode cL_law 1636 = .ok (.iload 4, 2) := dLx dLc_4 (i := 261) (q := (1636, (.iload 4, 2))) rfl
theorem dL_law_1638 : decode cL_law 1638 = .ok (.iconst 1, 1) := dLx dLc_4 (i := 262) (q := (1638, (.iconst 1, 1))) rfl
theorem dL_law_1639 : decode cL_law 1639 = .ok (.iadd, 1) := dLx dLc_4 (i := 263) (q := (1639, (.iadd, 1))) rfl
theorem dL_law_1640 : decode cL_law 1640 = .ok (.iaload, 1) := dLx dLc_4 (i := 264) (q := (1640, (.iaload, 1))) rfl
theorem dL_law_1641 : decode cL_law 1641 = .ok (.aload_n 0, 1) := dLx dLc_4 (i := 265) (q := (1641, (.aload_n 0, 1))) rfl
theorem dL_law_1642 : decode cL_law 1642 = .ok (.iload 4, 2) := dLx dLc_4 (i := 266) (q := (1642, (.iload 4, 2))) rfl
theorem dL_law_1644 : decode cL_law 1644 = .ok (.iconst 2, 1) := dLx dLc_4 (i := 267) (q := (1644, (.iconst 2, 1))) rfl
theorem dL_law_1645 : decode cL_law 1645 = .ok (.iadd, 1) := dLx dLc_4 (i := 268) (q := (1645, (.iadd, 1))) rfl
theorem dL_law_1646 : decode cL_law 1646 = .ok (.iaload, 1) := dLx dLc_4 (i := 269) (q := (1646, (.iaload, 1))) rfl
theorem dL_law_1647 : decode cL_law 1647 = .ok (.invokevirtual 256, 3) := dLx dLc_4 (i := 270) (q := (1647, (.invokevirtual 256, 3))) rfl
theorem dL_law_1650 : decode cL_law 1650 = .ok (.istore 6, 2) := dLx dLc_4 (i := 271) (q := (1650, (.istore 6, 2))) rfl
theorem dL_law_1652 : decode cL_law 1652 = .ok (.aload_n 2, 1) := dLx dLc_4 (i := 272) (q := (1652, (.aload_n 2, 1))) rfl
theorem dL_law_1653 : decode cL_law 1653 = .ok (.invokevirtual 201, 3) := dLx dLc_4 (i := 273) (q := (1653, (.invokevirtual 201, 3))) rfl
theorem dL_law_1656 : decode cL_law 1656 = .ok (.iload 5, 2) := dLx dLc_4 (i := 274) (q := (1656, (.iload 5, 2))) rfl
theorem dL_law_1658 : decode cL_law 1658 = .ok (.if_icmp .eq 5, 3) := dLx dLc_4 (i := 275) (q := (1658, (.if_icmp .eq 5, 3))) rfl
theorem dL_law_1661 : decode cL_law 1661 = .ok (.iconst 0, 1) := dLx dLc_4 (i := 276) (q := (1661, (.iconst 0, 1))) rfl
theorem dL_law_1662 : decode cL_law 1662 = .ok (.ireturn, 1) := dLx dLc_4 (i := 277) (q := (1662, (.ireturn, 1))) rfl
theorem dL_law_1663 : decode cL_law 1663 = .ok (.iload 5, 2) := dLx dLc_4 (i := 278) (q := (1663, (.iload 5, 2))) rfl
theorem dL_law_1665 : decode cL_law 1665 = .ok (.ifCond .ne 15, 3) := dLx dLc_4 (i := 279) (q := (1665, (.ifCond .ne 15, 3))) rfl
theorem dL_law_1668 : decode cL_law 1668 = .ok (.aload_n 3, 1) := dLx dLc_4 (i := 280) (q := (1668, (.aload_n 3, 1))) rfl
theorem dL_law_1669 : decode cL_law 1669 = .ok (.iconst 0, 1) := dLx dLc_4 (i := 281) (q := (1669, (.iconst 0, 1))) rfl
theorem dL_law_1670 : decode cL_law 1670 = .ok (.laload, 1) := dLx dLc_4 (i := 282) (q := (1670, (.laload, 1))) rfl
theorem dL_law_1671 : decode cL_law 1671 = .ok (.iload 6, 2) := dLx dLc_4 (i := 283) (q := (1671, (.iload 6, 2))) rfl
theorem dL_law_1673 : decode cL_law 1673 = .ok (.i2l, 1) := dLx dLc_4 (i := 284) (q := (1673, (.i2l, 1))) rfl
theorem dL_law_1674 : decode cL_law 1674 = .ok (.lcmp, 1) := dLx dLc_4 (i := 285) (q := (1674, (.lcmp, 1))) rfl
theorem dL_law_1675 : decode cL_law 1675 = .ok (.ifCond .eq 5, 3) := dLx dLc_4 (i := 286) (q := (1675, (.ifCond .eq 5, 3))) rfl
theorem dL_law_1678 : decode cL_law 1678 = .ok (.iconst 0, 1) := dLx dLc_4 (i := 287) (q := (1678, (.iconst 0, 1))) rfl
theorem dL_law_1679 : decode cL_law 1679 = .ok (.ireturn, 1) := dLx dLc_4 (i := 288) (q := (1679, (.ireturn, 1))) rfl
theorem dL_law_1680 : decode cL_law 1680 = .ok (.goto 2747, 3) := dLx dLc_4 (i := 289) (q := (1680, (.goto 2747, 3))) rfl
theorem dL_law_1683 : decode cL_law 1683 = .ok (.aload_n 1, 1) := dLx dLc_4 (i := 290) (q := (1683, (.aload_n 1, 1))) rfl
theorem dL_law_1684 : decode cL_law 1684 = .ok (.aload_n 0, 1) := dLx dLc_4 (i := 291) (q := (1684, (.aload_n 0, 1))) rfl
theorem dL_law_1685 : decode cL_law 1685 = .ok (.iload 4, 2) := dLx dLc_4 (i := 292) (q := (1685, (.iload 4, 2))) rfl
theorem dL_law_1687 : decode cL_law 1687 = .ok (.iconst 1, 1) := dLx dLc_4 (i := 293) (q := (1687, (.iconst 1, 1))) rfl
theorem dL_law_1688 : decode cL_law 1688 = .ok (.iadd, 1) := dLx dLc_4 (i := 294) (q := (1688, (.iadd, 1))) rfl
theorem dL_law_1689 : decode cL_law 1689 = .ok (.iaload, 1) := dLx dLc_4 (i := 295) (q := (1689, (.iaload, 1))) rfl
theorem dL_law_1690 : decode cL_law 1690 = .ok (.aload_n 0, 1) := dLx dLc_4 (i := 296) (q := (1690, (.aload_n 0, 1))) rfl
theorem dL_law_1691 : decode cL_law 1691 = .ok (.iload 4, 2) := dLx dLc_4 (i := 297) (q := (1691, (.iload 4, 2))) rfl
theorem dL_law_1693 : decode cL_law 1693 = .ok (.iconst 2, 1) := dLx dLc_4 (i := 298) (q := (1693, (.iconst 2, 1))) rfl
theorem dL_law_1694 : decode cL_law 1694 = .ok (.iadd, 1) := dLx dLc_4 (i := 299) (q := (1694, (.iadd, 1))) rfl
def dLt_5 : List (Nat × (Instr × Nat)) := [(1695, (.iaload, 1)), (1696, (.aload_n 0, 1)), (1697, (.iload 4, 2)), (1699, (.iconst 3, 1)), (1700, (.iadd, 1)), (1701, (.iaload, 1)), (1702, (.aload_n 3, 1)), (1703, (.invokestatic 257, 3)), (1706, (.istore 5, 2)), (1708, (.aload_n 2, 1)), (1709, (.aload_n 0, 1)), (1710, (.iload 4, 2)), (1712, (.iconst 1, 1)), (1713, (.iadd, 1)), (1714, (.iaload, 1)), (1715, (.aload_n 0, 1)), (1716, (.iload 4, 2)), (1718, (.iconst 2, 1)), (1719, (.iadd, 1)), (1720, (.iaload, 1)), (1721, (.aload_n 0, 1)), (1722, (.iload 4, 2)), (1724, (.iconst 3, 1)), (1725, (.iadd, 1)), (1726, (.iaload, 1)), (1727, (.invokevirtual 260, 3)), (1730, (.istore 6, 2)), (1732, (.aload_n 2, 1)), (1733, (.invokevirtual 201, 3)), (1736, (.iload 5, 2)), (1738, (.if_icmp .eq 5, 3)), (1741, (.iconst 0, 1)), (1742, (.ireturn, 1)), (1743, (.iload 5, 2)), (1745, (.ifCond .ne 15, 3)), (1748, (.aload_n 3, 1)), (1749, (.iconst 0, 1)), (1750, (.laload, 1)), (1751, (.iload 6, 2)), (1753, (.i2l, 1)), (1754, (.lcmp, 1)), (1755, (.ifCond .eq 5, 3)), (1758, (.iconst 0, 1)), (1759, (.ireturn, 1)), (1760, (.goto 2667, 3)), (1763, (.aload_n 1, 1)), (1764, (.aload_n 0, 1)), (1765, (.iload 4, 2)), (1767, (.iconst 1, 1)), (1768, (.iadd, 1)), (1769, (.iaload, 1)), (1770, (.aload_n 0, 1)), (1771, (.iload 4, 2)), (1773, (.iconst 2, 1)), (1774, (.iadd, 1)), (1775, (.iaload, 1)), (1776, (.aload_n 0, 1)), (1777, (.iload 4, 2)), (1779, (.iconst 3, 1)), (1780, (.iadd, 1)), (1781, (.iaload, 1)), (1782, (.aload_n 3, 1)), (1783, (.invokestatic 261, 3)), (1786, (.istore 5, 2)), (1788, (.aload_n 2, 1)), (1789, (.aload_n 0, 1)), (1790, (.iload 4, 2)), (1792, (.iconst 1, 1)), (1793, (.iadd, 1)), (1794, (.iaload, 1)), (1795, (.aload_n 0, 1)), (1796, (.iload 4, 2)), (1798, (.iconst 2, 1)), (1799, (.iadd, 1)), (1800, (.iaload, 1)), (1801, (.aload_n 0, 1)), (1802, (.iload 4, 2)), (1804, (.iconst 3, 1)), (1805, (.iadd, 1)), (1806, (.iaload, 1)), (1807, (.invokevirtual 263, 3)), (1810, (.istore 6, 2)), (1812, (.aload_n 2, 1)), (1813, (.invokevirtual 201, 3)), (1816, (.iload 5, 2)), (1818, (.if_icmp .eq 5, 3)), (1821, (.iconst 0, 1)), (1822, (.ireturn, 1)), (1823, (.iload 5, 2)), (1825, (.ifCond .ne 22, 3)), (1828, (.aload_n 3, 1)), (1829, (.iconst 0, 1)), (1830, (.laload, 1)), (1831, (.iload 6, 2)), (1833, (.ifCond .eq 7, 3)), (1836, (.lconst 1, 1)), (1837, (.goto 4, 3)), (1840, (.lconst 0, 1)), (1841, (.lcmp, 1)), (1842, (.ifCond .eq 5, 3)), (1845, (.iconst 0, 1)), (1846, (.ireturn, 1)), (1847, (.goto 2580, 3)), (1850, (.aload_n 1, 1)), (1851, (.aload_n 0, 1)), (1852, (.iload 4, 2)), (1854, (.iconst 1, 1)), (1855, (.iadd, 1)), (1856, (.iaload, 1)), (1857, (.aload_n 0, 1)), (1858, (.iload 4, 2)), (1860, (.iconst 2, 1)), (1861, (.iadd, 1)), (1862, (.iaload, 1)), (1863, (.aload_n 0, 1)), (1864, (.iload 4, 2)), (1866, (.iconst 3, 1)), (1867, (.iadd, 1)), (1868, (.iaload, 1)), (1869, (.aload_n 0, 1)), (1870, (.iload 4, 2)), (1872, (.iconst 4, 1)), (1873, (.iadd, 1)), (1874, (.iaload, 1)), (1875, (.aload_n 3, 1)), (1876, (.invokestatic 264, 3)), (1879, (.istore 5, 2)), (1881, (.aload_n 2, 1)), (1882, (.aload_n 0, 1)), (1883, (.iload 4, 2)), (1885, (.iconst 1, 1)), (1886, (.iadd, 1)), (1887, (.iaload, 1)), (1888, (.aload_n 0, 1)), (1889, (.iload 4, 2)), (1891, (.iconst 2, 1)), (1892, (.iadd, 1)), (1893, (.iaload, 1)), (1894, (.aload_n 0, 1)), (1895, (.iload 4, 2)), (1897, (.iconst 3, 1)), (1898, (.iadd, 1)), (1899, (.iaload, 1)), (1900, (.aload_n 0, 1)), (1901, (.iload 4, 2)), (1903, (.iconst 4, 1)), (1904, (.iadd, 1)), (1905, (.iaload, 1)), (1906, (.invokevirtual 267, 3)), (1909, (.istore 6, 2)), (1911, (.aload_n 2, 1)), (1912, (.invokevirtual 201, 3)), (1915, (.iload 5, 2)), (1917, (.if_icmp .eq 5, 3)), (1920, (.iconst 0, 1)), (1921, (.ireturn, 1)), (1922, (.iload 5, 2)), (1924, (.ifCond .ne 15, 3)), (1927, (.aload_n 3, 1)), (1928, (.iconst 0, 1)), (1929, (.laload, 1)), (1930, (.iload 6, 2)), (1932, (.i2l, 1)), (1933, (.lcmp, 1)), (1934, (.ifCond .eq 5, 3)), (1937, (.iconst 0, 1)), (1938, (.ireturn, 1)), (1939, (.goto 2488, 3)), (1942, (.aload_n 1, 1)), (1943, (.aload_n 0, 1)), (1944, (.iload 4, 2)), (1946, (.iconst 1, 1)), (1947, (.iadd, 1)), (1948, (.iaload, 1)), (1949, (.aload_n 3, 1)), (1950, (.invokestatic 268, 3)), (1953, (.istore 5, 2)), (1955, (.aload_n 2, 1)), (1956, (.aload_n 0, 1)), (1957, (.iload 4, 2)), (1959, (.iconst 1, 1)), (1960, (.iadd, 1)), (1961, (.iaload, 1)), (1962, (.invokevirtual 270, 3)), (1965, (.istore 6, 2)), (1967, (.aload_n 2, 1)), (1968, (.invokevirtual 201, 3)), (1971, (.iload 5, 2)), (1973, (.if_icmp .eq 5, 3)), (1976, (.iconst 0, 1)), (1977, (.ireturn, 1)), (1978, (.iload 5, 2)), (1980, (.ifCond .ne 15, 3)), (1983, (.aload_n 3, 1)), (1984, (.iconst 0, 1)), (1985, (.laload, 1)), (1986, (.iload 6, 2)), (1988, (.i2l, 1)), (1989, (.lcmp, 1)), (1990, (.ifCond .eq 5, 3)), (1993, (.iconst 0, 1)), (1994, (.ireturn, 1)), (1995, (.goto 2432, 3)), (1998, (.aload_n 1, 1)), (1999, (.invokevirtual 271, 3)), (2002, (.aload_n 2, 1)), (2003, (.invokevirtual 274, 3)), (2006, (.if_icmp .eq 2421, 3)), (2009, (.iconst 0, 1)), (2010, (.ireturn, 1)), (2011, (.aload_n 1, 1)), (2012, (.invokevirtual 275, 3)), (2015, (.aload_n 2, 1)), (2016, (.invokevirtual 278, 3)), (2019, (.if_icmp .eq 2408, 3)), (2022, (.iconst 0, 1)), (2023, (.ireturn, 1)), (2024, (.aload_n 1, 1)), (2025, (.aload_n 3, 1)), (2026, (.invokestatic 279, 3)), (2029, (.istore 5, 2)), (2031, (.aload_n 2, 1)), (2032, (.invokevirtual 281, 3)), (2035, (.istore 6, 2)), (2037, (.aload_n 2, 1)), (2038, (.invokevirtual 201, 3)), (2041, (.iload 5, 2)), (2043, (.if_icmp .eq 5, 3)), (2046, (.iconst 0, 1)), (2047, (.ireturn, 1)), (2048, (.iload 5, 2)), (2050, (.ifCond .ne 15, 3)), (2053, (.aload_n 3, 1)), (2054, (.iconst 0, 1)), (2055, (.laload, 1)), (2056, (.iload 6, 2)), (2058, (.i2l, 1)), (2059, (.lcmp, 1)), (2060, (.ifCond .eq 5, 3)), (2063, (.iconst 0, 1)), (2064, (.ireturn, 1)), (2065, (.goto 2362, 3)), (2068, (.aload_n 1, 1)), (2069, (.aload_n 0, 1)), (2070, (.iload 4, 2)), (2072, (.iconst 1, 1)), (2073, (.iadd, 1)), (2074, (.iaload, 1)), (2075, (.aload_n 3, 1)), (2076, (.invokestatic 282, 3)), (2079, (.istore 5, 2)), (2081, (.aload_n 2, 1)), (2082, (.aload_n 0, 1)), (2083, (.iload 4, 2)), (2085, (.iconst 1, 1)), (2086, (.iadd, 1)), (2087, (.iaload, 1)), (2088, (.invokevirtual 284, 3)), (2091, (.istore 6, 2)), (2093, (.aload_n 2, 1)), (2094, (.invokevirtual 201, 3)), (2097, (.iload 5, 2)), (2099, (.if_icmp .eq 5, 3)), (2102, (.iconst 0, 1)), (2103, (.ireturn, 1)), (2104, (.iload 5, 2)), (2106, (.ifCond .ne 15, 3)), (2109, (.aload_n 3, 1)), (2110, (.iconst 0, 1)), (2111, (.laload, 1)), (2112, (.iload 6, 2)), (2114, (.i2l, 1)), (2115, (.lcmp, 1)), (2116, (.ifCond .eq 5, 3)), (2119, (.iconst 0, 1)), (2120, (.ireturn, 1)), (2121, (.goto 2306, 3)), (2124, (.aload_n 1, 1)), (2125, (.aload_n 0, 1)), (2126, (.iload 4, 2)), (2128, (.iconst 1, 1)), (2129, (.iadd, 1)), (2130, (.iaload, 1)), (2131, (.aload_n 3, 1)), (2132, (.invokestatic 285, 3)), (2135, (.istore 5, 2)), (2137, (.aload_n 2, 1)), (2138, (.aload_n 0, 1)), (2139, (.iload 4, 2)), (2141, (.iconst 1, 1)), (2142, (.iadd, 1)), (2143, (.iaload, 1)), (2144, (.invokevirtual 287, 3)), (2147, (.istore 6, 2)), (2149, (.aload_n 2, 1)), (2150, (.invokevirtual 201, 3)), (2153, (.iload 5, 2)), (2155, (.if_icmp .eq 5, 3)), (2158, (.iconst 0, 1)), (2159, (.ireturn, 1))]
set_option maxRecDepth 100000 in
theorem dLc_5 : ldg (cL_law.data.toList.drop 1695) 0 1695 dLt_5 = true := by decide +kernel
theorem dL_law_1695 : decode cL_law 1695 = .ok (.iaload, 1) := dLx dLc_5 (i := 0) (q := (1695, (.iaload, 1))) rfl
theorem dL_law_1696 : decode cL_law 1696 = .ok (.aload_n 0, 1) := dLx dLc_5 (i := 1) (q := (1696, (.aload_n 0, 1))) rfl
theorem dL_law_1697 : decode cL_law 1697 = .ok (.iload 4, 2) := dLx dLc_5 (i := 2) (q := (1697, (.iload 4, 2))) rfl
theorem dL_law_1699 : decode cL_law 1699 = .ok (.iconst 3, 1) := dLx dLc_5 (i := 3) (q := (1699, (.iconst 3, 1))) rfl
theorem dL_law_1700 : decode cL_law 1700 = .ok (.iadd, 1) := dLx dLc_5 (i := 4) (q := (1700, (.iadd, 1))) rfl
theorem dL_law_1701 : decode cL_law 1701 = .ok (.iaload, 1) := dLx dLc_5 (i := 5) (q := (1701, (.iaload, 1))) rfl
theorem dL_law_1702 : decode cL_law 1702 = .ok (.aload_n 3, 1) := dLx dLc_5 (i := 6) (q := (1702, (.aload_n 3, 1))) rfl
theorem dL_law_1703 : decode cL_law 1703 = .ok (.invokestatic 257, 3) := dLx dLc_5 (i := 7) (q := (1703, (.invokestatic 257, 3))) rfl
theorem dL_law_1706 : decode cL_law 1706 = .ok (.istore 5, 2) := dLx dLc_5 (i := 8) (q := (1706, (.istore 5, 2))) rfl
theorem dL_law_1708 : decode cL_law 1708 = .ok (.aload_n 2, 1) := dLx dLc_5 (i := 9) (q := (1708, (.aload_n 2, 1))) rfl
theorem dL_law_1709 : decode cL_law 1709 = .ok (.aload_n 0, 1) := dLx dLc_5 (i := 10) (q := (1709, (.aload_n 0, 1))) rfl
theorem dL_law_1710 : decode cL_law 1710 = .ok (.iload 4, 2) := dLx dLc_5 (i := 11) (q := (1710, (.iload 4, 2))) rfl
theorem dL_law_1712 : decode cL_law 1712 = .ok (.iconst 1, 1) := dLx dLc_5 (i := 12) (q := (1712, (.iconst 1, 1))) rfl
theorem dL_law_1713 : decode cL_law 1713 = .ok (.iadd, 1) := dLx dLc_5 (i := 13) (q := (1713, (.iadd, 1))) rfl
theorem dL_law_1714 : decode cL_law 1714 = .ok (.iaload, 1) := dLx dLc_5 (i := 14) (q := (1714, (.iaload, 1))) rfl
theorem dL_law_1715 : decode cL_law 1715 = .ok (.aload_n 0, 1) := dLx dLc_5 (i := 15) (q := (1715, (.aload_n 0, 1))) rfl
theorem dL_law_1716 : decode cL_law 1716 = .ok (.iload 4, 2) := dLx dLc_5 (i := 16) (q := (1716, (.iload 4, 2))) rfl
theorem dL_law_1718 : decode cL_law 1718 = .ok (.iconst 2, 1) := dLx dLc_5 (i := 17) (q := (1718, (.iconst 2, 1))) rfl
theorem dL_law_1719 : decode cL_law 1719 = .ok (.iadd, 1) := dLx dLc_5 (i := 18) (q := (1719, (.iadd, 1))) rfl
theorem dL_law_1720 : decode cL_law 1720 = .ok (.iaload, 1) := dLx dLc_5 (i := 19) (q := (1720, (.iaload, 1))) rfl
theorem dL_law_1721 : decode cL_law 1721 = .ok (.aload_n 0, 1) := dLx dLc_5 (i := 20) (q := (1721, (.aload_n 0, 1))) rfl
theorem dL_law_1722 : decode cL_law 1722 = .ok (.iload 4, 2) := dLx dLc_5 (i := 21) (q := (1722, (.iload 4, 2))) rfl
theorem dL_law_1724 : decode cL_law 1724 = .ok (.iconst 3, 1) := dLx dLc_5 (i := 22) (q := (1724, (.iconst 3, 1))) rfl
theorem dL_law_1725 : decode cL_law 1725 = .ok (.iadd, 1) := dLx dLc_5 (i := 23) (q := (1725, (.iadd, 1))) rfl
theorem dL_law_1726 : decode cL_law 1726 = .ok (.iaload, 1) := dLx dLc_5 (i := 24) (q := (1726, (.iaload, 1))) rfl
theorem dL_law_1727 : decode cL_law 1727 = .ok (.invokevirtual 260, 3) := dLx dLc_5 (i := 25) (q := (1727, (.invokevirtual 260, 3))) rfl
theorem dL_law_1730 : decode cL_law 1730 = .ok (.istore 6, 2) := dLx dLc_5 (i := 26) (q := (1730, (.istore 6, 2))) rfl
theorem dL_law_1732 : decode cL_law 1732 = .ok (.aload_n 2, 1) := dLx dLc_5 (i := 27) (q := (1732, (.aload_n 2, 1))) rfl
theorem dL_law_1733 : decode cL_law 1733 = .ok (.invokevirtual 201, 3) := dLx dLc_5 (i := 28) (q := (1733, (.invokevirtual 201, 3))) rfl
theorem dL_law_1736 : decode cL_law 1736 = .ok (.iload 5, 2) := dLx dLc_5 (i := 29) (q := (1736, (.iload 5, 2))) rfl
theorem dL_law_1738 : decode cL_law 1738 = .ok (.if_icmp .eq 5, 3) := dLx dLc_5 (i := 30) (q := (1738, (.if_icmp .eq 5, 3))) rfl
theorem dL_law_1741 : decode cL_law 1741 = .ok (.iconst 0, 1) := dLx dLc_5 (i := 31) (q := (1741, (.iconst 0, 1))) rfl
theorem dL_law_1742 : decode cL_law 1742 = .ok (.ireturn, 1) := dLx dLc_5 (i := 32) (q := (1742, (.ireturn, 1))) rfl
theorem dL_law_1743 : decode cL_law 1743 = .ok (.iload 5, 2) := dLx dLc_5 (i := 33) (q := (1743, (.iload 5, 2))) rfl
theorem dL_law_1745 : decode cL_law 1745 = .ok (.ifCond .ne 15, 3) := dLx dLc_5 (i := 34) (q := (1745, (.ifCond .ne 15, 3))) rfl
theorem dL_law_1748 : decode cL_law 1748 = .ok (.aload_n 3, 1) := dLx dLc_5 (i := 35) (q := (1748, (.aload_n 3, 1))) rfl
theorem dL_law_1749 : decode cL_law 1749 = .ok (.iconst 0, 1) := dLx dLc_5 (i := 36) (q := (1749, (.iconst 0, 1))) rfl
theorem dL_law_1750 : decode cL_law 1750 = .ok (.laload, 1) := dLx dLc_5 (i := 37) (q := (1750, (.laload, 1))) rfl
theorem dL_law_1751 : decode cL_law 1751 = .ok (.iload 6, 2) := dLx dLc_5 (i := 38) (q := (1751, (.iload 6, 2))) rfl
theorem dL_law_1753 : decode cL_law 1753 = .ok (.i2l, 1) := dLx dLc_5 (i := 39) (q := (1753, (.i2l, 1))) rfl
theorem dL_law_1754 : decode cL_law 1754 = .ok (.lcmp, 1) := dLx dLc_5 (i := 40) (q := (1754, (.lcmp, 1))) rfl
theorem dL_law_1755 : decode cL_law 1755 = .ok (.ifCond .eq 5, 3) := dLx dLc_5 (i := 41) (q := (1755, (.ifCond .eq 5, 3))) rfl
theorem dL_law_1758 : decode cL_law 1758 = .ok (.iconst 0, 1) := dLx dLc_5 (i := 42) (q := (1758, (.iconst 0, 1))) rfl
theorem dL_law_1759 : decode cL_law 1759 = .ok (.ireturn, 1) := dLx dLc_5 (i := 43) (q := (1759, (.ireturn, 1))) rfl
theorem dL_law_1760 : decode cL_law 1760 = .ok (.goto 2667, 3) := dLx dLc_5 (i := 44) (q := (1760, (.goto 2667, 3))) rfl
theorem dL_law_1763 : decode cL_law 1763 = .ok (.aload_n 1, 1) := dLx dLc_5 (i := 45) (q := (1763, (.aload_n 1, 1))) rfl
theorem dL_law_1764 : decode cL_law 1764 = .ok (.aload_n 0, 1) := dLx dLc_5 (i := 46) (q := (1764, (.aload_n 0, 1))) rfl
theorem dL_law_1765 : decode cL_law 1765 = .ok (.iload 4, 2) := dLx dLc_5 (i := 47) (q := (1765, (.iload 4, 2))) rfl
theorem dL_law_1767 : decode cL_law 1767 = .ok (.iconst 1, 1) := dLx dLc_5 (i := 48) (q := (1767, (.iconst 1, 1))) rfl
theorem dL_law_1768 : decode cL_law 1768 = .ok (.iadd, 1) := dLx dLc_5 (i := 49) (q := (1768, (.iadd, 1))) rfl
theorem dL_law_1769 : decode cL_law 1769 = .ok (.iaload, 1) := dLx dLc_5 (i := 50) (q := (1769, (.iaload, 1))) rfl
theorem dL_law_1770 : decode cL_law 1770 = .ok (.aload_n 0, 1) := dLx dLc_5 (i := 51) (q := (1770, (.aload_n 0, 1))) rfl
theorem dL_law_1771 : decode cL_law 1771 = .ok (.iload 4, 2) := dLx dLc_5 (i := 52) (q := (1771, (.iload 4, 2))) rfl
theorem dL_law_1773 : decode cL_law 1773 = .ok (.iconst 2, 1) := dLx dLc_5 (i := 53) (q := (1773, (.iconst 2, 1))) rfl
theorem dL_law_1774 : decode cL_law 1774 = .ok (.iadd, 1) := dLx dLc_5 (i := 54) (q := (1774, (.iadd, 1))) rfl
theorem dL_law_1775 : decode cL_law 1775 = .ok (.iaload, 1) := dLx dLc_5 (i := 55) (q := (1775, (.iaload, 1))) rfl
theorem dL_law_1776 : decode cL_law 1776 = .ok (.aload_n 0, 1) := dLx dLc_5 (i := 56) (q := (1776, (.aload_n 0, 1))) rfl
theorem dL_law_1777 : decode cL_law 1777 = .ok (.iload 4, 2) := dLx dLc_5 (i := 57) (q := (1777, (.iload 4, 2))) rfl
theorem dL_law_1779 : decode cL_law 1779 = .ok (.iconst 3, 1) := dLx dLc_5 (i := 58) (q := (1779, (.iconst 3, 1))) rfl
theorem dL_law_1780 : decode cL_law 1780 = .ok (.iadd, 1) := dLx dLc_5 (i := 59) (q := (1780, (.iadd, 1))) rfl
theorem dL_law_1781 : decode cL_law 1781 = .ok (.iaload, 1) := dLx dLc_5 (i := 60) (q := (1781, (.iaload, 1))) rfl
theorem dL_law_1782 : decode cL_law 1782 = .ok (.aload_n 3, 1) := dLx dLc_5 (i := 61) (q := (1782, (.aload_n 3, 1))) rfl
theorem dL_law_1783 : decode cL_law 1783 = .ok (.invokestatic 261, 3) := dLx dLc_5 (i := 62) (q := (1783, (.invokestatic 261, 3))) rfl
theorem dL_law_1786 : decode cL_law 1786 = .ok (.istore 5, 2) := dLx dLc_5 (i := 63) (q := (1786, (.istore 5, 2))) rfl
theorem dL_law_1788 : decode cL_law 1788 = .ok (.aload_n 2, 1) := dLx dLc_5 (i := 64) (q := (1788, (.aload_n 2, 1))) rfl
theorem dL_law_1789 : decode cL_law 1789 = .ok (.aload_n 0, 1) := dLx dLc_5 (i := 65) (q := (1789, (.aload_n 0, 1))) rfl
theorem dL_law_1790 : decode cL_law 1790 = .ok (.iload 4, 2) := dLx dLc_5 (i := 66) (q := (1790, (.iload 4, 2))) rfl
theorem dL_law_1792 : decode cL_law 1792 = .ok (.iconst 1, 1) := dLx dLc_5 (i := 67) (q := (1792, (.iconst 1, 1))) rfl
theorem dL_law_1793 : decode cL_law 1793 = .ok (.iadd, 1) := dLx dLc_5 (i := 68) (q := (1793, (.iadd, 1))) rfl
theorem dL_law_1794 : decode cL_law 1794 = .ok (.iaload, 1) := dLx dLc_5 (i := 69) (q := (1794, (.iaload, 1))) rfl
theorem dL_law_1795 : decode cL_law 1795 = .ok (.aload_n 0, 1) := dLx dLc_5 (i := 70) (q := (1795, (.aload_n 0, 1))) rfl
theorem dL_law_1796 : decode cL_law 1796 = .ok (.iload 4, 2) := dLx dLc_5 (i := 71) (q := (1796, (.iload 4, 2))) rfl
theorem dL_law_1798 : decode cL_law 1798 = .ok (.iconst 2, 1) := dLx dLc_5 (i := 72) (q := (1798, (.iconst 2, 1))) rfl
theorem dL_law_1799 : decode cL_law 1799 = .ok (.iadd, 1) := dLx dLc_5 (i := 73) (q := (1799, (.iadd, 1))) rfl
theorem dL_law_1800 : decode cL_law 1800 = .ok (.iaload, 1) := dLx dLc_5 (i := 74) (q := (1800, (.iaload, 1))) rfl
theorem dL_law_1801 : decode cL_law 1801 = .ok (.aload_n 0, 1) := dLx dLc_5 (i := 75) (q := (1801, (.aload_n 0, 1))) rfl
theorem dL_law_1802 : decode cL_law 1802 = .ok (.iload 4, 2) := dLx dLc_5 (i := 76) (q := (1802, (.iload 4, 2))) rfl
theorem dL_law_1804 : decode cL_law 1804 = .ok (.iconst 3, 1) := dLx dLc_5 (i := 77) (q := (1804, (.iconst 3, 1))) rfl
theorem dL_law_1805 : decode cL_law 1805 = .ok (.iadd, 1) := dLx dLc_5 (i := 78) (q := (1805, (.iadd, 1))) rfl
theorem dL_law_1806 : decode cL_law 1806 = .ok (.iaload, 1) := dLx dLc_5 (i := 79) (q := (1806, (.iaload, 1))) rfl
theorem dL_law_1807 : decode cL_law 1807 = .ok (.invokevirtual 263, 3) := dLx dLc_5 (i := 80) (q := (1807, (.invokevirtual 263, 3))) rfl
theorem dL_law_1810 : decode cL_law 1810 = .ok (.istore 6, 2) := dLx dLc_5 (i := 81) (q := (1810, (.istore 6, 2))) rfl
theorem dL_law_1812 : decode cL_law 1812 = .ok (.aload_n 2, 1) := dLx dLc_5 (i := 82) (q := (1812, (.aload_n 2, 1))) rfl
theorem dL_law_1813 : decode cL_law 1813 = .ok (.invokevirtual 201, 3) := dLx dLc_5 (i := 83) (q := (1813, (.invokevirtual 201, 3))) rfl
theorem dL_law_1816 : decode cL_law 1816 = .ok (.iload 5, 2) := dLx dLc_5 (i := 84) (q := (1816, (.iload 5, 2))) rfl
theorem dL_law_1818 : decode cL_law 1818 = .ok (.if_icmp .eq 5, 3) := dLx dLc_5 (i := 85) (q := (1818, (.if_icmp .eq 5, 3))) rfl
theorem dL_law_1821 : decode cL_law 1821 = .ok (.iconst 0, 1) := dLx dLc_5 (i := 86) (q := (1821, (.iconst 0, 1))) rfl
theorem dL_law_1822 : decode cL_law 1822 = .ok (.ireturn, 1) := dLx dLc_5 (i := 87) (q := (1822, (.ireturn, 1))) rfl
theorem dL_law_1823 : decode cL_law 1823 = .ok (.iload 5, 2) := dLx dLc_5 (i := 88) (q := (1823, (.iload 5, 2))) rfl
theorem dL_law_1825 : decode cL_law 1825 = .ok (.ifCond .ne 22, 3) := dLx dLc_5 (i := 89) (q := (1825, (.ifCond .ne 22, 3))) rfl
theorem dL_law_1828 : decode cL_law 1828 = .ok (.aload_n 3, 1) := dLx dLc_5 (i := 90) (q := (1828, (.aload_n 3, 1))) rfl
theorem dL_law_1829 : decode cL_law 1829 = .ok (.iconst 0, 1) := dLx dLc_5 (i := 91) (q := (1829, (.iconst 0, 1))) rfl
theorem dL_law_1830 : decode cL_law 1830 = .ok (.laload, 1) := dLx dLc_5 (i := 92) (q := (1830, (.laload, 1))) rfl
theorem dL_law_1831 : decode cL_law 1831 = .ok (.iload 6, 2) := dLx dLc_5 (i := 93) (q := (1831, (.iload 6, 2))) rfl
theorem dL_law_1833 : decode cL_law 1833 = .ok (.ifCond .eq 7, 3) := dLx dLc_5 (i := 94) (q := (1833, (.ifCond .eq 7, 3))) rfl
theorem dL_law_1836 : decode cL_law 1836 = .ok (.lconst 1, 1) := dLx dLc_5 (i := 95) (q := (1836, (.lconst 1, 1))) rfl
theorem dL_law_1837 : decode cL_law 1837 = .ok (.goto 4, 3) := dLx dLc_5 (i := 96) (q := (1837, (.goto 4, 3))) rfl
theorem dL_law_1840 : decode cL_law 1840 = .ok (.lconst 0, 1) := dLx dLc_5 (i := 97) (q := (1840, (.lconst 0, 1))) rfl
theorem dL_law_1841 : decode cL_law 1841 = .ok (.lcmp, 1) := dLx dLc_5 (i := 98) (q := (1841, (.lcmp, 1))) rfl
theorem dL_law_1842 : decode cL_law 1842 = .ok (.ifCond .eq 5, 3) := dLx dLc_5 (i := 99) (q := (1842, (.ifCond .eq 5, 3))) rfl
theorem dL_law_1845 : decode cL_law 1845 = .ok (.iconst 0, 1) := dLx dLc_5 (i := 100) (q := (1845, (.iconst 0, 1))) rfl
theorem dL_law_1846 : decode cL_law 1846 = .ok (.ireturn, 1) := dLx dLc_5 (i := 101) (q := (1846, (.ireturn, 1))) rfl
theorem dL_law_1847 : decode cL_law 1847 = .ok (.goto 2580, 3) := dLx dLc_5 (i := 102) (q := (1847, (.goto 2580, 3))) rfl
theorem dL_law_1850 : decode cL_law 1850 = .ok (.aload_n 1, 1) := dLx dLc_5 (i := 103) (q := (1850, (.aload_n 1, 1))) rfl
theorem dL_law_1851 : decode cL_law 1851 = .ok (.aload_n 0, 1) := dLx dLc_5 (i := 104) (q := (1851, (.aload_n 0, 1))) rfl
theorem dL_law_1852 : decode cL_law 1852 = .ok (.iload 4, 2) := dLx dLc_5 (i := 105) (q := (1852, (.iload 4, 2))) rfl
theorem dL_law_1854 : decode cL_law 1854 = .ok (.iconst 1, 1) := dLx dLc_5 (i := 106) (q := (1854, (.iconst 1, 1))) rfl
theorem dL_law_1855 : decode cL_law 1855 = .ok (.iadd, 1) := dLx dLc_5 (i := 107) (q := (1855, (.iadd, 1))) rfl
theorem dL_law_1856 : decode cL_law 1856 = .ok (.iaload, 1) := dLx dLc_5 (i := 108) (q := (1856, (.iaload, 1))) rfl
theorem dL_law_1857 : decode cL_law 1857 = .ok (.aload_n 0, 1) := dLx dLc_5 (i := 109) (q := (1857, (.aload_n 0, 1))) rfl
theorem dL_law_1858 : decode cL_law 1858 = .ok (.iload 4, 2) := dLx dLc_5 (i := 110) (q := (1858, (.iload 4, 2))) rfl
theorem dL_law_1860 : decode cL_law 1860 = .ok (.iconst 2, 1) := dLx dLc_5 (i := 111) (q := (1860, (.iconst 2, 1))) rfl
theorem dL_law_1861 : decode cL_law 1861 = .ok (.iadd, 1) := dLx dLc_5 (i := 112) (q := (1861, (.iadd, 1))) rfl
theorem dL_law_1862 : decode cL_law 1862 = .ok (.iaload, 1) := dLx dLc_5 (i := 113) (q := (1862, (.iaload, 1))) rfl
theorem dL_law_1863 : decode cL_law 1863 = .ok (.aload_n 0, 1) := dLx dLc_5 (i := 114) (q := (1863, (.aload_n 0, 1))) rfl
theorem dL_law_1864 : decode cL_law 1864 = .ok (.iload 4, 2) := dLx dLc_5 (i := 115) (q := (1864, (.iload 4, 2))) rfl
theorem dL_law_1866 : decode cL_law 1866 = .ok (.iconst 3, 1) := dLx dLc_5 (i := 116) (q := (1866, (.iconst 3, 1))) rfl
theorem dL_law_1867 : decode cL_law 1867 = .ok (.iadd, 1) := dLx dLc_5 (i := 117) (q := (1867, (.iadd, 1))) rfl
theorem dL_law_1868 : decode cL_law 1868 = .ok (.iaload, 1) := dLx dLc_5 (i := 118) (q := (1868, (.iaload, 1))) rfl
theorem dL_law_1869 : decode cL_law 1869 = .ok (.aload_n 0, 1) := dLx dLc_5 (i := 119) (q := (1869, (.aload_n 0, 1))) rfl
theorem dL_law_1870 : decode cL_law 1870 = .ok (.iload 4, 2) := dLx dLc_5 (i := 120) (q := (1870, (.iload 4, 2))) rfl
theorem dL_law_1872 : decode cL_law 1872 = .ok (.iconst 4, 1) := dLx dLc_5 (i := 121) (q := (1872, (.iconst 4, 1))) rfl
theorem dL_law_1873 : decode cL_law 1873 = .ok (.iadd, 1) := dLx dLc_5 (i := 122) (q := (1873, (.iadd, 1))) rfl
theorem dL_law_1874 : decode cL_law 1874 = .ok (.iaload, 1) := dLx dLc_5 (i := 123) (q := (1874, (.iaload, 1))) rfl
theorem dL_law_1875 : decode cL_law 1875 = .ok (.aload_n 3, 1) := dLx dLc_5 (i := 124) (q := (1875, (.aload_n 3, 1))) rfl
theorem dL_law_1876 : decode cL_law 1876 = .ok (.invokestatic 264, 3) := dLx dLc_5 (i := 125) (q := (1876, (.invokestatic 264, 3))) rfl
theorem dL_law_1879 : decode cL_law 1879 = .ok (.istore 5, 2) := dLx dLc_5 (i := 126) (q := (1879, (.istore 5, 2))) rfl
theorem dL_law_1881 : decode cL_law 1881 = .ok (.aload_n 2, 1) := dLx dLc_5 (i := 127) (q := (1881, (.aload_n 2, 1))) rfl
theorem dL_law_1882 : decode cL_law 1882 = .ok (.aload_n 0, 1) := dLx dLc_5 (i := 128) (q := (1882, (.aload_n 0, 1))) rfl
theorem dL_law_1883 : decode cL_law 1883 = .ok (.iload 4, 2) := dLx dLc_5 (i := 129) (q := (1883, (.iload 4, 2))) rfl
theorem dL_law_1885 : decode cL_law 1885 = .ok (.iconst 1, 1) := dLx dLc_5 (i := 130) (q := (1885, (.iconst 1, 1))) rfl
theorem dL_law_1886 : decode cL_law 1886 = .ok (.iadd, 1) := dLx dLc_5 (i := 131) (q := (1886, (.iadd, 1))) rfl
theorem dL_law_1887 : decode cL_law 1887 = .ok (.iaload, 1) := dLx dLc_5 (i := 132) (q := (1887, (.iaload, 1))) rfl
theorem dL_law_1888 : decode cL_law 1888 = .ok (.aload_n 0, 1) := dLx dLc_5 (i := 133) (q := (1888, (.aload_n 0, 1))) rfl
theorem dL_law_1889 : decode cL_law 1889 = .ok (.iload 4, 2) := dLx dLc_5 (i := 134) (q := (1889, (.iload 4, 2))) rfl
theorem dL_law_1891 : decode cL_law 1891 = .ok (.iconst 2, 1) := dLx dLc_5 (i := 135) (q := (1891, (.iconst 2, 1))) rfl
theorem dL_law_1892 : decode cL_law 1892 = .ok (.iadd, 1) := dLx dLc_5 (i := 136) (q := (1892, (.iadd, 1))) rfl
theorem dL_law_1893 : decode cL_law 1893 = .ok (.iaload, 1) := dLx dLc_5 (i := 137) (q := (1893, (.iaload, 1))) rfl
theorem dL_law_1894 : decode cL_law 1894 = .ok (.aload_n 0, 1) := dLx dLc_5 (i := 138) (q := (1894, (.aload_n 0, 1))) rfl
theorem dL_law_1895 : decode cL_law 1895 = .ok (.iload 4, 2) := dLx dLc_5 (i := 139) (q := (1895, (.iload 4, 2))) rfl
theorem dL_law_1897 : decode cL_law 1897 = .ok (.iconst 3, 1) := dLx dLc_5 (i := 140) (q := (1897, (.iconst 3, 1))) rfl
theorem dL_law_1898 : decode cL_law 1898 = .ok (.iadd, 1) := dLx dLc_5 (i := 141) (q := (1898, (.iadd, 1))) rfl
theorem dL_law_1899 : decode cL_law 1899 = .ok (.iaload, 1) := dLx dLc_5 (i := 142) (q := (1899, (.iaload, 1))) rfl
theorem dL_law_1900 : decode cL_law 1900 = .ok (.aload_n 0, 1) := dLx dLc_5 (i := 143) (q := (1900, (.aload_n 0, 1))) rfl
theorem dL_law_1901 : decode cL_law 1901 = .ok (.iload 4, 2) := dLx dLc_5 (i := 144) (q := (1901, (.iload 4, 2))) rfl
theorem dL_law_1903 : decode cL_law 1903 = .ok (.iconst 4, 1) := dLx dLc_5 (i := 145) (q := (1903, (.iconst 4, 1))) rfl
theorem dL_law_1904 : decode cL_law 1904 = .ok (.iadd, 1) := dLx dLc_5 (i := 146) (q := (1904, (.iadd, 1))) rfl
theorem dL_law_1905 : decode cL_law 1905 = .ok (.iaload, 1) := dLx dLc_5 (i := 147) (q := (1905, (.iaload, 1))) rfl
theorem dL_law_1906 : decode cL_law 1906 = .ok (.invokevirtual 267, 3) := dLx dLc_5 (i := 148) (q := (1906, (.invokevirtual 267, 3))) rfl
theorem dL_law_1909 : decode cL_law 1909 = .ok (.istore 6, 2) := dLx dLc_5 (i := 149) (q := (1909, (.istore 6, 2))) rfl
theorem dL_law_1911 : decode cL_law 1911 = .ok (.aload_n 2, 1) := dLx dLc_5 (i := 150) (q := (1911, (.aload_n 2, 1))) rfl
theorem dL_law_1912 : decode cL_law 1912 = .ok (.invokevirtual 201, 3) := dLx dLc_5 (i := 151) (q := (1912, (.invokevirtual 201, 3))) rfl
theorem dL_law_1915 : decode cL_law 1915 = .ok (.iload 5, 2) := dLx dLc_5 (i := 152) (q := (1915, (.iload 5, 2))) rfl
theorem dL_law_1917 : decode cL_law 1917 = .ok (.if_icmp .eq 5, 3) := dLx dLc_5 (i := 153) (q := (1917, (.if_icmp .eq 5, 3))) rfl
theorem dL_law_1920 : decode cL_law 1920 = .ok (.iconst 0, 1) := dLx dLc_5 (i := 154) (q := (1920, (.iconst 0, 1))) rfl
theorem dL_law_1921 : decode cL_law 1921 = .ok (.ireturn, 1) := dLx dLc_5 (i := 155) (q := (1921, (.ireturn, 1))) rfl
theorem dL_law_1922 : decode cL_law 1922 = .ok (.iload 5, 2) := dLx dLc_5 (i := 156) (q := (1922, (.iload 5, 2))) rfl
theorem dL_law_1924 : decode cL_law 1924 = .ok (.ifCond .ne 15, 3) := dLx dLc_5 (i := 157) (q := (1924, (.ifCond .ne 15, 3))) rfl
theorem dL_law_1927 : decode cL_law 1927 = .ok (.aload_n 3, 1) := dLx dLc_5 (i := 158) (q := (1927, (.aload_n 3, 1))) rfl
theorem dL_law_1928 : decode cL_law 1928 = .ok (.iconst 0, 1) := dLx dLc_5 (i := 159) (q := (1928, (.iconst 0, 1))) rfl
theorem dL_law_1929 : decode cL_law 1929 = .ok (.laload, 1) := dLx dLc_5 (i := 160) (q := (1929, (.laload, 1))) rfl
theorem dL_law_1930 : decode cL_law 1930 = .ok (.iload 6, 2) := dLx dLc_5 (i := 161) (q := (1930, (.iload 6, 2))) rfl
theorem dL_law_1932 : decode cL_law 1932 = .ok (.i2l, 1) := dLx dLc_5 (i := 162) (q := (1932, (.i2l, 1))) rfl
theorem dL_law_1933 : decode cL_law 1933 = .ok (.lcmp, 1) := dLx dLc_5 (i := 163) (q := (1933, (.lcmp, 1))) rfl
theorem dL_law_1934 : decode cL_law 1934 = .ok (.ifCond .eq 5, 3) := dLx dLc_5 (i := 164) (q := (1934, (.ifCond .eq 5, 3))) rfl
theorem dL_law_1937 : decode cL_law 1937 = .ok (.iconst 0, 1) := dLx dLc_5 (i := 165) (q := (1937, (.iconst 0, 1))) rfl
theorem dL_law_1938 : decode cL_law 1938 = .ok (.ireturn, 1) := dLx dLc_5 (i := 166) (q := (1938, (.ireturn, 1))) rfl
theorem dL_law_1939 : decode cL_law 1939 = .ok (.goto 2488, 3) := dLx dLc_5 (i := 167) (q := (1939, (.goto 2488, 3))) rfl
theorem dL_law_1942 : decode cL_law 1942 = .ok (.aload_n 1, 1) := dLx dLc_5 (i := 168) (q := (1942, (.aload_n 1, 1))) rfl
theorem dL_law_1943 : decode cL_law 1943 = .ok (.aload_n 0, 1) := dLx dLc_5 (i := 169) (q := (1943, (.aload_n 0, 1))) rfl
theorem dL_law_1944 : decode cL_law 1944 = .ok (.iload 4, 2) := dLx dLc_5 (i := 170) (q := (1944, (.iload 4, 2))) rfl
theorem dL_law_1946 : decode cL_law 1946 = .ok (.iconst 1, 1) := dLx dLc_5 (i := 171) (q := (1946, (.iconst 1, 1))) rfl
theorem dL_law_1947 : decode cL_law 1947 = .ok (.iadd, 1) := dLx dLc_5 (i := 172) (q := (1947, (.iadd, 1))) rfl
theorem dL_law_1948 : decode cL_law 1948 = .ok (.iaload, 1) := dLx dLc_5 (i := 173) (q := (1948, (.iaload, 1))) rfl
theorem dL_law_1949 : decode cL_law 1949 = .ok (.aload_n 3, 1) := dLx dLc_5 (i := 174) (q := (1949, (.aload_n 3, 1))) rfl
theorem dL_law_1950 : decode cL_law 1950 = .ok (.invokestatic 268, 3) := dLx dLc_5 (i := 175) (q := (1950, (.invokestatic 268, 3))) rfl
theorem dL_law_1953 : decode cL_law 1953 = .ok (.istore 5, 2) := dLx dLc_5 (i := 176) (q := (1953, (.istore 5, 2))) rfl
theorem dL_law_1955 : decode cL_law 1955 = .ok (.aload_n 2, 1) := dLx dLc_5 (i := 177) (q := (1955, (.aload_n 2, 1))) rfl
theorem dL_law_1956 : decode cL_law 1956 = .ok (.aload_n 0, 1) := dLx dLc_5 (i := 178) (q := (1956, (.aload_n 0, 1))) rfl
theorem dL_law_1957 : decode cL_law 1957 = .ok (.iload 4, 2) := dLx dLc_5 (i := 179) (q := (1957, (.iload 4, 2))) rfl
theorem dL_law_1959 : decode cL_law 1959 = .ok (.iconst 1, 1) := dLx dLc_5 (i := 180) (q := (1959, (.iconst 1, 1))) rfl
theorem dL_law_1960 : decode cL_law 1960 = .ok (.iadd, 1) := dLx dLc_5 (i := 181) (q := (1960, (.iadd, 1))) rfl
theorem dL_law_1961 : decode cL_law 1961 = .ok (.iaload, 1) := dLx dLc_5 (i := 182) (q := (1961, (.iaload, 1))) rfl
theorem dL_law_1962 : decode cL_law 1962 = .ok (.invokevirtual 270, 3) := dLx dLc_5 (i := 183) (q := (1962, (.invokevirtual 270, 3))) rfl
theorem dL_law_1965 : decode cL_law 1965 = .ok (.istore 6, 2) := dLx dLc_5 (i := 184) (q := (1965, (.istore 6, 2))) rfl
theorem dL_law_1967 : decode cL_law 1967 = .ok (.aload_n 2, 1) := dLx dLc_5 (i := 185) (q := (1967, (.aload_n 2, 1))) rfl
theorem dL_law_1968 : decode cL_law 1968 = .ok (.invokevirtual 201, 3) := dLx dLc_5 (i := 186) (q := (1968, (.invokevirtual 201, 3))) rfl
theorem dL_law_1971 : decode cL_law 1971 = .ok (.iload 5, 2) := dLx dLc_5 (i := 187) (q := (1971, (.iload 5, 2))) rfl
theorem dL_law_1973 : decode cL_law 1973 = .ok (.if_icmp .eq 5, 3) := dLx dLc_5 (i := 188) (q := (1973, (.if_icmp .eq 5, 3))) rfl
theorem dL_law_1976 : decode cL_law 1976 = .ok (.iconst 0, 1) := dLx dLc_5 (i := 189) (q := (1976, (.iconst 0, 1))) rfl
theorem dL_law_1977 : decode cL_law 1977 = .ok (.ireturn, 1) := dLx dLc_5 (i := 190) (q := (1977, (.ireturn, 1))) rfl
theorem dL_law_1978 : decode cL_law 1978 = .ok (.iload 5, 2) := dLx dLc_5 (i := 191) (q := (1978, (.iload 5, 2))) rfl
theorem dL_law_1980 : decode cL_law 1980 = .ok (.ifCond .ne 15, 3) := dLx dLc_5 (i := 192) (q := (1980, (.ifCond .ne 15, 3))) rfl
theorem dL_law_1983 : decode cL_law 1983 = .ok (.aload_n 3, 1) := dLx dLc_5 (i := 193) (q := (1983, (.aload_n 3, 1))) rfl
theorem dL_law_1984 : decode cL_law 1984 = .ok (.iconst 0, 1) := dLx dLc_5 (i := 194) (q := (1984, (.iconst 0, 1))) rfl
theorem dL_law_1985 : decode cL_law 1985 = .ok (.laload, 1) := dLx dLc_5 (i := 195) (q := (1985, (.laload, 1))) rfl
theorem dL_law_1986 : decode cL_law 1986 = .ok (.iload 6, 2) := dLx dLc_5 (i := 196) (q := (1986, (.iload 6, 2))) rfl
theorem dL_law_1988 : decode cL_law 1988 = .ok (.i2l, 1) := dLx dLc_5 (i := 197) (q := (1988, (.i2l, 1))) rfl
theorem dL_law_1989 : decode cL_law 1989 = .ok (.lcmp, 1) := dLx dLc_5 (i := 198) (q := (1989, (.lcmp, 1))) rfl
theorem dL_law_1990 : decode cL_law 1990 = .ok (.ifCond .eq 5, 3) := dLx dLc_5 (i := 199) (q := (1990, (.ifCond .eq 5, 3))) rfl
theorem dL_law_1993 : decode cL_law 1993 = .ok (.iconst 0, 1) := dLx dLc_5 (i := 200) (q := (1993, (.iconst 0, 1))) rfl
theorem dL_law_1994 : decode cL_law 1994 = .ok (.ireturn, 1) := dLx dLc_5 (i := 201) (q := (1994, (.ireturn, 1))) rfl
theorem dL_law_1995 : decode cL_law 1995 = .ok (.goto 2432, 3) := dLx dLc_5 (i := 202) (q := (1995, (.goto 2432, 3))) rfl
theorem dL_law_1998 : decode cL_law 1998 = .ok (.aload_n 1, 1) := dLx dLc_5 (i := 203) (q := (1998, (.aload_n 1, 1))) rfl
theorem dL_law_1999 : decode cL_law 1999 = .ok (.invokevirtual 271, 3) := dLx dLc_5 (i := 204) (q := (1999, (.invokevirtual 271, 3))) rfl
theorem dL_law_2002 : decode cL_law 2002 = .ok (.aload_n 2, 1) := dLx dLc_5 (i := 205) (q := (2002, (.aload_n 2, 1))) rfl
theorem dL_law_2003 : decode cL_law 2003 = .ok (.invokevirtual 274, 3) := dLx dLc_5 (i := 206) (q := (2003, (.invokevirtual 274, 3))) rfl
theorem dL_law_2006 : decode cL_law 2006 = .ok (.if_icmp .eq 2421, 3) := dLx dLc_5 (i := 207) (q := (2006, (.if_icmp .eq 2421, 3))) rfl
theorem dL_law_2009 : decode cL_law 2009 = .ok (.iconst 0, 1) := dLx dLc_5 (i := 208) (q := (2009, (.iconst 0, 1))) rfl
theorem dL_law_2010 : decode cL_law 2010 = .ok (.ireturn, 1) := dLx dLc_5 (i := 209) (q := (2010, (.ireturn, 1))) rfl
theorem dL_law_2011 : decode cL_law 2011 = .ok (.aload_n 1, 1) := dLx dLc_5 (i := 210) (q := (2011, (.aload_n 1, 1))) rfl
theorem dL_law_2012 : decode cL_law 2012 = .ok (.invokevirtual 275, 3) := dLx dLc_5 (i := 211) (q := (2012, (.invokevirtual 275, 3))) rfl
theorem dL_law_2015 : decode cL_law 2015 = .ok (.aload_n 2, 1) := dLx dLc_5 (i := 212) (q := (2015, (.aload_n 2, 1))) rfl
theorem dL_law_2016 : decode cL_law 2016 = .ok (.invokevirtual 278, 3) := dLx dLc_5 (i := 213) (q := (2016, (.invokevirtual 278, 3))) rfl
theorem dL_law_2019 : decode cL_law 2019 = .ok (.if_icmp .eq 2408, 3) := dLx dLc_5 (i := 214) (q := (2019, (.if_icmp .eq 2408, 3))) rfl
theorem dL_law_2022 : decode cL_law 2022 = .ok (.iconst 0, 1) := dLx dLc_5 (i := 215) (q := (2022, (.iconst 0, 1))) rfl
theorem dL_law_2023 : decode cL_law 2023 = .ok (.ireturn, 1) := dLx dLc_5 (i := 216) (q := (2023, (.ireturn, 1))) rfl
theorem dL_law_2024 : decode cL_law 2024 = .ok (.aload_n 1, 1) := dLx dLc_5 (i := 217) (q := (2024, (.aload_n 1, 1))) rfl
theorem dL_law_2025 : decode cL_law 2025 = .ok (.aload_n 3, 1) := dLx dLc_5 (i := 218) (q := (2025, (.aload_n 3, 1))) rfl
theorem dL_law_2026 : decode cL_law 2026 = .ok (.invokestatic 279, 3) := dLx dLc_5 (i := 219) (q := (2026, (.invokestatic 279, 3))) rfl
theorem dL_law_2029 : decode cL_law 2029 = .ok (.istore 5, 2) := dLx dLc_5 (i := 220) (q := (2029, (.istore 5, 2))) rfl
theorem dL_law_2031 : decode cL_law 2031 = .ok (.aload_n 2, 1) := dLx dLc_5 (i := 221) (q := (2031, (.aload_n 2, 1))) rfl
theorem dL_law_2032 : decode cL_law 2032 = .ok (.invokevirtual 281, 3) := dLx dLc_5 (i := 222) (q := (2032, (.invokevirtual 281, 3))) rfl
theorem dL_law_2035 : decode cL_law 2035 = .ok (.istore 6, 2) := dLx dLc_5 (i := 223) (q := (2035, (.istore 6, 2))) rfl
theorem dL_law_2037 : decode cL_law 2037 = .ok (.aload_n 2, 1) := dLx dLc_5 (i := 224) (q := (2037, (.aload_n 2, 1))) rfl
theorem dL_law_2038 : decode cL_law 2038 = .ok (.invokevirtual 201, 3) := dLx dLc_5 (i := 225) (q := (2038, (.invokevirtual 201, 3))) rfl
theorem dL_law_2041 : decode cL_law 2041 = .ok (.iload 5, 2) := dLx dLc_5 (i := 226) (q := (2041, (.iload 5, 2))) rfl
theorem dL_law_2043 : decode cL_law 2043 = .ok (.if_icmp .eq 5, 3) := dLx dLc_5 (i := 227) (q := (2043, (.if_icmp .eq 5, 3))) rfl
theorem dL_law_2046 : decode cL_law 2046 = .ok (.iconst 0, 1) := dLx dLc_5 (i := 228) (q := (2046, (.iconst 0, 1))) rfl
theorem dL_law_2047 : decode cL_law 2047 = .ok (.ireturn, 1) := dLx dLc_5 (i := 229) (q := (2047, (.ireturn, 1))) rfl
theorem dL_law_2048 : decode cL_law 2048 = .ok (.iload 5, 2) := dLx dLc_5 (i := 230) (q := (2048, (.iload 5, 2))) rfl
theorem dL_law_2050 : decode cL_law 2050 = .ok (.ifCond .ne 15, 3) := dLx dLc_5 (i := 231) (q := (2050, (.ifCond .ne 15, 3))) rfl
theorem dL_law_2053 : decode cL_law 2053 = .ok (.aload_n 3, 1) := dLx dLc_5 (i := 232) (q := (2053, (.aload_n 3, 1))) rfl
theorem dL_law_2054 : decode cL_law 2054 = .ok (.iconst 0, 1) := dLx dLc_5 (i := 233) (q := (2054, (.iconst 0, 1))) rfl
theorem dL_law_2055 : decode cL_law 2055 = .ok (.laload, 1) := dLx dLc_5 (i := 234) (q := (2055, (.laload, 1))) rfl
theorem dL_law_2056 : decode cL_law 2056 = .ok (.iload 6, 2) := dLx dLc_5 (i := 235) (q := (2056, (.iload 6, 2))) rfl
theorem dL_law_2058 : decode cL_law 2058 = .ok (.i2l, 1) := dLx dLc_5 (i := 236) (q := (2058, (.i2l, 1))) rfl
theorem dL_law_2059 : decode cL_law 2059 = .ok (.lcmp, 1) := dLx dLc_5 (i := 237) (q := (2059, (.lcmp, 1))) rfl
theorem dL_law_2060 : decode cL_law 2060 = .ok (.ifCond .eq 5, 3) := dLx dLc_5 (i := 238) (q := (2060, (.ifCond .eq 5, 3))) rfl
theorem dL_law_2063 : decode cL_law 2063 = .ok (.iconst 0, 1) := dLx dLc_5 (i := 239) (q := (2063, (.iconst 0, 1))) rfl
theorem dL_law_2064 : decode cL_law 2064 = .ok (.ireturn, 1) := dLx dLc_5 (i := 240) (q := (2064, (.ireturn, 1))) rfl
theorem dL_law_2065 : decode cL_law 2065 = .ok (.goto 2362, 3) := dLx dLc_5 (i := 241) (q := (2065, (.goto 2362, 3))) rfl
theorem dL_law_2068 : decode cL_law 2068 = .ok (.aload_n 1, 1) := dLx dLc_5 (i := 242) (q := (2068, (.aload_n 1, 1))) rfl
theorem dL_law_2069 : decode cL_law 2069 = .ok (.aload_n 0, 1) := dLx dLc_5 (i := 243) (q := (2069, (.aload_n 0, 1))) rfl
theorem dL_law_2070 : decode cL_law 2070 = .ok (.iload 4, 2) := dLx dLc_5 (i := 244) (q := (2070, (.iload 4, 2))) rfl
theorem dL_law_2072 : decode cL_law 2072 = .ok (.iconst 1, 1) := dLx dLc_5 (i := 245) (q := (2072, (.iconst 1, 1))) rfl
theorem dL_law_2073 : decode cL_law 2073 = .ok (.iadd, 1) := dLx dLc_5 (i := 246) (q := (2073, (.iadd, 1))) rfl
theorem dL_law_2074 : decode cL_law 2074 = .ok (.iaload, 1) := dLx dLc_5 (i := 247) (q := (2074, (.iaload, 1))) rfl
theorem dL_law_2075 : decode cL_law 2075 = .ok (.aload_n 3, 1) := dLx dLc_5 (i := 248) (q := (2075, (.aload_n 3, 1))) rfl
theorem dL_law_2076 : decode cL_law 2076 = .ok (.invokestatic 282, 3) := dLx dLc_5 (i := 249) (q := (2076, (.invokestatic 282, 3))) rfl
theorem dL_law_2079 : decode cL_law 2079 = .ok (.istore 5, 2) := dLx dLc_5 (i := 250) (q := (2079, (.istore 5, 2))) rfl
theorem dL_law_2081 : decode cL_law 2081 = .ok (.aload_n 2, 1) := dLx dLc_5 (i := 251) (q := (2081, (.aload_n 2, 1))) rfl
theorem dL_law_2082 : decode cL_law 2082 = .ok (.aload_n 0, 1) := dLx dLc_5 (i := 252) (q := (2082, (.aload_n 0, 1))) rfl
theorem dL_law_2083 : decode cL_law 2083 = .ok (.iload 4, 2) := dLx dLc_5 (i := 253) (q := (2083, (.iload 4, 2))) rfl
theorem dL_law_2085 : decode cL_law 2085 = .ok (.iconst 1, 1) := dLx dLc_5 (i := 254) (q := (2085, (.iconst 1, 1))) rfl
theorem dL_law_2086 : decode cL_law 2086 = .ok (.iadd, 1) := dLx dLc_5 (i := 255) (q := (2086, (.iadd, 1))) rfl
theorem dL_law_2087 : decode cL_law 2087 = .ok (.iaload, 1) := dLx dLc_5 (i := 256) (q := (2087, (.iaload, 1))) rfl
theorem dL_law_2088 : decode cL_law 2088 = .ok (.invokevirtual 284, 3) := dLx dLc_5 (i := 257) (q := (2088, (.invokevirtual 284, 3))) rfl
theorem dL_law_2091 : decode cL_law 2091 = .ok (.istore 6, 2) := dLx dLc_5 (i := 258) (q := (2091, (.istore 6, 2))) rfl
theorem dL_law_2093 : decode cL_law 2093 = .ok (.aload_n 2, 1) := dLx dLc_5 (i := 259) (q := (2093, (.aload_n 2, 1))) rfl
theorem dL_law_2094 : decode cL_law 2094 = .ok (.invokevirtual 201, 3) := dLx dLc_5 (i := 260) (q := (2094, (.invokevirtual 201, 3))) rfl
theorem dL_law_2097 : decode cL_law 2097 = .ok (.iload 5, 2) := dLx dLc_5 (i := 261) (q := (2097, (.iload 5, 2))) rfl
theorem dL_law_2099 : decode cL_law 2099 = .ok (.if_icmp .eq 5, 3) := dLx dLc_5 (i := 262) (q := (2099, (.if_icmp .eq 5, 3))) rfl
theorem dL_law_2102 : decode cL_law 2102 = .ok (.iconst 0, 1) := dLx dLc_5 (i := 263) (q := (2102, (.iconst 0, 1))) rfl
theorem dL_law_2103 : decode cL_law 2103 = .ok (.ireturn, 1) := dLx dLc_5 (i := 264) (q := (2103, (.ireturn, 1))) rfl
theorem dL_law_2104 : decode cL_law 2104 = .ok (.iload 5, 2) := dLx dLc_5 (i := 265) (q := (2104, (.iload 5, 2))) rfl
theorem dL_law_2106 : decode cL_law 2106 = .ok (.ifCond .ne 15, 3) := dLx dLc_5 (i := 266) (q := (2106, (.ifCond .ne 15, 3))) rfl
theorem dL_law_2109 : decode cL_law 2109 = .ok (.aload_n 3, 1) := dLx dLc_5 (i := 267) (q := (2109, (.aload_n 3, 1))) rfl
theorem dL_law_2110 : decode cL_law 2110 = .ok (.iconst 0, 1) := dLx dLc_5 (i := 268) (q := (2110, (.iconst 0, 1))) rfl
theorem dL_law_2111 : decode cL_law 2111 = .ok (.laload, 1) := dLx dLc_5 (i := 269) (q := (2111, (.laload, 1))) rfl
theorem dL_law_2112 : decode cL_law 2112 = .ok (.iload 6, 2) := dLx dLc_5 (i := 270) (q := (2112, (.iload 6, 2))) rfl
theorem dL_law_2114 : decode cL_law 2114 = .ok (.i2l, 1) := dLx dLc_5 (i := 271) (q := (2114, (.i2l, 1))) rfl
theorem dL_law_2115 : decode cL_law 2115 = .ok (.lcmp, 1) := dLx dLc_5 (i := 272) (q := (2115, (.lcmp, 1))) rfl
theorem dL_law_2116 : decode cL_law 2116 = .ok (.ifCond .eq 5, 3) := dLx dLc_5 (i := 273) (q := (2116, (.ifCond .eq 5, 3))) rfl
theorem dL_law_2119 : decode cL_law 2119 = .ok (.iconst 0, 1) := dLx dLc_5 (i := 274) (q := (2119, (.iconst 0, 1))) rfl
theorem dL_law_2120 : decode cL_law 2120 = .ok (.ireturn, 1) := dLx dLc_5 (i := 275) (q := (2120, (.ireturn, 1))) rfl
theorem dL_law_2121 : decode cL_law 2121 = .ok (.goto 2306, 3) := dLx dLc_5 (i := 276) (q := (2121, (.goto 2306, 3))) rfl
theorem dL_law_2124 : decode cL_law 2124 = .ok (.aload_n 1, 1) := dLx dLc_5 (i := 277) (q := (2124, (.aload_n 1, 1))) rfl
theorem dL_law_2125 : decode cL_law 2125 = .ok (.aload_n 0, 1) := dLx dLc_5 (i := 278) (q := (2125, (.aload_n 0, 1))) rfl
theorem dL_law_2126 : decode cL_law 2126 = .ok (.iload 4, 2) := dLx dLc_5 (i := 279) (q := (2126, (.iload 4, 2))) rfl
theorem dL_law_2128 : decode cL_law 2128 = .ok (.iconst 1, 1) := dLx dLc_5 (i := 280) (q := (2128, (.iconst 1, 1))) rfl
theorem dL_law_2129 : decode cL_law 2129 = .ok (.iadd, 1) := dLx dLc_5 (i := 281) (q := (2129, (.iadd, 1))) rfl
theorem dL_law_2130 : decode cL_law 2130 = .ok (.iaload, 1) := dLx dLc_5 (i := 282) (q := (2130, (.iaload, 1))) rfl
theorem dL_law_2131 : decode cL_law 2131 = .ok (.aload_n 3, 1) := dLx dLc_5 (i := 283) (q := (2131, (.aload_n 3, 1))) rfl
theorem dL_law_2132 : decode cL_law 2132 = .ok (.invokestatic 285, 3) := dLx dLc_5 (i := 284) (q := (2132, (.invokestatic 285, 3))) rfl
theorem dL_law_2135 : decode cL_law 2135 = .ok (.istore 5, 2) := dLx dLc_5 (i := 285) (q := (2135, (.istore 5, 2))) rfl
theorem dL_law_2137 : decode cL_law 2137 = .ok (.aload_n 2, 1) := dLx dLc_5 (i := 286) (q := (2137, (.aload_n 2, 1))) rfl
theorem dL_law_2138 : decode cL_law 2138 = .ok (.aload_n 0, 1) := dLx dLc_5 (i := 287) (q := (2138, (.aload_n 0, 1))) rfl
theorem dL_law_2139 : decode cL_law 2139 = .ok (.iload 4, 2) := dLx dLc_5 (i := 288) (q := (2139, (.iload 4, 2))) rfl
theorem dL_law_2141 : decode cL_law 2141 = .ok (.iconst 1, 1) := dLx dLc_5 (i := 289) (q := (2141, (.iconst 1, 1))) rfl
theorem dL_law_2142 : decode cL_law 2142 = .ok (.iadd, 1) := dLx dLc_5 (i := 290) (q := (2142, (.iadd, 1))) rfl
theorem dL_law_2143 : decode cL_law 2143 = .ok (.iaload, 1) := dLx dLc_5 (i := 291) (q := (2143, (.iaload, 1))) rfl
theorem dL_law_2144 : decode cL_law 2144 = .ok (.invokevirtual 287, 3) := dLx dLc_5 (i := 292) (q := (2144, (.invokevirtual 287, 3))) rfl
theorem dL_law_2147 : decode cL_law 2147 = .ok (.istore 6, 2) := dLx dLc_5 (i := 293) (q := (2147, (.istore 6, 2))) rfl
theorem dL_law_2149 : decode cL_law 2149 = .ok (.aload_n 2, 1) := dLx dLc_5 (i := 294) (q := (2149, (.aload_n 2, 1))) rfl
theorem dL_law_2150 : decode cL_law 2150 = .ok (.invokevirtual 201, 3) := dLx dLc_5 (i := 295) (q := (2150, (.invokevirtual 201, 3))) rfl
theorem dL_law_2153 : decode cL_law 2153 = .ok (.iload 5, 2) := dLx dLc_5 (i := 296) (q := (2153, (.iload 5, 2))) rfl
theorem dL_law_2155 : decode cL_law 2155 = .ok (.if_icmp .eq 5, 3) := dLx dLc_5 (i := 297) (q := (2155, (.if_icmp .eq 5, 3))) rfl
theorem dL_law_2158 : decode cL_law 2158 = .ok (.iconst 0, 1) := dLx dLc_5 (i := 298) (q := (2158, (.iconst 0, 1))) rfl
theorem dL_law_2159 : decode cL_law 2159 = .ok (.ireturn, 1) := dLx dLc_5 (i := 299) (q := (2159, (.ireturn, 1))) rfl
def dLt_6 : List (Nat × (Instr × Nat)) := [(2160, (.iload 5, 2)), (2162, (.ifCond .ne 15, 3)), (2165, (.aload_n 3, 1)), (2166, (.iconst 0, 1)), (2167, (.laload, 1)), (2168, (.iload 6, 2)), (2170, (.i2l, 1)), (2171, (.lcmp, 1)), (2172, (.ifCond .eq 5, 3)), (2175, (.iconst 0, 1)), (2176, (.ireturn, 1)), (2177, (.goto 2250, 3)), (2180, (.aload_n 1, 1)), (2181, (.invokevirtual 288, 3)), (2184, (.aload_n 2, 1)), (2185, (.invokevirtual 291, 3)), (2188, (.if_icmp .eq 2239, 3)), (2191, (.iconst 0, 1)), (2192, (.ireturn, 1)), (2193, (.aload_n 1, 1)), (2194, (.invokevirtual 292, 3)), (2197, (.aload_n 2, 1)), (2198, (.invokevirtual 295, 3)), (2201, (.if_icmp .eq 2226, 3)), (2204, (.iconst 0, 1)), (2205, (.ireturn, 1)), (2206, (.aload_n 1, 1)), (2207, (.aload_n 0, 1)), (2208, (.iload 4, 2)), (2210, (.iconst 1, 1)), (2211, (.iadd, 1)), (2212, (.iaload, 1)), (2213, (.aload_n 0, 1)), (2214, (.iload 4, 2)), (2216, (.iconst 2, 1)), (2217, (.iadd, 1)), (2218, (.iaload, 1)), (2219, (.aload_n 3, 1)), (2220, (.invokestatic 296, 3)), (2223, (.istore 5, 2)), (2225, (.aload_n 2, 1)), (2226, (.aload_n 0, 1)), (2227, (.iload 4, 2)), (2229, (.iconst 1, 1)), (2230, (.iadd, 1)), (2231, (.iaload, 1)), (2232, (.aload_n 0, 1)), (2233, (.iload 4, 2)), (2235, (.iconst 2, 1)), (2236, (.iadd, 1)), (2237, (.iaload, 1)), (2238, (.invokevirtual 298, 3)), (2241, (.istore 6, 2)), (2243, (.aload_n 2, 1)), (2244, (.invokevirtual 201, 3)), (2247, (.iload 5, 2)), (2249, (.if_icmp .eq 5, 3)), (2252, (.iconst 0, 1)), (2253, (.ireturn, 1)), (2254, (.iload 5, 2)), (2256, (.ifCond .ne 22, 3)), (2259, (.aload_n 3, 1)), (2260, (.iconst 0, 1)), (2261, (.laload, 1)), (2262, (.iload 6, 2)), (2264, (.ifCond .eq 7, 3)), (2267, (.lconst 1, 1)), (2268, (.goto 4, 3)), (2271, (.lconst 0, 1)), (2272, (.lcmp, 1)), (2273, (.ifCond .eq 5, 3)), (2276, (.iconst 0, 1)), (2277, (.ireturn, 1)), (2278, (.goto 2149, 3)), (2281, (.aload_n 1, 1)), (2282, (.aload_n 0, 1)), (2283, (.iload 4, 2)), (2285, (.iconst 1, 1)), (2286, (.iadd, 1)), (2287, (.iaload, 1)), (2288, (.aload_n 0, 1)), (2289, (.iload 4, 2)), (2291, (.iconst 2, 1)), (2292, (.iadd, 1)), (2293, (.iaload, 1)), (2294, (.aload_n 3, 1)), (2295, (.invokestatic 299, 3)), (2298, (.istore 5, 2)), (2300, (.aload_n 2, 1)), (2301, (.aload_n 0, 1)), (2302, (.iload 4, 2)), (2304, (.iconst 1, 1)), (2305, (.iadd, 1)), (2306, (.iaload, 1)), (2307, (.aload_n 0, 1)), (2308, (.iload 4, 2)), (2310, (.iconst 2, 1)), (2311, (.iadd, 1)), (2312, (.iaload, 1)), (2313, (.invokevirtual 301, 3)), (2316, (.istore 6, 2)), (2318, (.aload_n 2, 1)), (2319, (.invokevirtual 201, 3)), (2322, (.iload 5, 2)), (2324, (.if_icmp .eq 5, 3)), (2327, (.iconst 0, 1)), (2328, (.ireturn, 1)), (2329, (.iload 5, 2)), (2331, (.ifCond .ne 22, 3)), (2334, (.aload_n 3, 1)), (2335, (.iconst 0, 1)), (2336, (.laload, 1)), (2337, (.iload 6, 2)), (2339, (.ifCond .eq 7, 3)), (2342, (.lconst 1, 1)), (2343, (.goto 4, 3)), (2346, (.lconst 0, 1)), (2347, (.lcmp, 1)), (2348, (.ifCond .eq 5, 3)), (2351, (.iconst 0, 1)), (2352, (.ireturn, 1)), (2353, (.goto 2074, 3)), (2356, (.aload_n 1, 1)), (2357, (.aload_n 0, 1)), (2358, (.iload 4, 2)), (2360, (.iconst 1, 1)), (2361, (.iadd, 1)), (2362, (.iaload, 1)), (2363, (.aload_n 0, 1)), (2364, (.iload 4, 2)), (2366, (.iconst 2, 1)), (2367, (.iadd, 1)), (2368, (.iaload, 1)), (2369, (.aload_n 3, 1)), (2370, (.invokestatic 302, 3)), (2373, (.istore 5, 2)), (2375, (.aload_n 2, 1)), (2376, (.aload_n 0, 1)), (2377, (.iload 4, 2)), (2379, (.iconst 1, 1)), (2380, (.iadd, 1)), (2381, (.iaload, 1)), (2382, (.aload_n 0, 1)), (2383, (.iload 4, 2)), (2385, (.iconst 2, 1)), (2386, (.iadd, 1)), (2387, (.iaload, 1)), (2388, (.invokevirtual 304, 3)), (2391, (.istore 6, 2)), (2393, (.aload_n 2, 1)), (2394, (.invokevirtual 201, 3)), (2397, (.iload 5, 2)), (2399, (.if_icmp .eq 5, 3)), (2402, (.iconst 0, 1)), (2403, (.ireturn, 1)), (2404, (.iload 5, 2)), (2406, (.ifCond .ne 22, 3)), (2409, (.aload_n 3, 1)), (2410, (.iconst 0, 1)), (2411, (.laload, 1)), (2412, (.iload 6, 2)), (2414, (.ifCond .eq 7, 3)), (2417, (.lconst 1, 1)), (2418, (.goto 4, 3)), (2421, (.lconst 0, 1)), (2422, (.lcmp, 1)), (2423, (.ifCond .eq 5, 3)), (2426, (.iconst 0, 1)), (2427, (.ireturn, 1)), (2428, (.goto 1999, 3)), (2431, (.aload_n 1, 1)), (2432, (.aload_n 0, 1)), (2433, (.iload 4, 2)), (2435, (.iconst 1, 1)), (2436, (.iadd, 1)), (2437, (.iaload, 1)), (2438, (.aload_n 0, 1)), (2439, (.iload 4, 2)), (2441, (.iconst 2, 1)), (2442, (.iadd, 1)), (2443, (.iaload, 1)), (2444, (.aload_n 3, 1)), (2445, (.invokestatic 305, 3)), (2448, (.istore 5, 2)), (2450, (.aload_n 2, 1)), (2451, (.aload_n 0, 1)), (2452, (.iload 4, 2)), (2454, (.iconst 1, 1)), (2455, (.iadd, 1)), (2456, (.iaload, 1)), (2457, (.aload_n 0, 1)), (2458, (.iload 4, 2)), (2460, (.iconst 2, 1)), (2461, (.iadd, 1)), (2462, (.iaload, 1)), (2463, (.invokevirtual 307, 3)), (2466, (.istore 6, 2)), (2468, (.aload_n 2, 1)), (2469, (.invokevirtual 201, 3)), (2472, (.iload 5, 2)), (2474, (.if_icmp .eq 5, 3)), (2477, (.iconst 0, 1)), (2478, (.ireturn, 1)), (2479, (.iload 5, 2)), (2481, (.ifCond .ne 22, 3)), (2484, (.aload_n 3, 1)), (2485, (.iconst 0, 1)), (2486, (.laload, 1)), (2487, (.iload 6, 2)), (2489, (.ifCond .eq 7, 3)), (2492, (.lconst 1, 1)), (2493, (.goto 4, 3)), (2496, (.lconst 0, 1)), (2497, (.lcmp, 1)), (2498, (.ifCond .eq 5, 3)), (2501, (.iconst 0, 1)), (2502, (.ireturn, 1)), (2503, (.goto 1924, 3)), (2506, (.aload_n 1, 1)), (2507, (.invokevirtual 308, 3)), (2510, (.aload_n 2, 1)), (2511, (.invokevirtual 311, 3)), (2514, (.if_icmp .eq 1913, 3)), (2517, (.iconst 0, 1)), (2518, (.ireturn, 1)), (2519, (.aload_n 1, 1)), (2520, (.aload_n 0, 1)), (2521, (.iload 4, 2)), (2523, (.iconst 1, 1)), (2524, (.iadd, 1)), (2525, (.iaload, 1)), (2526, (.invokevirtual 312, 3)), (2529, (.aload_n 2, 1)), (2530, (.aload_n 0, 1)), (2531, (.iload 4, 2)), (2533, (.iconst 1, 1)), (2534, (.iadd, 1)), (2535, (.iaload, 1)), (2536, (.invokevirtual 315, 3)), (2539, (.if_icmp .eq 1888, 3)), (2542, (.iconst 0, 1)), (2543, (.ireturn, 1)), (2544, (.aload_n 1, 1)), (2545, (.aload_n 0, 1)), (2546, (.iload 4, 2)), (2548, (.iconst 1, 1)), (2549, (.iadd, 1)), (2550, (.iaload, 1)), (2551, (.aload_n 3, 1)), (2552, (.invokestatic 316, 3)), (2555, (.istore 5, 2)), (2557, (.aload_n 2, 1)), (2558, (.aload_n 0, 1)), (2559, (.iload 4, 2)), (2561, (.iconst 1, 1)), (2562, (.iadd, 1)), (2563, (.iaload, 1)), (2564, (.invokevirtual 318, 3)), (2567, (.istore 6, 2)), (2569, (.aload_n 2, 1)), (2570, (.invokevirtual 201, 3)), (2573, (.iload 5, 2)), (2575, (.if_icmp .eq 5, 3)), (2578, (.iconst 0, 1)), (2579, (.ireturn, 1)), (2580, (.iload 5, 2)), (2582, (.ifCond .ne 15, 3)), (2585, (.aload_n 3, 1)), (2586, (.iconst 0, 1)), (2587, (.laload, 1)), (2588, (.iload 6, 2)), (2590, (.i2l, 1)), (2591, (.lcmp, 1)), (2592, (.ifCond .eq 5, 3)), (2595, (.iconst 0, 1)), (2596, (.ireturn, 1)), (2597, (.goto 1830, 3)), (2600, (.aload_n 1, 1)), (2601, (.aload_n 0, 1)), (2602, (.iload 4, 2)), (2604, (.iconst 1, 1)), (2605, (.iadd, 1)), (2606, (.iaload, 1)), (2607, (.aload_n 3, 1)), (2608, (.invokestatic 319, 3)), (2611, (.istore 5, 2)), (2613, (.aload_n 2, 1)), (2614, (.aload_n 0, 1)), (2615, (.iload 4, 2)), (2617, (.iconst 1, 1)), (2618, (.iadd, 1)), (2619, (.iaload, 1)), (2620, (.invokevirtual 321, 3)), (2623, (.istore 6, 2)), (2625, (.aload_n 2, 1)), (2626, (.invokevirtual 201, 3)), (2629, (.iload 5, 2)), (2631, (.if_icmp .eq 5, 3)), (2634, (.iconst 0, 1)), (2635, (.ireturn, 1))]
set_option maxRecDepth 100000 in
theorem dLc_6 : ldg (cL_law.data.toList.drop 2160) 0 2160 dLt_6 = true := by decide +kernel
theorem dL_law_2160 : decode cL_law 2160 = .ok (.iload 5, 2) := dLx dLc_6 (i := 0) (q := (2160, (.iload 5, 2))) rfl
theorem dL_law_2162 : decode cL_law 2162 = .ok (.ifCond .ne 15, 3) := dLx dLc_6 (i := 1) (q := (2162, (.ifCond .ne 15, 3))) rfl
theorem dL_law_2165 : decode cL_law 2165 = .ok (.aload_n 3, 1) := dLx dLc_6 (i := 2) (q := (2165, (.aload_n 3, 1))) rfl
theorem dL_law_2166 : decode cL_law 2166 = .ok (.iconst 0, 1) := dLx dLc_6 (i := 3) (q := (2166, (.iconst 0, 1))) rfl
theorem dL_law_2167 : decode cL_law 2167 = .ok (.laload, 1) := dLx dLc_6 (i := 4) (q := (2167, (.laload, 1))) rfl
theorem dL_law_2168 : decode cL_law 2168 = .ok (.iload 6, 2) := dLx dLc_6 (i := 5) (q := (2168, (.iload 6, 2))) rfl
theorem dL_law_2170 : decode cL_law 2170 = .ok (.i2l, 1) := dLx dLc_6 (i := 6) (q := (2170, (.i2l, 1))) rfl
theorem dL_law_2171 : decode cL_law 2171 = .ok (.lcmp, 1) := dLx dLc_6 (i := 7) (q := (2171, (.lcmp, 1))) rfl
theorem dL_law_2172 : decode cL_law 2172 = .ok (.ifCond .eq 5, 3) := dLx dLc_6 (i := 8) (q := (2172, (.ifCond .eq 5, 3))) rfl
theorem dL_law_2175 : decode cL_law 2175 = .ok (.iconst 0, 1) := dLx dLc_6 (i := 9) (q := (2175, (.iconst 0, 1))) rfl
theorem dL_law_2176 : decode cL_law 2176 = .ok (.ireturn, 1) := dLx dLc_6 (i := 10) (q := (2176, (.ireturn, 1))) rfl
theorem dL_law_2177 : decode cL_law 2177 = .ok (.goto 2250, 3) := dLx dLc_6 (i := 11) (q := (2177, (.goto 2250, 3))) rfl
theorem dL_law_2180 : decode cL_law 2180 = .ok (.aload_n 1, 1) := dLx dLc_6 (i := 12) (q := (2180, (.aload_n 1, 1))) rfl
theorem dL_law_2181 : decode cL_law 2181 = .ok (.invokevirtual 288, 3) := dLx dLc_6 (i := 13) (q := (2181, (.invokevirtual 288, 3))) rfl
theorem dL_law_2184 : decode cL_law 2184 = .ok (.aload_n 2, 1) := dLx dLc_6 (i := 14) (q := (2184, (.aload_n 2, 1))) rfl
theorem dL_law_2185 : decode cL_law 2185 = .ok (.invokevirtual 291, 3) := dLx dLc_6 (i := 15) (q := (2185, (.invokevirtual 291, 3))) rfl
theorem dL_law_2188 : decode cL_law 2188 = .ok (.if_icmp .eq 2239, 3) := dLx dLc_6 (i := 16) (q := (2188, (.if_icmp .eq 2239, 3))) rfl
theorem dL_law_2191 : decode cL_law 2191 = .ok (.iconst 0, 1) := dLx dLc_6 (i := 17) (q := (2191, (.iconst 0, 1))) rfl
theorem dL_law_2192 : decode cL_law 2192 = .ok (.ireturn, 1) := dLx dLc_6 (i := 18) (q := (2192, (.ireturn, 1))) rfl
theorem dL_law_2193 : decode cL_law 2193 = .ok (.aload_n 1, 1) := dLx dLc_6 (i := 19) (q := (2193, (.aload_n 1, 1))) rfl
theorem dL_law_2194 : decode cL_law 2194 = .ok (.invokevirtual 292, 3) := dLx dLc_6 (i := 20) (q := (2194, (.invokevirtual 292, 3))) rfl
theorem dL_law_2197 : decode cL_law 2197 = .ok (.aload_n 2, 1) := dLx dLc_6 (i := 21) (q := (2197, (.aload_n 2, 1))) rfl
theorem dL_law_2198 : decode cL_law 2198 = .ok (.invokevirtual 295, 3) := dLx dLc_6 (i := 22) (q := (2198, (.invokevirtual 295, 3))) rfl
theorem dL_law_2201 : decode cL_law 2201 = .ok (.if_icmp .eq 2226, 3) := dLx dLc_6 (i := 23) (q := (2201, (.if_icmp .eq 2226, 3))) rfl
theorem dL_law_2204 : decode cL_law 2204 = .ok (.iconst 0, 1) := dLx dLc_6 (i := 24) (q := (2204, (.iconst 0, 1))) rfl
theorem dL_law_2205 : decode cL_law 2205 = .ok (.ireturn, 1) := dLx dLc_6 (i := 25) (q := (2205, (.ireturn, 1))) rfl
theorem dL_law_2206 : decode cL_law 2206 = .ok (.aload_n 1, 1) := dLx dLc_6 (i := 26) (q := (2206, (.aload_n 1, 1))) rfl
theorem dL_law_2207 : decode cL_law 2207 = .ok (.aload_n 0, 1) := dLx dLc_6 (i := 27) (q := (2207, (.aload_n 0, 1))) rfl
theorem dL_law_2208 : decode cL_law 2208 = .ok (.iload 4, 2) := dLx dLc_6 (i := 28) (q := (2208, (.iload 4, 2))) rfl
theorem dL_law_2210 : decode cL_law 2210 = .ok (.iconst 1, 1) := dLx dLc_6 (i := 29) (q := (2210, (.iconst 1, 1))) rfl
theorem dL_law_2211 : decode cL_law 2211 = .ok (.iadd, 1) := dLx dLc_6 (i := 30) (q := (2211, (.iadd, 1))) rfl
theorem dL_law_2212 : decode cL_law 2212 = .ok (.iaload, 1) := dLx dLc_6 (i := 31) (q := (2212, (.iaload, 1))) rfl
theorem dL_law_2213 : decode cL_law 2213 = .ok (.aload_n 0, 1) := dLx dLc_6 (i := 32) (q := (2213, (.aload_n 0, 1))) rfl
theorem dL_law_2214 : decode cL_law 2214 = .ok (.iload 4, 2) := dLx dLc_6 (i := 33) (q := (2214, (.iload 4, 2))) rfl
theorem dL_law_2216 : decode cL_law 2216 = .ok (.iconst 2, 1) := dLx dLc_6 (i := 34) (q := (2216, (.iconst 2, 1))) rfl
theorem dL_law_2217 : decode cL_law 2217 = .ok (.iadd, 1) := dLx dLc_6 (i := 35) (q := (2217, (.iadd, 1))) rfl
theorem dL_law_2218 : decode cL_law 2218 = .ok (.iaload, 1) := dLx dLc_6 (i := 36) (q := (2218, (.iaload, 1))) rfl
theorem dL_law_2219 : decode cL_law 2219 = .ok (.aload_n 3, 1) := dLx dLc_6 (i := 37) (q := (2219, (.aload_n 3, 1))) rfl
theorem dL_law_2220 : decode cL_law 2220 = .ok (.invokestatic 296, 3) := dLx dLc_6 (i := 38) (q := (2220, (.invokestatic 296, 3))) rfl
theorem dL_law_2223 : decode cL_law 2223 = .ok (.istore 5, 2) := dLx dLc_6 (i := 39) (q := (2223, (.istore 5, 2))) rfl
theorem dL_law_2225 : decode cL_law 2225 = .ok (.aload_n 2, 1) := dLx dLc_6 (i := 40) (q := (2225, (.aload_n 2, 1))) rfl
theorem dL_law_2226 : decode cL_law 2226 = .ok (.aload_n 0, 1) := dLx dLc_6 (i := 41) (q := (2226, (.aload_n 0, 1))) rfl
theorem dL_law_2227 : decode cL_law 2227 = .ok (.iload 4, 2) := dLx dLc_6 (i := 42) (q := (2227, (.iload 4, 2))) rfl
theorem dL_law_2229 : decode cL_law 2229 = .ok (.iconst 1, 1) := dLx dLc_6 (i := 43) (q := (2229, (.iconst 1, 1))) rfl
theorem dL_law_2230 : decode cL_law 2230 = .ok (.iadd, 1) := dLx dLc_6 (i := 44) (q := (2230, (.iadd, 1))) rfl
theorem dL_law_2231 : decode cL_law 2231 = .ok (.iaload, 1) := dLx dLc_6 (i := 45) (q := (2231, (.iaload, 1))) rfl
theorem dL_law_2232 : decode cL_law 2232 = .ok (.aload_n 0, 1) := dLx dLc_6 (i := 46) (q := (2232, (.aload_n 0, 1))) rfl
theorem dL_law_2233 : decode cL_law 2233 = .ok (.iload 4, 2) := dLx dLc_6 (i := 47) (q := (2233, (.iload 4, 2))) rfl
theorem dL_law_2235 : decode cL_law 2235 = .ok (.iconst 2, 1) := dLx dLc_6 (i := 48) (q := (2235, (.iconst 2, 1))) rfl
theorem dL_law_2236 : decode cL_law 2236 = .ok (.iadd, 1) := dLx dLc_6 (i := 49) (q := (2236, (.iadd, 1))) rfl
theorem dL_law_2237 : decode cL_law 2237 = .ok (.iaload, 1) := dLx dLc_6 (i := 50) (q := (2237, (.iaload, 1))) rfl
theorem dL_law_2238 : decode cL_law 2238 = .ok (.invokevirtual 298, 3) := dLx dLc_6 (i := 51) (q := (2238, (.invokevirtual 298, 3))) rfl
theorem dL_law_2241 : decode cL_law 2241 = .ok (.istore 6, 2) := dLx dLc_6 (i := 52) (q := (2241, (.istore 6, 2))) rfl
theorem dL_law_2243 : decode cL_law 2243 = .ok (.aload_n 2, 1) := dLx dLc_6 (i := 53) (q := (2243, (.aload_n 2, 1))) rfl
theorem dL_law_2244 : decode cL_law 2244 = .ok (.invokevirtual 201, 3) := dLx dLc_6 (i := 54) (q := (2244, (.invokevirtual 201, 3))) rfl
theorem dL_law_2247 : decode cL_law 2247 = .ok (.iload 5, 2) := dLx dLc_6 (i := 55) (q := (2247, (.iload 5, 2))) rfl
theorem dL_law_2249 : decode cL_law 2249 = .ok (.if_icmp .eq 5, 3) := dLx dLc_6 (i := 56) (q := (2249, (.if_icmp .eq 5, 3))) rfl
theorem dL_law_2252 : decode cL_law 2252 = .ok (.iconst 0, 1) := dLx dLc_6 (i := 57) (q := (2252, (.iconst 0, 1))) rfl
theorem dL_law_2253 : decode cL_law 2253 = .ok (.ireturn, 1) := dLx dLc_6 (i := 58) (q := (2253, (.ireturn, 1))) rfl
theorem dL_law_2254 : decode cL_law 2254 = .ok (.iload 5, 2) := dLx dLc_6 (i := 59) (q := (2254, (.iload 5, 2))) rfl
theorem dL_law_2256 : decode cL_law 2256 = .ok (.ifCond .ne 22, 3) := dLx dLc_6 (i := 60) (q := (2256, (.ifCond .ne 22, 3))) rfl
theorem dL_law_2259 : decode cL_law 2259 = .ok (.aload_n 3, 1) := dLx dLc_6 (i := 61) (q := (2259, (.aload_n 3, 1))) rfl
theorem dL_law_2260 : decode cL_law 2260 = .ok (.iconst 0, 1) := dLx dLc_6 (i := 62) (q := (2260, (.iconst 0, 1))) rfl
theorem dL_law_2261 : decode cL_law 2261 = .ok (.laload, 1) := dLx dLc_6 (i := 63) (q := (2261, (.laload, 1))) rfl
theorem dL_law_2262 : decode cL_law 2262 = .ok (.iload 6, 2) := dLx dLc_6 (i := 64) (q := (2262, (.iload 6, 2))) rfl
theorem dL_law_2264 : decode cL_law 2264 = .ok (.ifCond .eq 7, 3) := dLx dLc_6 (i := 65) (q := (2264, (.ifCond .eq 7, 3))) rfl
theorem dL_law_2267 : decode cL_law 2267 = .ok (.lconst 1, 1) := dLx dLc_6 (i := 66) (q := (2267, (.lconst 1, 1))) rfl
theorem dL_law_2268 : decode cL_law 2268 = .ok (.goto 4, 3) := dLx dLc_6 (i := 67) (q := (2268, (.goto 4, 3))) rfl
theorem dL_law_2271 : decode cL_law 2271 = .ok (.lconst 0, 1) := dLx dLc_6 (i := 68) (q := (2271, (.lconst 0, 1))) rfl
theorem dL_law_2272 : decode cL_law 2272 = .ok (.lcmp, 1) := dLx dLc_6 (i := 69) (q := (2272, (.lcmp, 1))) rfl
theorem dL_law_2273 : decode cL_law 2273 = .ok (.ifCond .eq 5, 3) := dLx dLc_6 (i := 70) (q := (2273, (.ifCond .eq 5, 3))) rfl
theorem dL_law_2276 : decode cL_law 2276 = .ok (.iconst 0, 1) := dLx dLc_6 (i := 71) (q := (2276, (.iconst 0, 1))) rfl
theorem dL_law_2277 : decode cL_law 2277 = .ok (.ireturn, 1) := dLx dLc_6 (i := 72) (q := (2277, (.ireturn, 1))) rfl
theorem dL_law_2278 : decode cL_law 2278 = .ok (.goto 2149, 3) := dLx dLc_6 (i := 73) (q := (2278, (.goto 2149, 3))) rfl
theorem dL_law_2281 : decode cL_law 2281 = .ok (.aload_n 1, 1) := dLx dLc_6 (i := 74) (q := (2281, (.aload_n 1, 1))) rfl
theorem dL_law_2282 : decode cL_law 2282 = .ok (.aload_n 0, 1) := dLx dLc_6 (i := 75) (q := (2282, (.aload_n 0, 1))) rfl
theorem dL_law_2283 : decode cL_law 2283 = .ok (.iload 4, 2) := dLx dLc_6 (i := 76) (q := (2283, (.iload 4, 2))) rfl
theorem dL_law_2285 : decode cL_law 2285 = .ok (.iconst 1, 1) := dLx dLc_6 (i := 77) (q := (2285, (.iconst 1, 1))) rfl
theorem dL_law_2286 : decode cL_law 2286 = .ok (.iadd, 1) := dLx dLc_6 (i := 78) (q := (2286, (.iadd, 1))) rfl
theorem dL_law_2287 : decode cL_law 2287 = .ok (.iaload, 1) := dLx dLc_6 (i := 79) (q := (2287, (.iaload, 1))) rfl
theorem dL_law_2288 : decode cL_law 2288 = .ok (.aload_n 0, 1) := dLx dLc_6 (i := 80) (q := (2288, (.aload_n 0, 1))) rfl
theorem dL_law_2289 : decode cL_law 2289 = .ok (.iload 4, 2) := dLx dLc_6 (i := 81) (q := (2289, (.iload 4, 2))) rfl
theorem dL_law_2291 : decode cL_law 2291 = .ok (.iconst 2, 1) := dLx dLc_6 (i := 82) (q := (2291, (.iconst 2, 1))) rfl
theorem dL_law_2292 : decode cL_law 2292 = .ok (.iadd, 1) := dLx dLc_6 (i := 83) (q := (2292, (.iadd, 1))) rfl
theorem dL_law_2293 : decode cL_law 2293 = .ok (.iaload, 1) := dLx dLc_6 (i := 84) (q := (2293, (.iaload, 1))) rfl
theorem dL_law_2294 : decode cL_law 2294 = .ok (.aload_n 3, 1) := dLx dLc_6 (i := 85) (q := (2294, (.aload_n 3, 1))) rfl
theorem dL_law_2295 : decode cL_law 2295 = .ok (.invokestatic 299, 3) := dLx dLc_6 (i := 86) (q := (2295, (.invokestatic 299, 3))) rfl
theorem dL_law_2298 : decode cL_law 2298 = .ok (.istore 5, 2) := dLx dLc_6 (i := 87) (q := (2298, (.istore 5, 2))) rfl
theorem dL_law_2300 : decode cL_law 2300 = .ok (.aload_n 2, 1) := dLx dLc_6 (i := 88) (q := (2300, (.aload_n 2, 1))) rfl
theorem dL_law_2301 : decode cL_law 2301 = .ok (.aload_n 0, 1) := dLx dLc_6 (i := 89) (q := (2301, (.aload_n 0, 1))) rfl
theorem dL_law_2302 : decode cL_law 2302 = .ok (.iload 4, 2) := dLx dLc_6 (i := 90) (q := (2302, (.iload 4, 2))) rfl
theorem dL_law_2304 : decode cL_law 2304 = .ok (.iconst 1, 1) := dLx dLc_6 (i := 91) (q := (2304, (.iconst 1, 1))) rfl
theorem dL_law_2305 : decode cL_law 2305 = .ok (.iadd, 1) := dLx dLc_6 (i := 92) (q := (2305, (.iadd, 1))) rfl
theorem dL_law_2306 : decode cL_law 2306 = .ok (.iaload, 1) := dLx dLc_6 (i := 93) (q := (2306, (.iaload, 1))) rfl
theorem dL_law_2307 : decode cL_law 2307 = .ok (.aload_n 0, 1) := dLx dLc_6 (i := 94) (q := (2307, (.aload_n 0, 1))) rfl
theorem dL_law_2308 : decode cL_law 2308 = .ok (.iload 4, 2) := dLx dLc_6 (i := 95) (q := (2308, (.iload 4, 2))) rfl
theorem dL_law_2310 : decode cL_law 2310 = .ok (.iconst 2, 1) := dLx dLc_6 (i := 96) (q := (2310, (.iconst 2, 1))) rfl
theorem dL_law_2311 : decode cL_law 2311 = .ok (.iadd, 1) := dLx dLc_6 (i := 97) (q := (2311, (.iadd, 1))) rfl
theorem dL_law_2312 : decode cL_law 2312 = .ok (.iaload, 1) := dLx dLc_6 (i := 98) (q := (2312, (.iaload, 1))) rfl
theorem dL_law_2313 : decode cL_law 2313 = .ok (.invokevirtual 301, 3) := dLx dLc_6 (i := 99) (q := (2313, (.invokevirtual 301, 3))) rfl
theorem dL_law_2316 : decode cL_law 2316 = .ok (.istore 6, 2) := dLx dLc_6 (i := 100) (q := (2316, (.istore 6, 2))) rfl
theorem dL_law_2318 : decode cL_law 2318 = .ok (.aload_n 2, 1) := dLx dLc_6 (i := 101) (q := (2318, (.aload_n 2, 1))) rfl
theorem dL_law_2319 : decode cL_law 2319 = .ok (.invokevirtual 201, 3) := dLx dLc_6 (i := 102) (q := (2319, (.invokevirtual 201, 3))) rfl
theorem dL_law_2322 : decode cL_law 2322 = .ok (.iload 5, 2) := dLx dLc_6 (i := 103) (q := (2322, (.iload 5, 2))) rfl
theorem dL_law_2324 : decode cL_law 2324 = .ok (.if_icmp .eq 5, 3) := dLx dLc_6 (i := 104) (q := (2324, (.if_icmp .eq 5, 3))) rfl
theorem dL_law_2327 : decode cL_law 2327 = .ok (.iconst 0, 1) := dLx dLc_6 (i := 105) (q := (2327, (.iconst 0, 1))) rfl
theorem dL_law_2328 : decode cL_law 2328 = .ok (.ireturn, 1) := dLx dLc_6 (i := 106) (q := (2328, (.ireturn, 1))) rfl
theorem dL_law_2329 : decode cL_law 2329 = .ok (.iload 5, 2) := dLx dLc_6 (i := 107) (q := (2329, (.iload 5, 2))) rfl
theorem dL_law_2331 : decode cL_law 2331 = .ok (.ifCond .ne 22, 3) := dLx dLc_6 (i := 108) (q := (2331, (.ifCond .ne 22, 3))) rfl
theorem dL_law_2334 : decode cL_law 2334 = .ok (.aload_n 3, 1) := dLx dLc_6 (i := 109) (q := (2334, (.aload_n 3, 1))) rfl
theorem dL_law_2335 : decode cL_law 2335 = .ok (.iconst 0, 1) := dLx dLc_6 (i := 110) (q := (2335, (.iconst 0, 1))) rfl
theorem dL_law_2336 : decode cL_law 2336 = .ok (.laload, 1) := dLx dLc_6 (i := 111) (q := (2336, (.laload, 1))) rfl
theorem dL_law_2337 : decode cL_law 2337 = .ok (.iload 6, 2) := dLx dLc_6 (i := 112) (q := (2337, (.iload 6, 2))) rfl
theorem dL_law_2339 : decode cL_law 2339 = .ok (.ifCond .eq 7, 3) := dLx dLc_6 (i := 113) (q := (2339, (.ifCond .eq 7, 3))) rfl
theorem dL_law_2342 : decode cL_law 2342 = .ok (.lconst 1, 1) := dLx dLc_6 (i := 114) (q := (2342, (.lconst 1, 1))) rfl
theorem dL_law_2343 : decode cL_law 2343 = .ok (.goto 4, 3) := dLx dLc_6 (i := 115) (q := (2343, (.goto 4, 3))) rfl
theorem dL_law_2346 : decode cL_law 2346 = .ok (.lconst 0, 1) := dLx dLc_6 (i := 116) (q := (2346, (.lconst 0, 1))) rfl
theorem dL_law_2347 : decode cL_law 2347 = .ok (.lcmp, 1) := dLx dLc_6 (i := 117) (q := (2347, (.lcmp, 1))) rfl
theorem dL_law_2348 : decode cL_law 2348 = .ok (.ifCond .eq 5, 3) := dLx dLc_6 (i := 118) (q := (2348, (.ifCond .eq 5, 3))) rfl
theorem dL_law_2351 : decode cL_law 2351 = .ok (.iconst 0, 1) := dLx dLc_6 (i := 119) (q := (2351, (.iconst 0, 1))) rfl
theorem dL_law_2352 : decode cL_law 2352 = .ok (.ireturn, 1) := dLx dLc_6 (i := 120) (q := (2352, (.ireturn, 1))) rfl
theorem dL_law_2353 : decode cL_law 2353 = .ok (.goto 2074, 3) := dLx dLc_6 (i := 121) (q := (2353, (.goto 2074, 3))) rfl
theorem dL_law_2356 : decode cL_law 2356 = .ok (.aload_n 1, 1) := dLx dLc_6 (i := 122) (q := (2356, (.aload_n 1, 1))) rfl
theorem dL_law_2357 : decode cL_law 2357 = .ok (.aload_n 0, 1) := dLx dLc_6 (i := 123) (q := (2357, (.aload_n 0, 1))) rfl
theorem dL_law_2358 : decode cL_law 2358 = .ok (.iload 4, 2) := dLx dLc_6 (i := 124) (q := (2358, (.iload 4, 2))) rfl
theorem dL_law_2360 : decode cL_law 2360 = .ok (.iconst 1, 1) := dLx dLc_6 (i := 125) (q := (2360, (.iconst 1, 1))) rfl
theorem dL_law_2361 : decode cL_law 2361 = .ok (.iadd, 1) := dLx dLc_6 (i := 126) (q := (2361, (.iadd, 1))) rfl
theorem dL_law_2362 : decode cL_law 2362 = .ok (.iaload, 1) := dLx dLc_6 (i := 127) (q := (2362, (.iaload, 1))) rfl
theorem dL_law_2363 : decode cL_law 2363 = .ok (.aload_n 0, 1) := dLx dLc_6 (i := 128) (q := (2363, (.aload_n 0, 1))) rfl
theorem dL_law_2364 : decode cL_law 2364 = .ok (.iload 4, 2) := dLx dLc_6 (i := 129) (q := (2364, (.iload 4, 2))) rfl
theorem dL_law_2366 : decode cL_law 2366 = .ok (.iconst 2, 1) := dLx dLc_6 (i := 130) (q := (2366, (.iconst 2, 1))) rfl
theorem dL_law_2367 : decode cL_law 2367 = .ok (.iadd, 1) := dLx dLc_6 (i := 131) (q := (2367, (.iadd, 1))) rfl
theorem dL_law_2368 : decode cL_law 2368 = .ok (.iaload, 1) := dLx dLc_6 (i := 132) (q := (2368, (.iaload, 1))) rfl
theorem dL_law_2369 : decode cL_law 2369 = .ok (.aload_n 3, 1) := dLx dLc_6 (i := 133) (q := (2369, (.aload_n 3, 1))) rfl
theorem dL_law_2370 : decode cL_law 2370 = .ok (.invokestatic 302, 3) := dLx dLc_6 (i := 134) (q := (2370, (.invokestatic 302, 3))) rfl
theorem dL_law_2373 : decode cL_law 2373 = .ok (.istore 5, 2) := dLx dLc_6 (i := 135) (q := (2373, (.istore 5, 2))) rfl
theorem dL_law_2375 : decode cL_law 2375 = .ok (.aload_n 2, 1) := dLx dLc_6 (i := 136) (q := (2375, (.aload_n 2, 1))) rfl
theorem dL_law_2376 : decode cL_law 2376 = .ok (.aload_n 0, 1) := dLx dLc_6 (i := 137) (q := (2376, (.aload_n 0, 1))) rfl
theorem dL_law_2377 : decode cL_law 2377 = .ok (.iload 4, 2) := dLx dLc_6 (i := 138) (q := (2377, (.iload 4, 2))) rfl
theorem dL_law_2379 : decode cL_law 2379 = .ok (.iconst 1, 1) := dLx dLc_6 (i := 139) (q := (2379, (.iconst 1, 1))) rfl
theorem dL_law_2380 : decode cL_law 2380 = .ok (.iadd, 1) := dLx dLc_6 (i := 140) (q := (2380, (.iadd, 1))) rfl
theorem dL_law_2381 : decode cL_law 2381 = .ok (.iaload, 1) := dLx dLc_6 (i := 141) (q := (2381, (.iaload, 1))) rfl
theorem dL_law_2382 : decode cL_law 2382 = .ok (.aload_n 0, 1) := dLx dLc_6 (i := 142) (q := (2382, (.aload_n 0, 1))) rfl
theorem dL_law_2383 : decode cL_law 2383 = .ok (.iload 4, 2) := dLx dLc_6 (i := 143) (q := (2383, (.iload 4, 2))) rfl
theorem dL_law_2385 : decode cL_law 2385 = .ok (.iconst 2, 1) := dLx dLc_6 (i := 144) (q := (2385, (.iconst 2, 1))) rfl
theorem dL_law_2386 : decode cL_law 2386 = .ok (.iadd, 1) := dLx dLc_6 (i := 145) (q := (2386, (.iadd, 1))) rfl
theorem dL_law_2387 : decode cL_law 2387 = .ok (.iaload, 1) := dLx dLc_6 (i := 146) (q := (2387, (.iaload, 1))) rfl
theorem dL_law_2388 : decode cL_law 2388 = .ok (.invokevirtual 304, 3) := dLx dLc_6 (i := 147) (q := (2388, (.invokevirtual 304, 3))) rfl
theorem dL_law_2391 : decode cL_law 2391 = .ok (.istore 6, 2) := dLx dLc_6 (i := 148) (q := (2391, (.istore 6, 2))) rfl
theorem dL_law_2393 : decode cL_law 2393 = .ok (.aload_n 2, 1) := dLx dLc_6 (i := 149) (q := (2393, (.aload_n 2, 1))) rfl
theorem dL_law_2394 : decode cL_law 2394 = .ok (.invokevirtual 201, 3) := dLx dLc_6 (i := 150) (q := (2394, (.invokevirtual 201, 3))) rfl
theorem dL_law_2397 : decode cL_law 2397 = .ok (.iload 5, 2) := dLx dLc_6 (i := 151) (q := (2397, (.iload 5, 2))) rfl
theorem dL_law_2399 : decode cL_law 2399 = .ok (.if_icmp .eq 5, 3) := dLx dLc_6 (i := 152) (q := (2399, (.if_icmp .eq 5, 3))) rfl
theorem dL_law_2402 : decode cL_law 2402 = .ok (.iconst 0, 1) := dLx dLc_6 (i := 153) (q := (2402, (.iconst 0, 1))) rfl
theorem dL_law_2403 : decode cL_law 2403 = .ok (.ireturn, 1) := dLx dLc_6 (i := 154) (q := (2403, (.ireturn, 1))) rfl
theorem dL_law_2404 : decode cL_law 2404 = .ok (.iload 5, 2) := dLx dLc_6 (i := 155) (q := (2404, (.iload 5, 2))) rfl
theorem dL_law_2406 : decode cL_law 2406 = .ok (.ifCond .ne 22, 3) := dLx dLc_6 (i := 156) (q := (2406, (.ifCond .ne 22, 3))) rfl
theorem dL_law_2409 : decode cL_law 2409 = .ok (.aload_n 3, 1) := dLx dLc_6 (i := 157) (q := (2409, (.aload_n 3, 1))) rfl
theorem dL_law_2410 : decode cL_law 2410 = .ok (.iconst 0, 1) := dLx dLc_6 (i := 158) (q := (2410, (.iconst 0, 1))) rfl
theorem dL_law_2411 : decode cL_law 2411 = .ok (.laload, 1) := dLx dLc_6 (i := 159) (q := (2411, (.laload, 1))) rfl
theorem dL_law_2412 : decode cL_law 2412 = .ok (.iload 6, 2) := dLx dLc_6 (i := 160) (q := (2412, (.iload 6, 2))) rfl
theorem dL_law_2414 : decode cL_law 2414 = .ok (.ifCond .eq 7, 3) := dLx dLc_6 (i := 161) (q := (2414, (.ifCond .eq 7, 3))) rfl
theorem dL_law_2417 : decode cL_law 2417 = .ok (.lconst 1, 1) := dLx dLc_6 (i := 162) (q := (2417, (.lconst 1, 1))) rfl
theorem dL_law_2418 : decode cL_law 2418 = .ok (.goto 4, 3) := dLx dLc_6 (i := 163) (q := (2418, (.goto 4, 3))) rfl
theorem dL_law_2421 : decode cL_law 2421 = .ok (.lconst 0, 1) := dLx dLc_6 (i := 164) (q := (2421, (.lconst 0, 1))) rfl
theorem dL_law_2422 : decode cL_law 2422 = .ok (.lcmp, 1) := dLx dLc_6 (i := 165) (q := (2422, (.lcmp, 1))) rfl
theorem dL_law_2423 : decode cL_law 2423 = .ok (.ifCond .eq 5, 3) := dLx dLc_6 (i := 166) (q := (2423, (.ifCond .eq 5, 3))) rfl
theorem dL_law_2426 : decode cL_law 2426 = .ok (.iconst 0, 1) := dLx dLc_6 (i := 167) (q := (2426, (.iconst 0, 1))) rfl
theorem dL_law_2427 : decode cL_law 2427 = .ok (.ireturn, 1) := dLx dLc_6 (i := 168) (q := (2427, (.ireturn, 1))) rfl
theorem dL_law_2428 : decode cL_law 2428 = .ok (.goto 1999, 3) := dLx dLc_6 (i := 169) (q := (2428, (.goto 1999, 3))) rfl
theorem dL_law_2431 : decode cL_law 2431 = .ok (.aload_n 1, 1) := dLx dLc_6 (i := 170) (q := (2431, (.aload_n 1, 1))) rfl
theorem dL_law_2432 : decode cL_law 2432 = .ok (.aload_n 0, 1) := dLx dLc_6 (i := 171) (q := (2432, (.aload_n 0, 1))) rfl
theorem dL_law_2433 : decode cL_law 2433 = .ok (.iload 4, 2) := dLx dLc_6 (i := 172) (q := (2433, (.iload 4, 2))) rfl
theorem dL_law_2435 : decode cL_law 2435 = .ok (.iconst 1, 1) := dLx dLc_6 (i := 173) (q := (2435, (.iconst 1, 1))) rfl
theorem dL_law_2436 : decode cL_law 2436 = .ok (.iadd, 1) := dLx dLc_6 (i := 174) (q := (2436, (.iadd, 1))) rfl
theorem dL_law_2437 : decode cL_law 2437 = .ok (.iaload, 1) := dLx dLc_6 (i := 175) (q := (2437, (.iaload, 1))) rfl
theorem dL_law_2438 : decode cL_law 2438 = .ok (.aload_n 0, 1) := dLx dLc_6 (i := 176) (q := (2438, (.aload_n 0, 1))) rfl
theorem dL_law_2439 : decode cL_law 2439 = .ok (.iload 4, 2) := dLx dLc_6 (i := 177) (q := (2439, (.iload 4, 2))) rfl
theorem dL_law_2441 : decode cL_law 2441 = .ok (.iconst 2, 1) := dLx dLc_6 (i := 178) (q := (2441, (.iconst 2, 1))) rfl
theorem dL_law_2442 : decode cL_law 2442 = .ok (.iadd, 1) := dLx dLc_6 (i := 179) (q := (2442, (.iadd, 1))) rfl
theorem dL_law_2443 : decode cL_law 2443 = .ok (.iaload, 1) := dLx dLc_6 (i := 180) (q := (2443, (.iaload, 1))) rfl
theorem dL_law_2444 : decode cL_law 2444 = .ok (.aload_n 3, 1) := dLx dLc_6 (i := 181) (q := (2444, (.aload_n 3, 1))) rfl
theorem dL_law_2445 : decode cL_law 2445 = .ok (.invokestatic 305, 3) := dLx dLc_6 (i := 182) (q := (2445, (.invokestatic 305, 3))) rfl
theorem dL_law_2448 : decode cL_law 2448 = .ok (.istore 5, 2) := dLx dLc_6 (i := 183) (q := (2448, (.istore 5, 2))) rfl
theorem dL_law_2450 : decode cL_law 2450 = .ok (.aload_n 2, 1) := dLx dLc_6 (i := 184) (q := (2450, (.aload_n 2, 1))) rfl
theorem dL_law_2451 : decode cL_law 2451 = .ok (.aload_n 0, 1) := dLx dLc_6 (i := 185) (q := (2451, (.aload_n 0, 1))) rfl
theorem dL_law_2452 : decode cL_law 2452 = .ok (.iload 4, 2) := dLx dLc_6 (i := 186) (q := (2452, (.iload 4, 2))) rfl
theorem dL_law_2454 : decode cL_law 2454 = .ok (.iconst 1, 1) := dLx dLc_6 (i := 187) (q := (2454, (.iconst 1, 1))) rfl
theorem dL_law_2455 : decode cL_law 2455 = .ok (.iadd, 1) := dLx dLc_6 (i := 188) (q := (2455, (.iadd, 1))) rfl
theorem dL_law_2456 : decode cL_law 2456 = .ok (.iaload, 1) := dLx dLc_6 (i := 189) (q := (2456, (.iaload, 1))) rfl
theorem dL_law_2457 : decode cL_law 2457 = .ok (.aload_n 0, 1) := dLx dLc_6 (i := 190) (q := (2457, (.aload_n 0, 1))) rfl
theorem dL_law_2458 : decode cL_law 2458 = .ok (.iload 4, 2) := dLx dLc_6 (i := 191) (q := (2458, (.iload 4, 2))) rfl
theorem dL_law_2460 : decode cL_law 2460 = .ok (.iconst 2, 1) := dLx dLc_6 (i := 192) (q := (2460, (.iconst 2, 1))) rfl
theorem dL_law_2461 : decode cL_law 2461 = .ok (.iadd, 1) := dLx dLc_6 (i := 193) (q := (2461, (.iadd, 1))) rfl
theorem dL_law_2462 : decode cL_law 2462 = .ok (.iaload, 1) := dLx dLc_6 (i := 194) (q := (2462, (.iaload, 1))) rfl
theorem dL_law_2463 : decode cL_law 2463 = .ok (.invokevirtual 307, 3) := dLx dLc_6 (i := 195) (q := (2463, (.invokevirtual 307, 3))) rfl
theorem dL_law_2466 : decode cL_law 2466 = .ok (.istore 6, 2) := dLx dLc_6 (i := 196) (q := (2466, (.istore 6, 2))) rfl
theorem dL_law_2468 : decode cL_law 2468 = .ok (.aload_n 2, 1) := dLx dLc_6 (i := 197) (q := (2468, (.aload_n 2, 1))) rfl
theorem dL_law_2469 : decode cL_law 2469 = .ok (.invokevirtual 201, 3) := dLx dLc_6 (i := 198) (q := (2469, (.invokevirtual 201, 3))) rfl
theorem dL_law_2472 : decode cL_law 2472 = .ok (.iload 5, 2) := dLx dLc_6 (i := 199) (q := (2472, (.iload 5, 2))) rfl
theorem dL_law_2474 : decode cL_law 2474 = .ok (.if_icmp .eq 5, 3) := dLx dLc_6 (i := 200) (q := (2474, (.if_icmp .eq 5, 3))) rfl
theorem dL_law_2477 : decode cL_law 2477 = .ok (.iconst 0, 1) := dLx dLc_6 (i := 201) (q := (2477, (.iconst 0, 1))) rfl
theorem dL_law_2478 : decode cL_law 2478 = .ok (.ireturn, 1) := dLx dLc_6 (i := 202) (q := (2478, (.ireturn, 1))) rfl
theorem dL_law_2479 : decode cL_law 2479 = .ok (.iload 5, 2) := dLx dLc_6 (i := 203) (q := (2479, (.iload 5, 2))) rfl
theorem dL_law_2481 : decode cL_law 2481 = .ok (.ifCond .ne 22, 3) := dLx dLc_6 (i := 204) (q := (2481, (.ifCond .ne 22, 3))) rfl
theorem dL_law_2484 : decode cL_law 2484 = .ok (.aload_n 3, 1) := dLx dLc_6 (i := 205) (q := (2484, (.aload_n 3, 1))) rfl
theorem dL_law_2485 : decode cL_law 2485 = .ok (.iconst 0, 1) := dLx dLc_6 (i := 206) (q := (2485, (.iconst 0, 1))) rfl
theorem dL_law_2486 : decode cL_law 2486 = .ok (.laload, 1) := dLx dLc_6 (i := 207) (q := (2486, (.laload, 1))) rfl
theorem dL_law_2487 : decode cL_law 2487 = .ok (.iload 6, 2) := dLx dLc_6 (i := 208) (q := (2487, (.iload 6, 2))) rfl
theorem dL_law_2489 : decode cL_law 2489 = .ok (.ifCond .eq 7, 3) := dLx dLc_6 (i := 209) (q := (2489, (.ifCond .eq 7, 3))) rfl
theorem dL_law_2492 : decode cL_law 2492 = .ok (.lconst 1, 1) := dLx dLc_6 (i := 210) (q := (2492, (.lconst 1, 1))) rfl
theorem dL_law_2493 : decode cL_law 2493 = .ok (.goto 4, 3) := dLx dLc_6 (i := 211) (q := (2493, (.goto 4, 3))) rfl
theorem dL_law_2496 : decode cL_law 2496 = .ok (.lconst 0, 1) := dLx dLc_6 (i := 212) (q := (2496, (.lconst 0, 1))) rfl
theorem dL_law_2497 : decode cL_law 2497 = .ok (.lcmp, 1) := dLx dLc_6 (i := 213) (q := (2497, (.lcmp, 1))) rfl
theorem dL_law_2498 : decode cL_law 2498 = .ok (.ifCond .eq 5, 3) := dLx dLc_6 (i := 214) (q := (2498, (.ifCond .eq 5, 3))) rfl
theorem dL_law_2501 : decode cL_law 2501 = .ok (.iconst 0, 1) := dLx dLc_6 (i := 215) (q := (2501, (.iconst 0, 1))) rfl
theorem dL_law_2502 : decode cL_law 2502 = .ok (.ireturn, 1) := dLx dLc_6 (i := 216) (q := (2502, (.ireturn, 1))) rfl
theorem dL_law_2503 : decode cL_law 2503 = .ok (.goto 1924, 3) := dLx dLc_6 (i := 217) (q := (2503, (.goto 1924, 3))) rfl
theorem dL_law_2506 : decode cL_law 2506 = .ok (.aload_n 1, 1) := dLx dLc_6 (i := 218) (q := (2506, (.aload_n 1, 1))) rfl
theorem dL_law_2507 : decode cL_law 2507 = .ok (.invokevirtual 308, 3) := dLx dLc_6 (i := 219) (q := (2507, (.invokevirtual 308, 3))) rfl
theorem dL_law_2510 : decode cL_law 2510 = .ok (.aload_n 2, 1) := dLx dLc_6 (i := 220) (q := (2510, (.aload_n 2, 1))) rfl
theorem dL_law_2511 : decode cL_law 2511 = .ok (.invokevirtual 311, 3) := dLx dLc_6 (i := 221) (q := (2511, (.invokevirtual 311, 3))) rfl
theorem dL_law_2514 : decode cL_law 2514 = .ok (.if_icmp .eq 1913, 3) := dLx dLc_6 (i := 222) (q := (2514, (.if_icmp .eq 1913, 3))) rfl
theorem dL_law_2517 : decode cL_law 2517 = .ok (.iconst 0, 1) := dLx dLc_6 (i := 223) (q := (2517, (.iconst 0, 1))) rfl
theorem dL_law_2518 : decode cL_law 2518 = .ok (.ireturn, 1) := dLx dLc_6 (i := 224) (q := (2518, (.ireturn, 1))) rfl
theorem dL_law_2519 : decode cL_law 2519 = .ok (.aload_n 1, 1) := dLx dLc_6 (i := 225) (q := (2519, (.aload_n 1, 1))) rfl
theorem dL_law_2520 : decode cL_law 2520 = .ok (.aload_n 0, 1) := dLx dLc_6 (i := 226) (q := (2520, (.aload_n 0, 1))) rfl
theorem dL_law_2521 : decode cL_law 2521 = .ok (.iload 4, 2) := dLx dLc_6 (i := 227) (q := (2521, (.iload 4, 2))) rfl
theorem dL_law_2523 : decode cL_law 2523 = .ok (.iconst 1, 1) := dLx dLc_6 (i := 228) (q := (2523, (.iconst 1, 1))) rfl
theorem dL_law_2524 : decode cL_law 2524 = .ok (.iadd, 1) := dLx dLc_6 (i := 229) (q := (2524, (.iadd, 1))) rfl
theorem dL_law_2525 : decode cL_law 2525 = .ok (.iaload, 1) := dLx dLc_6 (i := 230) (q := (2525, (.iaload, 1))) rfl
theorem dL_law_2526 : decode cL_law 2526 = .ok (.invokevirtual 312, 3) := dLx dLc_6 (i := 231) (q := (2526, (.invokevirtual 312, 3))) rfl
theorem dL_law_2529 : decode cL_law 2529 = .ok (.aload_n 2, 1) := dLx dLc_6 (i := 232) (q := (2529, (.aload_n 2, 1))) rfl
theorem dL_law_2530 : decode cL_law 2530 = .ok (.aload_n 0, 1) := dLx dLc_6 (i := 233) (q := (2530, (.aload_n 0, 1))) rfl
theorem dL_law_2531 : decode cL_law 2531 = .ok (.iload 4, 2) := dLx dLc_6 (i := 234) (q := (2531, (.iload 4, 2))) rfl
theorem dL_law_2533 : decode cL_law 2533 = .ok (.iconst 1, 1) := dLx dLc_6 (i := 235) (q := (2533, (.iconst 1, 1))) rfl
theorem dL_law_2534 : decode cL_law 2534 = .ok (.iadd, 1) := dLx dLc_6 (i := 236) (q := (2534, (.iadd, 1))) rfl
theorem dL_law_2535 : decode cL_law 2535 = .ok (.iaload, 1) := dLx dLc_6 (i := 237) (q := (2535, (.iaload, 1))) rfl
theorem dL_law_2536 : decode cL_law 2536 = .ok (.invokevirtual 315, 3) := dLx dLc_6 (i := 238) (q := (2536, (.invokevirtual 315, 3))) rfl
theorem dL_law_2539 : decode cL_law 2539 = .ok (.if_icmp .eq 1888, 3) := dLx dLc_6 (i := 239) (q := (2539, (.if_icmp .eq 1888, 3))) rfl
theorem dL_law_2542 : decode cL_law 2542 = .ok (.iconst 0, 1) := dLx dLc_6 (i := 240) (q := (2542, (.iconst 0, 1))) rfl
theorem dL_law_2543 : decode cL_law 2543 = .ok (.ireturn, 1) := dLx dLc_6 (i := 241) (q := (2543, (.ireturn, 1))) rfl
theorem dL_law_2544 : decode cL_law 2544 = .ok (.aload_n 1, 1) := dLx dLc_6 (i := 242) (q := (2544, (.aload_n 1, 1))) rfl
theorem dL_law_2545 : decode cL_law 2545 = .ok (.aload_n 0, 1) := dLx dLc_6 (i := 243) (q := (2545, (.aload_n 0, 1))) rfl
theorem dL_law_2546 : decode cL_law 2546 = .ok (.iload 4, 2) := dLx dLc_6 (i := 244) (q := (2546, (.iload 4, 2))) rfl
theorem dL_law_2548 : decode cL_law 2548 = .ok (.iconst 1, 1) := dLx dLc_6 (i := 245) (q := (2548, (.iconst 1, 1))) rfl
theorem dL_law_2549 : decode cL_law 2549 = .ok (.iadd, 1) := dLx dLc_6 (i := 246) (q := (2549, (.iadd, 1))) rfl
theorem dL_law_2550 : decode cL_law 2550 = .ok (.iaload, 1) := dLx dLc_6 (i := 247) (q := (2550, (.iaload, 1))) rfl
theorem dL_law_2551 : decode cL_law 2551 = .ok (.aload_n 3, 1) := dLx dLc_6 (i := 248) (q := (2551, (.aload_n 3, 1))) rfl
theorem dL_law_2552 : decode cL_law 2552 = .ok (.invokestatic 316, 3) := dLx dLc_6 (i := 249) (q := (2552, (.invokestatic 316, 3))) rfl
theorem dL_law_2555 : decode cL_law 2555 = .ok (.istore 5, 2) := dLx dLc_6 (i := 250) (q := (2555, (.istore 5, 2))) rfl
theorem dL_law_2557 : decode cL_law 2557 = .ok (.aload_n 2, 1) := dLx dLc_6 (i := 251) (q := (2557, (.aload_n 2, 1))) rfl
theorem dL_law_2558 : decode cL_law 2558 = .ok (.aload_n 0, 1) := dLx dLc_6 (i := 252) (q := (2558, (.aload_n 0, 1))) rfl
theorem dL_law_2559 : decode cL_law 2559 = .ok (.iload 4, 2) := dLx dLc_6 (i := 253) (q := (2559, (.iload 4, 2))) rfl
theorem dL_law_2561 : decode cL_law 2561 = .ok (.iconst 1, 1) := dLx dLc_6 (i := 254) (q := (2561, (.iconst 1, 1))) rfl
theorem dL_law_2562 : decode cL_law 2562 = .ok (.iadd, 1) := dLx dLc_6 (i := 255) (q := (2562, (.iadd, 1))) rfl
theorem dL_law_2563 : decode cL_law 2563 = .ok (.iaload, 1) := dLx dLc_6 (i := 256) (q := (2563, (.iaload, 1))) rfl
theorem dL_law_2564 : decode cL_law 2564 = .ok (.invokevirtual 318, 3) := dLx dLc_6 (i := 257) (q := (2564, (.invokevirtual 318, 3))) rfl
theorem dL_law_2567 : decode cL_law 2567 = .ok (.istore 6, 2) := dLx dLc_6 (i := 258) (q := (2567, (.istore 6, 2))) rfl
theorem dL_law_2569 : decode cL_law 2569 = .ok (.aload_n 2, 1) := dLx dLc_6 (i := 259) (q := (2569, (.aload_n 2, 1))) rfl
theorem dL_law_2570 : decode cL_law 2570 = .ok (.invokevirtual 201, 3) := dLx dLc_6 (i := 260) (q := (2570, (.invokevirtual 201, 3))) rfl
theorem dL_law_2573 : decode cL_law 2573 = .ok (.iload 5, 2) := dLx dLc_6 (i := 261) (q := (2573, (.iload 5, 2))) rfl
theorem dL_law_2575 : decode cL_law 2575 = .ok (.if_icmp .eq 5, 3) := dLx dLc_6 (i := 262) (q := (2575, (.if_icmp .eq 5, 3))) rfl
theorem dL_law_2578 : decode cL_law 2578 = .ok (.iconst 0, 1) := dLx dLc_6 (i := 263) (q := (2578, (.iconst 0, 1))) rfl
theorem dL_law_2579 : decode cL_law 2579 = .ok (.ireturn, 1) := dLx dLc_6 (i := 264) (q := (2579, (.ireturn, 1))) rfl
theorem dL_law_2580 : decode cL_law 2580 = .ok (.iload 5, 2) := dLx dLc_6 (i := 265) (q := (2580, (.iload 5, 2))) rfl
theorem dL_law_2582 : decode cL_law 2582 = .ok (.ifCond .ne 15, 3) := dLx dLc_6 (i := 266) (q := (2582, (.ifCond .ne 15, 3))) rfl
theorem dL_law_2585 : decode cL_law 2585 = .ok (.aload_n 3, 1) := dLx dLc_6 (i := 267) (q := (2585, (.aload_n 3, 1))) rfl
theorem dL_law_2586 : decode cL_law 2586 = .ok (.iconst 0, 1) := dLx dLc_6 (i := 268) (q := (2586, (.iconst 0, 1))) rfl
theorem dL_law_2587 : decode cL_law 2587 = .ok (.laload, 1) := dLx dLc_6 (i := 269) (q := (2587, (.laload, 1))) rfl
theorem dL_law_2588 : decode cL_law 2588 = .ok (.iload 6, 2) := dLx dLc_6 (i := 270) (q := (2588, (.iload 6, 2))) rfl
theorem dL_law_2590 : decode cL_law 2590 = .ok (.i2l, 1) := dLx dLc_6 (i := 271) (q := (2590, (.i2l, 1))) rfl
theorem dL_law_2591 : decode cL_law 2591 = .ok (.lcmp, 1) := dLx dLc_6 (i := 272) (q := (2591, (.lcmp, 1))) rfl
theorem dL_law_2592 : decode cL_law 2592 = .ok (.ifCond .eq 5, 3) := dLx dLc_6 (i := 273) (q := (2592, (.ifCond .eq 5, 3))) rfl
theorem dL_law_2595 : decode cL_law 2595 = .ok (.iconst 0, 1) := dLx dLc_6 (i := 274) (q := (2595, (.iconst 0, 1))) rfl
theorem dL_law_2596 : decode cL_law 2596 = .ok (.ireturn, 1) := dLx dLc_6 (i := 275) (q := (2596, (.ireturn, 1))) rfl
theorem dL_law_2597 : decode cL_law 2597 = .ok (.goto 1830, 3) := dLx dLc_6 (i := 276) (q := (2597, (.goto 1830, 3))) rfl
theorem dL_law_2600 : decode cL_law 2600 = .ok (.aload_n 1, 1) := dLx dLc_6 (i := 277) (q := (2600, (.aload_n 1, 1))) rfl
theorem dL_law_2601 : decode cL_law 2601 = .ok (.aload_n 0, 1) := dLx dLc_6 (i := 278) (q := (2601, (.aload_n 0, 1))) rfl
theorem dL_law_2602 : decode cL_law 2602 = .ok (.iload 4, 2) := dLx dLc_6 (i := 279) (q := (2602, (.iload 4, 2))) rfl
theorem dL_law_2604 : decode cL_law 2604 = .ok (.iconst 1, 1) := dLx dLc_6 (i := 280) (q := (2604, (.iconst 1, 1))) rfl
theorem dL_law_2605 : decode cL_law 2605 = .ok (.iadd, 1) := dLx dLc_6 (i := 281) (q := (2605, (.iadd, 1))) rfl
theorem dL_law_2606 : decode cL_law 2606 = .ok (.iaload, 1) := dLx dLc_6 (i := 282) (q := (2606, (.iaload, 1))) rfl
theorem dL_law_2607 : decode cL_law 2607 = .ok (.aload_n 3, 1) := dLx dLc_6 (i := 283) (q := (2607, (.aload_n 3, 1))) rfl
theorem dL_law_2608 : decode cL_law 2608 = .ok (.invokestatic 319, 3) := dLx dLc_6 (i := 284) (q := (2608, (.invokestatic 319, 3))) rfl
theorem dL_law_2611 : decode cL_law 2611 = .ok (.istore 5, 2) := dLx dLc_6 (i := 285) (q := (2611, (.istore 5, 2))) rfl
theorem dL_law_2613 : decode cL_law 2613 = .ok (.aload_n 2, 1) := dLx dLc_6 (i := 286) (q := (2613, (.aload_n 2, 1))) rfl
theorem dL_law_2614 : decode cL_law 2614 = .ok (.aload_n 0, 1) := dLx dLc_6 (i := 287) (q := (2614, (.aload_n 0, 1))) rfl
theorem dL_law_2615 : decode cL_law 2615 = .ok (.iload 4, 2) := dLx dLc_6 (i := 288) (q := (2615, (.iload 4, 2))) rfl
theorem dL_law_2617 : decode cL_law 2617 = .ok (.iconst 1, 1) := dLx dLc_6 (i := 289) (q := (2617, (.iconst 1, 1))) rfl
theorem dL_law_2618 : decode cL_law 2618 = .ok (.iadd, 1) := dLx dLc_6 (i := 290) (q := (2618, (.iadd, 1))) rfl
theorem dL_law_2619 : decode cL_law 2619 = .ok (.iaload, 1) := dLx dLc_6 (i := 291) (q := (2619, (.iaload, 1))) rfl
theorem dL_law_2620 : decode cL_law 2620 = .ok (.invokevirtual 321, 3) := dLx dLc_6 (i := 292) (q := (2620, (.invokevirtual 321, 3))) rfl
theorem dL_law_2623 : decode cL_law 2623 = .ok (.istore 6, 2) := dLx dLc_6 (i := 293) (q := (2623, (.istore 6, 2))) rfl
theorem dL_law_2625 : decode cL_law 2625 = .ok (.aload_n 2, 1) := dLx dLc_6 (i := 294) (q := (2625, (.aload_n 2, 1))) rfl
theorem dL_law_2626 : decode cL_law 2626 = .ok (.invokevirtual 201, 3) := dLx dLc_6 (i := 295) (q := (2626, (.invokevirtual 201, 3))) rfl
theorem dL_law_2629 : decode cL_law 2629 = .ok (.iload 5, 2) := dLx dLc_6 (i := 296) (q := (2629, (.iload 5, 2))) rfl
theorem dL_law_2631 : decode cL_law 2631 = .ok (.if_icmp .eq 5, 3) := dLx dLc_6 (i := 297) (q := (2631, (.if_icmp .eq 5, 3))) rfl
theorem dL_law_2634 : decode cL_law 2634 = .ok (.iconst 0, 1) := dLx dLc_6 (i := 298) (q := (2634, (.iconst 0, 1))) rfl
theorem dL_law_2635 : decode cL_law 2635 = .ok (.ireturn, 1) := dLx dLc_6 (i := 299) (q := (2635, (.ireturn, 1))) rfl
def dLt_7 : List (Nat × (Instr × Nat)) := [(2636, (.iload 5, 2)), (2638, (.ifCond .ne 15, 3)), (2641, (.aload_n 3, 1)), (2642, (.iconst 0, 1)), (2643, (.laload, 1)), (2644, (.iload 6, 2)), (2646, (.i2l, 1)), (2647, (.lcmp, 1)), (2648, (.ifCond .eq 5, 3)), (2651, (.iconst 0, 1)), (2652, (.ireturn, 1)), (2653, (.goto 1774, 3)), (2656, (.aload_n 1, 1)), (2657, (.aload_n 0, 1)), (2658, (.iload 4, 2)), (2660, (.iconst 1, 1)), (2661, (.iadd, 1)), (2662, (.iaload, 1)), (2663, (.aload_n 3, 1)), (2664, (.invokestatic 322, 3)), (2667, (.istore 5, 2)), (2669, (.aload_n 2, 1)), (2670, (.aload_n 0, 1)), (2671, (.iload 4, 2)), (2673, (.iconst 1, 1)), (2674, (.iadd, 1)), (2675, (.iaload, 1)), (2676, (.invokevirtual 324, 3)), (2679, (.istore 6, 2)), (2681, (.aload_n 2, 1)), (2682, (.invokevirtual 201, 3)), (2685, (.iload 5, 2)), (2687, (.if_icmp .eq 5, 3)), (2690, (.iconst 0, 1)), (2691, (.ireturn, 1)), (2692, (.iload 5, 2)), (2694, (.ifCond .ne 15, 3)), (2697, (.aload_n 3, 1)), (2698, (.iconst 0, 1)), (2699, (.laload, 1)), (2700, (.iload 6, 2)), (2702, (.i2l, 1)), (2703, (.lcmp, 1)), (2704, (.ifCond .eq 5, 3)), (2707, (.iconst 0, 1)), (2708, (.ireturn, 1)), (2709, (.goto 1718, 3)), (2712, (.aload_n 1, 1)), (2713, (.aload_n 0, 1)), (2714, (.iload 4, 2)), (2716, (.iconst 1, 1)), (2717, (.iadd, 1)), (2718, (.iaload, 1)), (2719, (.aload_n 3, 1)), (2720, (.invokestatic 325, 3)), (2723, (.istore 5, 2)), (2725, (.aload_n 2, 1)), (2726, (.aload_n 0, 1)), (2727, (.iload 4, 2)), (2729, (.iconst 1, 1)), (2730, (.iadd, 1)), (2731, (.iaload, 1)), (2732, (.invokevirtual 327, 3)), (2735, (.istore 6, 2)), (2737, (.aload_n 2, 1)), (2738, (.invokevirtual 201, 3)), (2741, (.iload 5, 2)), (2743, (.if_icmp .eq 5, 3)), (2746, (.iconst 0, 1)), (2747, (.ireturn, 1)), (2748, (.iload 5, 2)), (2750, (.ifCond .ne 22, 3)), (2753, (.aload_n 3, 1)), (2754, (.iconst 0, 1)), (2755, (.laload, 1)), (2756, (.iload 6, 2)), (2758, (.ifCond .eq 7, 3)), (2761, (.lconst 1, 1)), (2762, (.goto 4, 3)), (2765, (.lconst 0, 1)), (2766, (.lcmp, 1)), (2767, (.ifCond .eq 5, 3)), (2770, (.iconst 0, 1)), (2771, (.ireturn, 1)), (2772, (.goto 1655, 3)), (2775, (.aload_n 1, 1)), (2776, (.aload_n 0, 1)), (2777, (.iload 4, 2)), (2779, (.iconst 1, 1)), (2780, (.iadd, 1)), (2781, (.iaload, 1)), (2782, (.aload_n 3, 1)), (2783, (.invokestatic 328, 3)), (2786, (.istore 5, 2)), (2788, (.aload_n 2, 1)), (2789, (.aload_n 0, 1)), (2790, (.iload 4, 2)), (2792, (.iconst 1, 1)), (2793, (.iadd, 1)), (2794, (.iaload, 1)), (2795, (.invokevirtual 330, 3)), (2798, (.istore 6, 2)), (2800, (.aload_n 2, 1)), (2801, (.invokevirtual 201, 3)), (2804, (.iload 5, 2)), (2806, (.if_icmp .eq 5, 3)), (2809, (.iconst 0, 1)), (2810, (.ireturn, 1)), (2811, (.iload 5, 2)), (2813, (.ifCond .ne 15, 3)), (2816, (.aload_n 3, 1)), (2817, (.iconst 0, 1)), (2818, (.laload, 1)), (2819, (.iload 6, 2)), (2821, (.i2l, 1)), (2822, (.lcmp, 1)), (2823, (.ifCond .eq 5, 3)), (2826, (.iconst 0, 1)), (2827, (.ireturn, 1)), (2828, (.goto 1599, 3)), (2831, (.aload_n 1, 1)), (2832, (.aload_n 0, 1)), (2833, (.iload 4, 2)), (2835, (.iconst 1, 1)), (2836, (.iadd, 1)), (2837, (.iaload, 1)), (2838, (.aload_n 3, 1)), (2839, (.invokestatic 331, 3)), (2842, (.istore 5, 2)), (2844, (.aload_n 2, 1)), (2845, (.aload_n 0, 1)), (2846, (.iload 4, 2)), (2848, (.iconst 1, 1)), (2849, (.iadd, 1)), (2850, (.iaload, 1)), (2851, (.invokevirtual 333, 3)), (2854, (.istore 6, 2)), (2856, (.aload_n 2, 1)), (2857, (.invokevirtual 201, 3)), (2860, (.iload 5, 2)), (2862, (.if_icmp .eq 5, 3)), (2865, (.iconst 0, 1)), (2866, (.ireturn, 1)), (2867, (.iload 5, 2)), (2869, (.ifCond .ne 15, 3)), (2872, (.aload_n 3, 1)), (2873, (.iconst 0, 1)), (2874, (.laload, 1)), (2875, (.iload 6, 2)), (2877, (.i2l, 1)), (2878, (.lcmp, 1)), (2879, (.ifCond .eq 5, 3)), (2882, (.iconst 0, 1)), (2883, (.ireturn, 1)), (2884, (.goto 1543, 3)), (2887, (.aload_n 1, 1)), (2888, (.aload_n 0, 1)), (2889, (.iload 4, 2)), (2891, (.iconst 1, 1)), (2892, (.iadd, 1)), (2893, (.iaload, 1)), (2894, (.aload_n 0, 1)), (2895, (.iload 4, 2)), (2897, (.iconst 2, 1)), (2898, (.iadd, 1)), (2899, (.iaload, 1)), (2900, (.aload_n 3, 1)), (2901, (.invokestatic 334, 3)), (2904, (.istore 5, 2)), (2906, (.aload_n 2, 1)), (2907, (.aload_n 0, 1)), (2908, (.iload 4, 2)), (2910, (.iconst 1, 1)), (2911, (.iadd, 1)), (2912, (.iaload, 1)), (2913, (.aload_n 0, 1)), (2914, (.iload 4, 2)), (2916, (.iconst 2, 1)), (2917, (.iadd, 1)), (2918, (.iaload, 1)), (2919, (.invokevirtual 336, 3)), (2922, (.istore 6, 2)), (2924, (.aload_n 2, 1)), (2925, (.invokevirtual 201, 3)), (2928, (.iload 5, 2)), (2930, (.if_icmp .eq 5, 3)), (2933, (.iconst 0, 1)), (2934, (.ireturn, 1)), (2935, (.iload 5, 2)), (2937, (.ifCond .ne 22, 3)), (2940, (.aload_n 3, 1)), (2941, (.iconst 0, 1)), (2942, (.laload, 1)), (2943, (.iload 6, 2)), (2945, (.ifCond .eq 7, 3)), (2948, (.lconst 1, 1)), (2949, (.goto 4, 3)), (2952, (.lconst 0, 1)), (2953, (.lcmp, 1)), (2954, (.ifCond .eq 5, 3)), (2957, (.iconst 0, 1)), (2958, (.ireturn, 1)), (2959, (.goto 1468, 3)), (2962, (.aload_n 1, 1)), (2963, (.aload_n 0, 1)), (2964, (.iload 4, 2)), (2966, (.iconst 1, 1)), (2967, (.iadd, 1)), (2968, (.iaload, 1)), (2969, (.aload_n 0, 1)), (2970, (.iload 4, 2)), (2972, (.iconst 2, 1)), (2973, (.iadd, 1)), (2974, (.iaload, 1)), (2975, (.aload_n 3, 1)), (2976, (.invokestatic 337, 3)), (2979, (.istore 5, 2)), (2981, (.aload_n 2, 1)), (2982, (.aload_n 0, 1)), (2983, (.iload 4, 2)), (2985, (.iconst 1, 1)), (2986, (.iadd, 1)), (2987, (.iaload, 1)), (2988, (.aload_n 0, 1)), (2989, (.iload 4, 2)), (2991, (.iconst 2, 1)), (2992, (.iadd, 1)), (2993, (.iaload, 1)), (2994, (.invokevirtual 339, 3)), (2997, (.istore 6, 2)), (2999, (.aload_n 2, 1)), (3000, (.invokevirtual 201, 3)), (3003, (.iload 5, 2)), (3005, (.if_icmp .eq 5, 3)), (3008, (.iconst 0, 1)), (3009, (.ireturn, 1)), (3010, (.iload 5, 2)), (3012, (.ifCond .ne 15, 3)), (3015, (.aload_n 3, 1)), (3016, (.iconst 0, 1)), (3017, (.laload, 1)), (3018, (.iload 6, 2)), (3020, (.i2l, 1)), (3021, (.lcmp, 1)), (3022, (.ifCond .eq 5, 3)), (3025, (.iconst 0, 1)), (3026, (.ireturn, 1)), (3027, (.goto 1400, 3)), (3030, (.aload_n 1, 1)), (3031, (.aload_n 0, 1)), (3032, (.iload 4, 2)), (3034, (.iconst 1, 1)), (3035, (.iadd, 1)), (3036, (.iaload, 1)), (3037, (.aload_n 0, 1)), (3038, (.iload 4, 2)), (3040, (.iconst 2, 1)), (3041, (.iadd, 1)), (3042, (.iaload, 1)), (3043, (.aload_n 3, 1)), (3044, (.invokestatic 340, 3)), (3047, (.istore 5, 2)), (3049, (.aload_n 2, 1)), (3050, (.aload_n 0, 1)), (3051, (.iload 4, 2)), (3053, (.iconst 1, 1)), (3054, (.iadd, 1)), (3055, (.iaload, 1)), (3056, (.aload_n 0, 1)), (3057, (.iload 4, 2)), (3059, (.iconst 2, 1)), (3060, (.iadd, 1)), (3061, (.iaload, 1)), (3062, (.invokevirtual 342, 3)), (3065, (.istore 6, 2)), (3067, (.aload_n 2, 1)), (3068, (.invokevirtual 201, 3)), (3071, (.iload 5, 2)), (3073, (.if_icmp .eq 5, 3)), (3076, (.iconst 0, 1)), (3077, (.ireturn, 1)), (3078, (.iload 5, 2)), (3080, (.ifCond .ne 15, 3)), (3083, (.aload_n 3, 1)), (3084, (.iconst 0, 1)), (3085, (.laload, 1)), (3086, (.iload 6, 2)), (3088, (.i2l, 1)), (3089, (.lcmp, 1)), (3090, (.ifCond .eq 5, 3)), (3093, (.iconst 0, 1)), (3094, (.ireturn, 1)), (3095, (.goto 1332, 3)), (3098, (.aload_n 1, 1)), (3099, (.aload_n 0, 1)), (3100, (.iload 4, 2)), (3102, (.iconst 1, 1)), (3103, (.iadd, 1)), (3104, (.iaload, 1)), (3105, (.aload_n 0, 1))]
set_option maxRecDepth 100000 in
theorem dLc_7 : ldg (cL_law.data.toList.drop 2636) 0 2636 dLt_7 = true := by decide +kernel
theorem dL_law_2636 : decode cL_law 2636 = .ok (.iload 5, 2) := dLx dLc_7 (i := 0) (q := (2636, (.iload 5, 2))) rfl
theorem dL_law_2638 : decode cL_law 2638 = .ok (.ifCond .ne 15, 3) := dLx dLc_7 (i := 1) (q := (2638, (.ifCond .ne 15, 3))) rfl
theorem dL_law_2641 : decode cL_law 2641 = .ok (.aload_n 3, 1) := dLx dLc_7 (i := 2) (q := (2641, (.aload_n 3, 1))) rfl
theorem dL_law_2642 : decode cL_law 2642 = .ok (.iconst 0, 1) := dLx dLc_7 (i := 3) (q := (2642, (.iconst 0, 1))) rfl
theorem dL_law_2643 : decode cL_law 2643 = .ok (.laload, 1) := dLx dLc_7 (i := 4) (q := (2643, (.laload, 1))) rfl
theorem dL_law_2644 : decode cL_law 2644 = .ok (.iload 6, 2) := dLx dLc_7 (i := 5) (q := (2644, (.iload 6, 2))) rfl
theorem dL_law_2646 : decode cL_law 2646 = .ok (.i2l, 1) := dLx dLc_7 (i := 6) (q := (2646, (.i2l, 1))) rfl
theorem dL_law_2647 : decode cL_law 2647 = .ok (.lcmp, 1) := dLx dLc_7 (i := 7) (q := (2647, (.lcmp, 1))) rfl
theorem dL_law_2648 : decode cL_law 2648 = .ok (.ifCond .eq 5, 3) := dLx dLc_7 (i := 8) (q := (2648, (.ifCond .eq 5, 3))) rfl
theorem dL_law_2651 : decode cL_law 2651 = .ok (.iconst 0, 1) := dLx dLc_7 (i := 9) (q := (2651, (.iconst 0, 1))) rfl
theorem dL_law_2652 : decode cL_law 2652 = .ok (.ireturn, 1) := dLx dLc_7 (i := 10) (q := (2652, (.ireturn, 1))) rfl
theorem dL_law_2653 : decode cL_law 2653 = .ok (.goto 1774, 3) := dLx dLc_7 (i := 11) (q := (2653, (.goto 1774, 3))) rfl
theorem dL_law_2656 : decode cL_law 2656 = .ok (.aload_n 1, 1) := dLx dLc_7 (i := 12) (q := (2656, (.aload_n 1, 1))) rfl
theorem dL_law_2657 : decode cL_law 2657 = .ok (.aload_n 0, 1) := dLx dLc_7 (i := 13) (q := (2657, (.aload_n 0, 1))) rfl
theorem dL_law_2658 : decode cL_law 2658 = .ok (.iload 4, 2) := dLx dLc_7 (i := 14) (q := (2658, (.iload 4, 2))) rfl
theorem dL_law_2660 : decode cL_law 2660 = .ok (.iconst 1, 1) := dLx dLc_7 (i := 15) (q := (2660, (.iconst 1, 1))) rfl
theorem dL_law_2661 : decode cL_law 2661 = .ok (.iadd, 1) := dLx dLc_7 (i := 16) (q := (2661, (.iadd, 1))) rfl
theorem dL_law_2662 : decode cL_law 2662 = .ok (.iaload, 1) := dLx dLc_7 (i := 17) (q := (2662, (.iaload, 1))) rfl
theorem dL_law_2663 : decode cL_law 2663 = .ok (.aload_n 3, 1) := dLx dLc_7 (i := 18) (q := (2663, (.aload_n 3, 1))) rfl
theorem dL_law_2664 : decode cL_law 2664 = .ok (.invokestatic 322, 3) := dLx dLc_7 (i := 19) (q := (2664, (.invokestatic 322, 3))) rfl
theorem dL_law_2667 : decode cL_law 2667 = .ok (.istore 5, 2) := dLx dLc_7 (i := 20) (q := (2667, (.istore 5, 2))) rfl
theorem dL_law_2669 : decode cL_law 2669 = .ok (.aload_n 2, 1) := dLx dLc_7 (i := 21) (q := (2669, (.aload_n 2, 1))) rfl
theorem dL_law_2670 : decode cL_law 2670 = .ok (.aload_n 0, 1) := dLx dLc_7 (i := 22) (q := (2670, (.aload_n 0, 1))) rfl
theorem dL_law_2671 : decode cL_law 2671 = .ok (.iload 4, 2) := dLx dLc_7 (i := 23) (q := (2671, (.iload 4, 2))) rfl
theorem dL_law_2673 : decode cL_law 2673 = .ok (.iconst 1, 1) := dLx dLc_7 (i := 24) (q := (2673, (.iconst 1, 1))) rfl
theorem dL_law_2674 : decode cL_law 2674 = .ok (.iadd, 1) := dLx dLc_7 (i := 25) (q := (2674, (.iadd, 1))) rfl
theorem dL_law_2675 : decode cL_law 2675 = .ok (.iaload, 1) := dLx dLc_7 (i := 26) (q := (2675, (.iaload, 1))) rfl
theorem dL_law_2676 : decode cL_law 2676 = .ok (.invokevirtual 324, 3) := dLx dLc_7 (i := 27) (q := (2676, (.invokevirtual 324, 3))) rfl
theorem dL_law_2679 : decode cL_law 2679 = .ok (.istore 6, 2) := dLx dLc_7 (i := 28) (q := (2679, (.istore 6, 2))) rfl
theorem dL_law_2681 : decode cL_law 2681 = .ok (.aload_n 2, 1) := dLx dLc_7 (i := 29) (q := (2681, (.aload_n 2, 1))) rfl
theorem dL_law_2682 : decode cL_law 2682 = .ok (.invokevirtual 201, 3) := dLx dLc_7 (i := 30) (q := (2682, (.invokevirtual 201, 3))) rfl
theorem dL_law_2685 : decode cL_law 2685 = .ok (.iload 5, 2) := dLx dLc_7 (i := 31) (q := (2685, (.iload 5, 2))) rfl
theorem dL_law_2687 : decode cL_law 2687 = .ok (.if_icmp .eq 5, 3) := dLx dLc_7 (i := 32) (q := (2687, (.if_icmp .eq 5, 3))) rfl
theorem dL_law_2690 : decode cL_law 2690 = .ok (.iconst 0, 1) := dLx dLc_7 (i := 33) (q := (2690, (.iconst 0, 1))) rfl
theorem dL_law_2691 : decode cL_law 2691 = .ok (.ireturn, 1) := dLx dLc_7 (i := 34) (q := (2691, (.ireturn, 1))) rfl
theorem dL_law_2692 : decode cL_law 2692 = .ok (.iload 5, 2) := dLx dLc_7 (i := 35) (q := (2692, (.iload 5, 2))) rfl
theorem dL_law_2694 : decode cL_law 2694 = .ok (.ifCond .ne 15, 3) := dLx dLc_7 (i := 36) (q := (2694, (.ifCond .ne 15, 3))) rfl
theorem dL_law_2697 : decode cL_law 2697 = .ok (.aload_n 3, 1) := dLx dLc_7 (i := 37) (q := (2697, (.aload_n 3, 1))) rfl
theorem dL_law_2698 : decode cL_law 2698 = .ok (.iconst 0, 1) := dLx dLc_7 (i := 38) (q := (2698, (.iconst 0, 1))) rfl
theorem dL_law_2699 : decode cL_law 2699 = .ok (.laload, 1) := dLx dLc_7 (i := 39) (q := (2699, (.laload, 1))) rfl
theorem dL_law_2700 : decode cL_law 2700 = .ok (.iload 6, 2) := dLx dLc_7 (i := 40) (q := (2700, (.iload 6, 2))) rfl
theorem dL_law_2702 : decode cL_law 2702 = .ok (.i2l, 1) := dLx dLc_7 (i := 41) (q := (2702, (.i2l, 1))) rfl
theorem dL_law_2703 : decode cL_law 2703 = .ok (.lcmp, 1) := dLx dLc_7 (i := 42) (q := (2703, (.lcmp, 1))) rfl
theorem dL_law_2704 : decode cL_law 2704 = .ok (.ifCond .eq 5, 3) := dLx dLc_7 (i := 43) (q := (2704, (.ifCond .eq 5, 3))) rfl
theorem dL_law_2707 : decode cL_law 2707 = .ok (.iconst 0, 1) := dLx dLc_7 (i := 44) (q := (2707, (.iconst 0, 1))) rfl
theorem dL_law_2708 : decode cL_law 2708 = .ok (.ireturn, 1) := dLx dLc_7 (i := 45) (q := (2708, (.ireturn, 1))) rfl
theorem dL_law_2709 : decode cL_law 2709 = .ok (.goto 1718, 3) := dLx dLc_7 (i := 46) (q := (2709, (.goto 1718, 3))) rfl
theorem dL_law_2712 : decode cL_law 2712 = .ok (.aload_n 1, 1) := dLx dLc_7 (i := 47) (q := (2712, (.aload_n 1, 1))) rfl
theorem dL_law_2713 : decode cL_law 2713 = .ok (.aload_n 0, 1) := dLx dLc_7 (i := 48) (q := (2713, (.aload_n 0, 1))) rfl
theorem dL_law_2714 : decode cL_law 2714 = .ok (.iload 4, 2) := dLx dLc_7 (i := 49) (q := (2714, (.iload 4, 2))) rfl
theorem dL_law_2716 : decode cL_law 2716 = .ok (.iconst 1, 1) := dLx dLc_7 (i := 50) (q := (2716, (.iconst 1, 1))) rfl
theorem dL_law_2717 : decode cL_law 2717 = .ok (.iadd, 1) := dLx dLc_7 (i := 51) (q := (2717, (.iadd, 1))) rfl
theorem dL_law_2718 : decode cL_law 2718 = .ok (.iaload, 1) := dLx dLc_7 (i := 52) (q := (2718, (.iaload, 1))) rfl
theorem dL_law_2719 : decode cL_law 2719 = .ok (.aload_n 3, 1) := dLx dLc_7 (i := 53) (q := (2719, (.aload_n 3, 1))) rfl
theorem dL_law_2720 : decode cL_law 2720 = .ok (.invokestatic 325, 3) := dLx dLc_7 (i := 54) (q := (2720, (.invokestatic 325, 3))) rfl
theorem dL_law_2723 : decode cL_law 2723 = .ok (.istore 5, 2) := dLx dLc_7 (i := 55) (q := (2723, (.istore 5, 2))) rfl
theorem dL_law_2725 : decode cL_law 2725 = .ok (.aload_n 2, 1) := dLx dLc_7 (i := 56) (q := (2725, (.aload_n 2, 1))) rfl
theorem dL_law_2726 : decode cL_law 2726 = .ok (.aload_n 0, 1) := dLx dLc_7 (i := 57) (q := (2726, (.aload_n 0, 1))) rfl
theorem dL_law_2727 : decode cL_law 2727 = .ok (.iload 4, 2) := dLx dLc_7 (i := 58) (q := (2727, (.iload 4, 2))) rfl
theorem dL_law_2729 : decode cL_law 2729 = .ok (.iconst 1, 1) := dLx dLc_7 (i := 59) (q := (2729, (.iconst 1, 1))) rfl
theorem dL_law_2730 : decode cL_law 2730 = .ok (.iadd, 1) := dLx dLc_7 (i := 60) (q := (2730, (.iadd, 1))) rfl
theorem dL_law_2731 : decode cL_law 2731 = .ok (.iaload, 1) := dLx dLc_7 (i := 61) (q := (2731, (.iaload, 1))) rfl
theorem dL_law_2732 : decode cL_law 2732 = .ok (.invokevirtual 327, 3) := dLx dLc_7 (i := 62) (q := (2732, (.invokevirtual 327, 3))) rfl
theorem dL_law_2735 : decode cL_law 2735 = .ok (.istore 6, 2) := dLx dLc_7 (i := 63) (q := (2735, (.istore 6, 2))) rfl
theorem dL_law_2737 : decode cL_law 2737 = .ok (.aload_n 2, 1) := dLx dLc_7 (i := 64) (q := (2737, (.aload_n 2, 1))) rfl
theorem dL_law_2738 : decode cL_law 2738 = .ok (.invokevirtual 201, 3) := dLx dLc_7 (i := 65) (q := (2738, (.invokevirtual 201, 3))) rfl
theorem dL_law_2741 : decode cL_law 2741 = .ok (.iload 5, 2) := dLx dLc_7 (i := 66) (q := (2741, (.iload 5, 2))) rfl
theorem dL_law_2743 : decode cL_law 2743 = .ok (.if_icmp .eq 5, 3) := dLx dLc_7 (i := 67) (q := (2743, (.if_icmp .eq 5, 3))) rfl
theorem dL_law_2746 : decode cL_law 2746 = .ok (.iconst 0, 1) := dLx dLc_7 (i := 68) (q := (2746, (.iconst 0, 1))) rfl
theorem dL_law_2747 : decode cL_law 2747 = .ok (.ireturn, 1) := dLx dLc_7 (i := 69) (q := (2747, (.ireturn, 1))) rfl
theorem dL_law_2748 : decode cL_law 2748 = .ok (.iload 5, 2) := dLx dLc_7 (i := 70) (q := (2748, (.iload 5, 2))) rfl
theorem dL_law_2750 : decode cL_law 2750 = .ok (.ifCond .ne 22, 3) := dLx dLc_7 (i := 71) (q := (2750, (.ifCond .ne 22, 3))) rfl
theorem dL_law_2753 : decode cL_law 2753 = .ok (.aload_n 3, 1) := dLx dLc_7 (i := 72) (q := (2753, (.aload_n 3, 1))) rfl
theorem dL_law_2754 : decode cL_law 2754 = .ok (.iconst 0, 1) := dLx dLc_7 (i := 73) (q := (2754, (.iconst 0, 1))) rfl
theorem dL_law_2755 : decode cL_law 2755 = .ok (.laload, 1) := dLx dLc_7 (i := 74) (q := (2755, (.laload, 1))) rfl
theorem dL_law_2756 : decode cL_law 2756 = .ok (.iload 6, 2) := dLx dLc_7 (i := 75) (q := (2756, (.iload 6, 2))) rfl
theorem dL_law_2758 : decode cL_law 2758 = .ok (.ifCond .eq 7, 3) := dLx dLc_7 (i := 76) (q := (2758, (.ifCond .eq 7, 3))) rfl
theorem dL_law_2761 : decode cL_law 2761 = .ok (.lconst 1, 1) := dLx dLc_7 (i := 77) (q := (2761, (.lconst 1, 1))) rfl
theorem dL_law_2762 : decode cL_law 2762 = .ok (.goto 4, 3) := dLx dLc_7 (i := 78) (q := (2762, (.goto 4, 3))) rfl
theorem dL_law_2765 : decode cL_law 2765 = .ok (.lconst 0, 1) := dLx dLc_7 (i := 79) (q := (2765, (.lconst 0, 1))) rfl
theorem dL_law_2766 : decode cL_law 2766 = .ok (.lcmp, 1) := dLx dLc_7 (i := 80) (q := (2766, (.lcmp, 1))) rfl
theorem dL_law_2767 : decode cL_law 2767 = .ok (.ifCond .eq 5, 3) := dLx dLc_7 (i := 81) (q := (2767, (.ifCond .eq 5, 3))) rfl
theorem dL_law_2770 : decode cL_law 2770 = .ok (.iconst 0, 1) := dLx dLc_7 (i := 82) (q := (2770, (.iconst 0, 1))) rfl
theorem dL_law_2771 : decode cL_law 2771 = .ok (.ireturn, 1) := dLx dLc_7 (i := 83) (q := (2771, (.ireturn, 1))) rfl
theorem dL_law_2772 : decode cL_law 2772 = .ok (.goto 1655, 3) := dLx dLc_7 (i := 84) (q := (2772, (.goto 1655, 3))) rfl
theorem dL_law_2775 : decode cL_law 2775 = .ok (.aload_n 1, 1) := dLx dLc_7 (i := 85) (q := (2775, (.aload_n 1, 1))) rfl
theorem dL_law_2776 : decode cL_law 2776 = .ok (.aload_n 0, 1) := dLx dLc_7 (i := 86) (q := (2776, (.aload_n 0, 1))) rfl
theorem dL_law_2777 : decode cL_law 2777 = .ok (.iload 4, 2) := dLx dLc_7 (i := 87) (q := (2777, (.iload 4, 2))) rfl
theorem dL_law_2779 : decode cL_law 2779 = .ok (.iconst 1, 1) := dLx dLc_7 (i := 88) (q := (2779, (.iconst 1, 1))) rfl
theorem dL_law_2780 : decode cL_law 2780 = .ok (.iadd, 1) := dLx dLc_7 (i := 89) (q := (2780, (.iadd, 1))) rfl
theorem dL_law_2781 : decode cL_law 2781 = .ok (.iaload, 1) := dLx dLc_7 (i := 90) (q := (2781, (.iaload, 1))) rfl
theorem dL_law_2782 : decode cL_law 2782 = .ok (.aload_n 3, 1) := dLx dLc_7 (i := 91) (q := (2782, (.aload_n 3, 1))) rfl
theorem dL_law_2783 : decode cL_law 2783 = .ok (.invokestatic 328, 3) := dLx dLc_7 (i := 92) (q := (2783, (.invokestatic 328, 3))) rfl
theorem dL_law_2786 : decode cL_law 2786 = .ok (.istore 5, 2) := dLx dLc_7 (i := 93) (q := (2786, (.istore 5, 2))) rfl
theorem dL_law_2788 : decode cL_law 2788 = .ok (.aload_n 2, 1) := dLx dLc_7 (i := 94) (q := (2788, (.aload_n 2, 1))) rfl
theorem dL_law_2789 : decode cL_law 2789 = .ok (.aload_n 0, 1) := dLx dLc_7 (i := 95) (q := (2789, (.aload_n 0, 1))) rfl
theorem dL_law_2790 : decode cL_law 2790 = .ok (.iload 4, 2) := dLx dLc_7 (i := 96) (q := (2790, (.iload 4, 2))) rfl
theorem dL_law_2792 : decode cL_law 2792 = .ok (.iconst 1, 1) := dLx dLc_7 (i := 97) (q := (2792, (.iconst 1, 1))) rfl
theorem dL_law_2793 : decode cL_law 2793 = .ok (.iadd, 1) := dLx dLc_7 (i := 98) (q := (2793, (.iadd, 1))) rfl
theorem dL_law_2794 : decode cL_law 2794 = .ok (.iaload, 1) := dLx dLc_7 (i := 99) (q := (2794, (.iaload, 1))) rfl
theorem dL_law_2795 : decode cL_law 2795 = .ok (.invokevirtual 330, 3) := dLx dLc_7 (i := 100) (q := (2795, (.invokevirtual 330, 3))) rfl
theorem dL_law_2798 : decode cL_law 2798 = .ok (.istore 6, 2) := dLx dLc_7 (i := 101) (q := (2798, (.istore 6, 2))) rfl
theorem dL_law_2800 : decode cL_law 2800 = .ok (.aload_n 2, 1) := dLx dLc_7 (i := 102) (q := (2800, (.aload_n 2, 1))) rfl
theorem dL_law_2801 : decode cL_law 2801 = .ok (.invokevirtual 201, 3) := dLx dLc_7 (i := 103) (q := (2801, (.invokevirtual 201, 3))) rfl
theorem dL_law_2804 : decode cL_law 2804 = .ok (.iload 5, 2) := dLx dLc_7 (i := 104) (q := (2804, (.iload 5, 2))) rfl
theorem dL_law_2806 : decode cL_law 2806 = .ok (.if_icmp .eq 5, 3) := dLx dLc_7 (i := 105) (q := (2806, (.if_icmp .eq 5, 3))) rfl
theorem dL_law_2809 : decode cL_law 2809 = .ok (.iconst 0, 1) := dLx dLc_7 (i := 106) (q := (2809, (.iconst 0, 1))) rfl
theorem dL_law_2810 : decode cL_law 2810 = .ok (.ireturn, 1) := dLx dLc_7 (i := 107) (q := (2810, (.ireturn, 1))) rfl
theorem dL_law_2811 : decode cL_law 2811 = .ok (.iload 5, 2) := dLx dLc_7 (i := 108) (q := (2811, (.iload 5, 2))) rfl
theorem dL_law_2813 : decode cL_law 2813 = .ok (.ifCond .ne 15, 3) := dLx dLc_7 (i := 109) (q := (2813, (.ifCond .ne 15, 3))) rfl
theorem dL_law_2816 : decode cL_law 2816 = .ok (.aload_n 3, 1) := dLx dLc_7 (i := 110) (q := (2816, (.aload_n 3, 1))) rfl
theorem dL_law_2817 : decode cL_law 2817 = .ok (.iconst 0, 1) := dLx dLc_7 (i := 111) (q := (2817, (.iconst 0, 1))) rfl
theorem dL_law_2818 : decode cL_law 2818 = .ok (.laload, 1) := dLx dLc_7 (i := 112) (q := (2818, (.laload, 1))) rfl
theorem dL_law_2819 : decode cL_law 2819 = .ok (.iload 6, 2) := dLx dLc_7 (i := 113) (q := (2819, (.iload 6, 2))) rfl
theorem dL_law_2821 : decode cL_law 2821 = .ok (.i2l, 1) := dLx dLc_7 (i := 114) (q := (2821, (.i2l, 1))) rfl
theorem dL_law_2822 : decode cL_law 2822 = .ok (.lcmp, 1) := dLx dLc_7 (i := 115) (q := (2822, (.lcmp, 1))) rfl
theorem dL_law_2823 : decode cL_law 2823 = .ok (.ifCond .eq 5, 3) := dLx dLc_7 (i := 116) (q := (2823, (.ifCond .eq 5, 3))) rfl
theorem dL_law_2826 : decode cL_law 2826 = .ok (.iconst 0, 1) := dLx dLc_7 (i := 117) (q := (2826, (.iconst 0, 1))) rfl
theorem dL_law_2827 : decode cL_law 2827 = .ok (.ireturn, 1) := dLx dLc_7 (i := 118) (q := (2827, (.ireturn, 1))) rfl
theorem dL_law_2828 : decode cL_law 2828 = .ok (.goto 1599, 3) := dLx dLc_7 (i := 119) (q := (2828, (.goto 1599, 3))) rfl
theorem dL_law_2831 : decode cL_law 2831 = .ok (.aload_n 1, 1) := dLx dLc_7 (i := 120) (q := (2831, (.aload_n 1, 1))) rfl
theorem dL_law_2832 : decode cL_law 2832 = .ok (.aload_n 0, 1) := dLx dLc_7 (i := 121) (q := (2832, (.aload_n 0, 1))) rfl
theorem dL_law_2833 : decode cL_law 2833 = .ok (.iload 4, 2) := dLx dLc_7 (i := 122) (q := (2833, (.iload 4, 2))) rfl
theorem dL_law_2835 : decode cL_law 2835 = .ok (.iconst 1, 1) := dLx dLc_7 (i := 123) (q := (2835, (.iconst 1, 1))) rfl
theorem dL_law_2836 : decode cL_law 2836 = .ok (.iadd, 1) := dLx dLc_7 (i := 124) (q := (2836, (.iadd, 1))) rfl
theorem dL_law_2837 : decode cL_law 2837 = .ok (.iaload, 1) := dLx dLc_7 (i := 125) (q := (2837, (.iaload, 1))) rfl
theorem dL_law_2838 : decode cL_law 2838 = .ok (.aload_n 3, 1) := dLx dLc_7 (i := 126) (q := (2838, (.aload_n 3, 1))) rfl
theorem dL_law_2839 : decode cL_law 2839 = .ok (.invokestatic 331, 3) := dLx dLc_7 (i := 127) (q := (2839, (.invokestatic 331, 3))) rfl
theorem dL_law_2842 : decode cL_law 2842 = .ok (.istore 5, 2) := dLx dLc_7 (i := 128) (q := (2842, (.istore 5, 2))) rfl
theorem dL_law_2844 : decode cL_law 2844 = .ok (.aload_n 2, 1) := dLx dLc_7 (i := 129) (q := (2844, (.aload_n 2, 1))) rfl
theorem dL_law_2845 : decode cL_law 2845 = .ok (.aload_n 0, 1) := dLx dLc_7 (i := 130) (q := (2845, (.aload_n 0, 1))) rfl
theorem dL_law_2846 : decode cL_law 2846 = .ok (.iload 4, 2) := dLx dLc_7 (i := 131) (q := (2846, (.iload 4, 2))) rfl
theorem dL_law_2848 : decode cL_law 2848 = .ok (.iconst 1, 1) := dLx dLc_7 (i := 132) (q := (2848, (.iconst 1, 1))) rfl
theorem dL_law_2849 : decode cL_law 2849 = .ok (.iadd, 1) := dLx dLc_7 (i := 133) (q := (2849, (.iadd, 1))) rfl
theorem dL_law_2850 : decode cL_law 2850 = .ok (.iaload, 1) := dLx dLc_7 (i := 134) (q := (2850, (.iaload, 1))) rfl
theorem dL_law_2851 : decode cL_law 2851 = .ok (.invokevirtual 333, 3) := dLx dLc_7 (i := 135) (q := (2851, (.invokevirtual 333, 3))) rfl
theorem dL_law_2854 : decode cL_law 2854 = .ok (.istore 6, 2) := dLx dLc_7 (i := 136) (q := (2854, (.istore 6, 2))) rfl
theorem dL_law_2856 : decode cL_law 2856 = .ok (.aload_n 2, 1) := dLx dLc_7 (i := 137) (q := (2856, (.aload_n 2, 1))) rfl
theorem dL_law_2857 : decode cL_law 2857 = .ok (.invokevirtual 201, 3) := dLx dLc_7 (i := 138) (q := (2857, (.invokevirtual 201, 3))) rfl
theorem dL_law_2860 : decode cL_law 2860 = .ok (.iload 5, 2) := dLx dLc_7 (i := 139) (q := (2860, (.iload 5, 2))) rfl
theorem dL_law_2862 : decode cL_law 2862 = .ok (.if_icmp .eq 5, 3) := dLx dLc_7 (i := 140) (q := (2862, (.if_icmp .eq 5, 3))) rfl
theorem dL_law_2865 : decode cL_law 2865 = .ok (.iconst 0, 1) := dLx dLc_7 (i := 141) (q := (2865, (.iconst 0, 1))) rfl
theorem dL_law_2866 : decode cL_law 2866 = .ok (.ireturn, 1) := dLx dLc_7 (i := 142) (q := (2866, (.ireturn, 1))) rfl
theorem dL_law_2867 : decode cL_law 2867 = .ok (.iload 5, 2) := dLx dLc_7 (i := 143) (q := (2867, (.iload 5, 2))) rfl
theorem dL_law_2869 : decode cL_law 2869 = .ok (.ifCond .ne 15, 3) := dLx dLc_7 (i := 144) (q := (2869, (.ifCond .ne 15, 3))) rfl
theorem dL_law_2872 : decode cL_law 2872 = .ok (.aload_n 3, 1) := dLx dLc_7 (i := 145) (q := (2872, (.aload_n 3, 1))) rfl
theorem dL_law_2873 : decode cL_law 2873 = .ok (.iconst 0, 1) := dLx dLc_7 (i := 146) (q := (2873, (.iconst 0, 1))) rfl
theorem dL_law_2874 : decode cL_law 2874 = .ok (.laload, 1) := dLx dLc_7 (i := 147) (q := (2874, (.laload, 1))) rfl
theorem dL_law_2875 : decode cL_law 2875 = .ok (.iload 6, 2) := dLx dLc_7 (i := 148) (q := (2875, (.iload 6, 2))) rfl
theorem dL_law_2877 : decode cL_law 2877 = .ok (.i2l, 1) := dLx dLc_7 (i := 149) (q := (2877, (.i2l, 1))) rfl
theorem dL_law_2878 : decode cL_law 2878 = .ok (.lcmp, 1) := dLx dLc_7 (i := 150) (q := (2878, (.lcmp, 1))) rfl
theorem dL_law_2879 : decode cL_law 2879 = .ok (.ifCond .eq 5, 3) := dLx dLc_7 (i := 151) (q := (2879, (.ifCond .eq 5, 3))) rfl
theorem dL_law_2882 : decode cL_law 2882 = .ok (.iconst 0, 1) := dLx dLc_7 (i := 152) (q := (2882, (.iconst 0, 1))) rfl
theorem dL_law_2883 : decode cL_law 2883 = .ok (.ireturn, 1) := dLx dLc_7 (i := 153) (q := (2883, (.ireturn, 1))) rfl
theorem dL_law_2884 : decode cL_law 2884 = .ok (.goto 1543, 3) := dLx dLc_7 (i := 154) (q := (2884, (.goto 1543, 3))) rfl
theorem dL_law_2887 : decode cL_law 2887 = .ok (.aload_n 1, 1) := dLx dLc_7 (i := 155) (q := (2887, (.aload_n 1, 1))) rfl
theorem dL_law_2888 : decode cL_law 2888 = .ok (.aload_n 0, 1) := dLx dLc_7 (i := 156) (q := (2888, (.aload_n 0, 1))) rfl
theorem dL_law_2889 : decode cL_law 2889 = .ok (.iload 4, 2) := dLx dLc_7 (i := 157) (q := (2889, (.iload 4, 2))) rfl
theorem dL_law_2891 : decode cL_law 2891 = .ok (.iconst 1, 1) := dLx dLc_7 (i := 158) (q := (2891, (.iconst 1, 1))) rfl
theorem dL_law_2892 : decode cL_law 2892 = .ok (.iadd, 1) := dLx dLc_7 (i := 159) (q := (2892, (.iadd, 1))) rfl
theorem dL_law_2893 : decode cL_law 2893 = .ok (.iaload, 1) := dLx dLc_7 (i := 160) (q := (2893, (.iaload, 1))) rfl
theorem dL_law_2894 : decode cL_law 2894 = .ok (.aload_n 0, 1) := dLx dLc_7 (i := 161) (q := (2894, (.aload_n 0, 1))) rfl
theorem dL_law_2895 : decode cL_law 2895 = .ok (.iload 4, 2) := dLx dLc_7 (i := 162) (q := (2895, (.iload 4, 2))) rfl
theorem dL_law_2897 : decode cL_law 2897 = .ok (.iconst 2, 1) := dLx dLc_7 (i := 163) (q := (2897, (.iconst 2, 1))) rfl
theorem dL_law_2898 : decode cL_law 2898 = .ok (.iadd, 1) := dLx dLc_7 (i := 164) (q := (2898, (.iadd, 1))) rfl
theorem dL_law_2899 : decode cL_law 2899 = .ok (.iaload, 1) := dLx dLc_7 (i := 165) (q := (2899, (.iaload, 1))) rfl
theorem dL_law_2900 : decode cL_law 2900 = .ok (.aload_n 3, 1) := dLx dLc_7 (i := 166) (q := (2900, (.aload_n 3, 1))) rfl
theorem dL_law_2901 : decode cL_law 2901 = .ok (.invokestatic 334, 3) := dLx dLc_7 (i := 167) (q := (2901, (.invokestatic 334, 3))) rfl
theorem dL_law_2904 : decode cL_law 2904 = .ok (.istore 5, 2) := dLx dLc_7 (i := 168) (q := (2904, (.istore 5, 2))) rfl
theorem dL_law_2906 : decode cL_law 2906 = .ok (.aload_n 2, 1) := dLx dLc_7 (i := 169) (q := (2906, (.aload_n 2, 1))) rfl
theorem dL_law_2907 : decode cL_law 2907 = .ok (.aload_n 0, 1) := dLx dLc_7 (i := 170) (q := (2907, (.aload_n 0, 1))) rfl
theorem dL_law_2908 : decode cL_law 2908 = .ok (.iload 4, 2) := dLx dLc_7 (i := 171) (q := (2908, (.iload 4, 2))) rfl
theorem dL_law_2910 : decode cL_law 2910 = .ok (.iconst 1, 1) := dLx dLc_7 (i := 172) (q := (2910, (.iconst 1, 1))) rfl
theorem dL_law_2911 : decode cL_law 2911 = .ok (.iadd, 1) := dLx dLc_7 (i := 173) (q := (2911, (.iadd, 1))) rfl
theorem dL_law_2912 : decode cL_law 2912 = .ok (.iaload, 1) := dLx dLc_7 (i := 174) (q := (2912, (.iaload, 1))) rfl
theorem dL_law_2913 : decode cL_law 2913 = .ok (.aload_n 0, 1) := dLx dLc_7 (i := 175) (q := (2913, (.aload_n 0, 1))) rfl
theorem dL_law_2914 : decode cL_law 2914 = .ok (.iload 4, 2) := dLx dLc_7 (i := 176) (q := (2914, (.iload 4, 2))) rfl
theorem dL_law_2916 : decode cL_law 2916 = .ok (.iconst 2, 1) := dLx dLc_7 (i := 177) (q := (2916, (.iconst 2, 1))) rfl
theorem dL_law_2917 : decode cL_law 2917 = .ok (.iadd, 1) := dLx dLc_7 (i := 178) (q := (2917, (.iadd, 1))) rfl
theorem dL_law_2918 : decode cL_law 2918 = .ok (.iaload, 1) := dLx dLc_7 (i := 179) (q := (2918, (.iaload, 1))) rfl
theorem dL_law_2919 : decode cL_law 2919 = .ok (.invokevirtual 336, 3) := dLx dLc_7 (i := 180) (q := (2919, (.invokevirtual 336, 3))) rfl
theorem dL_law_2922 : decode cL_law 2922 = .ok (.istore 6, 2) := dLx dLc_7 (i := 181) (q := (2922, (.istore 6, 2))) rfl
theorem dL_law_2924 : decode cL_law 2924 = .ok (.aload_n 2, 1) := dLx dLc_7 (i := 182) (q := (2924, (.aload_n 2, 1))) rfl
theorem dL_law_2925 : decode cL_law 2925 = .ok (.invokevirtual 201, 3) := dLx dLc_7 (i := 183) (q := (2925, (.invokevirtual 201, 3))) rfl
theorem dL_law_2928 : decode cL_law 2928 = .ok (.iload 5, 2) := dLx dLc_7 (i := 184) (q := (2928, (.iload 5, 2))) rfl
theorem dL_law_2930 : decode cL_law 2930 = .ok (.if_icmp .eq 5, 3) := dLx dLc_7 (i := 185) (q := (2930, (.if_icmp .eq 5, 3))) rfl
theorem dL_law_2933 : decode cL_law 2933 = .ok (.iconst 0, 1) := dLx dLc_7 (i := 186) (q := (2933, (.iconst 0, 1))) rfl
theorem dL_law_2934 : decode cL_law 2934 = .ok (.ireturn, 1) := dLx dLc_7 (i := 187) (q := (2934, (.ireturn, 1))) rfl
theorem dL_law_2935 : decode cL_law 2935 = .ok (.iload 5, 2) := dLx dLc_7 (i := 188) (q := (2935, (.iload 5, 2))) rfl
theorem dL_law_2937 : decode cL_law 2937 = .ok (.ifCond .ne 22, 3) := dLx dLc_7 (i := 189) (q := (2937, (.ifCond .ne 22, 3))) rfl
theorem dL_law_2940 : decode cL_law 2940 = .ok (.aload_n 3, 1) := dLx dLc_7 (i := 190) (q := (2940, (.aload_n 3, 1))) rfl
theorem dL_law_2941 : decode cL_law 2941 = .ok (.iconst 0, 1) := dLx dLc_7 (i := 191) (q := (2941, (.iconst 0, 1))) rfl
theorem dL_law_2942 : decode cL_law 2942 = .ok (.laload, 1) := dLx dLc_7 (i := 192) (q := (2942, (.laload, 1))) rfl
theorem dL_law_2943 : decode cL_law 2943 = .ok (.iload 6, 2) := dLx dLc_7 (i := 193) (q := (2943, (.iload 6, 2))) rfl
theorem dL_law_2945 : decode cL_law 2945 = .ok (.ifCond .eq 7, 3) := dLx dLc_7 (i := 194) (q := (2945, (.ifCond .eq 7, 3))) rfl
theorem dL_law_2948 : decode cL_law 2948 = .ok (.lconst 1, 1) := dLx dLc_7 (i := 195) (q := (2948, (.lconst 1, 1))) rfl
theorem dL_law_2949 : decode cL_law 2949 = .ok (.goto 4, 3) := dLx dLc_7 (i := 196) (q := (2949, (.goto 4, 3))) rfl
theorem dL_law_2952 : decode cL_law 2952 = .ok (.lconst 0, 1) := dLx dLc_7 (i := 197) (q := (2952, (.lconst 0, 1))) rfl
theorem dL_law_2953 : decode cL_law 2953 = .ok (.lcmp, 1) := dLx dLc_7 (i := 198) (q := (2953, (.lcmp, 1))) rfl
theorem dL_law_2954 : decode cL_law 2954 = .ok (.ifCond .eq 5, 3) := dLx dLc_7 (i := 199) (q := (2954, (.ifCond .eq 5, 3))) rfl
theorem dL_law_2957 : decode cL_law 2957 = .ok (.iconst 0, 1) := dLx dLc_7 (i := 200) (q := (2957, (.iconst 0, 1))) rfl
theorem dL_law_2958 : decode cL_law 2958 = .ok (.ireturn, 1) := dLx dLc_7 (i := 201) (q := (2958, (.ireturn, 1))) rfl
theorem dL_law_2959 : decode cL_law 2959 = .ok (.goto 1468, 3) := dLx dLc_7 (i := 202) (q := (2959, (.goto 1468, 3))) rfl
theorem dL_law_2962 : decode cL_law 2962 = .ok (.aload_n 1, 1) := dLx dLc_7 (i := 203) (q := (2962, (.aload_n 1, 1))) rfl
theorem dL_law_2963 : decode cL_law 2963 = .ok (.aload_n 0, 1) := dLx dLc_7 (i := 204) (q := (2963, (.aload_n 0, 1))) rfl
theorem dL_law_2964 : decode cL_law 2964 = .ok (.iload 4, 2) := dLx dLc_7 (i := 205) (q := (2964, (.iload 4, 2))) rfl
theorem dL_law_2966 : decode cL_law 2966 = .ok (.iconst 1, 1) := dLx dLc_7 (i := 206) (q := (2966, (.iconst 1, 1))) rfl
theorem dL_law_2967 : decode cL_law 2967 = .ok (.iadd, 1) := dLx dLc_7 (i := 207) (q := (2967, (.iadd, 1))) rfl
theorem dL_law_2968 : decode cL_law 2968 = .ok (.iaload, 1) := dLx dLc_7 (i := 208) (q := (2968, (.iaload, 1))) rfl
theorem dL_law_2969 : decode cL_law 2969 = .ok (.aload_n 0, 1) := dLx dLc_7 (i := 209) (q := (2969, (.aload_n 0, 1))) rfl
theorem dL_law_2970 : decode cL_law 2970 = .ok (.iload 4, 2) := dLx dLc_7 (i := 210) (q := (2970, (.iload 4, 2))) rfl
theorem dL_law_2972 : decode cL_law 2972 = .ok (.iconst 2, 1) := dLx dLc_7 (i := 211) (q := (2972, (.iconst 2, 1))) rfl
theorem dL_law_2973 : decode cL_law 2973 = .ok (.iadd, 1) := dLx dLc_7 (i := 212) (q := (2973, (.iadd, 1))) rfl
theorem dL_law_2974 : decode cL_law 2974 = .ok (.iaload, 1) := dLx dLc_7 (i := 213) (q := (2974, (.iaload, 1))) rfl
theorem dL_law_2975 : decode cL_law 2975 = .ok (.aload_n 3, 1) := dLx dLc_7 (i := 214) (q := (2975, (.aload_n 3, 1))) rfl
theorem dL_law_2976 : decode cL_law 2976 = .ok (.invokestatic 337, 3) := dLx dLc_7 (i := 215) (q := (2976, (.invokestatic 337, 3))) rfl
theorem dL_law_2979 : decode cL_law 2979 = .ok (.istore 5, 2) := dLx dLc_7 (i := 216) (q := (2979, (.istore 5, 2))) rfl
theorem dL_law_2981 : decode cL_law 2981 = .ok (.aload_n 2, 1) := dLx dLc_7 (i := 217) (q := (2981, (.aload_n 2, 1))) rfl
theorem dL_law_2982 : decode cL_law 2982 = .ok (.aload_n 0, 1) := dLx dLc_7 (i := 218) (q := (2982, (.aload_n 0, 1))) rfl
theorem dL_law_2983 : decode cL_law 2983 = .ok (.iload 4, 2) := dLx dLc_7 (i := 219) (q := (2983, (.iload 4, 2))) rfl
theorem dL_law_2985 : decode cL_law 2985 = .ok (.iconst 1, 1) := dLx dLc_7 (i := 220) (q := (2985, (.iconst 1, 1))) rfl
theorem dL_law_2986 : decode cL_law 2986 = .ok (.iadd, 1) := dLx dLc_7 (i := 221) (q := (2986, (.iadd, 1))) rfl
theorem dL_law_2987 : decode cL_law 2987 = .ok (.iaload, 1) := dLx dLc_7 (i := 222) (q := (2987, (.iaload, 1))) rfl
theorem dL_law_2988 : decode cL_law 2988 = .ok (.aload_n 0, 1) := dLx dLc_7 (i := 223) (q := (2988, (.aload_n 0, 1))) rfl
theorem dL_law_2989 : decode cL_law 2989 = .ok (.iload 4, 2) := dLx dLc_7 (i := 224) (q := (2989, (.iload 4, 2))) rfl
theorem dL_law_2991 : decode cL_law 2991 = .ok (.iconst 2, 1) := dLx dLc_7 (i := 225) (q := (2991, (.iconst 2, 1))) rfl
theorem dL_law_2992 : decode cL_law 2992 = .ok (.iadd, 1) := dLx dLc_7 (i := 226) (q := (2992, (.iadd, 1))) rfl
theorem dL_law_2993 : decode cL_law 2993 = .ok (.iaload, 1) := dLx dLc_7 (i := 227) (q := (2993, (.iaload, 1))) rfl
theorem dL_law_2994 : decode cL_law 2994 = .ok (.invokevirtual 339, 3) := dLx dLc_7 (i := 228) (q := (2994, (.invokevirtual 339, 3))) rfl
theorem dL_law_2997 : decode cL_law 2997 = .ok (.istore 6, 2) := dLx dLc_7 (i := 229) (q := (2997, (.istore 6, 2))) rfl
theorem dL_law_2999 : decode cL_law 2999 = .ok (.aload_n 2, 1) := dLx dLc_7 (i := 230) (q := (2999, (.aload_n 2, 1))) rfl
theorem dL_law_3000 : decode cL_law 3000 = .ok (.invokevirtual 201, 3) := dLx dLc_7 (i := 231) (q := (3000, (.invokevirtual 201, 3))) rfl
theorem dL_law_3003 : decode cL_law 3003 = .ok (.iload 5, 2) := dLx dLc_7 (i := 232) (q := (3003, (.iload 5, 2))) rfl
theorem dL_law_3005 : decode cL_law 3005 = .ok (.if_icmp .eq 5, 3) := dLx dLc_7 (i := 233) (q := (3005, (.if_icmp .eq 5, 3))) rfl
theorem dL_law_3008 : decode cL_law 3008 = .ok (.iconst 0, 1) := dLx dLc_7 (i := 234) (q := (3008, (.iconst 0, 1))) rfl
theorem dL_law_3009 : decode cL_law 3009 = .ok (.ireturn, 1) := dLx dLc_7 (i := 235) (q := (3009, (.ireturn, 1))) rfl
theorem dL_law_3010 : decode cL_law 3010 = .ok (.iload 5, 2) := dLx dLc_7 (i := 236) (q := (3010, (.iload 5, 2))) rfl
theorem dL_law_3012 : decode cL_law 3012 = .ok (.ifCond .ne 15, 3) := dLx dLc_7 (i := 237) (q := (3012, (.ifCond .ne 15, 3))) rfl
theorem dL_law_3015 : decode cL_law 3015 = .ok (.aload_n 3, 1) := dLx dLc_7 (i := 238) (q := (3015, (.aload_n 3, 1))) rfl
theorem dL_law_3016 : decode cL_law 3016 = .ok (.iconst 0, 1) := dLx dLc_7 (i := 239) (q := (3016, (.iconst 0, 1))) rfl
theorem dL_law_3017 : decode cL_law 3017 = .ok (.laload, 1) := dLx dLc_7 (i := 240) (q := (3017, (.laload, 1))) rfl
theorem dL_law_3018 : decode cL_law 3018 = .ok (.iload 6, 2) := dLx dLc_7 (i := 241) (q := (3018, (.iload 6, 2))) rfl
theorem dL_law_3020 : decode cL_law 3020 = .ok (.i2l, 1) := dLx dLc_7 (i := 242) (q := (3020, (.i2l, 1))) rfl
theorem dL_law_3021 : decode cL_law 3021 = .ok (.lcmp, 1) := dLx dLc_7 (i := 243) (q := (3021, (.lcmp, 1))) rfl
theorem dL_law_3022 : decode cL_law 3022 = .ok (.ifCond .eq 5, 3) := dLx dLc_7 (i := 244) (q := (3022, (.ifCond .eq 5, 3))) rfl
theorem dL_law_3025 : decode cL_law 3025 = .ok (.iconst 0, 1) := dLx dLc_7 (i := 245) (q := (3025, (.iconst 0, 1))) rfl
theorem dL_law_3026 : decode cL_law 3026 = .ok (.ireturn, 1) := dLx dLc_7 (i := 246) (q := (3026, (.ireturn, 1))) rfl
theorem dL_law_3027 : decode cL_law 3027 = .ok (.goto 1400, 3) := dLx dLc_7 (i := 247) (q := (3027, (.goto 1400, 3))) rfl
theorem dL_law_3030 : decode cL_law 3030 = .ok (.aload_n 1, 1) := dLx dLc_7 (i := 248) (q := (3030, (.aload_n 1, 1))) rfl
theorem dL_law_3031 : decode cL_law 3031 = .ok (.aload_n 0, 1) := dLx dLc_7 (i := 249) (q := (3031, (.aload_n 0, 1))) rfl
theorem dL_law_3032 : decode cL_law 3032 = .ok (.iload 4, 2) := dLx dLc_7 (i := 250) (q := (3032, (.iload 4, 2))) rfl
theorem dL_law_3034 : decode cL_law 3034 = .ok (.iconst 1, 1) := dLx dLc_7 (i := 251) (q := (3034, (.iconst 1, 1))) rfl
theorem dL_law_3035 : decode cL_law 3035 = .ok (.iadd, 1) := dLx dLc_7 (i := 252) (q := (3035, (.iadd, 1))) rfl
theorem dL_law_3036 : decode cL_law 3036 = .ok (.iaload, 1) := dLx dLc_7 (i := 253) (q := (3036, (.iaload, 1))) rfl
theorem dL_law_3037 : decode cL_law 3037 = .ok (.aload_n 0, 1) := dLx dLc_7 (i := 254) (q := (3037, (.aload_n 0, 1))) rfl
theorem dL_law_3038 : decode cL_law 3038 = .ok (.iload 4, 2) := dLx dLc_7 (i := 255) (q := (3038, (.iload 4, 2))) rfl
theorem dL_law_3040 : decode cL_law 3040 = .ok (.iconst 2, 1) := dLx dLc_7 (i := 256) (q := (3040, (.iconst 2, 1))) rfl
theorem dL_law_3041 : decode cL_law 3041 = .ok (.iadd, 1) := dLx dLc_7 (i := 257) (q := (3041, (.iadd, 1))) rfl
theorem dL_law_3042 : decode cL_law 3042 = .ok (.iaload, 1) := dLx dLc_7 (i := 258) (q := (3042, (.iaload, 1))) rfl
theorem dL_law_3043 : decode cL_law 3043 = .ok (.aload_n 3, 1) := dLx dLc_7 (i := 259) (q := (3043, (.aload_n 3, 1))) rfl
theorem dL_law_3044 : decode cL_law 3044 = .ok (.invokestatic 340, 3) := dLx dLc_7 (i := 260) (q := (3044, (.invokestatic 340, 3))) rfl
theorem dL_law_3047 : decode cL_law 3047 = .ok (.istore 5, 2) := dLx dLc_7 (i := 261) (q := (3047, (.istore 5, 2))) rfl
theorem dL_law_3049 : decode cL_law 3049 = .ok (.aload_n 2, 1) := dLx dLc_7 (i := 262) (q := (3049, (.aload_n 2, 1))) rfl
theorem dL_law_3050 : decode cL_law 3050 = .ok (.aload_n 0, 1) := dLx dLc_7 (i := 263) (q := (3050, (.aload_n 0, 1))) rfl
theorem dL_law_3051 : decode cL_law 3051 = .ok (.iload 4, 2) := dLx dLc_7 (i := 264) (q := (3051, (.iload 4, 2))) rfl
theorem dL_law_3053 : decode cL_law 3053 = .ok (.iconst 1, 1) := dLx dLc_7 (i := 265) (q := (3053, (.iconst 1, 1))) rfl
theorem dL_law_3054 : decode cL_law 3054 = .ok (.iadd, 1) := dLx dLc_7 (i := 266) (q := (3054, (.iadd, 1))) rfl
theorem dL_law_3055 : decode cL_law 3055 = .ok (.iaload, 1) := dLx dLc_7 (i := 267) (q := (3055, (.iaload, 1))) rfl
theorem dL_law_3056 : decode cL_law 3056 = .ok (.aload_n 0, 1) := dLx dLc_7 (i := 268) (q := (3056, (.aload_n 0, 1))) rfl
theorem dL_law_3057 : decode cL_law 3057 = .ok (.iload 4, 2) := dLx dLc_7 (i := 269) (q := (3057, (.iload 4, 2))) rfl
theorem dL_law_3059 : decode cL_law 3059 = .ok (.iconst 2, 1) := dLx dLc_7 (i := 270) (q := (3059, (.iconst 2, 1))) rfl
theorem dL_law_3060 : decode cL_law 3060 = .ok (.iadd, 1) := dLx dLc_7 (i := 271) (q := (3060, (.iadd, 1))) rfl
theorem dL_law_3061 : decode cL_law 3061 = .ok (.iaload, 1) := dLx dLc_7 (i := 272) (q := (3061, (.iaload, 1))) rfl
theorem dL_law_3062 : decode cL_law 3062 = .ok (.invokevirtual 342, 3) := dLx dLc_7 (i := 273) (q := (3062, (.invokevirtual 342, 3))) rfl
theorem dL_law_3065 : decode cL_law 3065 = .ok (.istore 6, 2) := dLx dLc_7 (i := 274) (q := (3065, (.istore 6, 2))) rfl
theorem dL_law_3067 : decode cL_law 3067 = .ok (.aload_n 2, 1) := dLx dLc_7 (i := 275) (q := (3067, (.aload_n 2, 1))) rfl
theorem dL_law_3068 : decode cL_law 3068 = .ok (.invokevirtual 201, 3) := dLx dLc_7 (i := 276) (q := (3068, (.invokevirtual 201, 3))) rfl
theorem dL_law_3071 : decode cL_law 3071 = .ok (.iload 5, 2) := dLx dLc_7 (i := 277) (q := (3071, (.iload 5, 2))) rfl
theorem dL_law_3073 : decode cL_law 3073 = .ok (.if_icmp .eq 5, 3) := dLx dLc_7 (i := 278) (q := (3073, (.if_icmp .eq 5, 3))) rfl
theorem dL_law_3076 : decode cL_law 3076 = .ok (.iconst 0, 1) := dLx dLc_7 (i := 279) (q := (3076, (.iconst 0, 1))) rfl
theorem dL_law_3077 : decode cL_law 3077 = .ok (.ireturn, 1) := dLx dLc_7 (i := 280) (q := (3077, (.ireturn, 1))) rfl
theorem dL_law_3078 : decode cL_law 3078 = .ok (.iload 5, 2) := dLx dLc_7 (i := 281) (q := (3078, (.iload 5, 2))) rfl
theorem dL_law_3080 : decode cL_law 3080 = .ok (.ifCond .ne 15, 3) := dLx dLc_7 (i := 282) (q := (3080, (.ifCond .ne 15, 3))) rfl
theorem dL_law_3083 : decode cL_law 3083 = .ok (.aload_n 3, 1) := dLx dLc_7 (i := 283) (q := (3083, (.aload_n 3, 1))) rfl
theorem dL_law_3084 : decode cL_law 3084 = .ok (.iconst 0, 1) := dLx dLc_7 (i := 284) (q := (3084, (.iconst 0, 1))) rfl
theorem dL_law_3085 : decode cL_law 3085 = .ok (.laload, 1) := dLx dLc_7 (i := 285) (q := (3085, (.laload, 1))) rfl
theorem dL_law_3086 : decode cL_law 3086 = .ok (.iload 6, 2) := dLx dLc_7 (i := 286) (q := (3086, (.iload 6, 2))) rfl
theorem dL_law_3088 : decode cL_law 3088 = .ok (.i2l, 1) := dLx dLc_7 (i := 287) (q := (3088, (.i2l, 1))) rfl
theorem dL_law_3089 : decode cL_law 3089 = .ok (.lcmp, 1) := dLx dLc_7 (i := 288) (q := (3089, (.lcmp, 1))) rfl
theorem dL_law_3090 : decode cL_law 3090 = .ok (.ifCond .eq 5, 3) := dLx dLc_7 (i := 289) (q := (3090, (.ifCond .eq 5, 3))) rfl
theorem dL_law_3093 : decode cL_law 3093 = .ok (.iconst 0, 1) := dLx dLc_7 (i := 290) (q := (3093, (.iconst 0, 1))) rfl
theorem dL_law_3094 : decode cL_law 3094 = .ok (.ireturn, 1) := dLx dLc_7 (i := 291) (q := (3094, (.ireturn, 1))) rfl
theorem dL_law_3095 : decode cL_law 3095 = .ok (.goto 1332, 3) := dLx dLc_7 (i := 292) (q := (3095, (.goto 1332, 3))) rfl
theorem dL_law_3098 : decode cL_law 3098 = .ok (.aload_n 1, 1) := dLx dLc_7 (i := 293) (q := (3098, (.aload_n 1, 1))) rfl
theorem dL_law_3099 : decode cL_law 3099 = .ok (.aload_n 0, 1) := dLx dLc_7 (i := 294) (q := (3099, (.aload_n 0, 1))) rfl
theorem dL_law_3100 : decode cL_law 3100 = .ok (.iload 4, 2) := dLx dLc_7 (i := 295) (q := (3100, (.iload 4, 2))) rfl
theorem dL_law_3102 : decode cL_law 3102 = .ok (.iconst 1, 1) := dLx dLc_7 (i := 296) (q := (3102, (.iconst 1, 1))) rfl
theorem dL_law_3103 : decode cL_law 3103 = .ok (.iadd, 1) := dLx dLc_7 (i := 297) (q := (3103, (.iadd, 1))) rfl
theorem dL_law_3104 : decode cL_law 3104 = .ok (.iaload, 1) := dLx dLc_7 (i := 298) (q := (3104, (.iaload, 1))) rfl
theorem dL_law_3105 : decode cL_law 3105 = .ok (.aload_n 0, 1) := dLx dLc_7 (i := 299) (q := (3105, (.aload_n 0, 1))) rfl
def dLt_8 : List (Nat × (Instr × Nat)) := [(3106, (.iload 4, 2)), (3108, (.iconst 2, 1)), (3109, (.iadd, 1)), (3110, (.iaload, 1)), (3111, (.aload_n 3, 1)), (3112, (.invokestatic 343, 3)), (3115, (.istore 5, 2)), (3117, (.aload_n 2, 1)), (3118, (.aload_n 0, 1)), (3119, (.iload 4, 2)), (3121, (.iconst 1, 1)), (3122, (.iadd, 1)), (3123, (.iaload, 1)), (3124, (.aload_n 0, 1)), (3125, (.iload 4, 2)), (3127, (.iconst 2, 1)), (3128, (.iadd, 1)), (3129, (.iaload, 1)), (3130, (.invokevirtual 345, 3)), (3133, (.istore 6, 2)), (3135, (.aload_n 2, 1)), (3136, (.invokevirtual 201, 3)), (3139, (.iload 5, 2)), (3141, (.if_icmp .eq 5, 3)), (3144, (.iconst 0, 1)), (3145, (.ireturn, 1)), (3146, (.iload 5, 2)), (3148, (.ifCond .ne 15, 3)), (3151, (.aload_n 3, 1)), (3152, (.iconst 0, 1)), (3153, (.laload, 1)), (3154, (.iload 6, 2)), (3156, (.i2l, 1)), (3157, (.lcmp, 1)), (3158, (.ifCond .eq 5, 3)), (3161, (.iconst 0, 1)), (3162, (.ireturn, 1)), (3163, (.goto 1264, 3)), (3166, (.aload_n 1, 1)), (3167, (.aload_n 0, 1)), (3168, (.iload 4, 2)), (3170, (.iconst 1, 1)), (3171, (.iadd, 1)), (3172, (.iaload, 1)), (3173, (.aload_n 0, 1)), (3174, (.iload 4, 2)), (3176, (.iconst 2, 1)), (3177, (.iadd, 1)), (3178, (.iaload, 1)), (3179, (.aload_n 3, 1)), (3180, (.invokestatic 346, 3)), (3183, (.istore 5, 2)), (3185, (.aload_n 2, 1)), (3186, (.aload_n 0, 1)), (3187, (.iload 4, 2)), (3189, (.iconst 1, 1)), (3190, (.iadd, 1)), (3191, (.iaload, 1)), (3192, (.aload_n 0, 1)), (3193, (.iload 4, 2)), (3195, (.iconst 2, 1)), (3196, (.iadd, 1)), (3197, (.iaload, 1)), (3198, (.invokevirtual 348, 3)), (3201, (.istore 6, 2)), (3203, (.aload_n 2, 1)), (3204, (.invokevirtual 201, 3)), (3207, (.iload 5, 2)), (3209, (.if_icmp .eq 5, 3)), (3212, (.iconst 0, 1)), (3213, (.ireturn, 1)), (3214, (.iload 5, 2)), (3216, (.ifCond .ne 22, 3)), (3219, (.aload_n 3, 1)), (3220, (.iconst 0, 1)), (3221, (.laload, 1)), (3222, (.iload 6, 2)), (3224, (.ifCond .eq 7, 3)), (3227, (.lconst 1, 1)), (3228, (.goto 4, 3)), (3231, (.lconst 0, 1)), (3232, (.lcmp, 1)), (3233, (.ifCond .eq 5, 3)), (3236, (.iconst 0, 1)), (3237, (.ireturn, 1)), (3238, (.goto 1189, 3)), (3241, (.aload_n 1, 1)), (3242, (.aload_n 0, 1)), (3243, (.iload 4, 2)), (3245, (.iconst 1, 1)), (3246, (.iadd, 1)), (3247, (.iaload, 1)), (3248, (.aload_n 0, 1)), (3249, (.iload 4, 2)), (3251, (.iconst 2, 1)), (3252, (.iadd, 1)), (3253, (.iaload, 1)), (3254, (.aload_n 3, 1)), (3255, (.invokestatic 349, 3)), (3258, (.istore 5, 2)), (3260, (.aload_n 2, 1)), (3261, (.aload_n 0, 1)), (3262, (.iload 4, 2)), (3264, (.iconst 1, 1)), (3265, (.iadd, 1)), (3266, (.iaload, 1)), (3267, (.aload_n 0, 1)), (3268, (.iload 4, 2)), (3270, (.iconst 2, 1)), (3271, (.iadd, 1)), (3272, (.iaload, 1)), (3273, (.invokevirtual 351, 3)), (3276, (.istore 6, 2)), (3278, (.aload_n 2, 1)), (3279, (.invokevirtual 201, 3)), (3282, (.iload 5, 2)), (3284, (.if_icmp .eq 5, 3)), (3287, (.iconst 0, 1)), (3288, (.ireturn, 1)), (3289, (.iload 5, 2)), (3291, (.ifCond .ne 22, 3)), (3294, (.aload_n 3, 1)), (3295, (.iconst 0, 1)), (3296, (.laload, 1)), (3297, (.iload 6, 2)), (3299, (.ifCond .eq 7, 3)), (3302, (.lconst 1, 1)), (3303, (.goto 4, 3)), (3306, (.lconst 0, 1)), (3307, (.lcmp, 1)), (3308, (.ifCond .eq 5, 3)), (3311, (.iconst 0, 1)), (3312, (.ireturn, 1)), (3313, (.goto 1114, 3)), (3316, (.aload_n 1, 1)), (3317, (.aload_n 0, 1)), (3318, (.iload 4, 2)), (3320, (.iconst 1, 1)), (3321, (.iadd, 1)), (3322, (.iaload, 1)), (3323, (.aload_n 0, 1)), (3324, (.iload 4, 2)), (3326, (.iconst 2, 1)), (3327, (.iadd, 1)), (3328, (.iaload, 1)), (3329, (.aload_n 0, 1)), (3330, (.iload 4, 2)), (3332, (.iconst 3, 1)), (3333, (.iadd, 1)), (3334, (.iaload, 1)), (3335, (.aload_n 3, 1)), (3336, (.invokestatic 352, 3)), (3339, (.istore 5, 2)), (3341, (.aload_n 2, 1)), (3342, (.aload_n 0, 1)), (3343, (.iload 4, 2)), (3345, (.iconst 1, 1)), (3346, (.iadd, 1)), (3347, (.iaload, 1)), (3348, (.aload_n 0, 1)), (3349, (.iload 4, 2)), (3351, (.iconst 2, 1)), (3352, (.iadd, 1)), (3353, (.iaload, 1)), (3354, (.aload_n 0, 1)), (3355, (.iload 4, 2)), (3357, (.iconst 3, 1)), (3358, (.iadd, 1)), (3359, (.iaload, 1)), (3360, (.invokevirtual 354, 3)), (3363, (.istore 6, 2)), (3365, (.aload_n 2, 1)), (3366, (.invokevirtual 201, 3)), (3369, (.iload 5, 2)), (3371, (.if_icmp .eq 5, 3)), (3374, (.iconst 0, 1)), (3375, (.ireturn, 1)), (3376, (.iload 5, 2)), (3378, (.ifCond .ne 22, 3)), (3381, (.aload_n 3, 1)), (3382, (.iconst 0, 1)), (3383, (.laload, 1)), (3384, (.iload 6, 2)), (3386, (.ifCond .eq 7, 3)), (3389, (.lconst 1, 1)), (3390, (.goto 4, 3)), (3393, (.lconst 0, 1)), (3394, (.lcmp, 1)), (3395, (.ifCond .eq 5, 3)), (3398, (.iconst 0, 1)), (3399, (.ireturn, 1)), (3400, (.goto 1027, 3)), (3403, (.aload_n 1, 1)), (3404, (.aload_n 0, 1)), (3405, (.iload 4, 2)), (3407, (.iconst 1, 1)), (3408, (.iadd, 1)), (3409, (.iaload, 1)), (3410, (.aload_n 0, 1)), (3411, (.iload 4, 2)), (3413, (.iconst 2, 1)), (3414, (.iadd, 1)), (3415, (.iaload, 1)), (3416, (.aload_n 0, 1)), (3417, (.iload 4, 2)), (3419, (.iconst 3, 1)), (3420, (.iadd, 1)), (3421, (.iaload, 1)), (3422, (.aload_n 3, 1)), (3423, (.invokestatic 355, 3)), (3426, (.istore 5, 2)), (3428, (.aload_n 2, 1)), (3429, (.aload_n 0, 1)), (3430, (.iload 4, 2)), (3432, (.iconst 1, 1)), (3433, (.iadd, 1)), (3434, (.iaload, 1)), (3435, (.aload_n 0, 1)), (3436, (.iload 4, 2)), (3438, (.iconst 2, 1)), (3439, (.iadd, 1)), (3440, (.iaload, 1)), (3441, (.aload_n 0, 1)), (3442, (.iload 4, 2)), (3444, (.iconst 3, 1)), (3445, (.iadd, 1)), (3446, (.iaload, 1)), (3447, (.invokevirtual 357, 3)), (3450, (.istore 6, 2)), (3452, (.aload_n 2, 1)), (3453, (.invokevirtual 201, 3)), (3456, (.iload 5, 2)), (3458, (.if_icmp .eq 5, 3)), (3461, (.iconst 0, 1)), (3462, (.ireturn, 1)), (3463, (.iload 5, 2)), (3465, (.ifCond .ne 22, 3)), (3468, (.aload_n 3, 1)), (3469, (.iconst 0, 1)), (3470, (.laload, 1)), (3471, (.iload 6, 2)), (3473, (.ifCond .eq 7, 3)), (3476, (.lconst 1, 1)), (3477, (.goto 4, 3)), (3480, (.lconst 0, 1)), (3481, (.lcmp, 1)), (3482, (.ifCond .eq 5, 3)), (3485, (.iconst 0, 1)), (3486, (.ireturn, 1)), (3487, (.goto 940, 3)), (3490, (.aload_n 1, 1)), (3491, (.aload_n 0, 1)), (3492, (.iload 4, 2)), (3494, (.iconst 1, 1)), (3495, (.iadd, 1)), (3496, (.iaload, 1)), (3497, (.aload_n 0, 1)), (3498, (.iload 4, 2)), (3500, (.iconst 2, 1)), (3501, (.iadd, 1)), (3502, (.iaload, 1)), (3503, (.aload_n 3, 1)), (3504, (.invokestatic 358, 3)), (3507, (.istore 5, 2)), (3509, (.aload_n 2, 1)), (3510, (.aload_n 0, 1)), (3511, (.iload 4, 2)), (3513, (.iconst 1, 1)), (3514, (.iadd, 1)), (3515, (.iaload, 1)), (3516, (.aload_n 0, 1)), (3517, (.iload 4, 2)), (3519, (.iconst 2, 1)), (3520, (.iadd, 1)), (3521, (.iaload, 1)), (3522, (.invokevirtual 360, 3)), (3525, (.istore 6, 2)), (3527, (.aload_n 2, 1)), (3528, (.invokevirtual 201, 3)), (3531, (.iload 5, 2)), (3533, (.if_icmp .eq 5, 3)), (3536, (.iconst 0, 1)), (3537, (.ireturn, 1)), (3538, (.iload 5, 2)), (3540, (.ifCond .ne 15, 3)), (3543, (.aload_n 3, 1)), (3544, (.iconst 0, 1)), (3545, (.laload, 1)), (3546, (.iload 6, 2)), (3548, (.i2l, 1)), (3549, (.lcmp, 1)), (3550, (.ifCond .eq 5, 3)), (3553, (.iconst 0, 1)), (3554, (.ireturn, 1)), (3555, (.goto 872, 3)), (3558, (.aload_n 1, 1)), (3559, (.aload_n 0, 1)), (3560, (.iload 4, 2)), (3562, (.iconst 1, 1)), (3563, (.iadd, 1))]
set_option maxRecDepth 100000 in
theorem dLc_8 : ldg (cL_law.data.toList.drop 3106) 0 3106 dLt_8 = true := by decide +kernel
theorem dL_law_3106 : decode cL_law 3106 = .ok (.iload 4, 2) := dLx dLc_8 (i := 0) (q := (3106, (.iload 4, 2))) rfl
theorem dL_law_3108 : decode cL_law 3108 = .ok (.iconst 2, 1) := dLx dLc_8 (i := 1) (q := (3108, (.iconst 2, 1))) rfl
theorem dL_law_3109 : decode cL_law 3109 = .ok (.iadd, 1) := dLx dLc_8 (i := 2) (q := (3109, (.iadd, 1))) rfl
theorem dL_law_3110 : decode cL_law 3110 = .ok (.iaload, 1) := dLx dLc_8 (i := 3) (q := (3110, (.iaload, 1))) rfl
theorem dL_law_3111 : decode cL_law 3111 = .ok (.aload_n 3, 1) := dLx dLc_8 (i := 4) (q := (3111, (.aload_n 3, 1))) rfl
theorem dL_law_3112 : decode cL_law 3112 = .ok (.invokestatic 343, 3) := dLx dLc_8 (i := 5) (q := (3112, (.invokestatic 343, 3))) rfl
theorem dL_law_3115 : decode cL_law 3115 = .ok (.istore 5, 2) := dLx dLc_8 (i := 6) (q := (3115, (.istore 5, 2))) rfl
theorem dL_law_3117 : decode cL_law 3117 = .ok (.aload_n 2, 1) := dLx dLc_8 (i := 7) (q := (3117, (.aload_n 2, 1))) rfl
theorem dL_law_3118 : decode cL_law 3118 = .ok (.aload_n 0, 1) := dLx dLc_8 (i := 8) (q := (3118, (.aload_n 0, 1))) rfl
theorem dL_law_3119 : decode cL_law 3119 = .ok (.iload 4, 2) := dLx dLc_8 (i := 9) (q := (3119, (.iload 4, 2))) rfl
theorem dL_law_3121 : decode cL_law 3121 = .ok (.iconst 1, 1) := dLx dLc_8 (i := 10) (q := (3121, (.iconst 1, 1))) rfl
theorem dL_law_3122 : decode cL_law 3122 = .ok (.iadd, 1) := dLx dLc_8 (i := 11) (q := (3122, (.iadd, 1))) rfl
theorem dL_law_3123 : decode cL_law 3123 = .ok (.iaload, 1) := dLx dLc_8 (i := 12) (q := (3123, (.iaload, 1))) rfl
theorem dL_law_3124 : decode cL_law 3124 = .ok (.aload_n 0, 1) := dLx dLc_8 (i := 13) (q := (3124, (.aload_n 0, 1))) rfl
theorem dL_law_3125 : decode cL_law 3125 = .ok (.iload 4, 2) := dLx dLc_8 (i := 14) (q := (3125, (.iload 4, 2))) rfl
theorem dL_law_3127 : decode cL_law 3127 = .ok (.iconst 2, 1) := dLx dLc_8 (i := 15) (q := (3127, (.iconst 2, 1))) rfl
theorem dL_law_3128 : decode cL_law 3128 = .ok (.iadd, 1) := dLx dLc_8 (i := 16) (q := (3128, (.iadd, 1))) rfl
theorem dL_law_3129 : decode cL_law 3129 = .ok (.iaload, 1) := dLx dLc_8 (i := 17) (q := (3129, (.iaload, 1))) rfl
theorem dL_law_3130 : decode cL_law 3130 = .ok (.invokevirtual 345, 3) := dLx dLc_8 (i := 18) (q := (3130, (.invokevirtual 345, 3))) rfl
theorem dL_law_3133 : decode cL_law 3133 = .ok (.istore 6, 2) := dLx dLc_8 (i := 19) (q := (3133, (.istore 6, 2))) rfl
theorem dL_law_3135 : decode cL_law 3135 = .ok (.aload_n 2, 1) := dLx dLc_8 (i := 20) (q := (3135, (.aload_n 2, 1))) rfl
theorem dL_law_3136 : decode cL_law 3136 = .ok (.invokevirtual 201, 3) := dLx dLc_8 (i := 21) (q := (3136, (.invokevirtual 201, 3))) rfl
theorem dL_law_3139 : decode cL_law 3139 = .ok (.iload 5, 2) := dLx dLc_8 (i := 22) (q := (3139, (.iload 5, 2))) rfl
theorem dL_law_3141 : decode cL_law 3141 = .ok (.if_icmp .eq 5, 3) := dLx dLc_8 (i := 23) (q := (3141, (.if_icmp .eq 5, 3))) rfl
theorem dL_law_3144 : decode cL_law 3144 = .ok (.iconst 0, 1) := dLx dLc_8 (i := 24) (q := (3144, (.iconst 0, 1))) rfl
theorem dL_law_3145 : decode cL_law 3145 = .ok (.ireturn, 1) := dLx dLc_8 (i := 25) (q := (3145, (.ireturn, 1))) rfl
theorem dL_law_3146 : decode cL_law 3146 = .ok (.iload 5, 2) := dLx dLc_8 (i := 26) (q := (3146, (.iload 5, 2))) rfl
theorem dL_law_3148 : decode cL_law 3148 = .ok (.ifCond .ne 15, 3) := dLx dLc_8 (i := 27) (q := (3148, (.ifCond .ne 15, 3))) rfl
theorem dL_law_3151 : decode cL_law 3151 = .ok (.aload_n 3, 1) := dLx dLc_8 (i := 28) (q := (3151, (.aload_n 3, 1))) rfl
theorem dL_law_3152 : decode cL_law 3152 = .ok (.iconst 0, 1) := dLx dLc_8 (i := 29) (q := (3152, (.iconst 0, 1))) rfl
theorem dL_law_3153 : decode cL_law 3153 = .ok (.laload, 1) := dLx dLc_8 (i := 30) (q := (3153, (.laload, 1))) rfl
theorem dL_law_3154 : decode cL_law 3154 = .ok (.iload 6, 2) := dLx dLc_8 (i := 31) (q := (3154, (.iload 6, 2))) rfl
theorem dL_law_3156 : decode cL_law 3156 = .ok (.i2l, 1) := dLx dLc_8 (i := 32) (q := (3156, (.i2l, 1))) rfl
theorem dL_law_3157 : decode cL_law 3157 = .ok (.lcmp, 1) := dLx dLc_8 (i := 33) (q := (3157, (.lcmp, 1))) rfl
theorem dL_law_3158 : decode cL_law 3158 = .ok (.ifCond .eq 5, 3) := dLx dLc_8 (i := 34) (q := (3158, (.ifCond .eq 5, 3))) rfl
theorem dL_law_3161 : decode cL_law 3161 = .ok (.iconst 0, 1) := dLx dLc_8 (i := 35) (q := (3161, (.iconst 0, 1))) rfl
theorem dL_law_3162 : decode cL_law 3162 = .ok (.ireturn, 1) := dLx dLc_8 (i := 36) (q := (3162, (.ireturn, 1))) rfl
theorem dL_law_3163 : decode cL_law 3163 = .ok (.goto 1264, 3) := dLx dLc_8 (i := 37) (q := (3163, (.goto 1264, 3))) rfl
theorem dL_law_3166 : decode cL_law 3166 = .ok (.aload_n 1, 1) := dLx dLc_8 (i := 38) (q := (3166, (.aload_n 1, 1))) rfl
theorem dL_law_3167 : decode cL_law 3167 = .ok (.aload_n 0, 1) := dLx dLc_8 (i := 39) (q := (3167, (.aload_n 0, 1))) rfl
theorem dL_law_3168 : decode cL_law 3168 = .ok (.iload 4, 2) := dLx dLc_8 (i := 40) (q := (3168, (.iload 4, 2))) rfl
theorem dL_law_3170 : decode cL_law 3170 = .ok (.iconst 1, 1) := dLx dLc_8 (i := 41) (q := (3170, (.iconst 1, 1))) rfl
theorem dL_law_3171 : decode cL_law 3171 = .ok (.iadd, 1) := dLx dLc_8 (i := 42) (q := (3171, (.iadd, 1))) rfl
theorem dL_law_3172 : decode cL_law 3172 = .ok (.iaload, 1) := dLx dLc_8 (i := 43) (q := (3172, (.iaload, 1))) rfl
theorem dL_law_3173 : decode cL_law 3173 = .ok (.aload_n 0, 1) := dLx dLc_8 (i := 44) (q := (3173, (.aload_n 0, 1))) rfl
theorem dL_law_3174 : decode cL_law 3174 = .ok (.iload 4, 2) := dLx dLc_8 (i := 45) (q := (3174, (.iload 4, 2))) rfl
theorem dL_law_3176 : decode cL_law 3176 = .ok (.iconst 2, 1) := dLx dLc_8 (i := 46) (q := (3176, (.iconst 2, 1))) rfl
theorem dL_law_3177 : decode cL_law 3177 = .ok (.iadd, 1) := dLx dLc_8 (i := 47) (q := (3177, (.iadd, 1))) rfl
theorem dL_law_3178 : decode cL_law 3178 = .ok (.iaload, 1) := dLx dLc_8 (i := 48) (q := (3178, (.iaload, 1))) rfl
theorem dL_law_3179 : decode cL_law 3179 = .ok (.aload_n 3, 1) := dLx dLc_8 (i := 49) (q := (3179, (.aload_n 3, 1))) rfl
theorem dL_law_3180 : decode cL_law 3180 = .ok (.invokestatic 346, 3) := dLx dLc_8 (i := 50) (q := (3180, (.invokestatic 346, 3))) rfl
theorem dL_law_3183 : decode cL_law 3183 = .ok (.istore 5, 2) := dLx dLc_8 (i := 51) (q := (3183, (.istore 5, 2))) rfl
theorem dL_law_3185 : decode cL_law 3185 = .ok (.aload_n 2, 1) := dLx dLc_8 (i := 52) (q := (3185, (.aload_n 2, 1))) rfl
theorem dL_law_3186 : decode cL_law 3186 = .ok (.aload_n 0, 1) := dLx dLc_8 (i := 53) (q := (3186, (.aload_n 0, 1))) rfl
theorem dL_law_3187 : decode cL_law 3187 = .ok (.iload 4, 2) := dLx dLc_8 (i := 54) (q := (3187, (.iload 4, 2))) rfl
theorem dL_law_3189 : decode cL_law 3189 = .ok (.iconst 1, 1) := dLx dLc_8 (i := 55) (q := (3189, (.iconst 1, 1))) rfl
theorem dL_law_3190 : decode cL_law 3190 = .ok (.iadd, 1) := dLx dLc_8 (i := 56) (q := (3190, (.iadd, 1))) rfl
theorem dL_law_3191 : decode cL_law 3191 = .ok (.iaload, 1) := dLx dLc_8 (i := 57) (q := (3191, (.iaload, 1))) rfl
theorem dL_law_3192 : decode cL_law 3192 = .ok (.aload_n 0, 1) := dLx dLc_8 (i := 58) (q := (3192, (.aload_n 0, 1))) rfl
theorem dL_law_3193 : decode cL_law 3193 = .ok (.iload 4, 2) := dLx dLc_8 (i := 59) (q := (3193, (.iload 4, 2))) rfl
theorem dL_law_3195 : decode cL_law 3195 = .ok (.iconst 2, 1) := dLx dLc_8 (i := 60) (q := (3195, (.iconst 2, 1))) rfl
theorem dL_law_3196 : decode cL_law 3196 = .ok (.iadd, 1) := dLx dLc_8 (i := 61) (q := (3196, (.iadd, 1))) rfl
theorem dL_law_3197 : decode cL_law 3197 = .ok (.iaload, 1) := dLx dLc_8 (i := 62) (q := (3197, (.iaload, 1))) rfl
theorem dL_law_3198 : decode cL_law 3198 = .ok (.invokevirtual 348, 3) := dLx dLc_8 (i := 63) (q := (3198, (.invokevirtual 348, 3))) rfl
theorem dL_law_3201 : decode cL_law 3201 = .ok (.istore 6, 2) := dLx dLc_8 (i := 64) (q := (3201, (.istore 6, 2))) rfl
theorem dL_law_3203 : decode cL_law 3203 = .ok (.aload_n 2, 1) := dLx dLc_8 (i := 65) (q := (3203, (.aload_n 2, 1))) rfl
theorem dL_law_3204 : decode cL_law 3204 = .ok (.invokevirtual 201, 3) := dLx dLc_8 (i := 66) (q := (3204, (.invokevirtual 201, 3))) rfl
theorem dL_law_3207 : decode cL_law 3207 = .ok (.iload 5, 2) := dLx dLc_8 (i := 67) (q := (3207, (.iload 5, 2))) rfl
theorem dL_law_3209 : decode cL_law 3209 = .ok (.if_icmp .eq 5, 3) := dLx dLc_8 (i := 68) (q := (3209, (.if_icmp .eq 5, 3))) rfl
theorem dL_law_3212 : decode cL_law 3212 = .ok (.iconst 0, 1) := dLx dLc_8 (i := 69) (q := (3212, (.iconst 0, 1))) rfl
theorem dL_law_3213 : decode cL_law 3213 = .ok (.ireturn, 1) := dLx dLc_8 (i := 70) (q := (3213, (.ireturn, 1))) rfl
theorem dL_law_3214 : decode cL_law 3214 = .ok (.iload 5, 2) := dLx dLc_8 (i := 71) (q := (3214, (.iload 5, 2))) rfl
theorem dL_law_3216 : decode cL_law 3216 = .ok (.ifCond .ne 22, 3) := dLx dLc_8 (i := 72) (q := (3216, (.ifCond .ne 22, 3))) rfl
theorem dL_law_3219 : decode cL_law 3219 = .ok (.aload_n 3, 1) := dLx dLc_8 (i := 73) (q := (3219, (.aload_n 3, 1))) rfl
theorem dL_law_3220 : decode cL_law 3220 = .ok (.iconst 0, 1) := dLx dLc_8 (i := 74) (q := (3220, (.iconst 0, 1))) rfl
theorem dL_law_3221 : decode cL_law 3221 = .ok (.laload, 1) := dLx dLc_8 (i := 75) (q := (3221, (.laload, 1))) rfl
theorem dL_law_3222 : decode cL_law 3222 = .ok (.iload 6, 2) := dLx dLc_8 (i := 76) (q := (3222, (.iload 6, 2))) rfl
theorem dL_law_3224 : decode cL_law 3224 = .ok (.ifCond .eq 7, 3) := dLx dLc_8 (i := 77) (q := (3224, (.ifCond .eq 7, 3))) rfl
theorem dL_law_3227 : decode cL_law 3227 = .ok (.lconst 1, 1) := dLx dLc_8 (i := 78) (q := (3227, (.lconst 1, 1))) rfl
theorem dL_law_3228 : decode cL_law 3228 = .ok (.goto 4, 3) := dLx dLc_8 (i := 79) (q := (3228, (.goto 4, 3))) rfl
theorem dL_law_3231 : decode cL_law 3231 = .ok (.lconst 0, 1) := dLx dLc_8 (i := 80) (q := (3231, (.lconst 0, 1))) rfl
theorem dL_law_3232 : decode cL_law 3232 = .ok (.lcmp, 1) := dLx dLc_8 (i := 81) (q := (3232, (.lcmp, 1))) rfl
theorem dL_law_3233 : decode cL_law 3233 = .ok (.ifCond .eq 5, 3) := dLx dLc_8 (i := 82) (q := (3233, (.ifCond .eq 5, 3))) rfl
theorem dL_law_3236 : decode cL_law 3236 = .ok (.iconst 0, 1) := dLx dLc_8 (i := 83) (q := (3236, (.iconst 0, 1))) rfl
theorem dL_law_3237 : decode cL_law 3237 = .ok (.ireturn, 1) := dLx dLc_8 (i := 84) (q := (3237, (.ireturn, 1))) rfl
theorem dL_law_3238 : decode cL_law 3238 = .ok (.goto 1189, 3) := dLx dLc_8 (i := 85) (q := (3238, (.goto 1189, 3))) rfl
theorem dL_law_3241 : decode cL_law 3241 = .ok (.aload_n 1, 1) := dLx dLc_8 (i := 86) (q := (3241, (.aload_n 1, 1))) rfl
theorem dL_law_3242 : decode cL_law 3242 = .ok (.aload_n 0, 1) := dLx dLc_8 (i := 87) (q := (3242, (.aload_n 0, 1))) rfl
theorem dL_law_3243 : decode cL_law 3243 = .ok (.iload 4, 2) := dLx dLc_8 (i := 88) (q := (3243, (.iload 4, 2))) rfl
theorem dL_law_3245 : decode cL_law 3245 = .ok (.iconst 1, 1) := dLx dLc_8 (i := 89) (q := (3245, (.iconst 1, 1))) rfl
theorem dL_law_3246 : decode cL_law 3246 = .ok (.iadd, 1) := dLx dLc_8 (i := 90) (q := (3246, (.iadd, 1))) rfl
theorem dL_law_3247 : decode cL_law 3247 = .ok (.iaload, 1) := dLx dLc_8 (i := 91) (q := (3247, (.iaload, 1))) rfl
theorem dL_law_3248 : decode cL_law 3248 = .ok (.aload_n 0, 1) := dLx dLc_8 (i := 92) (q := (3248, (.aload_n 0, 1))) rfl
theorem dL_law_3249 : decode cL_law 3249 = .ok (.iload 4, 2) := dLx dLc_8 (i := 93) (q := (3249, (.iload 4, 2))) rfl
theorem dL_law_3251 : decode cL_law 3251 = .ok (.iconst 2, 1) := dLx dLc_8 (i := 94) (q := (3251, (.iconst 2, 1))) rfl
theorem dL_law_3252 : decode cL_law 3252 = .ok (.iadd, 1) := dLx dLc_8 (i := 95) (q := (3252, (.iadd, 1))) rfl
theorem dL_law_3253 : decode cL_law 3253 = .ok (.iaload, 1) := dLx dLc_8 (i := 96) (q := (3253, (.iaload, 1))) rfl
theorem dL_law_3254 : decode cL_law 3254 = .ok (.aload_n 3, 1) := dLx dLc_8 (i := 97) (q := (3254, (.aload_n 3, 1))) rfl
theorem dL_law_3255 : decode cL_law 3255 = .ok (.invokestatic 349, 3) := dLx dLc_8 (i := 98) (q := (3255, (.invokestatic 349, 3))) rfl
theorem dL_law_3258 : decode cL_law 3258 = .ok (.istore 5, 2) := dLx dLc_8 (i := 99) (q := (3258, (.istore 5, 2))) rfl
theorem dL_law_3260 : decode cL_law 3260 = .ok (.aload_n 2, 1) := dLx dLc_8 (i := 100) (q := (3260, (.aload_n 2, 1))) rfl
theorem dL_law_3261 : decode cL_law 3261 = .ok (.aload_n 0, 1) := dLx dLc_8 (i := 101) (q := (3261, (.aload_n 0, 1))) rfl
theorem dL_law_3262 : decode cL_law 3262 = .ok (.iload 4, 2) := dLx dLc_8 (i := 102) (q := (3262, (.iload 4, 2))) rfl
theorem dL_law_3264 : decode cL_law 3264 = .ok (.iconst 1, 1) := dLx dLc_8 (i := 103) (q := (3264, (.iconst 1, 1))) rfl
theorem dL_law_3265 : decode cL_law 3265 = .ok (.iadd, 1) := dLx dLc_8 (i := 104) (q := (3265, (.iadd, 1))) rfl
theorem dL_law_3266 : decode cL_law 3266 = .ok (.iaload, 1) := dLx dLc_8 (i := 105) (q := (3266, (.iaload, 1))) rfl
theorem dL_law_3267 : decode cL_law 3267 = .ok (.aload_n 0, 1) := dLx dLc_8 (i := 106) (q := (3267, (.aload_n 0, 1))) rfl
theorem dL_law_3268 : decode cL_law 3268 = .ok (.iload 4, 2) := dLx dLc_8 (i := 107) (q := (3268, (.iload 4, 2))) rfl
theorem dL_law_3270 : decode cL_law 3270 = .ok (.iconst 2, 1) := dLx dLc_8 (i := 108) (q := (3270, (.iconst 2, 1))) rfl
theorem dL_law_3271 : decode cL_law 3271 = .ok (.iadd, 1) := dLx dLc_8 (i := 109) (q := (3271, (.iadd, 1))) rfl
theorem dL_law_3272 : decode cL_law 3272 = .ok (.iaload, 1) := dLx dLc_8 (i := 110) (q := (3272, (.iaload, 1))) rfl
theorem dL_law_3273 : decode cL_law 3273 = .ok (.invokevirtual 351, 3) := dLx dLc_8 (i := 111) (q := (3273, (.invokevirtual 351, 3))) rfl
theorem dL_law_3276 : decode cL_law 3276 = .ok (.istore 6, 2) := dLx dLc_8 (i := 112) (q := (3276, (.istore 6, 2))) rfl
theorem dL_law_3278 : decode cL_law 3278 = .ok (.aload_n 2, 1) := dLx dLc_8 (i := 113) (q := (3278, (.aload_n 2, 1))) rfl
theorem dL_law_3279 : decode cL_law 3279 = .ok (.invokevirtual 201, 3) := dLx dLc_8 (i := 114) (q := (3279, (.invokevirtual 201, 3))) rfl
theorem dL_law_3282 : decode cL_law 3282 = .ok (.iload 5, 2) := dLx dLc_8 (i := 115) (q := (3282, (.iload 5, 2))) rfl
theorem dL_law_3284 : decode cL_law 3284 = .ok (.if_icmp .eq 5, 3) := dLx dLc_8 (i := 116) (q := (3284, (.if_icmp .eq 5, 3))) rfl
theorem dL_law_3287 : decode cL_law 3287 = .ok (.iconst 0, 1) := dLx dLc_8 (i := 117) (q := (3287, (.iconst 0, 1))) rfl
theorem dL_law_3288 : decode cL_law 3288 = .ok (.ireturn, 1) := dLx dLc_8 (i := 118) (q := (3288, (.ireturn, 1))) rfl
theorem dL_law_3289 : decode cL_law 3289 = .ok (.iload 5, 2) := dLx dLc_8 (i := 119) (q := (3289, (.iload 5, 2))) rfl
theorem dL_law_3291 : decode cL_law 3291 = .ok (.ifCond .ne 22, 3) := dLx dLc_8 (i := 120) (q := (3291, (.ifCond .ne 22, 3))) rfl
theorem dL_law_3294 : decode cL_law 3294 = .ok (.aload_n 3, 1) := dLx dLc_8 (i := 121) (q := (3294, (.aload_n 3, 1))) rfl
theorem dL_law_3295 : decode cL_law 3295 = .ok (.iconst 0, 1) := dLx dLc_8 (i := 122) (q := (3295, (.iconst 0, 1))) rfl
theorem dL_law_3296 : decode cL_law 3296 = .ok (.laload, 1) := dLx dLc_8 (i := 123) (q := (3296, (.laload, 1))) rfl
theorem dL_law_3297 : decode cL_law 3297 = .ok (.iload 6, 2) := dLx dLc_8 (i := 124) (q := (3297, (.iload 6, 2))) rfl
theorem dL_law_3299 : decode cL_law 3299 = .ok (.ifCond .eq 7, 3) := dLx dLc_8 (i := 125) (q := (3299, (.ifCond .eq 7, 3))) rfl
theorem dL_law_3302 : decode cL_law 3302 = .ok (.lconst 1, 1) := dLx dLc_8 (i := 126) (q := (3302, (.lconst 1, 1))) rfl
theorem dL_law_3303 : decode cL_law 3303 = .ok (.goto 4, 3) := dLx dLc_8 (i := 127) (q := (3303, (.goto 4, 3))) rfl
theorem dL_law_3306 : decode cL_law 3306 = .ok (.lconst 0, 1) := dLx dLc_8 (i := 128) (q := (3306, (.lconst 0, 1))) rfl
theorem dL_law_3307 : decode cL_law 3307 = .ok (.lcmp, 1) := dLx dLc_8 (i := 129) (q := (3307, (.lcmp, 1))) rfl
theorem dL_law_3308 : decode cL_law 3308 = .ok (.ifCond .eq 5, 3) := dLx dLc_8 (i := 130) (q := (3308, (.ifCond .eq 5, 3))) rfl
theorem dL_law_3311 : decode cL_law 3311 = .ok (.iconst 0, 1) := dLx dLc_8 (i := 131) (q := (3311, (.iconst 0, 1))) rfl
theorem dL_law_3312 : decode cL_law 3312 = .ok (.ireturn, 1) := dLx dLc_8 (i := 132) (q := (3312, (.ireturn, 1))) rfl
theorem dL_law_3313 : decode cL_law 3313 = .ok (.goto 1114, 3) := dLx dLc_8 (i := 133) (q := (3313, (.goto 1114, 3))) rfl
theorem dL_law_3316 : decode cL_law 3316 = .ok (.aload_n 1, 1) := dLx dLc_8 (i := 134) (q := (3316, (.aload_n 1, 1))) rfl
theorem dL_law_3317 : decode cL_law 3317 = .ok (.aload_n 0, 1) := dLx dLc_8 (i := 135) (q := (3317, (.aload_n 0, 1))) rfl
theorem dL_law_3318 : decode cL_law 3318 = .ok (.iload 4, 2) := dLx dLc_8 (i := 136) (q := (3318, (.iload 4, 2))) rfl
theorem dL_law_3320 : decode cL_law 3320 = .ok (.iconst 1, 1) := dLx dLc_8 (i := 137) (q := (3320, (.iconst 1, 1))) rfl
theorem dL_law_3321 : decode cL_law 3321 = .ok (.iadd, 1) := dLx dLc_8 (i := 138) (q := (3321, (.iadd, 1))) rfl
theorem dL_law_3322 : decode cL_law 3322 = .ok (.iaload, 1) := dLx dLc_8 (i := 139) (q := (3322, (.iaload, 1))) rfl
theorem dL_law_3323 : decode cL_law 3323 = .ok (.aload_n 0, 1) := dLx dLc_8 (i := 140) (q := (3323, (.aload_n 0, 1))) rfl
theorem dL_law_3324 : decode cL_law 3324 = .ok (.iload 4, 2) := dLx dLc_8 (i := 141) (q := (3324, (.iload 4, 2))) rfl
theorem dL_law_3326 : decode cL_law 3326 = .ok (.iconst 2, 1) := dLx dLc_8 (i := 142) (q := (3326, (.iconst 2, 1))) rfl
theorem dL_law_3327 : decode cL_law 3327 = .ok (.iadd, 1) := dLx dLc_8 (i := 143) (q := (3327, (.iadd, 1))) rfl
theorem dL_law_3328 : decode cL_law 3328 = .ok (.iaload, 1) := dLx dLc_8 (i := 144) (q := (3328, (.iaload, 1))) rfl
theorem dL_law_3329 : decode cL_law 3329 = .ok (.aload_n 0, 1) := dLx dLc_8 (i := 145) (q := (3329, (.aload_n 0, 1))) rfl
theorem dL_law_3330 : decode cL_law 3330 = .ok (.iload 4, 2) := dLx dLc_8 (i := 146) (q := (3330, (.iload 4, 2))) rfl
theorem dL_law_3332 : decode cL_law 3332 = .ok (.iconst 3, 1) := dLx dLc_8 (i := 147) (q := (3332, (.iconst 3, 1))) rfl
theorem dL_law_3333 : decode cL_law 3333 = .ok (.iadd, 1) := dLx dLc_8 (i := 148) (q := (3333, (.iadd, 1))) rfl
theorem dL_law_3334 : decode cL_law 3334 = .ok (.iaload, 1) := dLx dLc_8 (i := 149) (q := (3334, (.iaload, 1))) rfl
theorem dL_law_3335 : decode cL_law 3335 = .ok (.aload_n 3, 1) := dLx dLc_8 (i := 150) (q := (3335, (.aload_n 3, 1))) rfl
theorem dL_law_3336 : decode cL_law 3336 = .ok (.invokestatic 352, 3) := dLx dLc_8 (i := 151) (q := (3336, (.invokestatic 352, 3))) rfl
theorem dL_law_3339 : decode cL_law 3339 = .ok (.istore 5, 2) := dLx dLc_8 (i := 152) (q := (3339, (.istore 5, 2))) rfl
theorem dL_law_3341 : decode cL_law 3341 = .ok (.aload_n 2, 1) := dLx dLc_8 (i := 153) (q := (3341, (.aload_n 2, 1))) rfl
theorem dL_law_3342 : decode cL_law 3342 = .ok (.aload_n 0, 1) := dLx dLc_8 (i := 154) (q := (3342, (.aload_n 0, 1))) rfl
theorem dL_law_3343 : decode cL_law 3343 = .ok (.iload 4, 2) := dLx dLc_8 (i := 155) (q := (3343, (.iload 4, 2))) rfl
theorem dL_law_3345 : decode cL_law 3345 = .ok (.iconst 1, 1) := dLx dLc_8 (i := 156) (q := (3345, (.iconst 1, 1))) rfl
theorem dL_law_3346 : decode cL_law 3346 = .ok (.iadd, 1) := dLx dLc_8 (i := 157) (q := (3346, (.iadd, 1))) rfl
theorem dL_law_3347 : decode cL_law 3347 = .ok (.iaload, 1) := dLx dLc_8 (i := 158) (q := (3347, (.iaload, 1))) rfl
theorem dL_law_3348 : decode cL_law 3348 = .ok (.aload_n 0, 1) := dLx dLc_8 (i := 159) (q := (3348, (.aload_n 0, 1))) rfl
theorem dL_law_3349 : decode cL_law 3349 = .ok (.iload 4, 2) := dLx dLc_8 (i := 160) (q := (3349, (.iload 4, 2))) rfl
theorem dL_law_3351 : decode cL_law 3351 = .ok (.iconst 2, 1) := dLx dLc_8 (i := 161) (q := (3351, (.iconst 2, 1))) rfl
theorem dL_law_3352 : decode cL_law 3352 = .ok (.iadd, 1) := dLx dLc_8 (i := 162) (q := (3352, (.iadd, 1))) rfl
theorem dL_law_3353 : decode cL_law 3353 = .ok (.iaload, 1) := dLx dLc_8 (i := 163) (q := (3353, (.iaload, 1))) rfl
theorem dL_law_3354 : decode cL_law 3354 = .ok (.aload_n 0, 1) := dLx dLc_8 (i := 164) (q := (3354, (.aload_n 0, 1))) rfl
theorem dL_law_3355 : decode cL_law 3355 = .ok (.iload 4, 2) := dLx dLc_8 (i := 165) (q := (3355, (.iload 4, 2))) rfl
theorem dL_law_3357 : decode cL_law 3357 = .ok (.iconst 3, 1) := dLx dLc_8 (i := 166) (q := (3357, (.iconst 3, 1))) rfl
theorem dL_law_3358 : decode cL_law 3358 = .ok (.iadd, 1) := dLx dLc_8 (i := 167) (q := (3358, (.iadd, 1))) rfl
theorem dL_law_3359 : decode cL_law 3359 = .ok (.iaload, 1) := dLx dLc_8 (i := 168) (q := (3359, (.iaload, 1))) rfl
theorem dL_law_3360 : decode cL_law 3360 = .ok (.invokevirtual 354, 3) := dLx dLc_8 (i := 169) (q := (3360, (.invokevirtual 354, 3))) rfl
theorem dL_law_3363 : decode cL_law 3363 = .ok (.istore 6, 2) := dLx dLc_8 (i := 170) (q := (3363, (.istore 6, 2))) rfl
theorem dL_law_3365 : decode cL_law 3365 = .ok (.aload_n 2, 1) := dLx dLc_8 (i := 171) (q := (3365, (.aload_n 2, 1))) rfl
theorem dL_law_3366 : decode cL_law 3366 = .ok (.invokevirtual 201, 3) := dLx dLc_8 (i := 172) (q := (3366, (.invokevirtual 201, 3))) rfl
theorem dL_law_3369 : decode cL_law 3369 = .ok (.iload 5, 2) := dLx dLc_8 (i := 173) (q := (3369, (.iload 5, 2))) rfl
theorem dL_law_3371 : decode cL_law 3371 = .ok (.if_icmp .eq 5, 3) := dLx dLc_8 (i := 174) (q := (3371, (.if_icmp .eq 5, 3))) rfl
theorem dL_law_3374 : decode cL_law 3374 = .ok (.iconst 0, 1) := dLx dLc_8 (i := 175) (q := (3374, (.iconst 0, 1))) rfl
theorem dL_law_3375 : decode cL_law 3375 = .ok (.ireturn, 1) := dLx dLc_8 (i := 176) (q := (3375, (.ireturn, 1))) rfl
theorem dL_law_3376 : decode cL_law 3376 = .ok (.iload 5, 2) := dLx dLc_8 (i := 177) (q := (3376, (.iload 5, 2))) rfl
theorem dL_law_3378 : decode cL_law 3378 = .ok (.ifCond .ne 22, 3) := dLx dLc_8 (i := 178) (q := (3378, (.ifCond .ne 22, 3))) rfl
theorem dL_law_3381 : decode cL_law 3381 = .ok (.aload_n 3, 1) := dLx dLc_8 (i := 179) (q := (3381, (.aload_n 3, 1))) rfl
theorem dL_law_3382 : decode cL_law 3382 = .ok (.iconst 0, 1) := dLx dLc_8 (i := 180) (q := (3382, (.iconst 0, 1))) rfl
theorem dL_law_3383 : decode cL_law 3383 = .ok (.laload, 1) := dLx dLc_8 (i := 181) (q := (3383, (.laload, 1))) rfl
theorem dL_law_3384 : decode cL_law 3384 = .ok (.iload 6, 2) := dLx dLc_8 (i := 182) (q := (3384, (.iload 6, 2))) rfl
theorem dL_law_3386 : decode cL_law 3386 = .ok (.ifCond .eq 7, 3) := dLx dLc_8 (i := 183) (q := (3386, (.ifCond .eq 7, 3))) rfl
theorem dL_law_3389 : decode cL_law 3389 = .ok (.lconst 1, 1) := dLx dLc_8 (i := 184) (q := (3389, (.lconst 1, 1))) rfl
theorem dL_law_3390 : decode cL_law 3390 = .ok (.goto 4, 3) := dLx dLc_8 (i := 185) (q := (3390, (.goto 4, 3))) rfl
theorem dL_law_3393 : decode cL_law 3393 = .ok (.lconst 0, 1) := dLx dLc_8 (i := 186) (q := (3393, (.lconst 0, 1))) rfl
theorem dL_law_3394 : decode cL_law 3394 = .ok (.lcmp, 1) := dLx dLc_8 (i := 187) (q := (3394, (.lcmp, 1))) rfl
theorem dL_law_3395 : decode cL_law 3395 = .ok (.ifCond .eq 5, 3) := dLx dLc_8 (i := 188) (q := (3395, (.ifCond .eq 5, 3))) rfl
theorem dL_law_3398 : decode cL_law 3398 = .ok (.iconst 0, 1) := dLx dLc_8 (i := 189) (q := (3398, (.iconst 0, 1))) rfl
theorem dL_law_3399 : decode cL_law 3399 = .ok (.ireturn, 1) := dLx dLc_8 (i := 190) (q := (3399, (.ireturn, 1))) rfl
theorem dL_law_3400 : decode cL_law 3400 = .ok (.goto 1027, 3) := dLx dLc_8 (i := 191) (q := (3400, (.goto 1027, 3))) rfl
theorem dL_law_3403 : decode cL_law 3403 = .ok (.aload_n 1, 1) := dLx dLc_8 (i := 192) (q := (3403, (.aload_n 1, 1))) rfl
theorem dL_law_3404 : decode cL_law 3404 = .ok (.aload_n 0, 1) := dLx dLc_8 (i := 193) (q := (3404, (.aload_n 0, 1))) rfl
theorem dL_law_3405 : decode cL_law 3405 = .ok (.iload 4, 2) := dLx dLc_8 (i := 194) (q := (3405, (.iload 4, 2))) rfl
theorem dL_law_3407 : decode cL_law 3407 = .ok (.iconst 1, 1) := dLx dLc_8 (i := 195) (q := (3407, (.iconst 1, 1))) rfl
theorem dL_law_3408 : decode cL_law 3408 = .ok (.iadd, 1) := dLx dLc_8 (i := 196) (q := (3408, (.iadd, 1))) rfl
theorem dL_law_3409 : decode cL_law 3409 = .ok (.iaload, 1) := dLx dLc_8 (i := 197) (q := (3409, (.iaload, 1))) rfl
theorem dL_law_3410 : decode cL_law 3410 = .ok (.aload_n 0, 1) := dLx dLc_8 (i := 198) (q := (3410, (.aload_n 0, 1))) rfl
theorem dL_law_3411 : decode cL_law 3411 = .ok (.iload 4, 2) := dLx dLc_8 (i := 199) (q := (3411, (.iload 4, 2))) rfl
theorem dL_law_3413 : decode cL_law 3413 = .ok (.iconst 2, 1) := dLx dLc_8 (i := 200) (q := (3413, (.iconst 2, 1))) rfl
theorem dL_law_3414 : decode cL_law 3414 = .ok (.iadd, 1) := dLx dLc_8 (i := 201) (q := (3414, (.iadd, 1))) rfl
theorem dL_law_3415 : decode cL_law 3415 = .ok (.iaload, 1) := dLx dLc_8 (i := 202) (q := (3415, (.iaload, 1))) rfl
theorem dL_law_3416 : decode cL_law 3416 = .ok (.aload_n 0, 1) := dLx dLc_8 (i := 203) (q := (3416, (.aload_n 0, 1))) rfl
theorem dL_law_3417 : decode cL_law 3417 = .ok (.iload 4, 2) := dLx dLc_8 (i := 204) (q := (3417, (.iload 4, 2))) rfl
theorem dL_law_3419 : decode cL_law 3419 = .ok (.iconst 3, 1) := dLx dLc_8 (i := 205) (q := (3419, (.iconst 3, 1))) rfl
theorem dL_law_3420 : decode cL_law 3420 = .ok (.iadd, 1) := dLx dLc_8 (i := 206) (q := (3420, (.iadd, 1))) rfl
theorem dL_law_3421 : decode cL_law 3421 = .ok (.iaload, 1) := dLx dLc_8 (i := 207) (q := (3421, (.iaload, 1))) rfl
theorem dL_law_3422 : decode cL_law 3422 = .ok (.aload_n 3, 1) := dLx dLc_8 (i := 208) (q := (3422, (.aload_n 3, 1))) rfl
theorem dL_law_3423 : decode cL_law 3423 = .ok (.invokestatic 355, 3) := dLx dLc_8 (i := 209) (q := (3423, (.invokestatic 355, 3))) rfl
theorem dL_law_3426 : decode cL_law 3426 = .ok (.istore 5, 2) := dLx dLc_8 (i := 210) (q := (3426, (.istore 5, 2))) rfl
theorem dL_law_3428 : decode cL_law 3428 = .ok (.aload_n 2, 1) := dLx dLc_8 (i := 211) (q := (3428, (.aload_n 2, 1))) rfl
theorem dL_law_3429 : decode cL_law 3429 = .ok (.aload_n 0, 1) := dLx dLc_8 (i := 212) (q := (3429, (.aload_n 0, 1))) rfl
theorem dL_law_3430 : decode cL_law 3430 = .ok (.iload 4, 2) := dLx dLc_8 (i := 213) (q := (3430, (.iload 4, 2))) rfl
theorem dL_law_3432 : decode cL_law 3432 = .ok (.iconst 1, 1) := dLx dLc_8 (i := 214) (q := (3432, (.iconst 1, 1))) rfl
theorem dL_law_3433 : decode cL_law 3433 = .ok (.iadd, 1) := dLx dLc_8 (i := 215) (q := (3433, (.iadd, 1))) rfl
theorem dL_law_3434 : decode cL_law 3434 = .ok (.iaload, 1) := dLx dLc_8 (i := 216) (q := (3434, (.iaload, 1))) rfl
theorem dL_law_3435 : decode cL_law 3435 = .ok (.aload_n 0, 1) := dLx dLc_8 (i := 217) (q := (3435, (.aload_n 0, 1))) rfl
theorem dL_law_3436 : decode cL_law 3436 = .ok (.iload 4, 2) := dLx dLc_8 (i := 218) (q := (3436, (.iload 4, 2))) rfl
theorem dL_law_3438 : decode cL_law 3438 = .ok (.iconst 2, 1) := dLx dLc_8 (i := 219) (q := (3438, (.iconst 2, 1))) rfl
theorem dL_law_3439 : decode cL_law 3439 = .ok (.iadd, 1) := dLx dLc_8 (i := 220) (q := (3439, (.iadd, 1))) rfl
theorem dL_law_3440 : decode cL_law 3440 = .ok (.iaload, 1) := dLx dLc_8 (i := 221) (q := (3440, (.iaload, 1))) rfl
theorem dL_law_3441 : decode cL_law 3441 = .ok (.aload_n 0, 1) := dLx dLc_8 (i := 222) (q := (3441, (.aload_n 0, 1))) rfl
theorem dL_law_3442 : decode cL_law 3442 = .ok (.iload 4, 2) := dLx dLc_8 (i := 223) (q := (3442, (.iload 4, 2))) rfl
theorem dL_law_3444 : decode cL_law 3444 = .ok (.iconst 3, 1) := dLx dLc_8 (i := 224) (q := (3444, (.iconst 3, 1))) rfl
theorem dL_law_3445 : decode cL_law 3445 = .ok (.iadd, 1) := dLx dLc_8 (i := 225) (q := (3445, (.iadd, 1))) rfl
theorem dL_law_3446 : decode cL_law 3446 = .ok (.iaload, 1) := dLx dLc_8 (i := 226) (q := (3446, (.iaload, 1))) rfl
theorem dL_law_3447 : decode cL_law 3447 = .ok (.invokevirtual 357, 3) := dLx dLc_8 (i := 227) (q := (3447, (.invokevirtual 357, 3))) rfl
theorem dL_law_3450 : decode cL_law 3450 = .ok (.istore 6, 2) := dLx dLc_8 (i := 228) (q := (3450, (.istore 6, 2))) rfl
theorem dL_law_3452 : decode cL_law 3452 = .ok (.aload_n 2, 1) := dLx dLc_8 (i := 229) (q := (3452, (.aload_n 2, 1))) rfl
theorem dL_law_3453 : decode cL_law 3453 = .ok (.invokevirtual 201, 3) := dLx dLc_8 (i := 230) (q := (3453, (.invokevirtual 201, 3))) rfl
theorem dL_law_3456 : decode cL_law 3456 = .ok (.iload 5, 2) := dLx dLc_8 (i := 231) (q := (3456, (.iload 5, 2))) rfl
theorem dL_law_3458 : decode cL_law 3458 = .ok (.if_icmp .eq 5, 3) := dLx dLc_8 (i := 232) (q := (3458, (.if_icmp .eq 5, 3))) rfl
theorem dL_law_3461 : decode cL_law 3461 = .ok (.iconst 0, 1) := dLx dLc_8 (i := 233) (q := (3461, (.iconst 0, 1))) rfl
theorem dL_law_3462 : decode cL_law 3462 = .ok (.ireturn, 1) := dLx dLc_8 (i := 234) (q := (3462, (.ireturn, 1))) rfl
theorem dL_law_3463 : decode cL_law 3463 = .ok (.iload 5, 2) := dLx dLc_8 (i := 235) (q := (3463, (.iload 5, 2))) rfl
theorem dL_law_3465 : decode cL_law 3465 = .ok (.ifCond .ne 22, 3) := dLx dLc_8 (i := 236) (q := (3465, (.ifCond .ne 22, 3))) rfl
theorem dL_law_3468 : decode cL_law 3468 = .ok (.aload_n 3, 1) := dLx dLc_8 (i := 237) (q := (3468, (.aload_n 3, 1))) rfl
theorem dL_law_3469 : decode cL_law 3469 = .ok (.iconst 0, 1) := dLx dLc_8 (i := 238) (q := (3469, (.iconst 0, 1))) rfl
theorem dL_law_3470 : decode cL_law 3470 = .ok (.laload, 1) := dLx dLc_8 (i := 239) (q := (3470, (.laload, 1))) rfl
theorem dL_law_3471 : decode cL_law 3471 = .ok (.iload 6, 2) := dLx dLc_8 (i := 240) (q := (3471, (.iload 6, 2))) rfl
theorem dL_law_3473 : decode cL_law 3473 = .ok (.ifCond .eq 7, 3) := dLx dLc_8 (i := 241) (q := (3473, (.ifCond .eq 7, 3))) rfl
theorem dL_law_3476 : decode cL_law 3476 = .ok (.lconst 1, 1) := dLx dLc_8 (i := 242) (q := (3476, (.lconst 1, 1))) rfl
theorem dL_law_3477 : decode cL_law 3477 = .ok (.goto 4, 3) := dLx dLc_8 (i := 243) (q := (3477, (.goto 4, 3))) rfl
theorem dL_law_3480 : decode cL_law 3480 = .ok (.lconst 0, 1) := dLx dLc_8 (i := 244) (q := (3480, (.lconst 0, 1))) rfl
theorem dL_law_3481 : decode cL_law 3481 = .ok (.lcmp, 1) := dLx dLc_8 (i := 245) (q := (3481, (.lcmp, 1))) rfl
theorem dL_law_3482 : decode cL_law 3482 = .ok (.ifCond .eq 5, 3) := dLx dLc_8 (i := 246) (q := (3482, (.ifCond .eq 5, 3))) rfl
theorem dL_law_3485 : decode cL_law 3485 = .ok (.iconst 0, 1) := dLx dLc_8 (i := 247) (q := (3485, (.iconst 0, 1))) rfl
theorem dL_law_3486 : decode cL_law 3486 = .ok (.ireturn, 1) := dLx dLc_8 (i := 248) (q := (3486, (.ireturn, 1))) rfl
theorem dL_law_3487 : decode cL_law 3487 = .ok (.goto 940, 3) := dLx dLc_8 (i := 249) (q := (3487, (.goto 940, 3))) rfl
theorem dL_law_3490 : decode cL_law 3490 = .ok (.aload_n 1, 1) := dLx dLc_8 (i := 250) (q := (3490, (.aload_n 1, 1))) rfl
theorem dL_law_3491 : decode cL_law 3491 = .ok (.aload_n 0, 1) := dLx dLc_8 (i := 251) (q := (3491, (.aload_n 0, 1))) rfl
theorem dL_law_3492 : decode cL_law 3492 = .ok (.iload 4, 2) := dLx dLc_8 (i := 252) (q := (3492, (.iload 4, 2))) rfl
theorem dL_law_3494 : decode cL_law 3494 = .ok (.iconst 1, 1) := dLx dLc_8 (i := 253) (q := (3494, (.iconst 1, 1))) rfl
theorem dL_law_3495 : decode cL_law 3495 = .ok (.iadd, 1) := dLx dLc_8 (i := 254) (q := (3495, (.iadd, 1))) rfl
theorem dL_law_3496 : decode cL_law 3496 = .ok (.iaload, 1) := dLx dLc_8 (i := 255) (q := (3496, (.iaload, 1))) rfl
theorem dL_law_3497 : decode cL_law 3497 = .ok (.aload_n 0, 1) := dLx dLc_8 (i := 256) (q := (3497, (.aload_n 0, 1))) rfl
theorem dL_law_3498 : decode cL_law 3498 = .ok (.iload 4, 2) := dLx dLc_8 (i := 257) (q := (3498, (.iload 4, 2))) rfl
theorem dL_law_3500 : decode cL_law 3500 = .ok (.iconst 2, 1) := dLx dLc_8 (i := 258) (q := (3500, (.iconst 2, 1))) rfl
theorem dL_law_3501 : decode cL_law 3501 = .ok (.iadd, 1) := dLx dLc_8 (i := 259) (q := (3501, (.iadd, 1))) rfl
theorem dL_law_3502 : decode cL_law 3502 = .ok (.iaload, 1) := dLx dLc_8 (i := 260) (q := (3502, (.iaload, 1))) rfl
theorem dL_law_3503 : decode cL_law 3503 = .ok (.aload_n 3, 1) := dLx dLc_8 (i := 261) (q := (3503, (.aload_n 3, 1))) rfl
theorem dL_law_3504 : decode cL_law 3504 = .ok (.invokestatic 358, 3) := dLx dLc_8 (i := 262) (q := (3504, (.invokestatic 358, 3))) rfl
theorem dL_law_3507 : decode cL_law 3507 = .ok (.istore 5, 2) := dLx dLc_8 (i := 263) (q := (3507, (.istore 5, 2))) rfl
theorem dL_law_3509 : decode cL_law 3509 = .ok (.aload_n 2, 1) := dLx dLc_8 (i := 264) (q := (3509, (.aload_n 2, 1))) rfl
theorem dL_law_3510 : decode cL_law 3510 = .ok (.aload_n 0, 1) := dLx dLc_8 (i := 265) (q := (3510, (.aload_n 0, 1))) rfl
theorem dL_law_3511 : decode cL_law 3511 = .ok (.iload 4, 2) := dLx dLc_8 (i := 266) (q := (3511, (.iload 4, 2))) rfl
theorem dL_law_3513 : decode cL_law 3513 = .ok (.iconst 1, 1) := dLx dLc_8 (i := 267) (q := (3513, (.iconst 1, 1))) rfl
theorem dL_law_3514 : decode cL_law 3514 = .ok (.iadd, 1) := dLx dLc_8 (i := 268) (q := (3514, (.iadd, 1))) rfl
theorem dL_law_3515 : decode cL_law 3515 = .ok (.iaload, 1) := dLx dLc_8 (i := 269) (q := (3515, (.iaload, 1))) rfl
theorem dL_law_3516 : decode cL_law 3516 = .ok (.aload_n 0, 1) := dLx dLc_8 (i := 270) (q := (3516, (.aload_n 0, 1))) rfl
theorem dL_law_3517 : decode cL_law 3517 = .ok (.iload 4, 2) := dLx dLc_8 (i := 271) (q := (3517, (.iload 4, 2))) rfl
theorem dL_law_3519 : decode cL_law 3519 = .ok (.iconst 2, 1) := dLx dLc_8 (i := 272) (q := (3519, (.iconst 2, 1))) rfl
theorem dL_law_3520 : decode cL_law 3520 = .ok (.iadd, 1) := dLx dLc_8 (i := 273) (q := (3520, (.iadd, 1))) rfl
theorem dL_law_3521 : decode cL_law 3521 = .ok (.iaload, 1) := dLx dLc_8 (i := 274) (q := (3521, (.iaload, 1))) rfl
theorem dL_law_3522 : decode cL_law 3522 = .ok (.invokevirtual 360, 3) := dLx dLc_8 (i := 275) (q := (3522, (.invokevirtual 360, 3))) rfl
theorem dL_law_3525 : decode cL_law 3525 = .ok (.istore 6, 2) := dLx dLc_8 (i := 276) (q := (3525, (.istore 6, 2))) rfl
theorem dL_law_3527 : decode cL_law 3527 = .ok (.aload_n 2, 1) := dLx dLc_8 (i := 277) (q := (3527, (.aload_n 2, 1))) rfl
theorem dL_law_3528 : decode cL_law 3528 = .ok (.invokevirtual 201, 3) := dLx dLc_8 (i := 278) (q := (3528, (.invokevirtual 201, 3))) rfl
theorem dL_law_3531 : decode cL_law 3531 = .ok (.iload 5, 2) := dLx dLc_8 (i := 279) (q := (3531, (.iload 5, 2))) rfl
theorem dL_law_3533 : decode cL_law 3533 = .ok (.if_icmp .eq 5, 3) := dLx dLc_8 (i := 280) (q := (3533, (.if_icmp .eq 5, 3))) rfl
theorem dL_law_3536 : decode cL_law 3536 = .ok (.iconst 0, 1) := dLx dLc_8 (i := 281) (q := (3536, (.iconst 0, 1))) rfl
theorem dL_law_3537 : decode cL_law 3537 = .ok (.ireturn, 1) := dLx dLc_8 (i := 282) (q := (3537, (.ireturn, 1))) rfl
theorem dL_law_3538 : decode cL_law 3538 = .ok (.iload 5, 2) := dLx dLc_8 (i := 283) (q := (3538, (.iload 5, 2))) rfl
theorem dL_law_3540 : decode cL_law 3540 = .ok (.ifCond .ne 15, 3) := dLx dLc_8 (i := 284) (q := (3540, (.ifCond .ne 15, 3))) rfl
theorem dL_law_3543 : decode cL_law 3543 = .ok (.aload_n 3, 1) := dLx dLc_8 (i := 285) (q := (3543, (.aload_n 3, 1))) rfl
theorem dL_law_3544 : decode cL_law 3544 = .ok (.iconst 0, 1) := dLx dLc_8 (i := 286) (q := (3544, (.iconst 0, 1))) rfl
theorem dL_law_3545 : decode cL_law 3545 = .ok (.laload, 1) := dLx dLc_8 (i := 287) (q := (3545, (.laload, 1))) rfl
theorem dL_law_3546 : decode cL_law 3546 = .ok (.iload 6, 2) := dLx dLc_8 (i := 288) (q := (3546, (.iload 6, 2))) rfl
theorem dL_law_3548 : decode cL_law 3548 = .ok (.i2l, 1) := dLx dLc_8 (i := 289) (q := (3548, (.i2l, 1))) rfl
theorem dL_law_3549 : decode cL_law 3549 = .ok (.lcmp, 1) := dLx dLc_8 (i := 290) (q := (3549, (.lcmp, 1))) rfl
theorem dL_law_3550 : decode cL_law 3550 = .ok (.ifCond .eq 5, 3) := dLx dLc_8 (i := 291) (q := (3550, (.ifCond .eq 5, 3))) rfl
theorem dL_law_3553 : decode cL_law 3553 = .ok (.iconst 0, 1) := dLx dLc_8 (i := 292) (q := (3553, (.iconst 0, 1))) rfl
theorem dL_law_3554 : decode cL_law 3554 = .ok (.ireturn, 1) := dLx dLc_8 (i := 293) (q := (3554, (.ireturn, 1))) rfl
theorem dL_law_3555 : decode cL_law 3555 = .ok (.goto 872, 3) := dLx dLc_8 (i := 294) (q := (3555, (.goto 872, 3))) rfl
theorem dL_law_3558 : decode cL_law 3558 = .ok (.aload_n 1, 1) := dLx dLc_8 (i := 295) (q := (3558, (.aload_n 1, 1))) rfl
theorem dL_law_3559 : decode cL_law 3559 = .ok (.aload_n 0, 1) := dLx dLc_8 (i := 296) (q := (3559, (.aload_n 0, 1))) rfl
theorem dL_law_3560 : decode cL_law 3560 = .ok (.iload 4, 2) := dLx dLc_8 (i := 297) (q := (3560, (.iload 4, 2))) rfl
theorem dL_law_3562 : decode cL_law 3562 = .ok (.iconst 1, 1) := dLx dLc_8 (i := 298) (q := (3562, (.iconst 1, 1))) rfl
theorem dL_law_3563 : decode cL_law 3563 = .ok (.iadd, 1) := dLx dLc_8 (i := 299) (q := (3563, (.iadd, 1))) rfl
def dLt_9 : List (Nat × (Instr × Nat)) := [(3564, (.iaload, 1)), (3565, (.aload_n 0, 1)), (3566, (.iload 4, 2)), (3568, (.iconst 2, 1)), (3569, (.iadd, 1)), (3570, (.iaload, 1)), (3571, (.aload_n 0, 1)), (3572, (.iload 4, 2)), (3574, (.iconst 3, 1)), (3575, (.iadd, 1)), (3576, (.iaload, 1)), (3577, (.aload_n 3, 1)), (3578, (.invokestatic 361, 3)), (3581, (.istore 5, 2)), (3583, (.aload_n 2, 1)), (3584, (.aload_n 0, 1)), (3585, (.iload 4, 2)), (3587, (.iconst 1, 1)), (3588, (.iadd, 1)), (3589, (.iaload, 1)), (3590, (.aload_n 0, 1)), (3591, (.iload 4, 2)), (3593, (.iconst 2, 1)), (3594, (.iadd, 1)), (3595, (.iaload, 1)), (3596, (.aload_n 0, 1)), (3597, (.iload 4, 2)), (3599, (.iconst 3, 1)), (3600, (.iadd, 1)), (3601, (.iaload, 1)), (3602, (.invokevirtual 363, 3)), (3605, (.istore 6, 2)), (3607, (.aload_n 2, 1)), (3608, (.invokevirtual 201, 3)), (3611, (.iload 5, 2)), (3613, (.if_icmp .eq 5, 3)), (3616, (.iconst 0, 1)), (3617, (.ireturn, 1)), (3618, (.iload 5, 2)), (3620, (.ifCond .ne 15, 3)), (3623, (.aload_n 3, 1)), (3624, (.iconst 0, 1)), (3625, (.laload, 1)), (3626, (.iload 6, 2)), (3628, (.i2l, 1)), (3629, (.lcmp, 1)), (3630, (.ifCond .eq 5, 3)), (3633, (.iconst 0, 1)), (3634, (.ireturn, 1)), (3635, (.goto 792, 3)), (3638, (.aload_n 1, 1)), (3639, (.aload_n 0, 1)), (3640, (.iload 4, 2)), (3642, (.iconst 1, 1)), (3643, (.iadd, 1)), (3644, (.iaload, 1)), (3645, (.aload_n 0, 1)), (3646, (.iload 4, 2)), (3648, (.iconst 2, 1)), (3649, (.iadd, 1)), (3650, (.iaload, 1)), (3651, (.aload_n 0, 1)), (3652, (.iload 4, 2)), (3654, (.iconst 3, 1)), (3655, (.iadd, 1)), (3656, (.iaload, 1)), (3657, (.aload_n 3, 1)), (3658, (.invokestatic 364, 3)), (3661, (.istore 5, 2)), (3663, (.aload_n 2, 1)), (3664, (.aload_n 0, 1)), (3665, (.iload 4, 2)), (3667, (.iconst 1, 1)), (3668, (.iadd, 1)), (3669, (.iaload, 1)), (3670, (.aload_n 0, 1)), (3671, (.iload 4, 2)), (3673, (.iconst 2, 1)), (3674, (.iadd, 1)), (3675, (.iaload, 1)), (3676, (.aload_n 0, 1)), (3677, (.iload 4, 2)), (3679, (.iconst 3, 1)), (3680, (.iadd, 1)), (3681, (.iaload, 1)), (3682, (.invokevirtual 366, 3)), (3685, (.istore 6, 2)), (3687, (.aload_n 2, 1)), (3688, (.invokevirtual 201, 3)), (3691, (.iload 5, 2)), (3693, (.if_icmp .eq 5, 3)), (3696, (.iconst 0, 1)), (3697, (.ireturn, 1)), (3698, (.iload 5, 2)), (3700, (.ifCond .ne 15, 3)), (3703, (.aload_n 3, 1)), (3704, (.iconst 0, 1)), (3705, (.laload, 1)), (3706, (.iload 6, 2)), (3708, (.i2l, 1)), (3709, (.lcmp, 1)), (3710, (.ifCond .eq 5, 3)), (3713, (.iconst 0, 1)), (3714, (.ireturn, 1)), (3715, (.goto 712, 3)), (3718, (.aload_n 1, 1)), (3719, (.aload_n 0, 1)), (3720, (.iload 4, 2)), (3722, (.iconst 1, 1)), (3723, (.iadd, 1)), (3724, (.iaload, 1)), (3725, (.aload_n 0, 1)), (3726, (.iload 4, 2)), (3728, (.iconst 2, 1)), (3729, (.iadd, 1)), (3730, (.iaload, 1)), (3731, (.aload_n 0, 1)), (3732, (.iload 4, 2)), (3734, (.iconst 3, 1)), (3735, (.iadd, 1)), (3736, (.iaload, 1)), (3737, (.aload_n 3, 1)), (3738, (.invokestatic 367, 3)), (3741, (.istore 5, 2)), (3743, (.aload_n 2, 1)), (3744, (.aload_n 0, 1)), (3745, (.iload 4, 2)), (3747, (.iconst 1, 1)), (3748, (.iadd, 1)), (3749, (.iaload, 1)), (3750, (.aload_n 0, 1)), (3751, (.iload 4, 2)), (3753, (.iconst 2, 1)), (3754, (.iadd, 1)), (3755, (.iaload, 1)), (3756, (.aload_n 0, 1)), (3757, (.iload 4, 2)), (3759, (.iconst 3, 1)), (3760, (.iadd, 1)), (3761, (.iaload, 1)), (3762, (.invokevirtual 369, 3)), (3765, (.istore 6, 2)), (3767, (.aload_n 2, 1)), (3768, (.invokevirtual 201, 3)), (3771, (.iload 5, 2)), (3773, (.if_icmp .eq 5, 3)), (3776, (.iconst 0, 1)), (3777, (.ireturn, 1)), (3778, (.iload 5, 2)), (3780, (.ifCond .ne 22, 3)), (3783, (.aload_n 3, 1)), (3784, (.iconst 0, 1)), (3785, (.laload, 1)), (3786, (.iload 6, 2)), (3788, (.ifCond .eq 7, 3)), (3791, (.lconst 1, 1)), (3792, (.goto 4, 3)), (3795, (.lconst 0, 1)), (3796, (.lcmp, 1)), (3797, (.ifCond .eq 5, 3)), (3800, (.iconst 0, 1)), (3801, (.ireturn, 1)), (3802, (.goto 625, 3)), (3805, (.aload_n 1, 1)), (3806, (.aload_n 0, 1)), (3807, (.iload 4, 2)), (3809, (.iconst 1, 1)), (3810, (.iadd, 1)), (3811, (.iaload, 1)), (3812, (.aload_n 0, 1)), (3813, (.iload 4, 2)), (3815, (.iconst 2, 1)), (3816, (.iadd, 1)), (3817, (.iaload, 1)), (3818, (.aload_n 3, 1)), (3819, (.invokestatic 370, 3)), (3822, (.istore 5, 2)), (3824, (.aload_n 2, 1)), (3825, (.aload_n 0, 1)), (3826, (.iload 4, 2)), (3828, (.iconst 1, 1)), (3829, (.iadd, 1)), (3830, (.iaload, 1)), (3831, (.aload_n 0, 1)), (3832, (.iload 4, 2)), (3834, (.iconst 2, 1)), (3835, (.iadd, 1)), (3836, (.iaload, 1)), (3837, (.invokevirtual 372, 3)), (3840, (.istore 6, 2)), (3842, (.aload_n 2, 1)), (3843, (.invokevirtual 201, 3)), (3846, (.iload 5, 2)), (3848, (.if_icmp .eq 5, 3)), (3851, (.iconst 0, 1)), (3852, (.ireturn, 1)), (3853, (.iload 5, 2)), (3855, (.ifCond .ne 15, 3)), (3858, (.aload_n 3, 1)), (3859, (.iconst 0, 1)), (3860, (.laload, 1)), (3861, (.iload 6, 2)), (3863, (.i2l, 1)), (3864, (.lcmp, 1)), (3865, (.ifCond .eq 5, 3)), (3868, (.iconst 0, 1)), (3869, (.ireturn, 1)), (3870, (.goto 557, 3)), (3873, (.aload_n 1, 1)), (3874, (.aload_n 0, 1)), (3875, (.iload 4, 2)), (3877, (.iconst 1, 1)), (3878, (.iadd, 1)), (3879, (.iaload, 1)), (3880, (.aload_n 0, 1)), (3881, (.iload 4, 2)), (3883, (.iconst 2, 1)), (3884, (.iadd, 1)), (3885, (.iaload, 1)), (3886, (.aload_n 3, 1)), (3887, (.invokestatic 373, 3)), (3890, (.istore 5, 2)), (3892, (.aload_n 2, 1)), (3893, (.aload_n 0, 1)), (3894, (.iload 4, 2)), (3896, (.iconst 1, 1)), (3897, (.iadd, 1)), (3898, (.iaload, 1)), (3899, (.aload_n 0, 1)), (3900, (.iload 4, 2)), (3902, (.iconst 2, 1)), (3903, (.iadd, 1)), (3904, (.iaload, 1)), (3905, (.invokevirtual 375, 3)), (3908, (.istore 6, 2)), (3910, (.aload_n 2, 1)), (3911, (.invokevirtual 201, 3)), (3914, (.iload 5, 2)), (3916, (.if_icmp .eq 5, 3)), (3919, (.iconst 0, 1)), (3920, (.ireturn, 1)), (3921, (.iload 5, 2)), (3923, (.ifCond .ne 15, 3)), (3926, (.aload_n 3, 1)), (3927, (.iconst 0, 1)), (3928, (.laload, 1)), (3929, (.iload 6, 2)), (3931, (.i2l, 1)), (3932, (.lcmp, 1)), (3933, (.ifCond .eq 5, 3)), (3936, (.iconst 0, 1)), (3937, (.ireturn, 1)), (3938, (.goto 489, 3)), (3941, (.aload_n 1, 1)), (3942, (.aload_n 0, 1)), (3943, (.iload 4, 2)), (3945, (.iconst 1, 1)), (3946, (.iadd, 1)), (3947, (.iaload, 1)), (3948, (.aload_n 0, 1)), (3949, (.iload 4, 2)), (3951, (.iconst 2, 1)), (3952, (.iadd, 1)), (3953, (.iaload, 1)), (3954, (.aload_n 3, 1)), (3955, (.invokestatic 376, 3)), (3958, (.istore 5, 2)), (3960, (.aload_n 2, 1)), (3961, (.aload_n 0, 1)), (3962, (.iload 4, 2)), (3964, (.iconst 1, 1)), (3965, (.iadd, 1)), (3966, (.iaload, 1)), (3967, (.aload_n 0, 1)), (3968, (.iload 4, 2)), (3970, (.iconst 2, 1)), (3971, (.iadd, 1)), (3972, (.iaload, 1)), (3973, (.invokevirtual 378, 3)), (3976, (.istore 6, 2)), (3978, (.aload_n 2, 1)), (3979, (.invokevirtual 201, 3)), (3982, (.iload 5, 2)), (3984, (.if_icmp .eq 5, 3)), (3987, (.iconst 0, 1)), (3988, (.ireturn, 1)), (3989, (.iload 5, 2)), (3991, (.ifCond .ne 22, 3)), (3994, (.aload_n 3, 1)), (3995, (.iconst 0, 1)), (3996, (.laload, 1)), (3997, (.iload 6, 2)), (3999, (.ifCond .eq 7, 3)), (4002, (.lconst 1, 1)), (4003, (.goto 4, 3)), (4006, (.lconst 0, 1)), (4007, (.lcmp, 1)), (4008, (.ifCond .eq 5, 3)), (4011, (.iconst 0, 1)), (4012, (.ireturn, 1))]
set_option maxRecDepth 100000 in
theorem dLc_9 : ldg (cL_law.data.toList.drop 3564) 0 3564 dLt_9 = true := by decide +kernel
theorem dL_law_3564 : decode cL_law 3564 = .ok (.iaload, 1) := dLx dLc_9 (i := 0) (q := (3564, (.iaload, 1))) rfl
theorem dL_law_3565 : decode cL_law 3565 = .ok (.aload_n 0, 1) := dLx dLc_9 (i := 1) (q := (3565, (.aload_n 0, 1))) rfl
theorem dL_law_3566 : decode cL_law 3566 = .ok (.iload 4, 2) := dLx dLc_9 (i := 2) (q := (3566, (.iload 4, 2))) rfl
theorem dL_law_3568 : decode cL_law 3568 = .ok (.iconst 2, 1) := dLx dLc_9 (i := 3) (q := (3568, (.iconst 2, 1))) rfl
theorem dL_law_3569 : decode cL_law 3569 = .ok (.iadd, 1) := dLx dLc_9 (i := 4) (q := (3569, (.iadd, 1))) rfl
theorem dL_law_3570 : decode cL_law 3570 = .ok (.iaload, 1) := dLx dLc_9 (i := 5) (q := (3570, (.iaload, 1))) rfl
theorem dL_law_3571 : decode cL_law 3571 = .ok (.aload_n 0, 1) := dLx dLc_9 (i := 6) (q := (3571, (.aload_n 0, 1))) rfl
theorem dL_law_3572 : decode cL_law 3572 = .ok (.iload 4, 2) := dLx dLc_9 (i := 7) (q := (3572, (.iload 4, 2))) rfl
theorem dL_law_3574 : decode cL_law 3574 = .ok (.iconst 3, 1) := dLx dLc_9 (i := 8) (q := (3574, (.iconst 3, 1))) rfl
theorem dL_law_3575 : decode cL_law 3575 = .ok (.iadd, 1) := dLx dLc_9 (i := 9) (q := (3575, (.iadd, 1))) rfl
theorem dL_law_3576 : decode cL_law 3576 = .ok (.iaload, 1) := dLx dLc_9 (i := 10) (q := (3576, (.iaload, 1))) rfl
theorem dL_law_3577 : decode cL_law 3577 = .ok (.aload_n 3, 1) := dLx dLc_9 (i := 11) (q := (3577, (.aload_n 3, 1))) rfl
theorem dL_law_3578 : decode cL_law 3578 = .ok (.invokestatic 361, 3) := dLx dLc_9 (i := 12) (q := (3578, (.invokestatic 361, 3))) rfl
theorem dL_law_3581 : decode cL_law 3581 = .ok (.istore 5, 2) := dLx dLc_9 (i := 13) (q := (3581, (.istore 5, 2))) rfl
theorem dL_law_3583 : decode cL_law 3583 = .ok (.aload_n 2, 1) := dLx dLc_9 (i := 14) (q := (3583, (.aload_n 2, 1))) rfl
theorem dL_law_3584 : decode cL_law 3584 = .ok (.aload_n 0, 1) := dLx dLc_9 (i := 15) (q := (3584, (.aload_n 0, 1))) rfl
theorem dL_law_3585 : decode cL_law 3585 = .ok (.iload 4, 2) := dLx dLc_9 (i := 16) (q := (3585, (.iload 4, 2))) rfl
theorem dL_law_3587 : decode cL_law 3587 = .ok (.iconst 1, 1) := dLx dLc_9 (i := 17) (q := (3587, (.iconst 1, 1))) rfl
theorem dL_law_3588 : decode cL_law 3588 = .ok (.iadd, 1) := dLx dLc_9 (i := 18) (q := (3588, (.iadd, 1))) rfl
theorem dL_law_3589 : decode cL_law 3589 = .ok (.iaload, 1) := dLx dLc_9 (i := 19) (q := (3589, (.iaload, 1))) rfl
theorem dL_law_3590 : decode cL_law 3590 = .ok (.aload_n 0, 1) := dLx dLc_9 (i := 20) (q := (3590, (.aload_n 0, 1))) rfl
theorem dL_law_3591 : decode cL_law 3591 = .ok (.iload 4, 2) := dLx dLc_9 (i := 21) (q := (3591, (.iload 4, 2))) rfl
theorem dL_law_3593 : decode cL_law 3593 = .ok (.iconst 2, 1) := dLx dLc_9 (i := 22) (q := (3593, (.iconst 2, 1))) rfl
theorem dL_law_3594 : decode cL_law 3594 = .ok (.iadd, 1) := dLx dLc_9 (i := 23) (q := (3594, (.iadd, 1))) rfl
theorem dL_law_3595 : decode cL_law 3595 = .ok (.iaload, 1) := dLx dLc_9 (i := 24) (q := (3595, (.iaload, 1))) rfl
theorem dL_law_3596 : decode cL_law 3596 = .ok (.aload_n 0, 1) := dLx dLc_9 (i := 25) (q := (3596, (.aload_n 0, 1))) rfl
theorem dL_law_3597 : decode cL_law 3597 = .ok (.iload 4, 2) := dLx dLc_9 (i := 26) (q := (3597, (.iload 4, 2))) rfl
theorem dL_law_3599 : decode cL_law 3599 = .ok (.iconst 3, 1) := dLx dLc_9 (i := 27) (q := (3599, (.iconst 3, 1))) rfl
theorem dL_law_3600 : decode cL_law 3600 = .ok (.iadd, 1) := dLx dLc_9 (i := 28) (q := (3600, (.iadd, 1))) rfl
theorem dL_law_3601 : decode cL_law 3601 = .ok (.iaload, 1) := dLx dLc_9 (i := 29) (q := (3601, (.iaload, 1))) rfl
theorem dL_law_3602 : decode cL_law 3602 = .ok (.invokevirtual 363, 3) := dLx dLc_9 (i := 30) (q := (3602, (.invokevirtual 363, 3))) rfl
theorem dL_law_3605 : decode cL_law 3605 = .ok (.istore 6, 2) := dLx dLc_9 (i := 31) (q := (3605, (.istore 6, 2))) rfl
theorem dL_law_3607 : decode cL_law 3607 = .ok (.aload_n 2, 1) := dLx dLc_9 (i := 32) (q := (3607, (.aload_n 2, 1))) rfl
theorem dL_law_3608 : decode cL_law 3608 = .ok (.invokevirtual 201, 3) := dLx dLc_9 (i := 33) (q := (3608, (.invokevirtual 201, 3))) rfl
theorem dL_law_3611 : decode cL_law 3611 = .ok (.iload 5, 2) := dLx dLc_9 (i := 34) (q := (3611, (.iload 5, 2))) rfl
theorem dL_law_3613 : decode cL_law 3613 = .ok (.if_icmp .eq 5, 3) := dLx dLc_9 (i := 35) (q := (3613, (.if_icmp .eq 5, 3))) rfl
theorem dL_law_3616 : decode cL_law 3616 = .ok (.iconst 0, 1) := dLx dLc_9 (i := 36) (q := (3616, (.iconst 0, 1))) rfl
theorem dL_law_3617 : decode cL_law 3617 = .ok (.ireturn, 1) := dLx dLc_9 (i := 37) (q := (3617, (.ireturn, 1))) rfl
theorem dL_law_3618 : decode cL_law 3618 = .ok (.iload 5, 2) := dLx dLc_9 (i := 38) (q := (3618, (.iload 5, 2))) rfl
theorem dL_law_3620 : decode cL_law 3620 = .ok (.ifCond .ne 15, 3) := dLx dLc_9 (i := 39) (q := (3620, (.ifCond .ne 15, 3))) rfl
theorem dL_law_3623 : decode cL_law 3623 = .ok (.aload_n 3, 1) := dLx dLc_9 (i := 40) (q := (3623, (.aload_n 3, 1))) rfl
theorem dL_law_3624 : decode cL_law 3624 = .ok (.iconst 0, 1) := dLx dLc_9 (i := 41) (q := (3624, (.iconst 0, 1))) rfl
theorem dL_law_3625 : decode cL_law 3625 = .ok (.laload, 1) := dLx dLc_9 (i := 42) (q := (3625, (.laload, 1))) rfl
theorem dL_law_3626 : decode cL_law 3626 = .ok (.iload 6, 2) := dLx dLc_9 (i := 43) (q := (3626, (.iload 6, 2))) rfl
theorem dL_law_3628 : decode cL_law 3628 = .ok (.i2l, 1) := dLx dLc_9 (i := 44) (q := (3628, (.i2l, 1))) rfl
theorem dL_law_3629 : decode cL_law 3629 = .ok (.lcmp, 1) := dLx dLc_9 (i := 45) (q := (3629, (.lcmp, 1))) rfl
theorem dL_law_3630 : decode cL_law 3630 = .ok (.ifCond .eq 5, 3) := dLx dLc_9 (i := 46) (q := (3630, (.ifCond .eq 5, 3))) rfl
theorem dL_law_3633 : decode cL_law 3633 = .ok (.iconst 0, 1) := dLx dLc_9 (i := 47) (q := (3633, (.iconst 0, 1))) rfl
theorem dL_law_3634 : decode cL_law 3634 = .ok (.ireturn, 1) := dLx dLc_9 (i := 48) (q := (3634, (.ireturn, 1))) rfl
theorem dL_law_3635 : decode cL_law 3635 = .ok (.goto 792, 3) := dLx dLc_9 (i := 49) (q := (3635, (.goto 792, 3))) rfl
theorem dL_law_3638 : decode cL_law 3638 = .ok (.aload_n 1, 1) := dLx dLc_9 (i := 50) (q := (3638, (.aload_n 1, 1))) rfl
theorem dL_law_3639 : decode cL_law 3639 = .ok (.aload_n 0, 1) := dLx dLc_9 (i := 51) (q := (3639, (.aload_n 0, 1))) rfl
theorem dL_law_3640 : decode cL_law 3640 = .ok (.iload 4, 2) := dLx dLc_9 (i := 52) (q := (3640, (.iload 4, 2))) rfl
theorem dL_law_3642 : decode cL_law 3642 = .ok (.iconst 1, 1) := dLx dLc_9 (i := 53) (q := (3642, (.iconst 1, 1))) rfl
theorem dL_law_3643 : decode cL_law 3643 = .ok (.iadd, 1) := dLx dLc_9 (i := 54) (q := (3643, (.iadd, 1))) rfl
theorem dL_law_3644 : decode cL_law 3644 = .ok (.iaload, 1) := dLx dLc_9 (i := 55) (q := (3644, (.iaload, 1))) rfl
theorem dL_law_3645 : decode cL_law 3645 = .ok (.aload_n 0, 1) := dLx dLc_9 (i := 56) (q := (3645, (.aload_n 0, 1))) rfl
theorem dL_law_3646 : decode cL_law 3646 = .ok (.iload 4, 2) := dLx dLc_9 (i := 57) (q := (3646, (.iload 4, 2))) rfl
theorem dL_law_3648 : decode cL_law 3648 = .ok (.iconst 2, 1) := dLx dLc_9 (i := 58) (q := (3648, (.iconst 2, 1))) rfl
theorem dL_law_3649 : decode cL_law 3649 = .ok (.iadd, 1) := dLx dLc_9 (i := 59) (q := (3649, (.iadd, 1))) rfl
theorem dL_law_3650 : decode cL_law 3650 = .ok (.iaload, 1) := dLx dLc_9 (i := 60) (q := (3650, (.iaload, 1))) rfl
theorem dL_law_3651 : decode cL_law 3651 = .ok (.aload_n 0, 1) := dLx dLc_9 (i := 61) (q := (3651, (.aload_n 0, 1))) rfl
theorem dL_law_3652 : decode cL_law 3652 = .ok (.iload 4, 2) := dLx dLc_9 (i := 62) (q := (3652, (.iload 4, 2))) rfl
theorem dL_law_3654 : decode cL_law 3654 = .ok (.iconst 3, 1) := dLx dLc_9 (i := 63) (q := (3654, (.iconst 3, 1))) rfl
theorem dL_law_3655 : decode cL_law 3655 = .ok (.iadd, 1) := dLx dLc_9 (i := 64) (q := (3655, (.iadd, 1))) rfl
theorem dL_law_3656 : decode cL_law 3656 = .ok (.iaload, 1) := dLx dLc_9 (i := 65) (q := (3656, (.iaload, 1))) rfl
theorem dL_law_3657 : decode cL_law 3657 = .ok (.aload_n 3, 1) := dLx dLc_9 (i := 66) (q := (3657, (.aload_n 3, 1))) rfl
theorem dL_law_3658 : decode cL_law 3658 = .ok (.invokestatic 364, 3) := dLx dLc_9 (i := 67) (q := (3658, (.invokestatic 364, 3))) rfl
theorem dL_law_3661 : decode cL_law 3661 = .ok (.istore 5, 2) := dLx dLc_9 (i := 68) (q := (3661, (.istore 5, 2))) rfl
theorem dL_law_3663 : decode cL_law 3663 = .ok (.aload_n 2, 1) := dLx dLc_9 (i := 69) (q := (3663, (.aload_n 2, 1))) rfl
theorem dL_law_3664 : decode cL_law 3664 = .ok (.aload_n 0, 1) := dLx dLc_9 (i := 70) (q := (3664, (.aload_n 0, 1))) rfl
theorem dL_law_3665 : decode cL_law 3665 = .ok (.iload 4, 2) := dLx dLc_9 (i := 71) (q := (3665, (.iload 4, 2))) rfl
theorem dL_law_3667 : decode cL_law 3667 = .ok (.iconst 1, 1) := dLx dLc_9 (i := 72) (q := (3667, (.iconst 1, 1))) rfl
theorem dL_law_3668 : decode cL_law 3668 = .ok (.iadd, 1) := dLx dLc_9 (i := 73) (q := (3668, (.iadd, 1))) rfl
theorem dL_law_3669 : decode cL_law 3669 = .ok (.iaload, 1) := dLx dLc_9 (i := 74) (q := (3669, (.iaload, 1))) rfl
theorem dL_law_3670 : decode cL_law 3670 = .ok (.aload_n 0, 1) := dLx dLc_9 (i := 75) (q := (3670, (.aload_n 0, 1))) rfl
theorem dL_law_3671 : decode cL_law 3671 = .ok (.iload 4, 2) := dLx dLc_9 (i := 76) (q := (3671, (.iload 4, 2))) rfl
theorem dL_law_3673 : decode cL_law 3673 = .ok (.iconst 2, 1) := dLx dLc_9 (i := 77) (q := (3673, (.iconst 2, 1))) rfl
theorem dL_law_3674 : decode cL_law 3674 = .ok (.iadd, 1) := dLx dLc_9 (i := 78) (q := (3674, (.iadd, 1))) rfl
theorem dL_law_3675 : decode cL_law 3675 = .ok (.iaload, 1) := dLx dLc_9 (i := 79) (q := (3675, (.iaload, 1))) rfl
theorem dL_law_3676 : decode cL_law 3676 = .ok (.aload_n 0, 1) := dLx dLc_9 (i := 80) (q := (3676, (.aload_n 0, 1))) rfl
theorem dL_law_3677 : decode cL_law 3677 = .ok (.iload 4, 2) := dLx dLc_9 (i := 81) (q := (3677, (.iload 4, 2))) rfl
theorem dL_law_3679 : decode cL_law 3679 = .ok (.iconst 3, 1) := dLx dLc_9 (i := 82) (q := (3679, (.iconst 3, 1))) rfl
theorem dL_law_3680 : decode cL_law 3680 = .ok (.iadd, 1) := dLx dLc_9 (i := 83) (q := (3680, (.iadd, 1))) rfl
theorem dL_law_3681 : decode cL_law 3681 = .ok (.iaload, 1) := dLx dLc_9 (i := 84) (q := (3681, (.iaload, 1))) rfl
theorem dL_law_3682 : decode cL_law 3682 = .ok (.invokevirtual 366, 3) := dLx dLc_9 (i := 85) (q := (3682, (.invokevirtual 366, 3))) rfl
theorem dL_law_3685 : decode cL_law 3685 = .ok (.istore 6, 2) := dLx dLc_9 (i := 86) (q := (3685, (.istore 6, 2))) rfl
theorem dL_law_3687 : decode cL_law 3687 = .ok (.aload_n 2, 1) := dLx dLc_9 (i := 87) (q := (3687, (.aload_n 2, 1))) rfl
theorem dL_law_3688 : decode cL_law 3688 = .ok (.invokevirtual 201, 3) := dLx dLc_9 (i := 88) (q := (3688, (.invokevirtual 201, 3))) rfl
theorem dL_law_3691 : decode cL_law 3691 = .ok (.iload 5, 2) := dLx dLc_9 (i := 89) (q := (3691, (.iload 5, 2))) rfl
theorem dL_law_3693 : decode cL_law 3693 = .ok (.if_icmp .eq 5, 3) := dLx dLc_9 (i := 90) (q := (3693, (.if_icmp .eq 5, 3))) rfl
theorem dL_law_3696 : decode cL_law 3696 = .ok (.iconst 0, 1) := dLx dLc_9 (i := 91) (q := (3696, (.iconst 0, 1))) rfl
theorem dL_law_3697 : decode cL_law 3697 = .ok (.ireturn, 1) := dLx dLc_9 (i := 92) (q := (3697, (.ireturn, 1))) rfl
theorem dL_law_3698 : decode cL_law 3698 = .ok (.iload 5, 2) := dLx dLc_9 (i := 93) (q := (3698, (.iload 5, 2))) rfl
theorem dL_law_3700 : decode cL_law 3700 = .ok (.ifCond .ne 15, 3) := dLx dLc_9 (i := 94) (q := (3700, (.ifCond .ne 15, 3))) rfl
theorem dL_law_3703 : decode cL_law 3703 = .ok (.aload_n 3, 1) := dLx dLc_9 (i := 95) (q := (3703, (.aload_n 3, 1))) rfl
theorem dL_law_3704 : decode cL_law 3704 = .ok (.iconst 0, 1) := dLx dLc_9 (i := 96) (q := (3704, (.iconst 0, 1))) rfl
theorem dL_law_3705 : decode cL_law 3705 = .ok (.laload, 1) := dLx dLc_9 (i := 97) (q := (3705, (.laload, 1))) rfl
theorem dL_law_3706 : decode cL_law 3706 = .ok (.iload 6, 2) := dLx dLc_9 (i := 98) (q := (3706, (.iload 6, 2))) rfl
theorem dL_law_3708 : decode cL_law 3708 = .ok (.i2l, 1) := dLx dLc_9 (i := 99) (q := (3708, (.i2l, 1))) rfl
theorem dL_law_3709 : decode cL_law 3709 = .ok (.lcmp, 1) := dLx dLc_9 (i := 100) (q := (3709, (.lcmp, 1))) rfl
theorem dL_law_3710 : decode cL_law 3710 = .ok (.ifCond .eq 5, 3) := dLx dLc_9 (i := 101) (q := (3710, (.ifCond .eq 5, 3))) rfl
theorem dL_law_3713 : decode cL_law 3713 = .ok (.iconst 0, 1) := dLx dLc_9 (i := 102) (q := (3713, (.iconst 0, 1))) rfl
theorem dL_law_3714 : decode cL_law 3714 = .ok (.ireturn, 1) := dLx dLc_9 (i := 103) (q := (3714, (.ireturn, 1))) rfl
theorem dL_law_3715 : decode cL_law 3715 = .ok (.goto 712, 3) := dLx dLc_9 (i := 104) (q := (3715, (.goto 712, 3))) rfl
theorem dL_law_3718 : decode cL_law 3718 = .ok (.aload_n 1, 1) := dLx dLc_9 (i := 105) (q := (3718, (.aload_n 1, 1))) rfl
theorem dL_law_3719 : decode cL_law 3719 = .ok (.aload_n 0, 1) := dLx dLc_9 (i := 106) (q := (3719, (.aload_n 0, 1))) rfl
theorem dL_law_3720 : decode cL_law 3720 = .ok (.iload 4, 2) := dLx dLc_9 (i := 107) (q := (3720, (.iload 4, 2))) rfl
theorem dL_law_3722 : decode cL_law 3722 = .ok (.iconst 1, 1) := dLx dLc_9 (i := 108) (q := (3722, (.iconst 1, 1))) rfl
theorem dL_law_3723 : decode cL_law 3723 = .ok (.iadd, 1) := dLx dLc_9 (i := 109) (q := (3723, (.iadd, 1))) rfl
theorem dL_law_3724 : decode cL_law 3724 = .ok (.iaload, 1) := dLx dLc_9 (i := 110) (q := (3724, (.iaload, 1))) rfl
theorem dL_law_3725 : decode cL_law 3725 = .ok (.aload_n 0, 1) := dLx dLc_9 (i := 111) (q := (3725, (.aload_n 0, 1))) rfl
theorem dL_law_3726 : decode cL_law 3726 = .ok (.iload 4, 2) := dLx dLc_9 (i := 112) (q := (3726, (.iload 4, 2))) rfl
theorem dL_law_3728 : decode cL_law 3728 = .ok (.iconst 2, 1) := dLx dLc_9 (i := 113) (q := (3728, (.iconst 2, 1))) rfl
theorem dL_law_3729 : decode cL_law 3729 = .ok (.iadd, 1) := dLx dLc_9 (i := 114) (q := (3729, (.iadd, 1))) rfl
theorem dL_law_3730 : decode cL_law 3730 = .ok (.iaload, 1) := dLx dLc_9 (i := 115) (q := (3730, (.iaload, 1))) rfl
theorem dL_law_3731 : decode cL_law 3731 = .ok (.aload_n 0, 1) := dLx dLc_9 (i := 116) (q := (3731, (.aload_n 0, 1))) rfl
theorem dL_law_3732 : decode cL_law 3732 = .ok (.iload 4, 2) := dLx dLc_9 (i := 117) (q := (3732, (.iload 4, 2))) rfl
theorem dL_law_3734 : decode cL_law 3734 = .ok (.iconst 3, 1) := dLx dLc_9 (i := 118) (q := (3734, (.iconst 3, 1))) rfl
theorem dL_law_3735 : decode cL_law 3735 = .ok (.iadd, 1) := dLx dLc_9 (i := 119) (q := (3735, (.iadd, 1))) rfl
theorem dL_law_3736 : decode cL_law 3736 = .ok (.iaload, 1) := dLx dLc_9 (i := 120) (q := (3736, (.iaload, 1))) rfl
theorem dL_law_3737 : decode cL_law 3737 = .ok (.aload_n 3, 1) := dLx dLc_9 (i := 121) (q := (3737, (.aload_n 3, 1))) rfl
theorem dL_law_3738 : decode cL_law 3738 = .ok (.invokestatic 367, 3) := dLx dLc_9 (i := 122) (q := (3738, (.invokestatic 367, 3))) rfl
theorem dL_law_3741 : decode cL_law 3741 = .ok (.istore 5, 2) := dLx dLc_9 (i := 123) (q := (3741, (.istore 5, 2))) rfl
theorem dL_law_3743 : decode cL_law 3743 = .ok (.aload_n 2, 1) := dLx dLc_9 (i := 124) (q := (3743, (.aload_n 2, 1))) rfl
theorem dL_law_3744 : decode cL_law 3744 = .ok (.aload_n 0, 1) := dLx dLc_9 (i := 125) (q := (3744, (.aload_n 0, 1))) rfl
theorem dL_law_3745 : decode cL_law 3745 = .ok (.iload 4, 2) := dLx dLc_9 (i := 126) (q := (3745, (.iload 4, 2))) rfl
theorem dL_law_3747 : decode cL_law 3747 = .ok (.iconst 1, 1) := dLx dLc_9 (i := 127) (q := (3747, (.iconst 1, 1))) rfl
theorem dL_law_3748 : decode cL_law 3748 = .ok (.iadd, 1) := dLx dLc_9 (i := 128) (q := (3748, (.iadd, 1))) rfl
theorem dL_law_3749 : decode cL_law 3749 = .ok (.iaload, 1) := dLx dLc_9 (i := 129) (q := (3749, (.iaload, 1))) rfl
theorem dL_law_3750 : decode cL_law 3750 = .ok (.aload_n 0, 1) := dLx dLc_9 (i := 130) (q := (3750, (.aload_n 0, 1))) rfl
theorem dL_law_3751 : decode cL_law 3751 = .ok (.iload 4, 2) := dLx dLc_9 (i := 131) (q := (3751, (.iload 4, 2))) rfl
theorem dL_law_3753 : decode cL_law 3753 = .ok (.iconst 2, 1) := dLx dLc_9 (i := 132) (q := (3753, (.iconst 2, 1))) rfl
theorem dL_law_3754 : decode cL_law 3754 = .ok (.iadd, 1) := dLx dLc_9 (i := 133) (q := (3754, (.iadd, 1))) rfl
theorem dL_law_3755 : decode cL_law 3755 = .ok (.iaload, 1) := dLx dLc_9 (i := 134) (q := (3755, (.iaload, 1))) rfl
theorem dL_law_3756 : decode cL_law 3756 = .ok (.aload_n 0, 1) := dLx dLc_9 (i := 135) (q := (3756, (.aload_n 0, 1))) rfl
theorem dL_law_3757 : decode cL_law 3757 = .ok (.iload 4, 2) := dLx dLc_9 (i := 136) (q := (3757, (.iload 4, 2))) rfl
theorem dL_law_3759 : decode cL_law 3759 = .ok (.iconst 3, 1) := dLx dLc_9 (i := 137) (q := (3759, (.iconst 3, 1))) rfl
theorem dL_law_3760 : decode cL_law 3760 = .ok (.iadd, 1) := dLx dLc_9 (i := 138) (q := (3760, (.iadd, 1))) rfl
theorem dL_law_3761 : decode cL_law 3761 = .ok (.iaload, 1) := dLx dLc_9 (i := 139) (q := (3761, (.iaload, 1))) rfl
theorem dL_law_3762 : decode cL_law 3762 = .ok (.invokevirtual 369, 3) := dLx dLc_9 (i := 140) (q := (3762, (.invokevirtual 369, 3))) rfl
theorem dL_law_3765 : decode cL_law 3765 = .ok (.istore 6, 2) := dLx dLc_9 (i := 141) (q := (3765, (.istore 6, 2))) rfl
theorem dL_law_3767 : decode cL_law 3767 = .ok (.aload_n 2, 1) := dLx dLc_9 (i := 142) (q := (3767, (.aload_n 2, 1))) rfl
theorem dL_law_3768 : decode cL_law 3768 = .ok (.invokevirtual 201, 3) := dLx dLc_9 (i := 143) (q := (3768, (.invokevirtual 201, 3))) rfl
theorem dL_law_3771 : decode cL_law 3771 = .ok (.iload 5, 2) := dLx dLc_9 (i := 144) (q := (3771, (.iload 5, 2))) rfl
theorem dL_law_3773 : decode cL_law 3773 = .ok (.if_icmp .eq 5, 3) := dLx dLc_9 (i := 145) (q := (3773, (.if_icmp .eq 5, 3))) rfl
theorem dL_law_3776 : decode cL_law 3776 = .ok (.iconst 0, 1) := dLx dLc_9 (i := 146) (q := (3776, (.iconst 0, 1))) rfl
theorem dL_law_3777 : decode cL_law 3777 = .ok (.ireturn, 1) := dLx dLc_9 (i := 147) (q := (3777, (.ireturn, 1))) rfl
theorem dL_law_3778 : decode cL_law 3778 = .ok (.iload 5, 2) := dLx dLc_9 (i := 148) (q := (3778, (.iload 5, 2))) rfl
theorem dL_law_3780 : decode cL_law 3780 = .ok (.ifCond .ne 22, 3) := dLx dLc_9 (i := 149) (q := (3780, (.ifCond .ne 22, 3))) rfl
theorem dL_law_3783 : decode cL_law 3783 = .ok (.aload_n 3, 1) := dLx dLc_9 (i := 150) (q := (3783, (.aload_n 3, 1))) rfl
theorem dL_law_3784 : decode cL_law 3784 = .ok (.iconst 0, 1) := dLx dLc_9 (i := 151) (q := (3784, (.iconst 0, 1))) rfl
theorem dL_law_3785 : decode cL_law 3785 = .ok (.laload, 1) := dLx dLc_9 (i := 152) (q := (3785, (.laload, 1))) rfl
theorem dL_law_3786 : decode cL_law 3786 = .ok (.iload 6, 2) := dLx dLc_9 (i := 153) (q := (3786, (.iload 6, 2))) rfl
theorem dL_law_3788 : decode cL_law 3788 = .ok (.ifCond .eq 7, 3) := dLx dLc_9 (i := 154) (q := (3788, (.ifCond .eq 7, 3))) rfl
theorem dL_law_3791 : decode cL_law 3791 = .ok (.lconst 1, 1) := dLx dLc_9 (i := 155) (q := (3791, (.lconst 1, 1))) rfl
theorem dL_law_3792 : decode cL_law 3792 = .ok (.goto 4, 3) := dLx dLc_9 (i := 156) (q := (3792, (.goto 4, 3))) rfl
theorem dL_law_3795 : decode cL_law 3795 = .ok (.lconst 0, 1) := dLx dLc_9 (i := 157) (q := (3795, (.lconst 0, 1))) rfl
theorem dL_law_3796 : decode cL_law 3796 = .ok (.lcmp, 1) := dLx dLc_9 (i := 158) (q := (3796, (.lcmp, 1))) rfl
theorem dL_law_3797 : decode cL_law 3797 = .ok (.ifCond .eq 5, 3) := dLx dLc_9 (i := 159) (q := (3797, (.ifCond .eq 5, 3))) rfl
theorem dL_law_3800 : decode cL_law 3800 = .ok (.iconst 0, 1) := dLx dLc_9 (i := 160) (q := (3800, (.iconst 0, 1))) rfl
theorem dL_law_3801 : decode cL_law 3801 = .ok (.ireturn, 1) := dLx dLc_9 (i := 161) (q := (3801, (.ireturn, 1))) rfl
theorem dL_law_3802 : decode cL_law 3802 = .ok (.goto 625, 3) := dLx dLc_9 (i := 162) (q := (3802, (.goto 625, 3))) rfl
theorem dL_law_3805 : decode cL_law 3805 = .ok (.aload_n 1, 1) := dLx dLc_9 (i := 163) (q := (3805, (.aload_n 1, 1))) rfl
theorem dL_law_3806 : decode cL_law 3806 = .ok (.aload_n 0, 1) := dLx dLc_9 (i := 164) (q := (3806, (.aload_n 0, 1))) rfl
theorem dL_law_3807 : decode cL_law 3807 = .ok (.iload 4, 2) := dLx dLc_9 (i := 165) (q := (3807, (.iload 4, 2))) rfl
theorem dL_law_3809 : decode cL_law 3809 = .ok (.iconst 1, 1) := dLx dLc_9 (i := 166) (q := (3809, (.iconst 1, 1))) rfl
theorem dL_law_3810 : decode cL_law 3810 = .ok (.iadd, 1) := dLx dLc_9 (i := 167) (q := (3810, (.iadd, 1))) rfl
theorem dL_law_3811 : decode cL_law 3811 = .ok (.iaload, 1) := dLx dLc_9 (i := 168) (q := (3811, (.iaload, 1))) rfl
theorem dL_law_3812 : decode cL_law 3812 = .ok (.aload_n 0, 1) := dLx dLc_9 (i := 169) (q := (3812, (.aload_n 0, 1))) rfl
theorem dL_law_3813 : decode cL_law 3813 = .ok (.iload 4, 2) := dLx dLc_9 (i := 170) (q := (3813, (.iload 4, 2))) rfl
theorem dL_law_3815 : decode cL_law 3815 = .ok (.iconst 2, 1) := dLx dLc_9 (i := 171) (q := (3815, (.iconst 2, 1))) rfl
theorem dL_law_3816 : decode cL_law 3816 = .ok (.iadd, 1) := dLx dLc_9 (i := 172) (q := (3816, (.iadd, 1))) rfl
theorem dL_law_3817 : decode cL_law 3817 = .ok (.iaload, 1) := dLx dLc_9 (i := 173) (q := (3817, (.iaload, 1))) rfl
theorem dL_law_3818 : decode cL_law 3818 = .ok (.aload_n 3, 1) := dLx dLc_9 (i := 174) (q := (3818, (.aload_n 3, 1))) rfl
theorem dL_law_3819 : decode cL_law 3819 = .ok (.invokestatic 370, 3) := dLx dLc_9 (i := 175) (q := (3819, (.invokestatic 370, 3))) rfl
theorem dL_law_3822 : decode cL_law 3822 = .ok (.istore 5, 2) := dLx dLc_9 (i := 176) (q := (3822, (.istore 5, 2))) rfl
theorem dL_law_3824 : decode cL_law 3824 = .ok (.aload_n 2, 1) := dLx dLc_9 (i := 177) (q := (3824, (.aload_n 2, 1))) rfl
theorem dL_law_3825 : decode cL_law 3825 = .ok (.aload_n 0, 1) := dLx dLc_9 (i := 178) (q := (3825, (.aload_n 0, 1))) rfl
theorem dL_law_3826 : decode cL_law 3826 = .ok (.iload 4, 2) := dLx dLc_9 (i := 179) (q := (3826, (.iload 4, 2))) rfl
theorem dL_law_3828 : decode cL_law 3828 = .ok (.iconst 1, 1) := dLx dLc_9 (i := 180) (q := (3828, (.iconst 1, 1))) rfl
theorem dL_law_3829 : decode cL_law 3829 = .ok (.iadd, 1) := dLx dLc_9 (i := 181) (q := (3829, (.iadd, 1))) rfl
theorem dL_law_3830 : decode cL_law 3830 = .ok (.iaload, 1) := dLx dLc_9 (i := 182) (q := (3830, (.iaload, 1))) rfl
theorem dL_law_3831 : decode cL_law 3831 = .ok (.aload_n 0, 1) := dLx dLc_9 (i := 183) (q := (3831, (.aload_n 0, 1))) rfl
theorem dL_law_3832 : decode cL_law 3832 = .ok (.iload 4, 2) := dLx dLc_9 (i := 184) (q := (3832, (.iload 4, 2))) rfl
theorem dL_law_3834 : decode cL_law 3834 = .ok (.iconst 2, 1) := dLx dLc_9 (i := 185) (q := (3834, (.iconst 2, 1))) rfl
theorem dL_law_3835 : decode cL_law 3835 = .ok (.iadd, 1) := dLx dLc_9 (i := 186) (q := (3835, (.iadd, 1))) rfl
theorem dL_law_3836 : decode cL_law 3836 = .ok (.iaload, 1) := dLx dLc_9 (i := 187) (q := (3836, (.iaload, 1))) rfl
theorem dL_law_3837 : decode cL_law 3837 = .ok (.invokevirtual 372, 3) := dLx dLc_9 (i := 188) (q := (3837, (.invokevirtual 372, 3))) rfl
theorem dL_law_3840 : decode cL_law 3840 = .ok (.istore 6, 2) := dLx dLc_9 (i := 189) (q := (3840, (.istore 6, 2))) rfl
theorem dL_law_3842 : decode cL_law 3842 = .ok (.aload_n 2, 1) := dLx dLc_9 (i := 190) (q := (3842, (.aload_n 2, 1))) rfl
theorem dL_law_3843 : decode cL_law 3843 = .ok (.invokevirtual 201, 3) := dLx dLc_9 (i := 191) (q := (3843, (.invokevirtual 201, 3))) rfl
theorem dL_law_3846 : decode cL_law 3846 = .ok (.iload 5, 2) := dLx dLc_9 (i := 192) (q := (3846, (.iload 5, 2))) rfl
theorem dL_law_3848 : decode cL_law 3848 = .ok (.if_icmp .eq 5, 3) := dLx dLc_9 (i := 193) (q := (3848, (.if_icmp .eq 5, 3))) rfl
theorem dL_law_3851 : decode cL_law 3851 = .ok (.iconst 0, 1) := dLx dLc_9 (i := 194) (q := (3851, (.iconst 0, 1))) rfl
theorem dL_law_3852 : decode cL_law 3852 = .ok (.ireturn, 1) := dLx dLc_9 (i := 195) (q := (3852, (.ireturn, 1))) rfl
theorem dL_law_3853 : decode cL_law 3853 = .ok (.iload 5, 2) := dLx dLc_9 (i := 196) (q := (3853, (.iload 5, 2))) rfl
theorem dL_law_3855 : decode cL_law 3855 = .ok (.ifCond .ne 15, 3) := dLx dLc_9 (i := 197) (q := (3855, (.ifCond .ne 15, 3))) rfl
theorem dL_law_3858 : decode cL_law 3858 = .ok (.aload_n 3, 1) := dLx dLc_9 (i := 198) (q := (3858, (.aload_n 3, 1))) rfl
theorem dL_law_3859 : decode cL_law 3859 = .ok (.iconst 0, 1) := dLx dLc_9 (i := 199) (q := (3859, (.iconst 0, 1))) rfl
theorem dL_law_3860 : decode cL_law 3860 = .ok (.laload, 1) := dLx dLc_9 (i := 200) (q := (3860, (.laload, 1))) rfl
theorem dL_law_3861 : decode cL_law 3861 = .ok (.iload 6, 2) := dLx dLc_9 (i := 201) (q := (3861, (.iload 6, 2))) rfl
theorem dL_law_3863 : decode cL_law 3863 = .ok (.i2l, 1) := dLx dLc_9 (i := 202) (q := (3863, (.i2l, 1))) rfl
theorem dL_law_3864 : decode cL_law 3864 = .ok (.lcmp, 1) := dLx dLc_9 (i := 203) (q := (3864, (.lcmp, 1))) rfl
theorem dL_law_3865 : decode cL_law 3865 = .ok (.ifCond .eq 5, 3) := dLx dLc_9 (i := 204) (q := (3865, (.ifCond .eq 5, 3))) rfl
theorem dL_law_3868 : decode cL_law 3868 = .ok (.iconst 0, 1) := dLx dLc_9 (i := 205) (q := (3868, (.iconst 0, 1))) rfl
theorem dL_law_3869 : decode cL_law 3869 = .ok (.ireturn, 1) := dLx dLc_9 (i := 206) (q := (3869, (.ireturn, 1))) rfl
theorem dL_law_3870 : decode cL_law 3870 = .ok (.goto 557, 3) := dLx dLc_9 (i := 207) (q := (3870, (.goto 557, 3))) rfl
theorem dL_law_3873 : decode cL_law 3873 = .ok (.aload_n 1, 1) := dLx dLc_9 (i := 208) (q := (3873, (.aload_n 1, 1))) rfl
theorem dL_law_3874 : decode cL_law 3874 = .ok (.aload_n 0, 1) := dLx dLc_9 (i := 209) (q := (3874, (.aload_n 0, 1))) rfl
theorem dL_law_3875 : decode cL_law 3875 = .ok (.iload 4, 2) := dLx dLc_9 (i := 210) (q := (3875, (.iload 4, 2))) rfl
theorem dL_law_3877 : decode cL_law 3877 = .ok (.iconst 1, 1) := dLx dLc_9 (i := 211) (q := (3877, (.iconst 1, 1))) rfl
theorem dL_law_3878 : decode cL_law 3878 = .ok (.iadd, 1) := dLx dLc_9 (i := 212) (q := (3878, (.iadd, 1))) rfl
theorem dL_law_3879 : decode cL_law 3879 = .ok (.iaload, 1) := dLx dLc_9 (i := 213) (q := (3879, (.iaload, 1))) rfl
theorem dL_law_3880 : decode cL_law 3880 = .ok (.aload_n 0, 1) := dLx dLc_9 (i := 214) (q := (3880, (.aload_n 0, 1))) rfl
theorem dL_law_3881 : decode cL_law 3881 = .ok (.iload 4, 2) := dLx dLc_9 (i := 215) (q := (3881, (.iload 4, 2))) rfl
theorem dL_law_3883 : decode cL_law 3883 = .ok (.iconst 2, 1) := dLx dLc_9 (i := 216) (q := (3883, (.iconst 2, 1))) rfl
theorem dL_law_3884 : decode cL_law 3884 = .ok (.iadd, 1) := dLx dLc_9 (i := 217) (q := (3884, (.iadd, 1))) rfl
theorem dL_law_3885 : decode cL_law 3885 = .ok (.iaload, 1) := dLx dLc_9 (i := 218) (q := (3885, (.iaload, 1))) rfl
theorem dL_law_3886 : decode cL_law 3886 = .ok (.aload_n 3, 1) := dLx dLc_9 (i := 219) (q := (3886, (.aload_n 3, 1))) rfl
theorem dL_law_3887 : decode cL_law 3887 = .ok (.invokestatic 373, 3) := dLx dLc_9 (i := 220) (q := (3887, (.invokestatic 373, 3))) rfl
theorem dL_law_3890 : decode cL_law 3890 = .ok (.istore 5, 2) := dLx dLc_9 (i := 221) (q := (3890, (.istore 5, 2))) rfl
theorem dL_law_3892 : decode cL_law 3892 = .ok (.aload_n 2, 1) := dLx dLc_9 (i := 222) (q := (3892, (.aload_n 2, 1))) rfl
theorem dL_law_3893 : decode cL_law 3893 = .ok (.aload_n 0, 1) := dLx dLc_9 (i := 223) (q := (3893, (.aload_n 0, 1))) rfl
theorem dL_law_3894 : decode cL_law 3894 = .ok (.iload 4, 2) := dLx dLc_9 (i := 224) (q := (3894, (.iload 4, 2))) rfl
theorem dL_law_3896 : decode cL_law 3896 = .ok (.iconst 1, 1) := dLx dLc_9 (i := 225) (q := (3896, (.iconst 1, 1))) rfl
theorem dL_law_3897 : decode cL_law 3897 = .ok (.iadd, 1) := dLx dLc_9 (i := 226) (q := (3897, (.iadd, 1))) rfl
theorem dL_law_3898 : decode cL_law 3898 = .ok (.iaload, 1) := dLx dLc_9 (i := 227) (q := (3898, (.iaload, 1))) rfl
theorem dL_law_3899 : decode cL_law 3899 = .ok (.aload_n 0, 1) := dLx dLc_9 (i := 228) (q := (3899, (.aload_n 0, 1))) rfl
theorem dL_law_3900 : decode cL_law 3900 = .ok (.iload 4, 2) := dLx dLc_9 (i := 229) (q := (3900, (.iload 4, 2))) rfl
theorem dL_law_3902 : decode cL_law 3902 = .ok (.iconst 2, 1) := dLx dLc_9 (i := 230) (q := (3902, (.iconst 2, 1))) rfl
theorem dL_law_3903 : decode cL_law 3903 = .ok (.iadd, 1) := dLx dLc_9 (i := 231) (q := (3903, (.iadd, 1))) rfl
theorem dL_law_3904 : decode cL_law 3904 = .ok (.iaload, 1) := dLx dLc_9 (i := 232) (q := (3904, (.iaload, 1))) rfl
theorem dL_law_3905 : decode cL_law 3905 = .ok (.invokevirtual 375, 3) := dLx dLc_9 (i := 233) (q := (3905, (.invokevirtual 375, 3))) rfl
theorem dL_law_3908 : decode cL_law 3908 = .ok (.istore 6, 2) := dLx dLc_9 (i := 234) (q := (3908, (.istore 6, 2))) rfl
theorem dL_law_3910 : decode cL_law 3910 = .ok (.aload_n 2, 1) := dLx dLc_9 (i := 235) (q := (3910, (.aload_n 2, 1))) rfl
theorem dL_law_3911 : decode cL_law 3911 = .ok (.invokevirtual 201, 3) := dLx dLc_9 (i := 236) (q := (3911, (.invokevirtual 201, 3))) rfl
theorem dL_law_3914 : decode cL_law 3914 = .ok (.iload 5, 2) := dLx dLc_9 (i := 237) (q := (3914, (.iload 5, 2))) rfl
theorem dL_law_3916 : decode cL_law 3916 = .ok (.if_icmp .eq 5, 3) := dLx dLc_9 (i := 238) (q := (3916, (.if_icmp .eq 5, 3))) rfl
theorem dL_law_3919 : decode cL_law 3919 = .ok (.iconst 0, 1) := dLx dLc_9 (i := 239) (q := (3919, (.iconst 0, 1))) rfl
theorem dL_law_3920 : decode cL_law 3920 = .ok (.ireturn, 1) := dLx dLc_9 (i := 240) (q := (3920, (.ireturn, 1))) rfl
theorem dL_law_3921 : decode cL_law 3921 = .ok (.iload 5, 2) := dLx dLc_9 (i := 241) (q := (3921, (.iload 5, 2))) rfl
theorem dL_law_3923 : decode cL_law 3923 = .ok (.ifCond .ne 15, 3) := dLx dLc_9 (i := 242) (q := (3923, (.ifCond .ne 15, 3))) rfl
theorem dL_law_3926 : decode cL_law 3926 = .ok (.aload_n 3, 1) := dLx dLc_9 (i := 243) (q := (3926, (.aload_n 3, 1))) rfl
theorem dL_law_3927 : decode cL_law 3927 = .ok (.iconst 0, 1) := dLx dLc_9 (i := 244) (q := (3927, (.iconst 0, 1))) rfl
theorem dL_law_3928 : decode cL_law 3928 = .ok (.laload, 1) := dLx dLc_9 (i := 245) (q := (3928, (.laload, 1))) rfl
theorem dL_law_3929 : decode cL_law 3929 = .ok (.iload 6, 2) := dLx dLc_9 (i := 246) (q := (3929, (.iload 6, 2))) rfl
theorem dL_law_3931 : decode cL_law 3931 = .ok (.i2l, 1) := dLx dLc_9 (i := 247) (q := (3931, (.i2l, 1))) rfl
theorem dL_law_3932 : decode cL_law 3932 = .ok (.lcmp, 1) := dLx dLc_9 (i := 248) (q := (3932, (.lcmp, 1))) rfl
theorem dL_law_3933 : decode cL_law 3933 = .ok (.ifCond .eq 5, 3) := dLx dLc_9 (i := 249) (q := (3933, (.ifCond .eq 5, 3))) rfl
theorem dL_law_3936 : decode cL_law 3936 = .ok (.iconst 0, 1) := dLx dLc_9 (i := 250) (q := (3936, (.iconst 0, 1))) rfl
theorem dL_law_3937 : decode cL_law 3937 = .ok (.ireturn, 1) := dLx dLc_9 (i := 251) (q := (3937, (.ireturn, 1))) rfl
theorem dL_law_3938 : decode cL_law 3938 = .ok (.goto 489, 3) := dLx dLc_9 (i := 252) (q := (3938, (.goto 489, 3))) rfl
theorem dL_law_3941 : decode cL_law 3941 = .ok (.aload_n 1, 1) := dLx dLc_9 (i := 253) (q := (3941, (.aload_n 1, 1))) rfl
theorem dL_law_3942 : decode cL_law 3942 = .ok (.aload_n 0, 1) := dLx dLc_9 (i := 254) (q := (3942, (.aload_n 0, 1))) rfl
theorem dL_law_3943 : decode cL_law 3943 = .ok (.iload 4, 2) := dLx dLc_9 (i := 255) (q := (3943, (.iload 4, 2))) rfl
theorem dL_law_3945 : decode cL_law 3945 = .ok (.iconst 1, 1) := dLx dLc_9 (i := 256) (q := (3945, (.iconst 1, 1))) rfl
theorem dL_law_3946 : decode cL_law 3946 = .ok (.iadd, 1) := dLx dLc_9 (i := 257) (q := (3946, (.iadd, 1))) rfl
theorem dL_law_3947 : decode cL_law 3947 = .ok (.iaload, 1) := dLx dLc_9 (i := 258) (q := (3947, (.iaload, 1))) rfl
theorem dL_law_3948 : decode cL_law 3948 = .ok (.aload_n 0, 1) := dLx dLc_9 (i := 259) (q := (3948, (.aload_n 0, 1))) rfl
theorem dL_law_3949 : decode cL_law 3949 = .ok (.iload 4, 2) := dLx dLc_9 (i := 260) (q := (3949, (.iload 4, 2))) rfl
theorem dL_law_3951 : decode cL_law 3951 = .ok (.iconst 2, 1) := dLx dLc_9 (i := 261) (q := (3951, (.iconst 2, 1))) rfl
theorem dL_law_3952 : decode cL_law 3952 = .ok (.iadd, 1) := dLx dLc_9 (i := 262) (q := (3952, (.iadd, 1))) rfl
theorem dL_law_3953 : decode cL_law 3953 = .ok (.iaload, 1) := dLx dLc_9 (i := 263) (q := (3953, (.iaload, 1))) rfl
theorem dL_law_3954 : decode cL_law 3954 = .ok (.aload_n 3, 1) := dLx dLc_9 (i := 264) (q := (3954, (.aload_n 3, 1))) rfl
theorem dL_law_3955 : decode cL_law 3955 = .ok (.invokestatic 376, 3) := dLx dLc_9 (i := 265) (q := (3955, (.invokestatic 376, 3))) rfl
theorem dL_law_3958 : decode cL_law 3958 = .ok (.istore 5, 2) := dLx dLc_9 (i := 266) (q := (3958, (.istore 5, 2))) rfl
theorem dL_law_3960 : decode cL_law 3960 = .ok (.aload_n 2, 1) := dLx dLc_9 (i := 267) (q := (3960, (.aload_n 2, 1))) rfl
theorem dL_law_3961 : decode cL_law 3961 = .ok (.aload_n 0, 1) := dLx dLc_9 (i := 268) (q := (3961, (.aload_n 0, 1))) rfl
theorem dL_law_3962 : decode cL_law 3962 = .ok (.iload 4, 2) := dLx dLc_9 (i := 269) (q := (3962, (.iload 4, 2))) rfl
theorem dL_law_3964 : decode cL_law 3964 = .ok (.iconst 1, 1) := dLx dLc_9 (i := 270) (q := (3964, (.iconst 1, 1))) rfl
theorem dL_law_3965 : decode cL_law 3965 = .ok (.iadd, 1) := dLx dLc_9 (i := 271) (q := (3965, (.iadd, 1))) rfl
theorem dL_law_3966 : decode cL_law 3966 = .ok (.iaload, 1) := dLx dLc_9 (i := 272) (q := (3966, (.iaload, 1))) rfl
theorem dL_law_3967 : decode cL_law 3967 = .ok (.aload_n 0, 1) := dLx dLc_9 (i := 273) (q := (3967, (.aload_n 0, 1))) rfl
theorem dL_law_3968 : decode cL_law 3968 = .ok (.iload 4, 2) := dLx dLc_9 (i := 274) (q := (3968, (.iload 4, 2))) rfl
theorem dL_law_3970 : decode cL_law 3970 = .ok (.iconst 2, 1) := dLx dLc_9 (i := 275) (q := (3970, (.iconst 2, 1))) rfl
theorem dL_law_3971 : decode cL_law 3971 = .ok (.iadd, 1) := dLx dLc_9 (i := 276) (q := (3971, (.iadd, 1))) rfl
theorem dL_law_3972 : decode cL_law 3972 = .ok (.iaload, 1) := dLx dLc_9 (i := 277) (q := (3972, (.iaload, 1))) rfl
theorem dL_law_3973 : decode cL_law 3973 = .ok (.invokevirtual 378, 3) := dLx dLc_9 (i := 278) (q := (3973, (.invokevirtual 378, 3))) rfl
theorem dL_law_3976 : decode cL_law 3976 = .ok (.istore 6, 2) := dLx dLc_9 (i := 279) (q := (3976, (.istore 6, 2))) rfl
theorem dL_law_3978 : decode cL_law 3978 = .ok (.aload_n 2, 1) := dLx dLc_9 (i := 280) (q := (3978, (.aload_n 2, 1))) rfl
theorem dL_law_3979 : decode cL_law 3979 = .ok (.invokevirtual 201, 3) := dLx dLc_9 (i := 281) (q := (3979, (.invokevirtual 201, 3))) rfl
theorem dL_law_3982 : decode cL_law 3982 = .ok (.iload 5, 2) := dLx dLc_9 (i := 282) (q := (3982, (.iload 5, 2))) rfl
theorem dL_law_3984 : decode cL_law 3984 = .ok (.if_icmp .eq 5, 3) := dLx dLc_9 (i := 283) (q := (3984, (.if_icmp .eq 5, 3))) rfl
theorem dL_law_3987 : decode cL_law 3987 = .ok (.iconst 0, 1) := dLx dLc_9 (i := 284) (q := (3987, (.iconst 0, 1))) rfl
theorem dL_law_3988 : decode cL_law 3988 = .ok (.ireturn, 1) := dLx dLc_9 (i := 285) (q := (3988, (.ireturn, 1))) rfl
theorem dL_law_3989 : decode cL_law 3989 = .ok (.iload 5, 2) := dLx dLc_9 (i := 286) (q := (3989, (.iload 5, 2))) rfl
theorem dL_law_3991 : decode cL_law 3991 = .ok (.ifCond .ne 22, 3) := dLx dLc_9 (i := 287) (q := (3991, (.ifCond .ne 22, 3))) rfl
theorem dL_law_3994 : decode cL_law 3994 = .ok (.aload_n 3, 1) := dLx dLc_9 (i := 288) (q := (3994, (.aload_n 3, 1))) rfl
theorem dL_law_3995 : decode cL_law 3995 = .ok (.iconst 0, 1) := dLx dLc_9 (i := 289) (q := (3995, (.iconst 0, 1))) rfl
theorem dL_law_3996 : decode cL_law 3996 = .ok (.laload, 1) := dLx dLc_9 (i := 290) (q := (3996, (.laload, 1))) rfl
theorem dL_law_3997 : decode cL_law 3997 = .ok (.iload 6, 2) := dLx dLc_9 (i := 291) (q := (3997, (.iload 6, 2))) rfl
theorem dL_law_3999 : decode cL_law 3999 = .ok (.ifCond .eq 7, 3) := dLx dLc_9 (i := 292) (q := (3999, (.ifCond .eq 7, 3))) rfl
theorem dL_law_4002 : decode cL_law 4002 = .ok (.lconst 1, 1) := dLx dLc_9 (i := 293) (q := (4002, (.lconst 1, 1))) rfl
theorem dL_law_4003 : decode cL_law 4003 = .ok (.goto 4, 3) := dLx dLc_9 (i := 294) (q := (4003, (.goto 4, 3))) rfl
theorem dL_law_4006 : decode cL_law 4006 = .ok (.lconst 0, 1) := dLx dLc_9 (i := 295) (q := (4006, (.lconst 0, 1))) rfl
theorem dL_law_4007 : decode cL_law 4007 = .ok (.lcmp, 1) := dLx dLc_9 (i := 296) (q := (4007, (.lcmp, 1))) rfl
theorem dL_law_4008 : decode cL_law 4008 = .ok (.ifCond .eq 5, 3) := dLx dLc_9 (i := 297) (q := (4008, (.ifCond .eq 5, 3))) rfl
theorem dL_law_4011 : decode cL_law 4011 = .ok (.iconst 0, 1) := dLx dLc_9 (i := 298) (q := (4011, (.iconst 0, 1))) rfl
theorem dL_law_4012 : decode cL_law 4012 = .ok (.ireturn, 1) := dLx dLc_9 (i := 299) (q := (4012, (.ireturn, 1))) rfl
def dLt_10 : List (Nat × (Instr × Nat)) := [(4013, (.goto 414, 3)), (4016, (.aload_n 1, 1)), (4017, (.invokevirtual 379, 3)), (4020, (.aload_n 2, 1)), (4021, (.invokevirtual 382, 3)), (4024, (.if_icmp .eq 403, 3)), (4027, (.iconst 0, 1)), (4028, (.ireturn, 1)), (4029, (.aload_n 1, 1)), (4030, (.invokevirtual 383, 3)), (4033, (.dstore 5, 2)), (4035, (.aload_n 2, 1)), (4036, (.invokevirtual 387, 3)), (4039, (.dstore 7, 2)), (4041, (.dload 5, 2)), (4043, (.dload 7, 2)), (4045, (.dcmp .l, 1)), (4046, (.ifCond .eq 21, 3)), (4049, (.dload 5, 2)), (4051, (.dload 5, 2)), (4053, (.dcmp .l, 1)), (4054, (.ifCond .eq 11, 3)), (4057, (.dload 7, 2)), (4059, (.dload 7, 2)), (4061, (.dcmp .l, 1)), (4062, (.ifCond .ne 5, 3)), (4065, (.iconst 0, 1)), (4066, (.ireturn, 1)), (4067, (.goto 360, 3)), (4070, (.aload_n 1, 1)), (4071, (.invokevirtual 388, 3)), (4074, (.aload_n 2, 1)), (4075, (.invokevirtual 391, 3)), (4078, (.if_icmp .eq 349, 3)), (4081, (.iconst 0, 1)), (4082, (.ireturn, 1)), (4083, (.aload_n 1, 1)), (4084, (.invokevirtual 392, 3)), (4087, (.aload_n 2, 1)), (4088, (.invokevirtual 395, 3)), (4091, (.if_icmp .eq 336, 3)), (4094, (.iconst 0, 1)), (4095, (.ireturn, 1)), (4096, (.aload_n 1, 1)), (4097, (.aload_n 0, 1)), (4098, (.iload 4, 2)), (4100, (.iconst 1, 1)), (4101, (.iadd, 1)), (4102, (.iaload, 1)), (4103, (.aload_n 3, 1)), (4104, (.invokestatic 396, 3)), (4107, (.istore 5, 2)), (4109, (.aload_n 2, 1)), (4110, (.aload_n 0, 1)), (4111, (.iload 4, 2)), (4113, (.iconst 1, 1)), (4114, (.iadd, 1)), (4115, (.iaload, 1)), (4116, (.invokevirtual 398, 3)), (4119, (.istore 6, 2)), (4121, (.aload_n 2, 1)), (4122, (.invokevirtual 201, 3)), (4125, (.iload 5, 2)), (4127, (.if_icmp .eq 5, 3)), (4130, (.iconst 0, 1)), (4131, (.ireturn, 1)), (4132, (.iload 5, 2)), (4134, (.ifCond .ne 15, 3)), (4137, (.aload_n 3, 1)), (4138, (.iconst 0, 1)), (4139, (.laload, 1)), (4140, (.iload 6, 2)), (4142, (.i2l, 1)), (4143, (.lcmp, 1)), (4144, (.ifCond .eq 5, 3)), (4147, (.iconst 0, 1)), (4148, (.ireturn, 1)), (4149, (.goto 278, 3)), (4152, (.aload_n 1, 1)), (4153, (.aload_n 0, 1)), (4154, (.iload 4, 2)), (4156, (.iconst 1, 1)), (4157, (.iadd, 1)), (4158, (.iaload, 1)), (4159, (.aload_n 3, 1)), (4160, (.invokestatic 399, 3)), (4163, (.istore 5, 2)), (4165, (.aload_n 2, 1)), (4166, (.aload_n 0, 1)), (4167, (.iload 4, 2)), (4169, (.iconst 1, 1)), (4170, (.iadd, 1)), (4171, (.iaload, 1)), (4172, (.invokevirtual 401, 3)), (4175, (.istore 6, 2)), (4177, (.aload_n 2, 1)), (4178, (.invokevirtual 201, 3)), (4181, (.iload 5, 2)), (4183, (.if_icmp .eq 5, 3)), (4186, (.iconst 0, 1)), (4187, (.ireturn, 1)), (4188, (.iload 5, 2)), (4190, (.ifCond .ne 15, 3)), (4193, (.aload_n 3, 1)), (4194, (.iconst 0, 1)), (4195, (.laload, 1)), (4196, (.iload 6, 2)), (4198, (.i2l, 1)), (4199, (.lcmp, 1)), (4200, (.ifCond .eq 5, 3)), (4203, (.iconst 0, 1)), (4204, (.ireturn, 1)), (4205, (.goto 222, 3)), (4208, (.aload_n 1, 1)), (4209, (.aload_n 0, 1)), (4210, (.iload 4, 2)), (4212, (.iconst 1, 1)), (4213, (.iadd, 1)), (4214, (.iaload, 1)), (4215, (.aload_n 3, 1)), (4216, (.invokestatic 402, 3)), (4219, (.istore 5, 2)), (4221, (.aload_n 2, 1)), (4222, (.aload_n 0, 1)), (4223, (.iload 4, 2)), (4225, (.iconst 1, 1)), (4226, (.iadd, 1)), (4227, (.iaload, 1)), (4228, (.invokevirtual 404, 3)), (4231, (.istore 6, 2)), (4233, (.aload_n 2, 1)), (4234, (.invokevirtual 201, 3)), (4237, (.iload 5, 2)), (4239, (.if_icmp .eq 5, 3)), (4242, (.iconst 0, 1)), (4243, (.ireturn, 1)), (4244, (.iload 5, 2)), (4246, (.ifCond .ne 22, 3)), (4249, (.aload_n 3, 1)), (4250, (.iconst 0, 1)), (4251, (.laload, 1)), (4252, (.iload 6, 2)), (4254, (.ifCond .eq 7, 3)), (4257, (.lconst 1, 1)), (4258, (.goto 4, 3)), (4261, (.lconst 0, 1)), (4262, (.lcmp, 1)), (4263, (.ifCond .eq 5, 3)), (4266, (.iconst 0, 1)), (4267, (.ireturn, 1)), (4268, (.goto 159, 3)), (4271, (.aload_n 1, 1)), (4272, (.aload_n 3, 1)), (4273, (.invokestatic 405, 3)), (4276, (.istore 5, 2)), (4278, (.aload_n 2, 1)), (4279, (.invokevirtual 407, 3)), (4282, (.istore 6, 2)), (4284, (.aload_n 2, 1)), (4285, (.invokevirtual 201, 3)), (4288, (.iload 5, 2)), (4290, (.if_icmp .eq 5, 3)), (4293, (.iconst 0, 1)), (4294, (.ireturn, 1)), (4295, (.iload 5, 2)), (4297, (.ifCond .ne 15, 3)), (4300, (.aload_n 3, 1)), (4301, (.iconst 0, 1)), (4302, (.laload, 1)), (4303, (.iload 6, 2)), (4305, (.i2l, 1)), (4306, (.lcmp, 1)), (4307, (.ifCond .eq 5, 3)), (4310, (.iconst 0, 1)), (4311, (.ireturn, 1)), (4312, (.goto 115, 3)), (4315, (.aload_n 1, 1)), (4316, (.aload_n 0, 1)), (4317, (.iload 4, 2)), (4319, (.iconst 1, 1)), (4320, (.iadd, 1)), (4321, (.iaload, 1)), (4322, (.aload_n 3, 1)), (4323, (.invokestatic 408, 3)), (4326, (.istore 5, 2)), (4328, (.aload_n 2, 1)), (4329, (.aload_n 0, 1)), (4330, (.iload 4, 2)), (4332, (.iconst 1, 1)), (4333, (.iadd, 1)), (4334, (.iaload, 1)), (4335, (.invokevirtual 410, 3)), (4338, (.istore 6, 2)), (4340, (.aload_n 2, 1)), (4341, (.invokevirtual 201, 3)), (4344, (.iload 5, 2)), (4346, (.if_icmp .eq 5, 3)), (4349, (.iconst 0, 1)), (4350, (.ireturn, 1)), (4351, (.iload 5, 2)), (4353, (.ifCond .ne 15, 3)), (4356, (.aload_n 3, 1)), (4357, (.iconst 0, 1)), (4358, (.laload, 1)), (4359, (.iload 6, 2)), (4361, (.i2l, 1)), (4362, (.lcmp, 1)), (4363, (.ifCond .eq 5, 3)), (4366, (.iconst 0, 1)), (4367, (.ireturn, 1)), (4368, (.goto 59, 3)), (4371, (.aload_n 1, 1)), (4372, (.aload_n 0, 1)), (4373, (.iload 4, 2)), (4375, (.iconst 1, 1)), (4376, (.iadd, 1)), (4377, (.iaload, 1)), (4378, (.aload_n 3, 1)), (4379, (.invokestatic 411, 3)), (4382, (.istore 5, 2)), (4384, (.aload_n 2, 1)), (4385, (.aload_n 0, 1)), (4386, (.iload 4, 2)), (4388, (.iconst 1, 1)), (4389, (.iadd, 1)), (4390, (.iaload, 1)), (4391, (.invokevirtual 413, 3)), (4394, (.istore 6, 2)), (4396, (.aload_n 2, 1)), (4397, (.invokevirtual 201, 3)), (4400, (.iload 5, 2)), (4402, (.if_icmp .eq 5, 3)), (4405, (.iconst 0, 1)), (4406, (.ireturn, 1)), (4407, (.iload 5, 2)), (4409, (.ifCond .ne 15, 3)), (4412, (.aload_n 3, 1)), (4413, (.iconst 0, 1)), (4414, (.laload, 1)), (4415, (.iload 6, 2)), (4417, (.i2l, 1)), (4418, (.lcmp, 1)), (4419, (.ifCond .eq 5, 3)), (4422, (.iconst 0, 1)), (4423, (.ireturn, 1)), (4424, (.goto 3, 3))]
set_option maxRecDepth 100000 in
theorem dLc_10 : ldg (cL_law.data.toList.drop 4013) 0 4013 dLt_10 = true := by decide +kernel
theorem dL_law_4013 : decode cL_law 4013 = .ok (.goto 414, 3) := dLx dLc_10 (i := 0) (q := (4013, (.goto 414, 3))) rfl
theorem dL_law_4016 : decode cL_law 4016 = .ok (.aload_n 1, 1) := dLx dLc_10 (i := 1) (q := (4016, (.aload_n 1, 1))) rfl
theorem dL_law_4017 : decode cL_law 4017 = .ok (.invokevirtual 379, 3) := dLx dLc_10 (i := 2) (q := (4017, (.invokevirtual 379, 3))) rfl
theorem dL_law_4020 : decode cL_law 4020 = .ok (.aload_n 2, 1) := dLx dLc_10 (i := 3) (q := (4020, (.aload_n 2, 1))) rfl
theorem dL_law_4021 : decode cL_law 4021 = .ok (.invokevirtual 382, 3) := dLx dLc_10 (i := 4) (q := (4021, (.invokevirtual 382, 3))) rfl
theorem dL_law_4024 : decode cL_law 4024 = .ok (.if_icmp .eq 403, 3) := dLx dLc_10 (i := 5) (q := (4024, (.if_icmp .eq 403, 3))) rfl
theorem dL_law_4027 : decode cL_law 4027 = .ok (.iconst 0, 1) := dLx dLc_10 (i := 6) (q := (4027, (.iconst 0, 1))) rfl
theorem dL_law_4028 : decode cL_law 4028 = .ok (.ireturn, 1) := dLx dLc_10 (i := 7) (q := (4028, (.ireturn, 1))) rfl
theorem dL_law_4029 : decode cL_law 4029 = .ok (.aload_n 1, 1) := dLx dLc_10 (i := 8) (q := (4029, (.aload_n 1, 1))) rfl
theorem dL_law_4030 : decode cL_law 4030 = .ok (.invokevirtual 383, 3) := dLx dLc_10 (i := 9) (q := (4030, (.invokevirtual 383, 3))) rfl
theorem dL_law_4033 : decode cL_law 4033 = .ok (.dstore 5, 2) := dLx dLc_10 (i := 10) (q := (4033, (.dstore 5, 2))) rfl
theorem dL_law_4035 : decode cL_law 4035 = .ok (.aload_n 2, 1) := dLx dLc_10 (i := 11) (q := (4035, (.aload_n 2, 1))) rfl
theorem dL_law_4036 : decode cL_law 4036 = .ok (.invokevirtual 387, 3) := dLx dLc_10 (i := 12) (q := (4036, (.invokevirtual 387, 3))) rfl
theorem dL_law_4039 : decode cL_law 4039 = .ok (.dstore 7, 2) := dLx dLc_10 (i := 13) (q := (4039, (.dstore 7, 2))) rfl
theorem dL_law_4041 : decode cL_law 4041 = .ok (.dload 5, 2) := dLx dLc_10 (i := 14) (q := (4041, (.dload 5, 2))) rfl
theorem dL_law_4043 : decode cL_law 4043 = .ok (.dload 7, 2) := dLx dLc_10 (i := 15) (q := (4043, (.dload 7, 2))) rfl
theorem dL_law_4045 : decode cL_law 4045 = .ok (.dcmp .l, 1) := dLx dLc_10 (i := 16) (q := (4045, (.dcmp .l, 1))) rfl
theorem dL_law_4046 : decode cL_law 4046 = .ok (.ifCond .eq 21, 3) := dLx dLc_10 (i := 17) (q := (4046, (.ifCond .eq 21, 3))) rfl
theorem dL_law_4049 : decode cL_law 4049 = .ok (.dload 5, 2) := dLx dLc_10 (i := 18) (q := (4049, (.dload 5, 2))) rfl
theorem dL_law_4051 : decode cL_law 4051 = .ok (.dload 5, 2) := dLx dLc_10 (i := 19) (q := (4051, (.dload 5, 2))) rfl
theorem dL_law_4053 : decode cL_law 4053 = .ok (.dcmp .l, 1) := dLx dLc_10 (i := 20) (q := (4053, (.dcmp .l, 1))) rfl
theorem dL_law_4054 : decode cL_law 4054 = .ok (.ifCond .eq 11, 3) := dLx dLc_10 (i := 21) (q := (4054, (.ifCond .eq 11, 3))) rfl
theorem dL_law_4057 : decode cL_law 4057 = .ok (.dload 7, 2) := dLx dLc_10 (i := 22) (q := (4057, (.dload 7, 2))) rfl
theorem dL_law_4059 : decode cL_law 4059 = .ok (.dload 7, 2) := dLx dLc_10 (i := 23) (q := (4059, (.dload 7, 2))) rfl
theorem dL_law_4061 : decode cL_law 4061 = .ok (.dcmp .l, 1) := dLx dLc_10 (i := 24) (q := (4061, (.dcmp .l, 1))) rfl
theorem dL_law_4062 : decode cL_law 4062 = .ok (.ifCond .ne 5, 3) := dLx dLc_10 (i := 25) (q := (4062, (.ifCond .ne 5, 3))) rfl
theorem dL_law_4065 : decode cL_law 4065 = .ok (.iconst 0, 1) := dLx dLc_10 (i := 26) (q := (4065, (.iconst 0, 1))) rfl
theorem dL_law_4066 : decode cL_law 4066 = .ok (.ireturn, 1) := dLx dLc_10 (i := 27) (q := (4066, (.ireturn, 1))) rfl
theorem dL_law_4067 : decode cL_law 4067 = .ok (.goto 360, 3) := dLx dLc_10 (i := 28) (q := (4067, (.goto 360, 3))) rfl
theorem dL_law_4070 : decode cL_law 4070 = .ok (.aload_n 1, 1) := dLx dLc_10 (i := 29) (q := (4070, (.aload_n 1, 1))) rfl
theorem dL_law_4071 : decode cL_law 4071 = .ok (.invokevirtual 388, 3) := dLx dLc_10 (i := 30) (q := (4071, (.invokevirtual 388, 3))) rfl
theorem dL_law_4074 : decode cL_law 4074 = .ok (.aload_n 2, 1) := dLx dLc_10 (i := 31) (q := (4074, (.aload_n 2, 1))) rfl
theorem dL_law_4075 : decode cL_law 4075 = .ok (.invokevirtual 391, 3) := dLx dLc_10 (i := 32) (q := (4075, (.invokevirtual 391, 3))) rfl
theorem dL_law_4078 : decode cL_law 4078 = .ok (.if_icmp .eq 349, 3) := dLx dLc_10 (i := 33) (q := (4078, (.if_icmp .eq 349, 3))) rfl
theorem dL_law_4081 : decode cL_law 4081 = .ok (.iconst 0, 1) := dLx dLc_10 (i := 34) (q := (4081, (.iconst 0, 1))) rfl
theorem dL_law_4082 : decode cL_law 4082 = .ok (.ireturn, 1) := dLx dLc_10 (i := 35) (q := (4082, (.ireturn, 1))) rfl
theorem dL_law_4083 : decode cL_law 4083 = .ok (.aload_n 1, 1) := dLx dLc_10 (i := 36) (q := (4083, (.aload_n 1, 1))) rfl
theorem dL_law_4084 : decode cL_law 4084 = .ok (.invokevirtual 392, 3) := dLx dLc_10 (i := 37) (q := (4084, (.invokevirtual 392, 3))) rfl
theorem dL_law_4087 : decode cL_law 4087 = .ok (.aload_n 2, 1) := dLx dLc_10 (i := 38) (q := (4087, (.aload_n 2, 1))) rfl
theorem dL_law_4088 : decode cL_law 4088 = .ok (.invokevirtual 395, 3) := dLx dLc_10 (i := 39) (q := (4088, (.invokevirtual 395, 3))) rfl
theorem dL_law_4091 : decode cL_law 4091 = .ok (.if_icmp .eq 336, 3) := dLx dLc_10 (i := 40) (q := (4091, (.if_icmp .eq 336, 3))) rfl
theorem dL_law_4094 : decode cL_law 4094 = .ok (.iconst 0, 1) := dLx dLc_10 (i := 41) (q := (4094, (.iconst 0, 1))) rfl
theorem dL_law_4095 : decode cL_law 4095 = .ok (.ireturn, 1) := dLx dLc_10 (i := 42) (q := (4095, (.ireturn, 1))) rfl
theorem dL_law_4096 : decode cL_law 4096 = .ok (.aload_n 1, 1) := dLx dLc_10 (i := 43) (q := (4096, (.aload_n 1, 1))) rfl
theorem dL_law_4097 : decode cL_law 4097 = .ok (.aload_n 0, 1) := dLx dLc_10 (i := 44) (q := (4097, (.aload_n 0, 1))) rfl
theorem dL_law_4098 : decode cL_law 4098 = .ok (.iload 4, 2) := dLx dLc_10 (i := 45) (q := (4098, (.iload 4, 2))) rfl
theorem dL_law_4100 : decode cL_law 4100 = .ok (.iconst 1, 1) := dLx dLc_10 (i := 46) (q := (4100, (.iconst 1, 1))) rfl
theorem dL_law_4101 : decode cL_law 4101 = .ok (.iadd, 1) := dLx dLc_10 (i := 47) (q := (4101, (.iadd, 1))) rfl
theorem dL_law_4102 : decode cL_law 4102 = .ok (.iaload, 1) := dLx dLc_10 (i := 48) (q := (4102, (.iaload, 1))) rfl
theorem dL_law_4103 : decode cL_law 4103 = .ok (.aload_n 3, 1) := dLx dLc_10 (i := 49) (q := (4103, (.aload_n 3, 1))) rfl
theorem dL_law_4104 : decode cL_law 4104 = .ok (.invokestatic 396, 3) := dLx dLc_10 (i := 50) (q := (4104, (.invokestatic 396, 3))) rfl
theorem dL_law_4107 : decode cL_law 4107 = .ok (.istore 5, 2) := dLx dLc_10 (i := 51) (q := (4107, (.istore 5, 2))) rfl
theorem dL_law_4109 : decode cL_law 4109 = .ok (.aload_n 2, 1) := dLx dLc_10 (i := 52) (q := (4109, (.aload_n 2, 1))) rfl
theorem dL_law_4110 : decode cL_law 4110 = .ok (.aload_n 0, 1) := dLx dLc_10 (i := 53) (q := (4110, (.aload_n 0, 1))) rfl
theorem dL_law_4111 : decode cL_law 4111 = .ok (.iload 4, 2) := dLx dLc_10 (i := 54) (q := (4111, (.iload 4, 2))) rfl
theorem dL_law_4113 : decode cL_law 4113 = .ok (.iconst 1, 1) := dLx dLc_10 (i := 55) (q := (4113, (.iconst 1, 1))) rfl
theorem dL_law_4114 : decode cL_law 4114 = .ok (.iadd, 1) := dLx dLc_10 (i := 56) (q := (4114, (.iadd, 1))) rfl
theorem dL_law_4115 : decode cL_law 4115 = .ok (.iaload, 1) := dLx dLc_10 (i := 57) (q := (4115, (.iaload, 1))) rfl
theorem dL_law_4116 : decode cL_law 4116 = .ok (.invokevirtual 398, 3) := dLx dLc_10 (i := 58) (q := (4116, (.invokevirtual 398, 3))) rfl
theorem dL_law_4119 : decode cL_law 4119 = .ok (.istore 6, 2) := dLx dLc_10 (i := 59) (q := (4119, (.istore 6, 2))) rfl
theorem dL_law_4121 : decode cL_law 4121 = .ok (.aload_n 2, 1) := dLx dLc_10 (i := 60) (q := (4121, (.aload_n 2, 1))) rfl
theorem dL_law_4122 : decode cL_law 4122 = .ok (.invokevirtual 201, 3) := dLx dLc_10 (i := 61) (q := (4122, (.invokevirtual 201, 3))) rfl
theorem dL_law_4125 : decode cL_law 4125 = .ok (.iload 5, 2) := dLx dLc_10 (i := 62) (q := (4125, (.iload 5, 2))) rfl
theorem dL_law_4127 : decode cL_law 4127 = .ok (.if_icmp .eq 5, 3) := dLx dLc_10 (i := 63) (q := (4127, (.if_icmp .eq 5, 3))) rfl
theorem dL_law_4130 : decode cL_law 4130 = .ok (.iconst 0, 1) := dLx dLc_10 (i := 64) (q := (4130, (.iconst 0, 1))) rfl
theorem dL_law_4131 : decode cL_law 4131 = .ok (.ireturn, 1) := dLx dLc_10 (i := 65) (q := (4131, (.ireturn, 1))) rfl
theorem dL_law_4132 : decode cL_law 4132 = .ok (.iload 5, 2) := dLx dLc_10 (i := 66) (q := (4132, (.iload 5, 2))) rfl
theorem dL_law_4134 : decode cL_law 4134 = .ok (.ifCond .ne 15, 3) := dLx dLc_10 (i := 67) (q := (4134, (.ifCond .ne 15, 3))) rfl
theorem dL_law_4137 : decode cL_law 4137 = .ok (.aload_n 3, 1) := dLx dLc_10 (i := 68) (q := (4137, (.aload_n 3, 1))) rfl
theorem dL_law_4138 : decode cL_law 4138 = .ok (.iconst 0, 1) := dLx dLc_10 (i := 69) (q := (4138, (.iconst 0, 1))) rfl
theorem dL_law_4139 : decode cL_law 4139 = .ok (.laload, 1) := dLx dLc_10 (i := 70) (q := (4139, (.laload, 1))) rfl
theorem dL_law_4140 : decode cL_law 4140 = .ok (.iload 6, 2) := dLx dLc_10 (i := 71) (q := (4140, (.iload 6, 2))) rfl
theorem dL_law_4142 : decode cL_law 4142 = .ok (.i2l, 1) := dLx dLc_10 (i := 72) (q := (4142, (.i2l, 1))) rfl
theorem dL_law_4143 : decode cL_law 4143 = .ok (.lcmp, 1) := dLx dLc_10 (i := 73) (q := (4143, (.lcmp, 1))) rfl
theorem dL_law_4144 : decode cL_law 4144 = .ok (.ifCond .eq 5, 3) := dLx dLc_10 (i := 74) (q := (4144, (.ifCond .eq 5, 3))) rfl
theorem dL_law_4147 : decode cL_law 4147 = .ok (.iconst 0, 1) := dLx dLc_10 (i := 75) (q := (4147, (.iconst 0, 1))) rfl
theorem dL_law_4148 : decode cL_law 4148 = .ok (.ireturn, 1) := dLx dLc_10 (i := 76) (q := (4148, (.ireturn, 1))) rfl
theorem dL_law_4149 : decode cL_law 4149 = .ok (.goto 278, 3) := dLx dLc_10 (i := 77) (q := (4149, (.goto 278, 3))) rfl
theorem dL_law_4152 : decode cL_law 4152 = .ok (.aload_n 1, 1) := dLx dLc_10 (i := 78) (q := (4152, (.aload_n 1, 1))) rfl
theorem dL_law_4153 : decode cL_law 4153 = .ok (.aload_n 0, 1) := dLx dLc_10 (i := 79) (q := (4153, (.aload_n 0, 1))) rfl
theorem dL_law_4154 : decode cL_law 4154 = .ok (.iload 4, 2) := dLx dLc_10 (i := 80) (q := (4154, (.iload 4, 2))) rfl
theorem dL_law_4156 : decode cL_law 4156 = .ok (.iconst 1, 1) := dLx dLc_10 (i := 81) (q := (4156, (.iconst 1, 1))) rfl
theorem dL_law_4157 : decode cL_law 4157 = .ok (.iadd, 1) := dLx dLc_10 (i := 82) (q := (4157, (.iadd, 1))) rfl
theorem dL_law_4158 : decode cL_law 4158 = .ok (.iaload, 1) := dLx dLc_10 (i := 83) (q := (4158, (.iaload, 1))) rfl
theorem dL_law_4159 : decode cL_law 4159 = .ok (.aload_n 3, 1) := dLx dLc_10 (i := 84) (q := (4159, (.aload_n 3, 1))) rfl
theorem dL_law_4160 : decode cL_law 4160 = .ok (.invokestatic 399, 3) := dLx dLc_10 (i := 85) (q := (4160, (.invokestatic 399, 3))) rfl
theorem dL_law_4163 : decode cL_law 4163 = .ok (.istore 5, 2) := dLx dLc_10 (i := 86) (q := (4163, (.istore 5, 2))) rfl
theorem dL_law_4165 : decode cL_law 4165 = .ok (.aload_n 2, 1) := dLx dLc_10 (i := 87) (q := (4165, (.aload_n 2, 1))) rfl
theorem dL_law_4166 : decode cL_law 4166 = .ok (.aload_n 0, 1) := dLx dLc_10 (i := 88) (q := (4166, (.aload_n 0, 1))) rfl
theorem dL_law_4167 : decode cL_law 4167 = .ok (.iload 4, 2) := dLx dLc_10 (i := 89) (q := (4167, (.iload 4, 2))) rfl
theorem dL_law_4169 : decode cL_law 4169 = .ok (.iconst 1, 1) := dLx dLc_10 (i := 90) (q := (4169, (.iconst 1, 1))) rfl
theorem dL_law_4170 : decode cL_law 4170 = .ok (.iadd, 1) := dLx dLc_10 (i := 91) (q := (4170, (.iadd, 1))) rfl
theorem dL_law_4171 : decode cL_law 4171 = .ok (.iaload, 1) := dLx dLc_10 (i := 92) (q := (4171, (.iaload, 1))) rfl
theorem dL_law_4172 : decode cL_law 4172 = .ok (.invokevirtual 401, 3) := dLx dLc_10 (i := 93) (q := (4172, (.invokevirtual 401, 3))) rfl
theorem dL_law_4175 : decode cL_law 4175 = .ok (.istore 6, 2) := dLx dLc_10 (i := 94) (q := (4175, (.istore 6, 2))) rfl
theorem dL_law_4177 : decode cL_law 4177 = .ok (.aload_n 2, 1) := dLx dLc_10 (i := 95) (q := (4177, (.aload_n 2, 1))) rfl
theorem dL_law_4178 : decode cL_law 4178 = .ok (.invokevirtual 201, 3) := dLx dLc_10 (i := 96) (q := (4178, (.invokevirtual 201, 3))) rfl
theorem dL_law_4181 : decode cL_law 4181 = .ok (.iload 5, 2) := dLx dLc_10 (i := 97) (q := (4181, (.iload 5, 2))) rfl
theorem dL_law_4183 : decode cL_law 4183 = .ok (.if_icmp .eq 5, 3) := dLx dLc_10 (i := 98) (q := (4183, (.if_icmp .eq 5, 3))) rfl
theorem dL_law_4186 : decode cL_law 4186 = .ok (.iconst 0, 1) := dLx dLc_10 (i := 99) (q := (4186, (.iconst 0, 1))) rfl
theorem dL_law_4187 : decode cL_law 4187 = .ok (.ireturn, 1) := dLx dLc_10 (i := 100) (q := (4187, (.ireturn, 1))) rfl
theorem dL_law_4188 : decode cL_law 4188 = .ok (.iload 5, 2) := dLx dLc_10 (i := 101) (q := (4188, (.iload 5, 2))) rfl
theorem dL_law_4190 : decode cL_law 4190 = .ok (.ifCond .ne 15, 3) := dLx dLc_10 (i := 102) (q := (4190, (.ifCond .ne 15, 3))) rfl
theorem dL_law_4193 : decode cL_law 4193 = .ok (.aload_n 3, 1) := dLx dLc_10 (i := 103) (q := (4193, (.aload_n 3, 1))) rfl
theorem dL_law_4194 : decode cL_law 4194 = .ok (.iconst 0, 1) := dLx dLc_10 (i := 104) (q := (4194, (.iconst 0, 1))) rfl
theorem dL_law_4195 : decode cL_law 4195 = .ok (.laload, 1) := dLx dLc_10 (i := 105) (q := (4195, (.laload, 1))) rfl
theorem dL_law_4196 : decode cL_law 4196 = .ok (.iload 6, 2) := dLx dLc_10 (i := 106) (q := (4196, (.iload 6, 2))) rfl
theorem dL_law_4198 : decode cL_law 4198 = .ok (.i2l, 1) := dLx dLc_10 (i := 107) (q := (4198, (.i2l, 1))) rfl
theorem dL_law_4199 : decode cL_law 4199 = .ok (.lcmp, 1) := dLx dLc_10 (i := 108) (q := (4199, (.lcmp, 1))) rfl
theorem dL_law_4200 : decode cL_law 4200 = .ok (.ifCond .eq 5, 3) := dLx dLc_10 (i := 109) (q := (4200, (.ifCond .eq 5, 3))) rfl
theorem dL_law_4203 : decode cL_law 4203 = .ok (.iconst 0, 1) := dLx dLc_10 (i := 110) (q := (4203, (.iconst 0, 1))) rfl
theorem dL_law_4204 : decode cL_law 4204 = .ok (.ireturn, 1) := dLx dLc_10 (i := 111) (q := (4204, (.ireturn, 1))) rfl
theorem dL_law_4205 : decode cL_law 4205 = .ok (.goto 222, 3) := dLx dLc_10 (i := 112) (q := (4205, (.goto 222, 3))) rfl
theorem dL_law_4208 : decode cL_law 4208 = .ok (.aload_n 1, 1) := dLx dLc_10 (i := 113) (q := (4208, (.aload_n 1, 1))) rfl
theorem dL_law_4209 : decode cL_law 4209 = .ok (.aload_n 0, 1) := dLx dLc_10 (i := 114) (q := (4209, (.aload_n 0, 1))) rfl
theorem dL_law_4210 : decode cL_law 4210 = .ok (.iload 4, 2) := dLx dLc_10 (i := 115) (q := (4210, (.iload 4, 2))) rfl
theorem dL_law_4212 : decode cL_law 4212 = .ok (.iconst 1, 1) := dLx dLc_10 (i := 116) (q := (4212, (.iconst 1, 1))) rfl
theorem dL_law_4213 : decode cL_law 4213 = .ok (.iadd, 1) := dLx dLc_10 (i := 117) (q := (4213, (.iadd, 1))) rfl
theorem dL_law_4214 : decode cL_law 4214 = .ok (.iaload, 1) := dLx dLc_10 (i := 118) (q := (4214, (.iaload, 1))) rfl
theorem dL_law_4215 : decode cL_law 4215 = .ok (.aload_n 3, 1) := dLx dLc_10 (i := 119) (q := (4215, (.aload_n 3, 1))) rfl
theorem dL_law_4216 : decode cL_law 4216 = .ok (.invokestatic 402, 3) := dLx dLc_10 (i := 120) (q := (4216, (.invokestatic 402, 3))) rfl
theorem dL_law_4219 : decode cL_law 4219 = .ok (.istore 5, 2) := dLx dLc_10 (i := 121) (q := (4219, (.istore 5, 2))) rfl
theorem dL_law_4221 : decode cL_law 4221 = .ok (.aload_n 2, 1) := dLx dLc_10 (i := 122) (q := (4221, (.aload_n 2, 1))) rfl
theorem dL_law_4222 : decode cL_law 4222 = .ok (.aload_n 0, 1) := dLx dLc_10 (i := 123) (q := (4222, (.aload_n 0, 1))) rfl
theorem dL_law_4223 : decode cL_law 4223 = .ok (.iload 4, 2) := dLx dLc_10 (i := 124) (q := (4223, (.iload 4, 2))) rfl
theorem dL_law_4225 : decode cL_law 4225 = .ok (.iconst 1, 1) := dLx dLc_10 (i := 125) (q := (4225, (.iconst 1, 1))) rfl
theorem dL_law_4226 : decode cL_law 4226 = .ok (.iadd, 1) := dLx dLc_10 (i := 126) (q := (4226, (.iadd, 1))) rfl
theorem dL_law_4227 : decode cL_law 4227 = .ok (.iaload, 1) := dLx dLc_10 (i := 127) (q := (4227, (.iaload, 1))) rfl
theorem dL_law_4228 : decode cL_law 4228 = .ok (.invokevirtual 404, 3) := dLx dLc_10 (i := 128) (q := (4228, (.invokevirtual 404, 3))) rfl
theorem dL_law_4231 : decode cL_law 4231 = .ok (.istore 6, 2) := dLx dLc_10 (i := 129) (q := (4231, (.istore 6, 2))) rfl
theorem dL_law_4233 : decode cL_law 4233 = .ok (.aload_n 2, 1) := dLx dLc_10 (i := 130) (q := (4233, (.aload_n 2, 1))) rfl
theorem dL_law_4234 : decode cL_law 4234 = .ok (.invokevirtual 201, 3) := dLx dLc_10 (i := 131) (q := (4234, (.invokevirtual 201, 3))) rfl
theorem dL_law_4237 : decode cL_law 4237 = .ok (.iload 5, 2) := dLx dLc_10 (i := 132) (q := (4237, (.iload 5, 2))) rfl
theorem dL_law_4239 : decode cL_law 4239 = .ok (.if_icmp .eq 5, 3) := dLx dLc_10 (i := 133) (q := (4239, (.if_icmp .eq 5, 3))) rfl
theorem dL_law_4242 : decode cL_law 4242 = .ok (.iconst 0, 1) := dLx dLc_10 (i := 134) (q := (4242, (.iconst 0, 1))) rfl
theorem dL_law_4243 : decode cL_law 4243 = .ok (.ireturn, 1) := dLx dLc_10 (i := 135) (q := (4243, (.ireturn, 1))) rfl
theorem dL_law_4244 : decode cL_law 4244 = .ok (.iload 5, 2) := dLx dLc_10 (i := 136) (q := (4244, (.iload 5, 2))) rfl
theorem dL_law_4246 : decode cL_law 4246 = .ok (.ifCond .ne 22, 3) := dLx dLc_10 (i := 137) (q := (4246, (.ifCond .ne 22, 3))) rfl
theorem dL_law_4249 : decode cL_law 4249 = .ok (.aload_n 3, 1) := dLx dLc_10 (i := 138) (q := (4249, (.aload_n 3, 1))) rfl
theorem dL_law_4250 : decode cL_law 4250 = .ok (.iconst 0, 1) := dLx dLc_10 (i := 139) (q := (4250, (.iconst 0, 1))) rfl
theorem dL_law_4251 : decode cL_law 4251 = .ok (.laload, 1) := dLx dLc_10 (i := 140) (q := (4251, (.laload, 1))) rfl
theorem dL_law_4252 : decode cL_law 4252 = .ok (.iload 6, 2) := dLx dLc_10 (i := 141) (q := (4252, (.iload 6, 2))) rfl
theorem dL_law_4254 : decode cL_law 4254 = .ok (.ifCond .eq 7, 3) := dLx dLc_10 (i := 142) (q := (4254, (.ifCond .eq 7, 3))) rfl
theorem dL_law_4257 : decode cL_law 4257 = .ok (.lconst 1, 1) := dLx dLc_10 (i := 143) (q := (4257, (.lconst 1, 1))) rfl
theorem dL_law_4258 : decode cL_law 4258 = .ok (.goto 4, 3) := dLx dLc_10 (i := 144) (q := (4258, (.goto 4, 3))) rfl
theorem dL_law_4261 : decode cL_law 4261 = .ok (.lconst 0, 1) := dLx dLc_10 (i := 145) (q := (4261, (.lconst 0, 1))) rfl
theorem dL_law_4262 : decode cL_law 4262 = .ok (.lcmp, 1) := dLx dLc_10 (i := 146) (q := (4262, (.lcmp, 1))) rfl
theorem dL_law_4263 : decode cL_law 4263 = .ok (.ifCond .eq 5, 3) := dLx dLc_10 (i := 147) (q := (4263, (.ifCond .eq 5, 3))) rfl
theorem dL_law_4266 : decode cL_law 4266 = .ok (.iconst 0, 1) := dLx dLc_10 (i := 148) (q := (4266, (.iconst 0, 1))) rfl
theorem dL_law_4267 : decode cL_law 4267 = .ok (.ireturn, 1) := dLx dLc_10 (i := 149) (q := (4267, (.ireturn, 1))) rfl
theorem dL_law_4268 : decode cL_law 4268 = .ok (.goto 159, 3) := dLx dLc_10 (i := 150) (q := (4268, (.goto 159, 3))) rfl
theorem dL_law_4271 : decode cL_law 4271 = .ok (.aload_n 1, 1) := dLx dLc_10 (i := 151) (q := (4271, (.aload_n 1, 1))) rfl
theorem dL_law_4272 : decode cL_law 4272 = .ok (.aload_n 3, 1) := dLx dLc_10 (i := 152) (q := (4272, (.aload_n 3, 1))) rfl
theorem dL_law_4273 : decode cL_law 4273 = .ok (.invokestatic 405, 3) := dLx dLc_10 (i := 153) (q := (4273, (.invokestatic 405, 3))) rfl
theorem dL_law_4276 : decode cL_law 4276 = .ok (.istore 5, 2) := dLx dLc_10 (i := 154) (q := (4276, (.istore 5, 2))) rfl
theorem dL_law_4278 : decode cL_law 4278 = .ok (.aload_n 2, 1) := dLx dLc_10 (i := 155) (q := (4278, (.aload_n 2, 1))) rfl
theorem dL_law_4279 : decode cL_law 4279 = .ok (.invokevirtual 407, 3) := dLx dLc_10 (i := 156) (q := (4279, (.invokevirtual 407, 3))) rfl
theorem dL_law_4282 : decode cL_law 4282 = .ok (.istore 6, 2) := dLx dLc_10 (i := 157) (q := (4282, (.istore 6, 2))) rfl
theorem dL_law_4284 : decode cL_law 4284 = .ok (.aload_n 2, 1) := dLx dLc_10 (i := 158) (q := (4284, (.aload_n 2, 1))) rfl
theorem dL_law_4285 : decode cL_law 4285 = .ok (.invokevirtual 201, 3) := dLx dLc_10 (i := 159) (q := (4285, (.invokevirtual 201, 3))) rfl
theorem dL_law_4288 : decode cL_law 4288 = .ok (.iload 5, 2) := dLx dLc_10 (i := 160) (q := (4288, (.iload 5, 2))) rfl
theorem dL_law_4290 : decode cL_law 4290 = .ok (.if_icmp .eq 5, 3) := dLx dLc_10 (i := 161) (q := (4290, (.if_icmp .eq 5, 3))) rfl
theorem dL_law_4293 : decode cL_law 4293 = .ok (.iconst 0, 1) := dLx dLc_10 (i := 162) (q := (4293, (.iconst 0, 1))) rfl
theorem dL_law_4294 : decode cL_law 4294 = .ok (.ireturn, 1) := dLx dLc_10 (i := 163) (q := (4294, (.ireturn, 1))) rfl
theorem dL_law_4295 : decode cL_law 4295 = .ok (.iload 5, 2) := dLx dLc_10 (i := 164) (q := (4295, (.iload 5, 2))) rfl
theorem dL_law_4297 : decode cL_law 4297 = .ok (.ifCond .ne 15, 3) := dLx dLc_10 (i := 165) (q := (4297, (.ifCond .ne 15, 3))) rfl
theorem dL_law_4300 : decode cL_law 4300 = .ok (.aload_n 3, 1) := dLx dLc_10 (i := 166) (q := (4300, (.aload_n 3, 1))) rfl
theorem dL_law_4301 : decode cL_law 4301 = .ok (.iconst 0, 1) := dLx dLc_10 (i := 167) (q := (4301, (.iconst 0, 1))) rfl
theorem dL_law_4302 : decode cL_law 4302 = .ok (.laload, 1) := dLx dLc_10 (i := 168) (q := (4302, (.laload, 1))) rfl
theorem dL_law_4303 : decode cL_law 4303 = .ok (.iload 6, 2) := dLx dLc_10 (i := 169) (q := (4303, (.iload 6, 2))) rfl
theorem dL_law_4305 : decode cL_law 4305 = .ok (.i2l, 1) := dLx dLc_10 (i := 170) (q := (4305, (.i2l, 1))) rfl
theorem dL_law_4306 : decode cL_law 4306 = .ok (.lcmp, 1) := dLx dLc_10 (i := 171) (q := (4306, (.lcmp, 1))) rfl
theorem dL_law_4307 : decode cL_law 4307 = .ok (.ifCond .eq 5, 3) := dLx dLc_10 (i := 172) (q := (4307, (.ifCond .eq 5, 3))) rfl
theorem dL_law_4310 : decode cL_law 4310 = .ok (.iconst 0, 1) := dLx dLc_10 (i := 173) (q := (4310, (.iconst 0, 1))) rfl
theorem dL_law_4311 : decode cL_law 4311 = .ok (.ireturn, 1) := dLx dLc_10 (i := 174) (q := (4311, (.ireturn, 1))) rfl
theorem dL_law_4312 : decode cL_law 4312 = .ok (.goto 115, 3) := dLx dLc_10 (i := 175) (q := (4312, (.goto 115, 3))) rfl
theorem dL_law_4315 : decode cL_law 4315 = .ok (.aload_n 1, 1) := dLx dLc_10 (i := 176) (q := (4315, (.aload_n 1, 1))) rfl
theorem dL_law_4316 : decode cL_law 4316 = .ok (.aload_n 0, 1) := dLx dLc_10 (i := 177) (q := (4316, (.aload_n 0, 1))) rfl
theorem dL_law_4317 : decode cL_law 4317 = .ok (.iload 4, 2) := dLx dLc_10 (i := 178) (q := (4317, (.iload 4, 2))) rfl
theorem dL_law_4319 : decode cL_law 4319 = .ok (.iconst 1, 1) := dLx dLc_10 (i := 179) (q := (4319, (.iconst 1, 1))) rfl
theorem dL_law_4320 : decode cL_law 4320 = .ok (.iadd, 1) := dLx dLc_10 (i := 180) (q := (4320, (.iadd, 1))) rfl
theorem dL_law_4321 : decode cL_law 4321 = .ok (.iaload, 1) := dLx dLc_10 (i := 181) (q := (4321, (.iaload, 1))) rfl
theorem dL_law_4322 : decode cL_law 4322 = .ok (.aload_n 3, 1) := dLx dLc_10 (i := 182) (q := (4322, (.aload_n 3, 1))) rfl
theorem dL_law_4323 : decode cL_law 4323 = .ok (.invokestatic 408, 3) := dLx dLc_10 (i := 183) (q := (4323, (.invokestatic 408, 3))) rfl
theorem dL_law_4326 : decode cL_law 4326 = .ok (.istore 5, 2) := dLx dLc_10 (i := 184) (q := (4326, (.istore 5, 2))) rfl
theorem dL_law_4328 : decode cL_law 4328 = .ok (.aload_n 2, 1) := dLx dLc_10 (i := 185) (q := (4328, (.aload_n 2, 1))) rfl
theorem dL_law_4329 : decode cL_law 4329 = .ok (.aload_n 0, 1) := dLx dLc_10 (i := 186) (q := (4329, (.aload_n 0, 1))) rfl
theorem dL_law_4330 : decode cL_law 4330 = .ok (.iload 4, 2) := dLx dLc_10 (i := 187) (q := (4330, (.iload 4, 2))) rfl
theorem dL_law_4332 : decode cL_law 4332 = .ok (.iconst 1, 1) := dLx dLc_10 (i := 188) (q := (4332, (.iconst 1, 1))) rfl
theorem dL_law_4333 : decode cL_law 4333 = .ok (.iadd, 1) := dLx dLc_10 (i := 189) (q := (4333, (.iadd, 1))) rfl
theorem dL_law_4334 : decode cL_law 4334 = .ok (.iaload, 1) := dLx dLc_10 (i := 190) (q := (4334, (.iaload, 1))) rfl
theorem dL_law_4335 : decode cL_law 4335 = .ok (.invokevirtual 410, 3) := dLx dLc_10 (i := 191) (q := (4335, (.invokevirtual 410, 3))) rfl
theorem dL_law_4338 : decode cL_law 4338 = .ok (.istore 6, 2) := dLx dLc_10 (i := 192) (q := (4338, (.istore 6, 2))) rfl
theorem dL_law_4340 : decode cL_law 4340 = .ok (.aload_n 2, 1) := dLx dLc_10 (i := 193) (q := (4340, (.aload_n 2, 1))) rfl
theorem dL_law_4341 : decode cL_law 4341 = .ok (.invokevirtual 201, 3) := dLx dLc_10 (i := 194) (q := (4341, (.invokevirtual 201, 3))) rfl
theorem dL_law_4344 : decode cL_law 4344 = .ok (.iload 5, 2) := dLx dLc_10 (i := 195) (q := (4344, (.iload 5, 2))) rfl
theorem dL_law_4346 : decode cL_law 4346 = .ok (.if_icmp .eq 5, 3) := dLx dLc_10 (i := 196) (q := (4346, (.if_icmp .eq 5, 3))) rfl
theorem dL_law_4349 : decode cL_law 4349 = .ok (.iconst 0, 1) := dLx dLc_10 (i := 197) (q := (4349, (.iconst 0, 1))) rfl
theorem dL_law_4350 : decode cL_law 4350 = .ok (.ireturn, 1) := dLx dLc_10 (i := 198) (q := (4350, (.ireturn, 1))) rfl
theorem dL_law_4351 : decode cL_law 4351 = .ok (.iload 5, 2) := dLx dLc_10 (i := 199) (q := (4351, (.iload 5, 2))) rfl
theorem dL_law_4353 : decode cL_law 4353 = .ok (.ifCond .ne 15, 3) := dLx dLc_10 (i := 200) (q := (4353, (.ifCond .ne 15, 3))) rfl
theorem dL_law_4356 : decode cL_law 4356 = .ok (.aload_n 3, 1) := dLx dLc_10 (i := 201) (q := (4356, (.aload_n 3, 1))) rfl
theorem dL_law_4357 : decode cL_law 4357 = .ok (.iconst 0, 1) := dLx dLc_10 (i := 202) (q := (4357, (.iconst 0, 1))) rfl
theorem dL_law_4358 : decode cL_law 4358 = .ok (.laload, 1) := dLx dLc_10 (i := 203) (q := (4358, (.laload, 1))) rfl
theorem dL_law_4359 : decode cL_law 4359 = .ok (.iload 6, 2) := dLx dLc_10 (i := 204) (q := (4359, (.iload 6, 2))) rfl
theorem dL_law_4361 : decode cL_law 4361 = .ok (.i2l, 1) := dLx dLc_10 (i := 205) (q := (4361, (.i2l, 1))) rfl
theorem dL_law_4362 : decode cL_law 4362 = .ok (.lcmp, 1) := dLx dLc_10 (i := 206) (q := (4362, (.lcmp, 1))) rfl
theorem dL_law_4363 : decode cL_law 4363 = .ok (.ifCond .eq 5, 3) := dLx dLc_10 (i := 207) (q := (4363, (.ifCond .eq 5, 3))) rfl
theorem dL_law_4366 : decode cL_law 4366 = .ok (.iconst 0, 1) := dLx dLc_10 (i := 208) (q := (4366, (.iconst 0, 1))) rfl
theorem dL_law_4367 : decode cL_law 4367 = .ok (.ireturn, 1) := dLx dLc_10 (i := 209) (q := (4367, (.ireturn, 1))) rfl
theorem dL_law_4368 : decode cL_law 4368 = .ok (.goto 59, 3) := dLx dLc_10 (i := 210) (q := (4368, (.goto 59, 3))) rfl
theorem dL_law_4371 : decode cL_law 4371 = .ok (.aload_n 1, 1) := dLx dLc_10 (i := 211) (q := (4371, (.aload_n 1, 1))) rfl
theorem dL_law_4372 : decode cL_law 4372 = .ok (.aload_n 0, 1) := dLx dLc_10 (i := 212) (q := (4372, (.aload_n 0, 1))) rfl
theorem dL_law_4373 : decode cL_law 4373 = .ok (.iload 4, 2) := dLx dLc_10 (i := 213) (q := (4373, (.iload 4, 2))) rfl
theorem dL_law_4375 : decode cL_law 4375 = .ok (.iconst 1, 1) := dLx dLc_10 (i := 214) (q := (4375, (.iconst 1, 1))) rfl
theorem dL_law_4376 : decode cL_law 4376 = .ok (.iadd, 1) := dLx dLc_10 (i := 215) (q := (4376, (.iadd, 1))) rfl
theorem dL_law_4377 : decode cL_law 4377 = .ok (.iaload, 1) := dLx dLc_10 (i := 216) (q := (4377, (.iaload, 1))) rfl
theorem dL_law_4378 : decode cL_law 4378 = .ok (.aload_n 3, 1) := dLx dLc_10 (i := 217) (q := (4378, (.aload_n 3, 1))) rfl
theorem dL_law_4379 : decode cL_law 4379 = .ok (.invokestatic 411, 3) := dLx dLc_10 (i := 218) (q := (4379, (.invokestatic 411, 3))) rfl
theorem dL_law_4382 : decode cL_law 4382 = .ok (.istore 5, 2) := dLx dLc_10 (i := 219) (q := (4382, (.istore 5, 2))) rfl
theorem dL_law_4384 : decode cL_law 4384 = .ok (.aload_n 2, 1) := dLx dLc_10 (i := 220) (q := (4384, (.aload_n 2, 1))) rfl
theorem dL_law_4385 : decode cL_law 4385 = .ok (.aload_n 0, 1) := dLx dLc_10 (i := 221) (q := (4385, (.aload_n 0, 1))) rfl
theorem dL_law_4386 : decode cL_law 4386 = .ok (.iload 4, 2) := dLx dLc_10 (i := 222) (q := (4386, (.iload 4, 2))) rfl
theorem dL_law_4388 : decode cL_law 4388 = .ok (.iconst 1, 1) := dLx dLc_10 (i := 223) (q := (4388, (.iconst 1, 1))) rfl
theorem dL_law_4389 : decode cL_law 4389 = .ok (.iadd, 1) := dLx dLc_10 (i := 224) (q := (4389, (.iadd, 1))) rfl
theorem dL_law_4390 : decode cL_law 4390 = .ok (.iaload, 1) := dLx dLc_10 (i := 225) (q := (4390, (.iaload, 1))) rfl
theorem dL_law_4391 : decode cL_law 4391 = .ok (.invokevirtual 413, 3) := dLx dLc_10 (i := 226) (q := (4391, (.invokevirtual 413, 3))) rfl
theorem dL_law_4394 : decode cL_law 4394 = .ok (.istore 6, 2) := dLx dLc_10 (i := 227) (q := (4394, (.istore 6, 2))) rfl
theorem dL_law_4396 : decode cL_law 4396 = .ok (.aload_n 2, 1) := dLx dLc_10 (i := 228) (q := (4396, (.aload_n 2, 1))) rfl
theorem dL_law_4397 : decode cL_law 4397 = .ok (.invokevirtual 201, 3) := dLx dLc_10 (i := 229) (q := (4397, (.invokevirtual 201, 3))) rfl
theorem dL_law_4400 : decode cL_law 4400 = .ok (.iload 5, 2) := dLx dLc_10 (i := 230) (q := (4400, (.iload 5, 2))) rfl
theorem dL_law_4402 : decode cL_law 4402 = .ok (.if_icmp .eq 5, 3) := dLx dLc_10 (i := 231) (q := (4402, (.if_icmp .eq 5, 3))) rfl
theorem dL_law_4405 : decode cL_law 4405 = .ok (.iconst 0, 1) := dLx dLc_10 (i := 232) (q := (4405, (.iconst 0, 1))) rfl
theorem dL_law_4406 : decode cL_law 4406 = .ok (.ireturn, 1) := dLx dLc_10 (i := 233) (q := (4406, (.ireturn, 1))) rfl
theorem dL_law_4407 : decode cL_law 4407 = .ok (.iload 5, 2) := dLx dLc_10 (i := 234) (q := (4407, (.iload 5, 2))) rfl
theorem dL_law_4409 : decode cL_law 4409 = .ok (.ifCond .ne 15, 3) := dLx dLc_10 (i := 235) (q := (4409, (.ifCond .ne 15, 3))) rfl
theorem dL_law_4412 : decode cL_law 4412 = .ok (.aload_n 3, 1) := dLx dLc_10 (i := 236) (q := (4412, (.aload_n 3, 1))) rfl
theorem dL_law_4413 : decode cL_law 4413 = .ok (.iconst 0, 1) := dLx dLc_10 (i := 237) (q := (4413, (.iconst 0, 1))) rfl
theorem dL_law_4414 : decode cL_law 4414 = .ok (.laload, 1) := dLx dLc_10 (i := 238) (q := (4414, (.laload, 1))) rfl
theorem dL_law_4415 : decode cL_law 4415 = .ok (.iload 6, 2) := dLx dLc_10 (i := 239) (q := (4415, (.iload 6, 2))) rfl
theorem dL_law_4417 : decode cL_law 4417 = .ok (.i2l, 1) := dLx dLc_10 (i := 240) (q := (4417, (.i2l, 1))) rfl
theorem dL_law_4418 : decode cL_law 4418 = .ok (.lcmp, 1) := dLx dLc_10 (i := 241) (q := (4418, (.lcmp, 1))) rfl
theorem dL_law_4419 : decode cL_law 4419 = .ok (.ifCond .eq 5, 3) := dLx dLc_10 (i := 242) (q := (4419, (.ifCond .eq 5, 3))) rfl
theorem dL_law_4422 : decode cL_law 4422 = .ok (.iconst 0, 1) := dLx dLc_10 (i := 243) (q := (4422, (.iconst 0, 1))) rfl
theorem dL_law_4423 : decode cL_law 4423 = .ok (.ireturn, 1) := dLx dLc_10 (i := 244) (q := (4423, (.ireturn, 1))) rfl
theorem dL_law_4424 : decode cL_law 4424 = .ok (.goto 3, 3) := dLx dLc_10 (i := 245) (q := (4424, (.goto 3, 3))) rfl
def dLt_11 : List (Nat × (Instr × Nat)) := [(4430, (.goto (-4407), 3)), (4433, (.iconst 1, 1)), (4434, (.ireturn, 1))]
set_option maxRecDepth 100000 in
theorem dLc_11 : ldg (cL_law.data.toList.drop 4430) 0 4430 dLt_11 = true := by decide +kernel
theorem dL_law_4430 : decode cL_law 4430 = .ok (.goto (-4407), 3) := dLx dLc_11 (i := 0) (q := (4430, (.goto (-4407), 3))) rfl
theorem dL_law_4433 : decode cL_law 4433 = .ok (.iconst 1, 1) := dLx dLc_11 (i := 1) (q := (4433, (.iconst 1, 1))) rfl
theorem dL_law_4434 : decode cL_law 4434 = .ok (.ireturn, 1) := dLx dLc_11 (i := 2) (q := (4434, (.ireturn, 1))) rfl
