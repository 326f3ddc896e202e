/-! Every entry of code, checked by the kernel (1 of 4). -/
set_option maxRecDepth 100000 in
theorem jok_0 : ([(0, 0, 262)].all fun q => jallr q.1 q.2.1 q.2.2) = true := by decide +kernel
set_option maxRecDepth 100000 in
theorem jok_1 : ([(0, 262, 181)].all fun q => jallr q.1 q.2.1 q.2.2) = true := by decide +kernel
set_option maxRecDepth 100000 in
theorem jok_2 : ([(0, 443, 171)].all fun q => jallr q.1 q.2.1 q.2.2) = true := by decide +kernel
set_option maxRecDepth 100000 in
theorem jok_3 : ([(0, 614, 165)].all fun q => jallr q.1 q.2.1 q.2.2) = true := by decide +kernel
set_option maxRecDepth 100000 in
theorem jok_4 : ([(0, 779, 169)].all fun q => jallr q.1 q.2.1 q.2.2) = true := by decide +kernel
set_option maxRecDepth 100000 in
theorem jok_5 : ([(0, 948, 165)].all fun q => jallr q.1 q.2.1 q.2.2) = true := by decide +kernel
set_option maxRecDepth 100000 in
theorem jok_6 : ([(0, 1113, 172)].all fun q => jallr q.1 q.2.1 q.2.2) = true := by decide +kernel
set_option maxRecDepth 100000 in
theorem jok_7 : ([(0, 1285, 124)].all fun q => jallr q.1 q.2.1 q.2.2) = true := by decide +kernel
set_option maxRecDepth 100000 in
theorem jok_8 : ([(1, 0, 144), (2, 0, 14)].all fun q => jallr q.1 q.2.1 q.2.2) = true := by decide +kernel
set_option maxRecDepth 100000 in
theorem jok_9 : ([(3, 0, 82), (4, 0, 80), (5, 0, 59)].all fun q => jallr q.1 q.2.1 q.2.2) = true := by decide +kernel
set_option maxRecDepth 100000 in
theorem jok_10 : ([(6, 0, 15), (7, 0, 39), (8, 0, 123), (9, 0, 10), (10, 0, 19)].all fun q => jallr q.1 q.2.1 q.2.2) = true := by decide +kernel
set_option maxRecDepth 100000 in
theorem jok_11 : ([(11, 0, 114), (12, 0, 111)].all fun q => jallr q.1 q.2.1 q.2.2) = true := by decide +kernel
set_option maxRecDepth 100000 in
theorem jok_12 : ([(13, 0, 120), (14, 0, 62)].all fun q => jallr q.1 q.2.1 q.2.2) = true := by decide +kernel
set_option maxRecDepth 100000 in
theorem jok_13 : ([(15, 0, 25), (16, 0, 70), (17, 0, 19), (18, 0, 67)].all fun q => jallr q.1 q.2.1 q.2.2) = true := by decide +kernel
set_option maxRecDepth 100000 in
theorem jok_14 : ([(19, 0, 114), (20, 0, 7), (21, 0, 5), (22, 0, 17), (23, 0, 35)].all fun q => jallr q.1 q.2.1 q.2.2) = true := by decide +kernel
set_option maxRecDepth 100000 in
theorem jok_15 : ([(24, 0, 30), (25, 0, 16), (26, 0, 87)].all fun q => jallr q.1 q.2.1 q.2.2) = true := by decide +kernel
set_option maxRecDepth 100000 in
theorem jok_16 : ([(27, 0, 163), (28, 0, 32)].all fun q => jallr q.1 q.2.1 q.2.2) = true := by decide +kernel
set_option maxRecDepth 100000 in
theorem jok_17 : ([(29, 0, 24), (30, 0, 36), (31, 0, 137)].all fun q => jallr q.1 q.2.1 q.2.2) = true := by decide +kernel
set_option maxRecDepth 100000 in
theorem jok_18 : ([(32, 0, 24), (33, 0, 24), (34, 0, 35), (35, 0, 11), (36, 0, 15), (37, 0, 25), (38, 0, 19), (39, 0, 15), (40, 0, 10)].all fun q => jallr q.1 q.2.1 q.2.2) = true := by decide +kernel
set_option maxRecDepth 100000 in
theorem jok_19 : ([(41, 0, 18), (42, 0, 85), (43, 0, 66), (44, 0, 39)].all fun q => jallr q.1 q.2.1 q.2.2) = true := by decide +kernel
set_option maxRecDepth 100000 in
theorem jok_20 : ([(45, 0, 73), (46, 0, 28), (47, 0, 6), (48, 0, 63), (49, 0, 24)].all fun q => jallr q.1 q.2.1 q.2.2) = true := by decide +kernel
set_option maxRecDepth 100000 in
theorem jok_21 : ([(50, 0, 34)].all fun q => jallr q.1 q.2.1 q.2.2) = true := by decide +kernel
set_option maxRecDepth 100000 in
theorem jok_22 : ([(51, 0, 251)].all fun q => jallr q.1 q.2.1 q.2.2) = true := by decide +kernel
set_option maxRecDepth 100000 in
theorem jok_23 : ([(52, 0, 26), (53, 0, 28), (54, 0, 82)].all fun q => jallr q.1 q.2.1 q.2.2) = true := by decide +kernel
set_option maxRecDepth 100000 in
theorem jok_24 : ([(55, 0, 82)].all fun q => jallr q.1 q.2.1 q.2.2) = true := by decide +kernel
set_option maxRecDepth 100000 in
theorem jok_25 : ([(56, 0, 238), (57, 0, 5)].all fun q => jallr q.1 q.2.1 q.2.2) = true := by decide +kernel
set_option maxRecDepth 100000 in
theorem jok_26 : ([(58, 0, 46), (59, 0, 98)].all fun q => jallr q.1 q.2.1 q.2.2) = true := by decide +kernel
set_option maxRecDepth 100000 in
theorem jok_27 : ([(61, 0, 263)].all fun q => jallr q.1 q.2.1 q.2.2) = true := by decide +kernel
set_option maxRecDepth 100000 in
theorem jok_28 : ([(61, 263, 62)].all fun q => jallr q.1 q.2.1 q.2.2) = true := by decide +kernel
set_option maxRecDepth 100000 in
theorem jok_29 : ([(60, 0, 98), (62, 0, 71)].all fun q => jallr q.1 q.2.1 q.2.2) = true := by decide +kernel
