/-! Every entry of code, checked by the kernel (3 of 4). -/
set_option maxRecDepth 100000 in
theorem jok_60 : ([(144, 0, 124), (145, 0, 35)].all fun q => jallr q.1 q.2.1 q.2.2) = true := by decide +kernel
set_option maxRecDepth 100000 in
theorem jok_61 : ([(146, 0, 44), (147, 0, 38), (148, 0, 17), (149, 0, 38), (150, 0, 38)].all fun q => jallr q.1 q.2.1 q.2.2) = true := by decide +kernel
set_option maxRecDepth 100000 in
theorem jok_62 : ([(151, 0, 20), (152, 0, 49), (153, 0, 23), (154, 0, 58)].all fun q => jallr q.1 q.2.1 q.2.2) = true := by decide +kernel
set_option maxRecDepth 100000 in
theorem jok_63 : ([(155, 0, 61), (156, 0, 15), (157, 0, 53), (158, 0, 27)].all fun q => jallr q.1 q.2.1 q.2.2) = true := by decide +kernel
set_option maxRecDepth 100000 in
theorem jok_64 : ([(159, 0, 58), (160, 0, 122)].all fun q => jallr q.1 q.2.1 q.2.2) = true := by decide +kernel
set_option maxRecDepth 100000 in
theorem jok_65 : ([(161, 0, 37), (162, 0, 66)].all fun q => jallr q.1 q.2.1 q.2.2) = true := by decide +kernel
set_option maxRecDepth 100000 in
theorem jok_66 : ([(163, 0, 89), (164, 0, 77)].all fun q => jallr q.1 q.2.1 q.2.2) = true := by decide +kernel
set_option maxRecDepth 100000 in
theorem jok_67 : ([(165, 0, 106), (166, 0, 20), (167, 0, 49)].all fun q => jallr q.1 q.2.1 q.2.2) = true := by decide +kernel
set_option maxRecDepth 100000 in
theorem jok_68 : ([(168, 0, 86), (169, 0, 39), (170, 0, 52)].all fun q => jallr q.1 q.2.1 q.2.2) = true := by decide +kernel
set_option maxRecDepth 100000 in
theorem jok_69 : ([(171, 0, 25), (172, 0, 61)].all fun q => jallr q.1 q.2.1 q.2.2) = true := by decide +kernel
set_option maxRecDepth 100000 in
theorem jok_70 : ([(173, 0, 97), (174, 0, 30), (175, 0, 41)].all fun q => jallr q.1 q.2.1 q.2.2) = true := by decide +kernel
set_option maxRecDepth 100000 in
theorem jok_71 : ([(176, 0, 27), (177, 0, 19), (178, 0, 118), (179, 0, 38)].all fun q => jallr q.1 q.2.1 q.2.2) = true := by decide +kernel
set_option maxRecDepth 100000 in
theorem jok_72 : ([(180, 0, 108), (181, 0, 19), (182, 0, 76), (183, 0, 23), (184, 0, 24)].all fun q => jallr q.1 q.2.1 q.2.2) = true := by decide +kernel
set_option maxRecDepth 100000 in
theorem jok_73 : ([(185, 0, 10), (186, 0, 43), (187, 0, 41), (188, 0, 15), (189, 0, 38)].all fun q => jallr q.1 q.2.1 q.2.2) = true := by decide +kernel
set_option maxRecDepth 100000 in
theorem jok_74 : ([(190, 0, 48), (191, 0, 37), (192, 0, 15)].all fun q => jallr q.1 q.2.1 q.2.2) = true := by decide +kernel
set_option maxRecDepth 100000 in
theorem jok_75 : ([(193, 0, 151), (194, 0, 49)].all fun q => jallr q.1 q.2.1 q.2.2) = true := by decide +kernel
set_option maxRecDepth 100000 in
theorem jok_76 : ([(195, 0, 19), (196, 0, 121), (197, 0, 23), (198, 0, 10)].all fun q => jallr q.1 q.2.1 q.2.2) = true := by decide +kernel
set_option maxRecDepth 100000 in
theorem jok_77 : ([(199, 0, 313)].all fun q => jallr q.1 q.2.1 q.2.2) = true := by decide +kernel
set_option maxRecDepth 100000 in
theorem jok_78 : ([(200, 0, 33), (201, 0, 34), (202, 0, 26), (203, 0, 29)].all fun q => jallr q.1 q.2.1 q.2.2) = true := by decide +kernel
set_option maxRecDepth 100000 in
theorem jok_79 : ([(204, 0, 243), (205, 0, 37)].all fun q => jallr q.1 q.2.1 q.2.2) = true := by decide +kernel
set_option maxRecDepth 100000 in
theorem jok_80 : ([(206, 0, 15), (207, 0, 102), (208, 0, 49)].all fun q => jallr q.1 q.2.1 q.2.2) = true := by decide +kernel
set_option maxRecDepth 100000 in
theorem jok_81 : ([(209, 0, 74)].all fun q => jallr q.1 q.2.1 q.2.2) = true := by decide +kernel
set_option maxRecDepth 100000 in
theorem jok_82 : ([(210, 0, 214)].all fun q => jallr q.1 q.2.1 q.2.2) = true := by decide +kernel
set_option maxRecDepth 100000 in
theorem jok_83 : ([(211, 0, 23), (212, 0, 78)].all fun q => jallr q.1 q.2.1 q.2.2) = true := by decide +kernel
set_option maxRecDepth 100000 in
theorem jok_84 : ([(213, 0, 207), (214, 0, 19)].all fun q => jallr q.1 q.2.1 q.2.2) = true := by decide +kernel
set_option maxRecDepth 100000 in
theorem jok_85 : ([(215, 0, 112), (216, 0, 19), (217, 0, 37)].all fun q => jallr q.1 q.2.1 q.2.2) = true := by decide +kernel
set_option maxRecDepth 100000 in
theorem jok_86 : ([(218, 0, 102), (219, 0, 19), (220, 0, 30)].all fun q => jallr q.1 q.2.1 q.2.2) = true := by decide +kernel
set_option maxRecDepth 100000 in
theorem jok_87 : ([(221, 0, 56), (222, 0, 50), (223, 0, 55)].all fun q => jallr q.1 q.2.1 q.2.2) = true := by decide +kernel
set_option maxRecDepth 100000 in
theorem jok_88 : ([(224, 0, 56), (225, 0, 129)].all fun q => jallr q.1 q.2.1 q.2.2) = true := by decide +kernel
set_option maxRecDepth 100000 in
theorem jok_89 : ([(229, 0, 227)].all fun q => jallr q.1 q.2.1 q.2.2) = true := by decide +kernel
