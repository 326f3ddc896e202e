/-! Every entry of code, checked by the kernel (4 of 4). -/
set_option maxRecDepth 100000 in
theorem jok_90 : ([(229, 227, 44)].all fun q => jallr q.1 q.2.1 q.2.2) = true := by decide +kernel
set_option maxRecDepth 100000 in
theorem jok_91 : ([(226, 0, 55), (227, 0, 55), (228, 0, 42), (230, 0, 19)].all fun q => jallr q.1 q.2.1 q.2.2) = true := by decide +kernel
set_option maxRecDepth 100000 in
theorem jok_92 : ([(231, 0, 30), (232, 0, 68), (233, 0, 23), (234, 0, 17), (235, 0, 27)].all fun q => jallr q.1 q.2.1 q.2.2) = true := by decide +kernel
set_option maxRecDepth 100000 in
theorem jok_93 : ([(236, 0, 50)].all fun q => jallr q.1 q.2.1 q.2.2) = true := by decide +kernel
set_option maxRecDepth 100000 in
theorem jok_94 : ([(237, 0, 147), (238, 0, 21)].all fun q => jallr q.1 q.2.1 q.2.2) = true := by decide +kernel
set_option maxRecDepth 100000 in
theorem jok_95 : ([(239, 0, 22), (240, 0, 31), (241, 0, 96)].all fun q => jallr q.1 q.2.1 q.2.2) = true := by decide +kernel
set_option maxRecDepth 100000 in
theorem jok_96 : ([(242, 0, 48)].all fun q => jallr q.1 q.2.1 q.2.2) = true := by decide +kernel
set_option maxRecDepth 100000 in
theorem jok_97 : ([(243, 0, 198)].all fun q => jallr q.1 q.2.1 q.2.2) = true := by decide +kernel
set_option maxRecDepth 100000 in
theorem jok_98 : ([(244, 0, 168)].all fun q => jallr q.1 q.2.1 q.2.2) = true := by decide +kernel
set_option maxRecDepth 100000 in
theorem jok_99 : ([(245, 0, 17), (246, 0, 14), (247, 0, 59)].all fun q => jallr q.1 q.2.1 q.2.2) = true := by decide +kernel
set_option maxRecDepth 100000 in
theorem jok_100 : ([(248, 0, 98), (249, 0, 27)].all fun q => jallr q.1 q.2.1 q.2.2) = true := by decide +kernel
set_option maxRecDepth 100000 in
theorem jok_101 : ([(250, 0, 104)].all fun q => jallr q.1 q.2.1 q.2.2) = true := by decide +kernel
set_option maxRecDepth 100000 in
theorem jok_102 : ([(251, 0, 93), (252, 0, 23), (253, 0, 58)].all fun q => jallr q.1 q.2.1 q.2.2) = true := by decide +kernel
set_option maxRecDepth 100000 in
theorem jok_103 : ([(254, 0, 84), (255, 0, 17), (256, 0, 31), (257, 0, 23)].all fun q => jallr q.1 q.2.1 q.2.2) = true := by decide +kernel
set_option maxRecDepth 100000 in
theorem jok_104 : ([(258, 0, 110)].all fun q => jallr q.1 q.2.1 q.2.2) = true := by decide +kernel
set_option maxRecDepth 100000 in
theorem jok_105 : ([(259, 0, 114)].all fun q => jallr q.1 q.2.1 q.2.2) = true := by decide +kernel
set_option maxRecDepth 100000 in
theorem jok_106 : ([(260, 0, 99), (261, 0, 48)].all fun q => jallr q.1 q.2.1 q.2.2) = true := by decide +kernel
set_option maxRecDepth 100000 in
theorem jok_107 : ([(262, 0, 187)].all fun q => jallr q.1 q.2.1 q.2.2) = true := by decide +kernel
set_option maxRecDepth 100000 in
theorem jok_108 : ([(263, 0, 154)].all fun q => jallr q.1 q.2.1 q.2.2) = true := by decide +kernel
set_option maxRecDepth 100000 in
theorem jok_109 : ([(264, 0, 23), (265, 0, 134)].all fun q => jallr q.1 q.2.1 q.2.2) = true := by decide +kernel
set_option maxRecDepth 100000 in
theorem jok_110 : ([(266, 0, 157), (267, 0, 41)].all fun q => jallr q.1 q.2.1 q.2.2) = true := by decide +kernel
set_option maxRecDepth 100000 in
theorem jok_111 : ([(268, 0, 140)].all fun q => jallr q.1 q.2.1 q.2.2) = true := by decide +kernel
set_option maxRecDepth 100000 in
theorem jok_112 : ([(269, 0, 169), (270, 0, 10), (271, 0, 32)].all fun q => jallr q.1 q.2.1 q.2.2) = true := by decide +kernel
set_option maxRecDepth 100000 in
theorem jok_113 : ([(272, 0, 37)].all fun q => jallr q.1 q.2.1 q.2.2) = true := by decide +kernel
set_option maxRecDepth 100000 in
theorem jok_114 : ([(273, 0, 170)].all fun q => jallr q.1 q.2.1 q.2.2) = true := by decide +kernel
set_option maxRecDepth 100000 in
theorem jok_115 : ([(274, 0, 71)].all fun q => jallr q.1 q.2.1 q.2.2) = true := by decide +kernel
set_option maxRecDepth 100000 in
theorem jok_116 : ([(275, 0, 229)].all fun q => jallr q.1 q.2.1 q.2.2) = true := by decide +kernel
set_option maxRecDepth 100000 in
theorem jmk_0 : (List.range' 0 6).all jmchk = true := by decide +kernel
set_option maxRecDepth 100000 in
theorem jmk_1 : (List.range' 6 6).all jmchk = true := by decide +kernel
set_option maxRecDepth 100000 in
theorem jmk_2 : (List.range' 12 6).all jmchk = true := by decide +kernel
set_option maxRecDepth 100000 in
theorem jmk_3 : (List.range' 18 6).all jmchk = true := by decide +kernel
set_option maxRecDepth 100000 in
theorem jmk_4 : (List.range' 24 6).all jmchk = true := by decide +kernel
set_option maxRecDepth 100000 in
theorem jmk_5 : (List.range' 30 6).all jmchk = true := by decide +kernel
set_option maxRecDepth 100000 in
theorem jmk_6 : (List.range' 36 6).all jmchk = true := by decide +kernel
set_option maxRecDepth 100000 in
theorem jmk_7 : (List.range' 42 6).all jmchk = true := by decide +kernel
set_option maxRecDepth 100000 in
theorem jmk_8 : (List.range' 48 6).all jmchk = true := by decide +kernel
set_option maxRecDepth 100000 in
theorem jmk_9 : (List.range' 54 6).all jmchk = true := by decide +kernel
set_option maxRecDepth 100000 in
theorem jmk_10 : (List.range' 60 6).all jmchk = true := by decide +kernel
set_option maxRecDepth 100000 in
theorem jmk_11 : (List.range' 66 6).all jmchk = true := by decide +kernel
set_option maxRecDepth 100000 in
theorem jmk_12 : (List.range' 72 6).all jmchk = true := by decide +kernel
set_option maxRecDepth 100000 in
theorem jmk_13 : (List.range' 78 6).all jmchk = true := by decide +kernel
set_option maxRecDepth 100000 in
theorem jmk_14 : (List.range' 84 6).all jmchk = true := by decide +kernel
set_option maxRecDepth 100000 in
theorem jmk_15 : (List.range' 90 6).all jmchk = true := by decide +kernel
set_option maxRecDepth 100000 in
theorem jmk_16 : (List.range' 96 6).all jmchk = true := by decide +kernel
set_option maxRecDepth 100000 in
theorem jmk_17 : (List.range' 102 6).all jmchk = true := by decide +kernel
set_option maxRecDepth 100000 in
theorem jmk_18 : (List.range' 108 6).all jmchk = true := by decide +kernel
set_option maxRecDepth 100000 in
theorem jmk_19 : (List.range' 114 6).all jmchk = true := by decide +kernel
set_option maxRecDepth 100000 in
theorem jmk_20 : (List.range' 120 6).all jmchk = true := by decide +kernel
set_option maxRecDepth 100000 in
theorem jmk_21 : (List.range' 126 6).all jmchk = true := by decide +kernel
set_option maxRecDepth 100000 in
theorem jmk_22 : (List.range' 132 6).all jmchk = true := by decide +kernel
set_option maxRecDepth 100000 in
theorem jmk_23 : (List.range' 138 6).all jmchk = true := by decide +kernel
set_option maxRecDepth 100000 in
theorem jmk_24 : (List.range' 144 6).all jmchk = true := by decide +kernel
set_option maxRecDepth 100000 in
theorem jmk_25 : (List.range' 150 6).all jmchk = true := by decide +kernel
set_option maxRecDepth 100000 in
theorem jmk_26 : (List.range' 156 6).all jmchk = true := by decide +kernel
set_option maxRecDepth 100000 in
theorem jmk_27 : (List.range' 162 6).all jmchk = true := by decide +kernel
set_option maxRecDepth 100000 in
theorem jmk_28 : (List.range' 168 6).all jmchk = true := by decide +kernel
set_option maxRecDepth 100000 in
theorem jmk_29 : (List.range' 174 6).all jmchk = true := by decide +kernel
set_option maxRecDepth 100000 in
theorem jmk_30 : (List.range' 180 6).all jmchk = true := by decide +kernel
set_option maxRecDepth 100000 in
theorem jmk_31 : (List.range' 186 6).all jmchk = true := by decide +kernel
set_option maxRecDepth 100000 in
theorem jmk_32 : (List.range' 192 6).all jmchk = true := by decide +kernel
set_option maxRecDepth 100000 in
theorem jmk_33 : (List.range' 198 6).all jmchk = true := by decide +kernel
set_option maxRecDepth 100000 in
theorem jmk_34 : (List.range' 204 6).all jmchk = true := by decide +kernel
set_option maxRecDepth 100000 in
theorem jmk_35 : (List.range' 210 6).all jmchk = true := by decide +kernel
set_option maxRecDepth 100000 in
theorem jmk_36 : (List.range' 216 6).all jmchk = true := by decide +kernel
set_option maxRecDepth 100000 in
theorem jmk_37 : (List.range' 222 6).all jmchk = true := by decide +kernel
set_option maxRecDepth 100000 in
theorem jmk_38 : (List.range' 228 6).all jmchk = true := by decide +kernel
set_option maxRecDepth 100000 in
theorem jmk_39 : (List.range' 234 6).all jmchk = true := by decide +kernel
set_option maxRecDepth 100000 in
theorem jmk_40 : (List.range' 240 6).all jmchk = true := by decide +kernel
set_option maxRecDepth 100000 in
theorem jmk_41 : (List.range' 246 6).all jmchk = true := by decide +kernel
set_option maxRecDepth 100000 in
theorem jmk_42 : (List.range' 252 6).all jmchk = true := by decide +kernel
set_option maxRecDepth 100000 in
theorem jmk_43 : (List.range' 258 6).all jmchk = true := by decide +kernel
set_option maxRecDepth 100000 in
theorem jmk_44 : (List.range' 264 6).all jmchk = true := by decide +kernel
set_option maxRecDepth 100000 in
theorem jmk_45 : (List.range' 270 6).all jmchk = true := by decide +kernel
theorem jck : (List.range 19).all jcchk = true := by decide +kernel
