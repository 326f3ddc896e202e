/-! Every entry of code, checked by the kernel (2 of 4). -/
set_option maxRecDepth 100000 in
theorem jok_30 : ([(63, 0, 133), (64, 0, 29)].all fun q => jallr q.1 q.2.1 q.2.2) = true := by decide +kernel
set_option maxRecDepth 100000 in
theorem jok_31 : ([(65, 0, 217), (66, 0, 35)].all fun q => jallr q.1 q.2.1 q.2.2) = true := by decide +kernel
set_option maxRecDepth 100000 in
theorem jok_32 : ([(67, 0, 38), (68, 0, 33), (69, 0, 36), (70, 0, 35), (71, 0, 35)].all fun q => jallr q.1 q.2.1 q.2.2) = true := by decide +kernel
set_option maxRecDepth 100000 in
theorem jok_33 : ([(72, 0, 37), (73, 0, 32), (74, 0, 13), (75, 0, 15), (76, 0, 24), (77, 0, 54)].all fun q => jallr q.1 q.2.1 q.2.2) = true := by decide +kernel
set_option maxRecDepth 100000 in
theorem jok_34 : ([(78, 0, 24), (79, 0, 145), (80, 0, 22), (81, 0, 33)].all fun q => jallr q.1 q.2.1 q.2.2) = true := by decide +kernel
set_option maxRecDepth 100000 in
theorem jok_35 : ([(82, 0, 72), (83, 0, 45), (84, 0, 24), (85, 0, 22)].all fun q => jallr q.1 q.2.1 q.2.2) = true := by decide +kernel
set_option maxRecDepth 100000 in
theorem jok_36 : ([(86, 0, 45), (87, 0, 42)].all fun q => jallr q.1 q.2.1 q.2.2) = true := by decide +kernel
set_option maxRecDepth 100000 in
theorem jok_37 : ([(88, 0, 132), (89, 0, 15), (90, 0, 57)].all fun q => jallr q.1 q.2.1 q.2.2) = true := by decide +kernel
set_option maxRecDepth 100000 in
theorem jok_38 : ([(91, 0, 51), (92, 0, 22), (93, 0, 36), (94, 0, 33)].all fun q => jallr q.1 q.2.1 q.2.2) = true := by decide +kernel
set_option maxRecDepth 100000 in
theorem jok_39 : ([(95, 0, 43)].all fun q => jallr q.1 q.2.1 q.2.2) = true := by decide +kernel
set_option maxRecDepth 100000 in
theorem jok_40 : ([(96, 0, 169)].all fun q => jallr q.1 q.2.1 q.2.2) = true := by decide +kernel
set_option maxRecDepth 100000 in
theorem jok_41 : ([(97, 0, 127), (98, 0, 19)].all fun q => jallr q.1 q.2.1 q.2.2) = true := by decide +kernel
set_option maxRecDepth 100000 in
theorem jok_42 : ([(99, 0, 227)].all fun q => jallr q.1 q.2.1 q.2.2) = true := by decide +kernel
set_option maxRecDepth 100000 in
theorem jok_43 : ([(100, 0, 18), (101, 0, 18), (102, 0, 94), (103, 0, 7), (104, 0, 37)].all fun q => jallr q.1 q.2.1 q.2.2) = true := by decide +kernel
set_option maxRecDepth 100000 in
theorem jok_44 : ([(105, 0, 37), (106, 0, 17), (107, 0, 33), (108, 0, 97)].all fun q => jallr q.1 q.2.1 q.2.2) = true := by decide +kernel
set_option maxRecDepth 100000 in
theorem jok_45 : ([(109, 0, 19), (110, 0, 44), (111, 0, 16), (112, 0, 22), (113, 0, 64)].all fun q => jallr q.1 q.2.1 q.2.2) = true := by decide +kernel
set_option maxRecDepth 100000 in
theorem jok_46 : ([(114, 0, 106), (115, 0, 109)].all fun q => jallr q.1 q.2.1 q.2.2) = true := by decide +kernel
set_option maxRecDepth 100000 in
theorem jok_47 : ([(116, 0, 38), (117, 0, 38)].all fun q => jallr q.1 q.2.1 q.2.2) = true := by decide +kernel
set_option maxRecDepth 100000 in
theorem jok_48 : ([(118, 0, 217)].all fun q => jallr q.1 q.2.1 q.2.2) = true := by decide +kernel
set_option maxRecDepth 100000 in
theorem jok_49 : ([(119, 0, 33), (120, 0, 30), (121, 0, 22), (122, 0, 9), (123, 0, 74)].all fun q => jallr q.1 q.2.1 q.2.2) = true := by decide +kernel
set_option maxRecDepth 100000 in
theorem jok_50 : ([(126, 0, 211)].all fun q => jallr q.1 q.2.1 q.2.2) = true := by decide +kernel
set_option maxRecDepth 100000 in
theorem jok_51 : ([(126, 211, 51)].all fun q => jallr q.1 q.2.1 q.2.2) = true := by decide +kernel
set_option maxRecDepth 100000 in
theorem jok_52 : ([(128, 0, 254)].all fun q => jallr q.1 q.2.1 q.2.2) = true := by decide +kernel
set_option maxRecDepth 100000 in
theorem jok_53 : ([(128, 254, 166)].all fun q => jallr q.1 q.2.1 q.2.2) = true := by decide +kernel
set_option maxRecDepth 100000 in
theorem jok_54 : ([(128, 420, 21)].all fun q => jallr q.1 q.2.1 q.2.2) = true := by decide +kernel
set_option maxRecDepth 100000 in
theorem jok_55 : ([(124, 0, 73), (125, 0, 73), (127, 0, 44)].all fun q => jallr q.1 q.2.1 q.2.2) = true := by decide +kernel
set_option maxRecDepth 100000 in
theorem jok_56 : ([(129, 0, 30), (130, 0, 48), (131, 0, 68), (132, 0, 19)].all fun q => jallr q.1 q.2.1 q.2.2) = true := by decide +kernel
set_option maxRecDepth 100000 in
theorem jok_57 : ([(133, 0, 145), (134, 0, 28), (135, 0, 5), (136, 0, 10)].all fun q => jallr q.1 q.2.1 q.2.2) = true := by decide +kernel
set_option maxRecDepth 100000 in
theorem jok_58 : ([(137, 0, 17), (138, 0, 149), (139, 0, 39), (140, 0, 15)].all fun q => jallr q.1 q.2.1 q.2.2) = true := by decide +kernel
set_option maxRecDepth 100000 in
theorem jok_59 : ([(141, 0, 49), (142, 0, 32), (143, 0, 29)].all fun q => jallr q.1 q.2.1 q.2.2) = true := by decide +kernel
