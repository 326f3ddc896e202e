/-! Every entry is checked: what the groups say together. -/
def jgrp : List (Nat × Nat × Nat) := [(0, 0, 262)] ++ ([(0, 262, 181)] ++ ([(0, 443, 171)] ++ ([(0, 614, 165)] ++ ([(0, 779, 169)] ++ ([(0, 948, 165)] ++ ([(0, 1113, 172)] ++ ([(0, 1285, 124)] ++ ([(1, 0, 144), (2, 0, 14)] ++ ([(3, 0, 82), (4, 0, 80), (5, 0, 59)] ++ ([(6, 0, 15), (7, 0, 39), (8, 0, 123), (9, 0, 10), (10, 0, 19)] ++ ([(11, 0, 114), (12, 0, 111)] ++ ([(13, 0, 120), (14, 0, 62)] ++ ([(15, 0, 25), (16, 0, 70), (17, 0, 19), (18, 0, 67)] ++ ([(19, 0, 114), (20, 0, 7), (21, 0, 5), (22, 0, 17), (23, 0, 35)] ++ ([(24, 0, 30), (25, 0, 16), (26, 0, 87)] ++ ([(27, 0, 163), (28, 0, 32)] ++ ([(29, 0, 24), (30, 0, 36), (31, 0, 137)] ++ ([(32, 0, 24), (33, 0, 24), (34, 0, 35), (35, 0, 11), (36, 0, 15), (37, 0, 25), (38, 0, 19), (39, 0, 15), (40, 0, 10)] ++ ([(41, 0, 18), (42, 0, 85), (43, 0, 66), (44, 0, 39)] ++ ([(45, 0, 73), (46, 0, 28), (47, 0, 6), (48, 0, 63), (49, 0, 24)] ++ ([(50, 0, 34)] ++ ([(51, 0, 251)] ++ ([(52, 0, 26), (53, 0, 28), (54, 0, 82)] ++ ([(55, 0, 82)] ++ ([(56, 0, 238), (57, 0, 5)] ++ ([(58, 0, 46), (59, 0, 98)] ++ ([(61, 0, 263)] ++ ([(61, 263, 62)] ++ ([(60, 0, 98), (62, 0, 71)] ++ ([(63, 0, 133), (64, 0, 29)] ++ ([(65, 0, 217), (66, 0, 35)] ++ ([(67, 0, 38), (68, 0, 33), (69, 0, 36), (70, 0, 35), (71, 0, 35)] ++ ([(72, 0, 37), (73, 0, 32), (74, 0, 13), (75, 0, 15), (76, 0, 24), (77, 0, 54)] ++ ([(78, 0, 24), (79, 0, 145), (80, 0, 22), (81, 0, 33)] ++ ([(82, 0, 72), (83, 0, 45), (84, 0, 24), (85, 0, 22)] ++ ([(86, 0, 45), (87, 0, 42)] ++ ([(88, 0, 132), (89, 0, 15), (90, 0, 57)] ++ ([(91, 0, 51), (92, 0, 22), (93, 0, 36), (94, 0, 33)] ++ ([(95, 0, 43)] ++ ([(96, 0, 169)] ++ ([(97, 0, 127), (98, 0, 19)] ++ ([(99, 0, 227)] ++ ([(100, 0, 18), (101, 0, 18), (102, 0, 94), (103, 0, 7), (104, 0, 37)] ++ ([(105, 0, 37), (106, 0, 17), (107, 0, 33), (108, 0, 97)] ++ ([(109, 0, 19), (110, 0, 44), (111, 0, 16), (112, 0, 22), (113, 0, 64)] ++ ([(114, 0, 106), (115, 0, 109)] ++ ([(116, 0, 38), (117, 0, 38)] ++ ([(118, 0, 217)] ++ ([(119, 0, 33), (120, 0, 30), (121, 0, 22), (122, 0, 9), (123, 0, 74)] ++ ([(126, 0, 211)] ++ ([(126, 211, 51)] ++ ([(128, 0, 254)] ++ ([(128, 254, 166)] ++ ([(128, 420, 21)] ++ ([(124, 0, 73), (125, 0, 73), (127, 0, 44)] ++ ([(129, 0, 30), (130, 0, 48), (131, 0, 68), (132, 0, 19)] ++ ([(133, 0, 145), (134, 0, 28), (135, 0, 5), (136, 0, 10)] ++ ([(137, 0, 17), (138, 0, 149), (139, 0, 39), (140, 0, 15)] ++ ([(141, 0, 49), (142, 0, 32), (143, 0, 29)] ++ ([(144, 0, 124), (145, 0, 35)] ++ ([(146, 0, 44), (147, 0, 38), (148, 0, 17), (149, 0, 38), (150, 0, 38)] ++ ([(151, 0, 20), (152, 0, 49), (153, 0, 23), (154, 0, 58)] ++ ([(155, 0, 61), (156, 0, 15), (157, 0, 53), (158, 0, 27)] ++ ([(159, 0, 58), (160, 0, 122)] ++ ([(161, 0, 37), (162, 0, 66)] ++ ([(163, 0, 89), (164, 0, 77)] ++ ([(165, 0, 106), (166, 0, 20), (167, 0, 49)] ++ ([(168, 0, 86), (169, 0, 39), (170, 0, 52)] ++ ([(171, 0, 25), (172, 0, 61)] ++ ([(173, 0, 97), (174, 0, 30), (175, 0, 41)] ++ ([(176, 0, 27), (177, 0, 19), (178, 0, 118), (179, 0, 38)] ++ ([(180, 0, 108), (181, 0, 19), (182, 0, 76), (183, 0, 23), (184, 0, 24)] ++ ([(185, 0, 10), (186, 0, 43), (187, 0, 41), (188, 0, 15), (189, 0, 38)] ++ ([(190, 0, 48), (191, 0, 37), (192, 0, 15)] ++ ([(193, 0, 151), (194, 0, 49)] ++ ([(195, 0, 19), (196, 0, 121), (197, 0, 23), (198, 0, 10)] ++ ([(199, 0, 313)] ++ ([(200, 0, 33), (201, 0, 34), (202, 0, 26), (203, 0, 29)] ++ ([(204, 0, 243), (205, 0, 37)] ++ ([(206, 0, 15), (207, 0, 102), (208, 0, 49)] ++ ([(209, 0, 74)] ++ ([(210, 0, 214)] ++ ([(211, 0, 23), (212, 0, 78)] ++ ([(213, 0, 207), (214, 0, 19)] ++ ([(215, 0, 112), (216, 0, 19), (217, 0, 37)] ++ ([(218, 0, 102), (219, 0, 19), (220, 0, 30)] ++ ([(221, 0, 56), (222, 0, 50), (223, 0, 55)] ++ ([(224, 0, 56), (225, 0, 129)] ++ ([(229, 0, 227)] ++ ([(229, 227, 44)] ++ ([(226, 0, 55), (227, 0, 55), (228, 0, 42), (230, 0, 19)] ++ ([(231, 0, 30), (232, 0, 68), (233, 0, 23), (234, 0, 17), (235, 0, 27)] ++ ([(236, 0, 50)] ++ ([(237, 0, 147), (238, 0, 21)] ++ ([(239, 0, 22), (240, 0, 31), (241, 0, 96)] ++ ([(242, 0, 48)] ++ ([(243, 0, 198)] ++ ([(244, 0, 168)] ++ ([(245, 0, 17), (246, 0, 14), (247, 0, 59)] ++ ([(248, 0, 98), (249, 0, 27)] ++ ([(250, 0, 104)] ++ ([(251, 0, 93), (252, 0, 23), (253, 0, 58)] ++ ([(254, 0, 84), (255, 0, 17), (256, 0, 31), (257, 0, 23)] ++ ([(258, 0, 110)] ++ ([(259, 0, 114)] ++ ([(260, 0, 99), (261, 0, 48)] ++ ([(262, 0, 187)] ++ ([(263, 0, 154)] ++ ([(264, 0, 23), (265, 0, 134)] ++ ([(266, 0, 157), (267, 0, 41)] ++ ([(268, 0, 140)] ++ ([(269, 0, 169), (270, 0, 10), (271, 0, 32)] ++ ([(272, 0, 37)] ++ ([(273, 0, 170)] ++ ([(274, 0, 71)] ++ ([(275, 0, 229)]))))))))))))))))))))))))))))))))))))))))))))))))))))))))))))))))))))))))))))))))))))))))))))))))))))))))))))))))))))
theorem jgrp_ok : ∀ q ∈ jgrp, jallr q.1 q.2.1 q.2.2 = true := List.forall_mem_append.mpr ⟨List.all_eq_true.mp jok_0, List.forall_mem_append.mpr ⟨List.all_eq_true.mp jok_1, List.forall_mem_append.mpr ⟨List.all_eq_true.mp jok_2, List.forall_mem_append.mpr ⟨List.all_eq_true.mp jok_3, List.forall_mem_append.mpr ⟨List.all_eq_true.mp jok_4, List.forall_mem_append.mpr ⟨List.all_eq_true.mp jok_5, List.forall_mem_append.mpr ⟨List.all_eq_true.mp jok_6, List.forall_mem_append.mpr ⟨List.all_eq_true.mp jok_7, List.forall_mem_append.mpr ⟨List.all_eq_true.mp jok_8, List.forall_mem_append.mpr ⟨List.all_eq_true.mp jok_9, List.forall_mem_append.mpr ⟨List.all_eq_true.mp jok_10, List.forall_mem_append.mpr ⟨List.all_eq_true.mp jok_11, List.forall_mem_append.mpr ⟨List.all_eq_true.mp jok_12, List.forall_mem_append.mpr ⟨List.all_eq_true.mp jok_13, List.forall_mem_append.mpr ⟨List.all_eq_true.mp jok_14, List.forall_mem_append.mpr ⟨List.all_eq_true.mp jok_15, List.forall_mem_append.mpr ⟨List.all_eq_true.mp jok_16, List.forall_mem_append.mpr ⟨List.all_eq_true.mp jok_17, List.forall_mem_append.mpr ⟨List.all_eq_true.mp jok_18, List.forall_mem_append.mpr ⟨List.all_eq_true.mp jok_19, List.forall_mem_append.mpr ⟨List.all_eq_true.mp jok_20, List.forall_mem_append.mpr ⟨List.all_eq_true.mp jok_21, List.forall_mem_append.mpr ⟨List.all_eq_true.mp jok_22, List.forall_mem_append.mpr ⟨List.all_eq_true.mp jok_23, List.forall_mem_append.mpr ⟨List.all_eq_true.mp jok_24, List.forall_mem_append.mpr ⟨List.all_eq_true.mp jok_25, List.forall_mem_append.mpr ⟨List.all_eq_true.mp jok_26, List.forall_mem_append.mpr ⟨List.all_eq_true.mp jok_27, List.forall_mem_append.mpr ⟨List.all_eq_true.mp jok_28, List.forall_mem_append.mpr ⟨List.all_eq_true.mp jok_29, List.forall_mem_append.mpr ⟨List.all_eq_true.mp jok_30, List.forall_mem_append.mpr ⟨List.all_eq_true.mp jok_31, List.forall_mem_append.mpr ⟨List.all_eq_true.mp jok_32, List.forall_mem_append.mpr ⟨List.all_eq_true.mp jok_33, List.forall_mem_append.mpr ⟨List.all_eq_true.mp jok_34, List.forall_mem_append.mpr ⟨List.all_eq_true.mp jok_35, List.forall_mem_append.mpr ⟨List.all_eq_true.mp jok_36, List.forall_mem_append.mpr ⟨List.all_eq_true.mp jok_37, List.forall_mem_append.mpr ⟨List.all_eq_true.mp jok_38, List.forall_mem_append.mpr ⟨List.all_eq_true.mp jok_39, List.forall_mem_append.mpr ⟨List.all_eq_true.mp jok_40, List.forall_mem_append.mpr ⟨List.all_eq_true.mp jok_41, List.forall_mem_append.mpr ⟨List.all_eq_true.mp jok_42, List.forall_mem_append.mpr ⟨List.all_eq_true.mp jok_43, List.forall_mem_append.mpr ⟨List.all_eq_true.mp jok_44, List.forall_mem_append.mpr ⟨List.all_eq_true.mp jok_45, List.forall_mem_append.mpr ⟨List.all_eq_true.mp jok_46, List.forall_mem_append.mpr ⟨List.all_eq_true.mp jok_47, List.forall_mem_append.mpr ⟨List.all_eq_true.mp jok_48, List.forall_mem_append.mpr ⟨List.all_eq_true.mp jok_49, List.forall_mem_append.mpr ⟨List.all_eq_true.mp jok_50, List.forall_mem_append.mpr ⟨List.all_eq_true.mp jok_51, List.forall_mem_append.mpr ⟨List.all_eq_true.mp jok_52, List.forall_mem_append.mpr ⟨List.all_eq_true.mp jok_53, List.forall_mem_append.mpr ⟨List.all_eq_true.mp jok_54, List.forall_mem_append.mpr ⟨List.all_eq_true.mp jok_55, List.forall_mem_append.mpr ⟨List.all_eq_true.mp jok_56, List.forall_mem_append.mpr ⟨List.all_eq_true.mp jok_57, List.forall_mem_append.mpr ⟨List.all_eq_true.mp jok_58, List.forall_mem_append.mpr ⟨List.all_eq_true.mp jok_59, List.forall_mem_append.mpr ⟨List.all_eq_true.mp jok_60, List.forall_mem_append.mpr ⟨List.all_eq_true.mp jok_61, List.forall_mem_append.mpr ⟨List.all_eq_true.mp jok_62, List.forall_mem_append.mpr ⟨List.all_eq_true.mp jok_63, List.forall_mem_append.mpr ⟨List.all_eq_true.mp jok_64, List.forall_mem_append.mpr ⟨List.all_eq_true.mp jok_65, List.forall_mem_append.mpr ⟨List.all_eq_true.mp jok_66, List.forall_mem_append.mpr ⟨List.all_eq_true.mp jok_67, List.forall_mem_append.mpr ⟨List.all_eq_true.mp jok_68, List.forall_mem_append.mpr ⟨List.all_eq_true.mp jok_69, List.forall_mem_append.mpr ⟨List.all_eq_true.mp jok_70, List.forall_mem_append.mpr ⟨List.all_eq_true.mp jok_71, List.forall_mem_append.mpr ⟨List.all_eq_true.mp jok_72, List.forall_mem_append.mpr ⟨List.all_eq_true.mp jok_73, List.forall_mem_append.mpr ⟨List.all_eq_true.mp jok_74, List.forall_mem_append.mpr ⟨List.all_eq_true.mp jok_75, List.forall_mem_append.mpr ⟨List.all_eq_true.mp jok_76, List.forall_mem_append.mpr ⟨List.all_eq_true.mp jok_77, List.forall_mem_append.mpr ⟨List.all_eq_true.mp jok_78, List.forall_mem_append.mpr ⟨List.all_eq_true.mp jok_79, List.forall_mem_append.mpr ⟨List.all_eq_true.mp jok_80, List.forall_mem_append.mpr ⟨List.all_eq_true.mp jok_81, List.forall_mem_append.mpr ⟨List.all_eq_true.mp jok_82, List.forall_mem_append.mpr ⟨List.all_eq_true.mp jok_83, List.forall_mem_append.mpr ⟨List.all_eq_true.mp jok_84, List.forall_mem_append.mpr ⟨List.all_eq_true.mp jok_85, List.forall_mem_append.mpr ⟨List.all_eq_true.mp jok_86, List.forall_mem_append.mpr ⟨List.all_eq_true.mp jok_87, List.forall_mem_append.mpr ⟨List.all_eq_true.mp jok_88, List.forall_mem_append.mpr ⟨List.all_eq_true.mp jok_89, List.forall_mem_append.mpr ⟨List.all_eq_true.mp jok_90, List.forall_mem_append.mpr ⟨List.all_eq_true.mp jok_91, List.forall_mem_append.mpr ⟨List.all_eq_true.mp jok_92, List.forall_mem_append.mpr ⟨List.all_eq_true.mp jok_93, List.forall_mem_append.mpr ⟨List.all_eq_true.mp jok_94, List.forall_mem_append.mpr ⟨List.all_eq_true.mp jok_95, List.forall_mem_append.mpr ⟨List.all_eq_true.mp jok_96, List.forall_mem_append.mpr ⟨List.all_eq_true.mp jok_97, List.forall_mem_append.mpr ⟨List.all_eq_true.mp jok_98, List.forall_mem_append.mpr ⟨List.all_eq_true.mp jok_99, List.forall_mem_append.mpr ⟨List.all_eq_true.mp jok_100, List.forall_mem_append.mpr ⟨List.all_eq_true.mp jok_101, List.forall_mem_append.mpr ⟨List.all_eq_true.mp jok_102, List.forall_mem_append.mpr ⟨List.all_eq_true.mp jok_103, List.forall_mem_append.mpr ⟨List.all_eq_true.mp jok_104, List.forall_mem_append.mpr ⟨List.all_eq_true.mp jok_105, List.forall_mem_append.mpr ⟨List.all_eq_true.mp jok_106, List.forall_mem_append.mpr ⟨List.all_eq_true.mp jok_107, List.forall_mem_append.mpr ⟨List.all_eq_true.mp jok_108, List.forall_mem_append.mpr ⟨List.all_eq_true.mp jok_109, List.forall_mem_append.mpr ⟨List.all_eq_true.mp jok_110, List.forall_mem_append.mpr ⟨List.all_eq_true.mp jok_111, List.forall_mem_append.mpr ⟨List.all_eq_true.mp jok_112, List.forall_mem_append.mpr ⟨List.all_eq_true.mp jok_113, List.forall_mem_append.mpr ⟨List.all_eq_true.mp jok_114, List.forall_mem_append.mpr ⟨List.all_eq_true.mp jok_115, List.all_eq_true.mp jok_116⟩⟩⟩⟩⟩⟩⟩⟩⟩⟩⟩⟩⟩⟩⟩⟩⟩⟩⟩⟩⟩⟩⟩⟩⟩⟩⟩⟩⟩⟩⟩⟩⟩⟩⟩⟩⟩⟩⟩⟩⟩⟩⟩⟩⟩⟩⟩⟩⟩⟩⟩⟩⟩⟩⟩⟩⟩⟩⟩⟩⟩⟩⟩⟩⟩⟩⟩⟩⟩⟩⟩⟩⟩⟩⟩⟩⟩⟩⟩⟩⟩⟩⟩⟩⟩⟩⟩⟩⟩⟩⟩⟩⟩⟩⟩⟩⟩⟩⟩⟩⟩⟩⟩⟩⟩⟩⟩⟩⟩⟩⟩⟩⟩⟩⟩⟩
def jcst8 (p : Nat) (q : Nat × Nat × Nat) : Nat := bif Nat.ble q.2.1 p then Nat.max p (q.2.1 + q.2.2) else p
theorem jcov : ∀ (l : List (Nat × Nat × Nat)) (p pc : Nat), p ≤ pc → pc < l.foldl jcst8 p → ∃ q ∈ l, q.2.1 ≤ pc ∧ pc < q.2.1 + q.2.2
  | [], p, pc, h1, h2 => absurd h2 (Nat.not_lt.mpr h1)
  | q :: l, p, pc, h1, h2 => by
    rw [List.foldl_cons] at h2
    by_cases h3 : jcst8 p q ≤ pc
    · obtain ⟨z, hz, hh⟩ := jcov l _ pc h3 h2
      exact ⟨z, List.mem_cons_of_mem _ hz, hh⟩
    · refine ⟨q, List.mem_cons_self, ?_⟩
      unfold jcst8 at h3
      cases hb : Nat.ble q.2.1 p with
      | true =>
        rw [hb] at h3
        simp only [cond_true] at h3
        have h4 := Nat.le_of_ble_eq_true hb
        have h5 : pc < max p (q.2.1 + q.2.2) := Nat.not_le.mp h3
        omega
      | false =>
        rw [hb] at h3
        simp only [cond_false] at h3
        omega
set_option maxRecDepth 100000 in
theorem jcov_ok : (List.range 276).all (fun i => Nat.ble (jcln i) ((jgrp.filter fun q => Nat.beq q.1 i).foldl jcst8 0)) = true := by decide +kernel
theorem jck_ok : ∀ i pc E, i < 276 → jcode i pc = some E → jchk i pc E = true := by
  intro i pc E hi h
  have hlt : pc < jcln i := by
    unfold jcode at h
    obtain ⟨h0, -⟩ := jbif h
    exact Nat.le_of_ble_eq_true h0
  have hc := Nat.le_of_ble_eq_true (List.all_eq_true.mp jcov_ok i (List.mem_range.mpr hi))
  obtain ⟨q, hq, h1, h2⟩ := jcov _ 0 pc (Nat.zero_le _) (Nat.lt_of_lt_of_le hlt hc)
  obtain ⟨hq1, hq2⟩ := List.mem_filter.mp hq
  have hqi : q.1 = i := jbeq hq2
  have ha := jgrp_ok q hq1
  unfold jallr at ha
  rw [hqi] at ha
  have hp := List.all_eq_true.mp ha pc (List.mem_range'_1.mpr ⟨h1, h2⟩)
  rw [h] at hp
  exact hp
theorem jmk_ok : ∀ i, i < 276 → jmchk i = true := by
  intro i hi
  by_cases h0 : i < 6
  · exact List.all_eq_true.mp jmk_0 i (List.mem_range'_1.mpr ⟨by omega, by omega⟩)
  by_cases h1 : i < 12
  · exact List.all_eq_true.mp jmk_1 i (List.mem_range'_1.mpr ⟨by omega, by omega⟩)
  by_cases h2 : i < 18
  · exact List.all_eq_true.mp jmk_2 i (List.mem_range'_1.mpr ⟨by omega, by omega⟩)
  by_cases h3 : i < 24
  · exact List.all_eq_true.mp jmk_3 i (List.mem_range'_1.mpr ⟨by omega, by omega⟩)
  by_cases h4 : i < 30
  · exact List.all_eq_true.mp jmk_4 i (List.mem_range'_1.mpr ⟨by omega, by omega⟩)
  by_cases h5 : i < 36
  · exact List.all_eq_true.mp jmk_5 i (List.mem_range'_1.mpr ⟨by omega, by omega⟩)
  by_cases h6 : i < 42
  · exact List.all_eq_true.mp jmk_6 i (List.mem_range'_1.mpr ⟨by omega, by omega⟩)
  by_cases h7 : i < 48
  · exact List.all_eq_true.mp jmk_7 i (List.mem_range'_1.mpr ⟨by omega, by omega⟩)
  by_cases h8 : i < 54
  · exact List.all_eq_true.mp jmk_8 i (List.mem_range'_1.mpr ⟨by omega, by omega⟩)
  by_cases h9 : i < 60
  · exact List.all_eq_true.mp jmk_9 i (List.mem_range'_1.mpr ⟨by omega, by omega⟩)
  by_cases h10 : i < 66
  · exact List.all_eq_true.mp jmk_10 i (List.mem_range'_1.mpr ⟨by omega, by omega⟩)
  by_cases h11 : i < 72
  · exact List.all_eq_true.mp jmk_11 i (List.mem_range'_1.mpr ⟨by omega, by omega⟩)
  by_cases h12 : i < 78
  · exact List.all_eq_true.mp jmk_12 i (List.mem_range'_1.mpr ⟨by omega, by omega⟩)
  by_cases h13 : i < 84
  · exact List.all_eq_true.mp jmk_13 i (List.mem_range'_1.mpr ⟨by omega, by omega⟩)
  by_cases h14 : i < 90
  · exact List.all_eq_true.mp jmk_14 i (List.mem_range'_1.mpr ⟨by omega, by omega⟩)
  by_cases h15 : i < 96
  · exact List.all_eq_true.mp jmk_15 i (List.mem_range'_1.mpr ⟨by omega, by omega⟩)
  by_cases h16 : i < 102
  · exact List.all_eq_true.mp jmk_16 i (List.mem_range'_1.mpr ⟨by omega, by omega⟩)
  by_cases h17 : i < 108
  · exact List.all_eq_true.mp jmk_17 i (List.mem_range'_1.mpr ⟨by omega, by omega⟩)
  by_cases h18 : i < 114
  · exact List.all_eq_true.mp jmk_18 i (List.mem_range'_1.mpr ⟨by omega, by omega⟩)
  by_cases h19 : i < 120
  · exact List.all_eq_true.mp jmk_19 i (List.mem_range'_1.mpr ⟨by omega, by omega⟩)
  by_cases h20 : i < 126
  · exact List.all_eq_true.mp jmk_20 i (List.mem_range'_1.mpr ⟨by omega, by omega⟩)
  by_cases h21 : i < 132
  · exact List.all_eq_true.mp jmk_21 i (List.mem_range'_1.mpr ⟨by omega, by omega⟩)
  by_cases h22 : i < 138
  · exact List.all_eq_true.mp jmk_22 i (List.mem_range'_1.mpr ⟨by omega, by omega⟩)
  by_cases h23 : i < 144
  · exact List.all_eq_true.mp jmk_23 i (List.mem_range'_1.mpr ⟨by omega, by omega⟩)
  by_cases h24 : i < 150
  · exact List.all_eq_true.mp jmk_24 i (List.mem_range'_1.mpr ⟨by omega, by omega⟩)
  by_cases h25 : i < 156
  · exact List.all_eq_true.mp jmk_25 i (List.mem_range'_1.mpr ⟨by omega, by omega⟩)
  by_cases h26 : i < 162
  · exact List.all_eq_true.mp jmk_26 i (List.mem_range'_1.mpr ⟨by omega, by omega⟩)
  by_cases h27 : i < 168
  · exact List.all_eq_true.mp jmk_27 i (List.mem_range'_1.mpr ⟨by omega, by omega⟩)
  by_cases h28 : i < 174
  · exact List.all_eq_true.mp jmk_28 i (List.mem_range'_1.mpr ⟨by omega, by omega⟩)
  by_cases h29 : i < 180
  · exact List.all_eq_true.mp jmk_29 i (List.mem_range'_1.mpr ⟨by omega, by omega⟩)
  by_cases h30 : i < 186
  · exact List.all_eq_true.mp jmk_30 i (List.mem_range'_1.mpr ⟨by omega, by omega⟩)
  by_cases h31 : i < 192
  · exact List.all_eq_true.mp jmk_31 i (List.mem_range'_1.mpr ⟨by omega, by omega⟩)
  by_cases h32 : i < 198
  · exact List.all_eq_true.mp jmk_32 i (List.mem_range'_1.mpr ⟨by omega, by omega⟩)
  by_cases h33 : i < 204
  · exact List.all_eq_true.mp jmk_33 i (List.mem_range'_1.mpr ⟨by omega, by omega⟩)
  by_cases h34 : i < 210
  · exact List.all_eq_true.mp jmk_34 i (List.mem_range'_1.mpr ⟨by omega, by omega⟩)
  by_cases h35 : i < 216
  · exact List.all_eq_true.mp jmk_35 i (List.mem_range'_1.mpr ⟨by omega, by omega⟩)
  by_cases h36 : i < 222
  · exact List.all_eq_true.mp jmk_36 i (List.mem_range'_1.mpr ⟨by omega, by omega⟩)
  by_cases h37 : i < 228
  · exact List.all_eq_true.mp jmk_37 i (List.mem_range'_1.mpr ⟨by omega, by omega⟩)
  by_cases h38 : i < 234
  · exact List.all_eq_true.mp jmk_38 i (List.mem_range'_1.mpr ⟨by omega, by omega⟩)
  by_cases h39 : i < 240
  · exact List.all_eq_true.mp jmk_39 i (List.mem_range'_1.mpr ⟨by omega, by omega⟩)
  by_cases h40 : i < 246
  · exact List.all_eq_true.mp jmk_40 i (List.mem_range'_1.mpr ⟨by omega, by omega⟩)
  by_cases h41 : i < 252
  · exact List.all_eq_true.mp jmk_41 i (List.mem_range'_1.mpr ⟨by omega, by omega⟩)
  by_cases h42 : i < 258
  · exact List.all_eq_true.mp jmk_42 i (List.mem_range'_1.mpr ⟨by omega, by omega⟩)
  by_cases h43 : i < 264
  · exact List.all_eq_true.mp jmk_43 i (List.mem_range'_1.mpr ⟨by omega, by omega⟩)
  by_cases h44 : i < 270
  · exact List.all_eq_true.mp jmk_44 i (List.mem_range'_1.mpr ⟨by omega, by omega⟩)
  by_cases h45 : i < 276
  · exact List.all_eq_true.mp jmk_45 i (List.mem_range'_1.mpr ⟨by omega, by omega⟩)
  omega
