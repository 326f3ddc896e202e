/-! THE PURE PART: the start of the law. -/
def jinit (L : Nat) (xs : Nat → Int32) : jM := (fun a k => if a = 44 then xs k else if a = 45 then Int32.ofNat L else 0, fun _ _ => 0, fun _ _ => none, [], 0)
section START
variable {μ : jM} {d L : Nat} {Q : jO → jM → Prop} {xs : Nat → Int32}
theorem ji_q {a k : Nat} : jQ (jinit L xs) a k = none := rfl
theorem ji_l : (jA (jinit L xs)).length = 0 := rfl
theorem ji_i {a k : Nat} (h : ¬ a = 44) (h2 : ¬ a = 45) : jI (jinit L xs) a k = 0 := by
  show (if a = 44 then xs k else if a = 45 then Int32.ofNat L else 0) = 0
  rw [if_neg h, if_neg h2]
def kOLa : List (Nat × Nat × Nat × Nat) := (0, 0, 0, 0) :: (kOCl ++ ((0, 10, 0, 0) :: kOMo))
theorem la_W : jWd (oR kOLa (jinit L xs)) := by
  unfold jWd
  simp only [oR_q, ji_q, ji_l]
  and_intros <;> decide +kernel
theorem la_P : jQ (oR kOLa (jinit L xs)) 4490 11 = some (64 * 77 + 11) := by
  rw [oR_q, ji_q, ji_l]
  decide +kernel
theorem la_l : (jA (oR kOLa (jinit L xs))).length = 119 := (oR_l _ _).trans (by rw [ji_l]; decide +kernel)
theorem la_i {a k : Nat} (h : ¬ a = 44) (h2 : ¬ a = 45) : jI (oR kOLa (jinit L xs)) a k = oI kOLa 0 a k 0 := by
  rw [oR_i, ji_i h h2, ji_l]
def kLaM (L : Nat) (xs : Nat → Int32) : jM := jnew (kBegMs (oR kOLa (jinit L xs)) 10) 31
theorem c_law0 : Ex (d + 1 + 2) 0 0 (jent 0 [.ref 44]) [] (jinit L xs) Q ↔ Ex (d + 1 + 2) 0 23 [some (.ref 44), some (.ref 0), some (.ref 4490), some (.ref 7647), some (.int (iN 0)), none, none, none, none] [] (kLaM L xs) Q := by
  have hw : jWd (oR kOLa (jinit L xs)) := la_W
  have he : jent 0 [.ref 44] = [some (.ref 44), none, none, none, none, none, none, none, none] := rfl
  have hk : (jA (kBegMs (oR kOLa (jinit L xs)) 10)).length = 119 := by rw [kBegMs_q.2.2.1]; exact la_l
  rw [he]
  unfold kLaM
  simp only [kOLa, oR_n, oR_c, oR_a, oS0] at hw hk ⊢
  simp only [x0_0, x0_3a, x0_3b, x0_4, x0_7a, x0_7b, x0_7c, x0_7d, x0_8, x0_11a, x0_11b, x0_12, x0_15a, x0_15b, x0_15c, x0_15d, x0_16, x0_17, x0_19a, x0_19b, x0_19c, x0_19d, x0_20, x0_21a, x0_21b, x0_21c, x0_21d, x0_25, x0_26, x0_27, x0_29, x0_30, x0_33, x0_34, x0_36, x0_37, x0_39, x0_40, x0_144, x0_145, x0_146, x0_148, x0_149, x0_150, x0_151, x0_152, x0_154, x0_155, x0_156, x0_157, x0_158, x0_160, x0_161, x0_162, x0_163, x0_164, x0_166, x0_167, x0_168, x0_169, x0_170, x0_172, x0_173, x0_174, x0_175, x0_176, x0_179a, x0_179b, x0_179c, x0_179d, x0_181, x0_182, x0_183, x0_185, x0_186, x0_187, x0_188, x0_189, x0_191, x0_192, x0_193, x0_194, x0_195, x0_197, x0_198, x0_199, x0_200, x0_201, x0_203, x0_204, x0_205, x0_206, x0_207, x0_209, x0_210, x0_211, x0_212, x0_215a, x0_215b, x0_215c, x0_215d, x0_217, x0_218, x0_221, x0_223, x0_226, x0_227, x0_228, x0_230, x0_233, x0_234, x0_235, x0_236, x0_238, x0_239, x0_240, x0_243, x0_244, x0_245, x0_248, x0_249, x0_250, x0_252, x0_253, x0_254, x0_255, x0_256, x0_259a, x0_259b, x0_259c, x0_259d, x0_261, x0_262, x0_263, x0_265, x0_266, x0_267, x0_268, x0_271a, x0_271b, x0_271c, x0_271d, x0_273, x0_274, x0_277, x0_279, x0_282, x0_283, x0_284, x0_286, x0_289, x0_290, x0_291, x0_292, x0_294, x0_295, x0_296, x0_299, x0_300, x0_301, x0_304, x0_305, x0_308, x0_309, x0_312, x0_315, x0_316, x0_317, x0_318, x0_321, x0_322, x0_325, x0_328, x0_329, x0_330, x0_331, x0_332, x0_334, x0_335, x0_336, x0_337, x0_338, x0_341a, x0_341b, x0_341c, x0_341d, x0_343, x0_344, x0_345, x0_347, x0_348, x0_349, x0_350, x0_353a, x0_353b, x0_353c, x0_353d, x0_355, x0_356, x0_359, x0_361, x0_364, x0_365, x0_366, x0_368, x0_371, x0_372, x0_373, x0_374, x0_376, x0_377, x0_378, x0_381, x0_382, x0_383, x0_386, x0_387, x0_388, x0_390, x0_391, x0_392, x0_393, x0_394, x0_397a, x0_397b, x0_397c, x0_397d, x0_399, x0_400, x0_401, x0_403, x0_404, x0_405, x0_406, x0_409a, x0_409b, x0_409c, x0_409d, x0_411, x0_412, x0_415, x0_417, x0_420, x0_421, x0_422, x0_424, x0_427, x0_428, x0_429, x0_430, x0_432, x0_433, x0_434, x0_437, x0_438, x0_439, x0_442, x0_443, x0_444, x0_446, x0_447, x0_448, x0_449, x0_450, x0_453a, x0_453b, x0_453c, x0_453d, x0_455, x0_456, x0_457, x0_459, x0_460, x0_461, x0_462, x0_465a, x0_465b, x0_465c, x0_465d, x0_467, x0_468, x0_471, x0_473, x0_476, x0_477, x0_478, x0_480, x0_483, x0_484, x0_485, x0_486, x0_488, x0_489, x0_490, x0_493, x0_494, x0_495, x0_498, x0_499, x0_500, x0_502, x0_503, x0_504, x0_505, x0_506, x0_508, x0_509, x0_510, x0_511, x0_512, x0_515a, x0_515b, x0_515c, x0_515d, x0_517, x0_518, x0_519, x0_521, x0_522, x0_523, x0_524, x0_525, x0_527, x0_528, x0_529, x0_530, x0_533a, x0_533b, x0_533c, x0_533d, x0_535, x0_536, x0_539, x0_541, x0_544, x0_545, x0_546, x0_548, x0_551, x0_552, x0_553, x0_554, x0_556, x0_557, x0_558, x0_561, x0_562, x0_563, x0_566, x0_567, x0_568, x0_570, x0_571, x0_572, x0_573, x0_574, x0_577a, x0_577b, x0_577c, x0_577d, x0_579, x0_580, x0_581, x0_583, x0_584, x0_585, x0_586, x0_589a, x0_589b, x0_589c, x0_589d, x0_591, x0_592, x0_595, x0_597, x0_600, x0_601, x0_602, x0_604, x0_607, x0_608, x0_609, x0_610, x0_612, x0_613, x0_614, x0_617, x0_618, x0_619, x0_622, x0_623, x0_624, x0_626, x0_627, x0_628, x0_629, x0_630, x0_632, x0_633, x0_634, x0_635, x0_636, x0_639a, x0_639b, x0_639c, x0_639d, x0_641, x0_642, x0_643, x0_645, x0_646, x0_647, x0_648, x0_649, x0_651, x0_652, x0_653, x0_654, x0_657a, x0_657b, x0_657c, x0_657d, x0_659, x0_660, x0_663, x0_665, x0_668, x0_669, x0_670, x0_672, x0_675, x0_676, x0_677, x0_678, x0_680, x0_681, x0_682, x0_685, x0_686, x0_687, x0_690, x0_691, x0_692, x0_694, x0_695, x0_696, x0_697, x0_698, x0_700, x0_701, x0_702, x0_703, x0_704, x0_707a, x0_707b, x0_707c, x0_707d, x0_709, x0_710, x0_711, x0_713, x0_714, x0_715, x0_716, x0_717, x0_719, x0_720, x0_721, x0_722, x0_725a, x0_725b, x0_725c, x0_725d, x0_727, x0_728, x0_731, x0_733, x0_736, x0_737, x0_738, x0_740, x0_743, x0_744, x0_745, x0_746, x0_748, x0_749, x0_750, x0_753, x0_754, x0_755, x0_758, x0_759, x0_760, x0_762, x0_763, x0_764, x0_765, x0_766, x0_768, x0_769, x0_770, x0_771, x0_772, x0_775a, x0_775b, x0_775c, x0_775d, x0_777, x0_778, x0_779, x0_781, x0_782, x0_783, x0_784, x0_785, x0_787, x0_788, x0_789, x0_790, x0_793a, x0_793b, x0_793c, x0_793d, x0_795, x0_796, x0_799, x0_801, x0_804, x0_805, x0_806, x0_808, x0_811, x0_812, x0_813, x0_814, x0_816, x0_817, x0_818, x0_821, x0_822, x0_823, x0_826, x0_827, x0_828, x0_830, x0_831, x0_832, x0_833, x0_834, x0_836, x0_837, x0_838, x0_839, x0_840, x0_843a, x0_843b, x0_843c, x0_843d, x0_845, x0_846, x0_847, x0_849, x0_850, x0_851, x0_852, x0_853, x0_855, x0_856, x0_857, x0_858, x0_861a, x0_861b, x0_861c, x0_861d, x0_863, x0_864, x0_867, x0_869, x0_872, x0_873, x0_874, x0_876, x0_879, x0_880, x0_881, x0_882, x0_884, x0_885, x0_886, x0_889, x0_890, x0_891, x0_894, x0_895, x0_896, x0_898, x0_899, x0_900, x0_901, x0_902, x0_904, x0_905, x0_906, x0_907, x0_908, x0_911a, x0_911b, x0_911c, x0_911d, x0_913, x0_914, x0_915, x0_917, x0_918, x0_919, x0_920, x0_921, x0_923, x0_924, x0_925, x0_926, x0_929a, x0_929b, x0_929c, x0_929d, x0_931, x0_932, x0_935, x0_937, x0_940, x0_941, x0_942, x0_944, x0_947, x0_948, x0_949, x0_950, x0_952, x0_953, x0_954, x0_957, x0_958, x0_959, x0_962, x0_963, x0_964, x0_966, x0_967, x0_968, x0_969, x0_970, x0_972, x0_973, x0_974, x0_975, x0_976, x0_979a, x0_979b, x0_979c, x0_979d, x0_981, x0_982, x0_983, x0_985, x0_986, x0_987, x0_988, x0_989, x0_991, x0_992, x0_993, x0_994, x0_997a, x0_997b, x0_997c, x0_997d, x0_999, x0_1000, x0_1003, x0_1005, x0_1008, x0_1009, x0_1010, x0_1012, x0_1015, x0_1016, x0_1017, x0_1018, x0_1020, x0_1021, x0_1022, x0_1025, x0_1026, x0_1027, x0_1030, x0_1031, x0_1032, x0_1034, x0_1035, x0_1036, x0_1037, x0_1038, x0_1040, x0_1041, x0_1042, x0_1043, x0_1044, x0_1047a, x0_1047b, x0_1047c, x0_1047d, x0_1049, x0_1050, x0_1051, x0_1053, x0_1054, x0_1055, x0_1056, x0_1057, x0_1059, x0_1060, x0_1061, x0_1062, x0_1065a, x0_1065b, x0_1065c, x0_1065d, x0_1067, x0_1068, x0_1071, x0_1073, x0_1076, x0_1077, x0_1078, x0_1080, x0_1083, x0_1084, x0_1085, x0_1086, x0_1088, x0_1089, x0_1090, x0_1093, x0_1094, x0_1095, x0_1098, x0_1099, x0_1100, x0_1102, x0_1103, x0_1104, x0_1105, x0_1106, x0_1109a, x0_1109b, x0_1109c, x0_1109d, x0_1111, x0_1112, x0_1113, x0_1115, x0_1116, x0_1117, x0_1118, x0_1121a, x0_1121b, x0_1121c, x0_1121d, x0_1123, x0_1124, x0_1127, x0_1129, x0_1132, x0_1133, x0_1134, x0_1136, x0_1139, x0_1140, x0_1141, x0_1142, x0_1144, x0_1145, x0_1146, x0_1149, x0_1150, x0_1151, x0_1154, x0_1155, x0_1156, x0_1158, x0_1159, x0_1160, x0_1161, x0_1162, x0_1164, x0_1165, x0_1166, x0_1167, x0_1168, x0_1171a, x0_1171b, x0_1171c, x0_1171d, x0_1173, x0_1174, x0_1175, x0_1177, x0_1178, x0_1179, x0_1180, x0_1181, x0_1183, x0_1184, x0_1185, x0_1186, x0_1189a, x0_1189b, x0_1189c, x0_1189d, x0_1191, x0_1192, x0_1195, x0_1197, x0_1200, x0_1201, x0_1202, x0_1204, x0_1207, x0_1208, x0_1209, x0_1210, x0_1212, x0_1213, x0_1214, x0_1217, x0_1218, x0_1219, x0_1222, x0_1223, x0_1224, x0_1226, x0_1227, x0_1228, x0_1229, x0_1230, x0_1233a, x0_1233b, x0_1233c, x0_1233d, x0_1235, x0_1236, x0_1237, x0_1239, x0_1240, x0_1241, x0_1242, x0_1245a, x0_1245b, x0_1245c, x0_1245d, x0_1247, x0_1248, x0_1251, x0_1253, x0_1256, x0_1257, x0_1258, x0_1260, x0_1263, x0_1264, x0_1265, x0_1266, x0_1268, x0_1269, x0_1270, x0_1273, x0_1274, x0_1275, x0_1278, x0_1279, x0_1280, x0_1282, x0_1283, x0_1284, x0_1285, x0_1286, x0_1288, x0_1289, x0_1290, x0_1291, x0_1292, x0_1295a, x0_1295b, x0_1295c, x0_1295d, x0_1297, x0_1298, x0_1299, x0_1301, x0_1302, x0_1303, x0_1304, x0_1305, x0_1307, x0_1308, x0_1309, x0_1310, x0_1313a, x0_1313b, x0_1313c, x0_1313d, x0_1315, x0_1316, x0_1319, x0_1321, x0_1324, x0_1325, x0_1326, x0_1328, x0_1331, x0_1332, x0_1333, x0_1334, x0_1336, x0_1337, x0_1338, x0_1341, x0_1342, x0_1343, x0_1346, x0_1347, x0_1350a, x0_1350b, x0_1350c, x0_1350d, x0_1352, x0_1353, x0_1356a, x0_1356b, x0_1356c, x0_1356d, x0_1358, x0_1360, x0_1362, x0_1363, x0_1366, x0_1368, x0_1370, x0_1371, x0_1374, x0_1376, x0_1378, x0_1379, x0_1382, x0_1383, x0_1384, x0_1387, x0_1388, x0_1391, x0_1392, x0_1395, x0_1396, x0_1399, x0_1400, x0_1401a, x0_1401b, x0_1401c, x0_1404, x0_1407, x0_1408, mzi, mInc, mne, mlt9, mrk, mI1, mI2, mI3, mI4, mL1, mL2, mL3, mL4, mQ1, mQ2, mQ3, mQ4, mT1, mcat0, mcat1, mcat2, mcat3, mcat4, mrf1, jK_v, jK_n, JA, mz1, if_true, if_false, ite_true, ite_false, eq_self, not_false_eq_true, Nat.zero_le, true_and, and_true, and_self, Nat.reduceMod, Nat.reduceAdd, Nat.reduceLeDiff, Nat.reduceEqDiff, Nat.reduceLT, jadr, jl_new, Nat.reduceMul, lOCl, lOMo, ji_l, c_iCl, c_iMo, hw, hk]
theorem la_q {a : Nat} (h : a < 7616) : jQ (kLaM L xs) a = jQ (oR kOLa (jinit L xs)) a := by
  unfold kLaM
  rw [jnq (by rw [kBegMs_q.2.2.1, la_l]; omega), kBegMs_q.1]
theorem la_z {a k : Nat} (h : ¬ a = 44) (h2 : ¬ a = 45) (h3 : a < 5836 ∨ 6288 < a) (h4 : a < 7616) : jI (kLaM L xs) a k = oI kOLa 0 a k 0 := by
  unfold kLaM
  rw [(jnew_r (show ¬ a = 64 * (jA (kBegMs (oR kOLa (jinit L xs)) 10)).length + 31 by rw [kBegMs_q.2.2.1, la_l]; omega)).1, kBegMs_f h3, la_i h h2]
theorem la_zb {a k : Nat} (h : 5836 ≤ a) (h4 : a < 7616) : jI (kLaM L xs) a k = jI (kBegMs (oR kOLa (jinit L xs)) 10) a k := by
  unfold kLaM
  rw [(jnew_r (show ¬ a = 64 * (jA (kBegMs (oR kOLa (jinit L xs)) 10)).length + 31 by rw [kBegMs_q.2.2.1, la_l]; omega)).1]
theorem la_5836 {k : Nat} : jI (kLaM L xs) 5836 k = if k = 7 then 0 else oI kOLa 0 5836 k 0 := by
  rw [la_zb (by decide) (by decide)]
  unfold kBegMs
  rw [mR2 (by decide), mR2 (by decide), mR2 (by decide), mR2 (by decide), mR2 (by decide), mR2 (by decide), mI1, la_i (by decide) (by decide)]
theorem la_6096 {k : Nat} (hk : k < 10) : jI (kLaM L xs) 6096 k = 0 := by
  rw [la_zb (by decide) (by decide)]
  unfold kBegMs
  rw [mR2 (by decide), mR2 (by decide), mR1]
  exact if_pos hk
theorem oI_rw : ∀ (l : List (Nat × Nat × Nat × Nat)) (N a k k' : Nat) (v : Int32), (l.all fun o => !(Nat.beq o.1 2 || Nat.beq o.1 3) || !(Nat.beq a o.2.1)) = true → oI l N a k v = oI l N a k' v
  | [], _, _, _, _, _, _ => rfl
  | o :: l, N, a, k, k', v, h => by
    rw [List.all_cons, Bool.and_eq_true] at h
    show oI l (N + oW o) a k (oU o N a k v) = oI l (N + oW o) a k' (oU o N a k' v)
    have e : oU o N a k v = oU o N a k' v := by
      unfold oU
      have h1 := h.1
      cases h0 : Nat.beq o.1 0 with
      | true => rfl
      | false =>
        cases h2 : Nat.beq o.1 2 with
        | true =>
          rw [h2] at h1
          cases h3 : Nat.beq a o.2.1 with
          | true => rw [h3] at h1; exact absurd h1 Bool.false_ne_true
          | false => rfl
        | false =>
          cases h4 : Nat.beq o.1 3 with
          | true =>
            rw [h2, h4] at h1
            cases h3 : Nat.beq a o.2.1 with
            | true => rw [h3] at h1; exact absurd h1 Bool.false_ne_true
            | false => rfl
          | false => rfl
    rw [e]
    exact oI_rw l _ a k k' _ h.2
theorem oI_no : ∀ (l : List (Nat × Nat × Nat × Nat)) (N a k : Nat) (v : Int32), oT l N a = true → oI l N a k v = v
  | [], _, _, _, _, _ => rfl
  | o :: l, N, a, k, v, h => by
    have h' : ((bif Nat.beq o.1 0 then !(Nat.beq a (64 * N + o.2.1)) else !(Nat.beq a o.2.1)) && oT l (N + oW o) a) = true := h
    rw [Bool.and_eq_true] at h'
    show oI l (N + oW o) a k (oU o N a k v) = v
    have e : oU o N a k v = v := by
      unfold oU
      have h1 := h'.1
      cases h0 : Nat.beq o.1 0 with
      | true =>
        rw [h0] at h1
        cases h3 : Nat.beq a (64 * N + o.2.1) with
        | true => rw [h3] at h1; exact absurd h1 Bool.false_ne_true
        | false => rfl
      | false =>
        rw [h0] at h1
        cases h3 : Nat.beq a o.2.1 with
        | true => rw [h3] at h1; exact absurd h1 Bool.false_ne_true
        | false => cases Nat.beq o.1 1 <;> cases Nat.beq o.1 2 <;> cases Nat.beq o.1 3 <;> rfl
    rw [e]
    exact oI_no l _ a k v h'.2
theorem la_Wi : jWd (kLaM L xs) := by
  have hw : jWd (oR kOLa (jinit L xs)) := la_W
  have hq := fun (a : Nat) (h : a < 7616) => la_q (L := L) (xs := xs) h
  unfold jWd at hw ⊢
  simp only [hq, Nat.reduceLT]
  exact hw
theorem la_len : (jA (kLaM L xs)).length = 120 := by
  unfold kLaM
  rw [jl_new, kBegMs_q.2.2.1, la_l]
theorem la_A : jA (kLaM L xs) = oL (kOLa ++ [(0, 31, 0, 0)]) 0 := by
  have h := oR_A (kOLa ++ [(0, 31, 0, 0)]) (jinit L xs)
  rw [oR_a] at h
  have h2 : jA (kLaM L xs) = jA (oR kOLa (jinit L xs)) ++ [64 * (jA (oR kOLa (jinit L xs))).length + 31] := by
    unfold kLaM
    show jA (kBegMs (oR kOLa (jinit L xs)) 10) ++ [64 * (jA (kBegMs (oR kOLa (jinit L xs)) 10)).length + 31] = _
    rw [kBegMs_q.2.2.1]
  rw [h2]
  exact h
theorem la_X : jX (kLaM L xs) = 0 := by
  have h : ∀ (μ : jM) (c : Nat), jX (jnew μ c) = jX μ := fun _ _ => rfl
  have h2 : jX (jinit L xs) = 0 := rfl
  unfold kLaM
  rw [h, kBegMs_q.2.2.2, oR_X, h2]
theorem la_nc : jnc (kLaM L xs) = 120 := by
  unfold jnc
  rw [la_len, la_X]
theorem la_ns : jns (kLaM L xs) ≤ 1000000 := by
  unfold jns
  rw [la_A, la_X]
  decide +kernel
theorem la_45 : jI (kLaM L xs) 45 0 = iN L := by
  unfold kLaM
  rw [(jnew_r (show ¬ 45 = 64 * (jA (kBegMs (oR kOLa (jinit L xs)) 10)).length + 31 by rw [kBegMs_q.2.2.1, la_l]; decide)).1, kBegMs_f (by decide), oR_i, ji_l]
  exact (show oI kOLa 0 45 0 (iN L) = iN L from by rw [oI_no _ _ _ _ _ (by decide +kernel)])
theorem la_J : jJ (kLaM L xs) := by
  have z := fun {a k : Nat} => la_z (L := L) (xs := xs) (a := a) (k := k)
  have z0 : ∀ a k, ¬ a = 44 → ¬ a = 45 → (a < 5836 ∨ 6288 < a) → a < 7616 → oI kOLa 0 a k 0 = 0 → jI (kLaM L xs) a k = 0 := fun a k h1 h2 h3 h4 h => (z h1 h2 h3 h4).trans h
  refine ⟨?_, ⟨0, jTq_0 (z0 _ _ (by decide) (by decide) (by decide) (by decide) (by decide +kernel)) (z0 _ _ (by decide) (by decide) (by decide) (by decide) (by decide +kernel))⟩, by rw [la_len]; decide, 77, 0, 0, 0, 0, fun _ => 0, 0, fun _ => [], 0, 1, ?_, ?_, by rw [la_len]; decide⟩
  · rw [z (by decide) (by decide) (by decide) (by decide), z (by decide) (by decide) (by decide) (by decide)]
    decide +kernel
  · refine ⟨⟨la_Wi, z0 _ _ (by decide) (by decide) (by decide) (by decide) (by decide +kernel), by decide, z0 _ _ (by decide) (by decide) (by decide) (by decide) (by decide +kernel), by decide, z0 _ _ (by decide) (by decide) (by decide) (by decide) (by decide +kernel), by decide, z0 _ _ (by decide) (by decide) (by decide) (by decide) (by decide +kernel), by decide, fun k hk => absurd hk (Nat.not_lt_zero _), fun k hk => absurd hk (Nat.not_lt_zero _), fun k hk => absurd hk (Nat.not_lt_zero _), fun k hk => absurd hk (Nat.not_lt_zero _)⟩, ⟨la_Wi, Or.inl rfl, ?_, ?_⟩, z0 _ _ (by decide) (by decide) (by decide) (by decide) (by decide +kernel), z0 _ _ (by decide) (by decide) (by decide) (by decide) (by decide +kernel), z0 _ _ (by decide) (by decide) (by decide) (by decide) (by decide +kernel), ⟨z0 _ _ (by decide) (by decide) (by decide) (by decide) (by decide +kernel), by decide, fun k hk => absurd hk (Nat.not_lt_zero _)⟩, z0 _ _ (by decide) (by decide) (by decide) (by decide) (by decide +kernel), fun k hk => absurd hk (Nat.not_lt_zero _), fun k hk => absurd hk (Nat.not_lt_zero _), fun k j hk => absurd hk (Nat.not_lt_zero _), fun k hk => absurd hk (Nat.not_lt_zero _), fun k hk => absurd hk (Nat.not_lt_zero _), rfl, trivial, fun k hk => absurd hk (Nat.not_lt_zero _)⟩
    · rw [la_q (by decide)]
      exact la_P
    · have hq := fun (a : Nat) (h : a < 7616) => la_q (L := L) (xs := xs) h
      unfold jMq
      rw [hq _ (by decide)]
      simp only [oR_q, ji_q, ji_l]
      decide +kernel
  · have hz : ∀ k, oI kOLa 0 2960 k 0 = 0 := fun k => (oI_rw _ _ _ k 0 _ (by decide +kernel)).trans (by decide +kernel)
    refine ⟨?_, ?_, ?_, by decide, by decide, ?_, ?_, fun l hl => absurd hl (Nat.not_lt_zero _), fun l hl => absurd hl (Nat.not_lt_zero _), fun l hl => absurd hl (Nat.not_lt_zero _), ⟨fun j hj => absurd hj (Nat.not_lt_zero _), fun i j _ hj => absurd hj (Nat.not_lt_zero _), fun l hl => absurd hl (Nat.not_lt_zero _)⟩, fun l _ hl => ⟨z0 _ _ (by decide) (by decide) (by decide) (by decide) (hz l), la_6096 hl⟩⟩
    · rw [la_5836, z (by decide) (by decide) (by decide) (by decide)]
      decide +kernel
    · rw [z (by decide) (by decide) (by decide) (by decide)]
      decide +kernel
    · rw [la_5836]
      decide +kernel
    · rw [z (by decide) (by decide) (by decide) (by decide)]
      decide +kernel
    · rw [la_5836]
      decide +kernel
theorem jpure (L : Nat) (xs : Nat → Int32) (hL : L ≤ 3072) : ∃ (n : Nat) (μ' : jM), jev n 150 0 0 (jent 0 [.ref 44]) [] (jinit L xs) = some (.inl (some (.int 1)), μ') ∧ jnc μ' ≤ 601024 ∧ jns μ' ≤ 7293034 := by
  have h := law_all (L := L) hL (L / 6) 0 (kLaM L xs) none none none none (by omega) (by omega) la_J la_45
  have h' : Ex (147 + 1 + 2) 0 0 (jent 0 [.ref 44]) [] (jinit L xs) (fun o μ' => o = .inl (some (.int 1)) ∧ jnc μ' ≤ jnc (kLaM L xs) + 400 * (L / 6) ∧ jns μ' ≤ jns (kLaM L xs) + 5000 * (L / 6)) := c_law0.mpr h
  have h1 := la_nc (L := L) (xs := xs)
  have h2 := la_ns (L := L) (xs := xs)
  obtain ⟨n, o, μ', e, rfl, e2, e3⟩ := h'
  exact ⟨n, μ', e, by omega, by omega⟩
end START
