/-! THE PURE PART: handling one that waits (reference). -/
section C25
variable {d : Nat} {μ : jM} {Q : jO → jM → Prop} {n t p nh : Nat} {T : Nat → List (Nat × Int32)}
theorem mm67 : ¬ (7 : Int32) = 6 := by decide
def kWyMs (μ : jM) (p n t nh : Nat) (T : Nat → List (Nat × Int32)) (l u : Nat) (z : Int32) : jM := jsR (jsR (jsI μ 5904 l 7) 5836 (kWay_s (jsI μ 5904 l 7) p n t nh T u z).1) 6680 (kWay_s (jsI μ 5904 l 7) p n t nh T u z).2
/-- one that waits is handled (reference) -/
def kMkMs (μ : jM) (p n t nh : Nat) (T : Nat → List (Nat × Int32)) (l k u : Nat) (z : Int32) : Int32 × jM := if jI μ 5904 k = 0 then (if (kWay_s (jsI μ 5904 l 7) p n t nh T u z).1 15 = -1 then (0, kWyMs μ p n t nh T l u z) else
  (1, jsI (jsI (jsI (jsI (jsI (jsI (jsI (jsI (jsI (jsI (kWyMs μ p n t nh T l u z) 5904 l 3) 5904 k 4) 6224 l (iN k)) 6224 k (iN l)) 6288 l 1) 6352 l ((kWay_s (jsI μ 5904 l 7) p n t nh T u z).1 17)) 6416 l ((kWay_s (jsI μ 5904 l 7) p n t nh T u z).1 18)) 6480 l ((kWay_s (jsI μ 5904 l 7) p n t nh T u z).1 15)) 6544 l 0) 6608 l 0)) else (0, jsI μ 5904 l 6)
theorem d_marks {l k u : Nat} {z : Int32} (hM : jMp μ p) (hn : jI μ (64 * p + 11) 2 = iN n) (h10 : n ≤ 10) (ht : jI μ (64 * p + 11) 6 = iN t) (ht10 : t ≤ 10) (hT : jMt μ p nh T) (ho : ∀ k, k < t → ∃ u, u < 6 ∧ jI μ (64 * p + 336) k = iN u) (ho2 : ∀ k, k < t → ∃ u, u < 6 ∧ jI μ (64 * p + 400) k = iN u) (hl : l < 10) (hk : k < n) (hc : jfst (fun k => decide (0 < jI μ 6032 l ∧ jI μ (64 * p + 272) k = jI μ 6032 l ∧ jI μ (64 * p + 208) k = jI μ 5968 l)) 0 (n - 0) = iN k) (hu : u < 6) (hul : jI μ (64 * p + 144) l = iN u) (hz : jI μ (64 * p + 144) k = z) : Ex (d + 14) 263 0 [some (.ref 5836), some (.int (iN l)), none] [] μ Q ↔ Q (.inl (some (.int (kMkMs μ p n t nh T l k u z).1))) (kMkMs μ p n t nh T l k u z).2 := by
  have hM0 := hM
  have hca : ∀ (d : Nat) (Q : jO → jM → Prop), Ex d 164 0 [some (.ref 5836), some (.int (iN l)), none] [] μ Q ↔ Q (.inl (some (.int (iN k)))) μ := by
    intro d Q
    rw [d_calleds hl hM hn h10, hc]
  obtain ⟨hW, hp, hpl, hq⟩ := hM
  have hw := hW
  unfold jWd at hw
  unfold jMq at hq
  have jp := JP p
  have jpm := JPm p
  have hne := jPne hp
  have hP : ∀ c, c < 900 → ∀ v, jI (jsI μ 5904 l v) (64 * p + c) = jI μ (64 * p + c) := fun c h v => mI2 (hne c 5904 h (by decide) (by decide))
  have hI : ∀ a, ¬ a = 5836 → ¬ a = 6680 → ∀ W g v, jI (jsR (jsR (jsI μ 5904 l v) 5836 W) 6680 g) a = jI (jsI μ 5904 l v) a := fun a h1 h2 W g v => by rw [mR2 h2, mR2 h1]
  have hwy : ∀ (d : Nat) (Q : jO → jM → Prop), Ex (d + 13) 228 0 [some (.ref 5836), some (.int (iN u)), some (.int z)] [] (jsI μ 5904 l 7) Q ↔ Q (.inl (some (.int ((kWay_s (jsI μ 5904 l 7) p n t nh T u z).1 15)))) (kWyMs μ p n t nh T l u z) := by
    intro d Q
    have hT' : jMt (jsI μ 5904 l 7) p nh T := by
      unfold jMt at hT ⊢
      rw [hP 11 (by decide), hP 659 (by decide), hP 723 (by decide), hP 794 (by decide)]
      exact hT
    exact d_ways (jMp_c mI4 hM0) (by rw [hP 11 (by decide)]; exact hn) h10 (by rw [hP 11 (by decide)]; exact ht) ht10 hT' (by rw [hP 336 (by decide)]; exact ho) (by rw [hP 400 (by decide)]; exact ho2) hu
  have lc : (iN l).toNatClampNeg = l := iN_cl (by omega)
  have lj : jin (iN l) 10 = true := iN_in (by omega) (by omega)
  have kc : (iN k).toNatClampNeg = k := iN_cl (by omega)
  have kj : jin (iN k) 10 = true := iN_in (by omega) (by omega)
  have hWQ : jQ (kWyMs μ p n t nh T l u z) = jQ μ := by
    unfold kWyMs
    simp only [mR3, mI4]
  have hW5 : jI (kWyMs μ p n t nh T l u z) 5836 = (kWay_s (jsI μ 5904 l 7) p n t nh T u z).1 := by
    unfold kWyMs
    rw [mR2 (by decide), mR1]
  unfold kMkMs
  by_cases g1 : jI μ 5904 k = 0
  · by_cases g2 : (kWay_s (jsI μ 5904 l 7) p n t nh T u z).1 15 = -1
    all_goals simp only [x263_0, x263_1, x263_2, x263_5a, x263_5b, x263_5c, x263_6, x263_7, x263_10, x263_11, x263_12, x263_15, x263_16, x263_17, x263_20, x263_22, x263_25, x263_27, x263_28, x263_29, x263_32, x263_33, x263_34, x263_36, x263_39, x263_40, x263_41, x263_44, x263_47, x263_50, x263_51, x263_52, x263_53, x263_56, x263_59, x263_62, x263_63, x263_64, x263_67, x263_68, x263_71, x263_72, x263_73, x263_74, x263_77, x263_78, x263_79, x263_80, x263_81, x263_84, x263_85, x263_86, x263_87, x263_88, x263_91, x263_92, x263_93, x263_94, x263_95, x263_98, x263_99, x263_100, x263_101, x263_102, x263_105, x263_106, x263_107, x263_108, x263_109, x263_112, x263_113, x263_114, x263_117, x263_118, x263_119, x263_122, x263_123, x263_124, x263_127, x263_128, x263_129, x263_132, x263_133, x263_134, x263_137, x263_138, x263_139, x263_142, x263_143, x263_144, x263_145, x263_146, x263_149, x263_150, x263_151, x263_152, x263_153, mzi, mInc, mne, mlt9, mrk, mI1, mI2, mI3, mI4, mL1, mL2, mL3, mL4, mQ1, mQ2, mQ3, mQ4, mT1, mcat0, mcat1, mcat2, mcat3, mcat4, mrf1, jK_v, jK_n, JA, mz1, if_true, if_false, ite_true, ite_false, eq_self, not_false_eq_true, Nat.zero_le, true_and, and_true, and_self, Nat.reduceMod, Nat.reduceAdd, Nat.reduceLeDiff, Nat.reduceEqDiff, Nat.reduceLT, hw, hpl, hq, jp, jpm, hne, hP, hca, hwy, lc, lj, kc, kj, hul, hz, g1, g2, mm67, hWQ, hW5]
  · simp only [x263_0, x263_1, x263_2, x263_5a, x263_5b, x263_5c, x263_6, x263_7, x263_10, x263_11, x263_12, x263_15, x263_16, x263_17, x263_20, x263_22, x263_25, x263_27, x263_28, x263_29, x263_32, x263_33, x263_34, x263_36, x263_39, x263_40, x263_41, x263_44, x263_47, x263_50, x263_51, x263_52, x263_53, x263_56, x263_59, x263_62, x263_63, x263_64, x263_67, x263_68, x263_71, x263_72, x263_73, x263_74, x263_77, x263_78, x263_79, x263_80, x263_81, x263_84, x263_85, x263_86, x263_87, x263_88, x263_91, x263_92, x263_93, x263_94, x263_95, x263_98, x263_99, x263_100, x263_101, x263_102, x263_105, x263_106, x263_107, x263_108, x263_109, x263_112, x263_113, x263_114, x263_117, x263_118, x263_119, x263_122, x263_123, x263_124, x263_127, x263_128, x263_129, x263_132, x263_133, x263_134, x263_137, x263_138, x263_139, x263_142, x263_143, x263_144, x263_145, x263_146, x263_149, x263_150, x263_151, x263_152, x263_153, mzi, mInc, mne, mlt9, mrk, mI1, mI2, mI3, mI4, mL1, mL2, mL3, mL4, mQ1, mQ2, mQ3, mQ4, mT1, mcat0, mcat1, mcat2, mcat3, mcat4, mrf1, jK_v, jK_n, JA, mz1, if_true, if_false, ite_true, ite_false, eq_self, not_false_eq_true, Nat.zero_le, true_and, and_true, and_self, Nat.reduceMod, Nat.reduceAdd, Nat.reduceLeDiff, Nat.reduceEqDiff, Nat.reduceLT, hw, hpl, hq, jp, jpm, hne, hP, hca, lc, lj, kc, kj, g1]
def kWyMh (μ : jM) (p n t nh : Nat) (T : Nat → List (Nat × Int32)) (l u : Nat) (z : Int32) : jM := jsR (jsR (jsI μ 6800 l 7) 6732 (kWay_h (jsI μ 6800 l 7) p n t nh T u z).1) 7576 (kWay_h (jsI μ 6800 l 7) p n t nh T u z).2
/-- one that waits is handled (reference) -/
def kMkMh (μ : jM) (p n t nh : Nat) (T : Nat → List (Nat × Int32)) (l k u : Nat) (z : Int32) : Int32 × jM := if jI μ 6800 k = 0 then (if (kWay_h (jsI μ 6800 l 7) p n t nh T u z).1 15 = -1 then (0, kWyMh μ p n t nh T l u z) else
  (1, jsI (jsI (jsI (jsI (jsI (jsI (jsI (jsI (jsI (jsI (kWyMh μ p n t nh T l u z) 6800 l 3) 6800 k 4) 7120 l (iN k)) 7120 k (iN l)) 7184 l 1) 7248 l ((kWay_h (jsI μ 6800 l 7) p n t nh T u z).1 17)) 7312 l ((kWay_h (jsI μ 6800 l 7) p n t nh T u z).1 18)) 7376 l ((kWay_h (jsI μ 6800 l 7) p n t nh T u z).1 15)) 7440 l 0) 7504 l 0)) else (0, jsI μ 6800 l 6)
theorem d_markh {l k u : Nat} {z : Int32} (hM : jMp μ p) (hn : jI μ (64 * p + 11) 2 = iN n) (h10 : n ≤ 10) (ht : jI μ (64 * p + 11) 6 = iN t) (ht10 : t ≤ 10) (hT : jMt μ p nh T) (ho : ∀ k, k < t → ∃ u, u < 6 ∧ jI μ (64 * p + 336) k = iN u) (ho2 : ∀ k, k < t → ∃ u, u < 6 ∧ jI μ (64 * p + 400) k = iN u) (hl : l < 10) (hk : k < n) (hc : jfst (fun k => decide (0 < jI μ 6928 l ∧ jI μ (64 * p + 272) k = jI μ 6928 l ∧ jI μ (64 * p + 208) k = jI μ 6864 l)) 0 (n - 0) = iN k) (hu : u < 6) (hul : jI μ (64 * p + 144) l = iN u) (hz : jI μ (64 * p + 144) k = z) : Ex (d + 14) 263 0 [some (.ref 6732), some (.int (iN l)), none] [] μ Q ↔ Q (.inl (some (.int (kMkMh μ p n t nh T l k u z).1))) (kMkMh μ p n t nh T l k u z).2 := by
  have hM0 := hM
  have hca : ∀ (d : Nat) (Q : jO → jM → Prop), Ex d 164 0 [some (.ref 6732), some (.int (iN l)), none] [] μ Q ↔ Q (.inl (some (.int (iN k)))) μ := by
    intro d Q
    rw [d_calledh hl hM hn h10, hc]
  obtain ⟨hW, hp, hpl, hq⟩ := hM
  have hw := hW
  unfold jWd at hw
  unfold jMq at hq
  have jp := JP p
  have jpm := JPm p
  have hne := jPne hp
  have hP : ∀ c, c < 900 → ∀ v, jI (jsI μ 6800 l v) (64 * p + c) = jI μ (64 * p + c) := fun c h v => mI2 (hne c 6800 h (by decide) (by decide))
  have hI : ∀ a, ¬ a = 6732 → ¬ a = 7576 → ∀ W g v, jI (jsR (jsR (jsI μ 6800 l v) 6732 W) 7576 g) a = jI (jsI μ 6800 l v) a := fun a h1 h2 W g v => by rw [mR2 h2, mR2 h1]
  have hwy : ∀ (d : Nat) (Q : jO → jM → Prop), Ex (d + 13) 228 0 [some (.ref 6732), some (.int (iN u)), some (.int z)] [] (jsI μ 6800 l 7) Q ↔ Q (.inl (some (.int ((kWay_h (jsI μ 6800 l 7) p n t nh T u z).1 15)))) (kWyMh μ p n t nh T l u z) := by
    intro d Q
    have hT' : jMt (jsI μ 6800 l 7) p nh T := by
      unfold jMt at hT ⊢
      rw [hP 11 (by decide), hP 659 (by decide), hP 723 (by decide), hP 794 (by decide)]
      exact hT
    exact d_wayh (jMp_c mI4 hM0) (by rw [hP 11 (by decide)]; exact hn) h10 (by rw [hP 11 (by decide)]; exact ht) ht10 hT' (by rw [hP 336 (by decide)]; exact ho) (by rw [hP 400 (by decide)]; exact ho2) hu
  have lc : (iN l).toNatClampNeg = l := iN_cl (by omega)
  have lj : jin (iN l) 10 = true := iN_in (by omega) (by omega)
  have kc : (iN k).toNatClampNeg = k := iN_cl (by omega)
  have kj : jin (iN k) 10 = true := iN_in (by omega) (by omega)
  have hWQ : jQ (kWyMh μ p n t nh T l u z) = jQ μ := by
    unfold kWyMh
    simp only [mR3, mI4]
  have hW5 : jI (kWyMh μ p n t nh T l u z) 6732 = (kWay_h (jsI μ 6800 l 7) p n t nh T u z).1 := by
    unfold kWyMh
    rw [mR2 (by decide), mR1]
  unfold kMkMh
  by_cases g1 : jI μ 6800 k = 0
  · by_cases g2 : (kWay_h (jsI μ 6800 l 7) p n t nh T u z).1 15 = -1
    all_goals simp only [x263_0, x263_1, x263_2, x263_5a, x263_5b, x263_5c, x263_6, x263_7, x263_10, x263_11, x263_12, x263_15, x263_16, x263_17, x263_20, x263_22, x263_25, x263_27, x263_28, x263_29, x263_32, x263_33, x263_34, x263_36, x263_39, x263_40, x263_41, x263_44, x263_47, x263_50, x263_51, x263_52, x263_53, x263_56, x263_59, x263_62, x263_63, x263_64, x263_67, x263_68, x263_71, x263_72, x263_73, x263_74, x263_77, x263_78, x263_79, x263_80, x263_81, x263_84, x263_85, x263_86, x263_87, x263_88, x263_91, x263_92, x263_93, x263_94, x263_95, x263_98, x263_99, x263_100, x263_101, x263_102, x263_105, x263_106, x263_107, x263_108, x263_109, x263_112, x263_113, x263_114, x263_117, x263_118, x263_119, x263_122, x263_123, x263_124, x263_127, x263_128, x263_129, x263_132, x263_133, x263_134, x263_137, x263_138, x263_139, x263_142, x263_143, x263_144, x263_145, x263_146, x263_149, x263_150, x263_151, x263_152, x263_153, mzi, mInc, mne, mlt9, mrk, mI1, mI2, mI3, mI4, mL1, mL2, mL3, mL4, mQ1, mQ2, mQ3, mQ4, mT1, mcat0, mcat1, mcat2, mcat3, mcat4, mrf1, jK_v, jK_n, JA, mz1, if_true, if_false, ite_true, ite_false, eq_self, not_false_eq_true, Nat.zero_le, true_and, and_true, and_self, Nat.reduceMod, Nat.reduceAdd, Nat.reduceLeDiff, Nat.reduceEqDiff, Nat.reduceLT, hw, hpl, hq, jp, jpm, hne, hP, hca, hwy, lc, lj, kc, kj, hul, hz, g1, g2, mm67, hWQ, hW5]
  · simp only [x263_0, x263_1, x263_2, x263_5a, x263_5b, x263_5c, x263_6, x263_7, x263_10, x263_11, x263_12, x263_15, x263_16, x263_17, x263_20, x263_22, x263_25, x263_27, x263_28, x263_29, x263_32, x263_33, x263_34, x263_36, x263_39, x263_40, x263_41, x263_44, x263_47, x263_50, x263_51, x263_52, x263_53, x263_56, x263_59, x263_62, x263_63, x263_64, x263_67, x263_68, x263_71, x263_72, x263_73, x263_74, x263_77, x263_78, x263_79, x263_80, x263_81, x263_84, x263_85, x263_86, x263_87, x263_88, x263_91, x263_92, x263_93, x263_94, x263_95, x263_98, x263_99, x263_100, x263_101, x263_102, x263_105, x263_106, x263_107, x263_108, x263_109, x263_112, x263_113, x263_114, x263_117, x263_118, x263_119, x263_122, x263_123, x263_124, x263_127, x263_128, x263_129, x263_132, x263_133, x263_134, x263_137, x263_138, x263_139, x263_142, x263_143, x263_144, x263_145, x263_146, x263_149, x263_150, x263_151, x263_152, x263_153, mzi, mInc, mne, mlt9, mrk, mI1, mI2, mI3, mI4, mL1, mL2, mL3, mL4, mQ1, mQ2, mQ3, mQ4, mT1, mcat0, mcat1, mcat2, mcat3, mcat4, mrf1, jK_v, jK_n, JA, mz1, if_true, if_false, ite_true, ite_false, eq_self, not_false_eq_true, Nat.zero_le, true_and, and_true, and_self, Nat.reduceMod, Nat.reduceAdd, Nat.reduceLeDiff, Nat.reduceEqDiff, Nat.reduceLT, hw, hpl, hq, jp, jpm, hne, hP, hca, lc, lj, kc, kj, g1]
end C25
