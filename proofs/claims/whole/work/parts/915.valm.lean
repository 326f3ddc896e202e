/-! THE PURE PART: values (reference). -/
section GRM3
variable {μ ν : jM} {r : Nat} {kd : Nat → Nat} {num : Nat → Int32} {N f sz i j D K : Nat} {E l : List (Nat × Nat)} {b : Nat → Int32}
theorem d_gVal (h0 : jR0 μ r kd N b sz) (hnum : ∀ t, num t = kNm b (kTs b sz t) (kTl b sz t)) (hv : mM μ r kd num N 126 [none, none] 1 0 f) (hs : mM μ r kd num N 124 [none] 3 4 f) : mM μ r kd num N 126 [none, none] 1 0 (f + 1) := by
  intro D i E ν d hD hG hB hi hE hf hd
  obtain ⟨d, rfl⟩ : ∃ d', d = d' + 6 := ⟨d - 6, by omega⟩
  have hT := h0.2.1
  have hr := h0.2.2.1
  have hN1 := hT.1
  have hN2 := hT.2.1
  have hw := jRf_w h0 hG.1
  unfold jWd at hw
  have ht := hG.2.1
  have hdp := hG.2.2.1
  have ic : (iN i).toNatClampNeg = i := iN_cl (by omega)
  have ij : jin (iN i) 401 = true := iN_in (by omega) (by omega)
  have hk := jR_kind h0 hG.1 hi
  have hkd := hT.2.2.2.2 i
  have hdeep : ∀ (Q : jO → jM → Prop), (Ex (d + 5) 119 0 [some (.ref 4490)] [] ν Q ↔ if D < 8 then Q (.inl (some (.int 1))) (jsI (jsI ν 4490 10 (iN (D + 1))) 4490 9 (iN (i + 1))) else Q (.inl (some (.int 0))) ν) := fun Q => d_deeper h0 hG.1 ht hdp hD
  have his38 : ∀ (Q : jO → jM → Prop), (Ex (d + 5) 109 0 [some (.ref 4490), some (.int 41)] [] ν Q ↔ Q (.inl (some (.int (if kd i = 38 then 1 else 0)))) ν) := fun Q => d_is (K := 38) h0 hG.1 ht hi (by decide)
  have his12 : ∀ (Q : jO → jM → Prop), (Ex (d + 5) 109 0 [some (.ref 4490), some (.int 12)] [] ν Q ↔ Q (.inl (some (.int (if kd i = 12 then 1 else 0)))) ν) := fun Q => d_is (K := 12) h0 hG.1 ht hi (by decide)
  have his13 : ∀ (Q : jO → jM → Prop), (Ex (d + 5) 109 0 [some (.ref 4490), some (.int 13)] [] ν Q ↔ Q (.inl (some (.int (if kd i = 13 then 1 else 0)))) ν) := fun Q => d_is (K := 13) h0 hG.1 ht hi (by decide)
  have his14 : ∀ (Q : jO → jM → Prop), (Ex (d + 5) 109 0 [some (.ref 4490), some (.int 14)] [] ν Q ↔ Q (.inl (some (.int (if kd i = 14 then 1 else 0)))) ν) := fun Q => d_is (K := 14) h0 hG.1 ht hi (by decide)
  have his15 : ∀ (Q : jO → jM → Prop), (Ex (d + 5) 109 0 [some (.ref 4490), some (.int 15)] [] ν Q ↔ Q (.inl (some (.int (if kd i = 15 then 1 else 0)))) ν) := fun Q => d_is (K := 15) h0 hG.1 ht hi (by decide)
  have hsg29 : ∀ (Q : jO → jM → Prop), (Ex (d + 5) 121 0 [some (.ref 4490), some (.int 45)] [] ν Q ↔ Q (.inl (some (.int (if kd (i) = 29 then 1 else 0)))) ν) := fun Q => d_isSign (K := 29) h0 hG.1 ht hi (by decide) (by decide)
  have hea20 : ∀ (Q : jO → jM → Prop), (Ex (d + 5) 112 0 [some (.ref 4490), some (.int 20)] [] ν Q ↔ if kd i = 20 then Q (.inl (some (.int 1))) (jsI ν 4490 9 (iN (i + 1))) else Q (.inl (some (.int 0))) ν) := fun Q => d_eat (d := d + 4) (K := 20) h0 hG.1 ht hi (by decide)
  have hea21 : ∀ (Q : jO → jM → Prop), (Ex (d + 5) 112 0 [some (.ref 4490), some (.int 21)] [] ν Q ↔ if kd i = 21 then Q (.inl (some (.int 1))) (jsI ν 4490 9 (iN (i + 1))) else Q (.inl (some (.int 0))) ν) := fun Q => d_eat (d := d + 4) (K := 21) h0 hG.1 ht hi (by decide)
  have hsg22 : ∀ (Q : jO → jM → Prop), (Ex (d + 5) 121 0 [some (.ref 4490), some (.int 40)] [] ν Q ↔ Q (.inl (some (.int (if kd (i) = 22 then 1 else 0)))) ν) := fun Q => d_isSign (K := 22) h0 hG.1 ht hi (by decide) (by decide)
  show ∃ ν', mPost μ r kd num N D E (kV kd (kP kd f) D i) ν' ∧ ∀ Q, (Ex (d + 6) 126 0 [some (.ref 4490), none, none] [] ν Q ↔ Q (.inl (some (.int (bif (kV kd (kP kd f) D i).1 then 1 else 0)))) ν')
  have jr1 : ∀ c : Bool, jrok 1 (bif c then 1 else 0) = true := fun c => by cases c <;> rfl
  have n10 : ¬ (9 : Nat) = 10 := by decide
  unfold kV
  by_cases a38 : kd i = 38
  · rw [if_pos (Or.inl a38)]
    have i1 := kTok_lt hT hi (by omega)
    have hwE := kW_lt (i := i + 1) hT (show E.length < i + 1 by omega) i1
    have q38 := eq_true a38
    have hG2 := jRr_num (t := i) hG hr
    have hG3 := jRr_take hG2 hr (kRole_n a38 hB) (by omega)
    have hp1 : ∀ (Q : jO → jM → Prop), (Ex (d + 5) 120 0 [some (.ref 4490), some (.int 30)] [] ν Q ↔ Q (.inl none) (kPutM ν r (kWds E) 30)) := fun Q => d_put h0 hG.1 hG.2.2.2.1 (by omega)
    have hF1 := jRf_P (n := kWds E) (x := 30) hG.1 hr
    have hnu : ∀ (Q : jO → jM → Prop), (Ex (d + 5) 127 0 [some (.ref 4490), some (.int (iN i)), none, none] [] (kPutM ν r (kWds E) 30) Q ↔ Q (.inl (some (.int (num i)))) (kPutM ν r (kWds E) 30)) := fun Q => by rw [hnum i]; exact d_numberAt h0 hF1 hi a38
    have hp2 : ∀ (Q : jO → jM → Prop), (Ex (d + 5) 120 0 [some (.ref 4490), some (.int (num i))] [] (kPutM ν r (kWds E) 30) Q ↔ Q (.inl none) (kPutM (kPutM ν r (kWds E) 30) r (kWds E + 1) (num i))) := fun Q => d_put h0 hF1 (kPutM_c).2.1 (by omega)
    have ht1 : jI (kPutM ν r (kWds E) 30) 4490 9 = iN i := by rw [(kPutM_c (ν := ν) (r := r) (n := kWds E) (x := 30)).2.2.2 4490 (by omega) (by omega)]; exact ht
    have ht2 : jI (kPutM (kPutM ν r (kWds E) 30) r (kWds E + 1) (num i)) 4490 9 = iN i := hG2.2.1
    refine ⟨_, mPost_1 (by rw [a38]; exact hG3) (kBef_s (by omega)), fun Q => ?_⟩
    simp only [x126_0, x126_1, x126_3, x126_6, x126_9, x126_10, x126_12, x126_15, x126_16, x126_17, x126_18, x126_21, x126_24, x126_27, x126_28a, x126_28b, x126_29, x126_32, x126_33, x126_34, x126_37, x126_38, x126_39, x126_40, x126_42, x126_45, x126_48, x126_49, x126_51, x126_54, x126_57, x126_58, x126_59, x126_62, x126_63, x126_66, x126_67, x126_70, x126_71a, x126_71b, x126_72, x126_75, x126_76, x126_77, x126_80, x126_81, x126_82, x126_83, x126_85, x126_88, x126_91, x126_92, x126_94, x126_97, x126_98, x126_99, x126_101, x126_104, x126_107, x126_108, x126_110, x126_113, x126_114, x126_115, x126_117, x126_120, x126_123, x126_124, x126_127, x126_130, x126_131, x126_134, x126_137, x126_138, x126_139, x126_140a, x126_140b, x126_141, x126_144, x126_145, x126_146, x126_149, x126_150, x126_152, x126_155, x126_156, x126_157, x126_158, x126_161, x126_162, x126_165, x126_166a, x126_166b, x126_166c, x126_167, x126_168, x126_170, x126_173, x126_176, x126_177, x126_179, x126_182, x126_185, x126_186, x126_189, x126_190a, x126_190b, x126_190c, x126_191, x126_192, x126_194, x126_197, x126_200, x126_201, x126_204, x126_207, x126_208, x126_211, x126_214, x126_215, x126_218, x126_219, x126_221, x126_224, x126_227, x126_228, x126_231, x126_234, x126_235, x126_236, x126_237a, x126_237b, x126_238, x126_241, x126_242, x126_243, x126_246, x126_247, x126_250, x126_251, x126_252, x126_255, x126_256, x126_258, x126_261, mzi, mInc, mne, mlt9, mrk, mI1, mI2, mI3, mI4, mL1, mL2, mL3, mL4, mQ1, mQ2, mQ3, mQ4, mT1, mcat0, mcat1, mcat2, mcat3, mcat4, mrf1, jK_v, jK_n, JA, mz1, if_true, if_false, ite_true, ite_false, eq_self, not_false_eq_true, Nat.zero_le, true_and, and_true, and_self, Nat.reduceMod, Nat.reduceAdd, Nat.reduceLeDiff, Nat.reduceEqDiff, Nat.reduceLT, hw, his38, q38, hp1, ht1, hnu, hp2, ht2, cond_true]
  · have hput1 : ∀ (K : Nat), kd i = K → kTwo K = false → kCd K = K → kMd K = K → i + 1 ≤ N - 1 → ∀ (Q : jO → jM → Prop), (Ex (d + 5) 120 0 [some (.ref 4490), some (.int (iN (kMd (kd i))))] [] ν Q ↔ Q (.inl none) (kPutM ν r (kWds E) (iN (kCd K)))) := fun K e1 e2 e3 e4 i1 Q => by
      have hwE := kW_lt (i := i + 1) hT (show E.length < i + 1 by omega) i1
      rw [e1, e4, e3]
      exact d_put h0 hG.1 hG.2.2.2.1 (by omega)
    by_cases a12 : kd i = 12
    · rw [if_pos (show kd i = 38 ∨ kd i = 12 ∨ kd i = 13 by omega)]
      have i1 := kTok_lt hT hi (by omega)
      have q38 : (kd i = 38) = False := eq_false (by omega)
      have q12 : (kd i = 12) = True := eq_true a12
      have q13 : (kd i = 13) = False := eq_false (by omega)
      have hp := hput1 12 a12 rfl rfl rfl i1
      have hG2 := jRr_put (K := 12) (t := i) hG hr rfl
      have hG3 := jRr_take hG2 hr (kRole_0 (by omega) (by omega) (by omega)) (by omega)
      have ht2 : jI (kPutM ν r (kWds E) (iN (kCd 12))) 4490 9 = iN i := hG2.2.1
      refine ⟨_, mPost_1 (by rw [a12]; exact hG3) (kBef_s (by omega)), fun Q => ?_⟩
      simp only [x126_0, x126_1, x126_3, x126_6, x126_9, x126_10, x126_12, x126_15, x126_16, x126_17, x126_18, x126_21, x126_24, x126_27, x126_28a, x126_28b, x126_29, x126_32, x126_33, x126_34, x126_37, x126_38, x126_39, x126_40, x126_42, x126_45, x126_48, x126_49, x126_51, x126_54, x126_57, x126_58, x126_59, x126_62, x126_63, x126_66, x126_67, x126_70, x126_71a, x126_71b, x126_72, x126_75, x126_76, x126_77, x126_80, x126_81, x126_82, x126_83, x126_85, x126_88, x126_91, x126_92, x126_94, x126_97, x126_98, x126_99, x126_101, x126_104, x126_107, x126_108, x126_110, x126_113, x126_114, x126_115, x126_117, x126_120, x126_123, x126_124, x126_127, x126_130, x126_131, x126_134, x126_137, x126_138, x126_139, x126_140a, x126_140b, x126_141, x126_144, x126_145, x126_146, x126_149, x126_150, x126_152, x126_155, x126_156, x126_157, x126_158, x126_161, x126_162, x126_165, x126_166a, x126_166b, x126_166c, x126_167, x126_168, x126_170, x126_173, x126_176, x126_177, x126_179, x126_182, x126_185, x126_186, x126_189, x126_190a, x126_190b, x126_190c, x126_191, x126_192, x126_194, x126_197, x126_200, x126_201, x126_204, x126_207, x126_208, x126_211, x126_214, x126_215, x126_218, x126_219, x126_221, x126_224, x126_227, x126_228, x126_231, x126_234, x126_235, x126_236, x126_237a, x126_237b, x126_238, x126_241, x126_242, x126_243, x126_246, x126_247, x126_250, x126_251, x126_252, x126_255, x126_256, x126_258, x126_261, mzi, mInc, mne, mlt9, mrk, mI1, mI2, mI3, mI4, mL1, mL2, mL3, mL4, mQ1, mQ2, mQ3, mQ4, mT1, mcat0, mcat1, mcat2, mcat3, mcat4, mrf1, jK_v, jK_n, JA, mz1, if_true, if_false, ite_true, ite_false, eq_self, not_false_eq_true, Nat.zero_le, true_and, and_true, and_self, Nat.reduceMod, Nat.reduceAdd, Nat.reduceLeDiff, Nat.reduceEqDiff, Nat.reduceLT, hw, his38, his12, his13, q38, q12, ht, ic, ij, hk, hp, ht2, cond_true]
    by_cases a13 : kd i = 13
    · rw [if_pos (show kd i = 38 ∨ kd i = 12 ∨ kd i = 13 by omega)]
      have i1 := kTok_lt hT hi (by omega)
      have q38 : (kd i = 38) = False := eq_false (by omega)
      have q12 : (kd i = 12) = False := eq_false (by omega)
      have q13 : (kd i = 13) = True := eq_true a13
      have hp := hput1 13 a13 rfl rfl rfl i1
      have hG2 := jRr_put (K := 13) (t := i) hG hr rfl
      have hG3 := jRr_take hG2 hr (kRole_0 (by omega) (by omega) (by omega)) (by omega)
      have ht2 : jI (kPutM ν r (kWds E) (iN (kCd 13))) 4490 9 = iN i := hG2.2.1
      refine ⟨_, mPost_1 (by rw [a13]; exact hG3) (kBef_s (by omega)), fun Q => ?_⟩
      simp only [x126_0, x126_1, x126_3, x126_6, x126_9, x126_10, x126_12, x126_15, x126_16, x126_17, x126_18, x126_21, x126_24, x126_27, x126_28a, x126_28b, x126_29, x126_32, x126_33, x126_34, x126_37, x126_38, x126_39, x126_40, x126_42, x126_45, x126_48, x126_49, x126_51, x126_54, x126_57, x126_58, x126_59, x126_62, x126_63, x126_66, x126_67, x126_70, x126_71a, x126_71b, x126_72, x126_75, x126_76, x126_77, x126_80, x126_81, x126_82, x126_83, x126_85, x126_88, x126_91, x126_92, x126_94, x126_97, x126_98, x126_99, x126_101, x126_104, x126_107, x126_108, x126_110, x126_113, x126_114, x126_115, x126_117, x126_120, x126_123, x126_124, x126_127, x126_130, x126_131, x126_134, x126_137, x126_138, x126_139, x126_140a, x126_140b, x126_141, x126_144, x126_145, x126_146, x126_149, x126_150, x126_152, x126_155, x126_156, x126_157, x126_158, x126_161, x126_162, x126_165, x126_166a, x126_166b, x126_166c, x126_167, x126_168, x126_170, x126_173, x126_176, x126_177, x126_179, x126_182, x126_185, x126_186, x126_189, x126_190a, x126_190b, x126_190c, x126_191, x126_192, x126_194, x126_197, x126_200, x126_201, x126_204, x126_207, x126_208, x126_211, x126_214, x126_215, x126_218, x126_219, x126_221, x126_224, x126_227, x126_228, x126_231, x126_234, x126_235, x126_236, x126_237a, x126_237b, x126_238, x126_241, x126_242, x126_243, x126_246, x126_247, x126_250, x126_251, x126_252, x126_255, x126_256, x126_258, x126_261, mzi, mInc, mne, mlt9, mrk, mI1, mI2, mI3, mI4, mL1, mL2, mL3, mL4, mQ1, mQ2, mQ3, mQ4, mT1, mcat0, mcat1, mcat2, mcat3, mcat4, mrf1, jK_v, jK_n, JA, mz1, if_true, if_false, ite_true, ite_false, eq_self, not_false_eq_true, Nat.zero_le, true_and, and_true, and_self, Nat.reduceMod, Nat.reduceAdd, Nat.reduceLeDiff, Nat.reduceEqDiff, Nat.reduceLT, hw, his38, his12, his13, q38, q12, q13, ht, ic, ij, hk, hp, ht2, cond_true]
    rw [if_neg (show ¬ (kd i = 38 ∨ kd i = 12 ∨ kd i = 13) by omega)]
    by_cases a14 : kd i = 14
    · rw [if_pos (show kd i = 14 ∨ kd i = 15 by omega)]
      have q38 : (kd i = 38) = False := eq_false (by omega)
      have q12 : (kd i = 12) = False := eq_false (by omega)
      have q13 : (kd i = 13) = False := eq_false (by omega)
      have q14 : (kd i = 14) = True := eq_true a14
      have q15 : (kd i = 15) = False := eq_false (by omega)
      obtain ⟨ν1, p1, e1⟩ := d_named (x := 14) h0 hG a14 (by decide) hi hE (fun h37 => by
        unfold kRole
        rw [if_pos h37, Nat.add_sub_cancel, a14]
        rfl)
      rw [a14]
      refine ⟨ν1, p1, fun Q => ?_⟩
      have e1' : ∀ (Q : jO → jM → Prop), (Ex (d + 5) 123 0 [some (.ref 4490), some (.int 14)] [] ν Q ↔ Q (.inl (some (.int (bif (if kd (i + 1) = 37 then (true, i + 2, [(14, i + 1)]) else kNo (i + 1) : kR).1 then 1 else 0)))) ν1) := fun Q => e1 (d + 2) Q
      simp only [x126_0, x126_1, x126_3, x126_6, x126_9, x126_10, x126_12, x126_15, x126_16, x126_17, x126_18, x126_21, x126_24, x126_27, x126_28a, x126_28b, x126_29, x126_32, x126_33, x126_34, x126_37, x126_38, x126_39, x126_40, x126_42, x126_45, x126_48, x126_49, x126_51, x126_54, x126_57, x126_58, x126_59, x126_62, x126_63, x126_66, x126_67, x126_70, x126_71a, x126_71b, x126_72, x126_75, x126_76, x126_77, x126_80, x126_81, x126_82, x126_83, x126_85, x126_88, x126_91, x126_92, x126_94, x126_97, x126_98, x126_99, x126_101, x126_104, x126_107, x126_108, x126_110, x126_113, x126_114, x126_115, x126_117, x126_120, x126_123, x126_124, x126_127, x126_130, x126_131, x126_134, x126_137, x126_138, x126_139, x126_140a, x126_140b, x126_141, x126_144, x126_145, x126_146, x126_149, x126_150, x126_152, x126_155, x126_156, x126_157, x126_158, x126_161, x126_162, x126_165, x126_166a, x126_166b, x126_166c, x126_167, x126_168, x126_170, x126_173, x126_176, x126_177, x126_179, x126_182, x126_185, x126_186, x126_189, x126_190a, x126_190b, x126_190c, x126_191, x126_192, x126_194, x126_197, x126_200, x126_201, x126_204, x126_207, x126_208, x126_211, x126_214, x126_215, x126_218, x126_219, x126_221, x126_224, x126_227, x126_228, x126_231, x126_234, x126_235, x126_236, x126_237a, x126_237b, x126_238, x126_241, x126_242, x126_243, x126_246, x126_247, x126_250, x126_251, x126_252, x126_255, x126_256, x126_258, x126_261, mzi, mInc, mne, mlt9, mrk, mI1, mI2, mI3, mI4, mL1, mL2, mL3, mL4, mQ1, mQ2, mQ3, mQ4, mT1, mcat0, mcat1, mcat2, mcat3, mcat4, mrf1, jK_v, jK_n, JA, mz1, if_true, if_false, ite_true, ite_false, eq_self, not_false_eq_true, Nat.zero_le, true_and, and_true, and_self, Nat.reduceMod, Nat.reduceAdd, Nat.reduceLeDiff, Nat.reduceEqDiff, Nat.reduceLT, hw, his38, his12, his13, his14, q38, q12, q13, q14, e1', jr1]
    by_cases a15 : kd i = 15
    · rw [if_pos (show kd i = 14 ∨ kd i = 15 by omega)]
      have q38 : (kd i = 38) = False := eq_false (by omega)
      have q12 : (kd i = 12) = False := eq_false (by omega)
      have q13 : (kd i = 13) = False := eq_false (by omega)
      have q14 : (kd i = 14) = False := eq_false (by omega)
      have q15 : (kd i = 15) = True := eq_true a15
      obtain ⟨ν1, p1, e1⟩ := d_named (x := 13) h0 hG a15 (by decide) hi hE (fun h37 => by
        unfold kRole
        rw [if_pos h37, Nat.add_sub_cancel, a15]
        rfl)
      rw [a15]
      refine ⟨ν1, p1, fun Q => ?_⟩
      have e1' : ∀ (Q : jO → jM → Prop), (Ex (d + 5) 123 0 [some (.ref 4490), some (.int 13)] [] ν Q ↔ Q (.inl (some (.int (bif (if kd (i + 1) = 37 then (true, i + 2, [(15, i + 1)]) else kNo (i + 1) : kR).1 then 1 else 0)))) ν1) := fun Q => e1 (d + 2) Q
      simp only [x126_0, x126_1, x126_3, x126_6, x126_9, x126_10, x126_12, x126_15, x126_16, x126_17, x126_18, x126_21, x126_24, x126_27, x126_28a, x126_28b, x126_29, x126_32, x126_33, x126_34, x126_37, x126_38, x126_39, x126_40, x126_42, x126_45, x126_48, x126_49, x126_51, x126_54, x126_57, x126_58, x126_59, x126_62, x126_63, x126_66, x126_67, x126_70, x126_71a, x126_71b, x126_72, x126_75, x126_76, x126_77, x126_80, x126_81, x126_82, x126_83, x126_85, x126_88, x126_91, x126_92, x126_94, x126_97, x126_98, x126_99, x126_101, x126_104, x126_107, x126_108, x126_110, x126_113, x126_114, x126_115, x126_117, x126_120, x126_123, x126_124, x126_127, x126_130, x126_131, x126_134, x126_137, x126_138, x126_139, x126_140a, x126_140b, x126_141, x126_144, x126_145, x126_146, x126_149, x126_150, x126_152, x126_155, x126_156, x126_157, x126_158, x126_161, x126_162, x126_165, x126_166a, x126_166b, x126_166c, x126_167, x126_168, x126_170, x126_173, x126_176, x126_177, x126_179, x126_182, x126_185, x126_186, x126_189, x126_190a, x126_190b, x126_190c, x126_191, x126_192, x126_194, x126_197, x126_200, x126_201, x126_204, x126_207, x126_208, x126_211, x126_214, x126_215, x126_218, x126_219, x126_221, x126_224, x126_227, x126_228, x126_231, x126_234, x126_235, x126_236, x126_237a, x126_237b, x126_238, x126_241, x126_242, x126_243, x126_246, x126_247, x126_250, x126_251, x126_252, x126_255, x126_256, x126_258, x126_261, mzi, mInc, mne, mlt9, mrk, mI1, mI2, mI3, mI4, mL1, mL2, mL3, mL4, mQ1, mQ2, mQ3, mQ4, mT1, mcat0, mcat1, mcat2, mcat3, mcat4, mrf1, jK_v, jK_n, JA, mz1, if_true, if_false, ite_true, ite_false, eq_self, not_false_eq_true, Nat.zero_le, true_and, and_true, and_self, Nat.reduceMod, Nat.reduceAdd, Nat.reduceLeDiff, Nat.reduceEqDiff, Nat.reduceLT, hw, his38, his12, his13, his14, his15, q38, q12, q13, q14, q15, e1', jr1]
    rw [if_neg (show ¬ (kd i = 14 ∨ kd i = 15) by omega)]
    by_cases a29 : kd i = 29
    · rw [if_pos a29]
      have i1 := kTok_lt hT hi (by omega)
      have q38 : (kd i = 38) = False := eq_false (by omega)
      have q12 : (kd i = 12) = False := eq_false (by omega)
      have q13 : (kd i = 13) = False := eq_false (by omega)
      have q14 : (kd i = 14) = False := eq_false (by omega)
      have q15 : (kd i = 15) = False := eq_false (by omega)
      have q29 : (kd i = 29) = True := eq_true a29
      by_cases g8 : D < 8
      · have g8' := eq_true g8
        rw [if_pos g8]
        have hG1 := jRr_take (jRr_dep (D' := D + 1) hG hr) hr (kRole_0 (by omega) (by omega) (by omega)) (by omega)
        obtain ⟨ν1, p1, e1⟩ := hv (D + 1) (i + 1) E _ (d + 5) (by omega) hG1 (kBef_s (by omega)) i1 (by omega) (by omega) (by omega)
        have bs := kP_b hT f 0 (D + 1) (i + 1) i1
        rw [if_neg (by decide)] at bs
        generalize kP kd f 0 (D + 1) (i + 1) = q at p1 e1 bs ⊢
        obtain ⟨ok, j, l⟩ := q
        cases ok with
        | true =>
          obtain ⟨bs1, bs2⟩ := bs
          obtain ⟨bs3, bs4⟩ := bs2 rfl
          dsimp only at bs1 bs3 bs4
          obtain ⟨hG2, hB2⟩ := p1.1 rfl
          dsimp only at hG2 hB2
          have hw1 := jRf_w h0 hG2.1
          unfold jWd at hw1
          have hd1 : jI ν1 4490 10 = iN (D + 1) := hG2.2.2.1
          have hdm : iN (D + 1) - 1 = iN D := by rw [iN_pred (by omega)]; rfl
          have hG3 := jRr_dep (D' := D) hG2 hr
          have l1 : kWds (E ++ l) < 799 := kW_lt (i := j) hT (by rw [List.length_append]; omega) bs1
          have hput : ∀ (Q : jO → jM → Prop), (Ex (d + 5) 120 0 [some (.ref 4490), some (.int 31)] [] (jsI ν1 4490 10 (iN D)) Q ↔ Q (.inl none) (kPutM (jsI ν1 4490 10 (iN D)) r (kWds (E ++ l)) (iN (kCd 41)))) := fun Q => d_put h0 hG3.1 hG3.2.2.2.1 (by omega)
          have hG4 := jRr_put (K := 41) (t := i) hG3 hr rfl
          refine ⟨_, mPost_e (l := l) (q := (true, j, [(41, i)])) (mPost_1 hG4 hB2), fun Q => ?_⟩
          simp only [x126_0, x126_1, x126_3, x126_6, x126_9, x126_10, x126_12, x126_15, x126_16, x126_17, x126_18, x126_21, x126_24, x126_27, x126_28a, x126_28b, x126_29, x126_32, x126_33, x126_34, x126_37, x126_38, x126_39, x126_40, x126_42, x126_45, x126_48, x126_49, x126_51, x126_54, x126_57, x126_58, x126_59, x126_62, x126_63, x126_66, x126_67, x126_70, x126_71a, x126_71b, x126_72, x126_75, x126_76, x126_77, x126_80, x126_81, x126_82, x126_83, x126_85, x126_88, x126_91, x126_92, x126_94, x126_97, x126_98, x126_99, x126_101, x126_104, x126_107, x126_108, x126_110, x126_113, x126_114, x126_115, x126_117, x126_120, x126_123, x126_124, x126_127, x126_130, x126_131, x126_134, x126_137, x126_138, x126_139, x126_140a, x126_140b, x126_141, x126_144, x126_145, x126_146, x126_149, x126_150, x126_152, x126_155, x126_156, x126_157, x126_158, x126_161, x126_162, x126_165, x126_166a, x126_166b, x126_166c, x126_167, x126_168, x126_170, x126_173, x126_176, x126_177, x126_179, x126_182, x126_185, x126_186, x126_189, x126_190a, x126_190b, x126_190c, x126_191, x126_192, x126_194, x126_197, x126_200, x126_201, x126_204, x126_207, x126_208, x126_211, x126_214, x126_215, x126_218, x126_219, x126_221, x126_224, x126_227, x126_228, x126_231, x126_234, x126_235, x126_236, x126_237a, x126_237b, x126_238, x126_241, x126_242, x126_243, x126_246, x126_247, x126_250, x126_251, x126_252, x126_255, x126_256, x126_258, x126_261, mzi, mInc, mne, mlt9, mrk, mI1, mI2, mI3, mI4, mL1, mL2, mL3, mL4, mQ1, mQ2, mQ3, mQ4, mT1, mcat0, mcat1, mcat2, mcat3, mcat4, mrf1, jK_v, jK_n, JA, mz1, if_true, if_false, ite_true, ite_false, eq_self, not_false_eq_true, Nat.zero_le, true_and, and_true, and_self, Nat.reduceMod, Nat.reduceAdd, Nat.reduceLeDiff, Nat.reduceEqDiff, Nat.reduceLT, hw, hw1, his38, his12, his13, his14, his15, hsg29, q38, q12, q13, q14, q15, q29, hdeep, g8', e1, hd1, hdm, hput, cond_true]
          rfl
        | false =>
          rw [kBd_f (r := (false, j, l)) rfl]
          refine ⟨ν1, mPost_f p1 rfl, fun Q => ?_⟩
          simp only [x126_0, x126_1, x126_3, x126_6, x126_9, x126_10, x126_12, x126_15, x126_16, x126_17, x126_18, x126_21, x126_24, x126_27, x126_28a, x126_28b, x126_29, x126_32, x126_33, x126_34, x126_37, x126_38, x126_39, x126_40, x126_42, x126_45, x126_48, x126_49, x126_51, x126_54, x126_57, x126_58, x126_59, x126_62, x126_63, x126_66, x126_67, x126_70, x126_71a, x126_71b, x126_72, x126_75, x126_76, x126_77, x126_80, x126_81, x126_82, x126_83, x126_85, x126_88, x126_91, x126_92, x126_94, x126_97, x126_98, x126_99, x126_101, x126_104, x126_107, x126_108, x126_110, x126_113, x126_114, x126_115, x126_117, x126_120, x126_123, x126_124, x126_127, x126_130, x126_131, x126_134, x126_137, x126_138, x126_139, x126_140a, x126_140b, x126_141, x126_144, x126_145, x126_146, x126_149, x126_150, x126_152, x126_155, x126_156, x126_157, x126_158, x126_161, x126_162, x126_165, x126_166a, x126_166b, x126_166c, x126_167, x126_168, x126_170, x126_173, x126_176, x126_177, x126_179, x126_182, x126_185, x126_186, x126_189, x126_190a, x126_190b, x126_190c, x126_191, x126_192, x126_194, x126_197, x126_200, x126_201, x126_204, x126_207, x126_208, x126_211, x126_214, x126_215, x126_218, x126_219, x126_221, x126_224, x126_227, x126_228, x126_231, x126_234, x126_235, x126_236, x126_237a, x126_237b, x126_238, x126_241, x126_242, x126_243, x126_246, x126_247, x126_250, x126_251, x126_252, x126_255, x126_256, x126_258, x126_261, mzi, mInc, mne, mlt9, mrk, mI1, mI2, mI3, mI4, mL1, mL2, mL3, mL4, mQ1, mQ2, mQ3, mQ4, mT1, mcat0, mcat1, mcat2, mcat3, mcat4, mrf1, jK_v, jK_n, JA, mz1, if_true, if_false, ite_true, ite_false, eq_self, not_false_eq_true, Nat.zero_le, true_and, and_true, and_self, Nat.reduceMod, Nat.reduceAdd, Nat.reduceLeDiff, Nat.reduceEqDiff, Nat.reduceLT, hw, his38, his12, his13, his14, his15, hsg29, q38, q12, q13, q14, q15, q29, hdeep, g8', e1, cond_false]
      · have g8' := eq_false g8
        rw [if_neg g8]
        refine ⟨ν, mPost_z (jRr_z hG), fun Q => ?_⟩
        simp only [x126_0, x126_1, x126_3, x126_6, x126_9, x126_10, x126_12, x126_15, x126_16, x126_17, x126_18, x126_21, x126_24, x126_27, x126_28a, x126_28b, x126_29, x126_32, x126_33, x126_34, x126_37, x126_38, x126_39, x126_40, x126_42, x126_45, x126_48, x126_49, x126_51, x126_54, x126_57, x126_58, x126_59, x126_62, x126_63, x126_66, x126_67, x126_70, x126_71a, x126_71b, x126_72, x126_75, x126_76, x126_77, x126_80, x126_81, x126_82, x126_83, x126_85, x126_88, x126_91, x126_92, x126_94, x126_97, x126_98, x126_99, x126_101, x126_104, x126_107, x126_108, x126_110, x126_113, x126_114, x126_115, x126_117, x126_120, x126_123, x126_124, x126_127, x126_130, x126_131, x126_134, x126_137, x126_138, x126_139, x126_140a, x126_140b, x126_141, x126_144, x126_145, x126_146, x126_149, x126_150, x126_152, x126_155, x126_156, x126_157, x126_158, x126_161, x126_162, x126_165, x126_166a, x126_166b, x126_166c, x126_167, x126_168, x126_170, x126_173, x126_176, x126_177, x126_179, x126_182, x126_185, x126_186, x126_189, x126_190a, x126_190b, x126_190c, x126_191, x126_192, x126_194, x126_197, x126_200, x126_201, x126_204, x126_207, x126_208, x126_211, x126_214, x126_215, x126_218, x126_219, x126_221, x126_224, x126_227, x126_228, x126_231, x126_234, x126_235, x126_236, x126_237a, x126_237b, x126_238, x126_241, x126_242, x126_243, x126_246, x126_247, x126_250, x126_251, x126_252, x126_255, x126_256, x126_258, x126_261, mzi, mInc, mne, mlt9, mrk, mI1, mI2, mI3, mI4, mL1, mL2, mL3, mL4, mQ1, mQ2, mQ3, mQ4, mT1, mcat0, mcat1, mcat2, mcat3, mcat4, mrf1, jK_v, jK_n, JA, mz1, if_true, if_false, ite_true, ite_false, eq_self, not_false_eq_true, Nat.zero_le, true_and, and_true, and_self, Nat.reduceMod, Nat.reduceAdd, Nat.reduceLeDiff, Nat.reduceEqDiff, Nat.reduceLT, hw, his38, his12, his13, his14, his15, hsg29, q38, q12, q13, q14, q15, q29, hdeep, g8']
        rfl
    · rw [if_neg a29]
      by_cases a22 : kd i = 22
      · rw [if_pos a22]
        have i1 := kTok_lt hT hi (by omega)
        have q38 : (kd i = 38) = False := eq_false (by omega)
        have q12 : (kd i = 12) = False := eq_false (by omega)
        have q13 : (kd i = 13) = False := eq_false (by omega)
        have q14 : (kd i = 14) = False := eq_false (by omega)
        have q15 : (kd i = 15) = False := eq_false (by omega)
        have q29 : (kd i = 29) = False := eq_false (by omega)
        have q22 : (kd i = 22) = True := eq_true a22
        have q20 : (kd i = 20) = False := eq_false (by omega)
        have q21 : (kd i = 21) = False := eq_false (by omega)
        by_cases g8 : D < 8
        · have g8' := eq_true g8
          rw [if_pos g8]
          have hG1 := jRr_take (jRr_dep (D' := D + 1) hG hr) hr (kRole_0 (by omega) (by omega) (by omega)) (by omega)
          obtain ⟨ν1, p1, e1⟩ := hs (D + 1) (i + 1) E _ (d + 5) (by omega) hG1 (kBef_s (by omega)) i1 (by omega) (by omega) (by omega)
          have bs := kP_b hT f 4 (D + 1) (i + 1) i1
          rw [if_neg (by decide)] at bs
          generalize kP kd f 4 (D + 1) (i + 1) = q at p1 e1 bs ⊢
          obtain ⟨ok, j, l⟩ := q
          cases ok with
          | true =>
            obtain ⟨bs1, bs2⟩ := bs
            obtain ⟨bs3, bs4⟩ := bs2 rfl
            dsimp only at bs1 bs3 bs4
            obtain ⟨hG2, hB2⟩ := p1.1 rfl
            dsimp only at hG2 hB2
            have hw1 := jRf_w h0 hG2.1
            unfold jWd at hw1
            have hd1 : jI ν1 4490 10 = iN (D + 1) := hG2.2.2.1
            have hdm : iN (D + 1) - 1 = iN D := by rw [iN_pred (by omega)]; rfl
            have hG3 := jRr_dep (D' := D) hG2 hr
            have hcl : ∀ (Q : jO → jM → Prop), (Ex (d + 5) 122 0 [some (.ref 4490), some (.int 41)] [] (jsI ν1 4490 10 (iN D)) Q ↔ if kd j = 23 then Q (.inl (some (.int 1))) (jsI (jsI ν1 4490 10 (iN D)) 4490 9 (iN (j + 1))) else Q (.inl (some (.int 0))) (jsI ν1 4490 10 (iN D))) := fun Q => d_eatSign (d := d + 3) (K := 23) h0 hG3.1 hG3.2.1 bs1 (by decide) (by decide)
            have ev : kBd (true, j, l) (kT1 kd 23) = if kd j = 23 then (true, j + 1, l) else (false, j, l) := by
              unfold kT1 kBd
              by_cases q : kd j = 23
              · simp only [if_true, if_pos q, List.append_nil]
              · simp only [if_true, if_neg q, List.append_nil]
            rw [ev]
            by_cases q : kd j = 23
            · have q' := eq_true q
              rw [if_pos q]
              have j1 := kTok_lt hT bs1 (by omega)
              have hG4 := jRr_take hG3 hr (kRole_0 (by omega) (by omega) (by omega)) (by omega)
              refine ⟨_, mPost_1 hG4 (kBef_s (by omega)), fun Q => ?_⟩
              simp only [x126_0, x126_1, x126_3, x126_6, x126_9, x126_10, x126_12, x126_15, x126_16, x126_17, x126_18, x126_21, x126_24, x126_27, x126_28a, x126_28b, x126_29, x126_32, x126_33, x126_34, x126_37, x126_38, x126_39, x126_40, x126_42, x126_45, x126_48, x126_49, x126_51, x126_54, x126_57, x126_58, x126_59, x126_62, x126_63, x126_66, x126_67, x126_70, x126_71a, x126_71b, x126_72, x126_75, x126_76, x126_77, x126_80, x126_81, x126_82, x126_83, x126_85, x126_88, x126_91, x126_92, x126_94, x126_97, x126_98, x126_99, x126_101, x126_104, x126_107, x126_108, x126_110, x126_113, x126_114, x126_115, x126_117, x126_120, x126_123, x126_124, x126_127, x126_130, x126_131, x126_134, x126_137, x126_138, x126_139, x126_140a, x126_140b, x126_141, x126_144, x126_145, x126_146, x126_149, x126_150, x126_152, x126_155, x126_156, x126_157, x126_158, x126_161, x126_162, x126_165, x126_166a, x126_166b, x126_166c, x126_167, x126_168, x126_170, x126_173, x126_176, x126_177, x126_179, x126_182, x126_185, x126_186, x126_189, x126_190a, x126_190b, x126_190c, x126_191, x126_192, x126_194, x126_197, x126_200, x126_201, x126_204, x126_207, x126_208, x126_211, x126_214, x126_215, x126_218, x126_219, x126_221, x126_224, x126_227, x126_228, x126_231, x126_234, x126_235, x126_236, x126_237a, x126_237b, x126_238, x126_241, x126_242, x126_243, x126_246, x126_247, x126_250, x126_251, x126_252, x126_255, x126_256, x126_258, x126_261, mzi, mInc, mne, mlt9, mrk, mI1, mI2, mI3, mI4, mL1, mL2, mL3, mL4, mQ1, mQ2, mQ3, mQ4, mT1, mcat0, mcat1, mcat2, mcat3, mcat4, mrf1, jK_v, jK_n, JA, mz1, if_true, if_false, ite_true, ite_false, eq_self, not_false_eq_true, Nat.zero_le, true_and, and_true, and_self, Nat.reduceMod, Nat.reduceAdd, Nat.reduceLeDiff, Nat.reduceEqDiff, Nat.reduceLT, hw, hw1, ht, ic, ij, hk, his38, his12, his13, his14, his15, hsg29, hea20, hea21, hsg22, q38, q12, q13, q14, q15, q29, q20, q21, q22, hdeep, g8', e1, hd1, hdm, hcl, q', cond_true]
            · have q' := eq_false q
              rw [if_neg q]
              refine ⟨_, ⟨fun hh => Bool.noConfusion (show false = true from hh), fun _ => jRr_z hG3⟩, fun Q => ?_⟩
              simp only [x126_0, x126_1, x126_3, x126_6, x126_9, x126_10, x126_12, x126_15, x126_16, x126_17, x126_18, x126_21, x126_24, x126_27, x126_28a, x126_28b, x126_29, x126_32, x126_33, x126_34, x126_37, x126_38, x126_39, x126_40, x126_42, x126_45, x126_48, x126_49, x126_51, x126_54, x126_57, x126_58, x126_59, x126_62, x126_63, x126_66, x126_67, x126_70, x126_71a, x126_71b, x126_72, x126_75, x126_76, x126_77, x126_80, x126_81, x126_82, x126_83, x126_85, x126_88, x126_91, x126_92, x126_94, x126_97, x126_98, x126_99, x126_101, x126_104, x126_107, x126_108, x126_110, x126_113, x126_114, x126_115, x126_117, x126_120, x126_123, x126_124, x126_127, x126_130, x126_131, x126_134, x126_137, x126_138, x126_139, x126_140a, x126_140b, x126_141, x126_144, x126_145, x126_146, x126_149, x126_150, x126_152, x126_155, x126_156, x126_157, x126_158, x126_161, x126_162, x126_165, x126_166a, x126_166b, x126_166c, x126_167, x126_168, x126_170, x126_173, x126_176, x126_177, x126_179, x126_182, x126_185, x126_186, x126_189, x126_190a, x126_190b, x126_190c, x126_191, x126_192, x126_194, x126_197, x126_200, x126_201, x126_204, x126_207, x126_208, x126_211, x126_214, x126_215, x126_218, x126_219, x126_221, x126_224, x126_227, x126_228, x126_231, x126_234, x126_235, x126_236, x126_237a, x126_237b, x126_238, x126_241, x126_242, x126_243, x126_246, x126_247, x126_250, x126_251, x126_252, x126_255, x126_256, x126_258, x126_261, mzi, mInc, mne, mlt9, mrk, mI1, mI2, mI3, mI4, mL1, mL2, mL3, mL4, mQ1, mQ2, mQ3, mQ4, mT1, mcat0, mcat1, mcat2, mcat3, mcat4, mrf1, jK_v, jK_n, JA, mz1, if_true, if_false, ite_true, ite_false, eq_self, not_false_eq_true, Nat.zero_le, true_and, and_true, and_self, Nat.reduceMod, Nat.reduceAdd, Nat.reduceLeDiff, Nat.reduceEqDiff, Nat.reduceLT, hw, hw1, ht, ic, ij, hk, his38, his12, his13, his14, his15, hsg29, hea20, hea21, hsg22, q38, q12, q13, q14, q15, q29, q20, q21, q22, hdeep, g8', e1, hd1, hdm, hcl, q', cond_true, cond_false]
          | false =>
            rw [kBd_f (r := (false, j, l)) rfl]
            refine ⟨ν1, mPost_f p1 rfl, fun Q => ?_⟩
            simp only [x126_0, x126_1, x126_3, x126_6, x126_9, x126_10, x126_12, x126_15, x126_16, x126_17, x126_18, x126_21, x126_24, x126_27, x126_28a, x126_28b, x126_29, x126_32, x126_33, x126_34, x126_37, x126_38, x126_39, x126_40, x126_42, x126_45, x126_48, x126_49, x126_51, x126_54, x126_57, x126_58, x126_59, x126_62, x126_63, x126_66, x126_67, x126_70, x126_71a, x126_71b, x126_72, x126_75, x126_76, x126_77, x126_80, x126_81, x126_82, x126_83, x126_85, x126_88, x126_91, x126_92, x126_94, x126_97, x126_98, x126_99, x126_101, x126_104, x126_107, x126_108, x126_110, x126_113, x126_114, x126_115, x126_117, x126_120, x126_123, x126_124, x126_127, x126_130, x126_131, x126_134, x126_137, x126_138, x126_139, x126_140a, x126_140b, x126_141, x126_144, x126_145, x126_146, x126_149, x126_150, x126_152, x126_155, x126_156, x126_157, x126_158, x126_161, x126_162, x126_165, x126_166a, x126_166b, x126_166c, x126_167, x126_168, x126_170, x126_173, x126_176, x126_177, x126_179, x126_182, x126_185, x126_186, x126_189, x126_190a, x126_190b, x126_190c, x126_191, x126_192, x126_194, x126_197, x126_200, x126_201, x126_204, x126_207, x126_208, x126_211, x126_214, x126_215, x126_218, x126_219, x126_221, x126_224, x126_227, x126_228, x126_231, x126_234, x126_235, x126_236, x126_237a, x126_237b, x126_238, x126_241, x126_242, x126_243, x126_246, x126_247, x126_250, x126_251, x126_252, x126_255, x126_256, x126_258, x126_261, mzi, mInc, mne, mlt9, mrk, mI1, mI2, mI3, mI4, mL1, mL2, mL3, mL4, mQ1, mQ2, mQ3, mQ4, mT1, mcat0, mcat1, mcat2, mcat3, mcat4, mrf1, jK_v, jK_n, JA, mz1, if_true, if_false, ite_true, ite_false, eq_self, not_false_eq_true, Nat.zero_le, true_and, and_true, and_self, Nat.reduceMod, Nat.reduceAdd, Nat.reduceLeDiff, Nat.reduceEqDiff, Nat.reduceLT, hw, ht, ic, ij, hk, his38, his12, his13, his14, his15, hsg29, hea20, hea21, hsg22, q38, q12, q13, q14, q15, q29, q20, q21, q22, hdeep, g8', e1, cond_false]
        · have g8' := eq_false g8
          rw [if_neg g8]
          refine ⟨ν, mPost_z (jRr_z hG), fun Q => ?_⟩
          simp only [x126_0, x126_1, x126_3, x126_6, x126_9, x126_10, x126_12, x126_15, x126_16, x126_17, x126_18, x126_21, x126_24, x126_27, x126_28a, x126_28b, x126_29, x126_32, x126_33, x126_34, x126_37, x126_38, x126_39, x126_40, x126_42, x126_45, x126_48, x126_49, x126_51, x126_54, x126_57, x126_58, x126_59, x126_62, x126_63, x126_66, x126_67, x126_70, x126_71a, x126_71b, x126_72, x126_75, x126_76, x126_77, x126_80, x126_81, x126_82, x126_83, x126_85, x126_88, x126_91, x126_92, x126_94, x126_97, x126_98, x126_99, x126_101, x126_104, x126_107, x126_108, x126_110, x126_113, x126_114, x126_115, x126_117, x126_120, x126_123, x126_124, x126_127, x126_130, x126_131, x126_134, x126_137, x126_138, x126_139, x126_140a, x126_140b, x126_141, x126_144, x126_145, x126_146, x126_149, x126_150, x126_152, x126_155, x126_156, x126_157, x126_158, x126_161, x126_162, x126_165, x126_166a, x126_166b, x126_166c, x126_167, x126_168, x126_170, x126_173, x126_176, x126_177, x126_179, x126_182, x126_185, x126_186, x126_189, x126_190a, x126_190b, x126_190c, x126_191, x126_192, x126_194, x126_197, x126_200, x126_201, x126_204, x126_207, x126_208, x126_211, x126_214, x126_215, x126_218, x126_219, x126_221, x126_224, x126_227, x126_228, x126_231, x126_234, x126_235, x126_236, x126_237a, x126_237b, x126_238, x126_241, x126_242, x126_243, x126_246, x126_247, x126_250, x126_251, x126_252, x126_255, x126_256, x126_258, x126_261, mzi, mInc, mne, mlt9, mrk, mI1, mI2, mI3, mI4, mL1, mL2, mL3, mL4, mQ1, mQ2, mQ3, mQ4, mT1, mcat0, mcat1, mcat2, mcat3, mcat4, mrf1, jK_v, jK_n, JA, mz1, if_true, if_false, ite_true, ite_false, eq_self, not_false_eq_true, Nat.zero_le, true_and, and_true, and_self, Nat.reduceMod, Nat.reduceAdd, Nat.reduceLeDiff, Nat.reduceEqDiff, Nat.reduceLT, hw, ht, ic, ij, hk, his38, his12, his13, his14, his15, hsg29, hea20, hea21, hsg22, q38, q12, q13, q14, q15, q29, q20, q21, q22, hdeep, g8']
          rfl
      · rw [if_neg a22]
        by_cases a : kd i = 20 ∨ kd i = 21
        · rw [if_pos a]
          have i1 := kTok_lt hT hi (by omega)
          have hGt := jRr_take hG hr (kRole_0 (by omega) (by omega) (by omega)) (by omega)
          have htt : jI (jsI ν 4490 9 (iN (i + 1))) 4490 9 = iN (i + 1) := hGt.2.1
          have hsg22t : ∀ (Q : jO → jM → Prop), (Ex (d + 5) 121 0 [some (.ref 4490), some (.int 40)] [] (jsI ν 4490 9 (iN (i + 1))) Q ↔ Q (.inl (some (.int (if kd (i + 1) = 22 then 1 else 0)))) (jsI ν 4490 9 (iN (i + 1)))) := fun Q => d_isSign (K := 22) h0 hGt.1 htt i1 (by decide) (by decide)
          have hdeept : ∀ (Q : jO → jM → Prop), (Ex (d + 5) 119 0 [some (.ref 4490)] [] (jsI ν 4490 9 (iN (i + 1))) Q ↔ if D < 8 then Q (.inl (some (.int 1))) (jsI (jsI (jsI ν 4490 9 (iN (i + 1))) 4490 10 (iN (D + 1))) 4490 9 (iN (i + 1 + 1))) else Q (.inl (some (.int 0))) (jsI ν 4490 9 (iN (i + 1)))) := fun Q => d_deeper h0 hGt.1 htt hGt.2.2.1 hD
          -- the way to the bracket, for either word
          have hpre : ∀ Q : jO → jM → Prop, Ex (d + 6) 126 0 [some (.ref 4490), none, none] [] ν Q ↔ Ex (d + 6) 126 191 [some (.ref 4490), some (.int (iN (kMd (kd i)))), some (.int 1)] [] (jsI ν 4490 9 (iN (i + 1))) Q := by
            intro Q
            by_cases a20 : kd i = 20
            · have q20 := eq_true a20
              have q38 : (kd i = 38) = False := eq_false a38
              have q12 : (kd i = 12) = False := eq_false a12
              have q13 : (kd i = 13) = False := eq_false a13
              have q14 : (kd i = 14) = False := eq_false a14
              have q15 : (kd i = 15) = False := eq_false a15
              have q29 : (kd i = 29) = False := eq_false a29
              simp only [x126_0, x126_1, x126_3, x126_6, x126_9, x126_10, x126_12, x126_15, x126_16, x126_17, x126_18, x126_21, x126_24, x126_27, x126_28a, x126_28b, x126_29, x126_32, x126_33, x126_34, x126_37, x126_38, x126_39, x126_40, x126_42, x126_45, x126_48, x126_49, x126_51, x126_54, x126_57, x126_58, x126_59, x126_62, x126_63, x126_66, x126_67, x126_70, x126_71a, x126_71b, x126_72, x126_75, x126_76, x126_77, x126_80, x126_81, x126_82, x126_83, x126_85, x126_88, x126_91, x126_92, x126_94, x126_97, x126_98, x126_99, x126_101, x126_104, x126_107, x126_108, x126_110, x126_113, x126_114, x126_115, x126_117, x126_120, x126_123, x126_124, x126_127, x126_130, x126_131, x126_134, x126_137, x126_138, x126_139, x126_140a, x126_140b, x126_141, x126_144, x126_145, x126_146, x126_149, x126_150, x126_152, x126_155, x126_156, x126_157, x126_158, x126_161, x126_162, x126_165, x126_166a, x126_166b, x126_166c, x126_167, x126_168, x126_170, x126_173, x126_176, x126_177, x126_179, x126_182, x126_185, x126_186, x126_189, x126_190a, x126_190b, x126_190c, mzi, mInc, mne, mlt9, mrk, mI1, mI2, mI3, mI4, mL1, mL2, mL3, mL4, mQ1, mQ2, mQ3, mQ4, mT1, mcat0, mcat1, mcat2, mcat3, mcat4, mrf1, jK_v, jK_n, JA, mz1, if_true, if_false, ite_true, ite_false, eq_self, not_false_eq_true, Nat.zero_le, true_and, and_true, and_self, Nat.reduceMod, Nat.reduceAdd, Nat.reduceLeDiff, Nat.reduceEqDiff, Nat.reduceLT, hw, ht, ic, ij, hk, his38, his12, his13, his14, his15, hsg29, hea20, q38, q12, q13, q14, q15, q29, q20]
            · have q20 := eq_false a20
              have q21 := eq_true (a.elim (fun h => absurd h a20) id)
              have q38 : (kd i = 38) = False := eq_false a38
              have q12 : (kd i = 12) = False := eq_false a12
              have q13 : (kd i = 13) = False := eq_false a13
              have q14 : (kd i = 14) = False := eq_false a14
              have q15 : (kd i = 15) = False := eq_false a15
              have q29 : (kd i = 29) = False := eq_false a29
              simp only [x126_0, x126_1, x126_3, x126_6, x126_9, x126_10, x126_12, x126_15, x126_16, x126_17, x126_18, x126_21, x126_24, x126_27, x126_28a, x126_28b, x126_29, x126_32, x126_33, x126_34, x126_37, x126_38, x126_39, x126_40, x126_42, x126_45, x126_48, x126_49, x126_51, x126_54, x126_57, x126_58, x126_59, x126_62, x126_63, x126_66, x126_67, x126_70, x126_71a, x126_71b, x126_72, x126_75, x126_76, x126_77, x126_80, x126_81, x126_82, x126_83, x126_85, x126_88, x126_91, x126_92, x126_94, x126_97, x126_98, x126_99, x126_101, x126_104, x126_107, x126_108, x126_110, x126_113, x126_114, x126_115, x126_117, x126_120, x126_123, x126_124, x126_127, x126_130, x126_131, x126_134, x126_137, x126_138, x126_139, x126_140a, x126_140b, x126_141, x126_144, x126_145, x126_146, x126_149, x126_150, x126_152, x126_155, x126_156, x126_157, x126_158, x126_161, x126_162, x126_165, x126_166a, x126_166b, x126_166c, x126_167, x126_168, x126_170, x126_173, x126_176, x126_177, x126_179, x126_182, x126_185, x126_186, x126_189, x126_190a, x126_190b, x126_190c, mzi, mInc, mne, mlt9, mrk, mI1, mI2, mI3, mI4, mL1, mL2, mL3, mL4, mQ1, mQ2, mQ3, mQ4, mT1, mcat0, mcat1, mcat2, mcat3, mcat4, mrf1, jK_v, jK_n, JA, mz1, if_true, if_false, ite_true, ite_false, eq_self, not_false_eq_true, Nat.zero_le, true_and, and_true, and_self, Nat.reduceMod, Nat.reduceAdd, Nat.reduceLeDiff, Nat.reduceEqDiff, Nat.reduceLT, hw, ht, ic, ij, hk, his38, his12, his13, his14, his15, hsg29, hea20, hea21, q38, q12, q13, q14, q15, q29, q20, q21]
          have hcd : iN (kMd (kd i)) = iN (kCd (kd i)) := by rcases a with e | e <;> rw [e] <;> rfl
          have htw : kTwo (kd i) = false := by rcases a with e | e <;> rw [e] <;> rfl
          by_cases g8 : D < 8
          · have g8' := eq_true g8
            rw [if_pos g8]
            by_cases q0 : kd (i + 1) = 22
            · have q0' := eq_true q0
              rw [if_pos q0]
              have i2 := kTok_lt hT i1 (by omega)
              have hG1 := jRr_take (jRr_dep (D' := D + 1) hGt hr) hr (kRole_0 (by omega) (by omega) (by omega)) (by omega)
              obtain ⟨ν1, p1, e1⟩ := hs (D + 1) (i + 1 + 1) E _ (d + 5) (by omega) hG1 (kBef_s (by omega)) i2 (by omega) (by omega) (by omega)
              have bs := kP_b hT f 4 (D + 1) (i + 1 + 1) i2
              rw [if_neg (by decide)] at bs
              show ∃ ν', mPost μ r kd num N D E (kBd (kBd (kBd (kBd (kP kd f 4 (D + 1) (i + 1 + 1)) (kT1 kd 27)) (kP kd f 4 (D + 1))) (kT1 kd 23)) (kEm (kd i) i)) ν' ∧ ∀ Q, (Ex (d + 6) 126 0 [some (.ref 4490), none, none] [] ν Q ↔ Q (.inl (some (.int (bif (kBd (kBd (kBd (kBd (kP kd f 4 (D + 1) (i + 1 + 1)) (kT1 kd 27)) (kP kd f 4 (D + 1))) (kT1 kd 23)) (kEm (kd i) i)).1 then 1 else 0)))) ν')
              generalize kP kd f 4 (D + 1) (i + 1 + 1) = q at p1 e1 bs ⊢
              obtain ⟨ok, j, l⟩ := q
              cases ok with
              | false =>
                rw [kBd_f (r := kBd (kBd (kBd (false, j, l) (kT1 kd 27)) (kP kd f 4 (D + 1))) (kT1 kd 23)) rfl]
                rw [kBd_f (r := kBd (kBd (false, j, l) (kT1 kd 27)) (kP kd f 4 (D + 1))) rfl, kBd_f (r := kBd (false, j, l) (kT1 kd 27)) rfl, kBd_f (r := (false, j, l)) rfl]
                refine ⟨ν1, mPost_f p1 rfl, fun Q => ?_⟩
                rw [hpre]
                simp only [x126_0, x126_1, x126_3, x126_6, x126_9, x126_10, x126_12, x126_15, x126_16, x126_17, x126_18, x126_21, x126_24, x126_27, x126_28a, x126_28b, x126_29, x126_32, x126_33, x126_34, x126_37, x126_38, x126_39, x126_40, x126_42, x126_45, x126_48, x126_49, x126_51, x126_54, x126_57, x126_58, x126_59, x126_62, x126_63, x126_66, x126_67, x126_70, x126_71a, x126_71b, x126_72, x126_75, x126_76, x126_77, x126_80, x126_81, x126_82, x126_83, x126_85, x126_88, x126_91, x126_92, x126_94, x126_97, x126_98, x126_99, x126_101, x126_104, x126_107, x126_108, x126_110, x126_113, x126_114, x126_115, x126_117, x126_120, x126_123, x126_124, x126_127, x126_130, x126_131, x126_134, x126_137, x126_138, x126_139, x126_140a, x126_140b, x126_141, x126_144, x126_145, x126_146, x126_149, x126_150, x126_152, x126_155, x126_156, x126_157, x126_158, x126_161, x126_162, x126_165, x126_166a, x126_166b, x126_166c, x126_167, x126_168, x126_170, x126_173, x126_176, x126_177, x126_179, x126_182, x126_185, x126_186, x126_189, x126_190a, x126_190b, x126_190c, x126_191, x126_192, x126_194, x126_197, x126_200, x126_201, x126_204, x126_207, x126_208, x126_211, x126_214, x126_215, x126_218, x126_219, x126_221, x126_224, x126_227, x126_228, x126_231, x126_234, x126_235, x126_236, x126_237a, x126_237b, x126_238, x126_241, x126_242, x126_243, x126_246, x126_247, x126_250, x126_251, x126_252, x126_255, x126_256, x126_258, x126_261, mzi, mInc, mne, mlt9, mrk, mI1, mI2, mI3, mI4, mL1, mL2, mL3, mL4, mQ1, mQ2, mQ3, mQ4, mT1, mcat0, mcat1, mcat2, mcat3, mcat4, mrf1, jK_v, jK_n, JA, mz1, if_true, if_false, ite_true, ite_false, eq_self, not_false_eq_true, Nat.zero_le, true_and, and_true, and_self, Nat.reduceMod, Nat.reduceAdd, Nat.reduceLeDiff, Nat.reduceEqDiff, Nat.reduceLT, hw, hsg22t, q0', hdeept, g8', e1, cond_false]
              | true =>
                obtain ⟨bs1, bs2⟩ := bs
                obtain ⟨bs3, bs4⟩ := bs2 rfl
                dsimp only at bs1 bs3 bs4
                obtain ⟨hG3, hB3⟩ := p1.1 rfl
                dsimp only at hG3 hB3
                have hw1 := jRf_w h0 hG3.1
                unfold jWd at hw1
                have hco : ∀ (Q : jO → jM → Prop), (Ex (d + 5) 122 0 [some (.ref 4490), some (.int 44)] [] ν1 Q ↔ if kd j = 27 then Q (.inl (some (.int 1))) (jsI ν1 4490 9 (iN (j + 1))) else Q (.inl (some (.int 0))) ν1) := fun Q => d_eatSign (d := d + 3) (K := 27) h0 hG3.1 hG3.2.1 bs1 (by decide) (by decide)
                have ev1 : kBd (true, j, l) (kT1 kd 27) = if kd j = 27 then (true, j + 1, l) else (false, j, l) := by
                  unfold kT1 kBd
                  by_cases q : kd j = 27
                  · simp only [if_true, if_pos q, List.append_nil]
                  · simp only [if_true, if_neg q, List.append_nil]
                rw [ev1]
                by_cases q1 : kd j = 27
                · have q1' := eq_true q1
                  rw [if_pos q1]
                  have j1 := kTok_lt hT bs1 (by omega)
                  have hG4 := jRr_take hG3 hr (kRole_0 (by omega) (by omega) (by omega)) (by omega)
                  obtain ⟨ν2, p2, e2⟩ := hs (D + 1) (j + 1) (E ++ l) _ (d + 5) (by omega) hG4 (kBef_s (by omega)) j1 (by rw [List.length_append]; omega) (by omega) (by omega)
                  have bt := kP_b hT f 4 (D + 1) (j + 1) j1
                  rw [if_neg (by decide)] at bt
                  have ev2 : kBd (true, j + 1, l) (kP kd f 4 (D + 1)) = ((kP kd f 4 (D + 1) (j + 1)).1, (kP kd f 4 (D + 1) (j + 1)).2.1, l ++ (kP kd f 4 (D + 1) (j + 1)).2.2) := rfl
                  rw [ev2]
                  generalize kP kd f 4 (D + 1) (j + 1) = q2 at p2 e2 bt ⊢
                  obtain ⟨ok2, k, l2⟩ := q2
                  cases ok2 with
                  | false =>
                    rw [kBd_f (r := kBd (false, k, l ++ l2) (kT1 kd 23)) rfl, kBd_f (r := (false, k, l ++ l2)) rfl]
                    refine ⟨ν2, ⟨fun hh => Bool.noConfusion (show false = true from hh), fun _ => p2.2 rfl⟩, fun Q => ?_⟩
                    rw [hpre]
                    simp only [x126_0, x126_1, x126_3, x126_6, x126_9, x126_10, x126_12, x126_15, x126_16, x126_17, x126_18, x126_21, x126_24, x126_27, x126_28a, x126_28b, x126_29, x126_32, x126_33, x126_34, x126_37, x126_38, x126_39, x126_40, x126_42, x126_45, x126_48, x126_49, x126_51, x126_54, x126_57, x126_58, x126_59, x126_62, x126_63, x126_66, x126_67, x126_70, x126_71a, x126_71b, x126_72, x126_75, x126_76, x126_77, x126_80, x126_81, x126_82, x126_83, x126_85, x126_88, x126_91, x126_92, x126_94, x126_97, x126_98, x126_99, x126_101, x126_104, x126_107, x126_108, x126_110, x126_113, x126_114, x126_115, x126_117, x126_120, x126_123, x126_124, x126_127, x126_130, x126_131, x126_134, x126_137, x126_138, x126_139, x126_140a, x126_140b, x126_141, x126_144, x126_145, x126_146, x126_149, x126_150, x126_152, x126_155, x126_156, x126_157, x126_158, x126_161, x126_162, x126_165, x126_166a, x126_166b, x126_166c, x126_167, x126_168, x126_170, x126_173, x126_176, x126_177, x126_179, x126_182, x126_185, x126_186, x126_189, x126_190a, x126_190b, x126_190c, x126_191, x126_192, x126_194, x126_197, x126_200, x126_201, x126_204, x126_207, x126_208, x126_211, x126_214, x126_215, x126_218, x126_219, x126_221, x126_224, x126_227, x126_228, x126_231, x126_234, x126_235, x126_236, x126_237a, x126_237b, x126_238, x126_241, x126_242, x126_243, x126_246, x126_247, x126_250, x126_251, x126_252, x126_255, x126_256, x126_258, x126_261, mzi, mInc, mne, mlt9, mrk, mI1, mI2, mI3, mI4, mL1, mL2, mL3, mL4, mQ1, mQ2, mQ3, mQ4, mT1, mcat0, mcat1, mcat2, mcat3, mcat4, mrf1, jK_v, jK_n, JA, mz1, if_true, if_false, ite_true, ite_false, eq_self, not_false_eq_true, Nat.zero_le, true_and, and_true, and_self, Nat.reduceMod, Nat.reduceAdd, Nat.reduceLeDiff, Nat.reduceEqDiff, Nat.reduceLT, hw, hw1, hsg22t, q0', hdeept, g8', e1, hco, q1', e2, cond_true, cond_false]
                  | true =>
                    obtain ⟨bt1, bt2⟩ := bt
                    obtain ⟨bt3, bt4⟩ := bt2 rfl
                    dsimp only at bt1 bt3 bt4
                    obtain ⟨hG5, hB5⟩ := p2.1 rfl
                    dsimp only at hG5 hB5
                    have hw2 := jRf_w h0 hG5.1
                    unfold jWd at hw2
                    have hd2 : jI ν2 4490 10 = iN (D + 1) := hG5.2.2.1
                    have hdm : iN (D + 1) - 1 = iN D := by rw [iN_pred (by omega)]; rfl
                    have hG6 := jRr_dep (D' := D) hG5 hr
                    have l1 : kWds (E ++ l ++ l2) < 799 := kW_lt (i := k) hT (by rw [List.length_append, List.length_append]; omega) bt1
                    have hput : ∀ (Q : jO → jM → Prop), (Ex (d + 5) 120 0 [some (.ref 4490), some (.int (iN (kMd (kd i))))] [] (jsI ν2 4490 10 (iN D)) Q ↔ Q (.inl none) (kPutM (jsI ν2 4490 10 (iN D)) r (kWds (E ++ l ++ l2)) (iN (kCd (kd i))))) := fun Q => by rw [hcd]; exact d_put h0 hG6.1 hG6.2.2.2.1 (by omega)
                    have hG7 := jRr_put (K := kd i) (t := i) hG6 hr htw
                    have hcl : ∀ (Q : jO → jM → Prop), (Ex (d + 5) 122 0 [some (.ref 4490), some (.int 41)] [] (kPutM (jsI ν2 4490 10 (iN D)) r (kWds (E ++ l ++ l2)) (iN (kCd (kd i)))) Q ↔ if kd k = 23 then Q (.inl (some (.int 1))) (jsI (kPutM (jsI ν2 4490 10 (iN D)) r (kWds (E ++ l ++ l2)) (iN (kCd (kd i)))) 4490 9 (iN (k + 1))) else Q (.inl (some (.int 0))) (kPutM (jsI ν2 4490 10 (iN D)) r (kWds (E ++ l ++ l2)) (iN (kCd (kd i))))) := fun Q => d_eatSign (d := d + 3) (K := 23) h0 hG7.1 hG7.2.1 bt1 (by decide) (by decide)
                    have ev3 : kBd (true, k, l ++ l2) (kT1 kd 23) = if kd k = 23 then (true, k + 1, l ++ l2) else (false, k, l ++ l2) := by
                      unfold kT1 kBd
                      by_cases q : kd k = 23
                      · simp only [if_true, if_pos q, List.append_nil]
                      · simp only [if_true, if_neg q, List.append_nil]
                    have hw3 := jRf_w h0 hG7.1
                    unfold jWd at hw3
                    dsimp only
                    rw [ev3]
                    by_cases q2 : kd k = 23
                    · have q2' := eq_true q2
                      rw [if_pos q2]
                      have k1 := kTok_lt hT bt1 (by omega)
                      have hG8 := jRr_take hG7 hr (kRole_0 (by omega) (by omega) (by omega)) (by omega)
                      refine ⟨_, mPost_1 (l := (l ++ l2) ++ [(kd i, i)]) (by rw [← List.append_assoc, ← List.append_assoc]; exact hG8) (kBef_s (by omega)), fun Q => ?_⟩
                      rw [hpre]
                      simp only [x126_0, x126_1, x126_3, x126_6, x126_9, x126_10, x126_12, x126_15, x126_16, x126_17, x126_18, x126_21, x126_24, x126_27, x126_28a, x126_28b, x126_29, x126_32, x126_33, x126_34, x126_37, x126_38, x126_39, x126_40, x126_42, x126_45, x126_48, x126_49, x126_51, x126_54, x126_57, x126_58, x126_59, x126_62, x126_63, x126_66, x126_67, x126_70, x126_71a, x126_71b, x126_72, x126_75, x126_76, x126_77, x126_80, x126_81, x126_82, x126_83, x126_85, x126_88, x126_91, x126_92, x126_94, x126_97, x126_98, x126_99, x126_101, x126_104, x126_107, x126_108, x126_110, x126_113, x126_114, x126_115, x126_117, x126_120, x126_123, x126_124, x126_127, x126_130, x126_131, x126_134, x126_137, x126_138, x126_139, x126_140a, x126_140b, x126_141, x126_144, x126_145, x126_146, x126_149, x126_150, x126_152, x126_155, x126_156, x126_157, x126_158, x126_161, x126_162, x126_165, x126_166a, x126_166b, x126_166c, x126_167, x126_168, x126_170, x126_173, x126_176, x126_177, x126_179, x126_182, x126_185, x126_186, x126_189, x126_190a, x126_190b, x126_190c, x126_191, x126_192, x126_194, x126_197, x126_200, x126_201, x126_204, x126_207, x126_208, x126_211, x126_214, x126_215, x126_218, x126_219, x126_221, x126_224, x126_227, x126_228, x126_231, x126_234, x126_235, x126_236, x126_237a, x126_237b, x126_238, x126_241, x126_242, x126_243, x126_246, x126_247, x126_250, x126_251, x126_252, x126_255, x126_256, x126_258, x126_261, mzi, mInc, mne, mlt9, mrk, mI1, mI2, mI3, mI4, mL1, mL2, mL3, mL4, mQ1, mQ2, mQ3, mQ4, mT1, mcat0, mcat1, mcat2, mcat3, mcat4, mrf1, jK_v, jK_n, JA, mz1, if_true, if_false, ite_true, ite_false, eq_self, not_false_eq_true, Nat.zero_le, true_and, and_true, and_self, Nat.reduceMod, Nat.reduceAdd, Nat.reduceLeDiff, Nat.reduceEqDiff, Nat.reduceLT, hw, hw1, hw2, hsg22t, q0', hdeept, g8', e1, hco, q1', e2, hd2, hdm, hput, hcl, q2', cond_true]
                      rfl
                    · have q2' := eq_false q2
                      rw [if_neg q2, kBd_f (r := (false, k, l ++ l2)) rfl]
                      refine ⟨_, ⟨fun hh => Bool.noConfusion (show false = true from hh), fun _ => jRr_z hG7⟩, fun Q => ?_⟩
                      rw [hpre]
                      simp only [x126_0, x126_1, x126_3, x126_6, x126_9, x126_10, x126_12, x126_15, x126_16, x126_17, x126_18, x126_21, x126_24, x126_27, x126_28a, x126_28b, x126_29, x126_32, x126_33, x126_34, x126_37, x126_38, x126_39, x126_40, x126_42, x126_45, x126_48, x126_49, x126_51, x126_54, x126_57, x126_58, x126_59, x126_62, x126_63, x126_66, x126_67, x126_70, x126_71a, x126_71b, x126_72, x126_75, x126_76, x126_77, x126_80, x126_81, x126_82, x126_83, x126_85, x126_88, x126_91, x126_92, x126_94, x126_97, x126_98, x126_99, x126_101, x126_104, x126_107, x126_108, x126_110, x126_113, x126_114, x126_115, x126_117, x126_120, x126_123, x126_124, x126_127, x126_130, x126_131, x126_134, x126_137, x126_138, x126_139, x126_140a, x126_140b, x126_141, x126_144, x126_145, x126_146, x126_149, x126_150, x126_152, x126_155, x126_156, x126_157, x126_158, x126_161, x126_162, x126_165, x126_166a, x126_166b, x126_166c, x126_167, x126_168, x126_170, x126_173, x126_176, x126_177, x126_179, x126_182, x126_185, x126_186, x126_189, x126_190a, x126_190b, x126_190c, x126_191, x126_192, x126_194, x126_197, x126_200, x126_201, x126_204, x126_207, x126_208, x126_211, x126_214, x126_215, x126_218, x126_219, x126_221, x126_224, x126_227, x126_228, x126_231, x126_234, x126_235, x126_236, x126_237a, x126_237b, x126_238, x126_241, x126_242, x126_243, x126_246, x126_247, x126_250, x126_251, x126_252, x126_255, x126_256, x126_258, x126_261, mzi, mInc, mne, mlt9, mrk, mI1, mI2, mI3, mI4, mL1, mL2, mL3, mL4, mQ1, mQ2, mQ3, mQ4, mT1, mcat0, mcat1, mcat2, mcat3, mcat4, mrf1, jK_v, jK_n, JA, mz1, if_true, if_false, ite_true, ite_false, eq_self, not_false_eq_true, Nat.zero_le, true_and, and_true, and_self, Nat.reduceMod, Nat.reduceAdd, Nat.reduceLeDiff, Nat.reduceEqDiff, Nat.reduceLT, hw, hw1, hw2, hsg22t, q0', hdeept, g8', e1, hco, q1', e2, hd2, hdm, hput, hcl, q2', cond_true, cond_false]
                · have q1' := eq_false q1
                  rw [if_neg q1, kBd_f (r := kBd (kBd (false, j, l) (kP kd f 4 (D + 1))) (kT1 kd 23)) rfl, kBd_f (r := kBd (false, j, l) (kP kd f 4 (D + 1))) rfl, kBd_f (r := (false, j, l)) rfl]
                  refine ⟨ν1, ⟨fun hh => Bool.noConfusion (show false = true from hh), fun _ => jRr_z hG3⟩, fun Q => ?_⟩
                  rw [hpre]
                  simp only [x126_0, x126_1, x126_3, x126_6, x126_9, x126_10, x126_12, x126_15, x126_16, x126_17, x126_18, x126_21, x126_24, x126_27, x126_28a, x126_28b, x126_29, x126_32, x126_33, x126_34, x126_37, x126_38, x126_39, x126_40, x126_42, x126_45, x126_48, x126_49, x126_51, x126_54, x126_57, x126_58, x126_59, x126_62, x126_63, x126_66, x126_67, x126_70, x126_71a, x126_71b, x126_72, x126_75, x126_76, x126_77, x126_80, x126_81, x126_82, x126_83, x126_85, x126_88, x126_91, x126_92, x126_94, x126_97, x126_98, x126_99, x126_101, x126_104, x126_107, x126_108, x126_110, x126_113, x126_114, x126_115, x126_117, x126_120, x126_123, x126_124, x126_127, x126_130, x126_131, x126_134, x126_137, x126_138, x126_139, x126_140a, x126_140b, x126_141, x126_144, x126_145, x126_146, x126_149, x126_150, x126_152, x126_155, x126_156, x126_157, x126_158, x126_161, x126_162, x126_165, x126_166a, x126_166b, x126_166c, x126_167, x126_168, x126_170, x126_173, x126_176, x126_177, x126_179, x126_182, x126_185, x126_186, x126_189, x126_190a, x126_190b, x126_190c, x126_191, x126_192, x126_194, x126_197, x126_200, x126_201, x126_204, x126_207, x126_208, x126_211, x126_214, x126_215, x126_218, x126_219, x126_221, x126_224, x126_227, x126_228, x126_231, x126_234, x126_235, x126_236, x126_237a, x126_237b, x126_238, x126_241, x126_242, x126_243, x126_246, x126_247, x126_250, x126_251, x126_252, x126_255, x126_256, x126_258, x126_261, mzi, mInc, mne, mlt9, mrk, mI1, mI2, mI3, mI4, mL1, mL2, mL3, mL4, mQ1, mQ2, mQ3, mQ4, mT1, mcat0, mcat1, mcat2, mcat3, mcat4, mrf1, jK_v, jK_n, JA, mz1, if_true, if_false, ite_true, ite_false, eq_self, not_false_eq_true, Nat.zero_le, true_and, and_true, and_self, Nat.reduceMod, Nat.reduceAdd, Nat.reduceLeDiff, Nat.reduceEqDiff, Nat.reduceLT, hw, hw1, hsg22t, q0', hdeept, g8', e1, hco, q1', cond_true, cond_false]
            · have q0' := eq_false q0
              rw [if_neg q0]
              refine ⟨_, mPost_z (jRr_z hGt), fun Q => ?_⟩
              rw [hpre]
              simp only [x126_0, x126_1, x126_3, x126_6, x126_9, x126_10, x126_12, x126_15, x126_16, x126_17, x126_18, x126_21, x126_24, x126_27, x126_28a, x126_28b, x126_29, x126_32, x126_33, x126_34, x126_37, x126_38, x126_39, x126_40, x126_42, x126_45, x126_48, x126_49, x126_51, x126_54, x126_57, x126_58, x126_59, x126_62, x126_63, x126_66, x126_67, x126_70, x126_71a, x126_71b, x126_72, x126_75, x126_76, x126_77, x126_80, x126_81, x126_82, x126_83, x126_85, x126_88, x126_91, x126_92, x126_94, x126_97, x126_98, x126_99, x126_101, x126_104, x126_107, x126_108, x126_110, x126_113, x126_114, x126_115, x126_117, x126_120, x126_123, x126_124, x126_127, x126_130, x126_131, x126_134, x126_137, x126_138, x126_139, x126_140a, x126_140b, x126_141, x126_144, x126_145, x126_146, x126_149, x126_150, x126_152, x126_155, x126_156, x126_157, x126_158, x126_161, x126_162, x126_165, x126_166a, x126_166b, x126_166c, x126_167, x126_168, x126_170, x126_173, x126_176, x126_177, x126_179, x126_182, x126_185, x126_186, x126_189, x126_190a, x126_190b, x126_190c, x126_191, x126_192, x126_194, x126_197, x126_200, x126_201, x126_204, x126_207, x126_208, x126_211, x126_214, x126_215, x126_218, x126_219, x126_221, x126_224, x126_227, x126_228, x126_231, x126_234, x126_235, x126_236, x126_237a, x126_237b, x126_238, x126_241, x126_242, x126_243, x126_246, x126_247, x126_250, x126_251, x126_252, x126_255, x126_256, x126_258, x126_261, mzi, mInc, mne, mlt9, mrk, mI1, mI2, mI3, mI4, mL1, mL2, mL3, mL4, mQ1, mQ2, mQ3, mQ4, mT1, mcat0, mcat1, mcat2, mcat3, mcat4, mrf1, jK_v, jK_n, JA, mz1, if_true, if_false, ite_true, ite_false, eq_self, not_false_eq_true, Nat.zero_le, true_and, and_true, and_self, Nat.reduceMod, Nat.reduceAdd, Nat.reduceLeDiff, Nat.reduceEqDiff, Nat.reduceLT, hw, hsg22t, q0']
              rfl
          · have g8' := eq_false g8
            rw [if_neg g8]
            refine ⟨_, mPost_z (jRr_z hGt), fun Q => ?_⟩
            rw [hpre]
            by_cases q0 : kd (i + 1) = 22
            · have q0' := eq_true q0
              simp only [x126_0, x126_1, x126_3, x126_6, x126_9, x126_10, x126_12, x126_15, x126_16, x126_17, x126_18, x126_21, x126_24, x126_27, x126_28a, x126_28b, x126_29, x126_32, x126_33, x126_34, x126_37, x126_38, x126_39, x126_40, x126_42, x126_45, x126_48, x126_49, x126_51, x126_54, x126_57, x126_58, x126_59, x126_62, x126_63, x126_66, x126_67, x126_70, x126_71a, x126_71b, x126_72, x126_75, x126_76, x126_77, x126_80, x126_81, x126_82, x126_83, x126_85, x126_88, x126_91, x126_92, x126_94, x126_97, x126_98, x126_99, x126_101, x126_104, x126_107, x126_108, x126_110, x126_113, x126_114, x126_115, x126_117, x126_120, x126_123, x126_124, x126_127, x126_130, x126_131, x126_134, x126_137, x126_138, x126_139, x126_140a, x126_140b, x126_141, x126_144, x126_145, x126_146, x126_149, x126_150, x126_152, x126_155, x126_156, x126_157, x126_158, x126_161, x126_162, x126_165, x126_166a, x126_166b, x126_166c, x126_167, x126_168, x126_170, x126_173, x126_176, x126_177, x126_179, x126_182, x126_185, x126_186, x126_189, x126_190a, x126_190b, x126_190c, x126_191, x126_192, x126_194, x126_197, x126_200, x126_201, x126_204, x126_207, x126_208, x126_211, x126_214, x126_215, x126_218, x126_219, x126_221, x126_224, x126_227, x126_228, x126_231, x126_234, x126_235, x126_236, x126_237a, x126_237b, x126_238, x126_241, x126_242, x126_243, x126_246, x126_247, x126_250, x126_251, x126_252, x126_255, x126_256, x126_258, x126_261, mzi, mInc, mne, mlt9, mrk, mI1, mI2, mI3, mI4, mL1, mL2, mL3, mL4, mQ1, mQ2, mQ3, mQ4, mT1, mcat0, mcat1, mcat2, mcat3, mcat4, mrf1, jK_v, jK_n, JA, mz1, if_true, if_false, ite_true, ite_false, eq_self, not_false_eq_true, Nat.zero_le, true_and, and_true, and_self, Nat.reduceMod, Nat.reduceAdd, Nat.reduceLeDiff, Nat.reduceEqDiff, Nat.reduceLT, hw, hsg22t, q0', hdeept, g8']
              rfl
            · have q0' := eq_false q0
              simp only [x126_0, x126_1, x126_3, x126_6, x126_9, x126_10, x126_12, x126_15, x126_16, x126_17, x126_18, x126_21, x126_24, x126_27, x126_28a, x126_28b, x126_29, x126_32, x126_33, x126_34, x126_37, x126_38, x126_39, x126_40, x126_42, x126_45, x126_48, x126_49, x126_51, x126_54, x126_57, x126_58, x126_59, x126_62, x126_63, x126_66, x126_67, x126_70, x126_71a, x126_71b, x126_72, x126_75, x126_76, x126_77, x126_80, x126_81, x126_82, x126_83, x126_85, x126_88, x126_91, x126_92, x126_94, x126_97, x126_98, x126_99, x126_101, x126_104, x126_107, x126_108, x126_110, x126_113, x126_114, x126_115, x126_117, x126_120, x126_123, x126_124, x126_127, x126_130, x126_131, x126_134, x126_137, x126_138, x126_139, x126_140a, x126_140b, x126_141, x126_144, x126_145, x126_146, x126_149, x126_150, x126_152, x126_155, x126_156, x126_157, x126_158, x126_161, x126_162, x126_165, x126_166a, x126_166b, x126_166c, x126_167, x126_168, x126_170, x126_173, x126_176, x126_177, x126_179, x126_182, x126_185, x126_186, x126_189, x126_190a, x126_190b, x126_190c, x126_191, x126_192, x126_194, x126_197, x126_200, x126_201, x126_204, x126_207, x126_208, x126_211, x126_214, x126_215, x126_218, x126_219, x126_221, x126_224, x126_227, x126_228, x126_231, x126_234, x126_235, x126_236, x126_237a, x126_237b, x126_238, x126_241, x126_242, x126_243, x126_246, x126_247, x126_250, x126_251, x126_252, x126_255, x126_256, x126_258, x126_261, mzi, mInc, mne, mlt9, mrk, mI1, mI2, mI3, mI4, mL1, mL2, mL3, mL4, mQ1, mQ2, mQ3, mQ4, mT1, mcat0, mcat1, mcat2, mcat3, mcat4, mrf1, jK_v, jK_n, JA, mz1, if_true, if_false, ite_true, ite_false, eq_self, not_false_eq_true, Nat.zero_le, true_and, and_true, and_self, Nat.reduceMod, Nat.reduceAdd, Nat.reduceLeDiff, Nat.reduceEqDiff, Nat.reduceLT, hw, hsg22t, q0']
              rfl
        · rw [if_neg a]
          refine ⟨ν, mPost_z (jRr_z hG), fun Q => ?_⟩
          have q20 : (kd i = 20) = False := eq_false fun h => a (Or.inl h)
          have q21 : (kd i = 21) = False := eq_false fun h => a (Or.inr h)
          have q38 : (kd i = 38) = False := eq_false a38
          have q12 : (kd i = 12) = False := eq_false a12
          have q13 : (kd i = 13) = False := eq_false a13
          have q14 : (kd i = 14) = False := eq_false a14
          have q15 : (kd i = 15) = False := eq_false a15
          have q29 : (kd i = 29) = False := eq_false a29
          have q22 : (kd i = 22) = False := eq_false a22
          simp only [x126_0, x126_1, x126_3, x126_6, x126_9, x126_10, x126_12, x126_15, x126_16, x126_17, x126_18, x126_21, x126_24, x126_27, x126_28a, x126_28b, x126_29, x126_32, x126_33, x126_34, x126_37, x126_38, x126_39, x126_40, x126_42, x126_45, x126_48, x126_49, x126_51, x126_54, x126_57, x126_58, x126_59, x126_62, x126_63, x126_66, x126_67, x126_70, x126_71a, x126_71b, x126_72, x126_75, x126_76, x126_77, x126_80, x126_81, x126_82, x126_83, x126_85, x126_88, x126_91, x126_92, x126_94, x126_97, x126_98, x126_99, x126_101, x126_104, x126_107, x126_108, x126_110, x126_113, x126_114, x126_115, x126_117, x126_120, x126_123, x126_124, x126_127, x126_130, x126_131, x126_134, x126_137, x126_138, x126_139, x126_140a, x126_140b, x126_141, x126_144, x126_145, x126_146, x126_149, x126_150, x126_152, x126_155, x126_156, x126_157, x126_158, x126_161, x126_162, x126_165, x126_166a, x126_166b, x126_166c, x126_167, x126_168, x126_170, x126_173, x126_176, x126_177, x126_179, x126_182, x126_185, x126_186, x126_189, x126_190a, x126_190b, x126_190c, x126_191, x126_192, x126_194, x126_197, x126_200, x126_201, x126_204, x126_207, x126_208, x126_211, x126_214, x126_215, x126_218, x126_219, x126_221, x126_224, x126_227, x126_228, x126_231, x126_234, x126_235, x126_236, x126_237a, x126_237b, x126_238, x126_241, x126_242, x126_243, x126_246, x126_247, x126_250, x126_251, x126_252, x126_255, x126_256, x126_258, x126_261, mzi, mInc, mne, mlt9, mrk, mI1, mI2, mI3, mI4, mL1, mL2, mL3, mL4, mQ1, mQ2, mQ3, mQ4, mT1, mcat0, mcat1, mcat2, mcat3, mcat4, mrf1, jK_v, jK_n, JA, mz1, if_true, if_false, ite_true, ite_false, eq_self, not_false_eq_true, Nat.zero_le, true_and, and_true, and_self, Nat.reduceMod, Nat.reduceAdd, Nat.reduceLeDiff, Nat.reduceEqDiff, Nat.reduceLT, hw, ht, ic, ij, hk, his38, his12, his13, his14, his15, hsg29, hea20, hea21, hsg22, q38, q12, q13, q14, q15, q29, q20, q21, q22]
          rfl
end GRM3
