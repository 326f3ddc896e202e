/-! THE PURE PART: values (class). -/
theorem swV : ∀ K, K < 42 → jsw [(4, 76), (5, 76), (6, 76), (7, 105), (8, 105), (9, 136), (10, 183), (11, 229), (12, 229)] 323 (jswm K) = if K = 38 ∨ K = 12 ∨ K = 13 then 76 else if K = 14 ∨ K = 15 then 105 else if K = 29 then 136 else if K = 22 then 183 else if K = 20 ∨ K = 21 then 229 else 323 := by decide +kernel
theorem swS : ∀ K, K < 42 → jsw [(1, 48), (2, 97), (3, 145)] 180 (jswm K) = if K = 17 then 48 else if K = 24 then 97 else if K = 16 then 145 else 180 := by decide +kernel
theorem cPost_em {μ ν : jM} {E l : List (Nat × Nat)} {K t j : Nat} (h : jGr μ ν j (E ++ l)) : cPost μ (kAdM ν (E ++ l).length K t) E (kBd (true, j, l) (kEm K t)) := ⟨fun _ => by
  have := jGr_add (K := K) (t := t) h
  rw [List.append_assoc] at this
  exact this, fun hh => Bool.noConfusion (show true = false from hh)⟩
section GRAM2
variable {μ : jM} {kd : Nat → Nat} {N f : Nat}
theorem c_gVal (h0 : jG0 μ kd N) (hv : cM μ kd N 61 [none, none] 1 0 f) (hs : cM μ kd N 59 [none, none, none] 3 4 f) : cM μ kd N 61 [none, none] 1 0 (f + 1) := by
  intro D i E ν d hD hG hi hE hf hd
  obtain ⟨d, rfl⟩ : ∃ d', d = d' + 5 := ⟨d - 5, by omega⟩
  have hT := h0.2.1
  have hN2 := hT.2.1
  have hw := jGr_w h0 hG
  unfold jWd at hw
  have hx := hG.2.1
  have hkk : ∀ (Q : jO → jM → Prop), (Ex (d + 4) 50 0 [some (.ref 194), some (.int (iN i))] [] ν Q ↔ Q (.inl (some (.ref (64 * kd i + 40)))) ν) := fun Q => c_kind h0 hG hi
  have m40 : ∀ x, (64 * x + 40) % 64 = 40 := fun x => by omega
  have d40 : ∀ x, (64 * x + 40) / 64 = x := fun x => by omega
  have hkd := hT.2.2.2.2 i
  have kc : (iN (kd i)).toNatClampNeg = kd i := iN_cl (by omega)
  have kj : jin (iN (kd i)) 42 = true := iN_in hkd (by omega)
  have l42 : ∀ μ, jln 42 μ = 42 := fun _ => rfl
  have t42 : jty 42 = 0 := rfl
  have r42 : ∀ k μ, jrdI 42 k μ = jswm k := fun _ _ => rfl
  have hsw := swV (kd i) hkd
  show ∃ ν', cPost μ ν' E (kV kd (kP kd f) D i) ∧ ∀ Q, (Ex (d + 5) 61 0 [some (.ref 1413), some (.int (iN D)), none, none] [] ν Q ↔ Q (.inl (some (.int (bif (kV kd (kP kd f) D i).1 then 1 else 0)))) ν')
  have hpre : ∀ Q, Ex (d + 5) 61 0 [some (.ref 1413), some (.int (iN D)), none, none] [] ν Q ↔ Ex (d + 5) 61 (jsw [(4, 76), (5, 76), (6, 76), (7, 105), (8, 105), (9, 136), (10, 183), (11, 229), (12, 229)] 323 (jswm (kd i))) [some (.ref 1413), some (.int (iN D)), some (.int (iN i)), some (.ref (64 * kd i + 40))] [] ν Q := by
    intro Q
    simp only [x61_0, x61_1, x61_4, x61_7a, x61_7b, x61_7c, x61_8, x61_9, x61_12, x61_13, x61_16a, x61_16b, x61_16c, x61_17, x61_20, x61_21, x61_24, x61_25, x61_76, x61_77, x61_80, x61_81, x61_84, x61_87, x61_88, x61_91, x61_92, x61_93, x61_96, x61_99, x61_100, x61_103, x61_104, x61_105, x61_106, x61_107, x61_110, x61_113, x61_116, x61_117, x61_120, x61_121, x61_122, x61_123, x61_124, x61_127, x61_130, x61_131, x61_134, x61_135, x61_136, x61_137, x61_139, x61_142, x61_143, x61_146, x61_147, x61_150, x61_153, x61_154, x61_155, x61_156, x61_157, x61_160, x61_163, x61_164, x61_167, x61_170, x61_171, x61_174, x61_177, x61_178, x61_181, x61_182, x61_183, x61_184, x61_186, x61_189, x61_190, x61_193, x61_194, x61_197, x61_200, x61_201, x61_202, x61_203, x61_204, x61_207, x61_210, x61_211, x61_214, x61_217, x61_220, x61_223, x61_224, x61_227, x61_228, x61_229, x61_230, x61_233, x61_234, x61_237, x61_240, x61_241, x61_243, x61_246, x61_247, x61_250, x61_253, x61_256, x61_259, x61_260, x61_261, x61_262, x61_263, x61_266, x61_269, x61_270, x61_273, x61_276, x61_279, x61_282, x61_283, x61_284, x61_285, x61_286, x61_289, x61_292, x61_293, x61_296, x61_299, x61_302, x61_305, x61_306, x61_309, x61_310, x61_311, x61_314, x61_317, x61_318, x61_321, x61_322, x61_323, x61_324, x57_0, x57_1, x57_4, mzi, mInc, mne, mlt9, mrk, mI1, mI2, mI3, mI4, mL1, mL2, mL3, mL4, mQ1, mQ2, mQ3, mQ4, mT1, mcat0, mcat1, mcat2, mcat3, mcat4, mrf1, jK_v, jK_n, JA, mz1, if_true, if_false, ite_true, ite_false, eq_self, not_false_eq_true, Nat.zero_le, true_and, and_true, and_self, Nat.reduceMod, Nat.reduceAdd, Nat.reduceLeDiff, Nat.reduceEqDiff, Nat.reduceLT, hw, hx, hkk, m40, d40, kc, kj, l42, t42, r42]
  have htk : ∀ (Q : jO → jM → Prop), (Ex (d + 4) 52 0 [some (.ref 194), some (.ref (64 * kd i + 40))] [] ν Q ↔ Q (.inl (some (.int 1))) (jsI ν 194 7 (iN (i + 1)))) := fun Q => by
    rw [c_take (d := d + 3) h0 hG hi, if_pos rfl]
  have hG1 := jGr_take (j := i + 1) hG
  have hd8 : (iN D < 8) = (D < 8) := propext ⟨fun h => (iN_lt (b := 8) (by omega) (by omega)).mp h, fun h => (iN_lt (b := 8) (by omega) (by omega)).mpr h⟩
  unfold kV
  by_cases a : kd i = 38 ∨ kd i = 12 ∨ kd i = 13
  · rw [if_pos a] at hsw ⊢
    have i1 := kTok_lt hT hi (by omega)
    have hadd : ∀ (Q : jO → jM → Prop), (Ex (d + 4) 58 0 [some (.ref 1156), some (.ref (64 * kd i + 40)), some (.int (iN i))] [] (jsI ν 194 7 (iN (i + 1))) Q ↔ Q (.inl (some (.int 1))) (kAdM (jsI ν 194 7 (iN (i + 1))) E.length (kd i) i)) := fun Q => c_add (K := kd i) (t := i) h0 hG1 (by omega)
    refine ⟨_, cPost_1 (jGr_add (K := kd i) (t := i) hG1), fun Q => ?_⟩
    rw [hpre, hsw]
    simp only [x61_0, x61_1, x61_4, x61_7a, x61_7b, x61_7c, x61_8, x61_9, x61_12, x61_13, x61_16a, x61_16b, x61_16c, x61_17, x61_20, x61_21, x61_24, x61_25, x61_76, x61_77, x61_80, x61_81, x61_84, x61_87, x61_88, x61_91, x61_92, x61_93, x61_96, x61_99, x61_100, x61_103, x61_104, x61_105, x61_106, x61_107, x61_110, x61_113, x61_116, x61_117, x61_120, x61_121, x61_122, x61_123, x61_124, x61_127, x61_130, x61_131, x61_134, x61_135, x61_136, x61_137, x61_139, x61_142, x61_143, x61_146, x61_147, x61_150, x61_153, x61_154, x61_155, x61_156, x61_157, x61_160, x61_163, x61_164, x61_167, x61_170, x61_171, x61_174, x61_177, x61_178, x61_181, x61_182, x61_183, x61_184, x61_186, x61_189, x61_190, x61_193, x61_194, x61_197, x61_200, x61_201, x61_202, x61_203, x61_204, x61_207, x61_210, x61_211, x61_214, x61_217, x61_220, x61_223, x61_224, x61_227, x61_228, x61_229, x61_230, x61_233, x61_234, x61_237, x61_240, x61_241, x61_243, x61_246, x61_247, x61_250, x61_253, x61_256, x61_259, x61_260, x61_261, x61_262, x61_263, x61_266, x61_269, x61_270, x61_273, x61_276, x61_279, x61_282, x61_283, x61_284, x61_285, x61_286, x61_289, x61_292, x61_293, x61_296, x61_299, x61_302, x61_305, x61_306, x61_309, x61_310, x61_311, x61_314, x61_317, x61_318, x61_321, x61_322, x61_323, x61_324, x57_0, x57_1, x57_4, mzi, mInc, mne, mlt9, mrk, mI1, mI2, mI3, mI4, mL1, mL2, mL3, mL4, mQ1, mQ2, mQ3, mQ4, mT1, mcat0, mcat1, mcat2, mcat3, mcat4, mrf1, jK_v, jK_n, JA, mz1, if_true, if_false, ite_true, ite_false, eq_self, not_false_eq_true, Nat.zero_le, true_and, and_true, and_self, Nat.reduceMod, Nat.reduceAdd, Nat.reduceLeDiff, Nat.reduceEqDiff, Nat.reduceLT, hw, htk, hadd, cond_true]
  · rw [if_neg a] at hsw ⊢
    by_cases a : kd i = 14 ∨ kd i = 15
    · rw [if_pos a] at hsw ⊢
      have i1 := kTok_lt hT hi (by omega)
      by_cases g : kd (i + 1) = 37
      · rw [if_pos g]
        have hbo : ∀ (Q : jO → jM → Prop), (Ex (d + 4) 53 0 [some (.ref 1413), some (.ref (64 * kd i + 40)), some (.ref 2408)] [] ν Q ↔ Q (.inl (some (.int 1))) (jsI (jsI ν 194 7 (iN (i + 1))) 194 7 (iN (i + 2)))) := fun Q => (c_both (d := d + 2) (K := kd i) (K' := 37) h0 hG hi (by omega)).trans (by rw [if_pos rfl, if_pos g])
        have hG2 := jGr_take (j := i + 2) hG1
        have hadd : ∀ (Q : jO → jM → Prop), (Ex (d + 4) 58 0 [some (.ref 1156), some (.ref (64 * kd i + 40)), some (.int (iN (i + 1)))] [] (jsI (jsI ν 194 7 (iN (i + 1))) 194 7 (iN (i + 2))) Q ↔ Q (.inl (some (.int 1))) (kAdM (jsI (jsI ν 194 7 (iN (i + 1))) 194 7 (iN (i + 2))) E.length (kd i) (i + 1))) := fun Q => c_add (K := kd i) (t := i + 1) h0 hG2 (by omega)
        refine ⟨_, cPost_1 (jGr_add (K := kd i) (t := i + 1) hG2), fun Q => ?_⟩
        rw [hpre, hsw]
        simp only [x61_0, x61_1, x61_4, x61_7a, x61_7b, x61_7c, x61_8, x61_9, x61_12, x61_13, x61_16a, x61_16b, x61_16c, x61_17, x61_20, x61_21, x61_24, x61_25, x61_76, x61_77, x61_80, x61_81, x61_84, x61_87, x61_88, x61_91, x61_92, x61_93, x61_96, x61_99, x61_100, x61_103, x61_104, x61_105, x61_106, x61_107, x61_110, x61_113, x61_116, x61_117, x61_120, x61_121, x61_122, x61_123, x61_124, x61_127, x61_130, x61_131, x61_134, x61_135, x61_136, x61_137, x61_139, x61_142, x61_143, x61_146, x61_147, x61_150, x61_153, x61_154, x61_155, x61_156, x61_157, x61_160, x61_163, x61_164, x61_167, x61_170, x61_171, x61_174, x61_177, x61_178, x61_181, x61_182, x61_183, x61_184, x61_186, x61_189, x61_190, x61_193, x61_194, x61_197, x61_200, x61_201, x61_202, x61_203, x61_204, x61_207, x61_210, x61_211, x61_214, x61_217, x61_220, x61_223, x61_224, x61_227, x61_228, x61_229, x61_230, x61_233, x61_234, x61_237, x61_240, x61_241, x61_243, x61_246, x61_247, x61_250, x61_253, x61_256, x61_259, x61_260, x61_261, x61_262, x61_263, x61_266, x61_269, x61_270, x61_273, x61_276, x61_279, x61_282, x61_283, x61_284, x61_285, x61_286, x61_289, x61_292, x61_293, x61_296, x61_299, x61_302, x61_305, x61_306, x61_309, x61_310, x61_311, x61_314, x61_317, x61_318, x61_321, x61_322, x61_323, x61_324, x57_0, x57_1, x57_4, mzi, mInc, mne, mlt9, mrk, mI1, mI2, mI3, mI4, mL1, mL2, mL3, mL4, mQ1, mQ2, mQ3, mQ4, mT1, mcat0, mcat1, mcat2, mcat3, mcat4, mrf1, jK_v, jK_n, JA, mz1, if_true, if_false, ite_true, ite_false, eq_self, not_false_eq_true, Nat.zero_le, true_and, and_true, and_self, Nat.reduceMod, Nat.reduceAdd, Nat.reduceLeDiff, Nat.reduceEqDiff, Nat.reduceLT, hw, hbo, hadd, cond_true]
      · rw [if_neg g]
        have hbo : ∀ (Q : jO → jM → Prop), (Ex (d + 4) 53 0 [some (.ref 1413), some (.ref (64 * kd i + 40)), some (.ref 2408)] [] ν Q ↔ Q (.inl (some (.int 0))) (jsI ν 194 7 (iN (i + 1)))) := fun Q => (c_both (d := d + 2) (K := kd i) (K' := 37) h0 hG hi (by omega)).trans (by rw [if_pos rfl, if_neg g])
        refine ⟨_, cPost_no hG1, fun Q => ?_⟩
        rw [hpre, hsw]
        simp only [x61_0, x61_1, x61_4, x61_7a, x61_7b, x61_7c, x61_8, x61_9, x61_12, x61_13, x61_16a, x61_16b, x61_16c, x61_17, x61_20, x61_21, x61_24, x61_25, x61_76, x61_77, x61_80, x61_81, x61_84, x61_87, x61_88, x61_91, x61_92, x61_93, x61_96, x61_99, x61_100, x61_103, x61_104, x61_105, x61_106, x61_107, x61_110, x61_113, x61_116, x61_117, x61_120, x61_121, x61_122, x61_123, x61_124, x61_127, x61_130, x61_131, x61_134, x61_135, x61_136, x61_137, x61_139, x61_142, x61_143, x61_146, x61_147, x61_150, x61_153, x61_154, x61_155, x61_156, x61_157, x61_160, x61_163, x61_164, x61_167, x61_170, x61_171, x61_174, x61_177, x61_178, x61_181, x61_182, x61_183, x61_184, x61_186, x61_189, x61_190, x61_193, x61_194, x61_197, x61_200, x61_201, x61_202, x61_203, x61_204, x61_207, x61_210, x61_211, x61_214, x61_217, x61_220, x61_223, x61_224, x61_227, x61_228, x61_229, x61_230, x61_233, x61_234, x61_237, x61_240, x61_241, x61_243, x61_246, x61_247, x61_250, x61_253, x61_256, x61_259, x61_260, x61_261, x61_262, x61_263, x61_266, x61_269, x61_270, x61_273, x61_276, x61_279, x61_282, x61_283, x61_284, x61_285, x61_286, x61_289, x61_292, x61_293, x61_296, x61_299, x61_302, x61_305, x61_306, x61_309, x61_310, x61_311, x61_314, x61_317, x61_318, x61_321, x61_322, x61_323, x61_324, x57_0, x57_1, x57_4, mzi, mInc, mne, mlt9, mrk, mI1, mI2, mI3, mI4, mL1, mL2, mL3, mL4, mQ1, mQ2, mQ3, mQ4, mT1, mcat0, mcat1, mcat2, mcat3, mcat4, mrf1, jK_v, jK_n, JA, mz1, if_true, if_false, ite_true, ite_false, eq_self, not_false_eq_true, Nat.zero_le, true_and, and_true, and_self, Nat.reduceMod, Nat.reduceAdd, Nat.reduceLeDiff, Nat.reduceEqDiff, Nat.reduceLT, hw, hbo]
        rfl
    · rw [if_neg a] at hsw ⊢
      by_cases a : kd i = 29
      · rw [if_pos a] at hsw ⊢
        have i1 := kTok_lt hT hi (by omega)
        by_cases g8 : D < 8
        · have g8' := eq_true g8
          rw [if_pos g8]
          obtain ⟨ν1, p1, e1⟩ := hv (D + 1) (i + 1) E _ (d + 4) (by omega) hG1 i1 (by omega) (by omega) (by omega)
          have bs := kP_b hT f 0 (D + 1) (i + 1) i1
          rw [if_neg (by decide)] at bs
          generalize kP kd f 0 (D + 1) (i + 1) = r at p1 e1 bs ⊢
          obtain ⟨ok, j, l⟩ := r
          cases ok with
          | true =>
            obtain ⟨bs1, bs2⟩ := bs
            obtain ⟨bs3, bs4⟩ := bs2 rfl
            dsimp only at bs1 bs3 bs4
            have hG2 : jGr μ ν1 j (E ++ l) := p1.1 rfl
            have hw1 := jGr_w h0 hG2
            unfold jWd at hw1
            have hadd : ∀ (Q : jO → jM → Prop), (Ex (d + 4) 58 0 [some (.ref 1156), some (.ref 2664), some (.int (iN i))] [] ν1 Q ↔ Q (.inl (some (.int 1))) (kAdM ν1 (E ++ l).length 41 i)) := fun Q => c_add (K := 41) (t := i) h0 hG2 (by rw [List.length_append]; omega)
            refine ⟨_, cPost_em (K := 41) (t := i) hG2, fun Q => ?_⟩
            rw [hpre, hsw]
            simp only [x61_0, x61_1, x61_4, x61_7a, x61_7b, x61_7c, x61_8, x61_9, x61_12, x61_13, x61_16a, x61_16b, x61_16c, x61_17, x61_20, x61_21, x61_24, x61_25, x61_76, x61_77, x61_80, x61_81, x61_84, x61_87, x61_88, x61_91, x61_92, x61_93, x61_96, x61_99, x61_100, x61_103, x61_104, x61_105, x61_106, x61_107, x61_110, x61_113, x61_116, x61_117, x61_120, x61_121, x61_122, x61_123, x61_124, x61_127, x61_130, x61_131, x61_134, x61_135, x61_136, x61_137, x61_139, x61_142, x61_143, x61_146, x61_147, x61_150, x61_153, x61_154, x61_155, x61_156, x61_157, x61_160, x61_163, x61_164, x61_167, x61_170, x61_171, x61_174, x61_177, x61_178, x61_181, x61_182, x61_183, x61_184, x61_186, x61_189, x61_190, x61_193, x61_194, x61_197, x61_200, x61_201, x61_202, x61_203, x61_204, x61_207, x61_210, x61_211, x61_214, x61_217, x61_220, x61_223, x61_224, x61_227, x61_228, x61_229, x61_230, x61_233, x61_234, x61_237, x61_240, x61_241, x61_243, x61_246, x61_247, x61_250, x61_253, x61_256, x61_259, x61_260, x61_261, x61_262, x61_263, x61_266, x61_269, x61_270, x61_273, x61_276, x61_279, x61_282, x61_283, x61_284, x61_285, x61_286, x61_289, x61_292, x61_293, x61_296, x61_299, x61_302, x61_305, x61_306, x61_309, x61_310, x61_311, x61_314, x61_317, x61_318, x61_321, x61_322, x61_323, x61_324, x57_0, x57_1, x57_4, mzi, mInc, mne, mlt9, mrk, mI1, mI2, mI3, mI4, mL1, mL2, mL3, mL4, mQ1, mQ2, mQ3, mQ4, mT1, mcat0, mcat1, mcat2, mcat3, mcat4, mrf1, jK_v, jK_n, JA, mz1, if_true, if_false, ite_true, ite_false, eq_self, not_false_eq_true, Nat.zero_le, true_and, and_true, and_self, Nat.reduceMod, Nat.reduceAdd, Nat.reduceLeDiff, Nat.reduceEqDiff, Nat.reduceLT, hw, hw1, htk, hd8, g8', e1, hadd, cond_true]
            rfl
          | false =>
            rw [kBd_f (r := (false, j, l)) rfl]
            refine ⟨ν1, cPost_f p1 rfl, fun Q => ?_⟩
            rw [hpre, hsw]
            simp only [x61_0, x61_1, x61_4, x61_7a, x61_7b, x61_7c, x61_8, x61_9, x61_12, x61_13, x61_16a, x61_16b, x61_16c, x61_17, x61_20, x61_21, x61_24, x61_25, x61_76, x61_77, x61_80, x61_81, x61_84, x61_87, x61_88, x61_91, x61_92, x61_93, x61_96, x61_99, x61_100, x61_103, x61_104, x61_105, x61_106, x61_107, x61_110, x61_113, x61_116, x61_117, x61_120, x61_121, x61_122, x61_123, x61_124, x61_127, x61_130, x61_131, x61_134, x61_135, x61_136, x61_137, x61_139, x61_142, x61_143, x61_146, x61_147, x61_150, x61_153, x61_154, x61_155, x61_156, x61_157, x61_160, x61_163, x61_164, x61_167, x61_170, x61_171, x61_174, x61_177, x61_178, x61_181, x61_182, x61_183, x61_184, x61_186, x61_189, x61_190, x61_193, x61_194, x61_197, x61_200, x61_201, x61_202, x61_203, x61_204, x61_207, x61_210, x61_211, x61_214, x61_217, x61_220, x61_223, x61_224, x61_227, x61_228, x61_229, x61_230, x61_233, x61_234, x61_237, x61_240, x61_241, x61_243, x61_246, x61_247, x61_250, x61_253, x61_256, x61_259, x61_260, x61_261, x61_262, x61_263, x61_266, x61_269, x61_270, x61_273, x61_276, x61_279, x61_282, x61_283, x61_284, x61_285, x61_286, x61_289, x61_292, x61_293, x61_296, x61_299, x61_302, x61_305, x61_306, x61_309, x61_310, x61_311, x61_314, x61_317, x61_318, x61_321, x61_322, x61_323, x61_324, x57_0, x57_1, x57_4, mzi, mInc, mne, mlt9, mrk, mI1, mI2, mI3, mI4, mL1, mL2, mL3, mL4, mQ1, mQ2, mQ3, mQ4, mT1, mcat0, mcat1, mcat2, mcat3, mcat4, mrf1, jK_v, jK_n, JA, mz1, if_true, if_false, ite_true, ite_false, eq_self, not_false_eq_true, Nat.zero_le, true_and, and_true, and_self, Nat.reduceMod, Nat.reduceAdd, Nat.reduceLeDiff, Nat.reduceEqDiff, Nat.reduceLT, hw, htk, hd8, g8', e1, cond_false]
        · have g8' := eq_false g8
          rw [if_neg g8]
          refine ⟨ν, cPost_no hG, fun Q => ?_⟩
          rw [hpre, hsw]
          simp only [x61_0, x61_1, x61_4, x61_7a, x61_7b, x61_7c, x61_8, x61_9, x61_12, x61_13, x61_16a, x61_16b, x61_16c, x61_17, x61_20, x61_21, x61_24, x61_25, x61_76, x61_77, x61_80, x61_81, x61_84, x61_87, x61_88, x61_91, x61_92, x61_93, x61_96, x61_99, x61_100, x61_103, x61_104, x61_105, x61_106, x61_107, x61_110, x61_113, x61_116, x61_117, x61_120, x61_121, x61_122, x61_123, x61_124, x61_127, x61_130, x61_131, x61_134, x61_135, x61_136, x61_137, x61_139, x61_142, x61_143, x61_146, x61_147, x61_150, x61_153, x61_154, x61_155, x61_156, x61_157, x61_160, x61_163, x61_164, x61_167, x61_170, x61_171, x61_174, x61_177, x61_178, x61_181, x61_182, x61_183, x61_184, x61_186, x61_189, x61_190, x61_193, x61_194, x61_197, x61_200, x61_201, x61_202, x61_203, x61_204, x61_207, x61_210, x61_211, x61_214, x61_217, x61_220, x61_223, x61_224, x61_227, x61_228, x61_229, x61_230, x61_233, x61_234, x61_237, x61_240, x61_241, x61_243, x61_246, x61_247, x61_250, x61_253, x61_256, x61_259, x61_260, x61_261, x61_262, x61_263, x61_266, x61_269, x61_270, x61_273, x61_276, x61_279, x61_282, x61_283, x61_284, x61_285, x61_286, x61_289, x61_292, x61_293, x61_296, x61_299, x61_302, x61_305, x61_306, x61_309, x61_310, x61_311, x61_314, x61_317, x61_318, x61_321, x61_322, x61_323, x61_324, x57_0, x57_1, x57_4, mzi, mInc, mne, mlt9, mrk, mI1, mI2, mI3, mI4, mL1, mL2, mL3, mL4, mQ1, mQ2, mQ3, mQ4, mT1, mcat0, mcat1, mcat2, mcat3, mcat4, mrf1, jK_v, jK_n, JA, mz1, if_true, if_false, ite_true, ite_false, eq_self, not_false_eq_true, Nat.zero_le, true_and, and_true, and_self, Nat.reduceMod, Nat.reduceAdd, Nat.reduceLeDiff, Nat.reduceEqDiff, Nat.reduceLT, hw, hd8, g8']
          rfl
      · rw [if_neg a] at hsw ⊢
        by_cases a : kd i = 22
        · rw [if_pos a] at hsw ⊢
          have i1 := kTok_lt hT hi (by omega)
          by_cases g8 : D < 8
          · have g8' := eq_true g8
            rw [if_pos g8]
            obtain ⟨ν1, p1, e1⟩ := hs (D + 1) (i + 1) E _ (d + 4) (by omega) hG1 i1 (by omega) (by omega) (by omega)
            have bs := kP_b hT f 4 (D + 1) (i + 1) i1
            rw [if_neg (by decide)] at bs
            generalize kP kd f 4 (D + 1) (i + 1) = r at p1 e1 bs ⊢
            obtain ⟨ok, j, l⟩ := r
            cases ok with
            | true =>
              obtain ⟨bs1, bs2⟩ := bs
              dsimp only at bs1
              have hG2 : jGr μ ν1 j (E ++ l) := p1.1 rfl
              have hw1 := jGr_w h0 hG2
              unfold jWd at hw1
              have hcl : ∀ (Q : jO → jM → Prop), (Ex (d + 4) 52 0 [some (.ref 194), some (.ref 1512)] [] ν1 Q ↔ if kd j = 23 then Q (.inl (some (.int 1))) (jsI ν1 194 7 (iN (j + 1))) else Q (.inl (some (.int 0))) ν1) := fun Q => c_take (d := d + 3) (K := 23) h0 hG2 bs1
              have ev : kBd (true, j, l) (kT1 kd 23) = if kd j = 23 then (true, j + 1, l) else (false, j, l) := by
                unfold kT1 kBd
                by_cases q : kd j = 23
                · simp only [if_true, if_pos q, List.append_nil]
                · simp only [if_true, if_neg q, List.append_nil]
              rw [ev]
              by_cases q : kd j = 23
              · have q' := eq_true q
                rw [if_pos q]
                refine ⟨_, cPost_1 (jGr_take (j := j + 1) hG2), fun Q => ?_⟩
                rw [hpre, hsw]
                simp only [x61_0, x61_1, x61_4, x61_7a, x61_7b, x61_7c, x61_8, x61_9, x61_12, x61_13, x61_16a, x61_16b, x61_16c, x61_17, x61_20, x61_21, x61_24, x61_25, x61_76, x61_77, x61_80, x61_81, x61_84, x61_87, x61_88, x61_91, x61_92, x61_93, x61_96, x61_99, x61_100, x61_103, x61_104, x61_105, x61_106, x61_107, x61_110, x61_113, x61_116, x61_117, x61_120, x61_121, x61_122, x61_123, x61_124, x61_127, x61_130, x61_131, x61_134, x61_135, x61_136, x61_137, x61_139, x61_142, x61_143, x61_146, x61_147, x61_150, x61_153, x61_154, x61_155, x61_156, x61_157, x61_160, x61_163, x61_164, x61_167, x61_170, x61_171, x61_174, x61_177, x61_178, x61_181, x61_182, x61_183, x61_184, x61_186, x61_189, x61_190, x61_193, x61_194, x61_197, x61_200, x61_201, x61_202, x61_203, x61_204, x61_207, x61_210, x61_211, x61_214, x61_217, x61_220, x61_223, x61_224, x61_227, x61_228, x61_229, x61_230, x61_233, x61_234, x61_237, x61_240, x61_241, x61_243, x61_246, x61_247, x61_250, x61_253, x61_256, x61_259, x61_260, x61_261, x61_262, x61_263, x61_266, x61_269, x61_270, x61_273, x61_276, x61_279, x61_282, x61_283, x61_284, x61_285, x61_286, x61_289, x61_292, x61_293, x61_296, x61_299, x61_302, x61_305, x61_306, x61_309, x61_310, x61_311, x61_314, x61_317, x61_318, x61_321, x61_322, x61_323, x61_324, x57_0, x57_1, x57_4, mzi, mInc, mne, mlt9, mrk, mI1, mI2, mI3, mI4, mL1, mL2, mL3, mL4, mQ1, mQ2, mQ3, mQ4, mT1, mcat0, mcat1, mcat2, mcat3, mcat4, mrf1, jK_v, jK_n, JA, mz1, if_true, if_false, ite_true, ite_false, eq_self, not_false_eq_true, Nat.zero_le, true_and, and_true, and_self, Nat.reduceMod, Nat.reduceAdd, Nat.reduceLeDiff, Nat.reduceEqDiff, Nat.reduceLT, hw, hw1, htk, hd8, g8', e1, hcl, q', cond_true]
              · have q' := eq_false q
                rw [if_neg q]
                refine ⟨ν1, ⟨fun hh => Bool.noConfusion (show false = true from hh), fun _ => ⟨hG2.1, hG2.2.1⟩⟩, fun Q => ?_⟩
                rw [hpre, hsw]
                simp only [x61_0, x61_1, x61_4, x61_7a, x61_7b, x61_7c, x61_8, x61_9, x61_12, x61_13, x61_16a, x61_16b, x61_16c, x61_17, x61_20, x61_21, x61_24, x61_25, x61_76, x61_77, x61_80, x61_81, x61_84, x61_87, x61_88, x61_91, x61_92, x61_93, x61_96, x61_99, x61_100, x61_103, x61_104, x61_105, x61_106, x61_107, x61_110, x61_113, x61_116, x61_117, x61_120, x61_121, x61_122, x61_123, x61_124, x61_127, x61_130, x61_131, x61_134, x61_135, x61_136, x61_137, x61_139, x61_142, x61_143, x61_146, x61_147, x61_150, x61_153, x61_154, x61_155, x61_156, x61_157, x61_160, x61_163, x61_164, x61_167, x61_170, x61_171, x61_174, x61_177, x61_178, x61_181, x61_182, x61_183, x61_184, x61_186, x61_189, x61_190, x61_193, x61_194, x61_197, x61_200, x61_201, x61_202, x61_203, x61_204, x61_207, x61_210, x61_211, x61_214, x61_217, x61_220, x61_223, x61_224, x61_227, x61_228, x61_229, x61_230, x61_233, x61_234, x61_237, x61_240, x61_241, x61_243, x61_246, x61_247, x61_250, x61_253, x61_256, x61_259, x61_260, x61_261, x61_262, x61_263, x61_266, x61_269, x61_270, x61_273, x61_276, x61_279, x61_282, x61_283, x61_284, x61_285, x61_286, x61_289, x61_292, x61_293, x61_296, x61_299, x61_302, x61_305, x61_306, x61_309, x61_310, x61_311, x61_314, x61_317, x61_318, x61_321, x61_322, x61_323, x61_324, x57_0, x57_1, x57_4, mzi, mInc, mne, mlt9, mrk, mI1, mI2, mI3, mI4, mL1, mL2, mL3, mL4, mQ1, mQ2, mQ3, mQ4, mT1, mcat0, mcat1, mcat2, mcat3, mcat4, mrf1, jK_v, jK_n, JA, mz1, if_true, if_false, ite_true, ite_false, eq_self, not_false_eq_true, Nat.zero_le, true_and, and_true, and_self, Nat.reduceMod, Nat.reduceAdd, Nat.reduceLeDiff, Nat.reduceEqDiff, Nat.reduceLT, hw, hw1, htk, hd8, g8', e1, hcl, q', cond_true, cond_false]
            | false =>
              rw [kBd_f (r := (false, j, l)) rfl]
              refine ⟨ν1, cPost_f p1 rfl, fun Q => ?_⟩
              rw [hpre, hsw]
              simp only [x61_0, x61_1, x61_4, x61_7a, x61_7b, x61_7c, x61_8, x61_9, x61_12, x61_13, x61_16a, x61_16b, x61_16c, x61_17, x61_20, x61_21, x61_24, x61_25, x61_76, x61_77, x61_80, x61_81, x61_84, x61_87, x61_88, x61_91, x61_92, x61_93, x61_96, x61_99, x61_100, x61_103, x61_104, x61_105, x61_106, x61_107, x61_110, x61_113, x61_116, x61_117, x61_120, x61_121, x61_122, x61_123, x61_124, x61_127, x61_130, x61_131, x61_134, x61_135, x61_136, x61_137, x61_139, x61_142, x61_143, x61_146, x61_147, x61_150, x61_153, x61_154, x61_155, x61_156, x61_157, x61_160, x61_163, x61_164, x61_167, x61_170, x61_171, x61_174, x61_177, x61_178, x61_181, x61_182, x61_183, x61_184, x61_186, x61_189, x61_190, x61_193, x61_194, x61_197, x61_200, x61_201, x61_202, x61_203, x61_204, x61_207, x61_210, x61_211, x61_214, x61_217, x61_220, x61_223, x61_224, x61_227, x61_228, x61_229, x61_230, x61_233, x61_234, x61_237, x61_240, x61_241, x61_243, x61_246, x61_247, x61_250, x61_253, x61_256, x61_259, x61_260, x61_261, x61_262, x61_263, x61_266, x61_269, x61_270, x61_273, x61_276, x61_279, x61_282, x61_283, x61_284, x61_285, x61_286, x61_289, x61_292, x61_293, x61_296, x61_299, x61_302, x61_305, x61_306, x61_309, x61_310, x61_311, x61_314, x61_317, x61_318, x61_321, x61_322, x61_323, x61_324, x57_0, x57_1, x57_4, mzi, mInc, mne, mlt9, mrk, mI1, mI2, mI3, mI4, mL1, mL2, mL3, mL4, mQ1, mQ2, mQ3, mQ4, mT1, mcat0, mcat1, mcat2, mcat3, mcat4, mrf1, jK_v, jK_n, JA, mz1, if_true, if_false, ite_true, ite_false, eq_self, not_false_eq_true, Nat.zero_le, true_and, and_true, and_self, Nat.reduceMod, Nat.reduceAdd, Nat.reduceLeDiff, Nat.reduceEqDiff, Nat.reduceLT, hw, htk, hd8, g8', e1, cond_false]
          · have g8' := eq_false g8
            rw [if_neg g8]
            refine ⟨ν, cPost_no hG, fun Q => ?_⟩
            rw [hpre, hsw]
            simp only [x61_0, x61_1, x61_4, x61_7a, x61_7b, x61_7c, x61_8, x61_9, x61_12, x61_13, x61_16a, x61_16b, x61_16c, x61_17, x61_20, x61_21, x61_24, x61_25, x61_76, x61_77, x61_80, x61_81, x61_84, x61_87, x61_88, x61_91, x61_92, x61_93, x61_96, x61_99, x61_100, x61_103, x61_104, x61_105, x61_106, x61_107, x61_110, x61_113, x61_116, x61_117, x61_120, x61_121, x61_122, x61_123, x61_124, x61_127, x61_130, x61_131, x61_134, x61_135, x61_136, x61_137, x61_139, x61_142, x61_143, x61_146, x61_147, x61_150, x61_153, x61_154, x61_155, x61_156, x61_157, x61_160, x61_163, x61_164, x61_167, x61_170, x61_171, x61_174, x61_177, x61_178, x61_181, x61_182, x61_183, x61_184, x61_186, x61_189, x61_190, x61_193, x61_194, x61_197, x61_200, x61_201, x61_202, x61_203, x61_204, x61_207, x61_210, x61_211, x61_214, x61_217, x61_220, x61_223, x61_224, x61_227, x61_228, x61_229, x61_230, x61_233, x61_234, x61_237, x61_240, x61_241, x61_243, x61_246, x61_247, x61_250, x61_253, x61_256, x61_259, x61_260, x61_261, x61_262, x61_263, x61_266, x61_269, x61_270, x61_273, x61_276, x61_279, x61_282, x61_283, x61_284, x61_285, x61_286, x61_289, x61_292, x61_293, x61_296, x61_299, x61_302, x61_305, x61_306, x61_309, x61_310, x61_311, x61_314, x61_317, x61_318, x61_321, x61_322, x61_323, x61_324, x57_0, x57_1, x57_4, mzi, mInc, mne, mlt9, mrk, mI1, mI2, mI3, mI4, mL1, mL2, mL3, mL4, mQ1, mQ2, mQ3, mQ4, mT1, mcat0, mcat1, mcat2, mcat3, mcat4, mrf1, jK_v, jK_n, JA, mz1, if_true, if_false, ite_true, ite_false, eq_self, not_false_eq_true, Nat.zero_le, true_and, and_true, and_self, Nat.reduceMod, Nat.reduceAdd, Nat.reduceLeDiff, Nat.reduceEqDiff, Nat.reduceLT, hw, hd8, g8']
            rfl
        · rw [if_neg a] at hsw ⊢
          by_cases a : kd i = 20 ∨ kd i = 21
          · rw [if_pos a] at hsw ⊢
            have i1 := kTok_lt hT hi (by omega)
            by_cases g8 : D < 8
            · have g8' := eq_true g8
              rw [if_pos g8]
              have hop : ∀ (Q : jO → jM → Prop), (Ex (d + 4) 52 0 [some (.ref 194), some (.ref 1448)] [] (jsI ν 194 7 (iN (i + 1))) Q ↔ if kd (i + 1) = 22 then Q (.inl (some (.int 1))) (jsI (jsI ν 194 7 (iN (i + 1))) 194 7 (iN (i + 1 + 1))) else Q (.inl (some (.int 0))) (jsI ν 194 7 (iN (i + 1)))) := fun Q => c_take (d := d + 3) (K := 22) h0 hG1 i1
              by_cases q0 : kd (i + 1) = 22
              · have q0' := eq_true q0
                rw [if_pos q0]
                have i2 := kTok_lt hT i1 (by omega)
                have hG2 := jGr_take (j := i + 1 + 1) hG1
                obtain ⟨ν1, p1, e1⟩ := hs (D + 1) (i + 2) E _ (d + 4) (by omega) hG2 i2 (by omega) (by omega) (by omega)
                have bs := kP_b hT f 4 (D + 1) (i + 2) i2
                rw [if_neg (by decide)] at bs
                generalize kP kd f 4 (D + 1) (i + 2) = r at p1 e1 bs ⊢
                obtain ⟨ok, j, l⟩ := r
                cases ok with
                | false =>
                  rw [kBd_f (r := kBd (kBd (kBd (false, j, l) (kT1 kd 27)) (kP kd f 4 (D + 1))) (kT1 kd 23)) rfl]
                  rw [kBd_f (r := kBd (kBd (false, j, l) (kT1 kd 27)) (kP kd f 4 (D + 1))) rfl, kBd_f (r := kBd (false, j, l) (kT1 kd 27)) rfl, kBd_f (r := (false, j, l)) rfl]
                  refine ⟨ν1, cPost_f p1 rfl, fun Q => ?_⟩
                  rw [hpre, hsw]
                  simp only [x61_0, x61_1, x61_4, x61_7a, x61_7b, x61_7c, x61_8, x61_9, x61_12, x61_13, x61_16a, x61_16b, x61_16c, x61_17, x61_20, x61_21, x61_24, x61_25, x61_76, x61_77, x61_80, x61_81, x61_84, x61_87, x61_88, x61_91, x61_92, x61_93, x61_96, x61_99, x61_100, x61_103, x61_104, x61_105, x61_106, x61_107, x61_110, x61_113, x61_116, x61_117, x61_120, x61_121, x61_122, x61_123, x61_124, x61_127, x61_130, x61_131, x61_134, x61_135, x61_136, x61_137, x61_139, x61_142, x61_143, x61_146, x61_147, x61_150, x61_153, x61_154, x61_155, x61_156, x61_157, x61_160, x61_163, x61_164, x61_167, x61_170, x61_171, x61_174, x61_177, x61_178, x61_181, x61_182, x61_183, x61_184, x61_186, x61_189, x61_190, x61_193, x61_194, x61_197, x61_200, x61_201, x61_202, x61_203, x61_204, x61_207, x61_210, x61_211, x61_214, x61_217, x61_220, x61_223, x61_224, x61_227, x61_228, x61_229, x61_230, x61_233, x61_234, x61_237, x61_240, x61_241, x61_243, x61_246, x61_247, x61_250, x61_253, x61_256, x61_259, x61_260, x61_261, x61_262, x61_263, x61_266, x61_269, x61_270, x61_273, x61_276, x61_279, x61_282, x61_283, x61_284, x61_285, x61_286, x61_289, x61_292, x61_293, x61_296, x61_299, x61_302, x61_305, x61_306, x61_309, x61_310, x61_311, x61_314, x61_317, x61_318, x61_321, x61_322, x61_323, x61_324, x57_0, x57_1, x57_4, mzi, mInc, mne, mlt9, mrk, mI1, mI2, mI3, mI4, mL1, mL2, mL3, mL4, mQ1, mQ2, mQ3, mQ4, mT1, mcat0, mcat1, mcat2, mcat3, mcat4, mrf1, jK_v, jK_n, JA, mz1, if_true, if_false, ite_true, ite_false, eq_self, not_false_eq_true, Nat.zero_le, true_and, and_true, and_self, Nat.reduceMod, Nat.reduceAdd, Nat.reduceLeDiff, Nat.reduceEqDiff, Nat.reduceLT, hw, htk, hd8, g8', hop, q0', e1, cond_false]
                | true =>
                  obtain ⟨bs1, bs2⟩ := bs
                  obtain ⟨bs3, bs4⟩ := bs2 rfl
                  dsimp only at bs1 bs3 bs4
                  have hG3 : jGr μ ν1 j (E ++ l) := p1.1 rfl
                  have hw1 := jGr_w h0 hG3
                  unfold jWd at hw1
                  have hco : ∀ (Q : jO → jM → Prop), (Ex (d + 4) 52 0 [some (.ref 194), some (.ref 1768)] [] ν1 Q ↔ if kd j = 27 then Q (.inl (some (.int 1))) (jsI ν1 194 7 (iN (j + 1))) else Q (.inl (some (.int 0))) ν1) := fun Q => c_take (d := d + 3) (K := 27) h0 hG3 bs1
                  have ev1 : kBd (true, j, l) (kT1 kd 27) = if kd j = 27 then (true, j + 1, l) else (false, j, l) := by
                    unfold kT1 kBd
                    by_cases q : kd j = 27
                    · simp only [if_true, if_pos q, List.append_nil]
                    · simp only [if_true, if_neg q, List.append_nil]
                  rw [ev1]
                  by_cases q1 : kd j = 27
                  · have q1' := eq_true q1
                    rw [if_pos q1]
                    have j1 := kTok_lt hT bs1 (by omega)
                    have hG4 := jGr_take (j := j + 1) hG3
                    obtain ⟨ν2, p2, e2⟩ := hs (D + 1) (j + 1) (E ++ l) _ (d + 4) (by omega) hG4 j1 (by rw [List.length_append]; omega) (by omega) (by omega)
                    have bt := kP_b hT f 4 (D + 1) (j + 1) j1
                    rw [if_neg (by decide)] at bt
                    have ev2 : kBd (true, j + 1, l) (kP kd f 4 (D + 1)) = ((kP kd f 4 (D + 1) (j + 1)).1, (kP kd f 4 (D + 1) (j + 1)).2.1, l ++ (kP kd f 4 (D + 1) (j + 1)).2.2) := rfl
                    rw [ev2]
                    generalize kP kd f 4 (D + 1) (j + 1) = r2 at p2 e2 bt ⊢
                    obtain ⟨ok2, k, l2⟩ := r2
                    cases ok2 with
                    | false =>
                      rw [kBd_f (r := kBd (false, k, l ++ l2) (kT1 kd 23)) rfl, kBd_f (r := (false, k, l ++ l2)) rfl]
                      refine ⟨ν2, ⟨fun hh => Bool.noConfusion (show false = true from hh), fun _ => p2.2 rfl⟩, fun Q => ?_⟩
                      rw [hpre, hsw]
                      simp only [x61_0, x61_1, x61_4, x61_7a, x61_7b, x61_7c, x61_8, x61_9, x61_12, x61_13, x61_16a, x61_16b, x61_16c, x61_17, x61_20, x61_21, x61_24, x61_25, x61_76, x61_77, x61_80, x61_81, x61_84, x61_87, x61_88, x61_91, x61_92, x61_93, x61_96, x61_99, x61_100, x61_103, x61_104, x61_105, x61_106, x61_107, x61_110, x61_113, x61_116, x61_117, x61_120, x61_121, x61_122, x61_123, x61_124, x61_127, x61_130, x61_131, x61_134, x61_135, x61_136, x61_137, x61_139, x61_142, x61_143, x61_146, x61_147, x61_150, x61_153, x61_154, x61_155, x61_156, x61_157, x61_160, x61_163, x61_164, x61_167, x61_170, x61_171, x61_174, x61_177, x61_178, x61_181, x61_182, x61_183, x61_184, x61_186, x61_189, x61_190, x61_193, x61_194, x61_197, x61_200, x61_201, x61_202, x61_203, x61_204, x61_207, x61_210, x61_211, x61_214, x61_217, x61_220, x61_223, x61_224, x61_227, x61_228, x61_229, x61_230, x61_233, x61_234, x61_237, x61_240, x61_241, x61_243, x61_246, x61_247, x61_250, x61_253, x61_256, x61_259, x61_260, x61_261, x61_262, x61_263, x61_266, x61_269, x61_270, x61_273, x61_276, x61_279, x61_282, x61_283, x61_284, x61_285, x61_286, x61_289, x61_292, x61_293, x61_296, x61_299, x61_302, x61_305, x61_306, x61_309, x61_310, x61_311, x61_314, x61_317, x61_318, x61_321, x61_322, x61_323, x61_324, x57_0, x57_1, x57_4, mzi, mInc, mne, mlt9, mrk, mI1, mI2, mI3, mI4, mL1, mL2, mL3, mL4, mQ1, mQ2, mQ3, mQ4, mT1, mcat0, mcat1, mcat2, mcat3, mcat4, mrf1, jK_v, jK_n, JA, mz1, if_true, if_false, ite_true, ite_false, eq_self, not_false_eq_true, Nat.zero_le, true_and, and_true, and_self, Nat.reduceMod, Nat.reduceAdd, Nat.reduceLeDiff, Nat.reduceEqDiff, Nat.reduceLT, hw, hw1, htk, hd8, g8', hop, q0', e1, hco, q1', e2, cond_true, cond_false]
                    | true =>
                      obtain ⟨bt1, bt2⟩ := bt
                      obtain ⟨bt3, bt4⟩ := bt2 rfl
                      dsimp only at bt1 bt3 bt4
                      have hG5 : jGr μ ν2 k (E ++ (l ++ l2)) := by
                        have := p2.1 rfl
                        rw [List.append_assoc] at this
                        exact this
                      have hw2 := jGr_w h0 hG5
                      unfold jWd at hw2
                      have hcl : ∀ (Q : jO → jM → Prop), (Ex (d + 4) 52 0 [some (.ref 194), some (.ref 1512)] [] ν2 Q ↔ if kd k = 23 then Q (.inl (some (.int 1))) (jsI ν2 194 7 (iN (k + 1))) else Q (.inl (some (.int 0))) ν2) := fun Q => c_take (d := d + 3) (K := 23) h0 hG5 bt1
                      have ev3 : kBd (true, k, l ++ l2) (kT1 kd 23) = if kd k = 23 then (true, k + 1, l ++ l2) else (false, k, l ++ l2) := by
                        unfold kT1 kBd
                        by_cases q : kd k = 23
                        · simp only [if_true, if_pos q, List.append_nil]
                        · simp only [if_true, if_neg q, List.append_nil]
                      dsimp only
                      rw [ev3]
                      by_cases q2 : kd k = 23
                      · have q2' := eq_true q2
                        rw [if_pos q2]
                        have hG6 := jGr_take (j := k + 1) hG5
                        have k1 := kTok_lt hT bt1 (by omega)
                        have hadd : ∀ (Q : jO → jM → Prop), (Ex (d + 4) 58 0 [some (.ref 1156), some (.ref (64 * kd i + 40)), some (.int (iN i))] [] (jsI ν2 194 7 (iN (k + 1))) Q ↔ Q (.inl (some (.int 1))) (kAdM (jsI ν2 194 7 (iN (k + 1))) (E ++ (l ++ l2)).length (kd i) i)) := fun Q => c_add (K := kd i) (t := i) h0 hG6 (by rw [List.length_append, List.length_append]; omega)
                        refine ⟨_, cPost_em (K := kd i) (t := i) hG6, fun Q => ?_⟩
                        rw [hpre, hsw]
                        simp only [x61_0, x61_1, x61_4, x61_7a, x61_7b, x61_7c, x61_8, x61_9, x61_12, x61_13, x61_16a, x61_16b, x61_16c, x61_17, x61_20, x61_21, x61_24, x61_25, x61_76, x61_77, x61_80, x61_81, x61_84, x61_87, x61_88, x61_91, x61_92, x61_93, x61_96, x61_99, x61_100, x61_103, x61_104, x61_105, x61_106, x61_107, x61_110, x61_113, x61_116, x61_117, x61_120, x61_121, x61_122, x61_123, x61_124, x61_127, x61_130, x61_131, x61_134, x61_135, x61_136, x61_137, x61_139, x61_142, x61_143, x61_146, x61_147, x61_150, x61_153, x61_154, x61_155, x61_156, x61_157, x61_160, x61_163, x61_164, x61_167, x61_170, x61_171, x61_174, x61_177, x61_178, x61_181, x61_182, x61_183, x61_184, x61_186, x61_189, x61_190, x61_193, x61_194, x61_197, x61_200, x61_201, x61_202, x61_203, x61_204, x61_207, x61_210, x61_211, x61_214, x61_217, x61_220, x61_223, x61_224, x61_227, x61_228, x61_229, x61_230, x61_233, x61_234, x61_237, x61_240, x61_241, x61_243, x61_246, x61_247, x61_250, x61_253, x61_256, x61_259, x61_260, x61_261, x61_262, x61_263, x61_266, x61_269, x61_270, x61_273, x61_276, x61_279, x61_282, x61_283, x61_284, x61_285, x61_286, x61_289, x61_292, x61_293, x61_296, x61_299, x61_302, x61_305, x61_306, x61_309, x61_310, x61_311, x61_314, x61_317, x61_318, x61_321, x61_322, x61_323, x61_324, x57_0, x57_1, x57_4, mzi, mInc, mne, mlt9, mrk, mI1, mI2, mI3, mI4, mL1, mL2, mL3, mL4, mQ1, mQ2, mQ3, mQ4, mT1, mcat0, mcat1, mcat2, mcat3, mcat4, mrf1, jK_v, jK_n, JA, mz1, if_true, if_false, ite_true, ite_false, eq_self, not_false_eq_true, Nat.zero_le, true_and, and_true, and_self, Nat.reduceMod, Nat.reduceAdd, Nat.reduceLeDiff, Nat.reduceEqDiff, Nat.reduceLT, hw, hw1, hw2, htk, hd8, g8', hop, q0', e1, hco, q1', e2, hcl, q2', hadd, cond_true]
                        rfl
                      · have q2' := eq_false q2
                        rw [if_neg q2, kBd_f (r := (false, k, l ++ l2)) rfl]
                        refine ⟨ν2, ⟨fun hh => Bool.noConfusion (show false = true from hh), fun _ => ⟨hG5.1, hG5.2.1⟩⟩, fun Q => ?_⟩
                        rw [hpre, hsw]
                        simp only [x61_0, x61_1, x61_4, x61_7a, x61_7b, x61_7c, x61_8, x61_9, x61_12, x61_13, x61_16a, x61_16b, x61_16c, x61_17, x61_20, x61_21, x61_24, x61_25, x61_76, x61_77, x61_80, x61_81, x61_84, x61_87, x61_88, x61_91, x61_92, x61_93, x61_96, x61_99, x61_100, x61_103, x61_104, x61_105, x61_106, x61_107, x61_110, x61_113, x61_116, x61_117, x61_120, x61_121, x61_122, x61_123, x61_124, x61_127, x61_130, x61_131, x61_134, x61_135, x61_136, x61_137, x61_139, x61_142, x61_143, x61_146, x61_147, x61_150, x61_153, x61_154, x61_155, x61_156, x61_157, x61_160, x61_163, x61_164, x61_167, x61_170, x61_171, x61_174, x61_177, x61_178, x61_181, x61_182, x61_183, x61_184, x61_186, x61_189, x61_190, x61_193, x61_194, x61_197, x61_200, x61_201, x61_202, x61_203, x61_204, x61_207, x61_210, x61_211, x61_214, x61_217, x61_220, x61_223, x61_224, x61_227, x61_228, x61_229, x61_230, x61_233, x61_234, x61_237, x61_240, x61_241, x61_243, x61_246, x61_247, x61_250, x61_253, x61_256, x61_259, x61_260, x61_261, x61_262, x61_263, x61_266, x61_269, x61_270, x61_273, x61_276, x61_279, x61_282, x61_283, x61_284, x61_285, x61_286, x61_289, x61_292, x61_293, x61_296, x61_299, x61_302, x61_305, x61_306, x61_309, x61_310, x61_311, x61_314, x61_317, x61_318, x61_321, x61_322, x61_323, x61_324, x57_0, x57_1, x57_4, mzi, mInc, mne, mlt9, mrk, mI1, mI2, mI3, mI4, mL1, mL2, mL3, mL4, mQ1, mQ2, mQ3, mQ4, mT1, mcat0, mcat1, mcat2, mcat3, mcat4, mrf1, jK_v, jK_n, JA, mz1, if_true, if_false, ite_true, ite_false, eq_self, not_false_eq_true, Nat.zero_le, true_and, and_true, and_self, Nat.reduceMod, Nat.reduceAdd, Nat.reduceLeDiff, Nat.reduceEqDiff, Nat.reduceLT, hw, hw1, hw2, htk, hd8, g8', hop, q0', e1, hco, q1', e2, hcl, q2', cond_true, cond_false]
                  · have q1' := eq_false q1
                    rw [if_neg q1, kBd_f (r := kBd (kBd (false, j, l) (kP kd f 4 (D + 1))) (kT1 kd 23)) rfl, kBd_f (r := kBd (false, j, l) (kP kd f 4 (D + 1))) rfl, kBd_f (r := (false, j, l)) rfl]
                    refine ⟨ν1, ⟨fun hh => Bool.noConfusion (show false = true from hh), fun _ => ⟨hG3.1, hG3.2.1⟩⟩, fun Q => ?_⟩
                    rw [hpre, hsw]
                    simp only [x61_0, x61_1, x61_4, x61_7a, x61_7b, x61_7c, x61_8, x61_9, x61_12, x61_13, x61_16a, x61_16b, x61_16c, x61_17, x61_20, x61_21, x61_24, x61_25, x61_76, x61_77, x61_80, x61_81, x61_84, x61_87, x61_88, x61_91, x61_92, x61_93, x61_96, x61_99, x61_100, x61_103, x61_104, x61_105, x61_106, x61_107, x61_110, x61_113, x61_116, x61_117, x61_120, x61_121, x61_122, x61_123, x61_124, x61_127, x61_130, x61_131, x61_134, x61_135, x61_136, x61_137, x61_139, x61_142, x61_143, x61_146, x61_147, x61_150, x61_153, x61_154, x61_155, x61_156, x61_157, x61_160, x61_163, x61_164, x61_167, x61_170, x61_171, x61_174, x61_177, x61_178, x61_181, x61_182, x61_183, x61_184, x61_186, x61_189, x61_190, x61_193, x61_194, x61_197, x61_200, x61_201, x61_202, x61_203, x61_204, x61_207, x61_210, x61_211, x61_214, x61_217, x61_220, x61_223, x61_224, x61_227, x61_228, x61_229, x61_230, x61_233, x61_234, x61_237, x61_240, x61_241, x61_243, x61_246, x61_247, x61_250, x61_253, x61_256, x61_259, x61_260, x61_261, x61_262, x61_263, x61_266, x61_269, x61_270, x61_273, x61_276, x61_279, x61_282, x61_283, x61_284, x61_285, x61_286, x61_289, x61_292, x61_293, x61_296, x61_299, x61_302, x61_305, x61_306, x61_309, x61_310, x61_311, x61_314, x61_317, x61_318, x61_321, x61_322, x61_323, x61_324, x57_0, x57_1, x57_4, mzi, mInc, mne, mlt9, mrk, mI1, mI2, mI3, mI4, mL1, mL2, mL3, mL4, mQ1, mQ2, mQ3, mQ4, mT1, mcat0, mcat1, mcat2, mcat3, mcat4, mrf1, jK_v, jK_n, JA, mz1, if_true, if_false, ite_true, ite_false, eq_self, not_false_eq_true, Nat.zero_le, true_and, and_true, and_self, Nat.reduceMod, Nat.reduceAdd, Nat.reduceLeDiff, Nat.reduceEqDiff, Nat.reduceLT, hw, hw1, htk, hd8, g8', hop, q0', e1, hco, q1', cond_true, cond_false]
              · have q0' := eq_false q0
                rw [if_neg q0]
                refine ⟨_, cPost_no hG1, fun Q => ?_⟩
                rw [hpre, hsw]
                simp only [x61_0, x61_1, x61_4, x61_7a, x61_7b, x61_7c, x61_8, x61_9, x61_12, x61_13, x61_16a, x61_16b, x61_16c, x61_17, x61_20, x61_21, x61_24, x61_25, x61_76, x61_77, x61_80, x61_81, x61_84, x61_87, x61_88, x61_91, x61_92, x61_93, x61_96, x61_99, x61_100, x61_103, x61_104, x61_105, x61_106, x61_107, x61_110, x61_113, x61_116, x61_117, x61_120, x61_121, x61_122, x61_123, x61_124, x61_127, x61_130, x61_131, x61_134, x61_135, x61_136, x61_137, x61_139, x61_142, x61_143, x61_146, x61_147, x61_150, x61_153, x61_154, x61_155, x61_156, x61_157, x61_160, x61_163, x61_164, x61_167, x61_170, x61_171, x61_174, x61_177, x61_178, x61_181, x61_182, x61_183, x61_184, x61_186, x61_189, x61_190, x61_193, x61_194, x61_197, x61_200, x61_201, x61_202, x61_203, x61_204, x61_207, x61_210, x61_211, x61_214, x61_217, x61_220, x61_223, x61_224, x61_227, x61_228, x61_229, x61_230, x61_233, x61_234, x61_237, x61_240, x61_241, x61_243, x61_246, x61_247, x61_250, x61_253, x61_256, x61_259, x61_260, x61_261, x61_262, x61_263, x61_266, x61_269, x61_270, x61_273, x61_276, x61_279, x61_282, x61_283, x61_284, x61_285, x61_286, x61_289, x61_292, x61_293, x61_296, x61_299, x61_302, x61_305, x61_306, x61_309, x61_310, x61_311, x61_314, x61_317, x61_318, x61_321, x61_322, x61_323, x61_324, x57_0, x57_1, x57_4, mzi, mInc, mne, mlt9, mrk, mI1, mI2, mI3, mI4, mL1, mL2, mL3, mL4, mQ1, mQ2, mQ3, mQ4, mT1, mcat0, mcat1, mcat2, mcat3, mcat4, mrf1, jK_v, jK_n, JA, mz1, if_true, if_false, ite_true, ite_false, eq_self, not_false_eq_true, Nat.zero_le, true_and, and_true, and_self, Nat.reduceMod, Nat.reduceAdd, Nat.reduceLeDiff, Nat.reduceEqDiff, Nat.reduceLT, hw, htk, hd8, g8', hop, q0']
                rfl
            · have g8' := eq_false g8
              rw [if_neg g8]
              refine ⟨_, cPost_no hG1, fun Q => ?_⟩
              rw [hpre, hsw]
              simp only [x61_0, x61_1, x61_4, x61_7a, x61_7b, x61_7c, x61_8, x61_9, x61_12, x61_13, x61_16a, x61_16b, x61_16c, x61_17, x61_20, x61_21, x61_24, x61_25, x61_76, x61_77, x61_80, x61_81, x61_84, x61_87, x61_88, x61_91, x61_92, x61_93, x61_96, x61_99, x61_100, x61_103, x61_104, x61_105, x61_106, x61_107, x61_110, x61_113, x61_116, x61_117, x61_120, x61_121, x61_122, x61_123, x61_124, x61_127, x61_130, x61_131, x61_134, x61_135, x61_136, x61_137, x61_139, x61_142, x61_143, x61_146, x61_147, x61_150, x61_153, x61_154, x61_155, x61_156, x61_157, x61_160, x61_163, x61_164, x61_167, x61_170, x61_171, x61_174, x61_177, x61_178, x61_181, x61_182, x61_183, x61_184, x61_186, x61_189, x61_190, x61_193, x61_194, x61_197, x61_200, x61_201, x61_202, x61_203, x61_204, x61_207, x61_210, x61_211, x61_214, x61_217, x61_220, x61_223, x61_224, x61_227, x61_228, x61_229, x61_230, x61_233, x61_234, x61_237, x61_240, x61_241, x61_243, x61_246, x61_247, x61_250, x61_253, x61_256, x61_259, x61_260, x61_261, x61_262, x61_263, x61_266, x61_269, x61_270, x61_273, x61_276, x61_279, x61_282, x61_283, x61_284, x61_285, x61_286, x61_289, x61_292, x61_293, x61_296, x61_299, x61_302, x61_305, x61_306, x61_309, x61_310, x61_311, x61_314, x61_317, x61_318, x61_321, x61_322, x61_323, x61_324, x57_0, x57_1, x57_4, mzi, mInc, mne, mlt9, mrk, mI1, mI2, mI3, mI4, mL1, mL2, mL3, mL4, mQ1, mQ2, mQ3, mQ4, mT1, mcat0, mcat1, mcat2, mcat3, mcat4, mrf1, jK_v, jK_n, JA, mz1, if_true, if_false, ite_true, ite_false, eq_self, not_false_eq_true, Nat.zero_le, true_and, and_true, and_self, Nat.reduceMod, Nat.reduceAdd, Nat.reduceLeDiff, Nat.reduceEqDiff, Nat.reduceLT, hw, htk, hd8, g8']
              rfl
          · rw [if_neg a] at hsw ⊢
            refine ⟨ν, cPost_no hG, fun Q => ?_⟩
            rw [hpre, hsw]
            simp only [x61_0, x61_1, x61_4, x61_7a, x61_7b, x61_7c, x61_8, x61_9, x61_12, x61_13, x61_16a, x61_16b, x61_16c, x61_17, x61_20, x61_21, x61_24, x61_25, x61_76, x61_77, x61_80, x61_81, x61_84, x61_87, x61_88, x61_91, x61_92, x61_93, x61_96, x61_99, x61_100, x61_103, x61_104, x61_105, x61_106, x61_107, x61_110, x61_113, x61_116, x61_117, x61_120, x61_121, x61_122, x61_123, x61_124, x61_127, x61_130, x61_131, x61_134, x61_135, x61_136, x61_137, x61_139, x61_142, x61_143, x61_146, x61_147, x61_150, x61_153, x61_154, x61_155, x61_156, x61_157, x61_160, x61_163, x61_164, x61_167, x61_170, x61_171, x61_174, x61_177, x61_178, x61_181, x61_182, x61_183, x61_184, x61_186, x61_189, x61_190, x61_193, x61_194, x61_197, x61_200, x61_201, x61_202, x61_203, x61_204, x61_207, x61_210, x61_211, x61_214, x61_217, x61_220, x61_223, x61_224, x61_227, x61_228, x61_229, x61_230, x61_233, x61_234, x61_237, x61_240, x61_241, x61_243, x61_246, x61_247, x61_250, x61_253, x61_256, x61_259, x61_260, x61_261, x61_262, x61_263, x61_266, x61_269, x61_270, x61_273, x61_276, x61_279, x61_282, x61_283, x61_284, x61_285, x61_286, x61_289, x61_292, x61_293, x61_296, x61_299, x61_302, x61_305, x61_306, x61_309, x61_310, x61_311, x61_314, x61_317, x61_318, x61_321, x61_322, x61_323, x61_324, x57_0, x57_1, x57_4, mzi, mInc, mne, mlt9, mrk, mI1, mI2, mI3, mI4, mL1, mL2, mL3, mL4, mQ1, mQ2, mQ3, mQ4, mT1, mcat0, mcat1, mcat2, mcat3, mcat4, mrf1, jK_v, jK_n, JA, mz1, if_true, if_false, ite_true, ite_false, eq_self, not_false_eq_true, Nat.zero_le, true_and, and_true, and_self, Nat.reduceMod, Nat.reduceAdd, Nat.reduceLeDiff, Nat.reduceEqDiff, Nat.reduceLT]
            rfl
theorem c_tkc (h0 : jG0 μ kd N) {i : Nat} {E : List (Nat × Nat)} {ν : jM} {d : Nat} {Q : jO → jM → Prop} (hG : jGr μ ν i E) (hi : i ≤ N - 1) : Ex (d + 2) 62 0 [some (.ref 1413)] [] ν Q ↔ if kd i = 32 ∨ kd i = 33 ∨ kd i = 34 ∨ kd i = 35 ∨ kd i = 36 then Q (.inl (some (.int 1))) (jsI ν 194 7 (iN (i + 1))) else Q (.inl (some (.int 0))) ν := by
  have hw := jGr_w h0 hG
  unfold jWd at hw
  have t32 : ∀ (Q : jO → jM → Prop), (Ex (d + 1) 52 0 [some (.ref 194), some (.ref 2088)] [] ν Q ↔ if kd i = 32 then Q (.inl (some (.int 1))) (jsI ν 194 7 (iN (i + 1))) else Q (.inl (some (.int 0))) ν) := fun Q => c_take (d := d) (K := 32) h0 hG hi
  have t33 : ∀ (Q : jO → jM → Prop), (Ex (d + 1) 52 0 [some (.ref 194), some (.ref 2152)] [] ν Q ↔ if kd i = 33 then Q (.inl (some (.int 1))) (jsI ν 194 7 (iN (i + 1))) else Q (.inl (some (.int 0))) ν) := fun Q => c_take (d := d) (K := 33) h0 hG hi
  have t34 : ∀ (Q : jO → jM → Prop), (Ex (d + 1) 52 0 [some (.ref 194), some (.ref 2216)] [] ν Q ↔ if kd i = 34 then Q (.inl (some (.int 1))) (jsI ν 194 7 (iN (i + 1))) else Q (.inl (some (.int 0))) ν) := fun Q => c_take (d := d) (K := 34) h0 hG hi
  have t35 : ∀ (Q : jO → jM → Prop), (Ex (d + 1) 52 0 [some (.ref 194), some (.ref 2280)] [] ν Q ↔ if kd i = 35 then Q (.inl (some (.int 1))) (jsI ν 194 7 (iN (i + 1))) else Q (.inl (some (.int 0))) ν) := fun Q => c_take (d := d) (K := 35) h0 hG hi
  have t36 : ∀ (Q : jO → jM → Prop), (Ex (d + 1) 52 0 [some (.ref 194), some (.ref 2344)] [] ν Q ↔ if kd i = 36 then Q (.inl (some (.int 1))) (jsI ν 194 7 (iN (i + 1))) else Q (.inl (some (.int 0))) ν) := fun Q => c_take (d := d) (K := 36) h0 hG hi
  by_cases a32 : kd i = 32
  · have a32' := eq_true a32
    rw [if_pos (show kd i = 32 ∨ kd i = 33 ∨ kd i = 34 ∨ kd i = 35 ∨ kd i = 36 by omega)]
    simp only [x62_0, x62_1, x62_4, x62_7, x62_10, x62_13, x62_14, x62_17, x62_20, x62_23, x62_26, x62_27, x62_30, x62_33, x62_36, x62_39, x62_40, x62_43, x62_46, x62_49, x62_52, x62_53, x62_56, x62_59, x62_62, x62_65, x62_66, x62_69, x62_70, mzi, mInc, mne, mlt9, mrk, mI1, mI2, mI3, mI4, mL1, mL2, mL3, mL4, mQ1, mQ2, mQ3, mQ4, mT1, mcat0, mcat1, mcat2, mcat3, mcat4, mrf1, jK_v, jK_n, JA, mz1, if_true, if_false, ite_true, ite_false, eq_self, not_false_eq_true, Nat.zero_le, true_and, and_true, and_self, Nat.reduceMod, Nat.reduceAdd, Nat.reduceLeDiff, Nat.reduceEqDiff, Nat.reduceLT, hw, t32, a32']
  · have a32' := eq_false a32
    by_cases a33 : kd i = 33
    · have a33' := eq_true a33
      rw [if_pos (show kd i = 32 ∨ kd i = 33 ∨ kd i = 34 ∨ kd i = 35 ∨ kd i = 36 by omega)]
      simp only [x62_0, x62_1, x62_4, x62_7, x62_10, x62_13, x62_14, x62_17, x62_20, x62_23, x62_26, x62_27, x62_30, x62_33, x62_36, x62_39, x62_40, x62_43, x62_46, x62_49, x62_52, x62_53, x62_56, x62_59, x62_62, x62_65, x62_66, x62_69, x62_70, mzi, mInc, mne, mlt9, mrk, mI1, mI2, mI3, mI4, mL1, mL2, mL3, mL4, mQ1, mQ2, mQ3, mQ4, mT1, mcat0, mcat1, mcat2, mcat3, mcat4, mrf1, jK_v, jK_n, JA, mz1, if_true, if_false, ite_true, ite_false, eq_self, not_false_eq_true, Nat.zero_le, true_and, and_true, and_self, Nat.reduceMod, Nat.reduceAdd, Nat.reduceLeDiff, Nat.reduceEqDiff, Nat.reduceLT, hw, t32, a32', t33, a33']
    · have a33' := eq_false a33
      by_cases a34 : kd i = 34
      · have a34' := eq_true a34
        rw [if_pos (show kd i = 32 ∨ kd i = 33 ∨ kd i = 34 ∨ kd i = 35 ∨ kd i = 36 by omega)]
        simp only [x62_0, x62_1, x62_4, x62_7, x62_10, x62_13, x62_14, x62_17, x62_20, x62_23, x62_26, x62_27, x62_30, x62_33, x62_36, x62_39, x62_40, x62_43, x62_46, x62_49, x62_52, x62_53, x62_56, x62_59, x62_62, x62_65, x62_66, x62_69, x62_70, mzi, mInc, mne, mlt9, mrk, mI1, mI2, mI3, mI4, mL1, mL2, mL3, mL4, mQ1, mQ2, mQ3, mQ4, mT1, mcat0, mcat1, mcat2, mcat3, mcat4, mrf1, jK_v, jK_n, JA, mz1, if_true, if_false, ite_true, ite_false, eq_self, not_false_eq_true, Nat.zero_le, true_and, and_true, and_self, Nat.reduceMod, Nat.reduceAdd, Nat.reduceLeDiff, Nat.reduceEqDiff, Nat.reduceLT, hw, t32, a32', t33, a33', t34, a34']
      · have a34' := eq_false a34
        by_cases a35 : kd i = 35
        · have a35' := eq_true a35
          rw [if_pos (show kd i = 32 ∨ kd i = 33 ∨ kd i = 34 ∨ kd i = 35 ∨ kd i = 36 by omega)]
          simp only [x62_0, x62_1, x62_4, x62_7, x62_10, x62_13, x62_14, x62_17, x62_20, x62_23, x62_26, x62_27, x62_30, x62_33, x62_36, x62_39, x62_40, x62_43, x62_46, x62_49, x62_52, x62_53, x62_56, x62_59, x62_62, x62_65, x62_66, x62_69, x62_70, mzi, mInc, mne, mlt9, mrk, mI1, mI2, mI3, mI4, mL1, mL2, mL3, mL4, mQ1, mQ2, mQ3, mQ4, mT1, mcat0, mcat1, mcat2, mcat3, mcat4, mrf1, jK_v, jK_n, JA, mz1, if_true, if_false, ite_true, ite_false, eq_self, not_false_eq_true, Nat.zero_le, true_and, and_true, and_self, Nat.reduceMod, Nat.reduceAdd, Nat.reduceLeDiff, Nat.reduceEqDiff, Nat.reduceLT, hw, t32, a32', t33, a33', t34, a34', t35, a35']
        · have a35' := eq_false a35
          by_cases a36 : kd i = 36
          · have a36' := eq_true a36
            rw [if_pos (show kd i = 32 ∨ kd i = 33 ∨ kd i = 34 ∨ kd i = 35 ∨ kd i = 36 by omega)]
            simp only [x62_0, x62_1, x62_4, x62_7, x62_10, x62_13, x62_14, x62_17, x62_20, x62_23, x62_26, x62_27, x62_30, x62_33, x62_36, x62_39, x62_40, x62_43, x62_46, x62_49, x62_52, x62_53, x62_56, x62_59, x62_62, x62_65, x62_66, x62_69, x62_70, mzi, mInc, mne, mlt9, mrk, mI1, mI2, mI3, mI4, mL1, mL2, mL3, mL4, mQ1, mQ2, mQ3, mQ4, mT1, mcat0, mcat1, mcat2, mcat3, mcat4, mrf1, jK_v, jK_n, JA, mz1, if_true, if_false, ite_true, ite_false, eq_self, not_false_eq_true, Nat.zero_le, true_and, and_true, and_self, Nat.reduceMod, Nat.reduceAdd, Nat.reduceLeDiff, Nat.reduceEqDiff, Nat.reduceLT, hw, t32, a32', t33, a33', t34, a34', t35, a35', t36, a36']
          · have a36' := eq_false a36
            rw [if_neg (show ¬ (kd i = 32 ∨ kd i = 33 ∨ kd i = 34 ∨ kd i = 35 ∨ kd i = 36) by omega)]
            simp only [x62_0, x62_1, x62_4, x62_7, x62_10, x62_13, x62_14, x62_17, x62_20, x62_23, x62_26, x62_27, x62_30, x62_33, x62_36, x62_39, x62_40, x62_43, x62_46, x62_49, x62_52, x62_53, x62_56, x62_59, x62_62, x62_65, x62_66, x62_69, x62_70, mzi, mInc, mne, mlt9, mrk, mI1, mI2, mI3, mI4, mL1, mL2, mL3, mL4, mQ1, mQ2, mQ3, mQ4, mT1, mcat0, mcat1, mcat2, mcat3, mcat4, mrf1, jK_v, jK_n, JA, mz1, if_true, if_false, ite_true, ite_false, eq_self, not_false_eq_true, Nat.zero_le, true_and, and_true, and_self, Nat.reduceMod, Nat.reduceAdd, Nat.reduceLeDiff, Nat.reduceEqDiff, Nat.reduceLT, hw, t32, a32', t33, a33', t34, a34', t35, a35', t36, a36']
theorem c_gSing (h0 : jG0 μ kd N) (hg : cM μ kd N 56 [none, none] 5 5 f) (ht : cM μ kd N 54 [none, none, none] 7 9 f) (hs : cM μ kd N 59 [none, none, none] 3 4 f) : cM μ kd N 56 [none, none] 5 5 (f + 1) := by
  intro D i E ν d hD hG hi hE hf hd
  obtain ⟨d, rfl⟩ : ∃ d', d = d' + 5 := ⟨d - 5, by omega⟩
  have hT := h0.2.1
  have hN2 := hT.2.1
  have hw := jGr_w h0 hG
  unfold jWd at hw
  have hx := hG.2.1
  have hkk : ∀ (Q : jO → jM → Prop), (Ex (d + 4) 50 0 [some (.ref 194), some (.int (iN i))] [] ν Q ↔ Q (.inl (some (.ref (64 * kd i + 40)))) ν) := fun Q => c_kind h0 hG hi
  have m40 : ∀ x, (64 * x + 40) % 64 = 40 := fun x => by omega
  have d40 : ∀ x, (64 * x + 40) / 64 = x := fun x => by omega
  have hkd := hT.2.2.2.2 i
  have kc : (iN (kd i)).toNatClampNeg = kd i := iN_cl (by omega)
  have kj : jin (iN (kd i)) 42 = true := iN_in hkd (by omega)
  have l42 : ∀ μ, jln 42 μ = 42 := fun _ => rfl
  have t42 : jty 42 = 0 := rfl
  have r42 : ∀ k μ, jrdI 42 k μ = jswm k := fun _ _ => rfl
  have hsw := swS (kd i) hkd
  show ∃ ν', cPost μ ν' E (kSg kd (kP kd f) D i) ∧ ∀ Q, (Ex (d + 5) 56 0 [some (.ref 1413), some (.int (iN D)), none, none] [] ν Q ↔ Q (.inl (some (.int (bif (kSg kd (kP kd f) D i).1 then 1 else 0)))) ν')
  have hpre : ∀ Q, Ex (d + 5) 56 0 [some (.ref 1413), some (.int (iN D)), none, none] [] ν Q ↔ Ex (d + 5) 56 (jsw [(1, 48), (2, 97), (3, 145)] 180 (jswm (kd i))) [some (.ref 1413), some (.int (iN D)), some (.int (iN i)), none] [] ν Q := by
    intro Q
    simp only [x56_0, x56_1, x56_4, x56_7a, x56_7b, x56_7c, x56_8, x56_11, x56_12, x56_15, x56_16, x56_19, x56_22, x56_23, x56_48, x56_49, x56_51, x56_54, x56_55, x56_58, x56_61, x56_64, x56_67, x56_68, x56_69, x56_70, x56_71, x56_74, x56_77, x56_78, x56_81, x56_84, x56_85, x56_88, x56_91, x56_92, x56_95, x56_96, x56_97, x56_98, x56_100, x56_103, x56_104, x56_107, x56_110, x56_113, x56_116, x56_117, x56_118, x56_119, x56_120, x56_123, x56_126, x56_127, x56_130, x56_133, x56_136, x56_139, x56_140, x56_143, x56_144, x56_145, x56_146, x56_149, x56_152, x56_155, x56_158, x56_159, x56_162, x56_165, x56_166, x56_167, x56_168, x56_171, x56_174, x56_175, x56_178, x56_179, x56_180, x56_181, x56_182, x56_185, x56_188, x56_189, x56_190, x56_191, x56_194, x56_197a, x56_197b, x56_197c, x56_198, x56_199, x56_202, x56_205, x56_206, x56_207, x56_210, x56_213, x56_214, x56_217, x56_218, x56_221, x56_222, x56_225, x56_226, x56_229, x56_232, x56_233, x56_236, x56_237, x57_0, x57_1, x57_4, mzi, mInc, mne, mlt9, mrk, mI1, mI2, mI3, mI4, mL1, mL2, mL3, mL4, mQ1, mQ2, mQ3, mQ4, mT1, mcat0, mcat1, mcat2, mcat3, mcat4, mrf1, jK_v, jK_n, JA, mz1, if_true, if_false, ite_true, ite_false, eq_self, not_false_eq_true, Nat.zero_le, true_and, and_true, and_self, Nat.reduceMod, Nat.reduceAdd, Nat.reduceLeDiff, Nat.reduceEqDiff, Nat.reduceLT, hw, hx, hkk, m40, d40, kc, kj, l42, t42, r42]
  have hG1 := jGr_take (j := i + 1) hG
  have hd8 : (iN D < 8) = (D < 8) := propext ⟨fun h => (iN_lt (b := 8) (by omega) (by omega)).mp h, fun h => (iN_lt (b := 8) (by omega) (by omega)).mpr h⟩
  unfold kSg
  by_cases a : kd i = 17
  · rw [if_pos a] at hsw ⊢
    have i1 := kTok_lt hT hi (by omega)
    have htk : ∀ (Q : jO → jM → Prop), (Ex (d + 4) 52 0 [some (.ref 194), some (.ref 1128)] [] ν Q ↔ Q (.inl (some (.int 1))) (jsI ν 194 7 (iN (i + 1)))) := fun Q => (c_take (d := d + 3) (K := 17) h0 hG hi).trans (by rw [if_pos a])
    by_cases g8 : D < 8
    · have g8' := eq_true g8
      rw [if_pos g8]
      obtain ⟨ν1, p1, e1⟩ := hg (D + 1) (i + 1) E _ (d + 4) (by omega) hG1 i1 (by omega) (by omega) (by omega)
      have bs := kP_b hT f 5 (D + 1) (i + 1) i1
      rw [if_neg (by decide)] at bs
      generalize kP kd f 5 (D + 1) (i + 1) = r at p1 e1 bs ⊢
      obtain ⟨ok, j, l⟩ := r
      cases ok with
      | true =>
        obtain ⟨bs1, bs2⟩ := bs
        obtain ⟨bs3, bs4⟩ := bs2 rfl
        dsimp only at bs1 bs3 bs4
        have hG2 : jGr μ ν1 j (E ++ l) := p1.1 rfl
        have hw1 := jGr_w h0 hG2
        unfold jWd at hw1
        have hadd : ∀ (Q : jO → jM → Prop), (Ex (d + 4) 58 0 [some (.ref 1156), some (.ref 1128), some (.int (iN i))] [] ν1 Q ↔ Q (.inl (some (.int 1))) (kAdM ν1 (E ++ l).length 17 i)) := fun Q => c_add (K := 17) (t := i) h0 hG2 (by rw [List.length_append]; omega)
        refine ⟨_, cPost_em (K := 17) (t := i) hG2, fun Q => ?_⟩
        rw [hpre, hsw]
        simp only [x56_0, x56_1, x56_4, x56_7a, x56_7b, x56_7c, x56_8, x56_11, x56_12, x56_15, x56_16, x56_19, x56_22, x56_23, x56_48, x56_49, x56_51, x56_54, x56_55, x56_58, x56_61, x56_64, x56_67, x56_68, x56_69, x56_70, x56_71, x56_74, x56_77, x56_78, x56_81, x56_84, x56_85, x56_88, x56_91, x56_92, x56_95, x56_96, x56_97, x56_98, x56_100, x56_103, x56_104, x56_107, x56_110, x56_113, x56_116, x56_117, x56_118, x56_119, x56_120, x56_123, x56_126, x56_127, x56_130, x56_133, x56_136, x56_139, x56_140, x56_143, x56_144, x56_145, x56_146, x56_149, x56_152, x56_155, x56_158, x56_159, x56_162, x56_165, x56_166, x56_167, x56_168, x56_171, x56_174, x56_175, x56_178, x56_179, x56_180, x56_181, x56_182, x56_185, x56_188, x56_189, x56_190, x56_191, x56_194, x56_197a, x56_197b, x56_197c, x56_198, x56_199, x56_202, x56_205, x56_206, x56_207, x56_210, x56_213, x56_214, x56_217, x56_218, x56_221, x56_222, x56_225, x56_226, x56_229, x56_232, x56_233, x56_236, x56_237, x57_0, x57_1, x57_4, mzi, mInc, mne, mlt9, mrk, mI1, mI2, mI3, mI4, mL1, mL2, mL3, mL4, mQ1, mQ2, mQ3, mQ4, mT1, mcat0, mcat1, mcat2, mcat3, mcat4, mrf1, jK_v, jK_n, JA, mz1, if_true, if_false, ite_true, ite_false, eq_self, not_false_eq_true, Nat.zero_le, true_and, and_true, and_self, Nat.reduceMod, Nat.reduceAdd, Nat.reduceLeDiff, Nat.reduceEqDiff, Nat.reduceLT, hw, hw1, htk, hd8, g8', e1, hadd, cond_true]
        rfl
      | false =>
        rw [kBd_f (r := (false, j, l)) rfl]
        refine ⟨ν1, cPost_f p1 rfl, fun Q => ?_⟩
        rw [hpre, hsw]
        simp only [x56_0, x56_1, x56_4, x56_7a, x56_7b, x56_7c, x56_8, x56_11, x56_12, x56_15, x56_16, x56_19, x56_22, x56_23, x56_48, x56_49, x56_51, x56_54, x56_55, x56_58, x56_61, x56_64, x56_67, x56_68, x56_69, x56_70, x56_71, x56_74, x56_77, x56_78, x56_81, x56_84, x56_85, x56_88, x56_91, x56_92, x56_95, x56_96, x56_97, x56_98, x56_100, x56_103, x56_104, x56_107, x56_110, x56_113, x56_116, x56_117, x56_118, x56_119, x56_120, x56_123, x56_126, x56_127, x56_130, x56_133, x56_136, x56_139, x56_140, x56_143, x56_144, x56_145, x56_146, x56_149, x56_152, x56_155, x56_158, x56_159, x56_162, x56_165, x56_166, x56_167, x56_168, x56_171, x56_174, x56_175, x56_178, x56_179, x56_180, x56_181, x56_182, x56_185, x56_188, x56_189, x56_190, x56_191, x56_194, x56_197a, x56_197b, x56_197c, x56_198, x56_199, x56_202, x56_205, x56_206, x56_207, x56_210, x56_213, x56_214, x56_217, x56_218, x56_221, x56_222, x56_225, x56_226, x56_229, x56_232, x56_233, x56_236, x56_237, x57_0, x57_1, x57_4, mzi, mInc, mne, mlt9, mrk, mI1, mI2, mI3, mI4, mL1, mL2, mL3, mL4, mQ1, mQ2, mQ3, mQ4, mT1, mcat0, mcat1, mcat2, mcat3, mcat4, mrf1, jK_v, jK_n, JA, mz1, if_true, if_false, ite_true, ite_false, eq_self, not_false_eq_true, Nat.zero_le, true_and, and_true, and_self, Nat.reduceMod, Nat.reduceAdd, Nat.reduceLeDiff, Nat.reduceEqDiff, Nat.reduceLT, hw, htk, hd8, g8', e1, cond_false]
    · have g8' := eq_false g8
      rw [if_neg g8]
      refine ⟨ν, cPost_no hG, fun Q => ?_⟩
      rw [hpre, hsw]
      simp only [x56_0, x56_1, x56_4, x56_7a, x56_7b, x56_7c, x56_8, x56_11, x56_12, x56_15, x56_16, x56_19, x56_22, x56_23, x56_48, x56_49, x56_51, x56_54, x56_55, x56_58, x56_61, x56_64, x56_67, x56_68, x56_69, x56_70, x56_71, x56_74, x56_77, x56_78, x56_81, x56_84, x56_85, x56_88, x56_91, x56_92, x56_95, x56_96, x56_97, x56_98, x56_100, x56_103, x56_104, x56_107, x56_110, x56_113, x56_116, x56_117, x56_118, x56_119, x56_120, x56_123, x56_126, x56_127, x56_130, x56_133, x56_136, x56_139, x56_140, x56_143, x56_144, x56_145, x56_146, x56_149, x56_152, x56_155, x56_158, x56_159, x56_162, x56_165, x56_166, x56_167, x56_168, x56_171, x56_174, x56_175, x56_178, x56_179, x56_180, x56_181, x56_182, x56_185, x56_188, x56_189, x56_190, x56_191, x56_194, x56_197a, x56_197b, x56_197c, x56_198, x56_199, x56_202, x56_205, x56_206, x56_207, x56_210, x56_213, x56_214, x56_217, x56_218, x56_221, x56_222, x56_225, x56_226, x56_229, x56_232, x56_233, x56_236, x56_237, x57_0, x57_1, x57_4, mzi, mInc, mne, mlt9, mrk, mI1, mI2, mI3, mI4, mL1, mL2, mL3, mL4, mQ1, mQ2, mQ3, mQ4, mT1, mcat0, mcat1, mcat2, mcat3, mcat4, mrf1, jK_v, jK_n, JA, mz1, if_true, if_false, ite_true, ite_false, eq_self, not_false_eq_true, Nat.zero_le, true_and, and_true, and_self, Nat.reduceMod, Nat.reduceAdd, Nat.reduceLeDiff, Nat.reduceEqDiff, Nat.reduceLT, hw, hd8, g8']
      rfl
  · rw [if_neg a] at hsw ⊢
    by_cases a : kd i = 24
    · rw [if_pos a] at hsw ⊢
      have i1 := kTok_lt hT hi (by omega)
      have htk : ∀ (Q : jO → jM → Prop), (Ex (d + 4) 52 0 [some (.ref 194), some (.ref 1576)] [] ν Q ↔ Q (.inl (some (.int 1))) (jsI ν 194 7 (iN (i + 1)))) := fun Q => (c_take (d := d + 3) (K := 24) h0 hG hi).trans (by rw [if_pos a])
      by_cases g8 : D < 8
      · have g8' := eq_true g8
        rw [if_pos g8]
        obtain ⟨ν1, p1, e1⟩ := ht (D + 1) (i + 1) E _ (d + 4) (by omega) hG1 i1 (by omega) (by omega) (by omega)
        have bs := kP_b hT f 9 (D + 1) (i + 1) i1
        rw [if_neg (by decide)] at bs
        generalize kP kd f 9 (D + 1) (i + 1) = r at p1 e1 bs ⊢
        obtain ⟨ok, j, l⟩ := r
        cases ok with
        | true =>
          obtain ⟨bs1, bs2⟩ := bs
          dsimp only at bs1
          have hG2 : jGr μ ν1 j (E ++ l) := p1.1 rfl
          have hw1 := jGr_w h0 hG2
          unfold jWd at hw1
          have hcl : ∀ (Q : jO → jM → Prop), (Ex (d + 4) 52 0 [some (.ref 194), some (.ref 1640)] [] ν1 Q ↔ if kd j = 25 then Q (.inl (some (.int 1))) (jsI ν1 194 7 (iN (j + 1))) else Q (.inl (some (.int 0))) ν1) := fun Q => c_take (d := d + 3) (K := 25) h0 hG2 bs1
          have ev : kBd (true, j, l) (kT1 kd 25) = if kd j = 25 then (true, j + 1, l) else (false, j, l) := by
            unfold kT1 kBd
            by_cases q : kd j = 25
            · simp only [if_true, if_pos q, List.append_nil]
            · simp only [if_true, if_neg q, List.append_nil]
          rw [ev]
          by_cases q : kd j = 25
          · have q' := eq_true q
            rw [if_pos q]
            refine ⟨_, cPost_1 (jGr_take (j := j + 1) hG2), fun Q => ?_⟩
            rw [hpre, hsw]
            simp only [x56_0, x56_1, x56_4, x56_7a, x56_7b, x56_7c, x56_8, x56_11, x56_12, x56_15, x56_16, x56_19, x56_22, x56_23, x56_48, x56_49, x56_51, x56_54, x56_55, x56_58, x56_61, x56_64, x56_67, x56_68, x56_69, x56_70, x56_71, x56_74, x56_77, x56_78, x56_81, x56_84, x56_85, x56_88, x56_91, x56_92, x56_95, x56_96, x56_97, x56_98, x56_100, x56_103, x56_104, x56_107, x56_110, x56_113, x56_116, x56_117, x56_118, x56_119, x56_120, x56_123, x56_126, x56_127, x56_130, x56_133, x56_136, x56_139, x56_140, x56_143, x56_144, x56_145, x56_146, x56_149, x56_152, x56_155, x56_158, x56_159, x56_162, x56_165, x56_166, x56_167, x56_168, x56_171, x56_174, x56_175, x56_178, x56_179, x56_180, x56_181, x56_182, x56_185, x56_188, x56_189, x56_190, x56_191, x56_194, x56_197a, x56_197b, x56_197c, x56_198, x56_199, x56_202, x56_205, x56_206, x56_207, x56_210, x56_213, x56_214, x56_217, x56_218, x56_221, x56_222, x56_225, x56_226, x56_229, x56_232, x56_233, x56_236, x56_237, x57_0, x57_1, x57_4, mzi, mInc, mne, mlt9, mrk, mI1, mI2, mI3, mI4, mL1, mL2, mL3, mL4, mQ1, mQ2, mQ3, mQ4, mT1, mcat0, mcat1, mcat2, mcat3, mcat4, mrf1, jK_v, jK_n, JA, mz1, if_true, if_false, ite_true, ite_false, eq_self, not_false_eq_true, Nat.zero_le, true_and, and_true, and_self, Nat.reduceMod, Nat.reduceAdd, Nat.reduceLeDiff, Nat.reduceEqDiff, Nat.reduceLT, hw, hw1, htk, hd8, g8', e1, hcl, q', cond_true]
          · have q' := eq_false q
            rw [if_neg q]
            refine ⟨ν1, ⟨fun hh => Bool.noConfusion (show false = true from hh), fun _ => ⟨hG2.1, hG2.2.1⟩⟩, fun Q => ?_⟩
            rw [hpre, hsw]
            simp only [x56_0, x56_1, x56_4, x56_7a, x56_7b, x56_7c, x56_8, x56_11, x56_12, x56_15, x56_16, x56_19, x56_22, x56_23, x56_48, x56_49, x56_51, x56_54, x56_55, x56_58, x56_61, x56_64, x56_67, x56_68, x56_69, x56_70, x56_71, x56_74, x56_77, x56_78, x56_81, x56_84, x56_85, x56_88, x56_91, x56_92, x56_95, x56_96, x56_97, x56_98, x56_100, x56_103, x56_104, x56_107, x56_110, x56_113, x56_116, x56_117, x56_118, x56_119, x56_120, x56_123, x56_126, x56_127, x56_130, x56_133, x56_136, x56_139, x56_140, x56_143, x56_144, x56_145, x56_146, x56_149, x56_152, x56_155, x56_158, x56_159, x56_162, x56_165, x56_166, x56_167, x56_168, x56_171, x56_174, x56_175, x56_178, x56_179, x56_180, x56_181, x56_182, x56_185, x56_188, x56_189, x56_190, x56_191, x56_194, x56_197a, x56_197b, x56_197c, x56_198, x56_199, x56_202, x56_205, x56_206, x56_207, x56_210, x56_213, x56_214, x56_217, x56_218, x56_221, x56_222, x56_225, x56_226, x56_229, x56_232, x56_233, x56_236, x56_237, x57_0, x57_1, x57_4, mzi, mInc, mne, mlt9, mrk, mI1, mI2, mI3, mI4, mL1, mL2, mL3, mL4, mQ1, mQ2, mQ3, mQ4, mT1, mcat0, mcat1, mcat2, mcat3, mcat4, mrf1, jK_v, jK_n, JA, mz1, if_true, if_false, ite_true, ite_false, eq_self, not_false_eq_true, Nat.zero_le, true_and, and_true, and_self, Nat.reduceMod, Nat.reduceAdd, Nat.reduceLeDiff, Nat.reduceEqDiff, Nat.reduceLT, hw, hw1, htk, hd8, g8', e1, hcl, q', cond_true, cond_false]
        | false =>
          rw [kBd_f (r := (false, j, l)) rfl]
          refine ⟨ν1, cPost_f p1 rfl, fun Q => ?_⟩
          rw [hpre, hsw]
          simp only [x56_0, x56_1, x56_4, x56_7a, x56_7b, x56_7c, x56_8, x56_11, x56_12, x56_15, x56_16, x56_19, x56_22, x56_23, x56_48, x56_49, x56_51, x56_54, x56_55, x56_58, x56_61, x56_64, x56_67, x56_68, x56_69, x56_70, x56_71, x56_74, x56_77, x56_78, x56_81, x56_84, x56_85, x56_88, x56_91, x56_92, x56_95, x56_96, x56_97, x56_98, x56_100, x56_103, x56_104, x56_107, x56_110, x56_113, x56_116, x56_117, x56_118, x56_119, x56_120, x56_123, x56_126, x56_127, x56_130, x56_133, x56_136, x56_139, x56_140, x56_143, x56_144, x56_145, x56_146, x56_149, x56_152, x56_155, x56_158, x56_159, x56_162, x56_165, x56_166, x56_167, x56_168, x56_171, x56_174, x56_175, x56_178, x56_179, x56_180, x56_181, x56_182, x56_185, x56_188, x56_189, x56_190, x56_191, x56_194, x56_197a, x56_197b, x56_197c, x56_198, x56_199, x56_202, x56_205, x56_206, x56_207, x56_210, x56_213, x56_214, x56_217, x56_218, x56_221, x56_222, x56_225, x56_226, x56_229, x56_232, x56_233, x56_236, x56_237, x57_0, x57_1, x57_4, mzi, mInc, mne, mlt9, mrk, mI1, mI2, mI3, mI4, mL1, mL2, mL3, mL4, mQ1, mQ2, mQ3, mQ4, mT1, mcat0, mcat1, mcat2, mcat3, mcat4, mrf1, jK_v, jK_n, JA, mz1, if_true, if_false, ite_true, ite_false, eq_self, not_false_eq_true, Nat.zero_le, true_and, and_true, and_self, Nat.reduceMod, Nat.reduceAdd, Nat.reduceLeDiff, Nat.reduceEqDiff, Nat.reduceLT, hw, htk, hd8, g8', e1, cond_false]
      · have g8' := eq_false g8
        rw [if_neg g8]
        refine ⟨ν, cPost_no hG, fun Q => ?_⟩
        rw [hpre, hsw]
        simp only [x56_0, x56_1, x56_4, x56_7a, x56_7b, x56_7c, x56_8, x56_11, x56_12, x56_15, x56_16, x56_19, x56_22, x56_23, x56_48, x56_49, x56_51, x56_54, x56_55, x56_58, x56_61, x56_64, x56_67, x56_68, x56_69, x56_70, x56_71, x56_74, x56_77, x56_78, x56_81, x56_84, x56_85, x56_88, x56_91, x56_92, x56_95, x56_96, x56_97, x56_98, x56_100, x56_103, x56_104, x56_107, x56_110, x56_113, x56_116, x56_117, x56_118, x56_119, x56_120, x56_123, x56_126, x56_127, x56_130, x56_133, x56_136, x56_139, x56_140, x56_143, x56_144, x56_145, x56_146, x56_149, x56_152, x56_155, x56_158, x56_159, x56_162, x56_165, x56_166, x56_167, x56_168, x56_171, x56_174, x56_175, x56_178, x56_179, x56_180, x56_181, x56_182, x56_185, x56_188, x56_189, x56_190, x56_191, x56_194, x56_197a, x56_197b, x56_197c, x56_198, x56_199, x56_202, x56_205, x56_206, x56_207, x56_210, x56_213, x56_214, x56_217, x56_218, x56_221, x56_222, x56_225, x56_226, x56_229, x56_232, x56_233, x56_236, x56_237, x57_0, x57_1, x57_4, mzi, mInc, mne, mlt9, mrk, mI1, mI2, mI3, mI4, mL1, mL2, mL3, mL4, mQ1, mQ2, mQ3, mQ4, mT1, mcat0, mcat1, mcat2, mcat3, mcat4, mrf1, jK_v, jK_n, JA, mz1, if_true, if_false, ite_true, ite_false, eq_self, not_false_eq_true, Nat.zero_le, true_and, and_true, and_self, Nat.reduceMod, Nat.reduceAdd, Nat.reduceLeDiff, Nat.reduceEqDiff, Nat.reduceLT, hw, hd8, g8']
        rfl
    · rw [if_neg a] at hsw ⊢
      by_cases a : kd i = 16
      · rw [if_pos a] at hsw ⊢
        have i1 := kTok_lt hT hi (by omega)
        by_cases g : kd (i + 1) = 37
        · rw [if_pos g]
          have hbo : ∀ (Q : jO → jM → Prop), (Ex (d + 4) 53 0 [some (.ref 1413), some (.ref 1064), some (.ref 2408)] [] ν Q ↔ Q (.inl (some (.int 1))) (jsI (jsI ν 194 7 (iN (i + 1))) 194 7 (iN (i + 2)))) := fun Q => (c_both (d := d + 2) (K := 16) (K' := 37) h0 hG hi (by decide)).trans (by rw [if_pos a, if_pos g])
          have hG2 := jGr_take (j := i + 2) hG1
          have hadd : ∀ (Q : jO → jM → Prop), (Ex (d + 4) 58 0 [some (.ref 1156), some (.ref 1064), some (.int (iN (i + 1)))] [] (jsI (jsI ν 194 7 (iN (i + 1))) 194 7 (iN (i + 2))) Q ↔ Q (.inl (some (.int 1))) (kAdM (jsI (jsI ν 194 7 (iN (i + 1))) 194 7 (iN (i + 2))) E.length 16 (i + 1))) := fun Q => c_add (K := 16) (t := i + 1) h0 hG2 (by omega)
          refine ⟨_, cPost_1 (jGr_add (K := 16) (t := i + 1) hG2), fun Q => ?_⟩
          rw [hpre, hsw]
          simp only [x56_0, x56_1, x56_4, x56_7a, x56_7b, x56_7c, x56_8, x56_11, x56_12, x56_15, x56_16, x56_19, x56_22, x56_23, x56_48, x56_49, x56_51, x56_54, x56_55, x56_58, x56_61, x56_64, x56_67, x56_68, x56_69, x56_70, x56_71, x56_74, x56_77, x56_78, x56_81, x56_84, x56_85, x56_88, x56_91, x56_92, x56_95, x56_96, x56_97, x56_98, x56_100, x56_103, x56_104, x56_107, x56_110, x56_113, x56_116, x56_117, x56_118, x56_119, x56_120, x56_123, x56_126, x56_127, x56_130, x56_133, x56_136, x56_139, x56_140, x56_143, x56_144, x56_145, x56_146, x56_149, x56_152, x56_155, x56_158, x56_159, x56_162, x56_165, x56_166, x56_167, x56_168, x56_171, x56_174, x56_175, x56_178, x56_179, x56_180, x56_181, x56_182, x56_185, x56_188, x56_189, x56_190, x56_191, x56_194, x56_197a, x56_197b, x56_197c, x56_198, x56_199, x56_202, x56_205, x56_206, x56_207, x56_210, x56_213, x56_214, x56_217, x56_218, x56_221, x56_222, x56_225, x56_226, x56_229, x56_232, x56_233, x56_236, x56_237, x57_0, x57_1, x57_4, mzi, mInc, mne, mlt9, mrk, mI1, mI2, mI3, mI4, mL1, mL2, mL3, mL4, mQ1, mQ2, mQ3, mQ4, mT1, mcat0, mcat1, mcat2, mcat3, mcat4, mrf1, jK_v, jK_n, JA, mz1, if_true, if_false, ite_true, ite_false, eq_self, not_false_eq_true, Nat.zero_le, true_and, and_true, and_self, Nat.reduceMod, Nat.reduceAdd, Nat.reduceLeDiff, Nat.reduceEqDiff, Nat.reduceLT, hw, hbo, hadd, cond_true]
        · rw [if_neg g]
          have hbo : ∀ (Q : jO → jM → Prop), (Ex (d + 4) 53 0 [some (.ref 1413), some (.ref 1064), some (.ref 2408)] [] ν Q ↔ Q (.inl (some (.int 0))) (jsI ν 194 7 (iN (i + 1)))) := fun Q => (c_both (d := d + 2) (K := 16) (K' := 37) h0 hG hi (by decide)).trans (by rw [if_pos a, if_neg g])
          refine ⟨_, cPost_no hG1, fun Q => ?_⟩
          rw [hpre, hsw]
          simp only [x56_0, x56_1, x56_4, x56_7a, x56_7b, x56_7c, x56_8, x56_11, x56_12, x56_15, x56_16, x56_19, x56_22, x56_23, x56_48, x56_49, x56_51, x56_54, x56_55, x56_58, x56_61, x56_64, x56_67, x56_68, x56_69, x56_70, x56_71, x56_74, x56_77, x56_78, x56_81, x56_84, x56_85, x56_88, x56_91, x56_92, x56_95, x56_96, x56_97, x56_98, x56_100, x56_103, x56_104, x56_107, x56_110, x56_113, x56_116, x56_117, x56_118, x56_119, x56_120, x56_123, x56_126, x56_127, x56_130, x56_133, x56_136, x56_139, x56_140, x56_143, x56_144, x56_145, x56_146, x56_149, x56_152, x56_155, x56_158, x56_159, x56_162, x56_165, x56_166, x56_167, x56_168, x56_171, x56_174, x56_175, x56_178, x56_179, x56_180, x56_181, x56_182, x56_185, x56_188, x56_189, x56_190, x56_191, x56_194, x56_197a, x56_197b, x56_197c, x56_198, x56_199, x56_202, x56_205, x56_206, x56_207, x56_210, x56_213, x56_214, x56_217, x56_218, x56_221, x56_222, x56_225, x56_226, x56_229, x56_232, x56_233, x56_236, x56_237, x57_0, x57_1, x57_4, mzi, mInc, mne, mlt9, mrk, mI1, mI2, mI3, mI4, mL1, mL2, mL3, mL4, mQ1, mQ2, mQ3, mQ4, mT1, mcat0, mcat1, mcat2, mcat3, mcat4, mrf1, jK_v, jK_n, JA, mz1, if_true, if_false, ite_true, ite_false, eq_self, not_false_eq_true, Nat.zero_le, true_and, and_true, and_self, Nat.reduceMod, Nat.reduceAdd, Nat.reduceLeDiff, Nat.reduceEqDiff, Nat.reduceLT, hw, hbo]
          rfl
      · rw [if_neg a] at hsw ⊢
        obtain ⟨ν1, p1, e1⟩ := hs D i E ν (d + 4) hD hG hi hE (by omega) (by omega)
        have bs := kP_b hT f 4 D i hi
        rw [if_neg (by decide)] at bs
        have ev : (kP kd f 4 D i).1 = true → kBd (kP kd f 4 D i) (kCm kd (kP kd f) D) = ((kCm kd (kP kd f) D (kP kd f 4 D i).2.1).1, (kCm kd (kP kd f) D (kP kd f 4 D i).2.1).2.1, (kP kd f 4 D i).2.2 ++ (kCm kd (kP kd f) D (kP kd f 4 D i).2.1).2.2) := kBd_t
        generalize kP kd f 4 D i = r at p1 e1 bs ev ⊢
        obtain ⟨ok, j, l⟩ := r
        cases ok with
        | true =>
          obtain ⟨bs1, bs2⟩ := bs
          obtain ⟨bs3, bs4⟩ := bs2 rfl
          dsimp only at bs1 bs3 bs4
          have hG2 : jGr μ ν1 j (E ++ l) := p1.1 rfl
          have hw1 := jGr_w h0 hG2
          unfold jWd at hw1
          have hx1 := hG2.2.1
          have htc : ∀ (Q : jO → jM → Prop), (Ex (d + 4) 62 0 [some (.ref 1413)] [] ν1 Q ↔ if kd j = 32 ∨ kd j = 33 ∨ kd j = 34 ∨ kd j = 35 ∨ kd j = 36 then Q (.inl (some (.int 1))) (jsI ν1 194 7 (iN (j + 1))) else Q (.inl (some (.int 0))) ν1) := fun Q => c_tkc (d := d + 2) h0 hG2 bs1
          rw [ev rfl]
          dsimp only
          unfold kCm
          by_cases b : kd j = 32 ∨ kd j = 33 ∨ kd j = 34 ∨ kd j = 35 ∨ kd j = 36
          · have b' := eq_true b
            rw [if_pos b]
            have j1 := kTok_lt hT bs1 (by omega)
            have hG3 := jGr_take (j := j + 1) hG2
            obtain ⟨ν2, p2, e2⟩ := hs D (j + 1) (E ++ l) _ (d + 4) hD hG3 j1 (by rw [List.length_append]; omega) (by omega) (by omega)
            have bt := kP_b hT f 4 D (j + 1) j1
            rw [if_neg (by decide)] at bt
            generalize kP kd f 4 D (j + 1) = r2 at p2 e2 bt ⊢
            obtain ⟨ok2, k, l2⟩ := r2
            cases ok2 with
            | true =>
              obtain ⟨bt1, bt2⟩ := bt
              obtain ⟨bt3, bt4⟩ := bt2 rfl
              dsimp only at bt1 bt3 bt4
              have hG4 : jGr μ ν2 k (E ++ l ++ l2) := p2.1 rfl
              have hw2 := jGr_w h0 hG4
              unfold jWd at hw2
              have hkk2 : ∀ (Q : jO → jM → Prop), (Ex (d + 4) 50 0 [some (.ref 194), some (.int (iN j))] [] ν2 Q ↔ Q (.inl (some (.ref (64 * kd j + 40)))) ν2) := fun Q => c_kind h0 hG4 bs1
              have hadd : ∀ (Q : jO → jM → Prop), (Ex (d + 4) 58 0 [some (.ref 1156), some (.ref (64 * kd j + 40)), some (.int (iN j))] [] ν2 Q ↔ Q (.inl (some (.int 1))) (kAdM ν2 (E ++ l ++ l2).length (kd j) j)) := fun Q => c_add (K := kd j) (t := j) h0 hG4 (by rw [List.length_append, List.length_append]; omega)
              refine ⟨_, cPost_e (cPost_em (K := kd j) (t := j) hG4), fun Q => ?_⟩
              rw [hpre, hsw]
              simp only [x56_0, x56_1, x56_4, x56_7a, x56_7b, x56_7c, x56_8, x56_11, x56_12, x56_15, x56_16, x56_19, x56_22, x56_23, x56_48, x56_49, x56_51, x56_54, x56_55, x56_58, x56_61, x56_64, x56_67, x56_68, x56_69, x56_70, x56_71, x56_74, x56_77, x56_78, x56_81, x56_84, x56_85, x56_88, x56_91, x56_92, x56_95, x56_96, x56_97, x56_98, x56_100, x56_103, x56_104, x56_107, x56_110, x56_113, x56_116, x56_117, x56_118, x56_119, x56_120, x56_123, x56_126, x56_127, x56_130, x56_133, x56_136, x56_139, x56_140, x56_143, x56_144, x56_145, x56_146, x56_149, x56_152, x56_155, x56_158, x56_159, x56_162, x56_165, x56_166, x56_167, x56_168, x56_171, x56_174, x56_175, x56_178, x56_179, x56_180, x56_181, x56_182, x56_185, x56_188, x56_189, x56_190, x56_191, x56_194, x56_197a, x56_197b, x56_197c, x56_198, x56_199, x56_202, x56_205, x56_206, x56_207, x56_210, x56_213, x56_214, x56_217, x56_218, x56_221, x56_222, x56_225, x56_226, x56_229, x56_232, x56_233, x56_236, x56_237, x57_0, x57_1, x57_4, mzi, mInc, mne, mlt9, mrk, mI1, mI2, mI3, mI4, mL1, mL2, mL3, mL4, mQ1, mQ2, mQ3, mQ4, mT1, mcat0, mcat1, mcat2, mcat3, mcat4, mrf1, jK_v, jK_n, JA, mz1, if_true, if_false, ite_true, ite_false, eq_self, not_false_eq_true, Nat.zero_le, true_and, and_true, and_self, Nat.reduceMod, Nat.reduceAdd, Nat.reduceLeDiff, Nat.reduceEqDiff, Nat.reduceLT, e1, hw1, hx1, htc, b', e2, hw2, hkk2, hadd, cond_true]
              rfl
            | false =>
              rw [kBd_f (r := (false, k, l2)) rfl]
              refine ⟨ν2, cPost_e p2, fun Q => ?_⟩
              rw [hpre, hsw]
              simp only [x56_0, x56_1, x56_4, x56_7a, x56_7b, x56_7c, x56_8, x56_11, x56_12, x56_15, x56_16, x56_19, x56_22, x56_23, x56_48, x56_49, x56_51, x56_54, x56_55, x56_58, x56_61, x56_64, x56_67, x56_68, x56_69, x56_70, x56_71, x56_74, x56_77, x56_78, x56_81, x56_84, x56_85, x56_88, x56_91, x56_92, x56_95, x56_96, x56_97, x56_98, x56_100, x56_103, x56_104, x56_107, x56_110, x56_113, x56_116, x56_117, x56_118, x56_119, x56_120, x56_123, x56_126, x56_127, x56_130, x56_133, x56_136, x56_139, x56_140, x56_143, x56_144, x56_145, x56_146, x56_149, x56_152, x56_155, x56_158, x56_159, x56_162, x56_165, x56_166, x56_167, x56_168, x56_171, x56_174, x56_175, x56_178, x56_179, x56_180, x56_181, x56_182, x56_185, x56_188, x56_189, x56_190, x56_191, x56_194, x56_197a, x56_197b, x56_197c, x56_198, x56_199, x56_202, x56_205, x56_206, x56_207, x56_210, x56_213, x56_214, x56_217, x56_218, x56_221, x56_222, x56_225, x56_226, x56_229, x56_232, x56_233, x56_236, x56_237, x57_0, x57_1, x57_4, mzi, mInc, mne, mlt9, mrk, mI1, mI2, mI3, mI4, mL1, mL2, mL3, mL4, mQ1, mQ2, mQ3, mQ4, mT1, mcat0, mcat1, mcat2, mcat3, mcat4, mrf1, jK_v, jK_n, JA, mz1, if_true, if_false, ite_true, ite_false, eq_self, not_false_eq_true, Nat.zero_le, true_and, and_true, and_self, Nat.reduceMod, Nat.reduceAdd, Nat.reduceLeDiff, Nat.reduceEqDiff, Nat.reduceLT, e1, hw1, hx1, htc, b', e2, cond_true, cond_false]
          · have b' := eq_false b
            rw [if_neg b]
            refine ⟨ν1, ⟨fun hh => Bool.noConfusion (show false = true from hh), fun _ => ⟨hG2.1, hG2.2.1⟩⟩, fun Q => ?_⟩
            rw [hpre, hsw]
            simp only [x56_0, x56_1, x56_4, x56_7a, x56_7b, x56_7c, x56_8, x56_11, x56_12, x56_15, x56_16, x56_19, x56_22, x56_23, x56_48, x56_49, x56_51, x56_54, x56_55, x56_58, x56_61, x56_64, x56_67, x56_68, x56_69, x56_70, x56_71, x56_74, x56_77, x56_78, x56_81, x56_84, x56_85, x56_88, x56_91, x56_92, x56_95, x56_96, x56_97, x56_98, x56_100, x56_103, x56_104, x56_107, x56_110, x56_113, x56_116, x56_117, x56_118, x56_119, x56_120, x56_123, x56_126, x56_127, x56_130, x56_133, x56_136, x56_139, x56_140, x56_143, x56_144, x56_145, x56_146, x56_149, x56_152, x56_155, x56_158, x56_159, x56_162, x56_165, x56_166, x56_167, x56_168, x56_171, x56_174, x56_175, x56_178, x56_179, x56_180, x56_181, x56_182, x56_185, x56_188, x56_189, x56_190, x56_191, x56_194, x56_197a, x56_197b, x56_197c, x56_198, x56_199, x56_202, x56_205, x56_206, x56_207, x56_210, x56_213, x56_214, x56_217, x56_218, x56_221, x56_222, x56_225, x56_226, x56_229, x56_232, x56_233, x56_236, x56_237, x57_0, x57_1, x57_4, mzi, mInc, mne, mlt9, mrk, mI1, mI2, mI3, mI4, mL1, mL2, mL3, mL4, mQ1, mQ2, mQ3, mQ4, mT1, mcat0, mcat1, mcat2, mcat3, mcat4, mrf1, jK_v, jK_n, JA, mz1, if_true, if_false, ite_true, ite_false, eq_self, not_false_eq_true, Nat.zero_le, true_and, and_true, and_self, Nat.reduceMod, Nat.reduceAdd, Nat.reduceLeDiff, Nat.reduceEqDiff, Nat.reduceLT, e1, hw1, hx1, htc, b', cond_true]
            rfl
        | false =>
          rw [kBd_f (r := (false, j, l)) rfl]
          refine ⟨ν1, cPost_f p1 rfl, fun Q => ?_⟩
          rw [hpre, hsw]
          simp only [x56_0, x56_1, x56_4, x56_7a, x56_7b, x56_7c, x56_8, x56_11, x56_12, x56_15, x56_16, x56_19, x56_22, x56_23, x56_48, x56_49, x56_51, x56_54, x56_55, x56_58, x56_61, x56_64, x56_67, x56_68, x56_69, x56_70, x56_71, x56_74, x56_77, x56_78, x56_81, x56_84, x56_85, x56_88, x56_91, x56_92, x56_95, x56_96, x56_97, x56_98, x56_100, x56_103, x56_104, x56_107, x56_110, x56_113, x56_116, x56_117, x56_118, x56_119, x56_120, x56_123, x56_126, x56_127, x56_130, x56_133, x56_136, x56_139, x56_140, x56_143, x56_144, x56_145, x56_146, x56_149, x56_152, x56_155, x56_158, x56_159, x56_162, x56_165, x56_166, x56_167, x56_168, x56_171, x56_174, x56_175, x56_178, x56_179, x56_180, x56_181, x56_182, x56_185, x56_188, x56_189, x56_190, x56_191, x56_194, x56_197a, x56_197b, x56_197c, x56_198, x56_199, x56_202, x56_205, x56_206, x56_207, x56_210, x56_213, x56_214, x56_217, x56_218, x56_221, x56_222, x56_225, x56_226, x56_229, x56_232, x56_233, x56_236, x56_237, x57_0, x57_1, x57_4, mzi, mInc, mne, mlt9, mrk, mI1, mI2, mI3, mI4, mL1, mL2, mL3, mL4, mQ1, mQ2, mQ3, mQ4, mT1, mcat0, mcat1, mcat2, mcat3, mcat4, mrf1, jK_v, jK_n, JA, mz1, if_true, if_false, ite_true, ite_false, eq_self, not_false_eq_true, Nat.zero_le, true_and, and_true, and_self, Nat.reduceMod, Nat.reduceAdd, Nat.reduceLeDiff, Nat.reduceEqDiff, Nat.reduceLT, e1, cond_false]
/-- all parts of the grammar -/
def cAll (μ : jM) (kd : Nat → Nat) (N f : Nat) : Prop := cM μ kd N 61 [none, none] 1 0 f ∧ cL μ kd N 60 2 1 f ∧ cM μ kd N 60 [none, none, none] 2 2 f ∧ cL μ kd N 59 3 3 f ∧ cM μ kd N 59 [none, none, none] 3 4 f ∧ cM μ kd N 56 [none, none] 5 5 f ∧ cL μ kd N 55 6 6 f ∧ cM μ kd N 55 [none, none, none] 6 7 f ∧ cL μ kd N 54 7 8 f ∧ cM μ kd N 54 [none, none, none] 7 9 f
theorem c_all (h0 : jG0 μ kd N) : ∀ f, cAll μ kd N f := by
  have hN := h0.2.1.2.1
  have z1 : ∀ m tail rk mode, cM μ kd N m tail rk mode 0 := fun m tail rk mode D i E ν d _ _ hi _ hf _ => absurd hf (by omega)
  have z2 : ∀ m rk mode, cL μ kd N m rk mode 0 := fun m rk mode D i E ν d c b4 _ _ hi _ hf _ _ => absurd hf (by omega)
  intro f
  induction f with
  | zero => exact ⟨z1 _ _ _ _, z2 _ _ _, z1 _ _ _ _, z2 _ _ _, z1 _ _ _ _, z1 _ _ _ _, z2 _ _ _, z1 _ _ _ _, z2 _ _ _, z1 _ _ _ _⟩
  | succ f ih =>
    obtain ⟨v, pl, p, sl, s, g, bl, b, tl, t⟩ := ih
    exact ⟨c_gVal h0 v s, c_gProdL h0 v pl, c_gProd h0 v pl, c_gSumL h0 p sl, c_gSum h0 p sl, c_gSing h0 g t s, c_gBothL h0 g bl, c_gBoth h0 g bl, c_gTestL h0 b tl, c_gTest h0 b tl⟩
end GRAM2
