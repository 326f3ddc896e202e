/-! THE PURE PART: tests (reference). -/
section GRM4
variable {μ ν : jM} {r : Nat} {kd : Nat → Nat} {num : Nat → Int32} {N f sz i j D K : Nat} {E l : List (Nat × Nat)} {b : Nat → Int32}
theorem d_gSing (h0 : jR0 μ r kd N b sz) (hg : mM μ r kd num N 118 [none] 5 5 f) (hT9 : mM μ r kd num N 116 [] 7 9 f) (hs : mM μ r kd num N 124 [none] 3 4 f) : mM μ r kd num N 118 [none] 5 5 (f + 1) := by
  intro D i E ν d hD hG hB hi hE hf hd
  obtain ⟨d, rfl⟩ : ∃ d', d = d' + 6 := ⟨d - 6, by omega⟩
  have hT := h0.2.1
  have hr := h0.2.2.1
  have hN1 := hT.1
  have hN2 := hT.2.1
  have hw := jRf_w h0 hG.1
  unfold jWd at hw
  have ht := hG.2.1
  have hdp := hG.2.2.1
  have ic : (iN i).toNatClampNeg = i := iN_cl (by omega)
  have ij : jin (iN i) 401 = true := iN_in (by omega) (by omega)
  have hk := jR_kind h0 hG.1 hi
  have hkd := hT.2.2.2.2 i
  have hdeep : ∀ (Q : jO → jM → Prop), (Ex (d + 5) 119 0 [some (.ref 4490)] [] ν Q ↔ if D < 8 then Q (.inl (some (.int 1))) (jsI (jsI ν 4490 10 (iN (D + 1))) 4490 9 (iN (i + 1))) else Q (.inl (some (.int 0))) ν) := fun Q => d_deeper h0 hG.1 ht hdp hD
  have his17 : ∀ (Q : jO → jM → Prop), (Ex (d + 5) 109 0 [some (.ref 4490), some (.int 17)] [] ν Q ↔ Q (.inl (some (.int (if kd i = 17 then 1 else 0)))) ν) := fun Q => d_is (K := 17) h0 hG.1 ht hi (by decide)
  have hsg24 : ∀ (Q : jO → jM → Prop), (Ex (d + 5) 121 0 [some (.ref 4490), some (.int 91)] [] ν Q ↔ Q (.inl (some (.int (if kd (i) = 24 then 1 else 0)))) ν) := fun Q => d_isSign (K := 24) h0 hG.1 ht hi (by decide) (by decide)
  have his16 : ∀ (Q : jO → jM → Prop), (Ex (d + 5) 109 0 [some (.ref 4490), some (.int 16)] [] ν Q ↔ Q (.inl (some (.int (if kd i = 16 then 1 else 0)))) ν) := fun Q => d_is (K := 16) h0 hG.1 ht hi (by decide)
  show ∃ ν', mPost μ r kd num N D E (kSg kd (kP kd f) D i) ν' ∧ ∀ Q, (Ex (d + 6) 118 0 [some (.ref 4490), none] [] ν Q ↔ Q (.inl (some (.int (bif (kSg kd (kP kd f) D i).1 then 1 else 0)))) ν')
  have jr1 : ∀ c : Bool, jrok 1 (bif c then 1 else 0) = true := fun c => by cases c <;> rfl
  unfold kSg
  by_cases a17 : kd i = 17
  · rw [if_pos a17]
    have i1 := kTok_lt hT hi (by omega)
    have q17 : (kd i = 17) = True := eq_true a17
    by_cases g8 : D < 8
    · have g8' := eq_true g8
      rw [if_pos g8]
      have hG1 := jRr_take (jRr_dep (D' := D + 1) hG hr) hr (kRole_0 (by omega) (by omega) (by omega)) (by omega)
      obtain ⟨ν1, p1, e1⟩ := hg (D + 1) (i + 1) E _ (d + 5) (by omega) hG1 (kBef_s (by omega)) i1 (by omega) (by omega) (by omega)
      have bs := kP_b hT f 5 (D + 1) (i + 1) i1
      rw [if_neg (by decide)] at bs
      generalize kP kd f 5 (D + 1) (i + 1) = q at p1 e1 bs ⊢
      obtain ⟨ok, j, l⟩ := q
      cases ok with
      | true =>
        obtain ⟨bs1, bs2⟩ := bs
        obtain ⟨bs3, bs4⟩ := bs2 rfl
        dsimp only at bs1 bs3 bs4
        obtain ⟨hG2, hB2⟩ := p1.1 rfl
        dsimp only at hG2 hB2
        have hw1 := jRf_w h0 hG2.1
        unfold jWd at hw1
        have hd1 : jI ν1 4490 10 = iN (D + 1) := hG2.2.2.1
        have hdm : iN (D + 1) - 1 = iN D := by rw [iN_pred (by omega)]; rfl
        have hG3 := jRr_dep (D' := D) hG2 hr
        have l1 : kWds (E ++ l) < 799 := kW_lt (i := j) hT (by rw [List.length_append]; omega) bs1
        have hput : ∀ (Q : jO → jM → Prop), (Ex (d + 5) 120 0 [some (.ref 4490), some (.int 17)] [] (jsI ν1 4490 10 (iN D)) Q ↔ Q (.inl none) (kPutM (jsI ν1 4490 10 (iN D)) r (kWds (E ++ l)) (iN (kCd 17)))) := fun Q => d_put h0 hG3.1 hG3.2.2.2.1 (by omega)
        have hG4 := jRr_put (K := 17) (t := i) hG3 hr rfl
        refine ⟨_, mPost_e (l := l) (q := (true, j, [(17, i)])) (mPost_1 hG4 hB2), fun Q => ?_⟩
        simp only [x118_0, x118_1, x118_3, x118_6, x118_9, x118_10, x118_13, x118_16, x118_17, x118_20, x118_23, x118_24, x118_25, x118_26a, x118_26b, x118_27, x118_30, x118_31, x118_32, x118_35, x118_36, x118_38, x118_41, x118_42, x118_43, x118_44, x118_46, x118_49, x118_52, x118_53, x118_56, x118_59, x118_60, x118_63, x118_66, x118_67, x118_68, x118_69a, x118_69b, x118_70, x118_73, x118_74, x118_75, x118_78, x118_79, x118_81, x118_84, x118_85, x118_86, x118_88, x118_91, x118_94, x118_95, x118_97, x118_100, x118_101, x118_102, x118_105, x118_108, x118_109, x118_110, x118_111, x118_113, x118_116, x118_119, x118_121, x118_124, x118_125, x118_127, x118_130, x118_133, x118_135, x118_138, x118_139, x118_141, x118_144, x118_147, x118_149, x118_152, x118_153, x118_156, x118_159, x118_162, x118_164, x118_167, x118_168, x118_171, x118_174, x118_177, x118_179, x118_182, x118_183a, x118_183b, x118_183c, x118_184, x118_185, x118_186, x118_189, x118_190, x118_191, x118_192a, x118_192b, x118_193, x118_196, x118_197, x118_198, x118_201, x118_202, x118_205, x118_208, x118_209, x118_210, x118_211, x118_212, x118_215, x118_216, mzi, mInc, mne, mlt9, mrk, mI1, mI2, mI3, mI4, mL1, mL2, mL3, mL4, mQ1, mQ2, mQ3, mQ4, mT1, mcat0, mcat1, mcat2, mcat3, mcat4, mrf1, jK_v, jK_n, JA, mz1, if_true, if_false, ite_true, ite_false, eq_self, not_false_eq_true, Nat.zero_le, true_and, and_true, and_self, Nat.reduceMod, Nat.reduceAdd, Nat.reduceLeDiff, Nat.reduceEqDiff, Nat.reduceLT, hw, hw1, his17, q17, hdeep, g8', e1, hd1, hdm, hput, cond_true]
        rfl
      | false =>
        rw [kBd_f (r := (false, j, l)) rfl]
        refine ⟨ν1, mPost_f p1 rfl, fun Q => ?_⟩
        simp only [x118_0, x118_1, x118_3, x118_6, x118_9, x118_10, x118_13, x118_16, x118_17, x118_20, x118_23, x118_24, x118_25, x118_26a, x118_26b, x118_27, x118_30, x118_31, x118_32, x118_35, x118_36, x118_38, x118_41, x118_42, x118_43, x118_44, x118_46, x118_49, x118_52, x118_53, x118_56, x118_59, x118_60, x118_63, x118_66, x118_67, x118_68, x118_69a, x118_69b, x118_70, x118_73, x118_74, x118_75, x118_78, x118_79, x118_81, x118_84, x118_85, x118_86, x118_88, x118_91, x118_94, x118_95, x118_97, x118_100, x118_101, x118_102, x118_105, x118_108, x118_109, x118_110, x118_111, x118_113, x118_116, x118_119, x118_121, x118_124, x118_125, x118_127, x118_130, x118_133, x118_135, x118_138, x118_139, x118_141, x118_144, x118_147, x118_149, x118_152, x118_153, x118_156, x118_159, x118_162, x118_164, x118_167, x118_168, x118_171, x118_174, x118_177, x118_179, x118_182, x118_183a, x118_183b, x118_183c, x118_184, x118_185, x118_186, x118_189, x118_190, x118_191, x118_192a, x118_192b, x118_193, x118_196, x118_197, x118_198, x118_201, x118_202, x118_205, x118_208, x118_209, x118_210, x118_211, x118_212, x118_215, x118_216, mzi, mInc, mne, mlt9, mrk, mI1, mI2, mI3, mI4, mL1, mL2, mL3, mL4, mQ1, mQ2, mQ3, mQ4, mT1, mcat0, mcat1, mcat2, mcat3, mcat4, mrf1, jK_v, jK_n, JA, mz1, if_true, if_false, ite_true, ite_false, eq_self, not_false_eq_true, Nat.zero_le, true_and, and_true, and_self, Nat.reduceMod, Nat.reduceAdd, Nat.reduceLeDiff, Nat.reduceEqDiff, Nat.reduceLT, hw, his17, q17, hdeep, g8', e1, cond_false]
    · have g8' := eq_false g8
      rw [if_neg g8]
      refine ⟨ν, mPost_z (jRr_z hG), fun Q => ?_⟩
      simp only [x118_0, x118_1, x118_3, x118_6, x118_9, x118_10, x118_13, x118_16, x118_17, x118_20, x118_23, x118_24, x118_25, x118_26a, x118_26b, x118_27, x118_30, x118_31, x118_32, x118_35, x118_36, x118_38, x118_41, x118_42, x118_43, x118_44, x118_46, x118_49, x118_52, x118_53, x118_56, x118_59, x118_60, x118_63, x118_66, x118_67, x118_68, x118_69a, x118_69b, x118_70, x118_73, x118_74, x118_75, x118_78, x118_79, x118_81, x118_84, x118_85, x118_86, x118_88, x118_91, x118_94, x118_95, x118_97, x118_100, x118_101, x118_102, x118_105, x118_108, x118_109, x118_110, x118_111, x118_113, x118_116, x118_119, x118_121, x118_124, x118_125, x118_127, x118_130, x118_133, x118_135, x118_138, x118_139, x118_141, x118_144, x118_147, x118_149, x118_152, x118_153, x118_156, x118_159, x118_162, x118_164, x118_167, x118_168, x118_171, x118_174, x118_177, x118_179, x118_182, x118_183a, x118_183b, x118_183c, x118_184, x118_185, x118_186, x118_189, x118_190, x118_191, x118_192a, x118_192b, x118_193, x118_196, x118_197, x118_198, x118_201, x118_202, x118_205, x118_208, x118_209, x118_210, x118_211, x118_212, x118_215, x118_216, mzi, mInc, mne, mlt9, mrk, mI1, mI2, mI3, mI4, mL1, mL2, mL3, mL4, mQ1, mQ2, mQ3, mQ4, mT1, mcat0, mcat1, mcat2, mcat3, mcat4, mrf1, jK_v, jK_n, JA, mz1, if_true, if_false, ite_true, ite_false, eq_self, not_false_eq_true, Nat.zero_le, true_and, and_true, and_self, Nat.reduceMod, Nat.reduceAdd, Nat.reduceLeDiff, Nat.reduceEqDiff, Nat.reduceLT, hw, his17, q17, hdeep, g8']
      rfl
  · rw [if_neg a17]
    by_cases a24 : kd i = 24
    · rw [if_pos a24]
      have i1 := kTok_lt hT hi (by omega)
      have q17 : (kd i = 17) = False := eq_false (by omega)
      have q24 : (kd i = 24) = True := eq_true a24
      by_cases g8 : D < 8
      · have g8' := eq_true g8
        rw [if_pos g8]
        have hG1 := jRr_take (jRr_dep (D' := D + 1) hG hr) hr (kRole_0 (by omega) (by omega) (by omega)) (by omega)
        obtain ⟨ν1, p1, e1⟩ := hT9 (D + 1) (i + 1) E _ (d + 5) (by omega) hG1 (kBef_s (by omega)) i1 (by omega) (by omega) (by omega)
        have bs := kP_b hT f 9 (D + 1) (i + 1) i1
        rw [if_neg (by decide)] at bs
        generalize kP kd f 9 (D + 1) (i + 1) = q at p1 e1 bs ⊢
        obtain ⟨ok, j, l⟩ := q
        cases ok with
        | true =>
          obtain ⟨bs1, bs2⟩ := bs
          obtain ⟨bs3, bs4⟩ := bs2 rfl
          dsimp only at bs1 bs3 bs4
          obtain ⟨hG2, hB2⟩ := p1.1 rfl
          dsimp only at hG2 hB2
          have hw1 := jRf_w h0 hG2.1
          unfold jWd at hw1
          have hd1 : jI ν1 4490 10 = iN (D + 1) := hG2.2.2.1
          have hdm : iN (D + 1) - 1 = iN D := by rw [iN_pred (by omega)]; rfl
          have hG3 := jRr_dep (D' := D) hG2 hr
          have hcl : ∀ (Q : jO → jM → Prop), (Ex (d + 5) 122 0 [some (.ref 4490), some (.int 93)] [] (jsI ν1 4490 10 (iN D)) Q ↔ if kd j = 25 then Q (.inl (some (.int 1))) (jsI (jsI ν1 4490 10 (iN D)) 4490 9 (iN (j + 1))) else Q (.inl (some (.int 0))) (jsI ν1 4490 10 (iN D))) := fun Q => d_eatSign (d := d + 3) (K := 25) h0 hG3.1 hG3.2.1 bs1 (by decide) (by decide)
          have ev : kBd (true, j, l) (kT1 kd 25) = if kd j = 25 then (true, j + 1, l) else (false, j, l) := by
            unfold kT1 kBd
            by_cases q : kd j = 25
            · simp only [if_true, if_pos q, List.append_nil]
            · simp only [if_true, if_neg q, List.append_nil]
          rw [ev]
          by_cases q : kd j = 25
          · have q' := eq_true q
            rw [if_pos q]
            have j1 := kTok_lt hT bs1 (by omega)
            have hG4 := jRr_take hG3 hr (kRole_0 (by omega) (by omega) (by omega)) (by omega)
            refine ⟨_, mPost_1 hG4 (kBef_s (by omega)), fun Q => ?_⟩
            simp only [x118_0, x118_1, x118_3, x118_6, x118_9, x118_10, x118_13, x118_16, x118_17, x118_20, x118_23, x118_24, x118_25, x118_26a, x118_26b, x118_27, x118_30, x118_31, x118_32, x118_35, x118_36, x118_38, x118_41, x118_42, x118_43, x118_44, x118_46, x118_49, x118_52, x118_53, x118_56, x118_59, x118_60, x118_63, x118_66, x118_67, x118_68, x118_69a, x118_69b, x118_70, x118_73, x118_74, x118_75, x118_78, x118_79, x118_81, x118_84, x118_85, x118_86, x118_88, x118_91, x118_94, x118_95, x118_97, x118_100, x118_101, x118_102, x118_105, x118_108, x118_109, x118_110, x118_111, x118_113, x118_116, x118_119, x118_121, x118_124, x118_125, x118_127, x118_130, x118_133, x118_135, x118_138, x118_139, x118_141, x118_144, x118_147, x118_149, x118_152, x118_153, x118_156, x118_159, x118_162, x118_164, x118_167, x118_168, x118_171, x118_174, x118_177, x118_179, x118_182, x118_183a, x118_183b, x118_183c, x118_184, x118_185, x118_186, x118_189, x118_190, x118_191, x118_192a, x118_192b, x118_193, x118_196, x118_197, x118_198, x118_201, x118_202, x118_205, x118_208, x118_209, x118_210, x118_211, x118_212, x118_215, x118_216, mzi, mInc, mne, mlt9, mrk, mI1, mI2, mI3, mI4, mL1, mL2, mL3, mL4, mQ1, mQ2, mQ3, mQ4, mT1, mcat0, mcat1, mcat2, mcat3, mcat4, mrf1, jK_v, jK_n, JA, mz1, if_true, if_false, ite_true, ite_false, eq_self, not_false_eq_true, Nat.zero_le, true_and, and_true, and_self, Nat.reduceMod, Nat.reduceAdd, Nat.reduceLeDiff, Nat.reduceEqDiff, Nat.reduceLT, hw, hw1, his17, hsg24, q17, q24, hdeep, g8', e1, hd1, hdm, hcl, q', cond_true]
          · have q' := eq_false q
            rw [if_neg q]
            refine ⟨_, ⟨fun hh => Bool.noConfusion (show false = true from hh), fun _ => jRr_z hG3⟩, fun Q => ?_⟩
            simp only [x118_0, x118_1, x118_3, x118_6, x118_9, x118_10, x118_13, x118_16, x118_17, x118_20, x118_23, x118_24, x118_25, x118_26a, x118_26b, x118_27, x118_30, x118_31, x118_32, x118_35, x118_36, x118_38, x118_41, x118_42, x118_43, x118_44, x118_46, x118_49, x118_52, x118_53, x118_56, x118_59, x118_60, x118_63, x118_66, x118_67, x118_68, x118_69a, x118_69b, x118_70, x118_73, x118_74, x118_75, x118_78, x118_79, x118_81, x118_84, x118_85, x118_86, x118_88, x118_91, x118_94, x118_95, x118_97, x118_100, x118_101, x118_102, x118_105, x118_108, x118_109, x118_110, x118_111, x118_113, x118_116, x118_119, x118_121, x118_124, x118_125, x118_127, x118_130, x118_133, x118_135, x118_138, x118_139, x118_141, x118_144, x118_147, x118_149, x118_152, x118_153, x118_156, x118_159, x118_162, x118_164, x118_167, x118_168, x118_171, x118_174, x118_177, x118_179, x118_182, x118_183a, x118_183b, x118_183c, x118_184, x118_185, x118_186, x118_189, x118_190, x118_191, x118_192a, x118_192b, x118_193, x118_196, x118_197, x118_198, x118_201, x118_202, x118_205, x118_208, x118_209, x118_210, x118_211, x118_212, x118_215, x118_216, mzi, mInc, mne, mlt9, mrk, mI1, mI2, mI3, mI4, mL1, mL2, mL3, mL4, mQ1, mQ2, mQ3, mQ4, mT1, mcat0, mcat1, mcat2, mcat3, mcat4, mrf1, jK_v, jK_n, JA, mz1, if_true, if_false, ite_true, ite_false, eq_self, not_false_eq_true, Nat.zero_le, true_and, and_true, and_self, Nat.reduceMod, Nat.reduceAdd, Nat.reduceLeDiff, Nat.reduceEqDiff, Nat.reduceLT, hw, hw1, his17, hsg24, q17, q24, hdeep, g8', e1, hd1, hdm, hcl, q', cond_true, cond_false]
        | false =>
          rw [kBd_f (r := (false, j, l)) rfl]
          refine ⟨ν1, mPost_f p1 rfl, fun Q => ?_⟩
          simp only [x118_0, x118_1, x118_3, x118_6, x118_9, x118_10, x118_13, x118_16, x118_17, x118_20, x118_23, x118_24, x118_25, x118_26a, x118_26b, x118_27, x118_30, x118_31, x118_32, x118_35, x118_36, x118_38, x118_41, x118_42, x118_43, x118_44, x118_46, x118_49, x118_52, x118_53, x118_56, x118_59, x118_60, x118_63, x118_66, x118_67, x118_68, x118_69a, x118_69b, x118_70, x118_73, x118_74, x118_75, x118_78, x118_79, x118_81, x118_84, x118_85, x118_86, x118_88, x118_91, x118_94, x118_95, x118_97, x118_100, x118_101, x118_102, x118_105, x118_108, x118_109, x118_110, x118_111, x118_113, x118_116, x118_119, x118_121, x118_124, x118_125, x118_127, x118_130, x118_133, x118_135, x118_138, x118_139, x118_141, x118_144, x118_147, x118_149, x118_152, x118_153, x118_156, x118_159, x118_162, x118_164, x118_167, x118_168, x118_171, x118_174, x118_177, x118_179, x118_182, x118_183a, x118_183b, x118_183c, x118_184, x118_185, x118_186, x118_189, x118_190, x118_191, x118_192a, x118_192b, x118_193, x118_196, x118_197, x118_198, x118_201, x118_202, x118_205, x118_208, x118_209, x118_210, x118_211, x118_212, x118_215, x118_216, mzi, mInc, mne, mlt9, mrk, mI1, mI2, mI3, mI4, mL1, mL2, mL3, mL4, mQ1, mQ2, mQ3, mQ4, mT1, mcat0, mcat1, mcat2, mcat3, mcat4, mrf1, jK_v, jK_n, JA, mz1, if_true, if_false, ite_true, ite_false, eq_self, not_false_eq_true, Nat.zero_le, true_and, and_true, and_self, Nat.reduceMod, Nat.reduceAdd, Nat.reduceLeDiff, Nat.reduceEqDiff, Nat.reduceLT, hw, his17, hsg24, q17, q24, hdeep, g8', e1, cond_false]
      · have g8' := eq_false g8
        rw [if_neg g8]
        refine ⟨ν, mPost_z (jRr_z hG), fun Q => ?_⟩
        simp only [x118_0, x118_1, x118_3, x118_6, x118_9, x118_10, x118_13, x118_16, x118_17, x118_20, x118_23, x118_24, x118_25, x118_26a, x118_26b, x118_27, x118_30, x118_31, x118_32, x118_35, x118_36, x118_38, x118_41, x118_42, x118_43, x118_44, x118_46, x118_49, x118_52, x118_53, x118_56, x118_59, x118_60, x118_63, x118_66, x118_67, x118_68, x118_69a, x118_69b, x118_70, x118_73, x118_74, x118_75, x118_78, x118_79, x118_81, x118_84, x118_85, x118_86, x118_88, x118_91, x118_94, x118_95, x118_97, x118_100, x118_101, x118_102, x118_105, x118_108, x118_109, x118_110, x118_111, x118_113, x118_116, x118_119, x118_121, x118_124, x118_125, x118_127, x118_130, x118_133, x118_135, x118_138, x118_139, x118_141, x118_144, x118_147, x118_149, x118_152, x118_153, x118_156, x118_159, x118_162, x118_164, x118_167, x118_168, x118_171, x118_174, x118_177, x118_179, x118_182, x118_183a, x118_183b, x118_183c, x118_184, x118_185, x118_186, x118_189, x118_190, x118_191, x118_192a, x118_192b, x118_193, x118_196, x118_197, x118_198, x118_201, x118_202, x118_205, x118_208, x118_209, x118_210, x118_211, x118_212, x118_215, x118_216, mzi, mInc, mne, mlt9, mrk, mI1, mI2, mI3, mI4, mL1, mL2, mL3, mL4, mQ1, mQ2, mQ3, mQ4, mT1, mcat0, mcat1, mcat2, mcat3, mcat4, mrf1, jK_v, jK_n, JA, mz1, if_true, if_false, ite_true, ite_false, eq_self, not_false_eq_true, Nat.zero_le, true_and, and_true, and_self, Nat.reduceMod, Nat.reduceAdd, Nat.reduceLeDiff, Nat.reduceEqDiff, Nat.reduceLT, hw, his17, hsg24, q17, q24, hdeep, g8']
        rfl
    · rw [if_neg a24]
      by_cases a16 : kd i = 16
      · rw [if_pos a16]
        have q17 : (kd i = 17) = False := eq_false (by omega)
        have q24 : (kd i = 24) = False := eq_false (by omega)
        have q16 : (kd i = 16) = True := eq_true a16
        obtain ⟨ν1, p1, e1⟩ := d_named (x := 15) h0 hG a16 (by decide) hi hE (fun h37 => by
          unfold kRole
          rw [if_pos h37, Nat.add_sub_cancel, a16]
          rfl)
        refine ⟨ν1, p1, fun Q => ?_⟩
        have e1' : ∀ (Q : jO → jM → Prop), (Ex (d + 5) 123 0 [some (.ref 4490), some (.int 15)] [] ν Q ↔ Q (.inl (some (.int (bif (if kd (i + 1) = 37 then (true, i + 2, [(16, i + 1)]) else kNo (i + 1) : kR).1 then 1 else 0)))) ν1) := fun Q => e1 (d + 2) Q
        simp only [x118_0, x118_1, x118_3, x118_6, x118_9, x118_10, x118_13, x118_16, x118_17, x118_20, x118_23, x118_24, x118_25, x118_26a, x118_26b, x118_27, x118_30, x118_31, x118_32, x118_35, x118_36, x118_38, x118_41, x118_42, x118_43, x118_44, x118_46, x118_49, x118_52, x118_53, x118_56, x118_59, x118_60, x118_63, x118_66, x118_67, x118_68, x118_69a, x118_69b, x118_70, x118_73, x118_74, x118_75, x118_78, x118_79, x118_81, x118_84, x118_85, x118_86, x118_88, x118_91, x118_94, x118_95, x118_97, x118_100, x118_101, x118_102, x118_105, x118_108, x118_109, x118_110, x118_111, x118_113, x118_116, x118_119, x118_121, x118_124, x118_125, x118_127, x118_130, x118_133, x118_135, x118_138, x118_139, x118_141, x118_144, x118_147, x118_149, x118_152, x118_153, x118_156, x118_159, x118_162, x118_164, x118_167, x118_168, x118_171, x118_174, x118_177, x118_179, x118_182, x118_183a, x118_183b, x118_183c, x118_184, x118_185, x118_186, x118_189, x118_190, x118_191, x118_192a, x118_192b, x118_193, x118_196, x118_197, x118_198, x118_201, x118_202, x118_205, x118_208, x118_209, x118_210, x118_211, x118_212, x118_215, x118_216, mzi, mInc, mne, mlt9, mrk, mI1, mI2, mI3, mI4, mL1, mL2, mL3, mL4, mQ1, mQ2, mQ3, mQ4, mT1, mcat0, mcat1, mcat2, mcat3, mcat4, mrf1, jK_v, jK_n, JA, mz1, if_true, if_false, ite_true, ite_false, eq_self, not_false_eq_true, Nat.zero_le, true_and, and_true, and_self, Nat.reduceMod, Nat.reduceAdd, Nat.reduceLeDiff, Nat.reduceEqDiff, Nat.reduceLT, hw, his17, hsg24, his16, q17, q24, q16, e1', jr1]
      · rw [if_neg a16]
        have q17 := eq_false a17
        have q24 := eq_false a24
        have q16 := eq_false a16
        obtain ⟨ν1, p1, e1⟩ := hs D i E ν (d + 5) hD hG hB hi hE (by omega) (by omega)
        have bs := kP_b hT f 4 D i hi
        rw [if_neg (by decide)] at bs
        generalize kP kd f 4 D i = q at p1 e1 bs ⊢
        obtain ⟨ok, j, l⟩ := q
        cases ok with
        | false =>
          rw [kBd_f (r := (false, j, l)) rfl]
          refine ⟨ν1, mPost_f p1 rfl, fun Q => ?_⟩
          simp only [x118_0, x118_1, x118_3, x118_6, x118_9, x118_10, x118_13, x118_16, x118_17, x118_20, x118_23, x118_24, x118_25, x118_26a, x118_26b, x118_27, x118_30, x118_31, x118_32, x118_35, x118_36, x118_38, x118_41, x118_42, x118_43, x118_44, x118_46, x118_49, x118_52, x118_53, x118_56, x118_59, x118_60, x118_63, x118_66, x118_67, x118_68, x118_69a, x118_69b, x118_70, x118_73, x118_74, x118_75, x118_78, x118_79, x118_81, x118_84, x118_85, x118_86, x118_88, x118_91, x118_94, x118_95, x118_97, x118_100, x118_101, x118_102, x118_105, x118_108, x118_109, x118_110, x118_111, x118_113, x118_116, x118_119, x118_121, x118_124, x118_125, x118_127, x118_130, x118_133, x118_135, x118_138, x118_139, x118_141, x118_144, x118_147, x118_149, x118_152, x118_153, x118_156, x118_159, x118_162, x118_164, x118_167, x118_168, x118_171, x118_174, x118_177, x118_179, x118_182, x118_183a, x118_183b, x118_183c, x118_184, x118_185, x118_186, x118_189, x118_190, x118_191, x118_192a, x118_192b, x118_193, x118_196, x118_197, x118_198, x118_201, x118_202, x118_205, x118_208, x118_209, x118_210, x118_211, x118_212, x118_215, x118_216, mzi, mInc, mne, mlt9, mrk, mI1, mI2, mI3, mI4, mL1, mL2, mL3, mL4, mQ1, mQ2, mQ3, mQ4, mT1, mcat0, mcat1, mcat2, mcat3, mcat4, mrf1, jK_v, jK_n, JA, mz1, if_true, if_false, ite_true, ite_false, eq_self, not_false_eq_true, Nat.zero_le, true_and, and_true, and_self, Nat.reduceMod, Nat.reduceAdd, Nat.reduceLeDiff, Nat.reduceEqDiff, Nat.reduceLT, hw, his17, hsg24, his16, q17, q24, q16, e1, cond_false]
        | true =>
          obtain ⟨bs1, bs2⟩ := bs
          obtain ⟨bs3, bs4⟩ := bs2 rfl
          dsimp only at bs1 bs3 bs4
          obtain ⟨hG2, hB2⟩ := p1.1 rfl
          dsimp only at hG2 hB2
          have hw1 := jRf_w h0 hG2.1
          unfold jWd at hw1
          have ht1 := hG2.2.1
          have hsg32j : ∀ (Q : jO → jM → Prop), (Ex (d + 5) 121 0 [some (.ref 4490), some (.int 60)] [] ν1 Q ↔ Q (.inl (some (.int (if kd (j) = 32 then 1 else 0)))) ν1) := fun Q => d_isSign (K := 32) h0 hG2.1 ht1 bs1 (by decide) (by decide)
          have hsg33j : ∀ (Q : jO → jM → Prop), (Ex (d + 5) 121 0 [some (.ref 4490), some (.int 62)] [] ν1 Q ↔ Q (.inl (some (.int (if kd (j) = 33 then 1 else 0)))) ν1) := fun Q => d_isSign (K := 33) h0 hG2.1 ht1 bs1 (by decide) (by decide)
          have hsg34j : ∀ (Q : jO → jM → Prop), (Ex (d + 5) 121 0 [some (.ref 4490), some (.int 61)] [] ν1 Q ↔ Q (.inl (some (.int (if kd (j) = 34 then 1 else 0)))) ν1) := fun Q => d_isSign (K := 34) h0 hG2.1 ht1 bs1 (by decide) (by decide)
          have his35j : ∀ (Q : jO → jM → Prop), (Ex (d + 5) 109 0 [some (.ref 4490), some (.int 300)] [] ν1 Q ↔ Q (.inl (some (.int (if kd j = 35 then 1 else 0)))) ν1) := fun Q => d_is (K := 35) h0 hG2.1 ht1 bs1 (by decide)
          have his36j : ∀ (Q : jO → jM → Prop), (Ex (d + 5) 109 0 [some (.ref 4490), some (.int 301)] [] ν1 Q ↔ Q (.inl (some (.int (if kd j = 36 then 1 else 0)))) ν1) := fun Q => d_is (K := 36) h0 hG2.1 ht1 bs1 (by decide)
          have ev : kBd (true, j, l) (kCm kd (kP kd f) D) = ((kCm kd (kP kd f) D j).1, (kCm kd (kP kd f) D j).2.1, l ++ (kCm kd (kP kd f) D j).2.2) := rfl
          rw [ev]
          unfold kCm
          by_cases c : kd j = 32 ∨ kd j = 33 ∨ kd j = 34 ∨ kd j = 35 ∨ kd j = 36
          · rw [if_pos c]
            have j1 := kTok_lt hT bs1 (by omega)
            have hcd : kTwo (kd j) = false := by rcases c with e | e | e | e | e <;> rw [e] <;> rfl
            have hpre : ∀ Q : jO → jM → Prop, Ex (d + 6) 118 0 [some (.ref 4490), none] [] ν Q ↔ Ex (d + 6) 118 201 [some (.ref 4490), some (.int (iN (kCd (kd j))))] [] (jsI ν1 4490 9 (iN (j + 1))) Q := by
              intro Q
              by_cases c32 : kd j = 32
              · skip
                have r32 : (kd j = 32) = True := eq_true c32
                rw [c32]
                simp only [x118_0, x118_1, x118_3, x118_6, x118_9, x118_10, x118_13, x118_16, x118_17, x118_20, x118_23, x118_24, x118_25, x118_26a, x118_26b, x118_27, x118_30, x118_31, x118_32, x118_35, x118_36, x118_38, x118_41, x118_42, x118_43, x118_44, x118_46, x118_49, x118_52, x118_53, x118_56, x118_59, x118_60, x118_63, x118_66, x118_67, x118_68, x118_69a, x118_69b, x118_70, x118_73, x118_74, x118_75, x118_78, x118_79, x118_81, x118_84, x118_85, x118_86, x118_88, x118_91, x118_94, x118_95, x118_97, x118_100, x118_101, x118_102, x118_105, x118_108, x118_109, x118_110, x118_111, x118_113, x118_116, x118_119, x118_121, x118_124, x118_125, x118_127, x118_130, x118_133, x118_135, x118_138, x118_139, x118_141, x118_144, x118_147, x118_149, x118_152, x118_153, x118_156, x118_159, x118_162, x118_164, x118_167, x118_168, x118_171, x118_174, x118_177, x118_179, x118_182, x118_183a, x118_183b, x118_183c, x118_184, x118_185, x118_186, x118_189, x118_190, x118_191, x118_192a, x118_192b, x118_193, x118_196, x118_197, x118_198, mzi, mInc, mne, mlt9, mrk, mI1, mI2, mI3, mI4, mL1, mL2, mL3, mL4, mQ1, mQ2, mQ3, mQ4, mT1, mcat0, mcat1, mcat2, mcat3, mcat4, mrf1, jK_v, jK_n, JA, mz1, if_true, if_false, ite_true, ite_false, eq_self, not_false_eq_true, Nat.zero_le, true_and, and_true, and_self, Nat.reduceMod, Nat.reduceAdd, Nat.reduceLeDiff, Nat.reduceEqDiff, Nat.reduceLT, hw, hw1, ht1, his17, hsg24, his16, q17, q24, q16, e1, cond_true, hsg32j, r32]
                rfl
              · skip
                by_cases c33 : kd j = 33
                · skip
                  have r32 : (kd j = 32) = False := eq_false (by omega)
                  have r33 : (kd j = 33) = True := eq_true c33
                  rw [c33]
                  simp only [x118_0, x118_1, x118_3, x118_6, x118_9, x118_10, x118_13, x118_16, x118_17, x118_20, x118_23, x118_24, x118_25, x118_26a, x118_26b, x118_27, x118_30, x118_31, x118_32, x118_35, x118_36, x118_38, x118_41, x118_42, x118_43, x118_44, x118_46, x118_49, x118_52, x118_53, x118_56, x118_59, x118_60, x118_63, x118_66, x118_67, x118_68, x118_69a, x118_69b, x118_70, x118_73, x118_74, x118_75, x118_78, x118_79, x118_81, x118_84, x118_85, x118_86, x118_88, x118_91, x118_94, x118_95, x118_97, x118_100, x118_101, x118_102, x118_105, x118_108, x118_109, x118_110, x118_111, x118_113, x118_116, x118_119, x118_121, x118_124, x118_125, x118_127, x118_130, x118_133, x118_135, x118_138, x118_139, x118_141, x118_144, x118_147, x118_149, x118_152, x118_153, x118_156, x118_159, x118_162, x118_164, x118_167, x118_168, x118_171, x118_174, x118_177, x118_179, x118_182, x118_183a, x118_183b, x118_183c, x118_184, x118_185, x118_186, x118_189, x118_190, x118_191, x118_192a, x118_192b, x118_193, x118_196, x118_197, x118_198, mzi, mInc, mne, mlt9, mrk, mI1, mI2, mI3, mI4, mL1, mL2, mL3, mL4, mQ1, mQ2, mQ3, mQ4, mT1, mcat0, mcat1, mcat2, mcat3, mcat4, mrf1, jK_v, jK_n, JA, mz1, if_true, if_false, ite_true, ite_false, eq_self, not_false_eq_true, Nat.zero_le, true_and, and_true, and_self, Nat.reduceMod, Nat.reduceAdd, Nat.reduceLeDiff, Nat.reduceEqDiff, Nat.reduceLT, hw, hw1, ht1, his17, hsg24, his16, q17, q24, q16, e1, cond_true, hsg32j, r32, hsg33j, r33]
                  rfl
                · skip
                  by_cases c34 : kd j = 34
                  · skip
                    have r32 : (kd j = 32) = False := eq_false (by omega)
                    have r33 : (kd j = 33) = False := eq_false (by omega)
                    have r34 : (kd j = 34) = True := eq_true c34
                    rw [c34]
                    simp only [x118_0, x118_1, x118_3, x118_6, x118_9, x118_10, x118_13, x118_16, x118_17, x118_20, x118_23, x118_24, x118_25, x118_26a, x118_26b, x118_27, x118_30, x118_31, x118_32, x118_35, x118_36, x118_38, x118_41, x118_42, x118_43, x118_44, x118_46, x118_49, x118_52, x118_53, x118_56, x118_59, x118_60, x118_63, x118_66, x118_67, x118_68, x118_69a, x118_69b, x118_70, x118_73, x118_74, x118_75, x118_78, x118_79, x118_81, x118_84, x118_85, x118_86, x118_88, x118_91, x118_94, x118_95, x118_97, x118_100, x118_101, x118_102, x118_105, x118_108, x118_109, x118_110, x118_111, x118_113, x118_116, x118_119, x118_121, x118_124, x118_125, x118_127, x118_130, x118_133, x118_135, x118_138, x118_139, x118_141, x118_144, x118_147, x118_149, x118_152, x118_153, x118_156, x118_159, x118_162, x118_164, x118_167, x118_168, x118_171, x118_174, x118_177, x118_179, x118_182, x118_183a, x118_183b, x118_183c, x118_184, x118_185, x118_186, x118_189, x118_190, x118_191, x118_192a, x118_192b, x118_193, x118_196, x118_197, x118_198, mzi, mInc, mne, mlt9, mrk, mI1, mI2, mI3, mI4, mL1, mL2, mL3, mL4, mQ1, mQ2, mQ3, mQ4, mT1, mcat0, mcat1, mcat2, mcat3, mcat4, mrf1, jK_v, jK_n, JA, mz1, if_true, if_false, ite_true, ite_false, eq_self, not_false_eq_true, Nat.zero_le, true_and, and_true, and_self, Nat.reduceMod, Nat.reduceAdd, Nat.reduceLeDiff, Nat.reduceEqDiff, Nat.reduceLT, hw, hw1, ht1, his17, hsg24, his16, q17, q24, q16, e1, cond_true, hsg32j, r32, hsg33j, r33, hsg34j, r34]
                    rfl
                  · skip
                    by_cases c35 : kd j = 35
                    · skip
                      have r32 : (kd j = 32) = False := eq_false (by omega)
                      have r33 : (kd j = 33) = False := eq_false (by omega)
                      have r34 : (kd j = 34) = False := eq_false (by omega)
                      have r35 : (kd j = 35) = True := eq_true c35
                      rw [c35]
                      simp only [x118_0, x118_1, x118_3, x118_6, x118_9, x118_10, x118_13, x118_16, x118_17, x118_20, x118_23, x118_24, x118_25, x118_26a, x118_26b, x118_27, x118_30, x118_31, x118_32, x118_35, x118_36, x118_38, x118_41, x118_42, x118_43, x118_44, x118_46, x118_49, x118_52, x118_53, x118_56, x118_59, x118_60, x118_63, x118_66, x118_67, x118_68, x118_69a, x118_69b, x118_70, x118_73, x118_74, x118_75, x118_78, x118_79, x118_81, x118_84, x118_85, x118_86, x118_88, x118_91, x118_94, x118_95, x118_97, x118_100, x118_101, x118_102, x118_105, x118_108, x118_109, x118_110, x118_111, x118_113, x118_116, x118_119, x118_121, x118_124, x118_125, x118_127, x118_130, x118_133, x118_135, x118_138, x118_139, x118_141, x118_144, x118_147, x118_149, x118_152, x118_153, x118_156, x118_159, x118_162, x118_164, x118_167, x118_168, x118_171, x118_174, x118_177, x118_179, x118_182, x118_183a, x118_183b, x118_183c, x118_184, x118_185, x118_186, x118_189, x118_190, x118_191, x118_192a, x118_192b, x118_193, x118_196, x118_197, x118_198, mzi, mInc, mne, mlt9, mrk, mI1, mI2, mI3, mI4, mL1, mL2, mL3, mL4, mQ1, mQ2, mQ3, mQ4, mT1, mcat0, mcat1, mcat2, mcat3, mcat4, mrf1, jK_v, jK_n, JA, mz1, if_true, if_false, ite_true, ite_false, eq_self, not_false_eq_true, Nat.zero_le, true_and, and_true, and_self, Nat.reduceMod, Nat.reduceAdd, Nat.reduceLeDiff, Nat.reduceEqDiff, Nat.reduceLT, hw, hw1, ht1, his17, hsg24, his16, q17, q24, q16, e1, cond_true, hsg32j, r32, hsg33j, r33, hsg34j, r34, his35j, r35]
                      rfl
                    · skip
                      have c36 : kd j = 36 := by omega
                      have r32 : (kd j = 32) = False := eq_false (by omega)
                      have r33 : (kd j = 33) = False := eq_false (by omega)
                      have r34 : (kd j = 34) = False := eq_false (by omega)
                      have r35 : (kd j = 35) = False := eq_false (by omega)
                      have r36 : (kd j = 36) = True := eq_true c36
                      rw [c36]
                      simp only [x118_0, x118_1, x118_3, x118_6, x118_9, x118_10, x118_13, x118_16, x118_17, x118_20, x118_23, x118_24, x118_25, x118_26a, x118_26b, x118_27, x118_30, x118_31, x118_32, x118_35, x118_36, x118_38, x118_41, x118_42, x118_43, x118_44, x118_46, x118_49, x118_52, x118_53, x118_56, x118_59, x118_60, x118_63, x118_66, x118_67, x118_68, x118_69a, x118_69b, x118_70, x118_73, x118_74, x118_75, x118_78, x118_79, x118_81, x118_84, x118_85, x118_86, x118_88, x118_91, x118_94, x118_95, x118_97, x118_100, x118_101, x118_102, x118_105, x118_108, x118_109, x118_110, x118_111, x118_113, x118_116, x118_119, x118_121, x118_124, x118_125, x118_127, x118_130, x118_133, x118_135, x118_138, x118_139, x118_141, x118_144, x118_147, x118_149, x118_152, x118_153, x118_156, x118_159, x118_162, x118_164, x118_167, x118_168, x118_171, x118_174, x118_177, x118_179, x118_182, x118_183a, x118_183b, x118_183c, x118_184, x118_185, x118_186, x118_189, x118_190, x118_191, x118_192a, x118_192b, x118_193, x118_196, x118_197, x118_198, mzi, mInc, mne, mlt9, mrk, mI1, mI2, mI3, mI4, mL1, mL2, mL3, mL4, mQ1, mQ2, mQ3, mQ4, mT1, mcat0, mcat1, mcat2, mcat3, mcat4, mrf1, jK_v, jK_n, JA, mz1, if_true, if_false, ite_true, ite_false, eq_self, not_false_eq_true, Nat.zero_le, true_and, and_true, and_self, Nat.reduceMod, Nat.reduceAdd, Nat.reduceLeDiff, Nat.reduceEqDiff, Nat.reduceLT, hw, hw1, ht1, his17, hsg24, his16, q17, q24, q16, e1, cond_true, hsg32j, r32, hsg33j, r33, hsg34j, r34, his35j, r35, his36j, r36]
                      rfl
            have hG3 := jRr_take hG2 hr (kRole_0 (by omega) (by omega) (by omega)) (by omega)
            obtain ⟨ν2, p2, e2⟩ := hs D (j + 1) (E ++ l) _ (d + 5) hD hG3 (kBef_s (by omega)) j1 (by rw [List.length_append]; omega) (by omega) (by omega)
            have bt := kP_b hT f 4 D (j + 1) j1
            rw [if_neg (by decide)] at bt
            generalize kP kd f 4 D (j + 1) = q2 at p2 e2 bt ⊢
            obtain ⟨ok2, k, l2⟩ := q2
            cases ok2 with
            | false =>
              rw [kBd_f (r := (false, k, l2)) rfl]
              refine ⟨ν2, ⟨fun hh => Bool.noConfusion (show false = true from hh), fun _ => p2.2 rfl⟩, fun Q => ?_⟩
              rw [hpre]
              simp only [x118_0, x118_1, x118_3, x118_6, x118_9, x118_10, x118_13, x118_16, x118_17, x118_20, x118_23, x118_24, x118_25, x118_26a, x118_26b, x118_27, x118_30, x118_31, x118_32, x118_35, x118_36, x118_38, x118_41, x118_42, x118_43, x118_44, x118_46, x118_49, x118_52, x118_53, x118_56, x118_59, x118_60, x118_63, x118_66, x118_67, x118_68, x118_69a, x118_69b, x118_70, x118_73, x118_74, x118_75, x118_78, x118_79, x118_81, x118_84, x118_85, x118_86, x118_88, x118_91, x118_94, x118_95, x118_97, x118_100, x118_101, x118_102, x118_105, x118_108, x118_109, x118_110, x118_111, x118_113, x118_116, x118_119, x118_121, x118_124, x118_125, x118_127, x118_130, x118_133, x118_135, x118_138, x118_139, x118_141, x118_144, x118_147, x118_149, x118_152, x118_153, x118_156, x118_159, x118_162, x118_164, x118_167, x118_168, x118_171, x118_174, x118_177, x118_179, x118_182, x118_183a, x118_183b, x118_183c, x118_184, x118_185, x118_186, x118_189, x118_190, x118_191, x118_192a, x118_192b, x118_193, x118_196, x118_197, x118_198, x118_201, x118_202, x118_205, x118_208, x118_209, x118_210, x118_211, x118_212, x118_215, x118_216, mzi, mInc, mne, mlt9, mrk, mI1, mI2, mI3, mI4, mL1, mL2, mL3, mL4, mQ1, mQ2, mQ3, mQ4, mT1, mcat0, mcat1, mcat2, mcat3, mcat4, mrf1, jK_v, jK_n, JA, mz1, if_true, if_false, ite_true, ite_false, eq_self, not_false_eq_true, Nat.zero_le, true_and, and_true, and_self, Nat.reduceMod, Nat.reduceAdd, Nat.reduceLeDiff, Nat.reduceEqDiff, Nat.reduceLT, e2, cond_false]
            | true =>
              obtain ⟨bt1, bt2⟩ := bt
              obtain ⟨bt3, bt4⟩ := bt2 rfl
              dsimp only at bt1 bt3 bt4
              obtain ⟨hG5, hB5⟩ := p2.1 rfl
              dsimp only at hG5 hB5
              have l1 : kWds (E ++ l ++ l2) < 799 := kW_lt (i := k) hT (by rw [List.length_append, List.length_append]; omega) bt1
              have hput : ∀ (Q : jO → jM → Prop), (Ex (d + 5) 120 0 [some (.ref 4490), some (.int (iN (kCd (kd j))))] [] ν2 Q ↔ Q (.inl none) (kPutM ν2 r (kWds (E ++ l ++ l2)) (iN (kCd (kd j))))) := fun Q => d_put h0 hG5.1 hG5.2.2.2.1 (by omega)
              have hG6 := jRr_put (K := kd j) (t := j) hG5 hr hcd
              have hG7 : jRr μ (kPutM ν2 r (kWds (E ++ l ++ l2)) (iN (kCd (kd j)))) r kd num N k D (E ++ (l ++ (l2 ++ [(kd j, j)]))) := by
                rw [← List.append_assoc, ← List.append_assoc]
                exact hG6
              refine ⟨_, mPost_1 hG7 hB5, fun Q => ?_⟩
              rw [hpre]
              simp only [x118_0, x118_1, x118_3, x118_6, x118_9, x118_10, x118_13, x118_16, x118_17, x118_20, x118_23, x118_24, x118_25, x118_26a, x118_26b, x118_27, x118_30, x118_31, x118_32, x118_35, x118_36, x118_38, x118_41, x118_42, x118_43, x118_44, x118_46, x118_49, x118_52, x118_53, x118_56, x118_59, x118_60, x118_63, x118_66, x118_67, x118_68, x118_69a, x118_69b, x118_70, x118_73, x118_74, x118_75, x118_78, x118_79, x118_81, x118_84, x118_85, x118_86, x118_88, x118_91, x118_94, x118_95, x118_97, x118_100, x118_101, x118_102, x118_105, x118_108, x118_109, x118_110, x118_111, x118_113, x118_116, x118_119, x118_121, x118_124, x118_125, x118_127, x118_130, x118_133, x118_135, x118_138, x118_139, x118_141, x118_144, x118_147, x118_149, x118_152, x118_153, x118_156, x118_159, x118_162, x118_164, x118_167, x118_168, x118_171, x118_174, x118_177, x118_179, x118_182, x118_183a, x118_183b, x118_183c, x118_184, x118_185, x118_186, x118_189, x118_190, x118_191, x118_192a, x118_192b, x118_193, x118_196, x118_197, x118_198, x118_201, x118_202, x118_205, x118_208, x118_209, x118_210, x118_211, x118_212, x118_215, x118_216, mzi, mInc, mne, mlt9, mrk, mI1, mI2, mI3, mI4, mL1, mL2, mL3, mL4, mQ1, mQ2, mQ3, mQ4, mT1, mcat0, mcat1, mcat2, mcat3, mcat4, mrf1, jK_v, jK_n, JA, mz1, if_true, if_false, ite_true, ite_false, eq_self, not_false_eq_true, Nat.zero_le, true_and, and_true, and_self, Nat.reduceMod, Nat.reduceAdd, Nat.reduceLeDiff, Nat.reduceEqDiff, Nat.reduceLT, e2, hput, cond_true]
              rfl
          · rw [if_neg c]
            refine ⟨ν1, ⟨fun hh => Bool.noConfusion (show false = true from hh), fun _ => jRr_z hG2⟩, fun Q => ?_⟩
            have r32 : (kd j = 32) = False := eq_false (by omega)
            have r33 : (kd j = 33) = False := eq_false (by omega)
            have r34 : (kd j = 34) = False := eq_false (by omega)
            have r35 : (kd j = 35) = False := eq_false (by omega)
            have r36 : (kd j = 36) = False := eq_false (by omega)
            simp only [x118_0, x118_1, x118_3, x118_6, x118_9, x118_10, x118_13, x118_16, x118_17, x118_20, x118_23, x118_24, x118_25, x118_26a, x118_26b, x118_27, x118_30, x118_31, x118_32, x118_35, x118_36, x118_38, x118_41, x118_42, x118_43, x118_44, x118_46, x118_49, x118_52, x118_53, x118_56, x118_59, x118_60, x118_63, x118_66, x118_67, x118_68, x118_69a, x118_69b, x118_70, x118_73, x118_74, x118_75, x118_78, x118_79, x118_81, x118_84, x118_85, x118_86, x118_88, x118_91, x118_94, x118_95, x118_97, x118_100, x118_101, x118_102, x118_105, x118_108, x118_109, x118_110, x118_111, x118_113, x118_116, x118_119, x118_121, x118_124, x118_125, x118_127, x118_130, x118_133, x118_135, x118_138, x118_139, x118_141, x118_144, x118_147, x118_149, x118_152, x118_153, x118_156, x118_159, x118_162, x118_164, x118_167, x118_168, x118_171, x118_174, x118_177, x118_179, x118_182, x118_183a, x118_183b, x118_183c, x118_184, x118_185, x118_186, x118_189, x118_190, x118_191, x118_192a, x118_192b, x118_193, x118_196, x118_197, x118_198, x118_201, x118_202, x118_205, x118_208, x118_209, x118_210, x118_211, x118_212, x118_215, x118_216, mzi, mInc, mne, mlt9, mrk, mI1, mI2, mI3, mI4, mL1, mL2, mL3, mL4, mQ1, mQ2, mQ3, mQ4, mT1, mcat0, mcat1, mcat2, mcat3, mcat4, mrf1, jK_v, jK_n, JA, mz1, if_true, if_false, ite_true, ite_false, eq_self, not_false_eq_true, Nat.zero_le, true_and, and_true, and_self, Nat.reduceMod, Nat.reduceAdd, Nat.reduceLeDiff, Nat.reduceEqDiff, Nat.reduceLT, hw, hw1, ht1, his17, hsg24, his16, q17, q24, q16, e1, cond_true, hsg32j, hsg33j, hsg34j, his35j, his36j, r32, r33, r34, r35, r36]
            rfl
/-- all parts of the grammar -/
def mAll (μ : jM) (r : Nat) (kd : Nat → Nat) (num : Nat → Int32) (N f : Nat) : Prop := mM μ r kd num N 126 [none, none] 1 0 f ∧ mL μ r kd num N 125 true 2 1 f ∧ mM μ r kd num N 125 [none] 2 2 f ∧ mL μ r kd num N 124 true 3 3 f ∧ mM μ r kd num N 124 [none] 3 4 f ∧ mM μ r kd num N 118 [none] 5 5 f ∧ mL μ r kd num N 117 false 6 6 f ∧ mM μ r kd num N 117 [] 6 7 f ∧ mL μ r kd num N 116 false 7 8 f ∧ mM μ r kd num N 116 [] 7 9 f
theorem m_all (h0 : jR0 μ r kd N b sz) (hnum : ∀ t, num t = kNm b (kTs b sz t) (kTl b sz t)) : ∀ f, mAll μ r kd num N f := by
  have hN := h0.2.1.2.1
  have z1 : ∀ m tail rk mode, mM μ r kd num N m tail rk mode 0 := fun m tail rk mode D i E ν d _ _ _ hi _ hf _ => absurd hf (by omega)
  have z2 : ∀ m loc rk mode, mL μ r kd num N m loc rk mode 0 := fun m loc rk mode D i E ν d b1 _ _ _ hi _ hf _ => absurd hf (by omega)
  intro f
  induction f with
  | zero => exact ⟨z1 _ _ _ _, z2 _ _ _ _, z1 _ _ _ _, z2 _ _ _ _, z1 _ _ _ _, z1 _ _ _ _, z2 _ _ _ _, z1 _ _ _ _, z2 _ _ _ _, z1 _ _ _ _⟩
  | succ f ih =>
    obtain ⟨v, pl, p, sl, s, g, bl, b, tl, t⟩ := ih
    exact ⟨d_gVal h0 hnum v s, d_gProdL h0 v pl, d_gProd h0 v pl, d_gSumL h0 p sl, d_gSum h0 p sl, d_gSing h0 g t s, d_gBothL h0 g bl, d_gBoth h0 g bl, d_gTestL h0 b tl, d_gTest h0 b tl⟩
end GRM4
