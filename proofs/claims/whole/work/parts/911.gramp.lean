/-! THE PURE PART: plans (class). -/
/-- tokens one behind the other -/
def kTks (kd : Nat → Nat) : List Nat → Nat → kR
  | [], i => (true, i, [])
  | K :: r, i => if kd i = K then kTks kd r (i + 1) else kNo i
def kPiece (kd : Nat → Nat) (f i : Nat) : kR := if kd i = 0 then kTks kd [37, 1, 38] (i + 1) else if kd i = 2 then kTks kd [37, 3, 37, 4, 38] (i + 1) else if kd i = 5 then kTks kd [37, 6, 37, 7, 37, 8, 38, 9, 38] (i + 1) else
  if kd i = 10 then kBd (kBd (kTks kd [37, 11] (i + 1)) (kP kd f 9 0)) (kEm 10 (i + 1)) else kNo i
def kPlan (kd : Nat → Nat) (f : Nat) : Nat → Nat → kR
  | 0, i => kNo i
  | g + 1, i => if kd i = 39 then (true, i, []) else kBd (kBd (kPiece kd f i) (kT1 kd 26)) (kPlan kd f g)
theorem kTks_b {kd : Nat → Nat} {N : Nat} (h : kTok kd N) : ∀ (L : List Nat) (i : Nat), i ≤ N - 1 → (∀ K ∈ L, K < 39) → kBnd N i 0 (kTks kd L i)
  | [], i, hi, _ => ⟨hi, fun _ => ⟨Nat.le_refl _, Nat.le_refl _⟩⟩
  | K :: r, i, hi, hK => by
    unfold kTks
    by_cases g : kd i = K
    · rw [if_pos g]
      have i1 := kTok_lt h hi (by rw [g]; exact hK K (List.mem_cons_self ..))
      exact kBnd_w (kBnd_1 (kTks_b h r (i + 1) i1 fun K hm => hK K (List.mem_cons_of_mem _ hm))) (Nat.zero_le _)
    · rw [if_neg g]
      exact kBnd_no hi
theorem kPiece_b {kd : Nat → Nat} {N : Nat} (h : kTok kd N) {f i : Nat} (hi : i ≤ N - 1) : kBnd N i 1 (kPiece kd f i) := by
  unfold kPiece
  by_cases a : kd i = 0
  · rw [if_pos a]
    exact kBnd_w (kBnd_1 (kTks_b h _ _ (kTok_lt h hi (by omega)) (by decide))) (by omega)
  · rw [if_neg a]
    by_cases a : kd i = 2
    · rw [if_pos a]
      exact kBnd_w (kBnd_1 (kTks_b h _ _ (kTok_lt h hi (by omega)) (by decide))) (by omega)
    · rw [if_neg a]
      by_cases a : kd i = 5
      · rw [if_pos a]
        exact kBnd_w (kBnd_1 (kTks_b h _ _ (kTok_lt h hi (by omega)) (by decide))) (by omega)
      · rw [if_neg a]
        by_cases a : kd i = 10
        · rw [if_pos a]
          have b1 := kTks_b h [37, 11] (i + 1) (kTok_lt h hi (by omega)) (by decide)
          have b2 := kBnd_bd (c' := 1) b1 fun hh => by
            have := kP_b h f 9 0 _ b1.1
            rw [if_neg (by decide)] at this
            exact this
          exact kBnd_w (kBnd_em b2) (by omega)
        · rw [if_neg a]
          exact kBnd_no hi
theorem kPlan_b {kd : Nat → Nat} {N f : Nat} (h : kTok kd N) : ∀ g i, i ≤ N - 1 → kBnd N i 0 (kPlan kd f g i)
  | 0, i, hi => kBnd_no hi
  | g + 1, i, hi => by
    unfold kPlan
    by_cases a : kd i = 39
    · rw [if_pos a]
      exact ⟨hi, fun _ => ⟨Nat.le_refl _, Nat.le_refl _⟩⟩
    · rw [if_neg a]
      have b1 := kPiece_b h (f := f) hi
      have b2 := kBnd_bd b1 fun hh => kT1_b (K := 26) h b1.1 (by decide)
      exact kBnd_w (kBnd_bd b2 fun hh => kPlan_b h g _ b2.1) (Nat.zero_le _)
section PART
variable {μ : jM} {kd : Nat → Nat} {N f : Nat}
theorem c_gPart (h0 : jG0 μ kd N) {i : Nat} {E : List (Nat × Nat)} {ν : jM} {d : Nat} (hG : jGr μ ν i E) (hi : i ≤ N - 1) (hE : E.length ≤ i) (hf : 8 * (402 - i) ≤ f) (hd : 70 ≤ d) : ∃ ν', cPost μ ν' E (kPiece kd f i) ∧ ∀ Q, (Ex d 51 0 [some (.ref 1413), none] [] ν Q ↔ Q (.inl (some (.int (bif (kPiece kd f i).1 then 1 else 0)))) ν') := by
  obtain ⟨d, rfl⟩ : ∃ d', d = d' + 5 := ⟨d - 5, by omega⟩
  have hT := h0.2.1
  have hN2 := hT.2.1
  have hw := jGr_w h0 hG
  unfold jWd at hw
  have hx := hG.2.1
  have hG1 := jGr_take (j := i + 1) hG
  have ht0 : ∀ (Q : jO → jM → Prop), (Ex (d + 4) 52 0 [some (.ref 194), some (.ref 40)] [] ν Q ↔ if kd i = 0 then Q (.inl (some (.int 1))) (jsI ν 194 7 (iN (i + 1))) else Q (.inl (some (.int 0))) ν) := fun Q => c_take (d := d + 3) (K := 0) h0 hG hi
  have ht2 : ∀ (Q : jO → jM → Prop), (Ex (d + 4) 52 0 [some (.ref 194), some (.ref 168)] [] ν Q ↔ if kd i = 2 then Q (.inl (some (.int 1))) (jsI ν 194 7 (iN (i + 1))) else Q (.inl (some (.int 0))) ν) := fun Q => c_take (d := d + 3) (K := 2) h0 hG hi
  have ht5 : ∀ (Q : jO → jM → Prop), (Ex (d + 4) 52 0 [some (.ref 194), some (.ref 360)] [] ν Q ↔ if kd i = 5 then Q (.inl (some (.int 1))) (jsI ν 194 7 (iN (i + 1))) else Q (.inl (some (.int 0))) ν) := fun Q => c_take (d := d + 3) (K := 5) h0 hG hi
  have ht10 : ∀ (Q : jO → jM → Prop), (Ex (d + 4) 52 0 [some (.ref 194), some (.ref 680)] [] ν Q ↔ if kd i = 10 then Q (.inl (some (.int 1))) (jsI ν 194 7 (iN (i + 1))) else Q (.inl (some (.int 0))) ν) := fun Q => c_take (d := d + 3) (K := 10) h0 hG hi
  unfold kPiece
  by_cases a0 : kd i = 0
  · have a0' := eq_true a0
    rw [if_pos a0]
    have i1 := kTok_lt hT hi (by omega)
    simp only [kTks]
    have hc1 : ∀ (Q : jO → jM → Prop), (Ex (d + 4) 52 0 [some (.ref 194), some (.ref 2408)] [] (jsI ν 194 7 (iN (i + 1))) Q ↔ if kd (i + 1) = 37 then Q (.inl (some (.int 1))) (jsI (jsI ν 194 7 (iN (i + 1))) 194 7 (iN (i + 1 + 1))) else Q (.inl (some (.int 0))) (jsI ν 194 7 (iN (i + 1)))) := fun Q => c_take (d := d + 3) (K := 37) h0 hG1 i1
    by_cases q1 : kd (i + 1) = 37
    · have q1' := eq_true q1
      rw [if_pos q1]
      have i1a := kTok_lt hT i1 (by omega)
      have G1 := jGr_take (j := i + 1 + 1) hG1
      have hc2 : ∀ (Q : jO → jM → Prop), (Ex (d + 4) 53 0 [some (.ref 1413), some (.ref 104), some (.ref 2472)] [] (jsI (jsI ν 194 7 (iN (i + 1))) 194 7 (iN (i + 1 + 1))) Q ↔ if kd (i + 1 + 1) = 1 then (if kd (i + 1 + 1 + 1) = 38 then Q (.inl (some (.int 1))) (jsI (jsI (jsI (jsI ν 194 7 (iN (i + 1))) 194 7 (iN (i + 1 + 1))) 194 7 (iN (i + 1 + 1 + 1))) 194 7 (iN (i + 1 + 1 + 2))) else Q (.inl (some (.int 0))) (jsI (jsI (jsI ν 194 7 (iN (i + 1))) 194 7 (iN (i + 1 + 1))) 194 7 (iN (i + 1 + 1 + 1)))) else Q (.inl (some (.int 0))) (jsI (jsI ν 194 7 (iN (i + 1))) 194 7 (iN (i + 1 + 1)))) := fun Q => c_both (d := d + 2) (K := 1) (K' := 38) h0 G1 i1a (by decide)
      by_cases q2 : kd (i + 1 + 1) = 1
      · have q2' := eq_true q2
        rw [if_pos q2]
        have i2a := kTok_lt hT i1a (by omega)
        have G2 := jGr_take (j := i + 1 + 1 + 1) G1
        by_cases r2 : kd (i + 1 + 1 + 1) = 38
        · have r2' := eq_true r2
          rw [if_pos r2]
          have i2b := kTok_lt hT i2a (by omega)
          have H2 := jGr_take (j := i + 1 + 1 + 1 + 1) G2
          refine ⟨_, cPost_1 (by rw [List.append_nil]; exact H2), fun Q => ?_⟩
          simp only [x51_0, x51_1, x51_4, x51_7, x51_10, x51_13, x51_14, x51_17, x51_20, x51_23, x51_26, x51_27, x51_30, x51_33, x51_36, x51_39, x51_40, x51_43, x51_44, x51_45, x51_46, x51_49, x51_52, x51_55, x51_58, x51_59, x51_62, x51_65, x51_68, x51_71, x51_72, x51_75, x51_78, x51_81, x51_84, x51_85, x51_88, x51_91, x51_94, x51_97, x51_98, x51_101, x51_102, x51_103, x51_104, x51_107, x51_110, x51_113, x51_116, x51_117, x51_120, x51_123, x51_126, x51_129, x51_130, x51_133, x51_136, x51_139, x51_142, x51_143, x51_146, x51_149, x51_152, x51_155, x51_156, x51_159, x51_162, x51_165, x51_168, x51_169, x51_172, x51_175, x51_178, x51_181, x51_182, x51_185, x51_186, x51_187, x51_188, x51_191, x51_194, x51_197, x51_200, x51_201, x51_204, x51_207a, x51_207b, x51_207c, x51_208, x51_209, x51_212, x51_215, x51_218, x51_221, x51_222, x51_223, x51_226, x51_229, x51_230, x51_233, x51_236, x51_237, x51_240, x51_243, x51_244, x51_247, x51_248, x51_249, x51_250, mzi, mInc, mne, mlt9, mrk, mI1, mI2, mI3, mI4, mL1, mL2, mL3, mL4, mQ1, mQ2, mQ3, mQ4, mT1, mcat0, mcat1, mcat2, mcat3, mcat4, mrf1, jK_v, jK_n, JA, mz1, if_true, if_false, ite_true, ite_false, eq_self, not_false_eq_true, Nat.zero_le, true_and, and_true, and_self, Nat.reduceMod, Nat.reduceAdd, Nat.reduceLeDiff, Nat.reduceEqDiff, Nat.reduceLT, hw, ht0, a0', hc1, q1', hc2, q2', r2', cond_true]
        · have r2' := eq_false r2
          rw [if_neg r2]
          refine ⟨_, cPost_no G2, fun Q => ?_⟩
          simp only [x51_0, x51_1, x51_4, x51_7, x51_10, x51_13, x51_14, x51_17, x51_20, x51_23, x51_26, x51_27, x51_30, x51_33, x51_36, x51_39, x51_40, x51_43, x51_44, x51_45, x51_46, x51_49, x51_52, x51_55, x51_58, x51_59, x51_62, x51_65, x51_68, x51_71, x51_72, x51_75, x51_78, x51_81, x51_84, x51_85, x51_88, x51_91, x51_94, x51_97, x51_98, x51_101, x51_102, x51_103, x51_104, x51_107, x51_110, x51_113, x51_116, x51_117, x51_120, x51_123, x51_126, x51_129, x51_130, x51_133, x51_136, x51_139, x51_142, x51_143, x51_146, x51_149, x51_152, x51_155, x51_156, x51_159, x51_162, x51_165, x51_168, x51_169, x51_172, x51_175, x51_178, x51_181, x51_182, x51_185, x51_186, x51_187, x51_188, x51_191, x51_194, x51_197, x51_200, x51_201, x51_204, x51_207a, x51_207b, x51_207c, x51_208, x51_209, x51_212, x51_215, x51_218, x51_221, x51_222, x51_223, x51_226, x51_229, x51_230, x51_233, x51_236, x51_237, x51_240, x51_243, x51_244, x51_247, x51_248, x51_249, x51_250, mzi, mInc, mne, mlt9, mrk, mI1, mI2, mI3, mI4, mL1, mL2, mL3, mL4, mQ1, mQ2, mQ3, mQ4, mT1, mcat0, mcat1, mcat2, mcat3, mcat4, mrf1, jK_v, jK_n, JA, mz1, if_true, if_false, ite_true, ite_false, eq_self, not_false_eq_true, Nat.zero_le, true_and, and_true, and_self, Nat.reduceMod, Nat.reduceAdd, Nat.reduceLeDiff, Nat.reduceEqDiff, Nat.reduceLT, hw, ht0, a0', hc1, q1', hc2, q2', r2']
          rfl
      · have q2' := eq_false q2
        rw [if_neg q2]
        refine ⟨_, cPost_no G1, fun Q => ?_⟩
        simp only [x51_0, x51_1, x51_4, x51_7, x51_10, x51_13, x51_14, x51_17, x51_20, x51_23, x51_26, x51_27, x51_30, x51_33, x51_36, x51_39, x51_40, x51_43, x51_44, x51_45, x51_46, x51_49, x51_52, x51_55, x51_58, x51_59, x51_62, x51_65, x51_68, x51_71, x51_72, x51_75, x51_78, x51_81, x51_84, x51_85, x51_88, x51_91, x51_94, x51_97, x51_98, x51_101, x51_102, x51_103, x51_104, x51_107, x51_110, x51_113, x51_116, x51_117, x51_120, x51_123, x51_126, x51_129, x51_130, x51_133, x51_136, x51_139, x51_142, x51_143, x51_146, x51_149, x51_152, x51_155, x51_156, x51_159, x51_162, x51_165, x51_168, x51_169, x51_172, x51_175, x51_178, x51_181, x51_182, x51_185, x51_186, x51_187, x51_188, x51_191, x51_194, x51_197, x51_200, x51_201, x51_204, x51_207a, x51_207b, x51_207c, x51_208, x51_209, x51_212, x51_215, x51_218, x51_221, x51_222, x51_223, x51_226, x51_229, x51_230, x51_233, x51_236, x51_237, x51_240, x51_243, x51_244, x51_247, x51_248, x51_249, x51_250, mzi, mInc, mne, mlt9, mrk, mI1, mI2, mI3, mI4, mL1, mL2, mL3, mL4, mQ1, mQ2, mQ3, mQ4, mT1, mcat0, mcat1, mcat2, mcat3, mcat4, mrf1, jK_v, jK_n, JA, mz1, if_true, if_false, ite_true, ite_false, eq_self, not_false_eq_true, Nat.zero_le, true_and, and_true, and_self, Nat.reduceMod, Nat.reduceAdd, Nat.reduceLeDiff, Nat.reduceEqDiff, Nat.reduceLT, hw, ht0, a0', hc1, q1', hc2, q2']
        rfl
    · have q1' := eq_false q1
      rw [if_neg q1]
      refine ⟨_, cPost_no hG1, fun Q => ?_⟩
      simp only [x51_0, x51_1, x51_4, x51_7, x51_10, x51_13, x51_14, x51_17, x51_20, x51_23, x51_26, x51_27, x51_30, x51_33, x51_36, x51_39, x51_40, x51_43, x51_44, x51_45, x51_46, x51_49, x51_52, x51_55, x51_58, x51_59, x51_62, x51_65, x51_68, x51_71, x51_72, x51_75, x51_78, x51_81, x51_84, x51_85, x51_88, x51_91, x51_94, x51_97, x51_98, x51_101, x51_102, x51_103, x51_104, x51_107, x51_110, x51_113, x51_116, x51_117, x51_120, x51_123, x51_126, x51_129, x51_130, x51_133, x51_136, x51_139, x51_142, x51_143, x51_146, x51_149, x51_152, x51_155, x51_156, x51_159, x51_162, x51_165, x51_168, x51_169, x51_172, x51_175, x51_178, x51_181, x51_182, x51_185, x51_186, x51_187, x51_188, x51_191, x51_194, x51_197, x51_200, x51_201, x51_204, x51_207a, x51_207b, x51_207c, x51_208, x51_209, x51_212, x51_215, x51_218, x51_221, x51_222, x51_223, x51_226, x51_229, x51_230, x51_233, x51_236, x51_237, x51_240, x51_243, x51_244, x51_247, x51_248, x51_249, x51_250, mzi, mInc, mne, mlt9, mrk, mI1, mI2, mI3, mI4, mL1, mL2, mL3, mL4, mQ1, mQ2, mQ3, mQ4, mT1, mcat0, mcat1, mcat2, mcat3, mcat4, mrf1, jK_v, jK_n, JA, mz1, if_true, if_false, ite_true, ite_false, eq_self, not_false_eq_true, Nat.zero_le, true_and, and_true, and_self, Nat.reduceMod, Nat.reduceAdd, Nat.reduceLeDiff, Nat.reduceEqDiff, Nat.reduceLT, hw, ht0, a0', hc1, q1']
      rfl
  · have a0' := eq_false a0
    rw [if_neg a0]
    by_cases a2 : kd i = 2
    · have a2' := eq_true a2
      rw [if_pos a2]
      have i1 := kTok_lt hT hi (by omega)
      simp only [kTks]
      have hc1 : ∀ (Q : jO → jM → Prop), (Ex (d + 4) 52 0 [some (.ref 194), some (.ref 2408)] [] (jsI ν 194 7 (iN (i + 1))) Q ↔ if kd (i + 1) = 37 then Q (.inl (some (.int 1))) (jsI (jsI ν 194 7 (iN (i + 1))) 194 7 (iN (i + 1 + 1))) else Q (.inl (some (.int 0))) (jsI ν 194 7 (iN (i + 1)))) := fun Q => c_take (d := d + 3) (K := 37) h0 hG1 i1
      by_cases q1 : kd (i + 1) = 37
      · have q1' := eq_true q1
        rw [if_pos q1]
        have i1a := kTok_lt hT i1 (by omega)
        have G1 := jGr_take (j := i + 1 + 1) hG1
        have hc2 : ∀ (Q : jO → jM → Prop), (Ex (d + 4) 53 0 [some (.ref 1413), some (.ref 232), some (.ref 2408)] [] (jsI (jsI ν 194 7 (iN (i + 1))) 194 7 (iN (i + 1 + 1))) Q ↔ if kd (i + 1 + 1) = 3 then (if kd (i + 1 + 1 + 1) = 37 then Q (.inl (some (.int 1))) (jsI (jsI (jsI (jsI ν 194 7 (iN (i + 1))) 194 7 (iN (i + 1 + 1))) 194 7 (iN (i + 1 + 1 + 1))) 194 7 (iN (i + 1 + 1 + 2))) else Q (.inl (some (.int 0))) (jsI (jsI (jsI ν 194 7 (iN (i + 1))) 194 7 (iN (i + 1 + 1))) 194 7 (iN (i + 1 + 1 + 1)))) else Q (.inl (some (.int 0))) (jsI (jsI ν 194 7 (iN (i + 1))) 194 7 (iN (i + 1 + 1)))) := fun Q => c_both (d := d + 2) (K := 3) (K' := 37) h0 G1 i1a (by decide)
        by_cases q2 : kd (i + 1 + 1) = 3
        · have q2' := eq_true q2
          rw [if_pos q2]
          have i2a := kTok_lt hT i1a (by omega)
          have G2 := jGr_take (j := i + 1 + 1 + 1) G1
          by_cases r2 : kd (i + 1 + 1 + 1) = 37
          · have r2' := eq_true r2
            rw [if_pos r2]
            have i2b := kTok_lt hT i2a (by omega)
            have H2 := jGr_take (j := i + 1 + 1 + 1 + 1) G2
            have hc3 : ∀ (Q : jO → jM → Prop), (Ex (d + 4) 53 0 [some (.ref 1413), some (.ref 296), some (.ref 2472)] [] (jsI (jsI (jsI (jsI ν 194 7 (iN (i + 1))) 194 7 (iN (i + 1 + 1))) 194 7 (iN (i + 1 + 1 + 1))) 194 7 (iN (i + 1 + 1 + 1 + 1))) Q ↔ if kd (i + 1 + 1 + 1 + 1) = 4 then (if kd (i + 1 + 1 + 1 + 1 + 1) = 38 then Q (.inl (some (.int 1))) (jsI (jsI (jsI (jsI (jsI (jsI ν 194 7 (iN (i + 1))) 194 7 (iN (i + 1 + 1))) 194 7 (iN (i + 1 + 1 + 1))) 194 7 (iN (i + 1 + 1 + 1 + 1))) 194 7 (iN (i + 1 + 1 + 1 + 1 + 1))) 194 7 (iN (i + 1 + 1 + 1 + 1 + 2))) else Q (.inl (some (.int 0))) (jsI (jsI (jsI (jsI (jsI ν 194 7 (iN (i + 1))) 194 7 (iN (i + 1 + 1))) 194 7 (iN (i + 1 + 1 + 1))) 194 7 (iN (i + 1 + 1 + 1 + 1))) 194 7 (iN (i + 1 + 1 + 1 + 1 + 1)))) else Q (.inl (some (.int 0))) (jsI (jsI (jsI (jsI ν 194 7 (iN (i + 1))) 194 7 (iN (i + 1 + 1))) 194 7 (iN (i + 1 + 1 + 1))) 194 7 (iN (i + 1 + 1 + 1 + 1)))) := fun Q => c_both (d := d + 2) (K := 4) (K' := 38) h0 H2 i2b (by decide)
            by_cases q3 : kd (i + 1 + 1 + 1 + 1) = 4
            · have q3' := eq_true q3
              rw [if_pos q3]
              have i3a := kTok_lt hT i2b (by omega)
              have G3 := jGr_take (j := i + 1 + 1 + 1 + 1 + 1) H2
              by_cases r3 : kd (i + 1 + 1 + 1 + 1 + 1) = 38
              · have r3' := eq_true r3
                rw [if_pos r3]
                have i3b := kTok_lt hT i3a (by omega)
                have H3 := jGr_take (j := i + 1 + 1 + 1 + 1 + 1 + 1) G3
                refine ⟨_, cPost_1 (by rw [List.append_nil]; exact H3), fun Q => ?_⟩
                simp only [x51_0, x51_1, x51_4, x51_7, x51_10, x51_13, x51_14, x51_17, x51_20, x51_23, x51_26, x51_27, x51_30, x51_33, x51_36, x51_39, x51_40, x51_43, x51_44, x51_45, x51_46, x51_49, x51_52, x51_55, x51_58, x51_59, x51_62, x51_65, x51_68, x51_71, x51_72, x51_75, x51_78, x51_81, x51_84, x51_85, x51_88, x51_91, x51_94, x51_97, x51_98, x51_101, x51_102, x51_103, x51_104, x51_107, x51_110, x51_113, x51_116, x51_117, x51_120, x51_123, x51_126, x51_129, x51_130, x51_133, x51_136, x51_139, x51_142, x51_143, x51_146, x51_149, x51_152, x51_155, x51_156, x51_159, x51_162, x51_165, x51_168, x51_169, x51_172, x51_175, x51_178, x51_181, x51_182, x51_185, x51_186, x51_187, x51_188, x51_191, x51_194, x51_197, x51_200, x51_201, x51_204, x51_207a, x51_207b, x51_207c, x51_208, x51_209, x51_212, x51_215, x51_218, x51_221, x51_222, x51_223, x51_226, x51_229, x51_230, x51_233, x51_236, x51_237, x51_240, x51_243, x51_244, x51_247, x51_248, x51_249, x51_250, mzi, mInc, mne, mlt9, mrk, mI1, mI2, mI3, mI4, mL1, mL2, mL3, mL4, mQ1, mQ2, mQ3, mQ4, mT1, mcat0, mcat1, mcat2, mcat3, mcat4, mrf1, jK_v, jK_n, JA, mz1, if_true, if_false, ite_true, ite_false, eq_self, not_false_eq_true, Nat.zero_le, true_and, and_true, and_self, Nat.reduceMod, Nat.reduceAdd, Nat.reduceLeDiff, Nat.reduceEqDiff, Nat.reduceLT, hw, ht0, a0', ht2, a2', hc1, q1', hc2, q2', r2', hc3, q3', r3', cond_true]
              · have r3' := eq_false r3
                rw [if_neg r3]
                refine ⟨_, cPost_no G3, fun Q => ?_⟩
                simp only [x51_0, x51_1, x51_4, x51_7, x51_10, x51_13, x51_14, x51_17, x51_20, x51_23, x51_26, x51_27, x51_30, x51_33, x51_36, x51_39, x51_40, x51_43, x51_44, x51_45, x51_46, x51_49, x51_52, x51_55, x51_58, x51_59, x51_62, x51_65, x51_68, x51_71, x51_72, x51_75, x51_78, x51_81, x51_84, x51_85, x51_88, x51_91, x51_94, x51_97, x51_98, x51_101, x51_102, x51_103, x51_104, x51_107, x51_110, x51_113, x51_116, x51_117, x51_120, x51_123, x51_126, x51_129, x51_130, x51_133, x51_136, x51_139, x51_142, x51_143, x51_146, x51_149, x51_152, x51_155, x51_156, x51_159, x51_162, x51_165, x51_168, x51_169, x51_172, x51_175, x51_178, x51_181, x51_182, x51_185, x51_186, x51_187, x51_188, x51_191, x51_194, x51_197, x51_200, x51_201, x51_204, x51_207a, x51_207b, x51_207c, x51_208, x51_209, x51_212, x51_215, x51_218, x51_221, x51_222, x51_223, x51_226, x51_229, x51_230, x51_233, x51_236, x51_237, x51_240, x51_243, x51_244, x51_247, x51_248, x51_249, x51_250, mzi, mInc, mne, mlt9, mrk, mI1, mI2, mI3, mI4, mL1, mL2, mL3, mL4, mQ1, mQ2, mQ3, mQ4, mT1, mcat0, mcat1, mcat2, mcat3, mcat4, mrf1, jK_v, jK_n, JA, mz1, if_true, if_false, ite_true, ite_false, eq_self, not_false_eq_true, Nat.zero_le, true_and, and_true, and_self, Nat.reduceMod, Nat.reduceAdd, Nat.reduceLeDiff, Nat.reduceEqDiff, Nat.reduceLT, hw, ht0, a0', ht2, a2', hc1, q1', hc2, q2', r2', hc3, q3', r3']
                rfl
            · have q3' := eq_false q3
              rw [if_neg q3]
              refine ⟨_, cPost_no H2, fun Q => ?_⟩
              simp only [x51_0, x51_1, x51_4, x51_7, x51_10, x51_13, x51_14, x51_17, x51_20, x51_23, x51_26, x51_27, x51_30, x51_33, x51_36, x51_39, x51_40, x51_43, x51_44, x51_45, x51_46, x51_49, x51_52, x51_55, x51_58, x51_59, x51_62, x51_65, x51_68, x51_71, x51_72, x51_75, x51_78, x51_81, x51_84, x51_85, x51_88, x51_91, x51_94, x51_97, x51_98, x51_101, x51_102, x51_103, x51_104, x51_107, x51_110, x51_113, x51_116, x51_117, x51_120, x51_123, x51_126, x51_129, x51_130, x51_133, x51_136, x51_139, x51_142, x51_143, x51_146, x51_149, x51_152, x51_155, x51_156, x51_159, x51_162, x51_165, x51_168, x51_169, x51_172, x51_175, x51_178, x51_181, x51_182, x51_185, x51_186, x51_187, x51_188, x51_191, x51_194, x51_197, x51_200, x51_201, x51_204, x51_207a, x51_207b, x51_207c, x51_208, x51_209, x51_212, x51_215, x51_218, x51_221, x51_222, x51_223, x51_226, x51_229, x51_230, x51_233, x51_236, x51_237, x51_240, x51_243, x51_244, x51_247, x51_248, x51_249, x51_250, mzi, mInc, mne, mlt9, mrk, mI1, mI2, mI3, mI4, mL1, mL2, mL3, mL4, mQ1, mQ2, mQ3, mQ4, mT1, mcat0, mcat1, mcat2, mcat3, mcat4, mrf1, jK_v, jK_n, JA, mz1, if_true, if_false, ite_true, ite_false, eq_self, not_false_eq_true, Nat.zero_le, true_and, and_true, and_self, Nat.reduceMod, Nat.reduceAdd, Nat.reduceLeDiff, Nat.reduceEqDiff, Nat.reduceLT, hw, ht0, a0', ht2, a2', hc1, q1', hc2, q2', r2', hc3, q3']
              rfl
          · have r2' := eq_false r2
            rw [if_neg r2]
            refine ⟨_, cPost_no G2, fun Q => ?_⟩
            simp only [x51_0, x51_1, x51_4, x51_7, x51_10, x51_13, x51_14, x51_17, x51_20, x51_23, x51_26, x51_27, x51_30, x51_33, x51_36, x51_39, x51_40, x51_43, x51_44, x51_45, x51_46, x51_49, x51_52, x51_55, x51_58, x51_59, x51_62, x51_65, x51_68, x51_71, x51_72, x51_75, x51_78, x51_81, x51_84, x51_85, x51_88, x51_91, x51_94, x51_97, x51_98, x51_101, x51_102, x51_103, x51_104, x51_107, x51_110, x51_113, x51_116, x51_117, x51_120, x51_123, x51_126, x51_129, x51_130, x51_133, x51_136, x51_139, x51_142, x51_143, x51_146, x51_149, x51_152, x51_155, x51_156, x51_159, x51_162, x51_165, x51_168, x51_169, x51_172, x51_175, x51_178, x51_181, x51_182, x51_185, x51_186, x51_187, x51_188, x51_191, x51_194, x51_197, x51_200, x51_201, x51_204, x51_207a, x51_207b, x51_207c, x51_208, x51_209, x51_212, x51_215, x51_218, x51_221, x51_222, x51_223, x51_226, x51_229, x51_230, x51_233, x51_236, x51_237, x51_240, x51_243, x51_244, x51_247, x51_248, x51_249, x51_250, mzi, mInc, mne, mlt9, mrk, mI1, mI2, mI3, mI4, mL1, mL2, mL3, mL4, mQ1, mQ2, mQ3, mQ4, mT1, mcat0, mcat1, mcat2, mcat3, mcat4, mrf1, jK_v, jK_n, JA, mz1, if_true, if_false, ite_true, ite_false, eq_self, not_false_eq_true, Nat.zero_le, true_and, and_true, and_self, Nat.reduceMod, Nat.reduceAdd, Nat.reduceLeDiff, Nat.reduceEqDiff, Nat.reduceLT, hw, ht0, a0', ht2, a2', hc1, q1', hc2, q2', r2']
            rfl
        · have q2' := eq_false q2
          rw [if_neg q2]
          refine ⟨_, cPost_no G1, fun Q => ?_⟩
          simp only [x51_0, x51_1, x51_4, x51_7, x51_10, x51_13, x51_14, x51_17, x51_20, x51_23, x51_26, x51_27, x51_30, x51_33, x51_36, x51_39, x51_40, x51_43, x51_44, x51_45, x51_46, x51_49, x51_52, x51_55, x51_58, x51_59, x51_62, x51_65, x51_68, x51_71, x51_72, x51_75, x51_78, x51_81, x51_84, x51_85, x51_88, x51_91, x51_94, x51_97, x51_98, x51_101, x51_102, x51_103, x51_104, x51_107, x51_110, x51_113, x51_116, x51_117, x51_120, x51_123, x51_126, x51_129, x51_130, x51_133, x51_136, x51_139, x51_142, x51_143, x51_146, x51_149, x51_152, x51_155, x51_156, x51_159, x51_162, x51_165, x51_168, x51_169, x51_172, x51_175, x51_178, x51_181, x51_182, x51_185, x51_186, x51_187, x51_188, x51_191, x51_194, x51_197, x51_200, x51_201, x51_204, x51_207a, x51_207b, x51_207c, x51_208, x51_209, x51_212, x51_215, x51_218, x51_221, x51_222, x51_223, x51_226, x51_229, x51_230, x51_233, x51_236, x51_237, x51_240, x51_243, x51_244, x51_247, x51_248, x51_249, x51_250, mzi, mInc, mne, mlt9, mrk, mI1, mI2, mI3, mI4, mL1, mL2, mL3, mL4, mQ1, mQ2, mQ3, mQ4, mT1, mcat0, mcat1, mcat2, mcat3, mcat4, mrf1, jK_v, jK_n, JA, mz1, if_true, if_false, ite_true, ite_false, eq_self, not_false_eq_true, Nat.zero_le, true_and, and_true, and_self, Nat.reduceMod, Nat.reduceAdd, Nat.reduceLeDiff, Nat.reduceEqDiff, Nat.reduceLT, hw, ht0, a0', ht2, a2', hc1, q1', hc2, q2']
          rfl
      · have q1' := eq_false q1
        rw [if_neg q1]
        refine ⟨_, cPost_no hG1, fun Q => ?_⟩
        simp only [x51_0, x51_1, x51_4, x51_7, x51_10, x51_13, x51_14, x51_17, x51_20, x51_23, x51_26, x51_27, x51_30, x51_33, x51_36, x51_39, x51_40, x51_43, x51_44, x51_45, x51_46, x51_49, x51_52, x51_55, x51_58, x51_59, x51_62, x51_65, x51_68, x51_71, x51_72, x51_75, x51_78, x51_81, x51_84, x51_85, x51_88, x51_91, x51_94, x51_97, x51_98, x51_101, x51_102, x51_103, x51_104, x51_107, x51_110, x51_113, x51_116, x51_117, x51_120, x51_123, x51_126, x51_129, x51_130, x51_133, x51_136, x51_139, x51_142, x51_143, x51_146, x51_149, x51_152, x51_155, x51_156, x51_159, x51_162, x51_165, x51_168, x51_169, x51_172, x51_175, x51_178, x51_181, x51_182, x51_185, x51_186, x51_187, x51_188, x51_191, x51_194, x51_197, x51_200, x51_201, x51_204, x51_207a, x51_207b, x51_207c, x51_208, x51_209, x51_212, x51_215, x51_218, x51_221, x51_222, x51_223, x51_226, x51_229, x51_230, x51_233, x51_236, x51_237, x51_240, x51_243, x51_244, x51_247, x51_248, x51_249, x51_250, mzi, mInc, mne, mlt9, mrk, mI1, mI2, mI3, mI4, mL1, mL2, mL3, mL4, mQ1, mQ2, mQ3, mQ4, mT1, mcat0, mcat1, mcat2, mcat3, mcat4, mrf1, jK_v, jK_n, JA, mz1, if_true, if_false, ite_true, ite_false, eq_self, not_false_eq_true, Nat.zero_le, true_and, and_true, and_self, Nat.reduceMod, Nat.reduceAdd, Nat.reduceLeDiff, Nat.reduceEqDiff, Nat.reduceLT, hw, ht0, a0', ht2, a2', hc1, q1']
        rfl
    · have a2' := eq_false a2
      rw [if_neg a2]
      by_cases a5 : kd i = 5
      · have a5' := eq_true a5
        rw [if_pos a5]
        have i1 := kTok_lt hT hi (by omega)
        simp only [kTks]
        have hc1 : ∀ (Q : jO → jM → Prop), (Ex (d + 4) 52 0 [some (.ref 194), some (.ref 2408)] [] (jsI ν 194 7 (iN (i + 1))) Q ↔ if kd (i + 1) = 37 then Q (.inl (some (.int 1))) (jsI (jsI ν 194 7 (iN (i + 1))) 194 7 (iN (i + 1 + 1))) else Q (.inl (some (.int 0))) (jsI ν 194 7 (iN (i + 1)))) := fun Q => c_take (d := d + 3) (K := 37) h0 hG1 i1
        by_cases q1 : kd (i + 1) = 37
        · have q1' := eq_true q1
          rw [if_pos q1]
          have i1a := kTok_lt hT i1 (by omega)
          have G1 := jGr_take (j := i + 1 + 1) hG1
          have hc2 : ∀ (Q : jO → jM → Prop), (Ex (d + 4) 53 0 [some (.ref 1413), some (.ref 424), some (.ref 2408)] [] (jsI (jsI ν 194 7 (iN (i + 1))) 194 7 (iN (i + 1 + 1))) Q ↔ if kd (i + 1 + 1) = 6 then (if kd (i + 1 + 1 + 1) = 37 then Q (.inl (some (.int 1))) (jsI (jsI (jsI (jsI ν 194 7 (iN (i + 1))) 194 7 (iN (i + 1 + 1))) 194 7 (iN (i + 1 + 1 + 1))) 194 7 (iN (i + 1 + 1 + 2))) else Q (.inl (some (.int 0))) (jsI (jsI (jsI ν 194 7 (iN (i + 1))) 194 7 (iN (i + 1 + 1))) 194 7 (iN (i + 1 + 1 + 1)))) else Q (.inl (some (.int 0))) (jsI (jsI ν 194 7 (iN (i + 1))) 194 7 (iN (i + 1 + 1)))) := fun Q => c_both (d := d + 2) (K := 6) (K' := 37) h0 G1 i1a (by decide)
          by_cases q2 : kd (i + 1 + 1) = 6
          · have q2' := eq_true q2
            rw [if_pos q2]
            have i2a := kTok_lt hT i1a (by omega)
            have G2 := jGr_take (j := i + 1 + 1 + 1) G1
            by_cases r2 : kd (i + 1 + 1 + 1) = 37
            · have r2' := eq_true r2
              rw [if_pos r2]
              have i2b := kTok_lt hT i2a (by omega)
              have H2 := jGr_take (j := i + 1 + 1 + 1 + 1) G2
              have hc3 : ∀ (Q : jO → jM → Prop), (Ex (d + 4) 53 0 [some (.ref 1413), some (.ref 488), some (.ref 2408)] [] (jsI (jsI (jsI (jsI ν 194 7 (iN (i + 1))) 194 7 (iN (i + 1 + 1))) 194 7 (iN (i + 1 + 1 + 1))) 194 7 (iN (i + 1 + 1 + 1 + 1))) Q ↔ if kd (i + 1 + 1 + 1 + 1) = 7 then (if kd (i + 1 + 1 + 1 + 1 + 1) = 37 then Q (.inl (some (.int 1))) (jsI (jsI (jsI (jsI (jsI (jsI ν 194 7 (iN (i + 1))) 194 7 (iN (i + 1 + 1))) 194 7 (iN (i + 1 + 1 + 1))) 194 7 (iN (i + 1 + 1 + 1 + 1))) 194 7 (iN (i + 1 + 1 + 1 + 1 + 1))) 194 7 (iN (i + 1 + 1 + 1 + 1 + 2))) else Q (.inl (some (.int 0))) (jsI (jsI (jsI (jsI (jsI ν 194 7 (iN (i + 1))) 194 7 (iN (i + 1 + 1))) 194 7 (iN (i + 1 + 1 + 1))) 194 7 (iN (i + 1 + 1 + 1 + 1))) 194 7 (iN (i + 1 + 1 + 1 + 1 + 1)))) else Q (.inl (some (.int 0))) (jsI (jsI (jsI (jsI ν 194 7 (iN (i + 1))) 194 7 (iN (i + 1 + 1))) 194 7 (iN (i + 1 + 1 + 1))) 194 7 (iN (i + 1 + 1 + 1 + 1)))) := fun Q => c_both (d := d + 2) (K := 7) (K' := 37) h0 H2 i2b (by decide)
              by_cases q3 : kd (i + 1 + 1 + 1 + 1) = 7
              · have q3' := eq_true q3
                rw [if_pos q3]
                have i3a := kTok_lt hT i2b (by omega)
                have G3 := jGr_take (j := i + 1 + 1 + 1 + 1 + 1) H2
                by_cases r3 : kd (i + 1 + 1 + 1 + 1 + 1) = 37
                · have r3' := eq_true r3
                  rw [if_pos r3]
                  have i3b := kTok_lt hT i3a (by omega)
                  have H3 := jGr_take (j := i + 1 + 1 + 1 + 1 + 1 + 1) G3
                  have hc4 : ∀ (Q : jO → jM → Prop), (Ex (d + 4) 53 0 [some (.ref 1413), some (.ref 552), some (.ref 2472)] [] (jsI (jsI (jsI (jsI (jsI (jsI ν 194 7 (iN (i + 1))) 194 7 (iN (i + 1 + 1))) 194 7 (iN (i + 1 + 1 + 1))) 194 7 (iN (i + 1 + 1 + 1 + 1))) 194 7 (iN (i + 1 + 1 + 1 + 1 + 1))) 194 7 (iN (i + 1 + 1 + 1 + 1 + 1 + 1))) Q ↔ if kd (i + 1 + 1 + 1 + 1 + 1 + 1) = 8 then (if kd (i + 1 + 1 + 1 + 1 + 1 + 1 + 1) = 38 then Q (.inl (some (.int 1))) (jsI (jsI (jsI (jsI (jsI (jsI (jsI (jsI ν 194 7 (iN (i + 1))) 194 7 (iN (i + 1 + 1))) 194 7 (iN (i + 1 + 1 + 1))) 194 7 (iN (i + 1 + 1 + 1 + 1))) 194 7 (iN (i + 1 + 1 + 1 + 1 + 1))) 194 7 (iN (i + 1 + 1 + 1 + 1 + 1 + 1))) 194 7 (iN (i + 1 + 1 + 1 + 1 + 1 + 1 + 1))) 194 7 (iN (i + 1 + 1 + 1 + 1 + 1 + 1 + 2))) else Q (.inl (some (.int 0))) (jsI (jsI (jsI (jsI (jsI (jsI (jsI ν 194 7 (iN (i + 1))) 194 7 (iN (i + 1 + 1))) 194 7 (iN (i + 1 + 1 + 1))) 194 7 (iN (i + 1 + 1 + 1 + 1))) 194 7 (iN (i + 1 + 1 + 1 + 1 + 1))) 194 7 (iN (i + 1 + 1 + 1 + 1 + 1 + 1))) 194 7 (iN (i + 1 + 1 + 1 + 1 + 1 + 1 + 1)))) else Q (.inl (some (.int 0))) (jsI (jsI (jsI (jsI (jsI (jsI ν 194 7 (iN (i + 1))) 194 7 (iN (i + 1 + 1))) 194 7 (iN (i + 1 + 1 + 1))) 194 7 (iN (i + 1 + 1 + 1 + 1))) 194 7 (iN (i + 1 + 1 + 1 + 1 + 1))) 194 7 (iN (i + 1 + 1 + 1 + 1 + 1 + 1)))) := fun Q => c_both (d := d + 2) (K := 8) (K' := 38) h0 H3 i3b (by decide)
                  by_cases q4 : kd (i + 1 + 1 + 1 + 1 + 1 + 1) = 8
                  · have q4' := eq_true q4
                    rw [if_pos q4]
                    have i4a := kTok_lt hT i3b (by omega)
                    have G4 := jGr_take (j := i + 1 + 1 + 1 + 1 + 1 + 1 + 1) H3
                    by_cases r4 : kd (i + 1 + 1 + 1 + 1 + 1 + 1 + 1) = 38
                    · have r4' := eq_true r4
                      rw [if_pos r4]
                      have i4b := kTok_lt hT i4a (by omega)
                      have H4 := jGr_take (j := i + 1 + 1 + 1 + 1 + 1 + 1 + 1 + 1) G4
                      have hc5 : ∀ (Q : jO → jM → Prop), (Ex (d + 4) 53 0 [some (.ref 1413), some (.ref 616), some (.ref 2472)] [] (jsI (jsI (jsI (jsI (jsI (jsI (jsI (jsI ν 194 7 (iN (i + 1))) 194 7 (iN (i + 1 + 1))) 194 7 (iN (i + 1 + 1 + 1))) 194 7 (iN (i + 1 + 1 + 1 + 1))) 194 7 (iN (i + 1 + 1 + 1 + 1 + 1))) 194 7 (iN (i + 1 + 1 + 1 + 1 + 1 + 1))) 194 7 (iN (i + 1 + 1 + 1 + 1 + 1 + 1 + 1))) 194 7 (iN (i + 1 + 1 + 1 + 1 + 1 + 1 + 1 + 1))) Q ↔ if kd (i + 1 + 1 + 1 + 1 + 1 + 1 + 1 + 1) = 9 then (if kd (i + 1 + 1 + 1 + 1 + 1 + 1 + 1 + 1 + 1) = 38 then Q (.inl (some (.int 1))) (jsI (jsI (jsI (jsI (jsI (jsI (jsI (jsI (jsI (jsI ν 194 7 (iN (i + 1))) 194 7 (iN (i + 1 + 1))) 194 7 (iN (i + 1 + 1 + 1))) 194 7 (iN (i + 1 + 1 + 1 + 1))) 194 7 (iN (i + 1 + 1 + 1 + 1 + 1))) 194 7 (iN (i + 1 + 1 + 1 + 1 + 1 + 1))) 194 7 (iN (i + 1 + 1 + 1 + 1 + 1 + 1 + 1))) 194 7 (iN (i + 1 + 1 + 1 + 1 + 1 + 1 + 1 + 1))) 194 7 (iN (i + 1 + 1 + 1 + 1 + 1 + 1 + 1 + 1 + 1))) 194 7 (iN (i + 1 + 1 + 1 + 1 + 1 + 1 + 1 + 1 + 2))) else Q (.inl (some (.int 0))) (jsI (jsI (jsI (jsI (jsI (jsI (jsI (jsI (jsI ν 194 7 (iN (i + 1))) 194 7 (iN (i + 1 + 1))) 194 7 (iN (i + 1 + 1 + 1))) 194 7 (iN (i + 1 + 1 + 1 + 1))) 194 7 (iN (i + 1 + 1 + 1 + 1 + 1))) 194 7 (iN (i + 1 + 1 + 1 + 1 + 1 + 1))) 194 7 (iN (i + 1 + 1 + 1 + 1 + 1 + 1 + 1))) 194 7 (iN (i + 1 + 1 + 1 + 1 + 1 + 1 + 1 + 1))) 194 7 (iN (i + 1 + 1 + 1 + 1 + 1 + 1 + 1 + 1 + 1)))) else Q (.inl (some (.int 0))) (jsI (jsI (jsI (jsI (jsI (jsI (jsI (jsI ν 194 7 (iN (i + 1))) 194 7 (iN (i + 1 + 1))) 194 7 (iN (i + 1 + 1 + 1))) 194 7 (iN (i + 1 + 1 + 1 + 1))) 194 7 (iN (i + 1 + 1 + 1 + 1 + 1))) 194 7 (iN (i + 1 + 1 + 1 + 1 + 1 + 1))) 194 7 (iN (i + 1 + 1 + 1 + 1 + 1 + 1 + 1))) 194 7 (iN (i + 1 + 1 + 1 + 1 + 1 + 1 + 1 + 1)))) := fun Q => c_both (d := d + 2) (K := 9) (K' := 38) h0 H4 i4b (by decide)
                      by_cases q5 : kd (i + 1 + 1 + 1 + 1 + 1 + 1 + 1 + 1) = 9
                      · have q5' := eq_true q5
                        rw [if_pos q5]
                        have i5a := kTok_lt hT i4b (by omega)
                        have G5 := jGr_take (j := i + 1 + 1 + 1 + 1 + 1 + 1 + 1 + 1 + 1) H4
                        by_cases r5 : kd (i + 1 + 1 + 1 + 1 + 1 + 1 + 1 + 1 + 1) = 38
                        · have r5' := eq_true r5
                          rw [if_pos r5]
                          have i5b := kTok_lt hT i5a (by omega)
                          have H5 := jGr_take (j := i + 1 + 1 + 1 + 1 + 1 + 1 + 1 + 1 + 1 + 1) G5
                          refine ⟨_, cPost_1 (by rw [List.append_nil]; exact H5), fun Q => ?_⟩
                          simp only [x51_0, x51_1, x51_4, x51_7, x51_10, x51_13, x51_14, x51_17, x51_20, x51_23, x51_26, x51_27, x51_30, x51_33, x51_36, x51_39, x51_40, x51_43, x51_44, x51_45, x51_46, x51_49, x51_52, x51_55, x51_58, x51_59, x51_62, x51_65, x51_68, x51_71, x51_72, x51_75, x51_78, x51_81, x51_84, x51_85, x51_88, x51_91, x51_94, x51_97, x51_98, x51_101, x51_102, x51_103, x51_104, x51_107, x51_110, x51_113, x51_116, x51_117, x51_120, x51_123, x51_126, x51_129, x51_130, x51_133, x51_136, x51_139, x51_142, x51_143, x51_146, x51_149, x51_152, x51_155, x51_156, x51_159, x51_162, x51_165, x51_168, x51_169, x51_172, x51_175, x51_178, x51_181, x51_182, x51_185, x51_186, x51_187, x51_188, x51_191, x51_194, x51_197, x51_200, x51_201, x51_204, x51_207a, x51_207b, x51_207c, x51_208, x51_209, x51_212, x51_215, x51_218, x51_221, x51_222, x51_223, x51_226, x51_229, x51_230, x51_233, x51_236, x51_237, x51_240, x51_243, x51_244, x51_247, x51_248, x51_249, x51_250, mzi, mInc, mne, mlt9, mrk, mI1, mI2, mI3, mI4, mL1, mL2, mL3, mL4, mQ1, mQ2, mQ3, mQ4, mT1, mcat0, mcat1, mcat2, mcat3, mcat4, mrf1, jK_v, jK_n, JA, mz1, if_true, if_false, ite_true, ite_false, eq_self, not_false_eq_true, Nat.zero_le, true_and, and_true, and_self, Nat.reduceMod, Nat.reduceAdd, Nat.reduceLeDiff, Nat.reduceEqDiff, Nat.reduceLT, hw, ht0, a0', ht2, a2', ht5, a5', hc1, q1', hc2, q2', r2', hc3, q3', r3', hc4, q4', r4', hc5, q5', r5', cond_true]
                        · have r5' := eq_false r5
                          rw [if_neg r5]
                          refine ⟨_, cPost_no G5, fun Q => ?_⟩
                          simp only [x51_0, x51_1, x51_4, x51_7, x51_10, x51_13, x51_14, x51_17, x51_20, x51_23, x51_26, x51_27, x51_30, x51_33, x51_36, x51_39, x51_40, x51_43, x51_44, x51_45, x51_46, x51_49, x51_52, x51_55, x51_58, x51_59, x51_62, x51_65, x51_68, x51_71, x51_72, x51_75, x51_78, x51_81, x51_84, x51_85, x51_88, x51_91, x51_94, x51_97, x51_98, x51_101, x51_102, x51_103, x51_104, x51_107, x51_110, x51_113, x51_116, x51_117, x51_120, x51_123, x51_126, x51_129, x51_130, x51_133, x51_136, x51_139, x51_142, x51_143, x51_146, x51_149, x51_152, x51_155, x51_156, x51_159, x51_162, x51_165, x51_168, x51_169, x51_172, x51_175, x51_178, x51_181, x51_182, x51_185, x51_186, x51_187, x51_188, x51_191, x51_194, x51_197, x51_200, x51_201, x51_204, x51_207a, x51_207b, x51_207c, x51_208, x51_209, x51_212, x51_215, x51_218, x51_221, x51_222, x51_223, x51_226, x51_229, x51_230, x51_233, x51_236, x51_237, x51_240, x51_243, x51_244, x51_247, x51_248, x51_249, x51_250, mzi, mInc, mne, mlt9, mrk, mI1, mI2, mI3, mI4, mL1, mL2, mL3, mL4, mQ1, mQ2, mQ3, mQ4, mT1, mcat0, mcat1, mcat2, mcat3, mcat4, mrf1, jK_v, jK_n, JA, mz1, if_true, if_false, ite_true, ite_false, eq_self, not_false_eq_true, Nat.zero_le, true_and, and_true, and_self, Nat.reduceMod, Nat.reduceAdd, Nat.reduceLeDiff, Nat.reduceEqDiff, Nat.reduceLT, hw, ht0, a0', ht2, a2', ht5, a5', hc1, q1', hc2, q2', r2', hc3, q3', r3', hc4, q4', r4', hc5, q5', r5']
                          rfl
                      · have q5' := eq_false q5
                        rw [if_neg q5]
                        refine ⟨_, cPost_no H4, fun Q => ?_⟩
                        simp only [x51_0, x51_1, x51_4, x51_7, x51_10, x51_13, x51_14, x51_17, x51_20, x51_23, x51_26, x51_27, x51_30, x51_33, x51_36, x51_39, x51_40, x51_43, x51_44, x51_45, x51_46, x51_49, x51_52, x51_55, x51_58, x51_59, x51_62, x51_65, x51_68, x51_71, x51_72, x51_75, x51_78, x51_81, x51_84, x51_85, x51_88, x51_91, x51_94, x51_97, x51_98, x51_101, x51_102, x51_103, x51_104, x51_107, x51_110, x51_113, x51_116, x51_117, x51_120, x51_123, x51_126, x51_129, x51_130, x51_133, x51_136, x51_139, x51_142, x51_143, x51_146, x51_149, x51_152, x51_155, x51_156, x51_159, x51_162, x51_165, x51_168, x51_169, x51_172, x51_175, x51_178, x51_181, x51_182, x51_185, x51_186, x51_187, x51_188, x51_191, x51_194, x51_197, x51_200, x51_201, x51_204, x51_207a, x51_207b, x51_207c, x51_208, x51_209, x51_212, x51_215, x51_218, x51_221, x51_222, x51_223, x51_226, x51_229, x51_230, x51_233, x51_236, x51_237, x51_240, x51_243, x51_244, x51_247, x51_248, x51_249, x51_250, mzi, mInc, mne, mlt9, mrk, mI1, mI2, mI3, mI4, mL1, mL2, mL3, mL4, mQ1, mQ2, mQ3, mQ4, mT1, mcat0, mcat1, mcat2, mcat3, mcat4, mrf1, jK_v, jK_n, JA, mz1, if_true, if_false, ite_true, ite_false, eq_self, not_false_eq_true, Nat.zero_le, true_and, and_true, and_self, Nat.reduceMod, Nat.reduceAdd, Nat.reduceLeDiff, Nat.reduceEqDiff, Nat.reduceLT, hw, ht0, a0', ht2, a2', ht5, a5', hc1, q1', hc2, q2', r2', hc3, q3', r3', hc4, q4', r4', hc5, q5']
                        rfl
                    · have r4' := eq_false r4
                      rw [if_neg r4]
                      refine ⟨_, cPost_no G4, fun Q => ?_⟩
                      simp only [x51_0, x51_1, x51_4, x51_7, x51_10, x51_13, x51_14, x51_17, x51_20, x51_23, x51_26, x51_27, x51_30, x51_33, x51_36, x51_39, x51_40, x51_43, x51_44, x51_45, x51_46, x51_49, x51_52, x51_55, x51_58, x51_59, x51_62, x51_65, x51_68, x51_71, x51_72, x51_75, x51_78, x51_81, x51_84, x51_85, x51_88, x51_91, x51_94, x51_97, x51_98, x51_101, x51_102, x51_103, x51_104, x51_107, x51_110, x51_113, x51_116, x51_117, x51_120, x51_123, x51_126, x51_129, x51_130, x51_133, x51_136, x51_139, x51_142, x51_143, x51_146, x51_149, x51_152, x51_155, x51_156, x51_159, x51_162, x51_165, x51_168, x51_169, x51_172, x51_175, x51_178, x51_181, x51_182, x51_185, x51_186, x51_187, x51_188, x51_191, x51_194, x51_197, x51_200, x51_201, x51_204, x51_207a, x51_207b, x51_207c, x51_208, x51_209, x51_212, x51_215, x51_218, x51_221, x51_222, x51_223, x51_226, x51_229, x51_230, x51_233, x51_236, x51_237, x51_240, x51_243, x51_244, x51_247, x51_248, x51_249, x51_250, mzi, mInc, mne, mlt9, mrk, mI1, mI2, mI3, mI4, mL1, mL2, mL3, mL4, mQ1, mQ2, mQ3, mQ4, mT1, mcat0, mcat1, mcat2, mcat3, mcat4, mrf1, jK_v, jK_n, JA, mz1, if_true, if_false, ite_true, ite_false, eq_self, not_false_eq_true, Nat.zero_le, true_and, and_true, and_self, Nat.reduceMod, Nat.reduceAdd, Nat.reduceLeDiff, Nat.reduceEqDiff, Nat.reduceLT, hw, ht0, a0', ht2, a2', ht5, a5', hc1, q1', hc2, q2', r2', hc3, q3', r3', hc4, q4', r4']
                      rfl
                  · have q4' := eq_false q4
                    rw [if_neg q4]
                    refine ⟨_, cPost_no H3, fun Q => ?_⟩
                    simp only [x51_0, x51_1, x51_4, x51_7, x51_10, x51_13, x51_14, x51_17, x51_20, x51_23, x51_26, x51_27, x51_30, x51_33, x51_36, x51_39, x51_40, x51_43, x51_44, x51_45, x51_46, x51_49, x51_52, x51_55, x51_58, x51_59, x51_62, x51_65, x51_68, x51_71, x51_72, x51_75, x51_78, x51_81, x51_84, x51_85, x51_88, x51_91, x51_94, x51_97, x51_98, x51_101, x51_102, x51_103, x51_104, x51_107, x51_110, x51_113, x51_116, x51_117, x51_120, x51_123, x51_126, x51_129, x51_130, x51_133, x51_136, x51_139, x51_142, x51_143, x51_146, x51_149, x51_152, x51_155, x51_156, x51_159, x51_162, x51_165, x51_168, x51_169, x51_172, x51_175, x51_178, x51_181, x51_182, x51_185, x51_186, x51_187, x51_188, x51_191, x51_194, x51_197, x51_200, x51_201, x51_204, x51_207a, x51_207b, x51_207c, x51_208, x51_209, x51_212, x51_215, x51_218, x51_221, x51_222, x51_223, x51_226, x51_229, x51_230, x51_233, x51_236, x51_237, x51_240, x51_243, x51_244, x51_247, x51_248, x51_249, x51_250, mzi, mInc, mne, mlt9, mrk, mI1, mI2, mI3, mI4, mL1, mL2, mL3, mL4, mQ1, mQ2, mQ3, mQ4, mT1, mcat0, mcat1, mcat2, mcat3, mcat4, mrf1, jK_v, jK_n, JA, mz1, if_true, if_false, ite_true, ite_false, eq_self, not_false_eq_true, Nat.zero_le, true_and, and_true, and_self, Nat.reduceMod, Nat.reduceAdd, Nat.reduceLeDiff, Nat.reduceEqDiff, Nat.reduceLT, hw, ht0, a0', ht2, a2', ht5, a5', hc1, q1', hc2, q2', r2', hc3, q3', r3', hc4, q4']
                    rfl
                · have r3' := eq_false r3
                  rw [if_neg r3]
                  refine ⟨_, cPost_no G3, fun Q => ?_⟩
                  simp only [x51_0, x51_1, x51_4, x51_7, x51_10, x51_13, x51_14, x51_17, x51_20, x51_23, x51_26, x51_27, x51_30, x51_33, x51_36, x51_39, x51_40, x51_43, x51_44, x51_45, x51_46, x51_49, x51_52, x51_55, x51_58, x51_59, x51_62, x51_65, x51_68, x51_71, x51_72, x51_75, x51_78, x51_81, x51_84, x51_85, x51_88, x51_91, x51_94, x51_97, x51_98, x51_101, x51_102, x51_103, x51_104, x51_107, x51_110, x51_113, x51_116, x51_117, x51_120, x51_123, x51_126, x51_129, x51_130, x51_133, x51_136, x51_139, x51_142, x51_143, x51_146, x51_149, x51_152, x51_155, x51_156, x51_159, x51_162, x51_165, x51_168, x51_169, x51_172, x51_175, x51_178, x51_181, x51_182, x51_185, x51_186, x51_187, x51_188, x51_191, x51_194, x51_197, x51_200, x51_201, x51_204, x51_207a, x51_207b, x51_207c, x51_208, x51_209, x51_212, x51_215, x51_218, x51_221, x51_222, x51_223, x51_226, x51_229, x51_230, x51_233, x51_236, x51_237, x51_240, x51_243, x51_244, x51_247, x51_248, x51_249, x51_250, mzi, mInc, mne, mlt9, mrk, mI1, mI2, mI3, mI4, mL1, mL2, mL3, mL4, mQ1, mQ2, mQ3, mQ4, mT1, mcat0, mcat1, mcat2, mcat3, mcat4, mrf1, jK_v, jK_n, JA, mz1, if_true, if_false, ite_true, ite_false, eq_self, not_false_eq_true, Nat.zero_le, true_and, and_true, and_self, Nat.reduceMod, Nat.reduceAdd, Nat.reduceLeDiff, Nat.reduceEqDiff, Nat.reduceLT, hw, ht0, a0', ht2, a2', ht5, a5', hc1, q1', hc2, q2', r2', hc3, q3', r3']
                  rfl
              · have q3' := eq_false q3
                rw [if_neg q3]
                refine ⟨_, cPost_no H2, fun Q => ?_⟩
                simp only [x51_0, x51_1, x51_4, x51_7, x51_10, x51_13, x51_14, x51_17, x51_20, x51_23, x51_26, x51_27, x51_30, x51_33, x51_36, x51_39, x51_40, x51_43, x51_44, x51_45, x51_46, x51_49, x51_52, x51_55, x51_58, x51_59, x51_62, x51_65, x51_68, x51_71, x51_72, x51_75, x51_78, x51_81, x51_84, x51_85, x51_88, x51_91, x51_94, x51_97, x51_98, x51_101, x51_102, x51_103, x51_104, x51_107, x51_110, x51_113, x51_116, x51_117, x51_120, x51_123, x51_126, x51_129, x51_130, x51_133, x51_136, x51_139, x51_142, x51_143, x51_146, x51_149, x51_152, x51_155, x51_156, x51_159, x51_162, x51_165, x51_168, x51_169, x51_172, x51_175, x51_178, x51_181, x51_182, x51_185, x51_186, x51_187, x51_188, x51_191, x51_194, x51_197, x51_200, x51_201, x51_204, x51_207a, x51_207b, x51_207c, x51_208, x51_209, x51_212, x51_215, x51_218, x51_221, x51_222, x51_223, x51_226, x51_229, x51_230, x51_233, x51_236, x51_237, x51_240, x51_243, x51_244, x51_247, x51_248, x51_249, x51_250, mzi, mInc, mne, mlt9, mrk, mI1, mI2, mI3, mI4, mL1, mL2, mL3, mL4, mQ1, mQ2, mQ3, mQ4, mT1, mcat0, mcat1, mcat2, mcat3, mcat4, mrf1, jK_v, jK_n, JA, mz1, if_true, if_false, ite_true, ite_false, eq_self, not_false_eq_true, Nat.zero_le, true_and, and_true, and_self, Nat.reduceMod, Nat.reduceAdd, Nat.reduceLeDiff, Nat.reduceEqDiff, Nat.reduceLT, hw, ht0, a0', ht2, a2', ht5, a5', hc1, q1', hc2, q2', r2', hc3, q3']
                rfl
            · have r2' := eq_false r2
              rw [if_neg r2]
              refine ⟨_, cPost_no G2, fun Q => ?_⟩
              simp only [x51_0, x51_1, x51_4, x51_7, x51_10, x51_13, x51_14, x51_17, x51_20, x51_23, x51_26, x51_27, x51_30, x51_33, x51_36, x51_39, x51_40, x51_43, x51_44, x51_45, x51_46, x51_49, x51_52, x51_55, x51_58, x51_59, x51_62, x51_65, x51_68, x51_71, x51_72, x51_75, x51_78, x51_81, x51_84, x51_85, x51_88, x51_91, x51_94, x51_97, x51_98, x51_101, x51_102, x51_103, x51_104, x51_107, x51_110, x51_113, x51_116, x51_117, x51_120, x51_123, x51_126, x51_129, x51_130, x51_133, x51_136, x51_139, x51_142, x51_143, x51_146, x51_149, x51_152, x51_155, x51_156, x51_159, x51_162, x51_165, x51_168, x51_169, x51_172, x51_175, x51_178, x51_181, x51_182, x51_185, x51_186, x51_187, x51_188, x51_191, x51_194, x51_197, x51_200, x51_201, x51_204, x51_207a, x51_207b, x51_207c, x51_208, x51_209, x51_212, x51_215, x51_218, x51_221, x51_222, x51_223, x51_226, x51_229, x51_230, x51_233, x51_236, x51_237, x51_240, x51_243, x51_244, x51_247, x51_248, x51_249, x51_250, mzi, mInc, mne, mlt9, mrk, mI1, mI2, mI3, mI4, mL1, mL2, mL3, mL4, mQ1, mQ2, mQ3, mQ4, mT1, mcat0, mcat1, mcat2, mcat3, mcat4, mrf1, jK_v, jK_n, JA, mz1, if_true, if_false, ite_true, ite_false, eq_self, not_false_eq_true, Nat.zero_le, true_and, and_true, and_self, Nat.reduceMod, Nat.reduceAdd, Nat.reduceLeDiff, Nat.reduceEqDiff, Nat.reduceLT, hw, ht0, a0', ht2, a2', ht5, a5', hc1, q1', hc2, q2', r2']
              rfl
          · have q2' := eq_false q2
            rw [if_neg q2]
            refine ⟨_, cPost_no G1, fun Q => ?_⟩
            simp only [x51_0, x51_1, x51_4, x51_7, x51_10, x51_13, x51_14, x51_17, x51_20, x51_23, x51_26, x51_27, x51_30, x51_33, x51_36, x51_39, x51_40, x51_43, x51_44, x51_45, x51_46, x51_49, x51_52, x51_55, x51_58, x51_59, x51_62, x51_65, x51_68, x51_71, x51_72, x51_75, x51_78, x51_81, x51_84, x51_85, x51_88, x51_91, x51_94, x51_97, x51_98, x51_101, x51_102, x51_103, x51_104, x51_107, x51_110, x51_113, x51_116, x51_117, x51_120, x51_123, x51_126, x51_129, x51_130, x51_133, x51_136, x51_139, x51_142, x51_143, x51_146, x51_149, x51_152, x51_155, x51_156, x51_159, x51_162, x51_165, x51_168, x51_169, x51_172, x51_175, x51_178, x51_181, x51_182, x51_185, x51_186, x51_187, x51_188, x51_191, x51_194, x51_197, x51_200, x51_201, x51_204, x51_207a, x51_207b, x51_207c, x51_208, x51_209, x51_212, x51_215, x51_218, x51_221, x51_222, x51_223, x51_226, x51_229, x51_230, x51_233, x51_236, x51_237, x51_240, x51_243, x51_244, x51_247, x51_248, x51_249, x51_250, mzi, mInc, mne, mlt9, mrk, mI1, mI2, mI3, mI4, mL1, mL2, mL3, mL4, mQ1, mQ2, mQ3, mQ4, mT1, mcat0, mcat1, mcat2, mcat3, mcat4, mrf1, jK_v, jK_n, JA, mz1, if_true, if_false, ite_true, ite_false, eq_self, not_false_eq_true, Nat.zero_le, true_and, and_true, and_self, Nat.reduceMod, Nat.reduceAdd, Nat.reduceLeDiff, Nat.reduceEqDiff, Nat.reduceLT, hw, ht0, a0', ht2, a2', ht5, a5', hc1, q1', hc2, q2']
            rfl
        · have q1' := eq_false q1
          rw [if_neg q1]
          refine ⟨_, cPost_no hG1, fun Q => ?_⟩
          simp only [x51_0, x51_1, x51_4, x51_7, x51_10, x51_13, x51_14, x51_17, x51_20, x51_23, x51_26, x51_27, x51_30, x51_33, x51_36, x51_39, x51_40, x51_43, x51_44, x51_45, x51_46, x51_49, x51_52, x51_55, x51_58, x51_59, x51_62, x51_65, x51_68, x51_71, x51_72, x51_75, x51_78, x51_81, x51_84, x51_85, x51_88, x51_91, x51_94, x51_97, x51_98, x51_101, x51_102, x51_103, x51_104, x51_107, x51_110, x51_113, x51_116, x51_117, x51_120, x51_123, x51_126, x51_129, x51_130, x51_133, x51_136, x51_139, x51_142, x51_143, x51_146, x51_149, x51_152, x51_155, x51_156, x51_159, x51_162, x51_165, x51_168, x51_169, x51_172, x51_175, x51_178, x51_181, x51_182, x51_185, x51_186, x51_187, x51_188, x51_191, x51_194, x51_197, x51_200, x51_201, x51_204, x51_207a, x51_207b, x51_207c, x51_208, x51_209, x51_212, x51_215, x51_218, x51_221, x51_222, x51_223, x51_226, x51_229, x51_230, x51_233, x51_236, x51_237, x51_240, x51_243, x51_244, x51_247, x51_248, x51_249, x51_250, mzi, mInc, mne, mlt9, mrk, mI1, mI2, mI3, mI4, mL1, mL2, mL3, mL4, mQ1, mQ2, mQ3, mQ4, mT1, mcat0, mcat1, mcat2, mcat3, mcat4, mrf1, jK_v, jK_n, JA, mz1, if_true, if_false, ite_true, ite_false, eq_self, not_false_eq_true, Nat.zero_le, true_and, and_true, and_self, Nat.reduceMod, Nat.reduceAdd, Nat.reduceLeDiff, Nat.reduceEqDiff, Nat.reduceLT, hw, ht0, a0', ht2, a2', ht5, a5', hc1, q1']
          rfl
      · have a5' := eq_false a5
        rw [if_neg a5]
        by_cases a10 : kd i = 10
        · have a10' := eq_true a10
          rw [if_pos a10]
          have i1 := kTok_lt hT hi (by omega)
          simp only [kTks]
          have hx1 : jI (jsI ν 194 7 (iN (i + 1))) 194 7 = iN (i + 1) := hG1.2.1
          have hc1 : ∀ (Q : jO → jM → Prop), (Ex (d + 4) 53 0 [some (.ref 1413), some (.ref 2408), some (.ref 744)] [] (jsI ν 194 7 (iN (i + 1))) Q ↔ if kd (i + 1) = 37 then (if kd (i + 1 + 1) = 11 then Q (.inl (some (.int 1))) (jsI (jsI (jsI ν 194 7 (iN (i + 1))) 194 7 (iN (i + 1 + 1))) 194 7 (iN (i + 1 + 2))) else Q (.inl (some (.int 0))) (jsI (jsI ν 194 7 (iN (i + 1))) 194 7 (iN (i + 1 + 1)))) else Q (.inl (some (.int 0))) (jsI ν 194 7 (iN (i + 1)))) := fun Q => c_both (d := d + 2) (K := 37) (K' := 11) h0 hG1 i1 (by decide)
          by_cases q1 : kd (i + 1) = 37
          · have q1' := eq_true q1
            rw [if_pos q1]
            have i2 := kTok_lt hT i1 (by omega)
            have G1 := jGr_take (j := i + 1 + 1) hG1
            by_cases r1 : kd (i + 1 + 1) = 11
            · have r1' := eq_true r1
              rw [if_pos r1]
              have i3 := kTok_lt hT i2 (by omega)
              have H1 := jGr_take (j := i + 1 + 2) G1
              obtain ⟨ν1, p1, e1⟩ := (c_all h0 f).2.2.2.2.2.2.2.2.2 0 (i + 1 + 2) E _ (d + 4) (by omega) H1 i3 (by omega) (by omega) (by omega)
              have bs := kP_b hT f 9 0 (i + 1 + 2) i3
              rw [if_neg (by decide)] at bs
              have ev : kBd (true, i + 1 + 1 + 1, []) (kP kd f 9 0) = kP kd f 9 0 (i + 1 + 2) := rfl
              rw [ev]
              simp only [mzi] at e1
              generalize kP kd f 9 0 (i + 1 + 2) = r at p1 e1 bs ⊢
              obtain ⟨ok, j, l⟩ := r
              cases ok with
              | true =>
                obtain ⟨bs1, bs2⟩ := bs
                obtain ⟨bs3, bs4⟩ := bs2 rfl
                dsimp only at bs1 bs3 bs4
                have hG2 : jGr μ ν1 j (E ++ l) := p1.1 rfl
                have hw1 := jGr_w h0 hG2
                unfold jWd at hw1
                have hadd : ∀ (Q : jO → jM → Prop), (Ex (d + 4) 58 0 [some (.ref 1156), some (.ref 680), some (.int (iN (i + 1)))] [] ν1 Q ↔ Q (.inl (some (.int 1))) (kAdM ν1 (E ++ l).length 10 (i + 1))) := fun Q => c_add (K := 10) (t := i + 1) h0 hG2 (by rw [List.length_append]; omega)
                refine ⟨_, cPost_em (K := 10) (t := i + 1) hG2, fun Q => ?_⟩
                have z0 : (0 : Int32) = iN 0 := rfl
                simp only [x51_0, x51_1, x51_4, x51_7, x51_10, x51_13, x51_14, x51_17, x51_20, x51_23, x51_26, x51_27, x51_30, x51_33, x51_36, x51_39, x51_40, x51_43, x51_44, x51_45, x51_46, x51_49, x51_52, x51_55, x51_58, x51_59, x51_62, x51_65, x51_68, x51_71, x51_72, x51_75, x51_78, x51_81, x51_84, x51_85, x51_88, x51_91, x51_94, x51_97, x51_98, x51_101, x51_102, x51_103, x51_104, x51_107, x51_110, x51_113, x51_116, x51_117, x51_120, x51_123, x51_126, x51_129, x51_130, x51_133, x51_136, x51_139, x51_142, x51_143, x51_146, x51_149, x51_152, x51_155, x51_156, x51_159, x51_162, x51_165, x51_168, x51_169, x51_172, x51_175, x51_178, x51_181, x51_182, x51_185, x51_186, x51_187, x51_188, x51_191, x51_194, x51_197, x51_200, x51_201, x51_204, x51_207a, x51_207b, x51_207c, x51_208, x51_209, x51_212, x51_215, x51_218, x51_221, x51_222, x51_223, x51_226, x51_229, x51_230, x51_233, x51_236, x51_237, x51_240, x51_243, x51_244, x51_247, x51_248, x51_249, x51_250, mzi, mInc, mne, mlt9, mrk, mI1, mI2, mI3, mI4, mL1, mL2, mL3, mL4, mQ1, mQ2, mQ3, mQ4, mT1, mcat0, mcat1, mcat2, mcat3, mcat4, mrf1, jK_v, jK_n, JA, mz1, if_true, if_false, ite_true, ite_false, eq_self, not_false_eq_true, Nat.zero_le, true_and, and_true, and_self, Nat.reduceMod, Nat.reduceAdd, Nat.reduceLeDiff, Nat.reduceEqDiff, Nat.reduceLT, hw, hw1, hx1, ht0, a0', ht2, a2', ht5, a5', ht10, a10', hc1, q1', r1', e1, hadd, cond_true]
                rfl
              | false =>
                rw [kBd_f (r := (false, j, l)) rfl]
                refine ⟨ν1, cPost_f p1 rfl, fun Q => ?_⟩
                simp only [x51_0, x51_1, x51_4, x51_7, x51_10, x51_13, x51_14, x51_17, x51_20, x51_23, x51_26, x51_27, x51_30, x51_33, x51_36, x51_39, x51_40, x51_43, x51_44, x51_45, x51_46, x51_49, x51_52, x51_55, x51_58, x51_59, x51_62, x51_65, x51_68, x51_71, x51_72, x51_75, x51_78, x51_81, x51_84, x51_85, x51_88, x51_91, x51_94, x51_97, x51_98, x51_101, x51_102, x51_103, x51_104, x51_107, x51_110, x51_113, x51_116, x51_117, x51_120, x51_123, x51_126, x51_129, x51_130, x51_133, x51_136, x51_139, x51_142, x51_143, x51_146, x51_149, x51_152, x51_155, x51_156, x51_159, x51_162, x51_165, x51_168, x51_169, x51_172, x51_175, x51_178, x51_181, x51_182, x51_185, x51_186, x51_187, x51_188, x51_191, x51_194, x51_197, x51_200, x51_201, x51_204, x51_207a, x51_207b, x51_207c, x51_208, x51_209, x51_212, x51_215, x51_218, x51_221, x51_222, x51_223, x51_226, x51_229, x51_230, x51_233, x51_236, x51_237, x51_240, x51_243, x51_244, x51_247, x51_248, x51_249, x51_250, mzi, mInc, mne, mlt9, mrk, mI1, mI2, mI3, mI4, mL1, mL2, mL3, mL4, mQ1, mQ2, mQ3, mQ4, mT1, mcat0, mcat1, mcat2, mcat3, mcat4, mrf1, jK_v, jK_n, JA, mz1, if_true, if_false, ite_true, ite_false, eq_self, not_false_eq_true, Nat.zero_le, true_and, and_true, and_self, Nat.reduceMod, Nat.reduceAdd, Nat.reduceLeDiff, Nat.reduceEqDiff, Nat.reduceLT, hw, hx1, ht0, a0', ht2, a2', ht5, a5', ht10, a10', hc1, q1', r1', e1, cond_false]
            · have r1' := eq_false r1
              rw [if_neg r1, kBd_f (r := kBd (kNo (i + 1 + 1)) (kP kd f 9 0)) rfl, kBd_f (r := kNo (i + 1 + 1)) rfl]
              refine ⟨_, cPost_no G1, fun Q => ?_⟩
              simp only [x51_0, x51_1, x51_4, x51_7, x51_10, x51_13, x51_14, x51_17, x51_20, x51_23, x51_26, x51_27, x51_30, x51_33, x51_36, x51_39, x51_40, x51_43, x51_44, x51_45, x51_46, x51_49, x51_52, x51_55, x51_58, x51_59, x51_62, x51_65, x51_68, x51_71, x51_72, x51_75, x51_78, x51_81, x51_84, x51_85, x51_88, x51_91, x51_94, x51_97, x51_98, x51_101, x51_102, x51_103, x51_104, x51_107, x51_110, x51_113, x51_116, x51_117, x51_120, x51_123, x51_126, x51_129, x51_130, x51_133, x51_136, x51_139, x51_142, x51_143, x51_146, x51_149, x51_152, x51_155, x51_156, x51_159, x51_162, x51_165, x51_168, x51_169, x51_172, x51_175, x51_178, x51_181, x51_182, x51_185, x51_186, x51_187, x51_188, x51_191, x51_194, x51_197, x51_200, x51_201, x51_204, x51_207a, x51_207b, x51_207c, x51_208, x51_209, x51_212, x51_215, x51_218, x51_221, x51_222, x51_223, x51_226, x51_229, x51_230, x51_233, x51_236, x51_237, x51_240, x51_243, x51_244, x51_247, x51_248, x51_249, x51_250, mzi, mInc, mne, mlt9, mrk, mI1, mI2, mI3, mI4, mL1, mL2, mL3, mL4, mQ1, mQ2, mQ3, mQ4, mT1, mcat0, mcat1, mcat2, mcat3, mcat4, mrf1, jK_v, jK_n, JA, mz1, if_true, if_false, ite_true, ite_false, eq_self, not_false_eq_true, Nat.zero_le, true_and, and_true, and_self, Nat.reduceMod, Nat.reduceAdd, Nat.reduceLeDiff, Nat.reduceEqDiff, Nat.reduceLT, hw, ht0, a0', ht2, a2', ht5, a5', ht10, a10', hc1, q1', r1']
              rfl
          · have q1' := eq_false q1
            rw [if_neg q1, kBd_f (r := kBd (kNo (i + 1)) (kP kd f 9 0)) rfl, kBd_f (r := kNo (i + 1)) rfl]
            refine ⟨_, cPost_no hG1, fun Q => ?_⟩
            simp only [x51_0, x51_1, x51_4, x51_7, x51_10, x51_13, x51_14, x51_17, x51_20, x51_23, x51_26, x51_27, x51_30, x51_33, x51_36, x51_39, x51_40, x51_43, x51_44, x51_45, x51_46, x51_49, x51_52, x51_55, x51_58, x51_59, x51_62, x51_65, x51_68, x51_71, x51_72, x51_75, x51_78, x51_81, x51_84, x51_85, x51_88, x51_91, x51_94, x51_97, x51_98, x51_101, x51_102, x51_103, x51_104, x51_107, x51_110, x51_113, x51_116, x51_117, x51_120, x51_123, x51_126, x51_129, x51_130, x51_133, x51_136, x51_139, x51_142, x51_143, x51_146, x51_149, x51_152, x51_155, x51_156, x51_159, x51_162, x51_165, x51_168, x51_169, x51_172, x51_175, x51_178, x51_181, x51_182, x51_185, x51_186, x51_187, x51_188, x51_191, x51_194, x51_197, x51_200, x51_201, x51_204, x51_207a, x51_207b, x51_207c, x51_208, x51_209, x51_212, x51_215, x51_218, x51_221, x51_222, x51_223, x51_226, x51_229, x51_230, x51_233, x51_236, x51_237, x51_240, x51_243, x51_244, x51_247, x51_248, x51_249, x51_250, mzi, mInc, mne, mlt9, mrk, mI1, mI2, mI3, mI4, mL1, mL2, mL3, mL4, mQ1, mQ2, mQ3, mQ4, mT1, mcat0, mcat1, mcat2, mcat3, mcat4, mrf1, jK_v, jK_n, JA, mz1, if_true, if_false, ite_true, ite_false, eq_self, not_false_eq_true, Nat.zero_le, true_and, and_true, and_self, Nat.reduceMod, Nat.reduceAdd, Nat.reduceLeDiff, Nat.reduceEqDiff, Nat.reduceLT, hw, ht0, a0', ht2, a2', ht5, a5', ht10, a10', hc1, q1']
            rfl
        · have a10' := eq_false a10
          rw [if_neg a10]
          refine ⟨ν, cPost_no hG, fun Q => ?_⟩
          simp only [x51_0, x51_1, x51_4, x51_7, x51_10, x51_13, x51_14, x51_17, x51_20, x51_23, x51_26, x51_27, x51_30, x51_33, x51_36, x51_39, x51_40, x51_43, x51_44, x51_45, x51_46, x51_49, x51_52, x51_55, x51_58, x51_59, x51_62, x51_65, x51_68, x51_71, x51_72, x51_75, x51_78, x51_81, x51_84, x51_85, x51_88, x51_91, x51_94, x51_97, x51_98, x51_101, x51_102, x51_103, x51_104, x51_107, x51_110, x51_113, x51_116, x51_117, x51_120, x51_123, x51_126, x51_129, x51_130, x51_133, x51_136, x51_139, x51_142, x51_143, x51_146, x51_149, x51_152, x51_155, x51_156, x51_159, x51_162, x51_165, x51_168, x51_169, x51_172, x51_175, x51_178, x51_181, x51_182, x51_185, x51_186, x51_187, x51_188, x51_191, x51_194, x51_197, x51_200, x51_201, x51_204, x51_207a, x51_207b, x51_207c, x51_208, x51_209, x51_212, x51_215, x51_218, x51_221, x51_222, x51_223, x51_226, x51_229, x51_230, x51_233, x51_236, x51_237, x51_240, x51_243, x51_244, x51_247, x51_248, x51_249, x51_250, mzi, mInc, mne, mlt9, mrk, mI1, mI2, mI3, mI4, mL1, mL2, mL3, mL4, mQ1, mQ2, mQ3, mQ4, mT1, mcat0, mcat1, mcat2, mcat3, mcat4, mrf1, jK_v, jK_n, JA, mz1, if_true, if_false, ite_true, ite_false, eq_self, not_false_eq_true, Nat.zero_le, true_and, and_true, and_self, Nat.reduceMod, Nat.reduceAdd, Nat.reduceLeDiff, Nat.reduceEqDiff, Nat.reduceLT, hw, ht0, a0', ht2, a2', ht5, a5', ht10, a10']
          rfl
theorem c_gPlanL (h0 : jG0 μ kd N) {d : Nat} (hd : 71 ≤ d) : ∀ (g i : Nat) (E : List (Nat × Nat)) (ν : jM) (c : Nat), jGr μ ν i E → i ≤ N - 1 → E.length ≤ i → 8 * 402 ≤ f → c ≤ i → 402 ≤ g + i → ∃ ν', cPost μ ν' E (kPlan kd f g i) ∧ ∀ Q, (Ex d 48 10 [some (.ref 1413), some (.int (iN c))] [] ν Q ↔ Q (.inl (some (.int (bif (kPlan kd f g i).1 then 1 else 0)))) ν') := by
  obtain ⟨d, rfl⟩ : ∃ d', d = d' + 5 := ⟨d - 5, by omega⟩
  have hT := h0.2.1
  have hN2 := hT.2.1
  intro g
  induction g with
  | zero => intro i E ν c hG hi _ _ _ h; exact absurd h (by omega)
  | succ g ih =>
    intro i E ν c hG hi hE hf hc hg
    have hw := jGr_w h0 hG
    unfold jWd at hw
    have his : ∀ Q, (Ex (d + 4) 49 0 [some (.ref 1413), some (.ref 2536)] [] ν Q ↔ Q (.inl (some (.int (if kd i = 39 then 1 else 0)))) ν) := fun Q => c_is (d := d + 3) (K := 39) h0 hG hi
    unfold kPlan
    by_cases a : kd i = 39
    · have a' := eq_true a
      rw [if_pos a]
      refine ⟨ν, cPost_1 (by rw [List.append_nil]; exact hG), fun Q => ?_⟩
      rw [x48_10]
      simp only [x48_0, x48_1, x48_4, x48_5, x48_8, x48_9a, x48_9b, x48_9c, x48_11, x48_14, x48_17, x48_18, x48_21, x48_24, x48_27, x48_28, x48_31, x48_34, x48_35, x48_38, x48_41, x48_44, x48_47, x48_48, x48_49a, x48_49b, x48_49c, x48_52, x48_55, x48_56, x48_59, x48_62, mzi, mInc, mne, mlt9, mrk, mI1, mI2, mI3, mI4, mL1, mL2, mL3, mL4, mQ1, mQ2, mQ3, mQ4, mT1, mcat0, mcat1, mcat2, mcat3, mcat4, mrf1, jK_v, jK_n, JA, mz1, if_true, if_false, ite_true, ite_false, eq_self, not_false_eq_true, Nat.zero_le, true_and, and_true, and_self, Nat.reduceMod, Nat.reduceAdd, Nat.reduceLeDiff, Nat.reduceEqDiff, Nat.reduceLT, hw, his, a', ite_self, cond_true]
    · have a' := eq_false a
      rw [if_neg a]
      by_cases c400 : c < 400
      · have hcl : iN c < (400 : Int32) := (iN_lt (b := 400) (by omega) (by decide)).mpr c400
        obtain ⟨ν1, p1, e1⟩ := c_gPart h0 (d := d + 4) hG hi hE (f := f) (by omega) (by omega)
        have bs := kPiece_b hT (f := f) hi
        generalize kPiece kd f i = r at p1 e1 bs ⊢
        obtain ⟨ok, j, l⟩ := r
        cases ok with
        | true =>
          obtain ⟨bs1, bs2⟩ := bs
          obtain ⟨bs3, bs4⟩ := bs2 rfl
          dsimp only at bs1 bs3 bs4
          have hG2 : jGr μ ν1 j (E ++ l) := p1.1 rfl
          have hw1 := jGr_w h0 hG2
          unfold jWd at hw1
          have hse : ∀ (Q : jO → jM → Prop), (Ex (d + 4) 52 0 [some (.ref 194), some (.ref 1704)] [] ν1 Q ↔ if kd j = 26 then Q (.inl (some (.int 1))) (jsI ν1 194 7 (iN (j + 1))) else Q (.inl (some (.int 0))) ν1) := fun Q => c_take (d := d + 3) (K := 26) h0 hG2 bs1
          have ev : kBd (true, j, l) (kT1 kd 26) = if kd j = 26 then (true, j + 1, l) else (false, j, l) := by
            unfold kT1 kBd
            by_cases q : kd j = 26
            · simp only [if_true, if_pos q, List.append_nil]
            · simp only [if_true, if_neg q, List.append_nil]
          rw [ev]
          by_cases q : kd j = 26
          · have q' := eq_true q
            rw [if_pos q]
            have hG3 := jGr_take (j := j + 1) hG2
            have j1 := kTok_lt hT bs1 (by omega)
            obtain ⟨ν2, p2, e2⟩ := ih (j + 1) (E ++ l) _ (c + 1) hG3 j1 (by rw [List.length_append]; omega) hf (by omega) (by omega)
            have ev2 : kBd (true, j + 1, l) (kPlan kd f g) = ((kPlan kd f g (j + 1)).1, (kPlan kd f g (j + 1)).2.1, l ++ (kPlan kd f g (j + 1)).2.2) := rfl
            rw [ev2]
            refine ⟨ν2, cPost_e p2, fun Q => ?_⟩
            rw [x48_10]
            simp only [x48_0, x48_1, x48_4, x48_5, x48_8, x48_9a, x48_9b, x48_9c, x48_11, x48_14, x48_17, x48_18, x48_21, x48_24, x48_27, x48_28, x48_31, x48_34, x48_35, x48_38, x48_41, x48_44, x48_47, x48_48, x48_49a, x48_49b, x48_49c, x48_52, x48_55, x48_56, x48_59, x48_62, mzi, mInc, mne, mlt9, mrk, mI1, mI2, mI3, mI4, mL1, mL2, mL3, mL4, mQ1, mQ2, mQ3, mQ4, mT1, mcat0, mcat1, mcat2, mcat3, mcat4, mrf1, jK_v, jK_n, JA, mz1, if_true, if_false, ite_true, ite_false, eq_self, not_false_eq_true, Nat.zero_le, true_and, and_true, and_self, Nat.reduceMod, Nat.reduceAdd, Nat.reduceLeDiff, Nat.reduceEqDiff, Nat.reduceLT, hw, hw1, hcl, his, a', e1, hse, q', e2, cond_true]
          · have q' := eq_false q
            rw [if_neg q, kBd_f (r := (false, j, l)) rfl]
            refine ⟨ν1, ⟨fun hh => Bool.noConfusion (show false = true from hh), fun _ => ⟨hG2.1, hG2.2.1⟩⟩, fun Q => ?_⟩
            rw [x48_10]
            simp only [x48_0, x48_1, x48_4, x48_5, x48_8, x48_9a, x48_9b, x48_9c, x48_11, x48_14, x48_17, x48_18, x48_21, x48_24, x48_27, x48_28, x48_31, x48_34, x48_35, x48_38, x48_41, x48_44, x48_47, x48_48, x48_49a, x48_49b, x48_49c, x48_52, x48_55, x48_56, x48_59, x48_62, mzi, mInc, mne, mlt9, mrk, mI1, mI2, mI3, mI4, mL1, mL2, mL3, mL4, mQ1, mQ2, mQ3, mQ4, mT1, mcat0, mcat1, mcat2, mcat3, mcat4, mrf1, jK_v, jK_n, JA, mz1, if_true, if_false, ite_true, ite_false, eq_self, not_false_eq_true, Nat.zero_le, true_and, and_true, and_self, Nat.reduceMod, Nat.reduceAdd, Nat.reduceLeDiff, Nat.reduceEqDiff, Nat.reduceLT, hw, hw1, hcl, his, a', e1, hse, q', cond_true, cond_false]
        | false =>
          rw [kBd_f (r := kBd (false, j, l) (kT1 kd 26)) rfl, kBd_f (r := (false, j, l)) rfl]
          refine ⟨ν1, cPost_f p1 rfl, fun Q => ?_⟩
          rw [x48_10]
          simp only [x48_0, x48_1, x48_4, x48_5, x48_8, x48_9a, x48_9b, x48_9c, x48_11, x48_14, x48_17, x48_18, x48_21, x48_24, x48_27, x48_28, x48_31, x48_34, x48_35, x48_38, x48_41, x48_44, x48_47, x48_48, x48_49a, x48_49b, x48_49c, x48_52, x48_55, x48_56, x48_59, x48_62, mzi, mInc, mne, mlt9, mrk, mI1, mI2, mI3, mI4, mL1, mL2, mL3, mL4, mQ1, mQ2, mQ3, mQ4, mT1, mcat0, mcat1, mcat2, mcat3, mcat4, mrf1, jK_v, jK_n, JA, mz1, if_true, if_false, ite_true, ite_false, eq_self, not_false_eq_true, Nat.zero_le, true_and, and_true, and_self, Nat.reduceMod, Nat.reduceAdd, Nat.reduceLeDiff, Nat.reduceEqDiff, Nat.reduceLT, hw, hcl, his, a', e1, cond_false]
      · -- the last token, and not the end
        have hi400 : i = 400 := by omega
        have hN1 : N = 401 := by omega
        have hpb := kPiece_b hT (f := f) hi
        have hk : 39 ≤ kd i := by
          have := hT.2.2.1
          rw [hi400]
          rw [hN1] at this
          exact this
        have hno : kPiece kd f i = kNo i := by
          unfold kPiece
          rw [if_neg (by omega), if_neg (by omega), if_neg (by omega), if_neg (by omega)]
        rw [hno, kBd_f (r := kBd (kNo i) (kT1 kd 26)) rfl, kBd_f (r := kNo i) rfl]
        have hcg : ¬ iN c < (400 : Int32) := fun h => c400 ((iN_lt (b := 400) (by omega) (by decide)).mp h)
        refine ⟨ν, cPost_no hG, fun Q => ?_⟩
        rw [x48_10]
        simp only [x48_0, x48_1, x48_4, x48_5, x48_8, x48_9a, x48_9b, x48_9c, x48_11, x48_14, x48_17, x48_18, x48_21, x48_24, x48_27, x48_28, x48_31, x48_34, x48_35, x48_38, x48_41, x48_44, x48_47, x48_48, x48_49a, x48_49b, x48_49c, x48_52, x48_55, x48_56, x48_59, x48_62, mzi, mInc, mne, mlt9, mrk, mI1, mI2, mI3, mI4, mL1, mL2, mL3, mL4, mQ1, mQ2, mQ3, mQ4, mT1, mcat0, mcat1, mcat2, mcat3, mcat4, mrf1, jK_v, jK_n, JA, mz1, if_true, if_false, ite_true, ite_false, eq_self, not_false_eq_true, Nat.zero_le, true_and, and_true, and_self, Nat.reduceMod, Nat.reduceAdd, Nat.reduceLeDiff, Nat.reduceEqDiff, Nat.reduceLT, hw, hcg, his, a']
        rfl
theorem c_gPlan (h0 : jG0 μ kd N) {ν : jM} {d : Nat} (hd : 71 ≤ d) (hF : jGf μ ν) (hl : jI ν 1156 3 = iN 0) : ∃ ν', cPost μ ν' [] (kPlan kd (8 * 402) 402 0) ∧ ∀ Q, (Ex d 48 0 [some (.ref 1413), none] [] ν Q ↔ Q (.inl (some (.int (bif (kPlan kd (8 * 402) 402 0).1 then 1 else 0)))) ν') := by
  have hG : jGr μ (jsI ν 194 7 (iN 0)) 0 [] := by
    obtain ⟨a1, a2, a3, a4, a5, a6, a7⟩ := hF
    exact ⟨⟨fun a n1 n2 n3 => by rw [mI2 n1]; exact a1 a n1 n2 n3, fun k hk => by rw [mI1, if_neg hk]; exact a2 k hk, fun k hk => by rw [mI2 (by decide)]; exact a3 k hk, a4, a5, a6, a7⟩, by rw [mI1, if_pos rfl], by rw [mI2 (by decide)]; exact hl, trivial⟩
  have hw : jWd ν := jWd_a (fun a n1 n2 n3 => hF.2.2.2.1 a n2) h0.1
  unfold jWd at hw
  obtain ⟨ν', p, e⟩ := c_gPlanL h0 (f := 8 * 402) hd 402 0 [] _ 0 hG (Nat.zero_le _) (Nat.le_refl _) (Nat.le_refl _) (Nat.le_refl _) (by omega)
  refine ⟨ν', p, fun Q => ?_⟩
  refine Iff.trans ?_ (e Q)
  obtain ⟨d, rfl⟩ : ∃ d', d = d' + 5 := ⟨d - 5, by omega⟩
  simp only [x48_0, x48_1, x48_4, x48_5, x48_8, x48_9a, x48_9b, x48_9c, x48_11, x48_14, x48_17, x48_18, x48_21, x48_24, x48_27, x48_28, x48_31, x48_34, x48_35, x48_38, x48_41, x48_44, x48_47, x48_48, x48_49a, x48_49b, x48_49c, x48_52, x48_55, x48_56, x48_59, x48_62, mzi, mInc, mne, mlt9, mrk, mI1, mI2, mI3, mI4, mL1, mL2, mL3, mL4, mQ1, mQ2, mQ3, mQ4, mT1, mcat0, mcat1, mcat2, mcat3, mcat4, mrf1, jK_v, jK_n, JA, mz1, if_true, if_false, ite_true, ite_false, eq_self, not_false_eq_true, Nat.zero_le, true_and, and_true, and_self, Nat.reduceMod, Nat.reduceAdd, Nat.reduceLeDiff, Nat.reduceEqDiff, Nat.reduceLT, hw]
end PART
