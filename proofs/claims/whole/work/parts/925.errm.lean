/-! THE PURE PART: all tokens, one after the other, class. -/
section ERRM
variable {d : Nat} {μ ν ν2 : jM} {Q : jO → jM → Prop} {n m t k K J L : Nat} {b4 : Option Nat} {e : Int32}
theorem c_it_0 (hW : jWd ν) (hK : K < 42) (hc : ¬ K = 10 ∧ ¬ K = 37 ∧ ¬ K = 38) (h4 : t < 400) (hk : ∀ (Q : jO → jM → Prop), (Ex (d + 5) 50 0 [some (.ref 194), some (.int (iN t))] [] (jsI ν 194 7 (iN t)) Q ↔ Q (.inl (some (.ref (64 * K + 40)))) (jsI ν 194 7 (iN t)))) : Ex (d + 6) 63 8 [some (.ref 1478), some (.ref (64 * J + 40)), some (.int 0), some (.int (iN t)), b4.map .ref] [] ν Q ↔ Ex (d + 6) 63 8 [some (.ref 1478), some (.ref (64 * K + 40)), some (.int 0), some (.int (iN (t + 1))), some (.ref (64 * K + 40))] [] (jsI ν 194 7 (iN t)) Q := by
  have hw := hW
  unfold jWd at hw
  have m40 : ∀ x, (64 * x + 40) % 64 = 40 := fun x => by omega
  have d40 : ∀ x, (64 * x + 40) / 64 = x := fun x => by omega
  have l42 : ∀ μ, jln 42 μ = 42 := fun _ => rfl
  have t42 : jty 42 = 0 := rfl
  have r42 : ∀ k μ, jrdI 42 k μ = jswm k := fun _ _ => rfl
  have kc : (iN K).toNatClampNeg = K := iN_cl (by omega)
  have kj : jin (iN K) 42 = true := iN_in hK (by omega)
  have t4 : iN t < (400 : Int32) := (iN_lt (b := 400) (by omega) (by omega)).mpr h4
  have hsw := swE K hK
  rw [if_neg hc.2.2, if_neg hc.1, if_neg hc.2.1] at hsw
  rw [x63_8]
  cases b4 <;> simp only [Option.map_some, Option.map_none, x63_0, x63_3a, x63_3b, x63_3c, x63_4, x63_5a, x63_5b, x63_5c, x63_6, x63_7a, x63_7b, x63_7c, x63_9, x63_12, x63_15, x63_16, x63_19, x63_20, x63_23, x63_24, x63_27, x63_28, x63_31a, x63_31b, x63_31c, x63_33, x63_36, x63_38, x63_41, x63_42, x63_76, x63_77, x63_80a, x63_80b, x63_80c, x63_81, x63_84, x63_85, x63_86, x63_89a, x63_89b, x63_89c, x63_90, x63_93, x63_94, x63_95, x63_98a, x63_98b, x63_98c, x63_99, x63_102, x63_103, x63_106, x63_107, x63_108, x63_110a, x63_110b, x63_110c, x63_111a, x63_111b, x63_111c, x63_114, x63_117, x63_118, x63_121, x63_124, x63_125, x63_128, x63_131, x63_132, x57_0, x57_1, x57_4, mzi, mInc, mne, mlt9, mrk, mI1, mI2, mI3, mI4, mL1, mL2, mL3, mL4, mQ1, mQ2, mQ3, mQ4, mT1, mcat0, mcat1, mcat2, mcat3, mcat4, mrf1, jK_v, jK_n, JA, mz1, if_true, if_false, ite_true, ite_false, eq_self, not_false_eq_true, Nat.zero_le, true_and, and_true, and_self, Nat.reduceMod, Nat.reduceAdd, Nat.reduceLeDiff, Nat.reduceEqDiff, Nat.reduceLT, hw, t4, hk, m40, d40, kc, kj, l42, t42, r42, hsw]
theorem c_it_n (hW : jWd ν) (hK : K < 42) (hc : K = 37) (h4 : t < 400) (hk : ∀ (Q : jO → jM → Prop), (Ex (d + 5) 50 0 [some (.ref 194), some (.int (iN t))] [] (jsI ν 194 7 (iN t)) Q ↔ Q (.inl (some (.ref (64 * K + 40)))) (jsI ν 194 7 (iN t)))) (he : ∀ (Q : jO → jM → Prop), (Ex (d + 5) 65 0 [some (.ref 1478), some (.ref (64 * J + 40))] [] (jsI ν 194 7 (iN t)) Q ↔ Q (.inl (some (.int e))) ν2)) : Ex (d + 6) 63 8 [some (.ref 1478), some (.ref (64 * J + 40)), some (.int 0), some (.int (iN t)), b4.map .ref] [] ν Q ↔ if e = 0 then Ex (d + 6) 63 8 [some (.ref 1478), some (.ref (64 * K + 40)), some (.int 0), some (.int (iN (t + 1))), some (.ref (64 * K + 40))] [] ν2 Q else Q (.inl (some (.int e))) ν2 := by
  have hw := hW
  unfold jWd at hw
  have m40 : ∀ x, (64 * x + 40) % 64 = 40 := fun x => by omega
  have d40 : ∀ x, (64 * x + 40) / 64 = x := fun x => by omega
  have l42 : ∀ μ, jln 42 μ = 42 := fun _ => rfl
  have t42 : jty 42 = 0 := rfl
  have r42 : ∀ k μ, jrdI 42 k μ = jswm k := fun _ _ => rfl
  have kc : (iN K).toNatClampNeg = K := iN_cl (by omega)
  have kj : jin (iN K) 42 = true := iN_in hK (by omega)
  have t4 : iN t < (400 : Int32) := (iN_lt (b := 400) (by omega) (by omega)).mpr h4
  have hsw := swE K hK
  rw [if_neg (by omega), if_neg (by omega), if_pos hc] at hsw
  rw [x63_8]
  by_cases g : e = 0
  · rw [g] at he
    have g' := eq_true g
    cases b4 <;> simp only [Option.map_some, Option.map_none, x63_0, x63_3a, x63_3b, x63_3c, x63_4, x63_5a, x63_5b, x63_5c, x63_6, x63_7a, x63_7b, x63_7c, x63_9, x63_12, x63_15, x63_16, x63_19, x63_20, x63_23, x63_24, x63_27, x63_28, x63_31a, x63_31b, x63_31c, x63_33, x63_36, x63_38, x63_41, x63_42, x63_76, x63_77, x63_80a, x63_80b, x63_80c, x63_81, x63_84, x63_85, x63_86, x63_89a, x63_89b, x63_89c, x63_90, x63_93, x63_94, x63_95, x63_98a, x63_98b, x63_98c, x63_99, x63_102, x63_103, x63_106, x63_107, x63_108, x63_110a, x63_110b, x63_110c, x63_111a, x63_111b, x63_111c, x63_114, x63_117, x63_118, x63_121, x63_124, x63_125, x63_128, x63_131, x63_132, x57_0, x57_1, x57_4, mzi, mInc, mne, mlt9, mrk, mI1, mI2, mI3, mI4, mL1, mL2, mL3, mL4, mQ1, mQ2, mQ3, mQ4, mT1, mcat0, mcat1, mcat2, mcat3, mcat4, mrf1, jK_v, jK_n, JA, mz1, if_true, if_false, ite_true, ite_false, eq_self, not_false_eq_true, Nat.zero_le, true_and, and_true, and_self, Nat.reduceMod, Nat.reduceAdd, Nat.reduceLeDiff, Nat.reduceEqDiff, Nat.reduceLT, hw, t4, hk, he, m40, d40, kc, kj, l42, t42, r42, hsw, g']
  · have g' := eq_false g
    cases b4 <;> simp only [Option.map_some, Option.map_none, x63_0, x63_3a, x63_3b, x63_3c, x63_4, x63_5a, x63_5b, x63_5c, x63_6, x63_7a, x63_7b, x63_7c, x63_9, x63_12, x63_15, x63_16, x63_19, x63_20, x63_23, x63_24, x63_27, x63_28, x63_31a, x63_31b, x63_31c, x63_33, x63_36, x63_38, x63_41, x63_42, x63_76, x63_77, x63_80a, x63_80b, x63_80c, x63_81, x63_84, x63_85, x63_86, x63_89a, x63_89b, x63_89c, x63_90, x63_93, x63_94, x63_95, x63_98a, x63_98b, x63_98c, x63_99, x63_102, x63_103, x63_106, x63_107, x63_108, x63_110a, x63_110b, x63_110c, x63_111a, x63_111b, x63_111c, x63_114, x63_117, x63_118, x63_121, x63_124, x63_125, x63_128, x63_131, x63_132, x57_0, x57_1, x57_4, mzi, mInc, mne, mlt9, mrk, mI1, mI2, mI3, mI4, mL1, mL2, mL3, mL4, mQ1, mQ2, mQ3, mQ4, mT1, mcat0, mcat1, mcat2, mcat3, mcat4, mrf1, jK_v, jK_n, JA, mz1, if_true, if_false, ite_true, ite_false, eq_self, not_false_eq_true, Nat.zero_le, true_and, and_true, and_self, Nat.reduceMod, Nat.reduceAdd, Nat.reduceLeDiff, Nat.reduceEqDiff, Nat.reduceLT, hw, t4, hk, he, m40, d40, kc, kj, l42, t42, r42, hsw, g']
theorem c_it_q (hW : jWd ν) (hK : K < 42) (hc : K = 38) (h4 : t < 400) (hk : ∀ (Q : jO → jM → Prop), (Ex (d + 5) 50 0 [some (.ref 194), some (.int (iN t))] [] (jsI ν 194 7 (iN t)) Q ↔ Q (.inl (some (.ref (64 * K + 40)))) (jsI ν 194 7 (iN t)))) (he : ∀ (Q : jO → jM → Prop), (Ex (d + 5) 79 0 [some (.ref 1478), some (.ref (64 * J + 40)), none] [] (jsI ν 194 7 (iN t)) Q ↔ Q (.inl (some (.int e))) ν2)) : Ex (d + 6) 63 8 [some (.ref 1478), some (.ref (64 * J + 40)), some (.int 0), some (.int (iN t)), b4.map .ref] [] ν Q ↔ if e = 0 then Ex (d + 6) 63 8 [some (.ref 1478), some (.ref (64 * K + 40)), some (.int 0), some (.int (iN (t + 1))), some (.ref (64 * K + 40))] [] ν2 Q else Q (.inl (some (.int e))) ν2 := by
  have hw := hW
  unfold jWd at hw
  have m40 : ∀ x, (64 * x + 40) % 64 = 40 := fun x => by omega
  have d40 : ∀ x, (64 * x + 40) / 64 = x := fun x => by omega
  have l42 : ∀ μ, jln 42 μ = 42 := fun _ => rfl
  have t42 : jty 42 = 0 := rfl
  have r42 : ∀ k μ, jrdI 42 k μ = jswm k := fun _ _ => rfl
  have kc : (iN K).toNatClampNeg = K := iN_cl (by omega)
  have kj : jin (iN K) 42 = true := iN_in hK (by omega)
  have t4 : iN t < (400 : Int32) := (iN_lt (b := 400) (by omega) (by omega)).mpr h4
  have hsw := swE K hK
  rw [if_pos hc] at hsw
  rw [x63_8]
  by_cases g : e = 0
  · rw [g] at he
    have g' := eq_true g
    cases b4 <;> simp only [Option.map_some, Option.map_none, x63_0, x63_3a, x63_3b, x63_3c, x63_4, x63_5a, x63_5b, x63_5c, x63_6, x63_7a, x63_7b, x63_7c, x63_9, x63_12, x63_15, x63_16, x63_19, x63_20, x63_23, x63_24, x63_27, x63_28, x63_31a, x63_31b, x63_31c, x63_33, x63_36, x63_38, x63_41, x63_42, x63_76, x63_77, x63_80a, x63_80b, x63_80c, x63_81, x63_84, x63_85, x63_86, x63_89a, x63_89b, x63_89c, x63_90, x63_93, x63_94, x63_95, x63_98a, x63_98b, x63_98c, x63_99, x63_102, x63_103, x63_106, x63_107, x63_108, x63_110a, x63_110b, x63_110c, x63_111a, x63_111b, x63_111c, x63_114, x63_117, x63_118, x63_121, x63_124, x63_125, x63_128, x63_131, x63_132, x57_0, x57_1, x57_4, mzi, mInc, mne, mlt9, mrk, mI1, mI2, mI3, mI4, mL1, mL2, mL3, mL4, mQ1, mQ2, mQ3, mQ4, mT1, mcat0, mcat1, mcat2, mcat3, mcat4, mrf1, jK_v, jK_n, JA, mz1, if_true, if_false, ite_true, ite_false, eq_self, not_false_eq_true, Nat.zero_le, true_and, and_true, and_self, Nat.reduceMod, Nat.reduceAdd, Nat.reduceLeDiff, Nat.reduceEqDiff, Nat.reduceLT, hw, t4, hk, he, m40, d40, kc, kj, l42, t42, r42, hsw, g']
  · have g' := eq_false g
    cases b4 <;> simp only [Option.map_some, Option.map_none, x63_0, x63_3a, x63_3b, x63_3c, x63_4, x63_5a, x63_5b, x63_5c, x63_6, x63_7a, x63_7b, x63_7c, x63_9, x63_12, x63_15, x63_16, x63_19, x63_20, x63_23, x63_24, x63_27, x63_28, x63_31a, x63_31b, x63_31c, x63_33, x63_36, x63_38, x63_41, x63_42, x63_76, x63_77, x63_80a, x63_80b, x63_80c, x63_81, x63_84, x63_85, x63_86, x63_89a, x63_89b, x63_89c, x63_90, x63_93, x63_94, x63_95, x63_98a, x63_98b, x63_98c, x63_99, x63_102, x63_103, x63_106, x63_107, x63_108, x63_110a, x63_110b, x63_110c, x63_111a, x63_111b, x63_111c, x63_114, x63_117, x63_118, x63_121, x63_124, x63_125, x63_128, x63_131, x63_132, x57_0, x57_1, x57_4, mzi, mInc, mne, mlt9, mrk, mI1, mI2, mI3, mI4, mL1, mL2, mL3, mL4, mQ1, mQ2, mQ3, mQ4, mT1, mcat0, mcat1, mcat2, mcat3, mcat4, mrf1, jK_v, jK_n, JA, mz1, if_true, if_false, ite_true, ite_false, eq_self, not_false_eq_true, Nat.zero_le, true_and, and_true, and_self, Nat.reduceMod, Nat.reduceAdd, Nat.reduceLeDiff, Nat.reduceEqDiff, Nat.reduceLT, hw, t4, hk, he, m40, d40, kc, kj, l42, t42, r42, hsw, g']
theorem c_it_s (hW : jWd ν) (hK : K < 42) (hc : K = 10) (h4 : t < 400) (hk : ∀ (Q : jO → jM → Prop), (Ex (d + 5) 50 0 [some (.ref 194), some (.int (iN t))] [] (jsI ν 194 7 (iN t)) Q ↔ Q (.inl (some (.ref (64 * K + 40)))) (jsI ν 194 7 (iN t)))) (he : ∀ (Q : jO → jM → Prop), (Ex (d + 5) 64 0 [some (.ref 1478)] [] (jsI ν 194 7 (iN t)) Q ↔ Q (.inl (some (.int e))) ν2)) : Ex (d + 6) 63 8 [some (.ref 1478), some (.ref (64 * J + 40)), some (.int 0), some (.int (iN t)), b4.map .ref] [] ν Q ↔ if e = 0 then Ex (d + 6) 63 8 [some (.ref 1478), some (.ref (64 * K + 40)), some (.int 0), some (.int (iN (t + 1))), some (.ref (64 * K + 40))] [] ν2 Q else Q (.inl (some (.int e))) ν2 := by
  have hw := hW
  unfold jWd at hw
  have m40 : ∀ x, (64 * x + 40) % 64 = 40 := fun x => by omega
  have d40 : ∀ x, (64 * x + 40) / 64 = x := fun x => by omega
  have l42 : ∀ μ, jln 42 μ = 42 := fun _ => rfl
  have t42 : jty 42 = 0 := rfl
  have r42 : ∀ k μ, jrdI 42 k μ = jswm k := fun _ _ => rfl
  have kc : (iN K).toNatClampNeg = K := iN_cl (by omega)
  have kj : jin (iN K) 42 = true := iN_in hK (by omega)
  have t4 : iN t < (400 : Int32) := (iN_lt (b := 400) (by omega) (by omega)).mpr h4
  have hsw := swE K hK
  rw [if_neg (by omega), if_pos hc] at hsw
  rw [x63_8]
  by_cases g : e = 0
  · rw [g] at he
    have g' := eq_true g
    cases b4 <;> simp only [Option.map_some, Option.map_none, x63_0, x63_3a, x63_3b, x63_3c, x63_4, x63_5a, x63_5b, x63_5c, x63_6, x63_7a, x63_7b, x63_7c, x63_9, x63_12, x63_15, x63_16, x63_19, x63_20, x63_23, x63_24, x63_27, x63_28, x63_31a, x63_31b, x63_31c, x63_33, x63_36, x63_38, x63_41, x63_42, x63_76, x63_77, x63_80a, x63_80b, x63_80c, x63_81, x63_84, x63_85, x63_86, x63_89a, x63_89b, x63_89c, x63_90, x63_93, x63_94, x63_95, x63_98a, x63_98b, x63_98c, x63_99, x63_102, x63_103, x63_106, x63_107, x63_108, x63_110a, x63_110b, x63_110c, x63_111a, x63_111b, x63_111c, x63_114, x63_117, x63_118, x63_121, x63_124, x63_125, x63_128, x63_131, x63_132, x57_0, x57_1, x57_4, mzi, mInc, mne, mlt9, mrk, mI1, mI2, mI3, mI4, mL1, mL2, mL3, mL4, mQ1, mQ2, mQ3, mQ4, mT1, mcat0, mcat1, mcat2, mcat3, mcat4, mrf1, jK_v, jK_n, JA, mz1, if_true, if_false, ite_true, ite_false, eq_self, not_false_eq_true, Nat.zero_le, true_and, and_true, and_self, Nat.reduceMod, Nat.reduceAdd, Nat.reduceLeDiff, Nat.reduceEqDiff, Nat.reduceLT, hw, t4, hk, he, m40, d40, kc, kj, l42, t42, r42, hsw, g']
  · have g' := eq_false g
    cases b4 <;> simp only [Option.map_some, Option.map_none, x63_0, x63_3a, x63_3b, x63_3c, x63_4, x63_5a, x63_5b, x63_5c, x63_6, x63_7a, x63_7b, x63_7c, x63_9, x63_12, x63_15, x63_16, x63_19, x63_20, x63_23, x63_24, x63_27, x63_28, x63_31a, x63_31b, x63_31c, x63_33, x63_36, x63_38, x63_41, x63_42, x63_76, x63_77, x63_80a, x63_80b, x63_80c, x63_81, x63_84, x63_85, x63_86, x63_89a, x63_89b, x63_89c, x63_90, x63_93, x63_94, x63_95, x63_98a, x63_98b, x63_98c, x63_99, x63_102, x63_103, x63_106, x63_107, x63_108, x63_110a, x63_110b, x63_110c, x63_111a, x63_111b, x63_111c, x63_114, x63_117, x63_118, x63_121, x63_124, x63_125, x63_128, x63_131, x63_132, x57_0, x57_1, x57_4, mzi, mInc, mne, mlt9, mrk, mI1, mI2, mI3, mI4, mL1, mL2, mL3, mL4, mQ1, mQ2, mQ3, mQ4, mT1, mcat0, mcat1, mcat2, mcat3, mcat4, mrf1, jK_v, jK_n, JA, mz1, if_true, if_false, ite_true, ite_false, eq_self, not_false_eq_true, Nat.zero_le, true_and, and_true, and_self, Nat.reduceMod, Nat.reduceAdd, Nat.reduceLeDiff, Nat.reduceEqDiff, Nat.reduceLT, hw, t4, hk, he, m40, d40, kc, kj, l42, t42, r42, hsw, g']
theorem c_kindE {N : Nat} (hW : jWd ν) (hN : jI ν 194 6 = iN N) (hN4 : N ≤ 401) (hj : N ≤ k) (h4 : k < 401) : Ex d 50 0 [some (.ref 194), some (.int (iN k))] [] ν Q ↔ Q (.inl (some (.ref 2600))) ν := by
  have hw := hW
  unfold jWd at hw
  have k0 : ¬ iN k < 0 := iN_nn (by omega)
  have k1 : ¬ iN k < iN N := fun h => by have := (iN_lt (by omega) (by omega)).mp h; omega
  simp only [x50_0, x50_1, x50_4, x50_5, x50_6, x50_9, x50_12, x50_13, x50_14, x50_17, x50_18, x50_21, x50_22, x50_25, x50_26, x50_27, x50_30, x50_33, mzi, mInc, mne, mlt9, mrk, mI1, mI2, mI3, mI4, mL1, mL2, mL3, mL4, mQ1, mQ2, mQ3, mQ4, mT1, mcat0, mcat1, mcat2, mcat3, mcat4, mrf1, jK_v, jK_n, JA, mz1, if_true, if_false, ite_true, ite_false, eq_self, not_false_eq_true, Nat.zero_le, true_and, and_true, and_self, Nat.reduceMod, Nat.reduceAdd, Nat.reduceLeDiff, Nat.reduceEqDiff, Nat.reduceLT, hw, hN, k0, k1]
/-- the subjects of the tests' steps, as they are meant -/
def jSt (ν ν' : jM) (s : Nat → Nat) (L i : Nat) : Prop := (∀ a, ¬ a = 1304 → jI ν' a = jI ν a) ∧ jQ ν' = jQ ν ∧ jL ν' = jL ν ∧ jA ν' = jA ν ∧ jX ν' = jX ν ∧ ∀ j, j < L → jI ν' 1304 j = if j < i then jI ν 473 (s j) else iN (s j)
theorem c_settle {s : Nat → Nat} (hW : jWd ν) (hL : jI ν 1156 3 = iN L) (hL4 : L ≤ 400) (hs : ∀ j, j < L → jI ν 1304 j = iN (s j) ∧ s j < 401) : ∃ ν', jSt ν ν' s L L ∧ ∀ (d : Nat) (Q : jO → jM → Prop), (Ex (d + 1) 87 0 [some (.ref 1156), some (.ref 194), none] [] ν Q ↔ Q (.inl none) ν') := by
  have hw := hW
  unfold jWd at hw
  have hclimb : ∀ i, i ≤ L → ∃ ν', jSt ν ν' s L i ∧ ∀ (d : Nat) (Q : jO → jM → Prop), (Ex (d + 1) 87 0 [some (.ref 1156), some (.ref 194), none] [] ν Q ↔ Ex (d + 1) 87 2 [some (.ref 1156), some (.ref 194), some (.int (iN i))] [] ν' Q) := by
    intro i
    induction i with
    | zero =>
      intro _
      refine ⟨ν, ⟨fun _ _ => rfl, rfl, rfl, rfl, rfl, fun j hj => by rw [if_neg (by omega)]; exact (hs j hj).1⟩, fun d Q => ?_⟩
      simp only [x87_0, x87_1a, x87_1b, x87_1c, x87_3, x87_4, x87_7, x87_10, x87_11, x87_12, x87_15, x87_16, x87_19, x87_20, x87_23, x87_24, x87_25, x87_26, x87_29, x87_30, x87_31, x87_34, x87_35a, x87_35b, x87_35c, x87_38, x87_41, mzi, mInc, mne, mlt9, mrk, mI1, mI2, mI3, mI4, mL1, mL2, mL3, mL4, mQ1, mQ2, mQ3, mQ4, mT1, mcat0, mcat1, mcat2, mcat3, mcat4, mrf1, jK_v, jK_n, JA, mz1, if_true, if_false, ite_true, ite_false, eq_self, not_false_eq_true, Nat.zero_le, true_and, and_true, and_self, Nat.reduceMod, Nat.reduceAdd, Nat.reduceLeDiff, Nat.reduceEqDiff, Nat.reduceLT]
    | succ i ih =>
      intro hi
      obtain ⟨ν', ⟨f1, f2, f3, f4, f5, f6⟩, e1⟩ := ih (by omega)
      have hw' : jWd ν' := jWd_c f2 hW
      have hw2 := hw'
      unfold jWd at hw2
      have hL' : jI ν' 1156 3 = iN L := by rw [f1 1156 (by decide)]; exact hL
      have hi1 : jI ν' 1304 i = iN (s i) := by rw [f6 i (by omega), if_neg (by omega)]
      have hm := fun d Q => c_meaning (d := d) (Q := Q) (ν := ν') (i := s i) hw' (hs i (by omega)).2
      have i1 : iN i < iN L := (iN_lt (by omega) (by omega)).mpr (by omega)
      have i2 : iN i < iN 400 := (iN_lt (by omega) (by omega)).mpr (by omega)
      have ic : (iN i).toNatClampNeg = i := iN_cl (by omega)
      have ij : jin (iN i) 400 = true := iN_in (by omega) (by omega)
      refine ⟨jsI ν' 1304 i (jI ν' 473 (s i)), ⟨fun a ha => by rw [mI2 ha]; exact f1 a ha, f2, f3, f4, f5, fun j hj => ?_⟩, fun d Q => ?_⟩
      · rw [mI1]
        by_cases q : j = i
        · rw [if_pos q, if_pos (by omega), q, f1 473 (by decide)]
        · rw [if_neg q, f6 j hj]
          by_cases q2 : j < i
          · rw [if_pos q2, if_pos (by omega)]
          · rw [if_neg q2, if_neg (by omega)]
      · rw [e1, x87_2]
        simp only [x87_0, x87_1a, x87_1b, x87_1c, x87_3, x87_4, x87_7, x87_10, x87_11, x87_12, x87_15, x87_16, x87_19, x87_20, x87_23, x87_24, x87_25, x87_26, x87_29, x87_30, x87_31, x87_34, x87_35a, x87_35b, x87_35c, x87_38, x87_41, mzi, mInc, mne, mlt9, mrk, mI1, mI2, mI3, mI4, mL1, mL2, mL3, mL4, mQ1, mQ2, mQ3, mQ4, mT1, mcat0, mcat1, mcat2, mcat3, mcat4, mrf1, jK_v, jK_n, JA, mz1, if_true, if_false, ite_true, ite_false, eq_self, not_false_eq_true, Nat.zero_le, true_and, and_true, and_self, Nat.reduceMod, Nat.reduceAdd, Nat.reduceLeDiff, Nat.reduceEqDiff, Nat.reduceLT, hw2, hL', hi1, hm, i1, i2, ic, ij]
  obtain ⟨ν', h1, e1⟩ := hclimb L (Nat.le_refl _)
  have hw' : jWd ν' := jWd_c h1.2.1 hW
  have hw2 := hw'
  unfold jWd at hw2
  have hL' : jI ν' 1156 3 = iN L := by rw [h1.1 1156 (by decide)]; exact hL
  have hge : ¬ iN L < iN L := iN_irr (by omega)
  refine ⟨ν', h1, fun d Q => ?_⟩
  rw [e1, x87_2]
  simp only [x87_0, x87_1a, x87_1b, x87_1c, x87_3, x87_4, x87_7, x87_10, x87_11, x87_12, x87_15, x87_16, x87_19, x87_20, x87_23, x87_24, x87_25, x87_26, x87_29, x87_30, x87_31, x87_34, x87_35a, x87_35b, x87_35c, x87_38, x87_41, mzi, mInc, mne, mlt9, mrk, mI1, mI2, mI3, mI4, mL1, mL2, mL3, mL4, mQ1, mQ2, mQ3, mQ4, mT1, mcat0, mcat1, mcat2, mcat3, mcat4, mrf1, jK_v, jK_n, JA, mz1, if_true, if_false, ite_true, ite_false, eq_self, not_false_eq_true, Nat.zero_le, true_and, and_true, and_self, Nat.reduceMod, Nat.reduceAdd, Nat.reduceLeDiff, Nat.reduceEqDiff, Nat.reduceLT, hw2, hL', hge]
theorem c_itE (hW : jWd ν) (hs : ∀ (Q : jO → jM → Prop), (Ex (d + 5) 87 0 [some (.ref 1156), some (.ref 194), none] [] ν Q ↔ Q (.inl none) ν2)) : Ex (d + 6) 63 8 [some (.ref 1478), some (.ref (64 * J + 40)), some (.int 0), some (.int (iN 400)), b4.map .ref] [] ν Q ↔ Q (.inl (some (.int 0))) ν2 := by
  have hw := hW
  unfold jWd at hw
  have t4 : ¬ iN 400 < (400 : Int32) := by decide
  rw [x63_8]
  cases b4 <;> simp only [Option.map_some, Option.map_none, x63_0, x63_3a, x63_3b, x63_3c, x63_4, x63_5a, x63_5b, x63_5c, x63_6, x63_7a, x63_7b, x63_7c, x63_9, x63_12, x63_15, x63_16, x63_19, x63_20, x63_23, x63_24, x63_27, x63_28, x63_31a, x63_31b, x63_31c, x63_33, x63_36, x63_38, x63_41, x63_42, x63_76, x63_77, x63_80a, x63_80b, x63_80c, x63_81, x63_84, x63_85, x63_86, x63_89a, x63_89b, x63_89c, x63_90, x63_93, x63_94, x63_95, x63_98a, x63_98b, x63_98c, x63_99, x63_102, x63_103, x63_106, x63_107, x63_108, x63_110a, x63_110b, x63_110c, x63_111a, x63_111b, x63_111c, x63_114, x63_117, x63_118, x63_121, x63_124, x63_125, x63_128, x63_131, x63_132, mzi, mInc, mne, mlt9, mrk, mI1, mI2, mI3, mI4, mL1, mL2, mL3, mL4, mQ1, mQ2, mQ3, mQ4, mT1, mcat0, mcat1, mcat2, mcat3, mcat4, mrf1, jK_v, jK_n, JA, mz1, if_true, if_false, ite_true, ite_false, eq_self, not_false_eq_true, Nat.zero_le, true_and, and_true, and_self, Nat.reduceMod, Nat.reduceAdd, Nat.reduceLeDiff, Nat.reduceEqDiff, Nat.reduceLT, hw, t4, hs]
theorem c_it1 : Ex (d + 6) 63 0 [some (.ref 1478), none, none, none, none] [] ν Q ↔ Ex (d + 6) 63 8 [some (.ref 1478), some (.ref (64 * 39 + 40)), some (.int 0), some (.int (iN 0)), none] [] ν Q := by
  show _ ↔ Ex (d + 6) 63 8 [some (.ref 1478), some (.ref 2536), some (.int 0), some (.int (iN 0)), none] [] ν Q
  simp only [x63_0, x63_3a, x63_3b, x63_3c, x63_4, x63_5a, x63_5b, x63_5c, x63_6, x63_7a, x63_7b, x63_7c, x63_9, x63_12, x63_15, x63_16, x63_19, x63_20, x63_23, x63_24, x63_27, x63_28, x63_31a, x63_31b, x63_31c, x63_33, x63_36, x63_38, x63_41, x63_42, x63_76, x63_77, x63_80a, x63_80b, x63_80c, x63_81, x63_84, x63_85, x63_86, x63_89a, x63_89b, x63_89c, x63_90, x63_93, x63_94, x63_95, x63_98a, x63_98b, x63_98c, x63_99, x63_102, x63_103, x63_106, x63_107, x63_108, x63_110a, x63_110b, x63_110c, x63_111a, x63_111b, x63_111c, x63_114, x63_117, x63_118, x63_121, x63_124, x63_125, x63_128, x63_131, x63_132, mzi, mInc, mne, mlt9, mrk, mI1, mI2, mI3, mI4, mL1, mL2, mL3, mL4, mQ1, mQ2, mQ3, mQ4, mT1, mcat0, mcat1, mcat2, mcat3, mcat4, mrf1, jK_v, jK_n, JA, mz1, if_true, if_false, ite_true, ite_false, eq_self, not_false_eq_true, Nat.zero_le, true_and, and_true, and_self, Nat.reduceMod, Nat.reduceAdd, Nat.reduceLeDiff, Nat.reduceEqDiff, Nat.reduceLT]
end ERRM
