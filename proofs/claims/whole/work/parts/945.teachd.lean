/-! THE PURE PART: teach, reference, out of its pieces. -/
section TEACHD
variable {d e r : Nat} {μ ν : jM} {Q : jO → jM → Prop}
theorem d_teach_e (hW : jWd μ) (hW1 : jWd ν) (he : ¬ e = 0) (he7 : e ≤ 7) (h96 : ∀ (Q : jO → jM → Prop), (Ex (d + 100) 96 0 [some (.ref 4490), none, none] [] (jsI (jsI μ 4490 0 0) 4490 3 (-1)) Q ↔ Q (.inl (some (.int (iN e)))) ν)) : Ex (d + 101) 95 0 [some (.ref 4490), none] [] μ Q ↔ Q (.inl (some (.int (iN e)))) (jsI ν 4490 2 0) := by
  have hw := hW
  have hw1 := hW1
  unfold jWd at hw hw1
  have g : (0 : Int32) < iN e := (iN_lt (a := 0) (by omega) (by omega)).mpr (by omega)
  simp only [x95_0, x95_1, x95_2, x95_5, x95_6, x95_7, x95_10, x95_11, x95_14a, x95_14b, x95_14c, x95_15, x95_16, x95_17, x95_20, x95_21, x95_24, x95_25, x95_26, x95_27, x95_28, x95_31, x95_34, x95_35, x95_38, x95_41, x95_42, mzi, mInc, mne, mlt9, mrk, mI1, mI2, mI3, mI4, mL1, mL2, mL3, mL4, mQ1, mQ2, mQ3, mQ4, mT1, mcat0, mcat1, mcat2, mcat3, mcat4, mrf1, jK_v, jK_n, JA, mz1, if_true, if_false, ite_true, ite_false, eq_self, not_false_eq_true, Nat.zero_le, true_and, and_true, and_self, Nat.reduceMod, Nat.reduceAdd, Nat.reduceLeDiff, Nat.reduceEqDiff, Nat.reduceLT, hw, hw1, h96, g]
theorem d_teach_0 (hW : jWd μ) (hW1 : jWd ν) (hr : jQ ν 4490 12 = some r) (h96 : ∀ (Q : jO → jM → Prop), (Ex (d + 100) 96 0 [some (.ref 4490), none, none] [] (jsI (jsI μ 4490 0 0) 4490 3 (-1)) Q ↔ Q (.inl (some (.int 0))) ν)) : Ex (d + 101) 95 0 [some (.ref 4490), none] [] μ Q ↔ Q (.inl (some (.int 0))) (kBegMs (jsQ (jsI ν 4490 2 0) 4490 11 (some r)) 10) := by
  have hw := hW
  have hw1 := hW1
  have hW2 : jWd (jsQ (jsI ν 4490 2 0) 4490 11 (some r)) := jWd_p (jWd_c rfl hW1) (Or.inl rfl)
  have h14 := fun d Q => d_begs (d := d) (Q := Q) hW2
  unfold jWd at hw hw1
  have g : ¬ (0 : Int32) < 0 := by decide
  simp only [x95_0, x95_1, x95_2, x95_5, x95_6, x95_7, x95_10, x95_11, x95_14a, x95_14b, x95_14c, x95_15, x95_16, x95_17, x95_20, x95_21, x95_24, x95_25, x95_26, x95_27, x95_28, x95_31, x95_34, x95_35, x95_38, x95_41, x95_42, mzi, mInc, mne, mlt9, mrk, mI1, mI2, mI3, mI4, mL1, mL2, mL3, mL4, mQ1, mQ2, mQ3, mQ4, mT1, mcat0, mcat1, mcat2, mcat3, mcat4, mrf1, jK_v, jK_n, JA, mz1, if_true, if_false, ite_true, ite_false, eq_self, not_false_eq_true, Nat.zero_le, true_and, and_true, and_self, Nat.reduceMod, Nat.reduceAdd, Nat.reduceLeDiff, Nat.reduceEqDiff, Nat.reduceLT, hw, hw1, h96, g, hr, h14]
end TEACHD
