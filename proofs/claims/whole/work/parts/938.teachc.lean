/-! THE PURE PART: teach, class, out of its pieces. -/
section TEACHC
variable {d k e : Nat} {μ μ1 μ2 μ3 μ4 μ5 : jM} {Q : jO → jM → Prop}
theorem c_startNext {d : Nat} {ν : jM} (hW : jWd ν) (ht : jI ν 194 7 = iN k) (h4 : k < 401) : Ex d 94 0 [some (.ref 194)] [] ν Q ↔ Q (.inl (some (.int (jI ν 345 k)))) ν := by
  have hw := hW
  unfold jWd at hw
  have t0 : ¬ iN k < 0 := iN_nn (by omega)
  have t1 : iN k < iN 401 := (iN_lt (by omega) (by omega)).mpr h4
  have tc : (iN k).toNatClampNeg = k := iN_cl (by omega)
  have tj : jin (iN k) 401 = true := iN_in (by omega) (by omega)
  simp only [x94_0, x94_1, x94_4, x94_7, x94_8, x94_11, x94_12, x94_15, x94_16, x94_19, x94_20, x94_23, x94_24, x94_27, x94_28, x94_31, x94_32, mzi, mInc, mne, mlt9, mrk, mI1, mI2, mI3, mI4, mL1, mL2, mL3, mL4, mQ1, mQ2, mQ3, mQ4, mT1, mcat0, mcat1, mcat2, mcat3, mcat4, mrf1, jK_v, jK_n, JA, mz1, if_true, if_false, ite_true, ite_false, eq_self, not_false_eq_true, Nat.zero_le, true_and, and_true, and_self, Nat.reduceMod, Nat.reduceAdd, Nat.reduceLeDiff, Nat.reduceEqDiff, Nat.reduceLT, hw, ht, t0, t1, tc, tj]
theorem c_teach_1 (hW : jWd μ) (hW1 : jWd μ1) (hW2 : jWd μ2) (hW3 : jWd μ3) (h27 : ∀ (Q : jO → jM → Prop), (Ex (d + 100) 27 0 [some (.ref 194), none, none, none, none] [] μ Q ↔ Q (.inl none) μ1)) (h46 : ∀ (Q : jO → jM → Prop), (Ex (d + 100) 46 0 [some (.ref 579)] [] μ1 Q ↔ Q (.inl none) μ2)) (h48 : ∀ (Q : jO → jM → Prop), (Ex (d + 100) 48 0 [some (.ref 1413), none] [] μ2 Q ↔ Q (.inl (some (.int 0))) μ3)) (ht : jI μ3 194 7 = iN k) (h4 : k < 401) : Ex (d + 101) 26 0 [some (.ref 0), none] [] μ Q ↔ Q (.inl (some (.int 1))) (jsI (jsI μ3 0 9 (jI μ3 345 k)) 65 1 0) := by
  have hw := hW
  have hw1 := hW1
  have hw2 := hW2
  have hw3 := hW3
  unfold jWd at hw hw1 hw2 hw3
  have h94 := fun d Q => c_startNext (d := d) (Q := Q) hW3 ht h4
  simp only [x26_0, x26_1, x26_4, x26_7, x26_8, x26_11, x26_14, x26_15, x26_18, x26_21, x26_24, x26_25, x26_28, x26_31, x26_34, x26_35a, x26_35b, x26_35c, x26_36, x26_37, x26_40, x26_41, x26_42, x26_45, x26_46, x26_49, x26_50, x26_53, x26_56, x26_57, x26_60, x26_63, x26_66, x26_67, x26_68, x26_71, x26_74, x26_77, x26_78, x26_81, x26_82, x26_85, x26_86, mzi, mInc, mne, mlt9, mrk, mI1, mI2, mI3, mI4, mL1, mL2, mL3, mL4, mQ1, mQ2, mQ3, mQ4, mT1, mcat0, mcat1, mcat2, mcat3, mcat4, mrf1, jK_v, jK_n, JA, mz1, if_true, if_false, ite_true, ite_false, eq_self, not_false_eq_true, Nat.zero_le, true_and, and_true, and_self, Nat.reduceMod, Nat.reduceAdd, Nat.reduceLeDiff, Nat.reduceEqDiff, Nat.reduceLT, hw, hw1, hw2, hw3, h27, h46, h48, h94]
theorem c_teach_e (hW : jWd μ) (hW1 : jWd μ1) (hW2 : jWd μ2) (hW3 : jWd μ3) (h27 : ∀ (Q : jO → jM → Prop), (Ex (d + 100) 27 0 [some (.ref 194), none, none, none, none] [] μ Q ↔ Q (.inl none) μ1)) (h46 : ∀ (Q : jO → jM → Prop), (Ex (d + 100) 46 0 [some (.ref 579)] [] μ1 Q ↔ Q (.inl none) μ2)) (h48 : ∀ (Q : jO → jM → Prop), (Ex (d + 100) 48 0 [some (.ref 1413), none] [] μ2 Q ↔ Q (.inl (some (.int 1))) μ3)) (hW4 : jWd μ4) (he : ¬ e = 0) (he7 : e ≤ 7) (h63 : ∀ (Q : jO → jM → Prop), (Ex (d + 100) 63 0 [some (.ref 1478), none, none, none, none] [] μ3 Q ↔ Q (.inl (some (.int (iN e)))) μ4)) (ht : jI μ4 194 7 = iN k) (h4 : k < 401) : Ex (d + 101) 26 0 [some (.ref 0), none] [] μ Q ↔ Q (.inl (some (.int (iN e)))) (jsI (jsI μ4 0 9 (jI μ4 345 k)) 65 1 0) := by
  have hw := hW
  have hw1 := hW1
  have hw2 := hW2
  have hw3 := hW3
  have hw4 := hW4
  unfold jWd at hw hw1 hw2 hw3 hw4
  have h94 := fun d Q => c_startNext (d := d) (Q := Q) hW4 ht h4
  have g : (iN e = 0) = False := eq_false fun q => he ((iN_eq (b := 0) (by omega) (by omega)).mp q)
  simp only [x26_0, x26_1, x26_4, x26_7, x26_8, x26_11, x26_14, x26_15, x26_18, x26_21, x26_24, x26_25, x26_28, x26_31, x26_34, x26_35a, x26_35b, x26_35c, x26_36, x26_37, x26_40, x26_41, x26_42, x26_45, x26_46, x26_49, x26_50, x26_53, x26_56, x26_57, x26_60, x26_63, x26_66, x26_67, x26_68, x26_71, x26_74, x26_77, x26_78, x26_81, x26_82, x26_85, x26_86, mzi, mInc, mne, mlt9, mrk, mI1, mI2, mI3, mI4, mL1, mL2, mL3, mL4, mQ1, mQ2, mQ3, mQ4, mT1, mcat0, mcat1, mcat2, mcat3, mcat4, mrf1, jK_v, jK_n, JA, mz1, if_true, if_false, ite_true, ite_false, eq_self, not_false_eq_true, Nat.zero_le, true_and, and_true, and_self, Nat.reduceMod, Nat.reduceAdd, Nat.reduceLeDiff, Nat.reduceEqDiff, Nat.reduceLT, hw, hw1, hw2, hw3, hw4, h27, h46, h48, h63, h94, g]
theorem c_teach_0 (hW : jWd μ) (hW1 : jWd μ1) (hW2 : jWd μ2) (hW3 : jWd μ3) (h27 : ∀ (Q : jO → jM → Prop), (Ex (d + 100) 27 0 [some (.ref 194), none, none, none, none] [] μ Q ↔ Q (.inl none) μ1)) (h46 : ∀ (Q : jO → jM → Prop), (Ex (d + 100) 46 0 [some (.ref 579)] [] μ1 Q ↔ Q (.inl none) μ2)) (h48 : ∀ (Q : jO → jM → Prop), (Ex (d + 100) 48 0 [some (.ref 1413), none] [] μ2 Q ↔ Q (.inl (some (.int 1))) μ3)) (hW4 : jWd μ4) (hW5 : jWd μ5) (h63 : ∀ (Q : jO → jM → Prop), (Ex (d + 100) 63 0 [some (.ref 1478), none, none, none, none] [] μ3 Q ↔ Q (.inl (some (.int 0))) μ4)) (h88 : ∀ (Q : jO → jM → Prop), (Ex (d + 100) 88 0 [some (.ref 1731), some (.ref 579)] [] (jsI μ4 0 9 (-1)) Q ↔ Q (.inl none) μ5)) (hW6 : jWd (kBegn μ5 10)) : Ex (d + 101) 26 0 [some (.ref 0), none] [] μ Q ↔ Q (.inl (some (.int 0))) (jsI (kBegn μ5 10) 65 1 0) := by
  have hw := hW
  have hw1 := hW1
  have hw2 := hW2
  have hw3 := hW3
  have hw4 := hW4
  have hw5 := hW5
  have hw6 := hW6
  unfold jWd at hw hw1 hw2 hw3 hw4 hw5 hw6
  have h91 : ∀ (Q : jO → jM → Prop), (Ex (d + 100) 91 0 [some (.ref 2567), none] [] μ5 Q ↔ Q (.inl none) (kBegn μ5 10)) := fun Q => c_begn (d := d + 99) (Q := Q) hW5
  simp only [x26_0, x26_1, x26_4, x26_7, x26_8, x26_11, x26_14, x26_15, x26_18, x26_21, x26_24, x26_25, x26_28, x26_31, x26_34, x26_35a, x26_35b, x26_35c, x26_36, x26_37, x26_40, x26_41, x26_42, x26_45, x26_46, x26_49, x26_50, x26_53, x26_56, x26_57, x26_60, x26_63, x26_66, x26_67, x26_68, x26_71, x26_74, x26_77, x26_78, x26_81, x26_82, x26_85, x26_86, mzi, mInc, mne, mlt9, mrk, mI1, mI2, mI3, mI4, mL1, mL2, mL3, mL4, mQ1, mQ2, mQ3, mQ4, mT1, mcat0, mcat1, mcat2, mcat3, mcat4, mrf1, jK_v, jK_n, JA, mz1, if_true, if_false, ite_true, ite_false, eq_self, not_false_eq_true, Nat.zero_le, true_and, and_true, and_self, Nat.reduceMod, Nat.reduceAdd, Nat.reduceLeDiff, Nat.reduceEqDiff, Nat.reduceLT, hw, hw1, hw2, hw3, hw4, hw5, hw6, h27, h46, h48, h63, h88, h91]
end TEACHC
