/-! THE PURE PART: behind the grammar, reference. -/
section READ1
variable {μ ν : jM} {N sz r j m d : Nat} {b : Nat → Int32} {Q : jO → jM → Prop}
theorem d_read_1 (hW : jWd ν) (hj : jI ν 4490 9 = iN j) (h4 : j < 401) (h108 : ∀ (Q : jO → jM → Prop), (Ex (d + 99) 108 0 [some (.ref 4490), none] [] μ Q ↔ Q (.inl (some (.int 0))) ν)) : Ex (d + 100) 96 25 [some (.ref 4490), none, none] [] μ Q ↔ Q (.inl (some (.int 1))) (jsI ν 4490 3 (jI ν 4697 j)) := by
  have hw := hW
  unfold jWd at hw
  have jc : (iN j).toNatClampNeg = j := iN_cl (by omega)
  have jj : jin (iN j) 401 = true := iN_in (by omega) (by omega)
  simp only [x96_25, x96_26, x96_29, x96_32, x96_33, x96_34, x96_37, x96_38, x96_41, x96_42, x96_45, x96_46, x96_47, x96_48, x96_51a, x96_51b, x96_51c, x96_52, x96_53, x96_54, mzi, mInc, mne, mlt9, mrk, mI1, mI2, mI3, mI4, mL1, mL2, mL3, mL4, mQ1, mQ2, mQ3, mQ4, mT1, mcat0, mcat1, mcat2, mcat3, mcat4, mrf1, jK_v, jK_n, JA, mz1, if_true, if_false, ite_true, ite_false, eq_self, not_false_eq_true, Nat.zero_le, true_and, and_true, and_self, Nat.reduceMod, Nat.reduceAdd, Nat.reduceLeDiff, Nat.reduceEqDiff, Nat.reduceLT, hw, h108, hj, jc, jj]
theorem d_read_0 (hW : jWd ν) (hj : jI ν 4490 9 = iN m) (h108 : ∀ (Q : jO → jM → Prop), (Ex (d + 99) 108 0 [some (.ref 4490), none] [] μ Q ↔ Q (.inl (some (.int 1))) ν)) : Ex (d + 100) 96 25 [some (.ref 4490), none, none] [] μ Q ↔ Ex (d + 100) 96 57 [some (.ref 4490), some (.int (iN m)), none] [] (jsI ν 4490 9 0) Q := by
  have hw := hW
  unfold jWd at hw
  simp only [x96_25, x96_26, x96_29, x96_32, x96_33, x96_34, x96_37, x96_38, x96_41, x96_42, x96_45, x96_46, x96_47, x96_48, x96_51a, x96_51b, x96_51c, x96_52, x96_53, x96_54, mzi, mInc, mne, mlt9, mrk, mI1, mI2, mI3, mI4, mL1, mL2, mL3, mL4, mQ1, mQ2, mQ3, mQ4, mT1, mcat0, mcat1, mcat2, mcat3, mcat4, mrf1, jK_v, jK_n, JA, mz1, if_true, if_false, ite_true, ite_false, eq_self, not_false_eq_true, Nat.zero_le, true_and, and_true, and_self, Nat.reduceMod, Nat.reduceAdd, Nat.reduceLeDiff, Nat.reduceEqDiff, Nat.reduceLT, hw, h108, hj]
end READ1
