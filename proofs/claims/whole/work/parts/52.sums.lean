/-! THE PURE PART: sums over lines. -/
/-- the sum of f over the places below n -/
def rsum (f : Nat → Int32) (n : Nat) : Int32 := jfold (fun k a => a + f k) 0 n 0
section C2
variable {d : Nat} {μ : jM} {Q : jO → jM → Prop} {n : Nat}
theorem c_connn (hW : jWd μ) (hn : jI μ 1731 1 = iN n) (h10 : n ≤ 10) : Ex (d + 1) 139 0 [some (.ref 2567), none, none] [] μ Q ↔ Q (.inl (some (.int (rsum (fun k => if jI μ 3024 k = 0 then 0 else 1) n)))) μ := by
  have hw := hW
  unfold jWd at hw
  have loop : ∀ k a, k < n → (Ex (d + 1) 139 4 [some (.ref 2567), some (.int a), some (.int (iN k))] [] μ Q ↔ Ex (d + 1) 139 4 [some (.ref 2567), some (.int (a + (if jI μ 3024 k = 0 then 0 else 1))), some (.int (iN (k + 1)))] [] μ Q) := by
    intro k a hk
    have hlt : iN k < iN n := (iN_lt (by omega) (by omega)).mpr hk
    rw [x139_4]
    by_cases h : jI μ 3024 k = 0
    · simp only [x139_0, x139_1a, x139_1b, x139_1c, x139_2, x139_3a, x139_3b, x139_3c, x139_5, x139_6, x139_9, x139_12, x139_15, x139_16, x139_17, x139_18, x139_21, x139_24, x139_25, x139_28, x139_29, x139_30a, x139_30b, x139_30c, x139_31a, x139_31b, x139_31c, x139_34, x139_37, x139_38, mzi, mInc, mne, mlt9, mrk, mI1, mI2, mI3, mI4, mL1, mL2, mL3, mL4, mQ1, mQ2, mQ3, mQ4, mT1, mcat0, mcat1, mcat2, mcat3, mcat4, mrf1, jK_v, jK_n, JA, mz1, if_true, if_false, ite_true, ite_false, eq_self, not_false_eq_true, Nat.zero_le, true_and, and_true, and_self, Nat.reduceMod, Nat.reduceAdd, Nat.reduceLeDiff, Nat.reduceEqDiff, Nat.reduceLT, hw, hn, hlt, c_maden hW (show k < 10 by omega), h]
    · simp only [x139_0, x139_1a, x139_1b, x139_1c, x139_2, x139_3a, x139_3b, x139_3c, x139_5, x139_6, x139_9, x139_12, x139_15, x139_16, x139_17, x139_18, x139_21, x139_24, x139_25, x139_28, x139_29, x139_30a, x139_30b, x139_30c, x139_31a, x139_31b, x139_31c, x139_34, x139_37, x139_38, mzi, mInc, mne, mlt9, mrk, mI1, mI2, mI3, mI4, mL1, mL2, mL3, mL4, mQ1, mQ2, mQ3, mQ4, mT1, mcat0, mcat1, mcat2, mcat3, mcat4, mrf1, jK_v, jK_n, JA, mz1, if_true, if_false, ite_true, ite_false, eq_self, not_false_eq_true, Nat.zero_le, true_and, and_true, and_self, Nat.reduceMod, Nat.reduceAdd, Nat.reduceLeDiff, Nat.reduceEqDiff, Nat.reduceLT, hw, hn, hlt, c_maden hW (show k < 10 by omega), h]
  have h0 := jfold_loop (P := fun k a => Ex (d + 1) 139 4 [some (.ref 2567), some (.int a), some (.int (iN k))] [] μ Q) loop n 0 0 (by omega)
  have hge : ¬ iN n < iN n := iN_irr (by omega)
  have h1 : Ex (d + 1) 139 0 [some (.ref 2567), none, none] [] μ Q ↔ Ex (d + 1) 139 4 [some (.ref 2567), some (.int 0), some (.int (iN 0))] [] μ Q := by
    simp only [x139_0, x139_1a, x139_1b, x139_1c, x139_2, x139_3a, x139_3b, x139_3c, x139_5, x139_6, x139_9, x139_12, x139_15, x139_16, x139_17, x139_18, x139_21, x139_24, x139_25, x139_28, x139_29, x139_30a, x139_30b, x139_30c, x139_31a, x139_31b, x139_31c, x139_34, x139_37, x139_38, mzi, mInc, mne, mlt9, mrk, mI1, mI2, mI3, mI4, mL1, mL2, mL3, mL4, mQ1, mQ2, mQ3, mQ4, mT1, mcat0, mcat1, mcat2, mcat3, mcat4, mrf1, jK_v, jK_n, JA, mz1, if_true, if_false, ite_true, ite_false, eq_self, not_false_eq_true, Nat.zero_le, true_and, and_true, and_self, Nat.reduceMod, Nat.reduceAdd, Nat.reduceLeDiff, Nat.reduceEqDiff, Nat.reduceLT]
  rw [h1, h0]
  simp only [x139_4, x139_0, x139_1a, x139_1b, x139_1c, x139_2, x139_3a, x139_3b, x139_3c, x139_5, x139_6, x139_9, x139_12, x139_15, x139_16, x139_17, x139_18, x139_21, x139_24, x139_25, x139_28, x139_29, x139_30a, x139_30b, x139_30c, x139_31a, x139_31b, x139_31c, x139_34, x139_37, x139_38, mzi, mInc, mne, mlt9, mrk, mI1, mI2, mI3, mI4, mL1, mL2, mL3, mL4, mQ1, mQ2, mQ3, mQ4, mT1, mcat0, mcat1, mcat2, mcat3, mcat4, mrf1, jK_v, jK_n, JA, mz1, if_true, if_false, ite_true, ite_false, eq_self, not_false_eq_true, Nat.zero_le, true_and, and_true, and_self, Nat.reduceMod, Nat.reduceAdd, Nat.reduceLeDiff, Nat.reduceEqDiff, Nat.reduceLT, hw, hn, hge]
  rfl
theorem c_conna (hW : jWd μ) (hn : jI μ 1731 1 = iN n) (h10 : n ≤ 10) : Ex (d + 1) 139 0 [some (.ref 3463), none, none] [] μ Q ↔ Q (.inl (some (.int (rsum (fun k => if jI μ 3920 k = 0 then 0 else 1) n)))) μ := by
  have hw := hW
  unfold jWd at hw
  have loop : ∀ k a, k < n → (Ex (d + 1) 139 4 [some (.ref 3463), some (.int a), some (.int (iN k))] [] μ Q ↔ Ex (d + 1) 139 4 [some (.ref 3463), some (.int (a + (if jI μ 3920 k = 0 then 0 else 1))), some (.int (iN (k + 1)))] [] μ Q) := by
    intro k a hk
    have hlt : iN k < iN n := (iN_lt (by omega) (by omega)).mpr hk
    rw [x139_4]
    by_cases h : jI μ 3920 k = 0
    · simp only [x139_0, x139_1a, x139_1b, x139_1c, x139_2, x139_3a, x139_3b, x139_3c, x139_5, x139_6, x139_9, x139_12, x139_15, x139_16, x139_17, x139_18, x139_21, x139_24, x139_25, x139_28, x139_29, x139_30a, x139_30b, x139_30c, x139_31a, x139_31b, x139_31c, x139_34, x139_37, x139_38, mzi, mInc, mne, mlt9, mrk, mI1, mI2, mI3, mI4, mL1, mL2, mL3, mL4, mQ1, mQ2, mQ3, mQ4, mT1, mcat0, mcat1, mcat2, mcat3, mcat4, mrf1, jK_v, jK_n, JA, mz1, if_true, if_false, ite_true, ite_false, eq_self, not_false_eq_true, Nat.zero_le, true_and, and_true, and_self, Nat.reduceMod, Nat.reduceAdd, Nat.reduceLeDiff, Nat.reduceEqDiff, Nat.reduceLT, hw, hn, hlt, c_madea hW (show k < 10 by omega), h]
    · simp only [x139_0, x139_1a, x139_1b, x139_1c, x139_2, x139_3a, x139_3b, x139_3c, x139_5, x139_6, x139_9, x139_12, x139_15, x139_16, x139_17, x139_18, x139_21, x139_24, x139_25, x139_28, x139_29, x139_30a, x139_30b, x139_30c, x139_31a, x139_31b, x139_31c, x139_34, x139_37, x139_38, mzi, mInc, mne, mlt9, mrk, mI1, mI2, mI3, mI4, mL1, mL2, mL3, mL4, mQ1, mQ2, mQ3, mQ4, mT1, mcat0, mcat1, mcat2, mcat3, mcat4, mrf1, jK_v, jK_n, JA, mz1, if_true, if_false, ite_true, ite_false, eq_self, not_false_eq_true, Nat.zero_le, true_and, and_true, and_self, Nat.reduceMod, Nat.reduceAdd, Nat.reduceLeDiff, Nat.reduceEqDiff, Nat.reduceLT, hw, hn, hlt, c_madea hW (show k < 10 by omega), h]
  have h0 := jfold_loop (P := fun k a => Ex (d + 1) 139 4 [some (.ref 3463), some (.int a), some (.int (iN k))] [] μ Q) loop n 0 0 (by omega)
  have hge : ¬ iN n < iN n := iN_irr (by omega)
  have h1 : Ex (d + 1) 139 0 [some (.ref 3463), none, none] [] μ Q ↔ Ex (d + 1) 139 4 [some (.ref 3463), some (.int 0), some (.int (iN 0))] [] μ Q := by
    simp only [x139_0, x139_1a, x139_1b, x139_1c, x139_2, x139_3a, x139_3b, x139_3c, x139_5, x139_6, x139_9, x139_12, x139_15, x139_16, x139_17, x139_18, x139_21, x139_24, x139_25, x139_28, x139_29, x139_30a, x139_30b, x139_30c, x139_31a, x139_31b, x139_31c, x139_34, x139_37, x139_38, mzi, mInc, mne, mlt9, mrk, mI1, mI2, mI3, mI4, mL1, mL2, mL3, mL4, mQ1, mQ2, mQ3, mQ4, mT1, mcat0, mcat1, mcat2, mcat3, mcat4, mrf1, jK_v, jK_n, JA, mz1, if_true, if_false, ite_true, ite_false, eq_self, not_false_eq_true, Nat.zero_le, true_and, and_true, and_self, Nat.reduceMod, Nat.reduceAdd, Nat.reduceLeDiff, Nat.reduceEqDiff, Nat.reduceLT]
  rw [h1, h0]
  simp only [x139_4, x139_0, x139_1a, x139_1b, x139_1c, x139_2, x139_3a, x139_3b, x139_3c, x139_5, x139_6, x139_9, x139_12, x139_15, x139_16, x139_17, x139_18, x139_21, x139_24, x139_25, x139_28, x139_29, x139_30a, x139_30b, x139_30c, x139_31a, x139_31b, x139_31c, x139_34, x139_37, x139_38, mzi, mInc, mne, mlt9, mrk, mI1, mI2, mI3, mI4, mL1, mL2, mL3, mL4, mQ1, mQ2, mQ3, mQ4, mT1, mcat0, mcat1, mcat2, mcat3, mcat4, mrf1, jK_v, jK_n, JA, mz1, if_true, if_false, ite_true, ite_false, eq_self, not_false_eq_true, Nat.zero_le, true_and, and_true, and_self, Nat.reduceMod, Nat.reduceAdd, Nat.reduceLeDiff, Nat.reduceEqDiff, Nat.reduceLT, hw, hn, hge]
  rfl
end C2
