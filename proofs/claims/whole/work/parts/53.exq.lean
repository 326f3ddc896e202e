/-! THE PURE PART: what an exchange tells. -/
section C3
variable {d : Nat} {μ : jM} {Q : jO → jM → Prop} {n : Nat}
theorem c_talksn (hW : jWd μ) (hn : jI μ 1731 1 = iN n) (h10 : n ≤ 10) : Ex (d + 1) 141 0 [some (.ref 2567), none, none] [] μ Q ↔ Q (.inl (some (.int (rsum (fun k => if jI μ 3024 k = 0 then 0 else if jI μ 2640 k = 5 then 1 else 0) n)))) μ := by
  have hw := hW
  unfold jWd at hw
  have loop : ∀ (k : Nat) (a : Int32), k < n → (Ex (d + 1) 141 4 [some (.ref 2567), some (.int a), some (.int (iN k))] [] μ Q ↔ Ex (d + 1) 141 4 [some (.ref 2567), some (.int (a + (if jI μ 3024 k = 0 then 0 else if jI μ 2640 k = 5 then 1 else 0))), some (.int (iN (k + 1)))] [] μ Q) := by
    intro k a hk
    have hlt : iN k < iN n := (iN_lt (by omega) (by omega)).mpr hk
    have hkc : (iN k).toNatClampNeg = k := iN_cl (by omega)
    have hkj : jin (iN k) 10 = true := iN_in (by omega) (by omega)
    all_goals rw [x141_4]
    all_goals by_cases g1 : jI μ 3024 k = 0
    all_goals by_cases g2 : jI μ 2640 k = 5
    all_goals simp only [x141_0, x141_1a, x141_1b, x141_1c, x141_2, x141_3a, x141_3b, x141_3c, x141_5, x141_6, x141_9, x141_12, x141_15, x141_16, x141_17, x141_18, x141_21, x141_24, x141_25, x141_28, x141_29, x141_30, x141_31, x141_34, x141_35, x141_38, x141_39, x141_40a, x141_40b, x141_40c, x141_41a, x141_41b, x141_41c, x141_44, x141_47, x141_48, mzi, mInc, mne, mlt9, mrk, mI1, mI2, mI3, mI4, mL1, mL2, mL3, mL4, mQ1, mQ2, mQ3, mQ4, mT1, mcat0, mcat1, mcat2, mcat3, mcat4, mrf1, jK_v, jK_n, JA, mz1, if_true, if_false, ite_true, ite_false, eq_self, not_false_eq_true, Nat.zero_le, true_and, and_true, and_self, Nat.reduceMod, Nat.reduceAdd, Nat.reduceLeDiff, Nat.reduceEqDiff, Nat.reduceLT, hlt, hkc, hkj, hw, hn, c_maden hW (show k < 10 by omega), g1, g2]
  have h0 := jfold_loop (P := fun k a => Ex (d + 1) 141 4 [some (.ref 2567), some (.int a), some (.int (iN k))] [] μ Q) loop n 0 0 (by omega)
  have hge : ¬ iN n < iN n := iN_irr (by omega)
  have h1 : Ex (d + 1) 141 0 [some (.ref 2567), none, none] [] μ Q ↔ Ex (d + 1) 141 4 [some (.ref 2567), some (.int 0), some (.int (iN 0))] [] μ Q := by
    simp only [x141_0, x141_1a, x141_1b, x141_1c, x141_2, x141_3a, x141_3b, x141_3c, x141_5, x141_6, x141_9, x141_12, x141_15, x141_16, x141_17, x141_18, x141_21, x141_24, x141_25, x141_28, x141_29, x141_30, x141_31, x141_34, x141_35, x141_38, x141_39, x141_40a, x141_40b, x141_40c, x141_41a, x141_41b, x141_41c, x141_44, x141_47, x141_48, mzi, mInc, mne, mlt9, mrk, mI1, mI2, mI3, mI4, mL1, mL2, mL3, mL4, mQ1, mQ2, mQ3, mQ4, mT1, mcat0, mcat1, mcat2, mcat3, mcat4, mrf1, jK_v, jK_n, JA, mz1, if_true, if_false, ite_true, ite_false, eq_self, not_false_eq_true, Nat.zero_le, true_and, and_true, and_self, Nat.reduceMod, Nat.reduceAdd, Nat.reduceLeDiff, Nat.reduceEqDiff, Nat.reduceLT, hw, hn]
  rw [h1, h0]
  simp only [x141_4, x141_0, x141_1a, x141_1b, x141_1c, x141_2, x141_3a, x141_3b, x141_3c, x141_5, x141_6, x141_9, x141_12, x141_15, x141_16, x141_17, x141_18, x141_21, x141_24, x141_25, x141_28, x141_29, x141_30, x141_31, x141_34, x141_35, x141_38, x141_39, x141_40a, x141_40b, x141_40c, x141_41a, x141_41b, x141_41c, x141_44, x141_47, x141_48, mzi, mInc, mne, mlt9, mrk, mI1, mI2, mI3, mI4, mL1, mL2, mL3, mL4, mQ1, mQ2, mQ3, mQ4, mT1, mcat0, mcat1, mcat2, mcat3, mcat4, mrf1, jK_v, jK_n, JA, mz1, if_true, if_false, ite_true, ite_false, eq_self, not_false_eq_true, Nat.zero_le, true_and, and_true, and_self, Nat.reduceMod, Nat.reduceAdd, Nat.reduceLeDiff, Nat.reduceEqDiff, Nat.reduceLT, hge, hw, hn]
  rfl
theorem c_linesDon {w : Int32} (hW : jWd μ) (hn : jI μ 1731 1 = iN n) (h10 : n ≤ 10) : Ex (d) 267 0 [some (.ref 2567), some (.int w), none, none] [] μ Q ↔ Q (.inl (some (.int (rsum (fun k => if jI μ 2640 k = w then 1 else 0) n)))) μ := by
  have hw := hW
  unfold jWd at hw
  have loop : ∀ (k : Nat) (a : Int32), k < n → (Ex (d) 267 4 [some (.ref 2567), some (.int w), some (.int a), some (.int (iN k))] [] μ Q ↔ Ex (d) 267 4 [some (.ref 2567), some (.int w), some (.int (a + (if jI μ 2640 k = w then 1 else 0))), some (.int (iN (k + 1)))] [] μ Q) := by
    intro k a hk
    have hlt : iN k < iN n := (iN_lt (by omega) (by omega)).mpr hk
    have hkc : (iN k).toNatClampNeg = k := iN_cl (by omega)
    have hkj : jin (iN k) 10 = true := iN_in (by omega) (by omega)
    all_goals rw [x267_4]
    all_goals by_cases g1 : jI μ 2640 k = w
    all_goals simp only [x267_0, x267_1a, x267_1b, x267_1c, x267_2, x267_3a, x267_3b, x267_3c, x267_5, x267_6, x267_9, x267_12, x267_15, x267_16, x267_17, x267_20, x267_21, x267_22, x267_23, x267_26, x267_27, x267_30, x267_31, x267_32a, x267_32b, x267_32c, x267_33a, x267_33b, x267_33c, x267_36, x267_39, x267_40, mzi, mInc, mne, mlt9, mrk, mI1, mI2, mI3, mI4, mL1, mL2, mL3, mL4, mQ1, mQ2, mQ3, mQ4, mT1, mcat0, mcat1, mcat2, mcat3, mcat4, mrf1, jK_v, jK_n, JA, mz1, if_true, if_false, ite_true, ite_false, eq_self, not_false_eq_true, Nat.zero_le, true_and, and_true, and_self, Nat.reduceMod, Nat.reduceAdd, Nat.reduceLeDiff, Nat.reduceEqDiff, Nat.reduceLT, hlt, hkc, hkj, hw, hn, g1]
  have h0 := jfold_loop (P := fun k a => Ex (d) 267 4 [some (.ref 2567), some (.int w), some (.int a), some (.int (iN k))] [] μ Q) loop n 0 0 (by omega)
  have hge : ¬ iN n < iN n := iN_irr (by omega)
  have h1 : Ex (d) 267 0 [some (.ref 2567), some (.int w), none, none] [] μ Q ↔ Ex (d) 267 4 [some (.ref 2567), some (.int w), some (.int 0), some (.int (iN 0))] [] μ Q := by
    simp only [x267_0, x267_1a, x267_1b, x267_1c, x267_2, x267_3a, x267_3b, x267_3c, x267_5, x267_6, x267_9, x267_12, x267_15, x267_16, x267_17, x267_20, x267_21, x267_22, x267_23, x267_26, x267_27, x267_30, x267_31, x267_32a, x267_32b, x267_32c, x267_33a, x267_33b, x267_33c, x267_36, x267_39, x267_40, mzi, mInc, mne, mlt9, mrk, mI1, mI2, mI3, mI4, mL1, mL2, mL3, mL4, mQ1, mQ2, mQ3, mQ4, mT1, mcat0, mcat1, mcat2, mcat3, mcat4, mrf1, jK_v, jK_n, JA, mz1, if_true, if_false, ite_true, ite_false, eq_self, not_false_eq_true, Nat.zero_le, true_and, and_true, and_self, Nat.reduceMod, Nat.reduceAdd, Nat.reduceLeDiff, Nat.reduceEqDiff, Nat.reduceLT, hw, hn]
  rw [h1, h0]
  simp only [x267_4, x267_0, x267_1a, x267_1b, x267_1c, x267_2, x267_3a, x267_3b, x267_3c, x267_5, x267_6, x267_9, x267_12, x267_15, x267_16, x267_17, x267_20, x267_21, x267_22, x267_23, x267_26, x267_27, x267_30, x267_31, x267_32a, x267_32b, x267_32c, x267_33a, x267_33b, x267_33c, x267_36, x267_39, x267_40, mzi, mInc, mne, mlt9, mrk, mI1, mI2, mI3, mI4, mL1, mL2, mL3, mL4, mQ1, mQ2, mQ3, mQ4, mT1, mcat0, mcat1, mcat2, mcat3, mcat4, mrf1, jK_v, jK_n, JA, mz1, if_true, if_false, ite_true, ite_false, eq_self, not_false_eq_true, Nat.zero_le, true_and, and_true, and_self, Nat.reduceMod, Nat.reduceAdd, Nat.reduceLeDiff, Nat.reduceEqDiff, Nat.reduceLT, hge, hw, hn]
  rfl
theorem c_paidn (hW : jWd μ) (hn : jI μ 1731 1 = iN n) (h10 : n ≤ 10) : Ex (d) 142 0 [some (.ref 2567), none, none] [] μ Q ↔ Q (.inl (some (.int (rsum (fun k => jI μ 2960 k) n)))) μ := by
  have hw := hW
  unfold jWd at hw
  have loop : ∀ (k : Nat) (a : Int32), k < n → (Ex (d) 142 4 [some (.ref 2567), some (.int a), some (.int (iN k))] [] μ Q ↔ Ex (d) 142 4 [some (.ref 2567), some (.int (a + jI μ 2960 k)), some (.int (iN (k + 1)))] [] μ Q) := by
    intro k a hk
    have hlt : iN k < iN n := (iN_lt (by omega) (by omega)).mpr hk
    have hkc : (iN k).toNatClampNeg = k := iN_cl (by omega)
    have hkj : jin (iN k) 10 = true := iN_in (by omega) (by omega)
    all_goals rw [x142_4]
    all_goals simp only [x142_0, x142_1a, x142_1b, x142_1c, x142_2, x142_3a, x142_3b, x142_3c, x142_5, x142_6, x142_9, x142_12, x142_15, x142_16, x142_17, x142_20, x142_21, x142_22, x142_23a, x142_23b, x142_23c, x142_24a, x142_24b, x142_24c, x142_27, x142_30, x142_31, mzi, mInc, mne, mlt9, mrk, mI1, mI2, mI3, mI4, mL1, mL2, mL3, mL4, mQ1, mQ2, mQ3, mQ4, mT1, mcat0, mcat1, mcat2, mcat3, mcat4, mrf1, jK_v, jK_n, JA, mz1, if_true, if_false, ite_true, ite_false, eq_self, not_false_eq_true, Nat.zero_le, true_and, and_true, and_self, Nat.reduceMod, Nat.reduceAdd, Nat.reduceLeDiff, Nat.reduceEqDiff, Nat.reduceLT, hlt, hkc, hkj, hw, hn]
  have h0 := jfold_loop (P := fun k a => Ex (d) 142 4 [some (.ref 2567), some (.int a), some (.int (iN k))] [] μ Q) loop n 0 0 (by omega)
  have hge : ¬ iN n < iN n := iN_irr (by omega)
  have h1 : Ex (d) 142 0 [some (.ref 2567), none, none] [] μ Q ↔ Ex (d) 142 4 [some (.ref 2567), some (.int 0), some (.int (iN 0))] [] μ Q := by
    simp only [x142_0, x142_1a, x142_1b, x142_1c, x142_2, x142_3a, x142_3b, x142_3c, x142_5, x142_6, x142_9, x142_12, x142_15, x142_16, x142_17, x142_20, x142_21, x142_22, x142_23a, x142_23b, x142_23c, x142_24a, x142_24b, x142_24c, x142_27, x142_30, x142_31, mzi, mInc, mne, mlt9, mrk, mI1, mI2, mI3, mI4, mL1, mL2, mL3, mL4, mQ1, mQ2, mQ3, mQ4, mT1, mcat0, mcat1, mcat2, mcat3, mcat4, mrf1, jK_v, jK_n, JA, mz1, if_true, if_false, ite_true, ite_false, eq_self, not_false_eq_true, Nat.zero_le, true_and, and_true, and_self, Nat.reduceMod, Nat.reduceAdd, Nat.reduceLeDiff, Nat.reduceEqDiff, Nat.reduceLT, hw, hn]
  rw [h1, h0]
  simp only [x142_4, x142_0, x142_1a, x142_1b, x142_1c, x142_2, x142_3a, x142_3b, x142_3c, x142_5, x142_6, x142_9, x142_12, x142_15, x142_16, x142_17, x142_20, x142_21, x142_22, x142_23a, x142_23b, x142_23c, x142_24a, x142_24b, x142_24c, x142_27, x142_30, x142_31, mzi, mInc, mne, mlt9, mrk, mI1, mI2, mI3, mI4, mL1, mL2, mL3, mL4, mQ1, mQ2, mQ3, mQ4, mT1, mcat0, mcat1, mcat2, mcat3, mcat4, mrf1, jK_v, jK_n, JA, mz1, if_true, if_false, ite_true, ite_false, eq_self, not_false_eq_true, Nat.zero_le, true_and, and_true, and_self, Nat.reduceMod, Nat.reduceAdd, Nat.reduceLeDiff, Nat.reduceEqDiff, Nat.reduceLT, hge, hw, hn]
  rfl
theorem c_swn {w : Int32} (hW : jWd μ) (hn : jI μ 1731 1 = iN n) (h10 : n ≤ 10) : Ex (d) 186 0 [some (.ref 2567), some (.int w), some (.ref 3024), none, none] [] μ Q ↔ Q (.inl (some (.int (rsum (fun k => jI μ 3024 k >>> (w &&& 31) &&& 1) n)))) μ := by
  have hw := hW
  unfold jWd at hw
  have loop : ∀ (k : Nat) (a : Int32), k < n → (Ex (d) 186 5 [some (.ref 2567), some (.int w), some (.ref 3024), some (.int a), some (.int (iN k))] [] μ Q ↔ Ex (d) 186 5 [some (.ref 2567), some (.int w), some (.ref 3024), some (.int (a + (jI μ 3024 k >>> (w &&& 31) &&& 1))), some (.int (iN (k + 1)))] [] μ Q) := by
    intro k a hk
    have hlt : iN k < iN n := (iN_lt (by omega) (by omega)).mpr hk
    have hkc : (iN k).toNatClampNeg = k := iN_cl (by omega)
    have hkj : jin (iN k) 10 = true := iN_in (by omega) (by omega)
    have hlt9 : iN k < Int32.ofNat 10 := (iN_lt (by omega) (by omega)).mpr (by omega)
    all_goals rw [x186_5]
    all_goals simp only [x186_0, x186_1a, x186_1b, x186_1c, x186_2, x186_3a, x186_3b, x186_3c, x186_7, x186_8, x186_11, x186_14, x186_17, x186_19, x186_20, x186_21, x186_24, x186_25, x186_26, x186_28, x186_29, x186_30, x186_31, x186_32, x186_33, x186_34a, x186_34b, x186_34c, x186_35a, x186_35b, x186_35c, x186_38, x186_41, x186_42, mzi, mInc, mne, mlt9, mrk, mI1, mI2, mI3, mI4, mL1, mL2, mL3, mL4, mQ1, mQ2, mQ3, mQ4, mT1, mcat0, mcat1, mcat2, mcat3, mcat4, mrf1, jK_v, jK_n, JA, mz1, if_true, if_false, ite_true, ite_false, eq_self, not_false_eq_true, Nat.zero_le, true_and, and_true, and_self, Nat.reduceMod, Nat.reduceAdd, Nat.reduceLeDiff, Nat.reduceEqDiff, Nat.reduceLT, hlt, hkc, hkj, hw, hn, hlt9]
  have h0 := jfold_loop (P := fun k a => Ex (d) 186 5 [some (.ref 2567), some (.int w), some (.ref 3024), some (.int a), some (.int (iN k))] [] μ Q) loop n 0 0 (by omega)
  have hge : ¬ iN n < iN n := iN_irr (by omega)
  have h1 : Ex (d) 186 0 [some (.ref 2567), some (.int w), some (.ref 3024), none, none] [] μ Q ↔ Ex (d) 186 5 [some (.ref 2567), some (.int w), some (.ref 3024), some (.int 0), some (.int (iN 0))] [] μ Q := by
    simp only [x186_0, x186_1a, x186_1b, x186_1c, x186_2, x186_3a, x186_3b, x186_3c, x186_7, x186_8, x186_11, x186_14, x186_17, x186_19, x186_20, x186_21, x186_24, x186_25, x186_26, x186_28, x186_29, x186_30, x186_31, x186_32, x186_33, x186_34a, x186_34b, x186_34c, x186_35a, x186_35b, x186_35c, x186_38, x186_41, x186_42, mzi, mInc, mne, mlt9, mrk, mI1, mI2, mI3, mI4, mL1, mL2, mL3, mL4, mQ1, mQ2, mQ3, mQ4, mT1, mcat0, mcat1, mcat2, mcat3, mcat4, mrf1, jK_v, jK_n, JA, mz1, if_true, if_false, ite_true, ite_false, eq_self, not_false_eq_true, Nat.zero_le, true_and, and_true, and_self, Nat.reduceMod, Nat.reduceAdd, Nat.reduceLeDiff, Nat.reduceEqDiff, Nat.reduceLT, hw, hn]
  rw [h1, h0]
  simp only [x186_5, x186_0, x186_1a, x186_1b, x186_1c, x186_2, x186_3a, x186_3b, x186_3c, x186_7, x186_8, x186_11, x186_14, x186_17, x186_19, x186_20, x186_21, x186_24, x186_25, x186_26, x186_28, x186_29, x186_30, x186_31, x186_32, x186_33, x186_34a, x186_34b, x186_34c, x186_35a, x186_35b, x186_35c, x186_38, x186_41, x186_42, mzi, mInc, mne, mlt9, mrk, mI1, mI2, mI3, mI4, mL1, mL2, mL3, mL4, mQ1, mQ2, mQ3, mQ4, mT1, mcat0, mcat1, mcat2, mcat3, mcat4, mrf1, jK_v, jK_n, JA, mz1, if_true, if_false, ite_true, ite_false, eq_self, not_false_eq_true, Nat.zero_le, true_and, and_true, and_self, Nat.reduceMod, Nat.reduceAdd, Nat.reduceLeDiff, Nat.reduceEqDiff, Nat.reduceLT, hge, hw, hn]
  rfl
theorem c_stn {w : Int32} (hW : jWd μ) (hn : jI μ 1731 1 = iN n) (h10 : n ≤ 10) : Ex (d) 186 0 [some (.ref 2567), some (.int w), some (.ref 3088), none, none] [] μ Q ↔ Q (.inl (some (.int (rsum (fun k => jI μ 3088 k >>> (w &&& 31) &&& 1) n)))) μ := by
  have hw := hW
  unfold jWd at hw
  have loop : ∀ (k : Nat) (a : Int32), k < n → (Ex (d) 186 5 [some (.ref 2567), some (.int w), some (.ref 3088), some (.int a), some (.int (iN k))] [] μ Q ↔ Ex (d) 186 5 [some (.ref 2567), some (.int w), some (.ref 3088), some (.int (a + (jI μ 3088 k >>> (w &&& 31) &&& 1))), some (.int (iN (k + 1)))] [] μ Q) := by
    intro k a hk
    have hlt : iN k < iN n := (iN_lt (by omega) (by omega)).mpr hk
    have hkc : (iN k).toNatClampNeg = k := iN_cl (by omega)
    have hkj : jin (iN k) 10 = true := iN_in (by omega) (by omega)
    have hlt9 : iN k < Int32.ofNat 10 := (iN_lt (by omega) (by omega)).mpr (by omega)
    all_goals rw [x186_5]
    all_goals simp only [x186_0, x186_1a, x186_1b, x186_1c, x186_2, x186_3a, x186_3b, x186_3c, x186_7, x186_8, x186_11, x186_14, x186_17, x186_19, x186_20, x186_21, x186_24, x186_25, x186_26, x186_28, x186_29, x186_30, x186_31, x186_32, x186_33, x186_34a, x186_34b, x186_34c, x186_35a, x186_35b, x186_35c, x186_38, x186_41, x186_42, mzi, mInc, mne, mlt9, mrk, mI1, mI2, mI3, mI4, mL1, mL2, mL3, mL4, mQ1, mQ2, mQ3, mQ4, mT1, mcat0, mcat1, mcat2, mcat3, mcat4, mrf1, jK_v, jK_n, JA, mz1, if_true, if_false, ite_true, ite_false, eq_self, not_false_eq_true, Nat.zero_le, true_and, and_true, and_self, Nat.reduceMod, Nat.reduceAdd, Nat.reduceLeDiff, Nat.reduceEqDiff, Nat.reduceLT, hlt, hkc, hkj, hw, hn, hlt9]
  have h0 := jfold_loop (P := fun k a => Ex (d) 186 5 [some (.ref 2567), some (.int w), some (.ref 3088), some (.int a), some (.int (iN k))] [] μ Q) loop n 0 0 (by omega)
  have hge : ¬ iN n < iN n := iN_irr (by omega)
  have h1 : Ex (d) 186 0 [some (.ref 2567), some (.int w), some (.ref 3088), none, none] [] μ Q ↔ Ex (d) 186 5 [some (.ref 2567), some (.int w), some (.ref 3088), some (.int 0), some (.int (iN 0))] [] μ Q := by
    simp only [x186_0, x186_1a, x186_1b, x186_1c, x186_2, x186_3a, x186_3b, x186_3c, x186_7, x186_8, x186_11, x186_14, x186_17, x186_19, x186_20, x186_21, x186_24, x186_25, x186_26, x186_28, x186_29, x186_30, x186_31, x186_32, x186_33, x186_34a, x186_34b, x186_34c, x186_35a, x186_35b, x186_35c, x186_38, x186_41, x186_42, mzi, mInc, mne, mlt9, mrk, mI1, mI2, mI3, mI4, mL1, mL2, mL3, mL4, mQ1, mQ2, mQ3, mQ4, mT1, mcat0, mcat1, mcat2, mcat3, mcat4, mrf1, jK_v, jK_n, JA, mz1, if_true, if_false, ite_true, ite_false, eq_self, not_false_eq_true, Nat.zero_le, true_and, and_true, and_self, Nat.reduceMod, Nat.reduceAdd, Nat.reduceLeDiff, Nat.reduceEqDiff, Nat.reduceLT, hw, hn]
  rw [h1, h0]
  simp only [x186_5, x186_0, x186_1a, x186_1b, x186_1c, x186_2, x186_3a, x186_3b, x186_3c, x186_7, x186_8, x186_11, x186_14, x186_17, x186_19, x186_20, x186_21, x186_24, x186_25, x186_26, x186_28, x186_29, x186_30, x186_31, x186_32, x186_33, x186_34a, x186_34b, x186_34c, x186_35a, x186_35b, x186_35c, x186_38, x186_41, x186_42, mzi, mInc, mne, mlt9, mrk, mI1, mI2, mI3, mI4, mL1, mL2, mL3, mL4, mQ1, mQ2, mQ3, mQ4, mT1, mcat0, mcat1, mcat2, mcat3, mcat4, mrf1, jK_v, jK_n, JA, mz1, if_true, if_false, ite_true, ite_false, eq_self, not_false_eq_true, Nat.zero_le, true_and, and_true, and_self, Nat.reduceMod, Nat.reduceAdd, Nat.reduceLeDiff, Nat.reduceEqDiff, Nat.reduceLT, hge, hw, hn]
  rfl
theorem c_barsn {w : Int32} (hW : jWd μ) (hn : jI μ 1731 1 = iN n) (h10 : n ≤ 10) : Ex (d + 1) 185 0 [some (.ref 2567), some (.int w)] [] μ Q ↔ Q (.inl (some (.int (rsum (fun k => jI μ 3024 k >>> (w &&& 31) &&& 1) n)))) μ := by
  have hw := hW
  unfold jWd at hw
  simp only [x185_0, x185_1, x185_2, x185_3, x185_6, x185_9, mzi, mInc, mne, mlt9, mrk, mI1, mI2, mI3, mI4, mL1, mL2, mL3, mL4, mQ1, mQ2, mQ3, mQ4, mT1, mcat0, mcat1, mcat2, mcat3, mcat4, mrf1, jK_v, jK_n, JA, mz1, if_true, if_false, ite_true, ite_false, eq_self, not_false_eq_true, Nat.zero_le, true_and, and_true, and_self, Nat.reduceMod, Nat.reduceAdd, Nat.reduceLeDiff, Nat.reduceEqDiff, Nat.reduceLT, hw, c_swn hW hn h10]
theorem c_heldn {w : Int32} (hW : jWd μ) (hn : jI μ 1731 1 = iN n) (h10 : n ≤ 10) : Ex (d + 1) 198 0 [some (.ref 2567), some (.int w)] [] μ Q ↔ Q (.inl (some (.int (rsum (fun k => jI μ 3088 k >>> (w &&& 31) &&& 1) n)))) μ := by
  have hw := hW
  unfold jWd at hw
  simp only [x198_0, x198_1, x198_2, x198_3, x198_6, x198_9, mzi, mInc, mne, mlt9, mrk, mI1, mI2, mI3, mI4, mL1, mL2, mL3, mL4, mQ1, mQ2, mQ3, mQ4, mT1, mcat0, mcat1, mcat2, mcat3, mcat4, mrf1, jK_v, jK_n, JA, mz1, if_true, if_false, ite_true, ite_false, eq_self, not_false_eq_true, Nat.zero_le, true_and, and_true, and_self, Nat.reduceMod, Nat.reduceAdd, Nat.reduceLeDiff, Nat.reduceEqDiff, Nat.reduceLT, hw, c_stn hW hn h10]
theorem c_freen {t : Nat} (hW : jWd μ) (hn : jI μ 1731 1 = iN n) (h10 : n ≤ 10) (ht : t < 10) : Ex (d + 1) 201 0 [some (.ref 2567), some (.int (iN t))] [] μ Q ↔ Q (.inl (some (.int (jI μ 2192 t - rsum (fun k => jI μ 3088 k >>> (iN t &&& 31) &&& 1) n)))) μ := by
  have hw := hW
  unfold jWd at hw
  have hp : ¬ iN t < 0 := iN_nn (by omega)
  have hl : iN t < (10 : Int32) := (iN_lt (b := 10) (by omega) (by decide)).mpr ht
  have hc : (iN t).toNatClampNeg = t := iN_cl (by omega)
  have hj : jin (iN t) 10 = true := iN_in ht (by omega)
  simp only [x201_0, x201_1, x201_4, x201_5, x201_7, x201_10, x201_11, x201_14, x201_17, x201_18, x201_19, x201_20, x201_21, x201_22, x201_25, x201_28, x201_29, x201_32, x201_33, mzi, mInc, mne, mlt9, mrk, mI1, mI2, mI3, mI4, mL1, mL2, mL3, mL4, mQ1, mQ2, mQ3, mQ4, mT1, mcat0, mcat1, mcat2, mcat3, mcat4, mrf1, jK_v, jK_n, JA, mz1, if_true, if_false, ite_true, ite_false, eq_self, not_false_eq_true, Nat.zero_le, true_and, and_true, and_self, Nat.reduceMod, Nat.reduceAdd, Nat.reduceLeDiff, Nat.reduceEqDiff, Nat.reduceLT, hw, c_stn hW hn h10, hp, hl, hc, hj]
theorem c_idlen {l : Nat} (hW : jWd μ) (hn : jI μ 1731 1 = iN n) (h10 : n ≤ 10) (hl : l < n) : Ex (d + 1) 202 0 [some (.ref 2567), some (.int (iN l))] [] μ Q ↔ Q (.inl (some (.int (if jI μ 2640 l = 0 then 1 else 0)))) μ := by
  have hw := hW
  unfold jWd at hw
  have hh : jhas (iN l) (iN n) 10 = 1 := jhas_in (m := 10) hl h10 (by decide)
  have hc : (iN l).toNatClampNeg = l := iN_cl (by omega)
  have hj : jin (iN l) 10 = true := iN_in (by omega) (by omega)
  by_cases g1 : jI μ 2640 l = 0
  all_goals simp only [x202_0, x202_1, x202_4, x202_5, x202_8, x202_11, x202_12, x202_15, x202_16, x202_17, x202_20, x202_21, x202_24, x202_25, mzi, mInc, mne, mlt9, mrk, mI1, mI2, mI3, mI4, mL1, mL2, mL3, mL4, mQ1, mQ2, mQ3, mQ4, mT1, mcat0, mcat1, mcat2, mcat3, mcat4, mrf1, jK_v, jK_n, JA, mz1, if_true, if_false, ite_true, ite_false, eq_self, not_false_eq_true, Nat.zero_le, true_and, and_true, and_self, Nat.reduceMod, Nat.reduceAdd, Nat.reduceLeDiff, Nat.reduceEqDiff, Nat.reduceLT, hw, hn, c_hasLine (x := 1731) rfl, hh, hc, hj, g1]
theorem c_callern {l : Nat} (hW : jWd μ) (hn : jI μ 1731 1 = iN n) (h10 : n ≤ 10) (hl : l < n) : Ex (d + 1) 216 0 [some (.ref 2567), some (.int (iN l))] [] μ Q ↔ Q (.inl (some (.int (if jI μ 3024 l = 0 then jI μ 2704 l else iN l)))) μ := by
  have hw := hW
  unfold jWd at hw
  have hc : (iN l).toNatClampNeg = l := iN_cl (by omega)
  have hj : jin (iN l) 10 = true := iN_in (by omega) (by omega)
  by_cases g1 : jI μ 3024 l = 0
  all_goals simp only [x216_0, x216_1, x216_2, x216_5, x216_8, x216_9, x216_12, x216_13, x216_16, x216_17, x216_18, mzi, mInc, mne, mlt9, mrk, mI1, mI2, mI3, mI4, mL1, mL2, mL3, mL4, mQ1, mQ2, mQ3, mQ4, mT1, mcat0, mcat1, mcat2, mcat3, mcat4, mrf1, jK_v, jK_n, JA, mz1, if_true, if_false, ite_true, ite_false, eq_self, not_false_eq_true, Nat.zero_le, true_and, and_true, and_self, Nat.reduceMod, Nat.reduceAdd, Nat.reduceLeDiff, Nat.reduceEqDiff, Nat.reduceLT, hw, hn, c_maden hW (show l < 10 by omega), hc, hj, g1]
theorem c_talksa (hW : jWd μ) (hn : jI μ 1731 1 = iN n) (h10 : n ≤ 10) : Ex (d + 1) 141 0 [some (.ref 3463), none, none] [] μ Q ↔ Q (.inl (some (.int (rsum (fun k => if jI μ 3920 k = 0 then 0 else if jI μ 3536 k = 5 then 1 else 0) n)))) μ := by
  have hw := hW
  unfold jWd at hw
  have loop : ∀ (k : Nat) (a : Int32), k < n → (Ex (d + 1) 141 4 [some (.ref 3463), some (.int a), some (.int (iN k))] [] μ Q ↔ Ex (d + 1) 141 4 [some (.ref 3463), some (.int (a + (if jI μ 3920 k = 0 then 0 else if jI μ 3536 k = 5 then 1 else 0))), some (.int (iN (k + 1)))] [] μ Q) := by
    intro k a hk
    have hlt : iN k < iN n := (iN_lt (by omega) (by omega)).mpr hk
    have hkc : (iN k).toNatClampNeg = k := iN_cl (by omega)
    have hkj : jin (iN k) 10 = true := iN_in (by omega) (by omega)
    all_goals rw [x141_4]
    all_goals by_cases g1 : jI μ 3920 k = 0
    all_goals by_cases g2 : jI μ 3536 k = 5
    all_goals simp only [x141_0, x141_1a, x141_1b, x141_1c, x141_2, x141_3a, x141_3b, x141_3c, x141_5, x141_6, x141_9, x141_12, x141_15, x141_16, x141_17, x141_18, x141_21, x141_24, x141_25, x141_28, x141_29, x141_30, x141_31, x141_34, x141_35, x141_38, x141_39, x141_40a, x141_40b, x141_40c, x141_41a, x141_41b, x141_41c, x141_44, x141_47, x141_48, mzi, mInc, mne, mlt9, mrk, mI1, mI2, mI3, mI4, mL1, mL2, mL3, mL4, mQ1, mQ2, mQ3, mQ4, mT1, mcat0, mcat1, mcat2, mcat3, mcat4, mrf1, jK_v, jK_n, JA, mz1, if_true, if_false, ite_true, ite_false, eq_self, not_false_eq_true, Nat.zero_le, true_and, and_true, and_self, Nat.reduceMod, Nat.reduceAdd, Nat.reduceLeDiff, Nat.reduceEqDiff, Nat.reduceLT, hlt, hkc, hkj, hw, hn, c_madea hW (show k < 10 by omega), g1, g2]
  have h0 := jfold_loop (P := fun k a => Ex (d + 1) 141 4 [some (.ref 3463), some (.int a), some (.int (iN k))] [] μ Q) loop n 0 0 (by omega)
  have hge : ¬ iN n < iN n := iN_irr (by omega)
  have h1 : Ex (d + 1) 141 0 [some (.ref 3463), none, none] [] μ Q ↔ Ex (d + 1) 141 4 [some (.ref 3463), some (.int 0), some (.int (iN 0))] [] μ Q := by
    simp only [x141_0, x141_1a, x141_1b, x141_1c, x141_2, x141_3a, x141_3b, x141_3c, x141_5, x141_6, x141_9, x141_12, x141_15, x141_16, x141_17, x141_18, x141_21, x141_24, x141_25, x141_28, x141_29, x141_30, x141_31, x141_34, x141_35, x141_38, x141_39, x141_40a, x141_40b, x141_40c, x141_41a, x141_41b, x141_41c, x141_44, x141_47, x141_48, mzi, mInc, mne, mlt9, mrk, mI1, mI2, mI3, mI4, mL1, mL2, mL3, mL4, mQ1, mQ2, mQ3, mQ4, mT1, mcat0, mcat1, mcat2, mcat3, mcat4, mrf1, jK_v, jK_n, JA, mz1, if_true, if_false, ite_true, ite_false, eq_self, not_false_eq_true, Nat.zero_le, true_and, and_true, and_self, Nat.reduceMod, Nat.reduceAdd, Nat.reduceLeDiff, Nat.reduceEqDiff, Nat.reduceLT, hw, hn]
  rw [h1, h0]
  simp only [x141_4, x141_0, x141_1a, x141_1b, x141_1c, x141_2, x141_3a, x141_3b, x141_3c, x141_5, x141_6, x141_9, x141_12, x141_15, x141_16, x141_17, x141_18, x141_21, x141_24, x141_25, x141_28, x141_29, x141_30, x141_31, x141_34, x141_35, x141_38, x141_39, x141_40a, x141_40b, x141_40c, x141_41a, x141_41b, x141_41c, x141_44, x141_47, x141_48, mzi, mInc, mne, mlt9, mrk, mI1, mI2, mI3, mI4, mL1, mL2, mL3, mL4, mQ1, mQ2, mQ3, mQ4, mT1, mcat0, mcat1, mcat2, mcat3, mcat4, mrf1, jK_v, jK_n, JA, mz1, if_true, if_false, ite_true, ite_false, eq_self, not_false_eq_true, Nat.zero_le, true_and, and_true, and_self, Nat.reduceMod, Nat.reduceAdd, Nat.reduceLeDiff, Nat.reduceEqDiff, Nat.reduceLT, hge, hw, hn]
  rfl
theorem c_linesDoa {w : Int32} (hW : jWd μ) (hn : jI μ 1731 1 = iN n) (h10 : n ≤ 10) : Ex (d) 267 0 [some (.ref 3463), some (.int w), none, none] [] μ Q ↔ Q (.inl (some (.int (rsum (fun k => if jI μ 3536 k = w then 1 else 0) n)))) μ := by
  have hw := hW
  unfold jWd at hw
  have loop : ∀ (k : Nat) (a : Int32), k < n → (Ex (d) 267 4 [some (.ref 3463), some (.int w), some (.int a), some (.int (iN k))] [] μ Q ↔ Ex (d) 267 4 [some (.ref 3463), some (.int w), some (.int (a + (if jI μ 3536 k = w then 1 else 0))), some (.int (iN (k + 1)))] [] μ Q) := by
    intro k a hk
    have hlt : iN k < iN n := (iN_lt (by omega) (by omega)).mpr hk
    have hkc : (iN k).toNatClampNeg = k := iN_cl (by omega)
    have hkj : jin (iN k) 10 = true := iN_in (by omega) (by omega)
    all_goals rw [x267_4]
    all_goals by_cases g1 : jI μ 3536 k = w
    all_goals simp only [x267_0, x267_1a, x267_1b, x267_1c, x267_2, x267_3a, x267_3b, x267_3c, x267_5, x267_6, x267_9, x267_12, x267_15, x267_16, x267_17, x267_20, x267_21, x267_22, x267_23, x267_26, x267_27, x267_30, x267_31, x267_32a, x267_32b, x267_32c, x267_33a, x267_33b, x267_33c, x267_36, x267_39, x267_40, mzi, mInc, mne, mlt9, mrk, mI1, mI2, mI3, mI4, mL1, mL2, mL3, mL4, mQ1, mQ2, mQ3, mQ4, mT1, mcat0, mcat1, mcat2, mcat3, mcat4, mrf1, jK_v, jK_n, JA, mz1, if_true, if_false, ite_true, ite_false, eq_self, not_false_eq_true, Nat.zero_le, true_and, and_true, and_self, Nat.reduceMod, Nat.reduceAdd, Nat.reduceLeDiff, Nat.reduceEqDiff, Nat.reduceLT, hlt, hkc, hkj, hw, hn, g1]
  have h0 := jfold_loop (P := fun k a => Ex (d) 267 4 [some (.ref 3463), some (.int w), some (.int a), some (.int (iN k))] [] μ Q) loop n 0 0 (by omega)
  have hge : ¬ iN n < iN n := iN_irr (by omega)
  have h1 : Ex (d) 267 0 [some (.ref 3463), some (.int w), none, none] [] μ Q ↔ Ex (d) 267 4 [some (.ref 3463), some (.int w), some (.int 0), some (.int (iN 0))] [] μ Q := by
    simp only [x267_0, x267_1a, x267_1b, x267_1c, x267_2, x267_3a, x267_3b, x267_3c, x267_5, x267_6, x267_9, x267_12, x267_15, x267_16, x267_17, x267_20, x267_21, x267_22, x267_23, x267_26, x267_27, x267_30, x267_31, x267_32a, x267_32b, x267_32c, x267_33a, x267_33b, x267_33c, x267_36, x267_39, x267_40, mzi, mInc, mne, mlt9, mrk, mI1, mI2, mI3, mI4, mL1, mL2, mL3, mL4, mQ1, mQ2, mQ3, mQ4, mT1, mcat0, mcat1, mcat2, mcat3, mcat4, mrf1, jK_v, jK_n, JA, mz1, if_true, if_false, ite_true, ite_false, eq_self, not_false_eq_true, Nat.zero_le, true_and, and_true, and_self, Nat.reduceMod, Nat.reduceAdd, Nat.reduceLeDiff, Nat.reduceEqDiff, Nat.reduceLT, hw, hn]
  rw [h1, h0]
  simp only [x267_4, x267_0, x267_1a, x267_1b, x267_1c, x267_2, x267_3a, x267_3b, x267_3c, x267_5, x267_6, x267_9, x267_12, x267_15, x267_16, x267_17, x267_20, x267_21, x267_22, x267_23, x267_26, x267_27, x267_30, x267_31, x267_32a, x267_32b, x267_32c, x267_33a, x267_33b, x267_33c, x267_36, x267_39, x267_40, mzi, mInc, mne, mlt9, mrk, mI1, mI2, mI3, mI4, mL1, mL2, mL3, mL4, mQ1, mQ2, mQ3, mQ4, mT1, mcat0, mcat1, mcat2, mcat3, mcat4, mrf1, jK_v, jK_n, JA, mz1, if_true, if_false, ite_true, ite_false, eq_self, not_false_eq_true, Nat.zero_le, true_and, and_true, and_self, Nat.reduceMod, Nat.reduceAdd, Nat.reduceLeDiff, Nat.reduceEqDiff, Nat.reduceLT, hge, hw, hn]
  rfl
theorem c_paida (hW : jWd μ) (hn : jI μ 1731 1 = iN n) (h10 : n ≤ 10) : Ex (d) 142 0 [some (.ref 3463), none, none] [] μ Q ↔ Q (.inl (some (.int (rsum (fun k => jI μ 3856 k) n)))) μ := by
  have hw := hW
  unfold jWd at hw
  have loop : ∀ (k : Nat) (a : Int32), k < n → (Ex (d) 142 4 [some (.ref 3463), some (.int a), some (.int (iN k))] [] μ Q ↔ Ex (d) 142 4 [some (.ref 3463), some (.int (a + jI μ 3856 k)), some (.int (iN (k + 1)))] [] μ Q) := by
    intro k a hk
    have hlt : iN k < iN n := (iN_lt (by omega) (by omega)).mpr hk
    have hkc : (iN k).toNatClampNeg = k := iN_cl (by omega)
    have hkj : jin (iN k) 10 = true := iN_in (by omega) (by omega)
    all_goals rw [x142_4]
    all_goals simp only [x142_0, x142_1a, x142_1b, x142_1c, x142_2, x142_3a, x142_3b, x142_3c, x142_5, x142_6, x142_9, x142_12, x142_15, x142_16, x142_17, x142_20, x142_21, x142_22, x142_23a, x142_23b, x142_23c, x142_24a, x142_24b, x142_24c, x142_27, x142_30, x142_31, mzi, mInc, mne, mlt9, mrk, mI1, mI2, mI3, mI4, mL1, mL2, mL3, mL4, mQ1, mQ2, mQ3, mQ4, mT1, mcat0, mcat1, mcat2, mcat3, mcat4, mrf1, jK_v, jK_n, JA, mz1, if_true, if_false, ite_true, ite_false, eq_self, not_false_eq_true, Nat.zero_le, true_and, and_true, and_self, Nat.reduceMod, Nat.reduceAdd, Nat.reduceLeDiff, Nat.reduceEqDiff, Nat.reduceLT, hlt, hkc, hkj, hw, hn]
  have h0 := jfold_loop (P := fun k a => Ex (d) 142 4 [some (.ref 3463), some (.int a), some (.int (iN k))] [] μ Q) loop n 0 0 (by omega)
  have hge : ¬ iN n < iN n := iN_irr (by omega)
  have h1 : Ex (d) 142 0 [some (.ref 3463), none, none] [] μ Q ↔ Ex (d) 142 4 [some (.ref 3463), some (.int 0), some (.int (iN 0))] [] μ Q := by
    simp only [x142_0, x142_1a, x142_1b, x142_1c, x142_2, x142_3a, x142_3b, x142_3c, x142_5, x142_6, x142_9, x142_12, x142_15, x142_16, x142_17, x142_20, x142_21, x142_22, x142_23a, x142_23b, x142_23c, x142_24a, x142_24b, x142_24c, x142_27, x142_30, x142_31, mzi, mInc, mne, mlt9, mrk, mI1, mI2, mI3, mI4, mL1, mL2, mL3, mL4, mQ1, mQ2, mQ3, mQ4, mT1, mcat0, mcat1, mcat2, mcat3, mcat4, mrf1, jK_v, jK_n, JA, mz1, if_true, if_false, ite_true, ite_false, eq_self, not_false_eq_true, Nat.zero_le, true_and, and_true, and_self, Nat.reduceMod, Nat.reduceAdd, Nat.reduceLeDiff, Nat.reduceEqDiff, Nat.reduceLT, hw, hn]
  rw [h1, h0]
  simp only [x142_4, x142_0, x142_1a, x142_1b, x142_1c, x142_2, x142_3a, x142_3b, x142_3c, x142_5, x142_6, x142_9, x142_12, x142_15, x142_16, x142_17, x142_20, x142_21, x142_22, x142_23a, x142_23b, x142_23c, x142_24a, x142_24b, x142_24c, x142_27, x142_30, x142_31, mzi, mInc, mne, mlt9, mrk, mI1, mI2, mI3, mI4, mL1, mL2, mL3, mL4, mQ1, mQ2, mQ3, mQ4, mT1, mcat0, mcat1, mcat2, mcat3, mcat4, mrf1, jK_v, jK_n, JA, mz1, if_true, if_false, ite_true, ite_false, eq_self, not_false_eq_true, Nat.zero_le, true_and, and_true, and_self, Nat.reduceMod, Nat.reduceAdd, Nat.reduceLeDiff, Nat.reduceEqDiff, Nat.reduceLT, hge, hw, hn]
  rfl
theorem c_swa {w : Int32} (hW : jWd μ) (hn : jI μ 1731 1 = iN n) (h10 : n ≤ 10) : Ex (d) 186 0 [some (.ref 3463), some (.int w), some (.ref 3920), none, none] [] μ Q ↔ Q (.inl (some (.int (rsum (fun k => jI μ 3920 k >>> (w &&& 31) &&& 1) n)))) μ := by
  have hw := hW
  unfold jWd at hw
  have loop : ∀ (k : Nat) (a : Int32), k < n → (Ex (d) 186 5 [some (.ref 3463), some (.int w), some (.ref 3920), some (.int a), some (.int (iN k))] [] μ Q ↔ Ex (d) 186 5 [some (.ref 3463), some (.int w), some (.ref 3920), some (.int (a + (jI μ 3920 k >>> (w &&& 31) &&& 1))), some (.int (iN (k + 1)))] [] μ Q) := by
    intro k a hk
    have hlt : iN k < iN n := (iN_lt (by omega) (by omega)).mpr hk
    have hkc : (iN k).toNatClampNeg = k := iN_cl (by omega)
    have hkj : jin (iN k) 10 = true := iN_in (by omega) (by omega)
    have hlt9 : iN k < Int32.ofNat 10 := (iN_lt (by omega) (by omega)).mpr (by omega)
    all_goals rw [x186_5]
    all_goals simp only [x186_0, x186_1a, x186_1b, x186_1c, x186_2, x186_3a, x186_3b, x186_3c, x186_7, x186_8, x186_11, x186_14, x186_17, x186_19, x186_20, x186_21, x186_24, x186_25, x186_26, x186_28, x186_29, x186_30, x186_31, x186_32, x186_33, x186_34a, x186_34b, x186_34c, x186_35a, x186_35b, x186_35c, x186_38, x186_41, x186_42, mzi, mInc, mne, mlt9, mrk, mI1, mI2, mI3, mI4, mL1, mL2, mL3, mL4, mQ1, mQ2, mQ3, mQ4, mT1, mcat0, mcat1, mcat2, mcat3, mcat4, mrf1, jK_v, jK_n, JA, mz1, if_true, if_false, ite_true, ite_false, eq_self, not_false_eq_true, Nat.zero_le, true_and, and_true, and_self, Nat.reduceMod, Nat.reduceAdd, Nat.reduceLeDiff, Nat.reduceEqDiff, Nat.reduceLT, hlt, hkc, hkj, hw, hn, hlt9]
  have h0 := jfold_loop (P := fun k a => Ex (d) 186 5 [some (.ref 3463), some (.int w), some (.ref 3920), some (.int a), some (.int (iN k))] [] μ Q) loop n 0 0 (by omega)
  have hge : ¬ iN n < iN n := iN_irr (by omega)
  have h1 : Ex (d) 186 0 [some (.ref 3463), some (.int w), some (.ref 3920), none, none] [] μ Q ↔ Ex (d) 186 5 [some (.ref 3463), some (.int w), some (.ref 3920), some (.int 0), some (.int (iN 0))] [] μ Q := by
    simp only [x186_0, x186_1a, x186_1b, x186_1c, x186_2, x186_3a, x186_3b, x186_3c, x186_7, x186_8, x186_11, x186_14, x186_17, x186_19, x186_20, x186_21, x186_24, x186_25, x186_26, x186_28, x186_29, x186_30, x186_31, x186_32, x186_33, x186_34a, x186_34b, x186_34c, x186_35a, x186_35b, x186_35c, x186_38, x186_41, x186_42, mzi, mInc, mne, mlt9, mrk, mI1, mI2, mI3, mI4, mL1, mL2, mL3, mL4, mQ1, mQ2, mQ3, mQ4, mT1, mcat0, mcat1, mcat2, mcat3, mcat4, mrf1, jK_v, jK_n, JA, mz1, if_true, if_false, ite_true, ite_false, eq_self, not_false_eq_true, Nat.zero_le, true_and, and_true, and_self, Nat.reduceMod, Nat.reduceAdd, Nat.reduceLeDiff, Nat.reduceEqDiff, Nat.reduceLT, hw, hn]
  rw [h1, h0]
  simp only [x186_5, x186_0, x186_1a, x186_1b, x186_1c, x186_2, x186_3a, x186_3b, x186_3c, x186_7, x186_8, x186_11, x186_14, x186_17, x186_19, x186_20, x186_21, x186_24, x186_25, x186_26, x186_28, x186_29, x186_30, x186_31, x186_32, x186_33, x186_34a, x186_34b, x186_34c, x186_35a, x186_35b, x186_35c, x186_38, x186_41, x186_42, mzi, mInc, mne, mlt9, mrk, mI1, mI2, mI3, mI4, mL1, mL2, mL3, mL4, mQ1, mQ2, mQ3, mQ4, mT1, mcat0, mcat1, mcat2, mcat3, mcat4, mrf1, jK_v, jK_n, JA, mz1, if_true, if_false, ite_true, ite_false, eq_self, not_false_eq_true, Nat.zero_le, true_and, and_true, and_self, Nat.reduceMod, Nat.reduceAdd, Nat.reduceLeDiff, Nat.reduceEqDiff, Nat.reduceLT, hge, hw, hn]
  rfl
theorem c_sta {w : Int32} (hW : jWd μ) (hn : jI μ 1731 1 = iN n) (h10 : n ≤ 10) : Ex (d) 186 0 [some (.ref 3463), some (.int w), some (.ref 3984), none, none] [] μ Q ↔ Q (.inl (some (.int (rsum (fun k => jI μ 3984 k >>> (w &&& 31) &&& 1) n)))) μ := by
  have hw := hW
  unfold jWd at hw
  have loop : ∀ (k : Nat) (a : Int32), k < n → (Ex (d) 186 5 [some (.ref 3463), some (.int w), some (.ref 3984), some (.int a), some (.int (iN k))] [] μ Q ↔ Ex (d) 186 5 [some (.ref 3463), some (.int w), some (.ref 3984), some (.int (a + (jI μ 3984 k >>> (w &&& 31) &&& 1))), some (.int (iN (k + 1)))] [] μ Q) := by
    intro k a hk
    have hlt : iN k < iN n := (iN_lt (by omega) (by omega)).mpr hk
    have hkc : (iN k).toNatClampNeg = k := iN_cl (by omega)
    have hkj : jin (iN k) 10 = true := iN_in (by omega) (by omega)
    have hlt9 : iN k < Int32.ofNat 10 := (iN_lt (by omega) (by omega)).mpr (by omega)
    all_goals rw [x186_5]
    all_goals simp only [x186_0, x186_1a, x186_1b, x186_1c, x186_2, x186_3a, x186_3b, x186_3c, x186_7, x186_8, x186_11, x186_14, x186_17, x186_19, x186_20, x186_21, x186_24, x186_25, x186_26, x186_28, x186_29, x186_30, x186_31, x186_32, x186_33, x186_34a, x186_34b, x186_34c, x186_35a, x186_35b, x186_35c, x186_38, x186_41, x186_42, mzi, mInc, mne, mlt9, mrk, mI1, mI2, mI3, mI4, mL1, mL2, mL3, mL4, mQ1, mQ2, mQ3, mQ4, mT1, mcat0, mcat1, mcat2, mcat3, mcat4, mrf1, jK_v, jK_n, JA, mz1, if_true, if_false, ite_true, ite_false, eq_self, not_false_eq_true, Nat.zero_le, true_and, and_true, and_self, Nat.reduceMod, Nat.reduceAdd, Nat.reduceLeDiff, Nat.reduceEqDiff, Nat.reduceLT, hlt, hkc, hkj, hw, hn, hlt9]
  have h0 := jfold_loop (P := fun k a => Ex (d) 186 5 [some (.ref 3463), some (.int w), some (.ref 3984), some (.int a), some (.int (iN k))] [] μ Q) loop n 0 0 (by omega)
  have hge : ¬ iN n < iN n := iN_irr (by omega)
  have h1 : Ex (d) 186 0 [some (.ref 3463), some (.int w), some (.ref 3984), none, none] [] μ Q ↔ Ex (d) 186 5 [some (.ref 3463), some (.int w), some (.ref 3984), some (.int 0), some (.int (iN 0))] [] μ Q := by
    simp only [x186_0, x186_1a, x186_1b, x186_1c, x186_2, x186_3a, x186_3b, x186_3c, x186_7, x186_8, x186_11, x186_14, x186_17, x186_19, x186_20, x186_21, x186_24, x186_25, x186_26, x186_28, x186_29, x186_30, x186_31, x186_32, x186_33, x186_34a, x186_34b, x186_34c, x186_35a, x186_35b, x186_35c, x186_38, x186_41, x186_42, mzi, mInc, mne, mlt9, mrk, mI1, mI2, mI3, mI4, mL1, mL2, mL3, mL4, mQ1, mQ2, mQ3, mQ4, mT1, mcat0, mcat1, mcat2, mcat3, mcat4, mrf1, jK_v, jK_n, JA, mz1, if_true, if_false, ite_true, ite_false, eq_self, not_false_eq_true, Nat.zero_le, true_and, and_true, and_self, Nat.reduceMod, Nat.reduceAdd, Nat.reduceLeDiff, Nat.reduceEqDiff, Nat.reduceLT, hw, hn]
  rw [h1, h0]
  simp only [x186_5, x186_0, x186_1a, x186_1b, x186_1c, x186_2, x186_3a, x186_3b, x186_3c, x186_7, x186_8, x186_11, x186_14, x186_17, x186_19, x186_20, x186_21, x186_24, x186_25, x186_26, x186_28, x186_29, x186_30, x186_31, x186_32, x186_33, x186_34a, x186_34b, x186_34c, x186_35a, x186_35b, x186_35c, x186_38, x186_41, x186_42, mzi, mInc, mne, mlt9, mrk, mI1, mI2, mI3, mI4, mL1, mL2, mL3, mL4, mQ1, mQ2, mQ3, mQ4, mT1, mcat0, mcat1, mcat2, mcat3, mcat4, mrf1, jK_v, jK_n, JA, mz1, if_true, if_false, ite_true, ite_false, eq_self, not_false_eq_true, Nat.zero_le, true_and, and_true, and_self, Nat.reduceMod, Nat.reduceAdd, Nat.reduceLeDiff, Nat.reduceEqDiff, Nat.reduceLT, hge, hw, hn]
  rfl
theorem c_barsa {w : Int32} (hW : jWd μ) (hn : jI μ 1731 1 = iN n) (h10 : n ≤ 10) : Ex (d + 1) 185 0 [some (.ref 3463), some (.int w)] [] μ Q ↔ Q (.inl (some (.int (rsum (fun k => jI μ 3920 k >>> (w &&& 31) &&& 1) n)))) μ := by
  have hw := hW
  unfold jWd at hw
  simp only [x185_0, x185_1, x185_2, x185_3, x185_6, x185_9, mzi, mInc, mne, mlt9, mrk, mI1, mI2, mI3, mI4, mL1, mL2, mL3, mL4, mQ1, mQ2, mQ3, mQ4, mT1, mcat0, mcat1, mcat2, mcat3, mcat4, mrf1, jK_v, jK_n, JA, mz1, if_true, if_false, ite_true, ite_false, eq_self, not_false_eq_true, Nat.zero_le, true_and, and_true, and_self, Nat.reduceMod, Nat.reduceAdd, Nat.reduceLeDiff, Nat.reduceEqDiff, Nat.reduceLT, hw, c_swa hW hn h10]
theorem c_helda {w : Int32} (hW : jWd μ) (hn : jI μ 1731 1 = iN n) (h10 : n ≤ 10) : Ex (d + 1) 198 0 [some (.ref 3463), some (.int w)] [] μ Q ↔ Q (.inl (some (.int (rsum (fun k => jI μ 3984 k >>> (w &&& 31) &&& 1) n)))) μ := by
  have hw := hW
  unfold jWd at hw
  simp only [x198_0, x198_1, x198_2, x198_3, x198_6, x198_9, mzi, mInc, mne, mlt9, mrk, mI1, mI2, mI3, mI4, mL1, mL2, mL3, mL4, mQ1, mQ2, mQ3, mQ4, mT1, mcat0, mcat1, mcat2, mcat3, mcat4, mrf1, jK_v, jK_n, JA, mz1, if_true, if_false, ite_true, ite_false, eq_self, not_false_eq_true, Nat.zero_le, true_and, and_true, and_self, Nat.reduceMod, Nat.reduceAdd, Nat.reduceLeDiff, Nat.reduceEqDiff, Nat.reduceLT, hw, c_sta hW hn h10]
theorem c_freea {t : Nat} (hW : jWd μ) (hn : jI μ 1731 1 = iN n) (h10 : n ≤ 10) (ht : t < 10) : Ex (d + 1) 201 0 [some (.ref 3463), some (.int (iN t))] [] μ Q ↔ Q (.inl (some (.int (jI μ 2192 t - rsum (fun k => jI μ 3984 k >>> (iN t &&& 31) &&& 1) n)))) μ := by
  have hw := hW
  unfold jWd at hw
  have hp : ¬ iN t < 0 := iN_nn (by omega)
  have hl : iN t < (10 : Int32) := (iN_lt (b := 10) (by omega) (by decide)).mpr ht
  have hc : (iN t).toNatClampNeg = t := iN_cl (by omega)
  have hj : jin (iN t) 10 = true := iN_in ht (by omega)
  simp only [x201_0, x201_1, x201_4, x201_5, x201_7, x201_10, x201_11, x201_14, x201_17, x201_18, x201_19, x201_20, x201_21, x201_22, x201_25, x201_28, x201_29, x201_32, x201_33, mzi, mInc, mne, mlt9, mrk, mI1, mI2, mI3, mI4, mL1, mL2, mL3, mL4, mQ1, mQ2, mQ3, mQ4, mT1, mcat0, mcat1, mcat2, mcat3, mcat4, mrf1, jK_v, jK_n, JA, mz1, if_true, if_false, ite_true, ite_false, eq_self, not_false_eq_true, Nat.zero_le, true_and, and_true, and_self, Nat.reduceMod, Nat.reduceAdd, Nat.reduceLeDiff, Nat.reduceEqDiff, Nat.reduceLT, hw, c_sta hW hn h10, hp, hl, hc, hj]
theorem c_idlea {l : Nat} (hW : jWd μ) (hn : jI μ 1731 1 = iN n) (h10 : n ≤ 10) (hl : l < n) : Ex (d + 1) 202 0 [some (.ref 3463), some (.int (iN l))] [] μ Q ↔ Q (.inl (some (.int (if jI μ 3536 l = 0 then 1 else 0)))) μ := by
  have hw := hW
  unfold jWd at hw
  have hh : jhas (iN l) (iN n) 10 = 1 := jhas_in (m := 10) hl h10 (by decide)
  have hc : (iN l).toNatClampNeg = l := iN_cl (by omega)
  have hj : jin (iN l) 10 = true := iN_in (by omega) (by omega)
  by_cases g1 : jI μ 3536 l = 0
  all_goals simp only [x202_0, x202_1, x202_4, x202_5, x202_8, x202_11, x202_12, x202_15, x202_16, x202_17, x202_20, x202_21, x202_24, x202_25, mzi, mInc, mne, mlt9, mrk, mI1, mI2, mI3, mI4, mL1, mL2, mL3, mL4, mQ1, mQ2, mQ3, mQ4, mT1, mcat0, mcat1, mcat2, mcat3, mcat4, mrf1, jK_v, jK_n, JA, mz1, if_true, if_false, ite_true, ite_false, eq_self, not_false_eq_true, Nat.zero_le, true_and, and_true, and_self, Nat.reduceMod, Nat.reduceAdd, Nat.reduceLeDiff, Nat.reduceEqDiff, Nat.reduceLT, hw, hn, c_hasLine (x := 1731) rfl, hh, hc, hj, g1]
theorem c_callera {l : Nat} (hW : jWd μ) (hn : jI μ 1731 1 = iN n) (h10 : n ≤ 10) (hl : l < n) : Ex (d + 1) 216 0 [some (.ref 3463), some (.int (iN l))] [] μ Q ↔ Q (.inl (some (.int (if jI μ 3920 l = 0 then jI μ 3600 l else iN l)))) μ := by
  have hw := hW
  unfold jWd at hw
  have hc : (iN l).toNatClampNeg = l := iN_cl (by omega)
  have hj : jin (iN l) 10 = true := iN_in (by omega) (by omega)
  by_cases g1 : jI μ 3920 l = 0
  all_goals simp only [x216_0, x216_1, x216_2, x216_5, x216_8, x216_9, x216_12, x216_13, x216_16, x216_17, x216_18, mzi, mInc, mne, mlt9, mrk, mI1, mI2, mI3, mI4, mL1, mL2, mL3, mL4, mQ1, mQ2, mQ3, mQ4, mT1, mcat0, mcat1, mcat2, mcat3, mcat4, mrf1, jK_v, jK_n, JA, mz1, if_true, if_false, ite_true, ite_false, eq_self, not_false_eq_true, Nat.zero_le, true_and, and_true, and_self, Nat.reduceMod, Nat.reduceAdd, Nat.reduceLeDiff, Nat.reduceEqDiff, Nat.reduceLT, hw, hn, c_madea hW (show l < 10 by omega), hc, hj, g1]
end C3
