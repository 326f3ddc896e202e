/-! THE PURE PART: the constructors. -/
section CTORS
variable {μ : jM} {d L : Nat} {Q : jO → jM → Prop} {xs : Nat → Int32}
def kOTape : List (Nat × Nat × Nat × Nat) := [(0, 27, 0, 0), (1, 65, 0, 155)]
theorem lOTape : (jA (oR kOTape μ)).length = (jA μ).length + 1 := oR_l _ _
theorem c_iTape (hl : (jA μ).length = 2) : Ex (d) 2 0 [some (.ref 65)] [] μ Q ↔ Q (.inl none) (oR kOTape μ) := by
  simp only [kOTape, x2_0, x2_1, x2_4, x2_5, x2_8, x2_10, x2_13, mzi, mInc, mne, mlt9, mrk, mI1, mI2, mI3, mI4, mL1, mL2, mL3, mL4, mQ1, mQ2, mQ3, mQ4, mT1, mcat0, mcat1, mcat2, mcat3, mcat4, mrf1, jK_v, jK_n, JA, mz1, if_true, if_false, ite_true, ite_false, eq_self, not_false_eq_true, Nat.zero_le, true_and, and_true, and_self, Nat.reduceMod, Nat.reduceAdd, Nat.reduceLeDiff, Nat.reduceEqDiff, Nat.reduceLT, oR_n, oR_c, oR_a, oS0, oS1, oS2, oS3, oS4, jadr, jl_new, mQ5, mI5, Nat.reduceMul, hl]
def kOTok : List (Nat × Nat × Nat × Nat) := [(0, 33, 0, 0), (1, 194, 1, 289), (0, 25, 0, 0), (1, 194, 2, 345), (0, 25, 0, 0), (1, 194, 3, 409), (0, 25, 0, 0), (1, 194, 4, 473), (0, 30, 0, 0), (1, 194, 5, 542), (1, 194, 0, 65), (4, 289, 401, 2600)]
theorem lOTok : (jA (oR kOTok μ)).length = (jA μ).length + 5 := oR_l _ _
theorem c_iTok (hl : (jA μ).length = 4) : Ex d 3 0 [some (.ref 194), some (.ref 65), none] [] μ Q ↔ Q (.inl none) (oR kOTok μ) := by
  obtain ⟨ν, hν⟩ : ∃ ν : jM, ν = jsQ (jsQ (jnew (jsQ (jnew (jsQ (jnew (jsQ (jnew (jsQ (jnew (μ) 33) 194 1 (some 289)) 25) 194 2 (some 345)) 25) 194 3 (some 409)) 25) 194 4 (some 473)) 30) 194 5 (some 542)) 194 0 (some 65) := ⟨_, rfl⟩
  have h1 : Ex d 3 0 [some (.ref 194), some (.ref 65), none] [] μ Q ↔ Ex d 3 57 [some (.ref 194), some (.ref 65), some (.int (iN 0))] [] ν Q := by
    rw [hν]
    simp only [x3_0, x3_1, x3_4, x3_5, x3_8, x3_11, x3_14, x3_15, x3_18, x3_20, x3_23, x3_24, x3_27, x3_29, x3_32, x3_33, x3_36, x3_38, x3_41, x3_42, x3_45, x3_47, x3_50, x3_51, x3_52, x3_55, x3_56a, x3_56b, x3_56c, x3_58, x3_59, x3_62, x3_63, x3_66, x3_67, x3_70, x3_71, x3_74, x3_75a, x3_75b, x3_75c, x3_78, x3_81, mzi, mInc, mne, mlt9, mrk, mI1, mI2, mI3, mI4, mL1, mL2, mL3, mL4, mQ1, mQ2, mQ3, mQ4, mT1, mcat0, mcat1, mcat2, mcat3, mcat4, mrf1, jK_v, jK_n, JA, mz1, if_true, if_false, ite_true, ite_false, eq_self, not_false_eq_true, Nat.zero_le, true_and, and_true, and_self, Nat.reduceMod, Nat.reduceAdd, Nat.reduceLeDiff, Nat.reduceEqDiff, Nat.reduceLT, oR_n, oR_c, oR_a, oS0, oS1, oS2, oS3, oS4, jadr, jl_new, mQ5, mI5, Nat.reduceMul, hl]
  have hq : jQ ν 194 1 = some 289 := by
    rw [hν]
    simp only [mQ1, mQ2, jnq, jadr, jl_new, mQ5, mI5, Nat.reduceMul, hl, Nat.reduceEqDiff, Nat.reduceAdd, not_false_eq_true, if_true, if_false, ite_true, ite_false]
  have loop : ∀ k, 0 ≤ k → k < 401 → (Ex d 3 57 [some (.ref 194), some (.ref 65), some (.int (iN k))] [] (jfR ν 289 k 2600) Q ↔ Ex d 3 57 [some (.ref 194), some (.ref 65), some (.int (iN (k + 1)))] [] (jfR ν 289 (k + 1) 2600) Q) := by
    intro k _ hk
    have hlt : iN k < iN 401 := (iN_lt (by omega) (by omega)).mpr hk
    have hkc : (iN k).toNatClampNeg = k := iN_cl (by omega)
    have hkj : jin (iN k) 401 = true := iN_in (by omega) (by omega)
    have hr : jQ (jfR ν 289 k 2600) 194 1 = some 289 := by
      rw [jfR_q (by decide)]
      exact hq
    rw [x3_57]
    simp only [x3_0, x3_1, x3_4, x3_5, x3_8, x3_11, x3_14, x3_15, x3_18, x3_20, x3_23, x3_24, x3_27, x3_29, x3_32, x3_33, x3_36, x3_38, x3_41, x3_42, x3_45, x3_47, x3_50, x3_51, x3_52, x3_55, x3_56a, x3_56b, x3_56c, x3_58, x3_59, x3_62, x3_63, x3_66, x3_67, x3_70, x3_71, x3_74, x3_75a, x3_75b, x3_75c, x3_78, x3_81, mzi, mInc, mne, mlt9, mrk, mI1, mI2, mI3, mI4, mL1, mL2, mL3, mL4, mQ1, mQ2, mQ3, mQ4, mT1, mcat0, mcat1, mcat2, mcat3, mcat4, mrf1, jK_v, jK_n, JA, mz1, if_true, if_false, ite_true, ite_false, eq_self, not_false_eq_true, Nat.zero_le, true_and, and_true, and_self, Nat.reduceMod, Nat.reduceAdd, Nat.reduceLeDiff, Nat.reduceEqDiff, Nat.reduceLT, hlt, hkc, hkj, hr, jfR_s, mInc]
  have h0 := jclimb (P := fun k => Ex d 3 57 [some (.ref 194), some (.ref 65), some (.int (iN k))] [] (jfR ν 289 k 2600) Q) loop (Nat.zero_le 401)
  have hr : jQ (jfR ν 289 401 2600) 194 1 = some 289 := by
    rw [jfR_q (by decide)]
    exact hq
  have hge : ¬ iN 401 < iN 401 := iN_irr (by omega)
  have h2 : jfR ν 289 0 2600 = ν := jfR_0
  have h0' : Ex d 3 57 [some (.ref 194), some (.ref 65), some (.int (iN 0))] [] ν Q ↔ Ex d 3 57 [some (.ref 194), some (.ref 65), some (.int (iN 401))] [] (jfR ν 289 401 2600) Q := by
    have h0'' := h0
    simp only [h2] at h0''
    exact h0''
  rw [h1, h0']
  simp only [↓if_neg hge, x3_57, x3_0, x3_1, x3_4, x3_5, x3_8, x3_11, x3_14, x3_15, x3_18, x3_20, x3_23, x3_24, x3_27, x3_29, x3_32, x3_33, x3_36, x3_38, x3_41, x3_42, x3_45, x3_47, x3_50, x3_51, x3_52, x3_55, x3_56a, x3_56b, x3_56c, x3_58, x3_59, x3_62, x3_63, x3_66, x3_67, x3_70, x3_71, x3_74, x3_75a, x3_75b, x3_75c, x3_78, x3_81, mzi, mInc, mne, mlt9, mrk, mI1, mI2, mI3, mI4, mL1, mL2, mL3, mL4, mQ1, mQ2, mQ3, mQ4, mT1, mcat0, mcat1, mcat2, mcat3, mcat4, mrf1, jK_v, jK_n, JA, mz1, if_true, if_false, ite_true, ite_false, eq_self, not_false_eq_true, Nat.zero_le, true_and, and_true, and_self, Nat.reduceMod, Nat.reduceAdd, Nat.reduceLeDiff, Nat.reduceEqDiff, Nat.reduceLT, hr, hge]
  rw [hν]
  simp only [kOTok, oR_n, oR_c, oS0, oS1, oS4]
def kOTsA : List (Nat × Nat × Nat × Nat) := [(0, 32, 0, 0), (1, 1156, 0, 1248), (0, 24, 0, 0), (1, 1156, 1, 1304), (0, 24, 0, 0), (1, 1156, 2, 1368), (4, 1248, 400, 2536)]
theorem lOTsA : (jA (oR kOTsA μ)).length = (jA μ).length + 3 := oR_l _ _
theorem c_iTsA (hl : (jA μ).length = 19) : Ex d 5 0 [some (.ref 1156), none] [] μ Q ↔ Q (.inl none) (oR kOTsA μ) := by
  obtain ⟨ν, hν⟩ : ∃ ν : jM, ν = jsQ (jnew (jsQ (jnew (jsQ (jnew (μ) 32) 1156 0 (some 1248)) 24) 1156 1 (some 1304)) 24) 1156 2 (some 1368) := ⟨_, rfl⟩
  have h1 : Ex d 5 0 [some (.ref 1156), none] [] μ Q ↔ Ex d 5 34 [some (.ref 1156), some (.int (iN 0))] [] ν Q := by
    rw [hν]
    simp only [x5_0, x5_1, x5_4, x5_5, x5_8, x5_11, x5_14, x5_15, x5_18, x5_20, x5_23, x5_24, x5_27, x5_29, x5_32, x5_33a, x5_33b, x5_33c, x5_35, x5_36, x5_39, x5_40, x5_43, x5_44, x5_47, x5_48, x5_51, x5_52a, x5_52b, x5_52c, x5_55, x5_58, mzi, mInc, mne, mlt9, mrk, mI1, mI2, mI3, mI4, mL1, mL2, mL3, mL4, mQ1, mQ2, mQ3, mQ4, mT1, mcat0, mcat1, mcat2, mcat3, mcat4, mrf1, jK_v, jK_n, JA, mz1, if_true, if_false, ite_true, ite_false, eq_self, not_false_eq_true, Nat.zero_le, true_and, and_true, and_self, Nat.reduceMod, Nat.reduceAdd, Nat.reduceLeDiff, Nat.reduceEqDiff, Nat.reduceLT, oR_n, oR_c, oR_a, oS0, oS1, oS2, oS3, oS4, jadr, jl_new, mQ5, mI5, Nat.reduceMul, hl]
  have hq : jQ ν 1156 0 = some 1248 := by
    rw [hν]
    simp only [mQ1, mQ2, jnq, jadr, jl_new, mQ5, mI5, Nat.reduceMul, hl, Nat.reduceEqDiff, Nat.reduceAdd, not_false_eq_true, if_true, if_false, ite_true, ite_false]
  have loop : ∀ k, 0 ≤ k → k < 400 → (Ex d 5 34 [some (.ref 1156), some (.int (iN k))] [] (jfR ν 1248 k 2536) Q ↔ Ex d 5 34 [some (.ref 1156), some (.int (iN (k + 1)))] [] (jfR ν 1248 (k + 1) 2536) Q) := by
    intro k _ hk
    have hlt : iN k < iN 400 := (iN_lt (by omega) (by omega)).mpr hk
    have hkc : (iN k).toNatClampNeg = k := iN_cl (by omega)
    have hkj : jin (iN k) 400 = true := iN_in (by omega) (by omega)
    have hr : jQ (jfR ν 1248 k 2536) 1156 0 = some 1248 := by
      rw [jfR_q (by decide)]
      exact hq
    rw [x5_34]
    simp only [x5_0, x5_1, x5_4, x5_5, x5_8, x5_11, x5_14, x5_15, x5_18, x5_20, x5_23, x5_24, x5_27, x5_29, x5_32, x5_33a, x5_33b, x5_33c, x5_35, x5_36, x5_39, x5_40, x5_43, x5_44, x5_47, x5_48, x5_51, x5_52a, x5_52b, x5_52c, x5_55, x5_58, mzi, mInc, mne, mlt9, mrk, mI1, mI2, mI3, mI4, mL1, mL2, mL3, mL4, mQ1, mQ2, mQ3, mQ4, mT1, mcat0, mcat1, mcat2, mcat3, mcat4, mrf1, jK_v, jK_n, JA, mz1, if_true, if_false, ite_true, ite_false, eq_self, not_false_eq_true, Nat.zero_le, true_and, and_true, and_self, Nat.reduceMod, Nat.reduceAdd, Nat.reduceLeDiff, Nat.reduceEqDiff, Nat.reduceLT, hlt, hkc, hkj, hr, jfR_s, mInc]
  have h0 := jclimb (P := fun k => Ex d 5 34 [some (.ref 1156), some (.int (iN k))] [] (jfR ν 1248 k 2536) Q) loop (Nat.zero_le 400)
  have hr : jQ (jfR ν 1248 400 2536) 1156 0 = some 1248 := by
    rw [jfR_q (by decide)]
    exact hq
  have hge : ¬ iN 400 < iN 400 := iN_irr (by omega)
  have h2 : jfR ν 1248 0 2536 = ν := jfR_0
  have h0' : Ex d 5 34 [some (.ref 1156), some (.int (iN 0))] [] ν Q ↔ Ex d 5 34 [some (.ref 1156), some (.int (iN 400))] [] (jfR ν 1248 400 2536) Q := by
    have h0'' := h0
    simp only [h2] at h0''
    exact h0''
  rw [h1, h0']
  simp only [↓if_neg hge, x5_34, x5_0, x5_1, x5_4, x5_5, x5_8, x5_11, x5_14, x5_15, x5_18, x5_20, x5_23, x5_24, x5_27, x5_29, x5_32, x5_33a, x5_33b, x5_33c, x5_35, x5_36, x5_39, x5_40, x5_43, x5_44, x5_47, x5_48, x5_51, x5_52a, x5_52b, x5_52c, x5_55, x5_58, mzi, mInc, mne, mlt9, mrk, mI1, mI2, mI3, mI4, mL1, mL2, mL3, mL4, mQ1, mQ2, mQ3, mQ4, mT1, mcat0, mcat1, mcat2, mcat3, mcat4, mrf1, jK_v, jK_n, JA, mz1, if_true, if_false, ite_true, ite_false, eq_self, not_false_eq_true, Nat.zero_le, true_and, and_true, and_self, Nat.reduceMod, Nat.reduceAdd, Nat.reduceLeDiff, Nat.reduceEqDiff, Nat.reduceLT, hr, hge]
  rw [hν]
  simp only [kOTsA, oR_n, oR_c, oS0, oS1, oS4]
def kOPlA : List (Nat × Nat × Nat × Nat) := [(0, 20, 0, 0), (1, 579, 4, 660), (0, 16, 0, 0), (1, 579, 5, 720), (0, 16, 0, 0), (1, 579, 6, 784), (0, 16, 0, 0), (1, 579, 7, 848), (0, 16, 0, 0), (1, 579, 8, 912), (0, 16, 0, 0), (1, 579, 9, 976), (0, 16, 0, 0), (1, 579, 10, 1040), (0, 16, 0, 0), (1, 579, 11, 1104)] ++ ((0, 4, 0, 0) :: (kOTsA ++ [(1, 579, 12, 1156)]))
theorem lOPlA : (jA (oR kOPlA μ)).length = (jA μ).length + 12 := oR_l _ _
theorem c_iPlA (hl : (jA μ).length = 10) : Ex (d + 1) 4 0 [some (.ref 579)] [] μ Q ↔ Q (.inl none) (oR kOPlA μ) := by
  simp only [kOPlA, c_iTsA, lOTsA, x4_0, x4_1, x4_4, x4_5, x4_7, x4_9, x4_12, x4_13, x4_15, x4_17, x4_20, x4_21, x4_23, x4_25, x4_28, x4_29, x4_31, x4_33, x4_36, x4_37, x4_39, x4_41, x4_44, x4_45, x4_47, x4_49, x4_52, x4_53, x4_55, x4_57, x4_60, x4_61, x4_63, x4_65, x4_68, x4_69, x4_72a, x4_72b, x4_73, x4_76, x4_79, mzi, mInc, mne, mlt9, mrk, mI1, mI2, mI3, mI4, mL1, mL2, mL3, mL4, mQ1, mQ2, mQ3, mQ4, mT1, mcat0, mcat1, mcat2, mcat3, mcat4, mrf1, jK_v, jK_n, JA, mz1, if_true, if_false, ite_true, ite_false, eq_self, not_false_eq_true, Nat.zero_le, true_and, and_true, and_self, Nat.reduceMod, Nat.reduceAdd, Nat.reduceLeDiff, Nat.reduceEqDiff, Nat.reduceLT, oR_n, oR_c, oR_a, oS0, oS1, oS2, oS3, oS4, jadr, jl_new, mQ5, mI5, Nat.reduceMul, hl]
def kOGra : List (Nat × Nat × Nat × Nat) := [(1, 1413, 0, 194), (1, 1413, 1, 1156)]
theorem lOGra : (jA (oR kOGra μ)).length = (jA μ).length + 0 := oR_l _ _
theorem c_iGra (hl : (jA μ).length = 23) : Ex (d) 6 0 [some (.ref 1413), some (.ref 194), some (.ref 1156)] [] μ Q ↔ Q (.inl none) (oR kOGra μ) := by
  simp only [kOGra, x6_0, x6_1, x6_4, x6_5, x6_6, x6_9, x6_10, x6_11, x6_14, mzi, mInc, mne, mlt9, mrk, mI1, mI2, mI3, mI4, mL1, mL2, mL3, mL4, mQ1, mQ2, mQ3, mQ4, mT1, mcat0, mcat1, mcat2, mcat3, mcat4, mrf1, jK_v, jK_n, JA, mz1, if_true, if_false, ite_true, ite_false, eq_self, not_false_eq_true, Nat.zero_le, true_and, and_true, and_self, Nat.reduceMod, Nat.reduceAdd, Nat.reduceLeDiff, Nat.reduceEqDiff, Nat.reduceLT, oR_n, oR_c, oR_a, oS0, oS1, oS2, oS3, oS4, jadr, jl_new, mQ5, mI5, Nat.reduceMul, hl]
def kOMea : List (Nat × Nat × Nat × Nat) := [(0, 29, 0, 0), (1, 1478, 2, 1565), (0, 28, 0, 0), (1, 1478, 3, 1628), (0, 28, 0, 0), (1, 1478, 4, 1692), (1, 1478, 0, 194), (1, 1478, 1, 579)]
theorem lOMea : (jA (oR kOMea μ)).length = (jA μ).length + 3 := oR_l _ _
theorem c_iMea (hl : (jA μ).length = 24) : Ex (d) 7 0 [some (.ref 1478), some (.ref 194), some (.ref 579)] [] μ Q ↔ Q (.inl none) (oR kOMea μ) := by
  simp only [kOMea, x7_0, x7_1, x7_4, x7_5, x7_7, x7_9, x7_12, x7_13, x7_15, x7_17, x7_20, x7_21, x7_23, x7_25, x7_28, x7_29, x7_30, x7_33, x7_34, x7_35, x7_38, mzi, mInc, mne, mlt9, mrk, mI1, mI2, mI3, mI4, mL1, mL2, mL3, mL4, mQ1, mQ2, mQ3, mQ4, mT1, mcat0, mcat1, mcat2, mcat3, mcat4, mrf1, jK_v, jK_n, JA, mz1, if_true, if_false, ite_true, ite_false, eq_self, not_false_eq_true, Nat.zero_le, true_and, and_true, and_self, Nat.reduceMod, Nat.reduceAdd, Nat.reduceLeDiff, Nat.reduceEqDiff, Nat.reduceLT, oR_n, oR_c, oR_a, oS0, oS1, oS2, oS3, oS4, jadr, jl_new, mQ5, mI5, Nat.reduceMul, hl]
def kOTsB : List (Nat × Nat × Nat × Nat) := [(0, 32, 0, 0), (1, 2308, 0, 2400), (0, 24, 0, 0), (1, 2308, 1, 2456), (0, 24, 0, 0), (1, 2308, 2, 2520), (4, 2400, 400, 2536)]
theorem lOTsB : (jA (oR kOTsB μ)).length = (jA μ).length + 3 := oR_l _ _
theorem c_iTsB (hl : (jA μ).length = 37) : Ex d 5 0 [some (.ref 2308), none] [] μ Q ↔ Q (.inl none) (oR kOTsB μ) := by
  obtain ⟨ν, hν⟩ : ∃ ν : jM, ν = jsQ (jnew (jsQ (jnew (jsQ (jnew (μ) 32) 2308 0 (some 2400)) 24) 2308 1 (some 2456)) 24) 2308 2 (some 2520) := ⟨_, rfl⟩
  have h1 : Ex d 5 0 [some (.ref 2308), none] [] μ Q ↔ Ex d 5 34 [some (.ref 2308), some (.int (iN 0))] [] ν Q := by
    rw [hν]
    simp only [x5_0, x5_1, x5_4, x5_5, x5_8, x5_11, x5_14, x5_15, x5_18, x5_20, x5_23, x5_24, x5_27, x5_29, x5_32, x5_33a, x5_33b, x5_33c, x5_35, x5_36, x5_39, x5_40, x5_43, x5_44, x5_47, x5_48, x5_51, x5_52a, x5_52b, x5_52c, x5_55, x5_58, mzi, mInc, mne, mlt9, mrk, mI1, mI2, mI3, mI4, mL1, mL2, mL3, mL4, mQ1, mQ2, mQ3, mQ4, mT1, mcat0, mcat1, mcat2, mcat3, mcat4, mrf1, jK_v, jK_n, JA, mz1, if_true, if_false, ite_true, ite_false, eq_self, not_false_eq_true, Nat.zero_le, true_and, and_true, and_self, Nat.reduceMod, Nat.reduceAdd, Nat.reduceLeDiff, Nat.reduceEqDiff, Nat.reduceLT, oR_n, oR_c, oR_a, oS0, oS1, oS2, oS3, oS4, jadr, jl_new, mQ5, mI5, Nat.reduceMul, hl]
  have hq : jQ ν 2308 0 = some 2400 := by
    rw [hν]
    simp only [mQ1, mQ2, jnq, jadr, jl_new, mQ5, mI5, Nat.reduceMul, hl, Nat.reduceEqDiff, Nat.reduceAdd, not_false_eq_true, if_true, if_false, ite_true, ite_false]
  have loop : ∀ k, 0 ≤ k → k < 400 → (Ex d 5 34 [some (.ref 2308), some (.int (iN k))] [] (jfR ν 2400 k 2536) Q ↔ Ex d 5 34 [some (.ref 2308), some (.int (iN (k + 1)))] [] (jfR ν 2400 (k + 1) 2536) Q) := by
    intro k _ hk
    have hlt : iN k < iN 400 := (iN_lt (by omega) (by omega)).mpr hk
    have hkc : (iN k).toNatClampNeg = k := iN_cl (by omega)
    have hkj : jin (iN k) 400 = true := iN_in (by omega) (by omega)
    have hr : jQ (jfR ν 2400 k 2536) 2308 0 = some 2400 := by
      rw [jfR_q (by decide)]
      exact hq
    rw [x5_34]
    simp only [x5_0, x5_1, x5_4, x5_5, x5_8, x5_11, x5_14, x5_15, x5_18, x5_20, x5_23, x5_24, x5_27, x5_29, x5_32, x5_33a, x5_33b, x5_33c, x5_35, x5_36, x5_39, x5_40, x5_43, x5_44, x5_47, x5_48, x5_51, x5_52a, x5_52b, x5_52c, x5_55, x5_58, mzi, mInc, mne, mlt9, mrk, mI1, mI2, mI3, mI4, mL1, mL2, mL3, mL4, mQ1, mQ2, mQ3, mQ4, mT1, mcat0, mcat1, mcat2, mcat3, mcat4, mrf1, jK_v, jK_n, JA, mz1, if_true, if_false, ite_true, ite_false, eq_self, not_false_eq_true, Nat.zero_le, true_and, and_true, and_self, Nat.reduceMod, Nat.reduceAdd, Nat.reduceLeDiff, Nat.reduceEqDiff, Nat.reduceLT, hlt, hkc, hkj, hr, jfR_s, mInc]
  have h0 := jclimb (P := fun k => Ex d 5 34 [some (.ref 2308), some (.int (iN k))] [] (jfR ν 2400 k 2536) Q) loop (Nat.zero_le 400)
  have hr : jQ (jfR ν 2400 400 2536) 2308 0 = some 2400 := by
    rw [jfR_q (by decide)]
    exact hq
  have hge : ¬ iN 400 < iN 400 := iN_irr (by omega)
  have h2 : jfR ν 2400 0 2536 = ν := jfR_0
  have h0' : Ex d 5 34 [some (.ref 2308), some (.int (iN 0))] [] ν Q ↔ Ex d 5 34 [some (.ref 2308), some (.int (iN 400))] [] (jfR ν 2400 400 2536) Q := by
    have h0'' := h0
    simp only [h2] at h0''
    exact h0''
  rw [h1, h0']
  simp only [↓if_neg hge, x5_34, x5_0, x5_1, x5_4, x5_5, x5_8, x5_11, x5_14, x5_15, x5_18, x5_20, x5_23, x5_24, x5_27, x5_29, x5_32, x5_33a, x5_33b, x5_33c, x5_35, x5_36, x5_39, x5_40, x5_43, x5_44, x5_47, x5_48, x5_51, x5_52a, x5_52b, x5_52c, x5_55, x5_58, mzi, mInc, mne, mlt9, mrk, mI1, mI2, mI3, mI4, mL1, mL2, mL3, mL4, mQ1, mQ2, mQ3, mQ4, mT1, mcat0, mcat1, mcat2, mcat3, mcat4, mrf1, jK_v, jK_n, JA, mz1, if_true, if_false, ite_true, ite_false, eq_self, not_false_eq_true, Nat.zero_le, true_and, and_true, and_self, Nat.reduceMod, Nat.reduceAdd, Nat.reduceLeDiff, Nat.reduceEqDiff, Nat.reduceLT, hr, hge]
  rw [hν]
  simp only [kOTsB, oR_n, oR_c, oS0, oS1, oS4]
def kOPlB : List (Nat × Nat × Nat × Nat) := [(0, 20, 0, 0), (1, 1731, 4, 1812), (0, 16, 0, 0), (1, 1731, 5, 1872), (0, 16, 0, 0), (1, 1731, 6, 1936), (0, 16, 0, 0), (1, 1731, 7, 2000), (0, 16, 0, 0), (1, 1731, 8, 2064), (0, 16, 0, 0), (1, 1731, 9, 2128), (0, 16, 0, 0), (1, 1731, 10, 2192), (0, 16, 0, 0), (1, 1731, 11, 2256)] ++ ((0, 4, 0, 0) :: (kOTsB ++ [(1, 1731, 12, 2308)]))
theorem lOPlB : (jA (oR kOPlB μ)).length = (jA μ).length + 12 := oR_l _ _
theorem c_iPlB (hl : (jA μ).length = 28) : Ex (d + 1) 4 0 [some (.ref 1731)] [] μ Q ↔ Q (.inl none) (oR kOPlB μ) := by
  simp only [kOPlB, c_iTsB, lOTsB, x4_0, x4_1, x4_4, x4_5, x4_7, x4_9, x4_12, x4_13, x4_15, x4_17, x4_20, x4_21, x4_23, x4_25, x4_28, x4_29, x4_31, x4_33, x4_36, x4_37, x4_39, x4_41, x4_44, x4_45, x4_47, x4_49, x4_52, x4_53, x4_55, x4_57, x4_60, x4_61, x4_63, x4_65, x4_68, x4_69, x4_72a, x4_72b, x4_73, x4_76, x4_79, mzi, mInc, mne, mlt9, mrk, mI1, mI2, mI3, mI4, mL1, mL2, mL3, mL4, mQ1, mQ2, mQ3, mQ4, mT1, mcat0, mcat1, mcat2, mcat3, mcat4, mrf1, jK_v, jK_n, JA, mz1, if_true, if_false, ite_true, ite_false, eq_self, not_false_eq_true, Nat.zero_le, true_and, and_true, and_self, Nat.reduceMod, Nat.reduceAdd, Nat.reduceLeDiff, Nat.reduceEqDiff, Nat.reduceLT, oR_n, oR_c, oR_a, oS0, oS1, oS2, oS3, oS4, jadr, jl_new, mQ5, mI5, Nat.reduceMul, hl]
def kOExA : List (Nat × Nat × Nat × Nat) := [(2, 2567, 3, 0), (0, 16, 0, 0), (1, 2567, 4, 2640), (0, 16, 0, 0), (1, 2567, 5, 2704), (0, 16, 0, 0), (1, 2567, 6, 2768), (0, 16, 0, 0), (1, 2567, 7, 2832), (0, 16, 0, 0), (1, 2567, 8, 2896), (0, 16, 0, 0), (1, 2567, 9, 2960), (0, 16, 0, 0), (1, 2567, 10, 3024), (0, 16, 0, 0), (1, 2567, 11, 3088), (0, 16, 0, 0), (1, 2567, 12, 3152), (0, 16, 0, 0), (1, 2567, 13, 3216), (0, 16, 0, 0), (1, 2567, 14, 3280), (0, 16, 0, 0), (1, 2567, 15, 3344), (1, 2567, 0, 1731), (0, 8, 0, 0), (1, 3400, 0, 1731), (1, 2567, 1, 3400)]
theorem lOExA : (jA (oR kOExA μ)).length = (jA μ).length + 13 := oR_l _ _
theorem c_iExA (hl : (jA μ).length = 41) : Ex (d + 1) 8 0 [some (.ref 2567), some (.ref 1731)] [] μ Q ↔ Q (.inl none) (oR kOExA μ) := by
  simp only [kOExA, x8_0, x8_1, x8_4, x8_5, x8_6, x8_9, x8_10, x8_12, x8_14, x8_17, x8_18, x8_20, x8_22, x8_25, x8_26, x8_28, x8_30, x8_33, x8_34, x8_36, x8_38, x8_41, x8_42, x8_44, x8_46, x8_49, x8_50, x8_52, x8_54, x8_57, x8_58, x8_60, x8_62, x8_65, x8_66, x8_68, x8_70, x8_73, x8_74, x8_76, x8_78, x8_81, x8_82, x8_84, x8_86, x8_89, x8_90, x8_92, x8_94, x8_97, x8_98, x8_100, x8_102, x8_105, x8_106, x8_107, x8_110, x8_111, x8_114a, x8_114b, x8_115, x8_116, x8_119, x8_122, mzi, mInc, mne, mlt9, mrk, mI1, mI2, mI3, mI4, mL1, mL2, mL3, mL4, mQ1, mQ2, mQ3, mQ4, mT1, mcat0, mcat1, mcat2, mcat3, mcat4, mrf1, jK_v, jK_n, JA, mz1, if_true, if_false, ite_true, ite_false, eq_self, not_false_eq_true, Nat.zero_le, true_and, and_true, and_self, Nat.reduceMod, Nat.reduceAdd, Nat.reduceLeDiff, Nat.reduceEqDiff, Nat.reduceLT, oR_n, oR_c, oR_a, oS0, oS1, oS2, oS3, oS4, jadr, jl_new, mQ5, mI5, Nat.reduceMul, hl, x9_0, x9_1, x9_4, x9_5, x9_6, x9_9]
def kOExB : List (Nat × Nat × Nat × Nat) := [(2, 3463, 3, 0), (0, 16, 0, 0), (1, 3463, 4, 3536), (0, 16, 0, 0), (1, 3463, 5, 3600), (0, 16, 0, 0), (1, 3463, 6, 3664), (0, 16, 0, 0), (1, 3463, 7, 3728), (0, 16, 0, 0), (1, 3463, 8, 3792), (0, 16, 0, 0), (1, 3463, 9, 3856), (0, 16, 0, 0), (1, 3463, 10, 3920), (0, 16, 0, 0), (1, 3463, 11, 3984), (0, 16, 0, 0), (1, 3463, 12, 4048), (0, 16, 0, 0), (1, 3463, 13, 4112), (0, 16, 0, 0), (1, 3463, 14, 4176), (0, 16, 0, 0), (1, 3463, 15, 4240), (1, 3463, 0, 1731), (0, 8, 0, 0), (1, 4296, 0, 1731), (1, 3463, 1, 4296)]
theorem lOExB : (jA (oR kOExB μ)).length = (jA μ).length + 13 := oR_l _ _
theorem c_iExB (hl : (jA μ).length = 55) : Ex (d + 1) 8 0 [some (.ref 3463), some (.ref 1731)] [] μ Q ↔ Q (.inl none) (oR kOExB μ) := by
  simp only [kOExB, x8_0, x8_1, x8_4, x8_5, x8_6, x8_9, x8_10, x8_12, x8_14, x8_17, x8_18, x8_20, x8_22, x8_25, x8_26, x8_28, x8_30, x8_33, x8_34, x8_36, x8_38, x8_41, x8_42, x8_44, x8_46, x8_49, x8_50, x8_52, x8_54, x8_57, x8_58, x8_60, x8_62, x8_65, x8_66, x8_68, x8_70, x8_73, x8_74, x8_76, x8_78, x8_81, x8_82, x8_84, x8_86, x8_89, x8_90, x8_92, x8_94, x8_97, x8_98, x8_100, x8_102, x8_105, x8_106, x8_107, x8_110, x8_111, x8_114a, x8_114b, x8_115, x8_116, x8_119, x8_122, mzi, mInc, mne, mlt9, mrk, mI1, mI2, mI3, mI4, mL1, mL2, mL3, mL4, mQ1, mQ2, mQ3, mQ4, mT1, mcat0, mcat1, mcat2, mcat3, mcat4, mrf1, jK_v, jK_n, JA, mz1, if_true, if_false, ite_true, ite_false, eq_self, not_false_eq_true, Nat.zero_le, true_and, and_true, and_self, Nat.reduceMod, Nat.reduceAdd, Nat.reduceLeDiff, Nat.reduceEqDiff, Nat.reduceLT, oR_n, oR_c, oR_a, oS0, oS1, oS2, oS3, oS4, jadr, jl_new, mQ5, mI5, Nat.reduceMul, hl, x9_0, x9_1, x9_4, x9_5, x9_6, x9_9]
def kOFlo : List (Nat × Nat × Nat × Nat) := [(0, 22, 0, 0), (1, 4361, 1, 4438), (1, 4361, 0, 1731)]
theorem lOFlo : (jA (oR kOFlo μ)).length = (jA μ).length + 1 := oR_l _ _
theorem c_iFlo (hl : (jA μ).length = 69) : Ex (d) 10 0 [some (.ref 4361), some (.ref 1731)] [] μ Q ↔ Q (.inl none) (oR kOFlo μ) := by
  simp only [kOFlo, x10_0, x10_1, x10_4, x10_5, x10_8, x10_10, x10_13, x10_14, x10_15, x10_18, mzi, mInc, mne, mlt9, mrk, mI1, mI2, mI3, mI4, mL1, mL2, mL3, mL4, mQ1, mQ2, mQ3, mQ4, mT1, mcat0, mcat1, mcat2, mcat3, mcat4, mrf1, jK_v, jK_n, JA, mz1, if_true, if_false, ite_true, ite_false, eq_self, not_false_eq_true, Nat.zero_le, true_and, and_true, and_self, Nat.reduceMod, Nat.reduceAdd, Nat.reduceLeDiff, Nat.reduceEqDiff, Nat.reduceLT, oR_n, oR_c, oR_a, oS0, oS1, oS2, oS3, oS4, jadr, jl_new, mQ5, mI5, Nat.reduceMul, hl]
end CTORS
