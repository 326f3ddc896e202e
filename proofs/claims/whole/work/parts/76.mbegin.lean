/-! THE PURE PART: begun, copied, paid (reference). -/
theorem d_copy {d : Nat} {μ : jM} {Q : jO → jM → Prop} {a b n x : Nat} (ha : jty a = 0) (hb : jty b = 0) (ma : jmade a = true) (mb : jmade b = true) (la : jln a μ = n) (lb : jln b μ = n) (hn : n < 2 ^ 31) : Ex d 270 0 [some (.ref x), some (.ref a), some (.ref b)] [] μ Q ↔ Q (.inl none) (jsR μ b (fun j => if j < n then jI μ a j else jI μ b j)) := by
  have h9 : jty a < 9 := by omega
  have h0 : (0 : Int32).toNatClampNeg = 0 := by decide
  have hnn : ¬ iN n < 0 := iN_nn hn
  have hc : (iN n).toNatClampNeg = n := iN_cl hn
  have hcopy : jcopy 6 [some (.ref x), some (.ref a), some (.ref b)] [.int (iN n), .int 0, .ref b, .int 0, .ref a] μ = jN 9 [some (.ref x), some (.ref a), some (.ref b)] [] (jsR μ b (va_cpy (jI μ a) (jI μ b) (0 : Int32).toNatClampNeg (0 : Int32).toNatClampNeg (iN n).toNatClampNeg)) := by
    unfold jcopy
    simp only [ma, mb, ha, hb, la, lb, hc, h0, Nat.beq_refl, Nat.zero_add, Nat.ble_self_eq_true, decide_eq_false hnn, decide_eq_false (show ¬ (0 : Int32) < 0 by decide), Bool.not_false, Bool.true_and, jcat, List.map_nil, List.sum_nil, cond]
  simp only [x270_0, x270_1, x270_2, x270_3, x270_4, x270_5, x270_6, x270_9, mzi, mInc, mne, mlt9, mrk, mI1, mI2, mI3, mI4, mL1, mL2, mL3, mL4, mQ1, mQ2, mQ3, mQ4, mT1, mcat0, mcat1, mcat2, mcat3, mcat4, mrf1, jK_v, jK_n, JA, mz1, if_true, if_false, ite_true, ite_false, eq_self, not_false_eq_true, Nat.zero_le, true_and, and_true, and_self, Nat.reduceMod, Nat.reduceAdd, Nat.reduceLeDiff, Nat.reduceEqDiff, Nat.reduceLT, la, lb, ha, hb, h9, hcopy, hc, h0, jcpy]
section C26
variable {d : Nat} {μ : jM} {Q : jO → jM → Prop} {n : Nat}
def kBecome (μ : jM) : jM := jsR (jsR (jsR (jsR (jsR (jsR (jsR (jsR (jsR (jsR (jsR (jsR (jsI (jsI (jsI μ 6732 0 (jI μ 5836 0)) 6732 1 (jI μ 5836 1)) 6732 7 (jI μ 5836 7)) 6800 (fun j => if j < 10 then jI μ 5904 j else jI μ 6800 j)) 6864 (fun j => if j < 10 then jI μ 5968 j else jI μ 6864 j)) 6928 (fun j => if j < 10 then jI μ 6032 j else jI μ 6928 j)) 6992 (fun j => if j < 10 then jI μ 6096 j else jI μ 6992 j)) 7056 (fun j => if j < 10 then jI μ 6160 j else jI μ 7056 j)) 7120 (fun j => if j < 10 then jI μ 6224 j else jI μ 7120 j)) 7184 (fun j => if j < 10 then jI μ 6288 j else jI μ 7184 j)) 7248 (fun j => if j < 10 then jI μ 6352 j else jI μ 7248 j)) 7312 (fun j => if j < 10 then jI μ 6416 j else jI μ 7312 j)) 7376 (fun j => if j < 10 then jI μ 6480 j else jI μ 7376 j)) 7440 (fun j => if j < 10 then jI μ 6544 j else jI μ 7440 j)) 7504 (fun j => if j < 10 then jI μ 6608 j else jI μ 7504 j)
theorem d_become (hW : jWd μ) : Ex (d + 1) 269 0 [some (.ref 6732), some (.ref 5836)] [] μ Q ↔ Q (.inl none) (kBecome μ) := by
  have hw := hW
  unfold jWd at hw
  unfold kBecome
  simp only [x269_0, x269_1, x269_2, x269_5, x269_8, x269_9, x269_10, x269_13, x269_16, x269_17, x269_18, x269_21, x269_24, x269_25, x269_26, x269_29, x269_30, x269_33, x269_36, x269_37, x269_38, x269_41, x269_42, x269_45, x269_48, x269_49, x269_50, x269_53, x269_54, x269_57, x269_60, x269_61, x269_62, x269_65, x269_66, x269_69, x269_72, x269_73, x269_74, x269_77, x269_78, x269_81, x269_84, x269_85, x269_86, x269_89, x269_90, x269_93, x269_96, x269_97, x269_98, x269_101, x269_102, x269_105, x269_108, x269_109, x269_110, x269_113, x269_114, x269_117, x269_120, x269_121, x269_122, x269_125, x269_126, x269_129, x269_132, x269_133, x269_134, x269_137, x269_138, x269_141, x269_144, x269_145, x269_146, x269_149, x269_150, x269_153, x269_156, x269_157, x269_158, x269_161, x269_162, x269_165, x269_168, mzi, mInc, mne, mlt9, mrk, mI1, mI2, mI3, mI4, mL1, mL2, mL3, mL4, mQ1, mQ2, mQ3, mQ4, mT1, mcat0, mcat1, mcat2, mcat3, mcat4, mrf1, jK_v, jK_n, JA, mz1, if_true, if_false, ite_true, ite_false, eq_self, not_false_eq_true, Nat.zero_le, true_and, and_true, and_self, Nat.reduceMod, Nat.reduceAdd, Nat.reduceLeDiff, Nat.reduceEqDiff, Nat.reduceLT, hw, mR2, mR3, d_copy (a := 5904) (b := 6800) (n := 10) rfl rfl rfl rfl rfl rfl (by decide), d_copy (a := 5968) (b := 6864) (n := 10) rfl rfl rfl rfl rfl rfl (by decide), d_copy (a := 6032) (b := 6928) (n := 10) rfl rfl rfl rfl rfl rfl (by decide), d_copy (a := 6096) (b := 6992) (n := 10) rfl rfl rfl rfl rfl rfl (by decide), d_copy (a := 6160) (b := 7056) (n := 10) rfl rfl rfl rfl rfl rfl (by decide), d_copy (a := 6224) (b := 7120) (n := 10) rfl rfl rfl rfl rfl rfl (by decide), d_copy (a := 6288) (b := 7184) (n := 10) rfl rfl rfl rfl rfl rfl (by decide), d_copy (a := 6352) (b := 7248) (n := 10) rfl rfl rfl rfl rfl rfl (by decide), d_copy (a := 6416) (b := 7312) (n := 10) rfl rfl rfl rfl rfl rfl (by decide), d_copy (a := 6480) (b := 7376) (n := 10) rfl rfl rfl rfl rfl rfl (by decide), d_copy (a := 6544) (b := 7440) (n := 10) rfl rfl rfl rfl rfl rfl (by decide), d_copy (a := 6608) (b := 7504) (n := 10) rfl rfl rfl rfl rfl rfl (by decide)]
def kBegMs (μ : jM) (k : Nat) : jM := jsR (jsR (jsR (jsR (jsR (jsR (jsI μ 5836 7 0) 5904 (fun j => if j < k then 0 else jI μ 5904 j)) 6032 (fun j => if j < k then 0 else jI μ 6032 j)) 5968 (fun j => if j < k then 0 else jI μ 5968 j)) 6096 (fun j => if j < k then 0 else jI μ 6096 j)) 6224 (fun j => if j < k then -1 else jI μ 6224 j)) 6288 (fun j => if j < k then 0 else jI μ 6288 j)
theorem d_begs (hW : jWd μ) : Ex d 14 0 [some (.ref 5836), none] [] μ Q ↔ Q (.inl none) (kBegMs μ 10) := by
  have hw := hW
  unfold jWd at hw
  have loop : ∀ k, 0 ≤ k → k < 10 → (Ex d 14 7 [some (.ref 5836), some (.int (iN k))] [] (kBegMs μ k) Q ↔ Ex d 14 7 [some (.ref 5836), some (.int (iN (k + 1)))] [] (kBegMs μ (k + 1)) Q) := by
    intro k _ hk
    have hlt : iN k < (10 : Int32) := (iN_lt (b := 10) (by omega) (by decide)).mpr hk
    have kc : (iN k).toNatClampNeg = k := iN_cl (by omega)
    have kj : jin (iN k) 10 = true := iN_in (by omega) (by omega)
    have hQ : jQ (kBegMs μ k) = jQ μ := by
      unfold kBegMs
      simp only [mR3, mI4]
    rw [x14_7]
    simp only [x14_0, x14_1, x14_2, x14_5, x14_6a, x14_6b, x14_6c, x14_8, x14_10, x14_13, x14_14, x14_17, x14_18, x14_19, x14_20, x14_21, x14_24, x14_25, x14_26, x14_27, x14_28, x14_31, x14_32, x14_33, x14_34, x14_35, x14_38, x14_39, x14_40, x14_41, x14_42, x14_45, x14_46, x14_47, x14_48, x14_49, x14_52, x14_53, x14_54, x14_55a, x14_55b, x14_55c, x14_58, x14_61, mzi, mInc, mne, mlt9, mrk, mI1, mI2, mI3, mI4, mL1, mL2, mL3, mL4, mQ1, mQ2, mQ3, mQ4, mT1, mcat0, mcat1, mcat2, mcat3, mcat4, mrf1, jK_v, jK_n, JA, mz1, if_true, if_false, ite_true, ite_false, eq_self, not_false_eq_true, Nat.zero_le, true_and, and_true, and_self, Nat.reduceMod, Nat.reduceAdd, Nat.reduceLeDiff, Nat.reduceEqDiff, Nat.reduceLT, hw, hlt, kc, kj, hQ]
    unfold kBegMs
    simp only [mRI, mRIc, Nat.reduceEqDiff, not_false_eq_true, jrowfn]
  have h0 := jclimb (P := fun k => Ex d 14 7 [some (.ref 5836), some (.int (iN k))] [] (kBegMs μ k) Q) loop (Nat.zero_le 10)
  have hz : kBegMs μ 0 = jsI μ 5836 7 0 := by
    unfold kBegMs
    simp only [Nat.not_lt_zero, if_false]
    repeat rw [jsR_id (by simp only [mR2, mI2, Nat.reduceEqDiff, not_false_eq_true])]
  have h1 : Ex d 14 0 [some (.ref 5836), none] [] μ Q ↔ Ex d 14 7 [some (.ref 5836), some (.int (iN 0))] [] (kBegMs μ 0) Q := by
    rw [hz]
    simp only [x14_0, x14_1, x14_2, x14_5, x14_6a, x14_6b, x14_6c, x14_8, x14_10, x14_13, x14_14, x14_17, x14_18, x14_19, x14_20, x14_21, x14_24, x14_25, x14_26, x14_27, x14_28, x14_31, x14_32, x14_33, x14_34, x14_35, x14_38, x14_39, x14_40, x14_41, x14_42, x14_45, x14_46, x14_47, x14_48, x14_49, x14_52, x14_53, x14_54, x14_55a, x14_55b, x14_55c, x14_58, x14_61, mzi, mInc, mne, mlt9, mrk, mI1, mI2, mI3, mI4, mL1, mL2, mL3, mL4, mQ1, mQ2, mQ3, mQ4, mT1, mcat0, mcat1, mcat2, mcat3, mcat4, mrf1, jK_v, jK_n, JA, mz1, if_true, if_false, ite_true, ite_false, eq_self, not_false_eq_true, Nat.zero_le, true_and, and_true, and_self, Nat.reduceMod, Nat.reduceAdd, Nat.reduceLeDiff, Nat.reduceEqDiff, Nat.reduceLT, hw]
  have hge : ¬ iN 10 < (10 : Int32) := by decide
  rw [h1, h0]
  simp only [x14_7, x14_0, x14_1, x14_2, x14_5, x14_6a, x14_6b, x14_6c, x14_8, x14_10, x14_13, x14_14, x14_17, x14_18, x14_19, x14_20, x14_21, x14_24, x14_25, x14_26, x14_27, x14_28, x14_31, x14_32, x14_33, x14_34, x14_35, x14_38, x14_39, x14_40, x14_41, x14_42, x14_45, x14_46, x14_47, x14_48, x14_49, x14_52, x14_53, x14_54, x14_55a, x14_55b, x14_55c, x14_58, x14_61, mzi, mInc, mne, mlt9, mrk, mI1, mI2, mI3, mI4, mL1, mL2, mL3, mL4, mQ1, mQ2, mQ3, mQ4, mT1, mcat0, mcat1, mcat2, mcat3, mcat4, mrf1, jK_v, jK_n, JA, mz1, if_true, if_false, ite_true, ite_false, eq_self, not_false_eq_true, Nat.zero_le, true_and, and_true, and_self, Nat.reduceMod, Nat.reduceAdd, Nat.reduceLeDiff, Nat.reduceEqDiff, Nat.reduceLT, hge]
theorem d_paids (hW : jWd μ) : Ex d 147 0 [some (.ref 5836), none, none, none, none, none] [] μ Q ↔ Q (.inl (some (.int (rsum (fun k => jI μ 6096 k) 10)))) μ := by
  have hw := hW
  unfold jWd at hw
  have step : ∀ (k : Nat) (a : Int32) (b : Option Value), k < 10 → ∃ b', (Ex d 147 13 [some (.ref 5836), some (.int a), some (.ref 6096), some (.int (iN 10)), some (.int (iN k)), b] [] μ Q ↔ Ex d 147 13 [some (.ref 5836), some (.int (a + jI μ 6096 k)), some (.ref 6096), some (.int (iN 10)), some (.int (iN (k + 1))), b'] [] μ Q) := by
    intro k a b hk
    refine ⟨some (.int (jI μ 6096 k)), ?_⟩
    have hlt : iN k < iN 10 := (iN_lt (by omega) (by omega)).mpr hk
    have kc : (iN k).toNatClampNeg = k := iN_cl (by omega)
    have kj : jin (iN k) 10 = true := iN_in (by omega) (by omega)
    rw [x147_13]
    simp only [x147_0, x147_1a, x147_1b, x147_1c, x147_2, x147_3, x147_6a, x147_6b, x147_6c, x147_7, x147_8, x147_9a, x147_9b, x147_9c, x147_10, x147_11a, x147_11b, x147_11c, x147_15, x147_16, x147_19, x147_20, x147_22, x147_23a, x147_23b, x147_23c, x147_25, x147_26, x147_28, x147_29a, x147_29b, x147_29c, x147_30a, x147_30b, x147_30c, x147_33, x147_36, x147_37, mzi, mInc, mne, mlt9, mrk, mI1, mI2, mI3, mI4, mL1, mL2, mL3, mL4, mQ1, mQ2, mQ3, mQ4, mT1, mcat0, mcat1, mcat2, mcat3, mcat4, mrf1, jK_v, jK_n, JA, mz1, if_true, if_false, ite_true, ite_false, eq_self, not_false_eq_true, Nat.zero_le, true_and, and_true, and_self, Nat.reduceMod, Nat.reduceAdd, Nat.reduceLeDiff, Nat.reduceEqDiff, Nat.reduceLT, hw, hlt, kc, kj]
  obtain ⟨b', hb⟩ := jfold_loopG (P := fun k a b => Ex d 147 13 [some (.ref 5836), some (.int a), some (.ref 6096), some (.int (iN 10)), some (.int (iN k)), b] [] μ Q) (f := fun k a => a + jI μ 6096 k) step 10 0 0 none rfl
  have h1 : Ex d 147 0 [some (.ref 5836), none, none, none, none, none] [] μ Q ↔ Ex d 147 13 [some (.ref 5836), some (.int 0), some (.ref 6096), some (.int (iN 10)), some (.int (iN 0)), none] [] μ Q := by
    simp only [x147_0, x147_1a, x147_1b, x147_1c, x147_2, x147_3, x147_6a, x147_6b, x147_6c, x147_7, x147_8, x147_9a, x147_9b, x147_9c, x147_10, x147_11a, x147_11b, x147_11c, x147_15, x147_16, x147_19, x147_20, x147_22, x147_23a, x147_23b, x147_23c, x147_25, x147_26, x147_28, x147_29a, x147_29b, x147_29c, x147_30a, x147_30b, x147_30c, x147_33, x147_36, x147_37, mzi, mInc, mne, mlt9, mrk, mI1, mI2, mI3, mI4, mL1, mL2, mL3, mL4, mQ1, mQ2, mQ3, mQ4, mT1, mcat0, mcat1, mcat2, mcat3, mcat4, mrf1, jK_v, jK_n, JA, mz1, if_true, if_false, ite_true, ite_false, eq_self, not_false_eq_true, Nat.zero_le, true_and, and_true, and_self, Nat.reduceMod, Nat.reduceAdd, Nat.reduceLeDiff, Nat.reduceEqDiff, Nat.reduceLT, hw]
  have hge : ¬ iN 10 < iN 10 := iN_irr (by omega)
  rw [h1, hb]
  simp only [↓if_neg hge, x147_13, x147_0, x147_1a, x147_1b, x147_1c, x147_2, x147_3, x147_6a, x147_6b, x147_6c, x147_7, x147_8, x147_9a, x147_9b, x147_9c, x147_10, x147_11a, x147_11b, x147_11c, x147_15, x147_16, x147_19, x147_20, x147_22, x147_23a, x147_23b, x147_23c, x147_25, x147_26, x147_28, x147_29a, x147_29b, x147_29c, x147_30a, x147_30b, x147_30c, x147_33, x147_36, x147_37, mzi, mInc, mne, mlt9, mrk, mI1, mI2, mI3, mI4, mL1, mL2, mL3, mL4, mQ1, mQ2, mQ3, mQ4, mT1, mcat0, mcat1, mcat2, mcat3, mcat4, mrf1, jK_v, jK_n, JA, mz1, if_true, if_false, ite_true, ite_false, eq_self, not_false_eq_true, Nat.zero_le, true_and, and_true, and_self, Nat.reduceMod, Nat.reduceAdd, Nat.reduceLeDiff, Nat.reduceEqDiff, Nat.reduceLT, hge]
  rfl
def kBegMh (μ : jM) (k : Nat) : jM := jsR (jsR (jsR (jsR (jsR (jsR (jsI μ 6732 7 0) 6800 (fun j => if j < k then 0 else jI μ 6800 j)) 6928 (fun j => if j < k then 0 else jI μ 6928 j)) 6864 (fun j => if j < k then 0 else jI μ 6864 j)) 6992 (fun j => if j < k then 0 else jI μ 6992 j)) 7120 (fun j => if j < k then -1 else jI μ 7120 j)) 7184 (fun j => if j < k then 0 else jI μ 7184 j)
theorem d_begh (hW : jWd μ) : Ex d 14 0 [some (.ref 6732), none] [] μ Q ↔ Q (.inl none) (kBegMh μ 10) := by
  have hw := hW
  unfold jWd at hw
  have loop : ∀ k, 0 ≤ k → k < 10 → (Ex d 14 7 [some (.ref 6732), some (.int (iN k))] [] (kBegMh μ k) Q ↔ Ex d 14 7 [some (.ref 6732), some (.int (iN (k + 1)))] [] (kBegMh μ (k + 1)) Q) := by
    intro k _ hk
    have hlt : iN k < (10 : Int32) := (iN_lt (b := 10) (by omega) (by decide)).mpr hk
    have kc : (iN k).toNatClampNeg = k := iN_cl (by omega)
    have kj : jin (iN k) 10 = true := iN_in (by omega) (by omega)
    have hQ : jQ (kBegMh μ k) = jQ μ := by
      unfold kBegMh
      simp only [mR3, mI4]
    rw [x14_7]
    simp only [x14_0, x14_1, x14_2, x14_5, x14_6a, x14_6b, x14_6c, x14_8, x14_10, x14_13, x14_14, x14_17, x14_18, x14_19, x14_20, x14_21, x14_24, x14_25, x14_26, x14_27, x14_28, x14_31, x14_32, x14_33, x14_34, x14_35, x14_38, x14_39, x14_40, x14_41, x14_42, x14_45, x14_46, x14_47, x14_48, x14_49, x14_52, x14_53, x14_54, x14_55a, x14_55b, x14_55c, x14_58, x14_61, mzi, mInc, mne, mlt9, mrk, mI1, mI2, mI3, mI4, mL1, mL2, mL3, mL4, mQ1, mQ2, mQ3, mQ4, mT1, mcat0, mcat1, mcat2, mcat3, mcat4, mrf1, jK_v, jK_n, JA, mz1, if_true, if_false, ite_true, ite_false, eq_self, not_false_eq_true, Nat.zero_le, true_and, and_true, and_self, Nat.reduceMod, Nat.reduceAdd, Nat.reduceLeDiff, Nat.reduceEqDiff, Nat.reduceLT, hw, hlt, kc, kj, hQ]
    unfold kBegMh
    simp only [mRI, mRIc, Nat.reduceEqDiff, not_false_eq_true, jrowfn]
  have h0 := jclimb (P := fun k => Ex d 14 7 [some (.ref 6732), some (.int (iN k))] [] (kBegMh μ k) Q) loop (Nat.zero_le 10)
  have hz : kBegMh μ 0 = jsI μ 6732 7 0 := by
    unfold kBegMh
    simp only [Nat.not_lt_zero, if_false]
    repeat rw [jsR_id (by simp only [mR2, mI2, Nat.reduceEqDiff, not_false_eq_true])]
  have h1 : Ex d 14 0 [some (.ref 6732), none] [] μ Q ↔ Ex d 14 7 [some (.ref 6732), some (.int (iN 0))] [] (kBegMh μ 0) Q := by
    rw [hz]
    simp only [x14_0, x14_1, x14_2, x14_5, x14_6a, x14_6b, x14_6c, x14_8, x14_10, x14_13, x14_14, x14_17, x14_18, x14_19, x14_20, x14_21, x14_24, x14_25, x14_26, x14_27, x14_28, x14_31, x14_32, x14_33, x14_34, x14_35, x14_38, x14_39, x14_40, x14_41, x14_42, x14_45, x14_46, x14_47, x14_48, x14_49, x14_52, x14_53, x14_54, x14_55a, x14_55b, x14_55c, x14_58, x14_61, mzi, mInc, mne, mlt9, mrk, mI1, mI2, mI3, mI4, mL1, mL2, mL3, mL4, mQ1, mQ2, mQ3, mQ4, mT1, mcat0, mcat1, mcat2, mcat3, mcat4, mrf1, jK_v, jK_n, JA, mz1, if_true, if_false, ite_true, ite_false, eq_self, not_false_eq_true, Nat.zero_le, true_and, and_true, and_self, Nat.reduceMod, Nat.reduceAdd, Nat.reduceLeDiff, Nat.reduceEqDiff, Nat.reduceLT, hw]
  have hge : ¬ iN 10 < (10 : Int32) := by decide
  rw [h1, h0]
  simp only [x14_7, x14_0, x14_1, x14_2, x14_5, x14_6a, x14_6b, x14_6c, x14_8, x14_10, x14_13, x14_14, x14_17, x14_18, x14_19, x14_20, x14_21, x14_24, x14_25, x14_26, x14_27, x14_28, x14_31, x14_32, x14_33, x14_34, x14_35, x14_38, x14_39, x14_40, x14_41, x14_42, x14_45, x14_46, x14_47, x14_48, x14_49, x14_52, x14_53, x14_54, x14_55a, x14_55b, x14_55c, x14_58, x14_61, mzi, mInc, mne, mlt9, mrk, mI1, mI2, mI3, mI4, mL1, mL2, mL3, mL4, mQ1, mQ2, mQ3, mQ4, mT1, mcat0, mcat1, mcat2, mcat3, mcat4, mrf1, jK_v, jK_n, JA, mz1, if_true, if_false, ite_true, ite_false, eq_self, not_false_eq_true, Nat.zero_le, true_and, and_true, and_self, Nat.reduceMod, Nat.reduceAdd, Nat.reduceLeDiff, Nat.reduceEqDiff, Nat.reduceLT, hge]
theorem d_paidh (hW : jWd μ) : Ex d 147 0 [some (.ref 6732), none, none, none, none, none] [] μ Q ↔ Q (.inl (some (.int (rsum (fun k => jI μ 6992 k) 10)))) μ := by
  have hw := hW
  unfold jWd at hw
  have step : ∀ (k : Nat) (a : Int32) (b : Option Value), k < 10 → ∃ b', (Ex d 147 13 [some (.ref 6732), some (.int a), some (.ref 6992), some (.int (iN 10)), some (.int (iN k)), b] [] μ Q ↔ Ex d 147 13 [some (.ref 6732), some (.int (a + jI μ 6992 k)), some (.ref 6992), some (.int (iN 10)), some (.int (iN (k + 1))), b'] [] μ Q) := by
    intro k a b hk
    refine ⟨some (.int (jI μ 6992 k)), ?_⟩
    have hlt : iN k < iN 10 := (iN_lt (by omega) (by omega)).mpr hk
    have kc : (iN k).toNatClampNeg = k := iN_cl (by omega)
    have kj : jin (iN k) 10 = true := iN_in (by omega) (by omega)
    rw [x147_13]
    simp only [x147_0, x147_1a, x147_1b, x147_1c, x147_2, x147_3, x147_6a, x147_6b, x147_6c, x147_7, x147_8, x147_9a, x147_9b, x147_9c, x147_10, x147_11a, x147_11b, x147_11c, x147_15, x147_16, x147_19, x147_20, x147_22, x147_23a, x147_23b, x147_23c, x147_25, x147_26, x147_28, x147_29a, x147_29b, x147_29c, x147_30a, x147_30b, x147_30c, x147_33, x147_36, x147_37, mzi, mInc, mne, mlt9, mrk, mI1, mI2, mI3, mI4, mL1, mL2, mL3, mL4, mQ1, mQ2, mQ3, mQ4, mT1, mcat0, mcat1, mcat2, mcat3, mcat4, mrf1, jK_v, jK_n, JA, mz1, if_true, if_false, ite_true, ite_false, eq_self, not_false_eq_true, Nat.zero_le, true_and, and_true, and_self, Nat.reduceMod, Nat.reduceAdd, Nat.reduceLeDiff, Nat.reduceEqDiff, Nat.reduceLT, hw, hlt, kc, kj]
  obtain ⟨b', hb⟩ := jfold_loopG (P := fun k a b => Ex d 147 13 [some (.ref 6732), some (.int a), some (.ref 6992), some (.int (iN 10)), some (.int (iN k)), b] [] μ Q) (f := fun k a => a + jI μ 6992 k) step 10 0 0 none rfl
  have h1 : Ex d 147 0 [some (.ref 6732), none, none, none, none, none] [] μ Q ↔ Ex d 147 13 [some (.ref 6732), some (.int 0), some (.ref 6992), some (.int (iN 10)), some (.int (iN 0)), none] [] μ Q := by
    simp only [x147_0, x147_1a, x147_1b, x147_1c, x147_2, x147_3, x147_6a, x147_6b, x147_6c, x147_7, x147_8, x147_9a, x147_9b, x147_9c, x147_10, x147_11a, x147_11b, x147_11c, x147_15, x147_16, x147_19, x147_20, x147_22, x147_23a, x147_23b, x147_23c, x147_25, x147_26, x147_28, x147_29a, x147_29b, x147_29c, x147_30a, x147_30b, x147_30c, x147_33, x147_36, x147_37, mzi, mInc, mne, mlt9, mrk, mI1, mI2, mI3, mI4, mL1, mL2, mL3, mL4, mQ1, mQ2, mQ3, mQ4, mT1, mcat0, mcat1, mcat2, mcat3, mcat4, mrf1, jK_v, jK_n, JA, mz1, if_true, if_false, ite_true, ite_false, eq_self, not_false_eq_true, Nat.zero_le, true_and, and_true, and_self, Nat.reduceMod, Nat.reduceAdd, Nat.reduceLeDiff, Nat.reduceEqDiff, Nat.reduceLT, hw]
  have hge : ¬ iN 10 < iN 10 := iN_irr (by omega)
  rw [h1, hb]
  simp only [↓if_neg hge, x147_13, x147_0, x147_1a, x147_1b, x147_1c, x147_2, x147_3, x147_6a, x147_6b, x147_6c, x147_7, x147_8, x147_9a, x147_9b, x147_9c, x147_10, x147_11a, x147_11b, x147_11c, x147_15, x147_16, x147_19, x147_20, x147_22, x147_23a, x147_23b, x147_23c, x147_25, x147_26, x147_28, x147_29a, x147_29b, x147_29c, x147_30a, x147_30b, x147_30c, x147_33, x147_36, x147_37, mzi, mInc, mne, mlt9, mrk, mI1, mI2, mI3, mI4, mL1, mL2, mL3, mL4, mQ1, mQ2, mQ3, mQ4, mT1, mcat0, mcat1, mcat2, mcat3, mcat4, mrf1, jK_v, jK_n, JA, mz1, if_true, if_false, ite_true, ite_false, eq_self, not_false_eq_true, Nat.zero_le, true_and, and_true, and_self, Nat.reduceMod, Nat.reduceAdd, Nat.reduceLeDiff, Nat.reduceEqDiff, Nat.reduceLT, hge]
  rfl
end C26
