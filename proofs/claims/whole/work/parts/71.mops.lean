/-! THE PURE PART: by hand (reference). -/
theorem mne5 : ¬ (5 : Int32) = 2 := by decide
section C21
variable {d : Nat} {μ : jM} {Q : jO → jM → Prop} {n w : Nat}
def kLvMs (μ : jM) (w q : Nat) : jM := jsR (jsI μ 5836 7 (iN (w - 1))) 6160 (fun j => if q ≤ j ∧ j < w - 1 then jI μ 6160 (j + 1) else jI μ 6160 j)
theorem d_leaves {q : Nat} (hW : jWd μ) (hw1 : jI μ 5836 7 = iN w) (hw2 : w ≤ 10) (hq : q < w) : Ex d 175 0 [some (.ref 5836), some (.int (iN q)), none] [] μ Q ↔ Q (.inl none) (kLvMs μ w q) := by
  have hw := hW
  unfold jWd at hw
  unfold kLvMs
  have loop : ∀ k, q ≤ k → k < w - 1 → (Ex d 175 12 [some (.ref 5836), some (.int (iN q)), some (.int (iN k))] [] (jsR (jsI μ 5836 7 (iN (w - 1))) 6160 (fun j => if q ≤ j ∧ j < k then jI μ 6160 (j + 1) else jI μ 6160 j)) Q ↔ Ex d 175 12 [some (.ref 5836), some (.int (iN q)), some (.int (iN (k + 1)))] [] (jsR (jsI μ 5836 7 (iN (w - 1))) 6160 (fun j => if q ≤ j ∧ j < k + 1 then jI μ 6160 (j + 1) else jI μ 6160 j)) Q) := by
    intro k hlo hk
    have hlt : iN k < iN (w - 1) := (iN_lt (by omega) (by omega)).mpr hk
    have hkc : (iN k).toNatClampNeg = k := iN_cl (by omega)
    have hkj : jin (iN k) 10 = true := iN_in (by omega) (by omega)
    have hkc1 : (iN (k + 1)).toNatClampNeg = k + 1 := iN_cl (by omega)
    have hkj1 : jin (iN (k + 1)) 10 = true := iN_in (by omega) (by omega)
    have hf : ¬ (q ≤ k + 1 ∧ k + 1 < k) := by omega
    rw [x175_12]
    simp only [x175_0, x175_1a, x175_1b, x175_2, x175_5, x175_6, x175_7, x175_10, x175_11a, x175_11b, x175_11c, x175_13, x175_14, x175_17, x175_20, x175_21, x175_24, x175_25, x175_26, x175_29, x175_30, x175_31, x175_32, x175_33, x175_34a, x175_34b, x175_34c, x175_37, x175_40, mzi, mInc, mne, mlt9, mrk, mI1, mI2, mI3, mI4, mL1, mL2, mL3, mL4, mQ1, mQ2, mQ3, mQ4, mT1, mcat0, mcat1, mcat2, mcat3, mcat4, mrf1, jK_v, jK_n, JA, mz1, if_true, if_false, ite_true, ite_false, eq_self, not_false_eq_true, Nat.zero_le, true_and, and_true, and_self, Nat.reduceMod, Nat.reduceAdd, Nat.reduceLeDiff, Nat.reduceEqDiff, Nat.reduceLT, hw, hlt, hkc, hkj, hkc1, hkj1, mR1, mR2, mR3, mRI, hf]
    have he : (fun j => if j = k then jI μ 6160 (k + 1) else if q ≤ j ∧ j < k then jI μ 6160 (j + 1) else jI μ 6160 j) = (fun j => if q ≤ j ∧ j < k + 1 then jI μ 6160 (j + 1) else jI μ 6160 j) := by
      funext j
      by_cases e : j = k
      · rw [if_pos e, if_pos (by omega), e]
      · by_cases e2 : q ≤ j ∧ j < k
        · rw [if_neg e, if_pos e2, if_pos (by omega)]
        · rw [if_neg e, if_neg e2, if_neg (by omega)]
    rw [he]
  have h0 := jclimb (P := fun k => Ex d 175 12 [some (.ref 5836), some (.int (iN q)), some (.int (iN k))] [] (jsR (jsI μ 5836 7 (iN (w - 1))) 6160 (fun j => if q ≤ j ∧ j < k then jI μ 6160 (j + 1) else jI μ 6160 j)) Q) loop (by omega)
  have hge : ¬ iN (w - 1) < iN (w - 1) := iN_irr (by omega)
  have hm : iN w - 1 = iN (w - 1) := iN_pred (by omega)
  have h2 : jsR (jsI μ 5836 7 (iN (w - 1))) 6160 (fun j => if q ≤ j ∧ j < q then jI μ 6160 (j + 1) else jI μ 6160 j) = jsI μ 5836 7 (iN (w - 1)) := by
    refine jsR_id ?_
    funext j
    rw [if_neg (by omega), mI2 (by omega)]
  have h1 : Ex d 175 0 [some (.ref 5836), some (.int (iN q)), none] [] μ Q ↔ Ex d 175 12 [some (.ref 5836), some (.int (iN q)), some (.int (iN q))] [] (jsI μ 5836 7 (iN (w - 1))) Q := by
    simp only [x175_0, x175_1a, x175_1b, x175_2, x175_5, x175_6, x175_7, x175_10, x175_11a, x175_11b, x175_11c, x175_13, x175_14, x175_17, x175_20, x175_21, x175_24, x175_25, x175_26, x175_29, x175_30, x175_31, x175_32, x175_33, x175_34a, x175_34b, x175_34c, x175_37, x175_40, mzi, mInc, mne, mlt9, mrk, mI1, mI2, mI3, mI4, mL1, mL2, mL3, mL4, mQ1, mQ2, mQ3, mQ4, mT1, mcat0, mcat1, mcat2, mcat3, mcat4, mrf1, jK_v, jK_n, JA, mz1, if_true, if_false, ite_true, ite_false, eq_self, not_false_eq_true, Nat.zero_le, true_and, and_true, and_self, Nat.reduceMod, Nat.reduceAdd, Nat.reduceLeDiff, Nat.reduceEqDiff, Nat.reduceLT, hw, hw1, hm]
  have h3 : Ex d 175 12 [some (.ref 5836), some (.int (iN q)), some (.int (iN q))] [] (jsI μ 5836 7 (iN (w - 1))) Q ↔ Ex d 175 12 [some (.ref 5836), some (.int (iN q)), some (.int (iN q))] [] (jsR (jsI μ 5836 7 (iN (w - 1))) 6160 (fun j => if q ≤ j ∧ j < q then jI μ 6160 (j + 1) else jI μ 6160 j)) Q := by rw [h2]
  rw [h1, h3, h0]
  simp only [↓if_neg hge, x175_12, x175_0, x175_1a, x175_1b, x175_2, x175_5, x175_6, x175_7, x175_10, x175_11a, x175_11b, x175_11c, x175_13, x175_14, x175_17, x175_20, x175_21, x175_24, x175_25, x175_26, x175_29, x175_30, x175_31, x175_32, x175_33, x175_34a, x175_34b, x175_34c, x175_37, x175_40, mzi, mInc, mne, mlt9, mrk, mI1, mI2, mI3, mI4, mL1, mL2, mL3, mL4, mQ1, mQ2, mQ3, mQ4, mT1, mcat0, mcat1, mcat2, mcat3, mcat4, mrf1, jK_v, jK_n, JA, mz1, if_true, if_false, ite_true, ite_false, eq_self, not_false_eq_true, Nat.zero_le, true_and, and_true, and_self, Nat.reduceMod, Nat.reduceAdd, Nat.reduceLeDiff, Nat.reduceEqDiff, Nat.reduceLT, hw, hge, mR1, mR2, mR3]
theorem d_lift0s {l : Nat} (hW : jWd μ) (hl : l < 10) (h0 : jI μ 5904 l = 0) : Ex d 157 0 [some (.ref 5836), some (.int (iN l))] [] μ Q ↔ Q (.inl (some (.int 1))) (jsI (jsI (jsI μ 6032 l 0) 5968 l 0) 5904 l 1) := by
  have hw := hW
  unfold jWd at hw
  have lc : (iN l).toNatClampNeg = l := iN_cl (by omega)
  have lj : jin (iN l) 10 = true := iN_in (by omega) (by omega)
  simp only [x157_0, x157_1, x157_4, x157_5, x157_6, x157_9, x157_10, x157_13, x157_14, x157_15, x157_16, x157_17, x157_20, x157_21, x157_22, x157_23, x157_24, x157_27, x157_28, x157_29, x157_30, x157_31, x157_32, x157_33, x157_36, x157_37, x157_38, x157_39, x157_40, x157_43, x157_44, x157_47, x157_48, x157_49, x157_50, x157_51, x157_52, mzi, mInc, mne, mlt9, mrk, mI1, mI2, mI3, mI4, mL1, mL2, mL3, mL4, mQ1, mQ2, mQ3, mQ4, mT1, mcat0, mcat1, mcat2, mcat3, mcat4, mrf1, jK_v, jK_n, JA, mz1, if_true, if_false, ite_true, ite_false, eq_self, not_false_eq_true, Nat.zero_le, true_and, and_true, and_self, Nat.reduceMod, Nat.reduceAdd, Nat.reduceLeDiff, Nat.reduceEqDiff, Nat.reduceLT, hw, lc, lj, h0]
theorem d_lift1s {l j : Nat} (hW : jWd μ) (hl : l < 10) (h0 : ¬ jI μ 5904 l = 0) (hj : j < 10) (ho : jI μ 6224 l = iN j) : Ex d 157 0 [some (.ref 5836), some (.int (iN l))] [] μ Q ↔ Q (.inl (some (.int 5))) (jsI (jsI μ 5904 l 5) 5904 j 5) := by
  have hw := hW
  unfold jWd at hw
  have lc : (iN l).toNatClampNeg = l := iN_cl (by omega)
  have lj : jin (iN l) 10 = true := iN_in (by omega) (by omega)
  have jc : (iN j).toNatClampNeg = j := iN_cl (by omega)
  have jj : jin (iN j) 10 = true := iN_in (by omega) (by omega)
  simp only [x157_0, x157_1, x157_4, x157_5, x157_6, x157_9, x157_10, x157_13, x157_14, x157_15, x157_16, x157_17, x157_20, x157_21, x157_22, x157_23, x157_24, x157_27, x157_28, x157_29, x157_30, x157_31, x157_32, x157_33, x157_36, x157_37, x157_38, x157_39, x157_40, x157_43, x157_44, x157_47, x157_48, x157_49, x157_50, x157_51, x157_52, mzi, mInc, mne, mlt9, mrk, mI1, mI2, mI3, mI4, mL1, mL2, mL3, mL4, mQ1, mQ2, mQ3, mQ4, mT1, mcat0, mcat1, mcat2, mcat3, mcat4, mrf1, jK_v, jK_n, JA, mz1, if_true, if_false, ite_true, ite_false, eq_self, not_false_eq_true, Nat.zero_le, true_and, and_true, and_self, Nat.reduceMod, Nat.reduceAdd, Nat.reduceLeDiff, Nat.reduceEqDiff, Nat.reduceLT, hw, lc, lj, jc, jj, h0, ho]
def kHgMs (μ : jM) (l w : Nat) (p o : Option Nat) : jM :=
  let μ1 := match p with
    | some q => kLvMs μ w q
    | none => μ
  let μ2 := match o with
    | some j => if jI μ 6288 l = 1 then jsI (jsI (jsI (jsI μ1 5904 j (if jI μ 5904 l = 5 then 7 else 0)) 6224 j (-1)) 6224 l (-1)) 6288 l 0 else jsI (jsI (jsI (jsI μ1 5904 j (if jI μ 5904 l = 5 then 7 else 0)) 6224 l (-1)) 6224 j (-1)) 6288 j 0
    | none => μ1
  jsI (jsI (jsI μ2 5904 l 0) 6032 l 0) 5968 l 0
theorem d_hang0s {l : Nat} (hW : jWd μ) (hl : l < 10) (h2 : ¬ jI μ 5904 l = 2) (ho : jI μ 6224 l = -1) : Ex (d + 1) 173 0 [some (.ref 5836), some (.int (iN l)), none, none] [] μ Q ↔ Q (.inl (some (.int (jI μ 5904 l)))) (kHgMs μ l w none none) := by
  have hw := hW
  unfold jWd at hw
  have lc : (iN l).toNatClampNeg = l := iN_cl (by omega)
  have lj : jin (iN l) 10 = true := iN_in (by omega) (by omega)
  unfold kHgMs
  simp only [x173_0, x173_1, x173_4, x173_5, x173_6a, x173_6b, x173_6c, x173_7, x173_8, x173_9, x173_12, x173_13, x173_14, x173_15, x173_18, x173_21, x173_22, x173_25, x173_26, x173_27, x173_28, x173_31, x173_32, x173_35, x173_36, x173_37a, x173_37b, x173_37c, x173_38, x173_39, x173_42, x173_43, x173_44, x173_45, x173_48, x173_50, x173_53, x173_54, x173_55, x173_56, x173_57, x173_60, x173_61, x173_62, x173_63, x173_66, x173_67, x173_70, x173_71, x173_74, x173_75, x173_78, x173_79, x173_80, x173_81, x173_82, x173_85, x173_86, x173_87, x173_88, x173_89, x173_92, x173_93, x173_94, x173_95, x173_96, x176_0, x176_1, x176_4, x176_5, x176_8, x176_9, x176_10, x176_11, x176_12, x176_13, x176_16, x176_17, x176_18, x176_19, x176_20, x176_23, x176_24, x176_25, x176_26, mzi, mInc, mne, mlt9, mrk, mI1, mI2, mI3, mI4, mL1, mL2, mL3, mL4, mQ1, mQ2, mQ3, mQ4, mT1, mcat0, mcat1, mcat2, mcat3, mcat4, mrf1, jK_v, jK_n, JA, mz1, if_true, if_false, ite_true, ite_false, eq_self, not_false_eq_true, Nat.zero_le, true_and, and_true, and_self, Nat.reduceMod, Nat.reduceAdd, Nat.reduceLeDiff, Nat.reduceEqDiff, Nat.reduceLT, hw, lc, lj, h2, ho]
theorem d_hang1s {l j : Nat} (hW : jWd μ) (hl : l < 10) (h2 : ¬ jI μ 5904 l = 2) (hj : j < 10) (hlj : ¬ j = l) (ho : jI μ 6224 l = iN j) (ho2 : jI μ 6224 j = iN l) : Ex (d + 1) 173 0 [some (.ref 5836), some (.int (iN l)), none, none] [] μ Q ↔ Q (.inl (some (.int (jI μ 5904 l)))) (kHgMs μ l w none (some j)) := by
  have hw := hW
  unfold jWd at hw
  have lc : (iN l).toNatClampNeg = l := iN_cl (by omega)
  have lj : jin (iN l) 10 = true := iN_in (by omega) (by omega)
  have jc : (iN j).toNatClampNeg = j := iN_cl (by omega)
  have jj : jin (iN j) 10 = true := iN_in (by omega) (by omega)
  have hn1 := iN_n1 (q := j) (by omega)
  unfold kHgMs
  by_cases g1 : jI μ 5904 l = 5
  all_goals by_cases g2 : jI μ 6288 l = 1
  all_goals simp only [x173_0, x173_1, x173_4, x173_5, x173_6a, x173_6b, x173_6c, x173_7, x173_8, x173_9, x173_12, x173_13, x173_14, x173_15, x173_18, x173_21, x173_22, x173_25, x173_26, x173_27, x173_28, x173_31, x173_32, x173_35, x173_36, x173_37a, x173_37b, x173_37c, x173_38, x173_39, x173_42, x173_43, x173_44, x173_45, x173_48, x173_50, x173_53, x173_54, x173_55, x173_56, x173_57, x173_60, x173_61, x173_62, x173_63, x173_66, x173_67, x173_70, x173_71, x173_74, x173_75, x173_78, x173_79, x173_80, x173_81, x173_82, x173_85, x173_86, x173_87, x173_88, x173_89, x173_92, x173_93, x173_94, x173_95, x173_96, x176_0, x176_1, x176_4, x176_5, x176_8, x176_9, x176_10, x176_11, x176_12, x176_13, x176_16, x176_17, x176_18, x176_19, x176_20, x176_23, x176_24, x176_25, x176_26, mzi, mInc, mne, mlt9, mrk, mI1, mI2, mI3, mI4, mL1, mL2, mL3, mL4, mQ1, mQ2, mQ3, mQ4, mT1, mcat0, mcat1, mcat2, mcat3, mcat4, mrf1, jK_v, jK_n, JA, mz1, if_true, if_false, ite_true, ite_false, eq_self, not_false_eq_true, Nat.zero_le, true_and, and_true, and_self, Nat.reduceMod, Nat.reduceAdd, Nat.reduceLeDiff, Nat.reduceEqDiff, Nat.reduceLT, hw, lc, lj, jc, jj, h2, ho, ho2, hn1, g1, g2, mne5]
theorem d_hang2s {l q : Nat} (hW : jWd μ) (hw1 : jI μ 5836 7 = iN w) (hw2 : w ≤ 10) (hl : l < 10) (h2 : jI μ 5904 l = 2) (hp : jfst (fun k => decide (jI μ 6160 k = iN l)) 0 (w - 0) = iN q) (hq : q < w) (ho : jI μ 6224 l = -1) : Ex (d + 1) 173 0 [some (.ref 5836), some (.int (iN l)), none, none] [] μ Q ↔ Q (.inl (some (.int (jI μ 5904 l)))) (kHgMs μ l w (some q) none) := by
  have hw := hW
  unfold jWd at hw
  have lc : (iN l).toNatClampNeg = l := iN_cl (by omega)
  have lj : jin (iN l) 10 = true := iN_in (by omega) (by omega)
  have hpl : ∀ (d : Nat) (Q : jO → jM → Prop), Ex d 174 0 [some (.ref 5836), some (.int (iN l)), none] [] μ Q ↔ Q (.inl (some (.int (iN q)))) μ := by
    intro d Q
    rw [d_places hW hw1 hw2, hp]
  have hlv : ∀ (d : Nat) (Q : jO → jM → Prop), Ex d 175 0 [some (.ref 5836), some (.int (iN q)), none] [] μ Q ↔ Q (.inl none) (kLvMs μ w q) := fun d Q => d_leaves hW hw1 hw2 hq
  have hrd : ∀ a, ¬ a = 5836 → ¬ a = 6160 → jI (kLvMs μ w q) a = jI μ a := fun a h1 h2 => by unfold kLvMs; rw [mR2 h2, mI2 h1]
  have hrq : jQ (kLvMs μ w q) = jQ μ := rfl
  unfold kHgMs
  simp only [x173_0, x173_1, x173_4, x173_5, x173_6a, x173_6b, x173_6c, x173_7, x173_8, x173_9, x173_12, x173_13, x173_14, x173_15, x173_18, x173_21, x173_22, x173_25, x173_26, x173_27, x173_28, x173_31, x173_32, x173_35, x173_36, x173_37a, x173_37b, x173_37c, x173_38, x173_39, x173_42, x173_43, x173_44, x173_45, x173_48, x173_50, x173_53, x173_54, x173_55, x173_56, x173_57, x173_60, x173_61, x173_62, x173_63, x173_66, x173_67, x173_70, x173_71, x173_74, x173_75, x173_78, x173_79, x173_80, x173_81, x173_82, x173_85, x173_86, x173_87, x173_88, x173_89, x173_92, x173_93, x173_94, x173_95, x173_96, x176_0, x176_1, x176_4, x176_5, x176_8, x176_9, x176_10, x176_11, x176_12, x176_13, x176_16, x176_17, x176_18, x176_19, x176_20, x176_23, x176_24, x176_25, x176_26, mzi, mInc, mne, mlt9, mrk, mI1, mI2, mI3, mI4, mL1, mL2, mL3, mL4, mQ1, mQ2, mQ3, mQ4, mT1, mcat0, mcat1, mcat2, mcat3, mcat4, mrf1, jK_v, jK_n, JA, mz1, if_true, if_false, ite_true, ite_false, eq_self, not_false_eq_true, Nat.zero_le, true_and, and_true, and_self, Nat.reduceMod, Nat.reduceAdd, Nat.reduceLeDiff, Nat.reduceEqDiff, Nat.reduceLT, hw, lc, lj, h2, ho, hpl, hlv, hrd, hrq]
def kLvMh (μ : jM) (w q : Nat) : jM := jsR (jsI μ 6732 7 (iN (w - 1))) 7056 (fun j => if q ≤ j ∧ j < w - 1 then jI μ 7056 (j + 1) else jI μ 7056 j)
theorem d_leaveh {q : Nat} (hW : jWd μ) (hw1 : jI μ 6732 7 = iN w) (hw2 : w ≤ 10) (hq : q < w) : Ex d 175 0 [some (.ref 6732), some (.int (iN q)), none] [] μ Q ↔ Q (.inl none) (kLvMh μ w q) := by
  have hw := hW
  unfold jWd at hw
  unfold kLvMh
  have loop : ∀ k, q ≤ k → k < w - 1 → (Ex d 175 12 [some (.ref 6732), some (.int (iN q)), some (.int (iN k))] [] (jsR (jsI μ 6732 7 (iN (w - 1))) 7056 (fun j => if q ≤ j ∧ j < k then jI μ 7056 (j + 1) else jI μ 7056 j)) Q ↔ Ex d 175 12 [some (.ref 6732), some (.int (iN q)), some (.int (iN (k + 1)))] [] (jsR (jsI μ 6732 7 (iN (w - 1))) 7056 (fun j => if q ≤ j ∧ j < k + 1 then jI μ 7056 (j + 1) else jI μ 7056 j)) Q) := by
    intro k hlo hk
    have hlt : iN k < iN (w - 1) := (iN_lt (by omega) (by omega)).mpr hk
    have hkc : (iN k).toNatClampNeg = k := iN_cl (by omega)
    have hkj : jin (iN k) 10 = true := iN_in (by omega) (by omega)
    have hkc1 : (iN (k + 1)).toNatClampNeg = k + 1 := iN_cl (by omega)
    have hkj1 : jin (iN (k + 1)) 10 = true := iN_in (by omega) (by omega)
    have hf : ¬ (q ≤ k + 1 ∧ k + 1 < k) := by omega
    rw [x175_12]
    simp only [x175_0, x175_1a, x175_1b, x175_2, x175_5, x175_6, x175_7, x175_10, x175_11a, x175_11b, x175_11c, x175_13, x175_14, x175_17, x175_20, x175_21, x175_24, x175_25, x175_26, x175_29, x175_30, x175_31, x175_32, x175_33, x175_34a, x175_34b, x175_34c, x175_37, x175_40, mzi, mInc, mne, mlt9, mrk, mI1, mI2, mI3, mI4, mL1, mL2, mL3, mL4, mQ1, mQ2, mQ3, mQ4, mT1, mcat0, mcat1, mcat2, mcat3, mcat4, mrf1, jK_v, jK_n, JA, mz1, if_true, if_false, ite_true, ite_false, eq_self, not_false_eq_true, Nat.zero_le, true_and, and_true, and_self, Nat.reduceMod, Nat.reduceAdd, Nat.reduceLeDiff, Nat.reduceEqDiff, Nat.reduceLT, hw, hlt, hkc, hkj, hkc1, hkj1, mR1, mR2, mR3, mRI, hf]
    have he : (fun j => if j = k then jI μ 7056 (k + 1) else if q ≤ j ∧ j < k then jI μ 7056 (j + 1) else jI μ 7056 j) = (fun j => if q ≤ j ∧ j < k + 1 then jI μ 7056 (j + 1) else jI μ 7056 j) := by
      funext j
      by_cases e : j = k
      · rw [if_pos e, if_pos (by omega), e]
      · by_cases e2 : q ≤ j ∧ j < k
        · rw [if_neg e, if_pos e2, if_pos (by omega)]
        · rw [if_neg e, if_neg e2, if_neg (by omega)]
    rw [he]
  have h0 := jclimb (P := fun k => Ex d 175 12 [some (.ref 6732), some (.int (iN q)), some (.int (iN k))] [] (jsR (jsI μ 6732 7 (iN (w - 1))) 7056 (fun j => if q ≤ j ∧ j < k then jI μ 7056 (j + 1) else jI μ 7056 j)) Q) loop (by omega)
  have hge : ¬ iN (w - 1) < iN (w - 1) := iN_irr (by omega)
  have hm : iN w - 1 = iN (w - 1) := iN_pred (by omega)
  have h2 : jsR (jsI μ 6732 7 (iN (w - 1))) 7056 (fun j => if q ≤ j ∧ j < q then jI μ 7056 (j + 1) else jI μ 7056 j) = jsI μ 6732 7 (iN (w - 1)) := by
    refine jsR_id ?_
    funext j
    rw [if_neg (by omega), mI2 (by omega)]
  have h1 : Ex d 175 0 [some (.ref 6732), some (.int (iN q)), none] [] μ Q ↔ Ex d 175 12 [some (.ref 6732), some (.int (iN q)), some (.int (iN q))] [] (jsI μ 6732 7 (iN (w - 1))) Q := by
    simp only [x175_0, x175_1a, x175_1b, x175_2, x175_5, x175_6, x175_7, x175_10, x175_11a, x175_11b, x175_11c, x175_13, x175_14, x175_17, x175_20, x175_21, x175_24, x175_25, x175_26, x175_29, x175_30, x175_31, x175_32, x175_33, x175_34a, x175_34b, x175_34c, x175_37, x175_40, mzi, mInc, mne, mlt9, mrk, mI1, mI2, mI3, mI4, mL1, mL2, mL3, mL4, mQ1, mQ2, mQ3, mQ4, mT1, mcat0, mcat1, mcat2, mcat3, mcat4, mrf1, jK_v, jK_n, JA, mz1, if_true, if_false, ite_true, ite_false, eq_self, not_false_eq_true, Nat.zero_le, true_and, and_true, and_self, Nat.reduceMod, Nat.reduceAdd, Nat.reduceLeDiff, Nat.reduceEqDiff, Nat.reduceLT, hw, hw1, hm]
  have h3 : Ex d 175 12 [some (.ref 6732), some (.int (iN q)), some (.int (iN q))] [] (jsI μ 6732 7 (iN (w - 1))) Q ↔ Ex d 175 12 [some (.ref 6732), some (.int (iN q)), some (.int (iN q))] [] (jsR (jsI μ 6732 7 (iN (w - 1))) 7056 (fun j => if q ≤ j ∧ j < q then jI μ 7056 (j + 1) else jI μ 7056 j)) Q := by rw [h2]
  rw [h1, h3, h0]
  simp only [↓if_neg hge, x175_12, x175_0, x175_1a, x175_1b, x175_2, x175_5, x175_6, x175_7, x175_10, x175_11a, x175_11b, x175_11c, x175_13, x175_14, x175_17, x175_20, x175_21, x175_24, x175_25, x175_26, x175_29, x175_30, x175_31, x175_32, x175_33, x175_34a, x175_34b, x175_34c, x175_37, x175_40, mzi, mInc, mne, mlt9, mrk, mI1, mI2, mI3, mI4, mL1, mL2, mL3, mL4, mQ1, mQ2, mQ3, mQ4, mT1, mcat0, mcat1, mcat2, mcat3, mcat4, mrf1, jK_v, jK_n, JA, mz1, if_true, if_false, ite_true, ite_false, eq_self, not_false_eq_true, Nat.zero_le, true_and, and_true, and_self, Nat.reduceMod, Nat.reduceAdd, Nat.reduceLeDiff, Nat.reduceEqDiff, Nat.reduceLT, hw, hge, mR1, mR2, mR3]
theorem d_lift0h {l : Nat} (hW : jWd μ) (hl : l < 10) (h0 : jI μ 6800 l = 0) : Ex d 157 0 [some (.ref 6732), some (.int (iN l))] [] μ Q ↔ Q (.inl (some (.int 1))) (jsI (jsI (jsI μ 6928 l 0) 6864 l 0) 6800 l 1) := by
  have hw := hW
  unfold jWd at hw
  have lc : (iN l).toNatClampNeg = l := iN_cl (by omega)
  have lj : jin (iN l) 10 = true := iN_in (by omega) (by omega)
  simp only [x157_0, x157_1, x157_4, x157_5, x157_6, x157_9, x157_10, x157_13, x157_14, x157_15, x157_16, x157_17, x157_20, x157_21, x157_22, x157_23, x157_24, x157_27, x157_28, x157_29, x157_30, x157_31, x157_32, x157_33, x157_36, x157_37, x157_38, x157_39, x157_40, x157_43, x157_44, x157_47, x157_48, x157_49, x157_50, x157_51, x157_52, mzi, mInc, mne, mlt9, mrk, mI1, mI2, mI3, mI4, mL1, mL2, mL3, mL4, mQ1, mQ2, mQ3, mQ4, mT1, mcat0, mcat1, mcat2, mcat3, mcat4, mrf1, jK_v, jK_n, JA, mz1, if_true, if_false, ite_true, ite_false, eq_self, not_false_eq_true, Nat.zero_le, true_and, and_true, and_self, Nat.reduceMod, Nat.reduceAdd, Nat.reduceLeDiff, Nat.reduceEqDiff, Nat.reduceLT, hw, lc, lj, h0]
theorem d_lift1h {l j : Nat} (hW : jWd μ) (hl : l < 10) (h0 : ¬ jI μ 6800 l = 0) (hj : j < 10) (ho : jI μ 7120 l = iN j) : Ex d 157 0 [some (.ref 6732), some (.int (iN l))] [] μ Q ↔ Q (.inl (some (.int 5))) (jsI (jsI μ 6800 l 5) 6800 j 5) := by
  have hw := hW
  unfold jWd at hw
  have lc : (iN l).toNatClampNeg = l := iN_cl (by omega)
  have lj : jin (iN l) 10 = true := iN_in (by omega) (by omega)
  have jc : (iN j).toNatClampNeg = j := iN_cl (by omega)
  have jj : jin (iN j) 10 = true := iN_in (by omega) (by omega)
  simp only [x157_0, x157_1, x157_4, x157_5, x157_6, x157_9, x157_10, x157_13, x157_14, x157_15, x157_16, x157_17, x157_20, x157_21, x157_22, x157_23, x157_24, x157_27, x157_28, x157_29, x157_30, x157_31, x157_32, x157_33, x157_36, x157_37, x157_38, x157_39, x157_40, x157_43, x157_44, x157_47, x157_48, x157_49, x157_50, x157_51, x157_52, mzi, mInc, mne, mlt9, mrk, mI1, mI2, mI3, mI4, mL1, mL2, mL3, mL4, mQ1, mQ2, mQ3, mQ4, mT1, mcat0, mcat1, mcat2, mcat3, mcat4, mrf1, jK_v, jK_n, JA, mz1, if_true, if_false, ite_true, ite_false, eq_self, not_false_eq_true, Nat.zero_le, true_and, and_true, and_self, Nat.reduceMod, Nat.reduceAdd, Nat.reduceLeDiff, Nat.reduceEqDiff, Nat.reduceLT, hw, lc, lj, jc, jj, h0, ho]
def kHgMh (μ : jM) (l w : Nat) (p o : Option Nat) : jM :=
  let μ1 := match p with
    | some q => kLvMh μ w q
    | none => μ
  let μ2 := match o with
    | some j => if jI μ 7184 l = 1 then jsI (jsI (jsI (jsI μ1 6800 j (if jI μ 6800 l = 5 then 7 else 0)) 7120 j (-1)) 7120 l (-1)) 7184 l 0 else jsI (jsI (jsI (jsI μ1 6800 j (if jI μ 6800 l = 5 then 7 else 0)) 7120 l (-1)) 7120 j (-1)) 7184 j 0
    | none => μ1
  jsI (jsI (jsI μ2 6800 l 0) 6928 l 0) 6864 l 0
theorem d_hang0h {l : Nat} (hW : jWd μ) (hl : l < 10) (h2 : ¬ jI μ 6800 l = 2) (ho : jI μ 7120 l = -1) : Ex (d + 1) 173 0 [some (.ref 6732), some (.int (iN l)), none, none] [] μ Q ↔ Q (.inl (some (.int (jI μ 6800 l)))) (kHgMh μ l w none none) := by
  have hw := hW
  unfold jWd at hw
  have lc : (iN l).toNatClampNeg = l := iN_cl (by omega)
  have lj : jin (iN l) 10 = true := iN_in (by omega) (by omega)
  unfold kHgMh
  simp only [x173_0, x173_1, x173_4, x173_5, x173_6a, x173_6b, x173_6c, x173_7, x173_8, x173_9, x173_12, x173_13, x173_14, x173_15, x173_18, x173_21, x173_22, x173_25, x173_26, x173_27, x173_28, x173_31, x173_32, x173_35, x173_36, x173_37a, x173_37b, x173_37c, x173_38, x173_39, x173_42, x173_43, x173_44, x173_45, x173_48, x173_50, x173_53, x173_54, x173_55, x173_56, x173_57, x173_60, x173_61, x173_62, x173_63, x173_66, x173_67, x173_70, x173_71, x173_74, x173_75, x173_78, x173_79, x173_80, x173_81, x173_82, x173_85, x173_86, x173_87, x173_88, x173_89, x173_92, x173_93, x173_94, x173_95, x173_96, x176_0, x176_1, x176_4, x176_5, x176_8, x176_9, x176_10, x176_11, x176_12, x176_13, x176_16, x176_17, x176_18, x176_19, x176_20, x176_23, x176_24, x176_25, x176_26, mzi, mInc, mne, mlt9, mrk, mI1, mI2, mI3, mI4, mL1, mL2, mL3, mL4, mQ1, mQ2, mQ3, mQ4, mT1, mcat0, mcat1, mcat2, mcat3, mcat4, mrf1, jK_v, jK_n, JA, mz1, if_true, if_false, ite_true, ite_false, eq_self, not_false_eq_true, Nat.zero_le, true_and, and_true, and_self, Nat.reduceMod, Nat.reduceAdd, Nat.reduceLeDiff, Nat.reduceEqDiff, Nat.reduceLT, hw, lc, lj, h2, ho]
theorem d_hang1h {l j : Nat} (hW : jWd μ) (hl : l < 10) (h2 : ¬ jI μ 6800 l = 2) (hj : j < 10) (hlj : ¬ j = l) (ho : jI μ 7120 l = iN j) (ho2 : jI μ 7120 j = iN l) : Ex (d + 1) 173 0 [some (.ref 6732), some (.int (iN l)), none, none] [] μ Q ↔ Q (.inl (some (.int (jI μ 6800 l)))) (kHgMh μ l w none (some j)) := by
  have hw := hW
  unfold jWd at hw
  have lc : (iN l).toNatClampNeg = l := iN_cl (by omega)
  have lj : jin (iN l) 10 = true := iN_in (by omega) (by omega)
  have jc : (iN j).toNatClampNeg = j := iN_cl (by omega)
  have jj : jin (iN j) 10 = true := iN_in (by omega) (by omega)
  have hn1 := iN_n1 (q := j) (by omega)
  unfold kHgMh
  by_cases g1 : jI μ 6800 l = 5
  all_goals by_cases g2 : jI μ 7184 l = 1
  all_goals simp only [x173_0, x173_1, x173_4, x173_5, x173_6a, x173_6b, x173_6c, x173_7, x173_8, x173_9, x173_12, x173_13, x173_14, x173_15, x173_18, x173_21, x173_22, x173_25, x173_26, x173_27, x173_28, x173_31, x173_32, x173_35, x173_36, x173_37a, x173_37b, x173_37c, x173_38, x173_39, x173_42, x173_43, x173_44, x173_45, x173_48, x173_50, x173_53, x173_54, x173_55, x173_56, x173_57, x173_60, x173_61, x173_62, x173_63, x173_66, x173_67, x173_70, x173_71, x173_74, x173_75, x173_78, x173_79, x173_80, x173_81, x173_82, x173_85, x173_86, x173_87, x173_88, x173_89, x173_92, x173_93, x173_94, x173_95, x173_96, x176_0, x176_1, x176_4, x176_5, x176_8, x176_9, x176_10, x176_11, x176_12, x176_13, x176_16, x176_17, x176_18, x176_19, x176_20, x176_23, x176_24, x176_25, x176_26, mzi, mInc, mne, mlt9, mrk, mI1, mI2, mI3, mI4, mL1, mL2, mL3, mL4, mQ1, mQ2, mQ3, mQ4, mT1, mcat0, mcat1, mcat2, mcat3, mcat4, mrf1, jK_v, jK_n, JA, mz1, if_true, if_false, ite_true, ite_false, eq_self, not_false_eq_true, Nat.zero_le, true_and, and_true, and_self, Nat.reduceMod, Nat.reduceAdd, Nat.reduceLeDiff, Nat.reduceEqDiff, Nat.reduceLT, hw, lc, lj, jc, jj, h2, ho, ho2, hn1, g1, g2, mne5]
theorem d_hang2h {l q : Nat} (hW : jWd μ) (hw1 : jI μ 6732 7 = iN w) (hw2 : w ≤ 10) (hl : l < 10) (h2 : jI μ 6800 l = 2) (hp : jfst (fun k => decide (jI μ 7056 k = iN l)) 0 (w - 0) = iN q) (hq : q < w) (ho : jI μ 7120 l = -1) : Ex (d + 1) 173 0 [some (.ref 6732), some (.int (iN l)), none, none] [] μ Q ↔ Q (.inl (some (.int (jI μ 6800 l)))) (kHgMh μ l w (some q) none) := by
  have hw := hW
  unfold jWd at hw
  have lc : (iN l).toNatClampNeg = l := iN_cl (by omega)
  have lj : jin (iN l) 10 = true := iN_in (by omega) (by omega)
  have hpl : ∀ (d : Nat) (Q : jO → jM → Prop), Ex d 174 0 [some (.ref 6732), some (.int (iN l)), none] [] μ Q ↔ Q (.inl (some (.int (iN q)))) μ := by
    intro d Q
    rw [d_placeh hW hw1 hw2, hp]
  have hlv : ∀ (d : Nat) (Q : jO → jM → Prop), Ex d 175 0 [some (.ref 6732), some (.int (iN q)), none] [] μ Q ↔ Q (.inl none) (kLvMh μ w q) := fun d Q => d_leaveh hW hw1 hw2 hq
  have hrd : ∀ a, ¬ a = 6732 → ¬ a = 7056 → jI (kLvMh μ w q) a = jI μ a := fun a h1 h2 => by unfold kLvMh; rw [mR2 h2, mI2 h1]
  have hrq : jQ (kLvMh μ w q) = jQ μ := rfl
  unfold kHgMh
  simp only [x173_0, x173_1, x173_4, x173_5, x173_6a, x173_6b, x173_6c, x173_7, x173_8, x173_9, x173_12, x173_13, x173_14, x173_15, x173_18, x173_21, x173_22, x173_25, x173_26, x173_27, x173_28, x173_31, x173_32, x173_35, x173_36, x173_37a, x173_37b, x173_37c, x173_38, x173_39, x173_42, x173_43, x173_44, x173_45, x173_48, x173_50, x173_53, x173_54, x173_55, x173_56, x173_57, x173_60, x173_61, x173_62, x173_63, x173_66, x173_67, x173_70, x173_71, x173_74, x173_75, x173_78, x173_79, x173_80, x173_81, x173_82, x173_85, x173_86, x173_87, x173_88, x173_89, x173_92, x173_93, x173_94, x173_95, x173_96, x176_0, x176_1, x176_4, x176_5, x176_8, x176_9, x176_10, x176_11, x176_12, x176_13, x176_16, x176_17, x176_18, x176_19, x176_20, x176_23, x176_24, x176_25, x176_26, mzi, mInc, mne, mlt9, mrk, mI1, mI2, mI3, mI4, mL1, mL2, mL3, mL4, mQ1, mQ2, mQ3, mQ4, mT1, mcat0, mcat1, mcat2, mcat3, mcat4, mrf1, jK_v, jK_n, JA, mz1, if_true, if_false, ite_true, ite_false, eq_self, not_false_eq_true, Nat.zero_le, true_and, and_true, and_self, Nat.reduceMod, Nat.reduceAdd, Nat.reduceLeDiff, Nat.reduceEqDiff, Nat.reduceLT, hw, lc, lj, h2, ho, hpl, hlv, hrd, hrq]
end C21
