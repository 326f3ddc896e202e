/-! THE PURE PART: what a token tells, class. -/
section STEPC
variable {d : Nat} {μ ν : jM} {Q : jO → jM → Prop} {n t k : Nat}
/-- the digits of a line told before are the beginning of these, or the other way round -/
abbrev kHp (g dg : Nat → Int32) (x c : Int32) (l : Nat) : Prop := (¬ dg l < c ∧ jcut (g l) (dg l - c) = x) ∨ (¬ c < dg l ∧ jcut x (c - dg l) = g l)
theorem c_stw {x c : Int32} (hW : jWd μ) (hn : jI μ 579 1 = iN n) (h10 : n ≤ 10) (hk : k < n) : Ex (d + 1) 83 0 [some (.ref 579), some (.int (iN k)), some (.int x), some (.int c)] [] μ Q ↔ Q (.inl (some (.int (if ¬ jI μ 848 k < c ∧ jcut (jI μ 784 k) (jI μ 848 k - c) = x then 1 else 0)))) μ := by
  have hw := hW
  unfold jWd at hw
  have kc : (iN k).toNatClampNeg = k := iN_cl (by omega)
  have kj : jin (iN k) 10 = true := iN_in (by omega) (by omega)
  have k0 : ¬ iN k < 0 := iN_nn (by omega)
  have k1 : iN k < iN n := (iN_lt (by omega) (by omega)).mpr hk
  have k2 : iN k < (10 : Int32) := (iN_lt (b := 10) (by omega) (by omega)).mpr (by omega)
  by_cases g1 : jI μ 848 k < c
  · have g1' := eq_true g1
    simp only [x83_0, x83_1, x83_2, x83_5, x83_8, x83_9, x83_10, x83_13, x83_14, x83_15, x83_18, x83_19, x83_22, x83_23, x83_24, x83_25, x83_28, x83_29, x83_30, x83_31, x83_32, x83_35, x83_36, x83_39, x83_40, x83_43, x83_44, x84_0, x84_1, x84_4, x84_5, x84_6, x84_9, x84_12, x84_13, x84_15, x84_18, x84_19, x84_22, x84_23, mzi, mInc, mne, mlt9, mrk, mI1, mI2, mI3, mI4, mL1, mL2, mL3, mL4, mQ1, mQ2, mQ3, mQ4, mT1, mcat0, mcat1, mcat2, mcat3, mcat4, mrf1, jK_v, jK_n, JA, mz1, if_true, if_false, ite_true, ite_false, eq_self, not_false_eq_true, Nat.zero_le, true_and, and_true, and_self, Nat.reduceMod, Nat.reduceAdd, Nat.reduceLeDiff, Nat.reduceEqDiff, Nat.reduceLT, hw, hn, k0, k1, k2, kc, kj, g1', not_true, false_and]
  · have g1' := eq_false g1
    by_cases g2 : jcut (jI μ 784 k) (jI μ 848 k - c) = x
    · have g2' := eq_true g2
      simp only [x83_0, x83_1, x83_2, x83_5, x83_8, x83_9, x83_10, x83_13, x83_14, x83_15, x83_18, x83_19, x83_22, x83_23, x83_24, x83_25, x83_28, x83_29, x83_30, x83_31, x83_32, x83_35, x83_36, x83_39, x83_40, x83_43, x83_44, x84_0, x84_1, x84_4, x84_5, x84_6, x84_9, x84_12, x84_13, x84_15, x84_18, x84_19, x84_22, x84_23, mzi, mInc, mne, mlt9, mrk, mI1, mI2, mI3, mI4, mL1, mL2, mL3, mL4, mQ1, mQ2, mQ3, mQ4, mT1, mcat0, mcat1, mcat2, mcat3, mcat4, mrf1, jK_v, jK_n, JA, mz1, if_true, if_false, ite_true, ite_false, eq_self, not_false_eq_true, Nat.zero_le, true_and, and_true, and_self, Nat.reduceMod, Nat.reduceAdd, Nat.reduceLeDiff, Nat.reduceEqDiff, Nat.reduceLT, hw, hn, k0, k1, k2, kc, kj, g1', c_wl, g2', not_false_eq_true, and_self]
    · have g2' := eq_false g2
      simp only [x83_0, x83_1, x83_2, x83_5, x83_8, x83_9, x83_10, x83_13, x83_14, x83_15, x83_18, x83_19, x83_22, x83_23, x83_24, x83_25, x83_28, x83_29, x83_30, x83_31, x83_32, x83_35, x83_36, x83_39, x83_40, x83_43, x83_44, x84_0, x84_1, x84_4, x84_5, x84_6, x84_9, x84_12, x84_13, x84_15, x84_18, x84_19, x84_22, x84_23, mzi, mInc, mne, mlt9, mrk, mI1, mI2, mI3, mI4, mL1, mL2, mL3, mL4, mQ1, mQ2, mQ3, mQ4, mT1, mcat0, mcat1, mcat2, mcat3, mcat4, mrf1, jK_v, jK_n, JA, mz1, if_true, if_false, ite_true, ite_false, eq_self, not_false_eq_true, Nat.zero_le, true_and, and_true, and_self, Nat.reduceMod, Nat.reduceAdd, Nat.reduceLeDiff, Nat.reduceEqDiff, Nat.reduceLT, hw, hn, k0, k1, k2, kc, kj, g1', c_wl, g2', and_false]
theorem c_isb {x c : Int32} (hW : jWd μ) (hn : jI μ 579 1 = iN n) (h10 : n ≤ 10) (hk : k < n) : Ex (d + 1) 86 0 [some (.ref 579), some (.int (iN k)), some (.int x), some (.int c)] [] μ Q ↔ Q (.inl (some (.int (if ¬ c < jI μ 848 k ∧ jcut x (c - jI μ 848 k) = jI μ 784 k then 1 else 0)))) μ := by
  have hw := hW
  unfold jWd at hw
  have kc : (iN k).toNatClampNeg = k := iN_cl (by omega)
  have kj : jin (iN k) 10 = true := iN_in (by omega) (by omega)
  have k0 : ¬ iN k < 0 := iN_nn (by omega)
  have k1 : iN k < iN n := (iN_lt (by omega) (by omega)).mpr hk
  have k2 : iN k < (10 : Int32) := (iN_lt (b := 10) (by omega) (by omega)).mpr (by omega)
  by_cases g1 : c < jI μ 848 k
  · have g1' := eq_true g1
    simp only [x86_0, x86_1, x86_2, x86_5, x86_8, x86_9, x86_12, x86_13, x86_14, x86_15, x86_18, x86_19, x86_20, x86_21, x86_24, x86_25, x86_26, x86_27, x86_30, x86_31, x86_34, x86_35, x86_36, x86_39, x86_40, x86_43, x86_44, x84_0, x84_1, x84_4, x84_5, x84_6, x84_9, x84_12, x84_13, x84_15, x84_18, x84_19, x84_22, x84_23, mzi, mInc, mne, mlt9, mrk, mI1, mI2, mI3, mI4, mL1, mL2, mL3, mL4, mQ1, mQ2, mQ3, mQ4, mT1, mcat0, mcat1, mcat2, mcat3, mcat4, mrf1, jK_v, jK_n, JA, mz1, if_true, if_false, ite_true, ite_false, eq_self, not_false_eq_true, Nat.zero_le, true_and, and_true, and_self, Nat.reduceMod, Nat.reduceAdd, Nat.reduceLeDiff, Nat.reduceEqDiff, Nat.reduceLT, hw, hn, k0, k1, k2, kc, kj, g1', not_true, false_and]
  · have g1' := eq_false g1
    by_cases g2 : jcut x (c - jI μ 848 k) = jI μ 784 k
    · have g2' := eq_true g2
      simp only [x86_0, x86_1, x86_2, x86_5, x86_8, x86_9, x86_12, x86_13, x86_14, x86_15, x86_18, x86_19, x86_20, x86_21, x86_24, x86_25, x86_26, x86_27, x86_30, x86_31, x86_34, x86_35, x86_36, x86_39, x86_40, x86_43, x86_44, x84_0, x84_1, x84_4, x84_5, x84_6, x84_9, x84_12, x84_13, x84_15, x84_18, x84_19, x84_22, x84_23, mzi, mInc, mne, mlt9, mrk, mI1, mI2, mI3, mI4, mL1, mL2, mL3, mL4, mQ1, mQ2, mQ3, mQ4, mT1, mcat0, mcat1, mcat2, mcat3, mcat4, mrf1, jK_v, jK_n, JA, mz1, if_true, if_false, ite_true, ite_false, eq_self, not_false_eq_true, Nat.zero_le, true_and, and_true, and_self, Nat.reduceMod, Nat.reduceAdd, Nat.reduceLeDiff, Nat.reduceEqDiff, Nat.reduceLT, hw, hn, k0, k1, k2, kc, kj, g1', c_wl, g2', not_false_eq_true, and_self]
    · have g2' := eq_false g2
      simp only [x86_0, x86_1, x86_2, x86_5, x86_8, x86_9, x86_12, x86_13, x86_14, x86_15, x86_18, x86_19, x86_20, x86_21, x86_24, x86_25, x86_26, x86_27, x86_30, x86_31, x86_34, x86_35, x86_36, x86_39, x86_40, x86_43, x86_44, x84_0, x84_1, x84_4, x84_5, x84_6, x84_9, x84_12, x84_13, x84_15, x84_18, x84_19, x84_22, x84_23, mzi, mInc, mne, mlt9, mrk, mI1, mI2, mI3, mI4, mL1, mL2, mL3, mL4, mQ1, mQ2, mQ3, mQ4, mT1, mcat0, mcat1, mcat2, mcat3, mcat4, mrf1, jK_v, jK_n, JA, mz1, if_true, if_false, ite_true, ite_false, eq_self, not_false_eq_true, Nat.zero_le, true_and, and_true, and_self, Nat.reduceMod, Nat.reduceAdd, Nat.reduceLeDiff, Nat.reduceEqDiff, Nat.reduceLT, hw, hn, k0, k1, k2, kc, kj, g1', c_wl, g2', and_false]
/-- a number to be dialled; the line is the newest -/
theorem c_newNumber {x c : Int32} (hW : jWd μ) (hn : jI μ 579 1 = iN n) (h10 : n ≤ 10) (hk : k < n) : Ex (d + 2) 82 0 [some (.ref 1478), some (.int x), some (.int c), some (.int (iN k)), none] [] μ Q ↔ if jfst (fun l => decide (kHp (jI μ 784) (jI μ 848) x c l)) 0 (k - 0) = -1 then Q (.inl (some (.int 0))) (jsI (jsI μ 784 k x) 848 k c) else Q (.inl (some (.int 6))) μ := by
  have hw := hW
  unfold jWd at hw
  have kc : (iN k).toNatClampNeg = k := iN_cl (by omega)
  have kj : jin (iN k) 10 = true := iN_in (by omega) (by omega)
  have k0 : ¬ iN k < 0 := iN_nn (by omega)
  have k1 : iN k < iN 10 := (iN_lt (by omega) (by omega)).mpr (by omega)
  have hyes : ∀ l, 0 ≤ l → l < k → kHp (jI μ 784) (jI μ 848) x c l → (Ex (d + 2) 82 3 [some (.ref 1478), some (.int x), some (.int c), some (.int (iN k)), some (.int (iN l))] [] μ Q ↔ Q (.inl (some (.int 6))) μ) := by
    intro l _ hl hp
    have hlt : iN l < iN k := (iN_lt (by omega) (by omega)).mpr hl
    have h1 := fun d Q => c_stw (d := d) (Q := Q) (x := x) (c := c) hW hn h10 (show l < n by omega)
    have h2 := fun d Q => c_isb (d := d) (Q := Q) (x := x) (c := c) hW hn h10 (show l < n by omega)
    rw [x82_3]
    by_cases g : ¬ jI μ 848 l < c ∧ jcut (jI μ 784 l) (jI μ 848 l - c) = x
    · have g' := eq_true g
      simp only [x82_0, x82_1a, x82_1b, x82_1c, x82_5, x82_6, x82_9, x82_10, x82_13, x82_15, x82_16, x82_17, x82_20, x82_23, x82_24, x82_27, x82_29, x82_30, x82_31, x82_34, x82_37, x82_39, x82_40a, x82_40b, x82_40c, x82_43, x82_46, x82_47, x82_50, x82_53, x82_54, x82_55, x82_58, x82_59, x82_62, x82_65, x82_66, x82_67, x82_70, x82_71, mzi, mInc, mne, mlt9, mrk, mI1, mI2, mI3, mI4, mL1, mL2, mL3, mL4, mQ1, mQ2, mQ3, mQ4, mT1, mcat0, mcat1, mcat2, mcat3, mcat4, mrf1, jK_v, jK_n, JA, mz1, if_true, if_false, ite_true, ite_false, eq_self, not_false_eq_true, Nat.zero_le, true_and, and_true, and_self, Nat.reduceMod, Nat.reduceAdd, Nat.reduceLeDiff, Nat.reduceEqDiff, Nat.reduceLT, hw, hlt, h1, g']
    · have g' := eq_false g
      have g2 := eq_true (hp.elim (fun h => absurd h g) id)
      simp only [x82_0, x82_1a, x82_1b, x82_1c, x82_5, x82_6, x82_9, x82_10, x82_13, x82_15, x82_16, x82_17, x82_20, x82_23, x82_24, x82_27, x82_29, x82_30, x82_31, x82_34, x82_37, x82_39, x82_40a, x82_40b, x82_40c, x82_43, x82_46, x82_47, x82_50, x82_53, x82_54, x82_55, x82_58, x82_59, x82_62, x82_65, x82_66, x82_67, x82_70, x82_71, mzi, mInc, mne, mlt9, mrk, mI1, mI2, mI3, mI4, mL1, mL2, mL3, mL4, mQ1, mQ2, mQ3, mQ4, mT1, mcat0, mcat1, mcat2, mcat3, mcat4, mrf1, jK_v, jK_n, JA, mz1, if_true, if_false, ite_true, ite_false, eq_self, not_false_eq_true, Nat.zero_le, true_and, and_true, and_self, Nat.reduceMod, Nat.reduceAdd, Nat.reduceLeDiff, Nat.reduceEqDiff, Nat.reduceLT, hw, hlt, h1, h2, g', g2]
  have hno : ∀ l, 0 ≤ l → l < k → ¬ kHp (jI μ 784) (jI μ 848) x c l → (Ex (d + 2) 82 3 [some (.ref 1478), some (.int x), some (.int c), some (.int (iN k)), some (.int (iN l))] [] μ Q ↔ Ex (d + 2) 82 3 [some (.ref 1478), some (.int x), some (.int c), some (.int (iN k)), some (.int (iN (l + 1)))] [] μ Q) := by
    intro l _ hl hp
    have hlt : iN l < iN k := (iN_lt (by omega) (by omega)).mpr hl
    have h1 := fun d Q => c_stw (d := d) (Q := Q) (x := x) (c := c) hW hn h10 (show l < n by omega)
    have h2 := fun d Q => c_isb (d := d) (Q := Q) (x := x) (c := c) hW hn h10 (show l < n by omega)
    have g' := eq_false (show ¬ (¬ jI μ 848 l < c ∧ jcut (jI μ 784 l) (jI μ 848 l - c) = x) from fun h => hp (Or.inl h))
    have g2 := eq_false (show ¬ (¬ c < jI μ 848 l ∧ jcut x (c - jI μ 848 l) = jI μ 784 l) from fun h => hp (Or.inr h))
    rw [x82_3]
    simp only [x82_0, x82_1a, x82_1b, x82_1c, x82_5, x82_6, x82_9, x82_10, x82_13, x82_15, x82_16, x82_17, x82_20, x82_23, x82_24, x82_27, x82_29, x82_30, x82_31, x82_34, x82_37, x82_39, x82_40a, x82_40b, x82_40c, x82_43, x82_46, x82_47, x82_50, x82_53, x82_54, x82_55, x82_58, x82_59, x82_62, x82_65, x82_66, x82_67, x82_70, x82_71, mzi, mInc, mne, mlt9, mrk, mI1, mI2, mI3, mI4, mL1, mL2, mL3, mL4, mQ1, mQ2, mQ3, mQ4, mT1, mcat0, mcat1, mcat2, mcat3, mcat4, mrf1, jK_v, jK_n, JA, mz1, if_true, if_false, ite_true, ite_false, eq_self, not_false_eq_true, Nat.zero_le, true_and, and_true, and_self, Nat.reduceMod, Nat.reduceAdd, Nat.reduceLeDiff, Nat.reduceEqDiff, Nat.reduceLT, hw, hlt, h1, h2, g', g2]
  have hend : Ex (d + 2) 82 3 [some (.ref 1478), some (.int x), some (.int c), some (.int (iN k)), some (.int (iN k))] [] μ Q ↔ Q (.inl (some (.int 0))) (jsI (jsI μ 784 k x) 848 k c) := by
    have hge : ¬ iN k < iN k := iN_irr (by omega)
    rw [x82_3]
    simp only [x82_0, x82_1a, x82_1b, x82_1c, x82_5, x82_6, x82_9, x82_10, x82_13, x82_15, x82_16, x82_17, x82_20, x82_23, x82_24, x82_27, x82_29, x82_30, x82_31, x82_34, x82_37, x82_39, x82_40a, x82_40b, x82_40c, x82_43, x82_46, x82_47, x82_50, x82_53, x82_54, x82_55, x82_58, x82_59, x82_62, x82_65, x82_66, x82_67, x82_70, x82_71, x75_0, x75_1, x75_4, x75_5, x75_6, x75_7, x75_10, x75_11, x75_12, x75_13, x75_14, mzi, mInc, mne, mlt9, mrk, mI1, mI2, mI3, mI4, mL1, mL2, mL3, mL4, mQ1, mQ2, mQ3, mQ4, mT1, mcat0, mcat1, mcat2, mcat3, mcat4, mrf1, jK_v, jK_n, JA, mz1, if_true, if_false, ite_true, ite_false, eq_self, not_false_eq_true, Nat.zero_le, true_and, and_true, and_self, Nat.reduceMod, Nat.reduceAdd, Nat.reduceLeDiff, Nat.reduceEqDiff, Nat.reduceLT, hw, hge, k0, k1, kc, kj]
  have h1 : Ex (d + 2) 82 0 [some (.ref 1478), some (.int x), some (.int c), some (.int (iN k)), none] [] μ Q ↔ Ex (d + 2) 82 3 [some (.ref 1478), some (.int x), some (.int c), some (.int (iN k)), some (.int (iN 0))] [] μ Q := by
    simp only [x82_0, x82_1a, x82_1b, x82_1c, x82_5, x82_6, x82_9, x82_10, x82_13, x82_15, x82_16, x82_17, x82_20, x82_23, x82_24, x82_27, x82_29, x82_30, x82_31, x82_34, x82_37, x82_39, x82_40a, x82_40b, x82_40c, x82_43, x82_46, x82_47, x82_50, x82_53, x82_54, x82_55, x82_58, x82_59, x82_62, x82_65, x82_66, x82_67, x82_70, x82_71, mzi, mInc, mne, mlt9, mrk, mI1, mI2, mI3, mI4, mL1, mL2, mL3, mL4, mQ1, mQ2, mQ3, mQ4, mT1, mcat0, mcat1, mcat2, mcat3, mcat4, mrf1, jK_v, jK_n, JA, mz1, if_true, if_false, ite_true, ite_false, eq_self, not_false_eq_true, Nat.zero_le, true_and, and_true, and_self, Nat.reduceMod, Nat.reduceAdd, Nat.reduceLeDiff, Nat.reduceEqDiff, Nat.reduceLT]
  rw [h1]
  have hl := jfst_loop (P := fun l => Ex (d + 2) 82 3 [some (.ref 1478), some (.int x), some (.int c), some (.int (iN k)), some (.int (iN l))] [] μ Q) (R := fun v => if v = -1 then Q (.inl (some (.int 0))) (jsI (jsI μ 784 k x) 848 k c) else Q (.inl (some (.int 6))) μ) (p := fun l => kHp (jI μ 784) (jI μ 848) x c l) (n := k) (lo := 0) (dp := fun _ => inferInstance)
    (fun l h0 hl hp => (hyes l h0 hl hp).trans (by rw [if_neg (iN_n1 (by omega))])) hno (hend.trans (by rw [if_pos rfl])) (Nat.zero_le _)
  exact hl
theorem c_size_bars {x m : Int32} (hW : jWd μ) (hk : k < 6) : Ex (d + 1) 80 0 [some (.int x), some (.int m), some (.ref 660), some (.int (iN k))] [] μ Q ↔ Q (.inl (some (.int (if x < 1 then 5 else if m < x then 5 else 0)))) (jsI μ 660 k x) := by
  have hw := hW
  unfold jWd at hw
  have kc : (iN k).toNatClampNeg = k := iN_cl (by omega)
  have kj : jin (iN k) 6 = true := iN_in (by omega) (by omega)
  have k0 : ¬ iN k < 0 := iN_nn (by omega)
  have k1 : iN k < iN 6 := (iN_lt (by omega) (by omega)).mpr hk
  by_cases g1 : x < 1
  · have g1' := eq_true g1
    simp only [x80_0, x80_1, x80_2, x80_3, x80_6, x80_7, x80_8, x80_11, x80_12, x80_13, x80_16, x80_17, x80_20, x80_21, x75_0, x75_1, x75_4, x75_5, x75_6, x75_7, x75_10, x75_11, x75_12, x75_13, x75_14, mzi, mInc, mne, mlt9, mrk, mI1, mI2, mI3, mI4, mL1, mL2, mL3, mL4, mQ1, mQ2, mQ3, mQ4, mT1, mcat0, mcat1, mcat2, mcat3, mcat4, mrf1, jK_v, jK_n, JA, mz1, if_true, if_false, ite_true, ite_false, eq_self, not_false_eq_true, Nat.zero_le, true_and, and_true, and_self, Nat.reduceMod, Nat.reduceAdd, Nat.reduceLeDiff, Nat.reduceEqDiff, Nat.reduceLT, hw, k0, k1, kc, kj, g1']
  · have g1' := eq_false g1
    by_cases g2 : m < x
    · have g2' := eq_true g2
      simp only [x80_0, x80_1, x80_2, x80_3, x80_6, x80_7, x80_8, x80_11, x80_12, x80_13, x80_16, x80_17, x80_20, x80_21, x75_0, x75_1, x75_4, x75_5, x75_6, x75_7, x75_10, x75_11, x75_12, x75_13, x75_14, mzi, mInc, mne, mlt9, mrk, mI1, mI2, mI3, mI4, mL1, mL2, mL3, mL4, mQ1, mQ2, mQ3, mQ4, mT1, mcat0, mcat1, mcat2, mcat3, mcat4, mrf1, jK_v, jK_n, JA, mz1, if_true, if_false, ite_true, ite_false, eq_self, not_false_eq_true, Nat.zero_le, true_and, and_true, and_self, Nat.reduceMod, Nat.reduceAdd, Nat.reduceLeDiff, Nat.reduceEqDiff, Nat.reduceLT, hw, k0, k1, kc, kj, g1', g2']
    · have g2' := eq_false g2
      simp only [x80_0, x80_1, x80_2, x80_3, x80_6, x80_7, x80_8, x80_11, x80_12, x80_13, x80_16, x80_17, x80_20, x80_21, x75_0, x75_1, x75_4, x75_5, x75_6, x75_7, x75_10, x75_11, x75_12, x75_13, x75_14, mzi, mInc, mne, mlt9, mrk, mI1, mI2, mI3, mI4, mL1, mL2, mL3, mL4, mQ1, mQ2, mQ3, mQ4, mT1, mcat0, mcat1, mcat2, mcat3, mcat4, mrf1, jK_v, jK_n, JA, mz1, if_true, if_false, ite_true, ite_false, eq_self, not_false_eq_true, Nat.zero_le, true_and, and_true, and_self, Nat.reduceMod, Nat.reduceAdd, Nat.reduceLeDiff, Nat.reduceEqDiff, Nat.reduceLT, hw, k0, k1, kc, kj, g1', g2']
theorem c_size_wires {x m : Int32} (hW : jWd μ) (hk : k < 10) : Ex (d + 1) 80 0 [some (.int x), some (.int m), some (.ref 1040), some (.int (iN k))] [] μ Q ↔ Q (.inl (some (.int (if x < 1 then 5 else if m < x then 5 else 0)))) (jsI μ 1040 k x) := by
  have hw := hW
  unfold jWd at hw
  have kc : (iN k).toNatClampNeg = k := iN_cl (by omega)
  have kj : jin (iN k) 10 = true := iN_in (by omega) (by omega)
  have k0 : ¬ iN k < 0 := iN_nn (by omega)
  have k1 : iN k < iN 10 := (iN_lt (by omega) (by omega)).mpr hk
  by_cases g1 : x < 1
  · have g1' := eq_true g1
    simp only [x80_0, x80_1, x80_2, x80_3, x80_6, x80_7, x80_8, x80_11, x80_12, x80_13, x80_16, x80_17, x80_20, x80_21, x75_0, x75_1, x75_4, x75_5, x75_6, x75_7, x75_10, x75_11, x75_12, x75_13, x75_14, mzi, mInc, mne, mlt9, mrk, mI1, mI2, mI3, mI4, mL1, mL2, mL3, mL4, mQ1, mQ2, mQ3, mQ4, mT1, mcat0, mcat1, mcat2, mcat3, mcat4, mrf1, jK_v, jK_n, JA, mz1, if_true, if_false, ite_true, ite_false, eq_self, not_false_eq_true, Nat.zero_le, true_and, and_true, and_self, Nat.reduceMod, Nat.reduceAdd, Nat.reduceLeDiff, Nat.reduceEqDiff, Nat.reduceLT, hw, k0, k1, kc, kj, g1']
  · have g1' := eq_false g1
    by_cases g2 : m < x
    · have g2' := eq_true g2
      simp only [x80_0, x80_1, x80_2, x80_3, x80_6, x80_7, x80_8, x80_11, x80_12, x80_13, x80_16, x80_17, x80_20, x80_21, x75_0, x75_1, x75_4, x75_5, x75_6, x75_7, x75_10, x75_11, x75_12, x75_13, x75_14, mzi, mInc, mne, mlt9, mrk, mI1, mI2, mI3, mI4, mL1, mL2, mL3, mL4, mQ1, mQ2, mQ3, mQ4, mT1, mcat0, mcat1, mcat2, mcat3, mcat4, mrf1, jK_v, jK_n, JA, mz1, if_true, if_false, ite_true, ite_false, eq_self, not_false_eq_true, Nat.zero_le, true_and, and_true, and_self, Nat.reduceMod, Nat.reduceAdd, Nat.reduceLeDiff, Nat.reduceEqDiff, Nat.reduceLT, hw, k0, k1, kc, kj, g1', g2']
    · have g2' := eq_false g2
      simp only [x80_0, x80_1, x80_2, x80_3, x80_6, x80_7, x80_8, x80_11, x80_12, x80_13, x80_16, x80_17, x80_20, x80_21, x75_0, x75_1, x75_4, x75_5, x75_6, x75_7, x75_10, x75_11, x75_12, x75_13, x75_14, mzi, mInc, mne, mlt9, mrk, mI1, mI2, mI3, mI4, mL1, mL2, mL3, mL4, mQ1, mQ2, mQ3, mQ4, mT1, mcat0, mcat1, mcat2, mcat3, mcat4, mrf1, jK_v, jK_n, JA, mz1, if_true, if_false, ite_true, ite_false, eq_self, not_false_eq_true, Nat.zero_le, true_and, and_true, and_self, Nat.reduceMod, Nat.reduceAdd, Nat.reduceLeDiff, Nat.reduceEqDiff, Nat.reduceLT, hw, k0, k1, kc, kj, g1', g2']
theorem c_size_cost {x m : Int32} (hW : jWd μ) (hk : k < 10) : Ex (d + 1) 80 0 [some (.int x), some (.int m), some (.ref 1104), some (.int (iN k))] [] μ Q ↔ Q (.inl (some (.int (if x < 1 then 5 else if m < x then 5 else 0)))) (jsI μ 1104 k x) := by
  have hw := hW
  unfold jWd at hw
  have kc : (iN k).toNatClampNeg = k := iN_cl (by omega)
  have kj : jin (iN k) 10 = true := iN_in (by omega) (by omega)
  have k0 : ¬ iN k < 0 := iN_nn (by omega)
  have k1 : iN k < iN 10 := (iN_lt (by omega) (by omega)).mpr hk
  by_cases g1 : x < 1
  · have g1' := eq_true g1
    simp only [x80_0, x80_1, x80_2, x80_3, x80_6, x80_7, x80_8, x80_11, x80_12, x80_13, x80_16, x80_17, x80_20, x80_21, x75_0, x75_1, x75_4, x75_5, x75_6, x75_7, x75_10, x75_11, x75_12, x75_13, x75_14, mzi, mInc, mne, mlt9, mrk, mI1, mI2, mI3, mI4, mL1, mL2, mL3, mL4, mQ1, mQ2, mQ3, mQ4, mT1, mcat0, mcat1, mcat2, mcat3, mcat4, mrf1, jK_v, jK_n, JA, mz1, if_true, if_false, ite_true, ite_false, eq_self, not_false_eq_true, Nat.zero_le, true_and, and_true, and_self, Nat.reduceMod, Nat.reduceAdd, Nat.reduceLeDiff, Nat.reduceEqDiff, Nat.reduceLT, hw, k0, k1, kc, kj, g1']
  · have g1' := eq_false g1
    by_cases g2 : m < x
    · have g2' := eq_true g2
      simp only [x80_0, x80_1, x80_2, x80_3, x80_6, x80_7, x80_8, x80_11, x80_12, x80_13, x80_16, x80_17, x80_20, x80_21, x75_0, x75_1, x75_4, x75_5, x75_6, x75_7, x75_10, x75_11, x75_12, x75_13, x75_14, mzi, mInc, mne, mlt9, mrk, mI1, mI2, mI3, mI4, mL1, mL2, mL3, mL4, mQ1, mQ2, mQ3, mQ4, mT1, mcat0, mcat1, mcat2, mcat3, mcat4, mrf1, jK_v, jK_n, JA, mz1, if_true, if_false, ite_true, ite_false, eq_self, not_false_eq_true, Nat.zero_le, true_and, and_true, and_self, Nat.reduceMod, Nat.reduceAdd, Nat.reduceLeDiff, Nat.reduceEqDiff, Nat.reduceLT, hw, k0, k1, kc, kj, g1', g2']
    · have g2' := eq_false g2
      simp only [x80_0, x80_1, x80_2, x80_3, x80_6, x80_7, x80_8, x80_11, x80_12, x80_13, x80_16, x80_17, x80_20, x80_21, x75_0, x75_1, x75_4, x75_5, x75_6, x75_7, x75_10, x75_11, x75_12, x75_13, x75_14, mzi, mInc, mne, mlt9, mrk, mI1, mI2, mI3, mI4, mL1, mL2, mL3, mL4, mQ1, mQ2, mQ3, mQ4, mT1, mcat0, mcat1, mcat2, mcat3, mcat4, mrf1, jK_v, jK_n, JA, mz1, if_true, if_false, ite_true, ite_false, eq_self, not_false_eq_true, Nat.zero_le, true_and, and_true, and_self, Nat.reduceMod, Nat.reduceAdd, Nat.reduceLeDiff, Nat.reduceEqDiff, Nat.reduceLT, hw, k0, k1, kc, kj, g1', g2']
theorem c_osw_home (hW : jWd ν) (ht : jI ν 194 7 = iN t) (h4 : t < 401) (hc : jI ν 579 0 = iN n) (hn : n ≤ 6) (hk : k < 10) : Ex (d + 3) 72 0 [some (.ref 1478), some (.ref 720), some (.int (iN k)), none] [] ν Q ↔ Q (.inl (some (.int (if kFi (jL ν 1565) (jL ν 542 t) n = -1 then 3 else 0)))) (jsI (jsI ν 473 t (kFi (jL ν 1565) (jL ν 542 t) n)) 720 k (kFi (jL ν 1565) (jL ν 542 t) n)) := by
  have hw := hW
  unfold jWd at hw
  have ho := fun d Q => c_oldName_s (d := d) (Q := Q) hW ht h4 hn
  generalize kFi (jL ν 1565) (jL ν 542 t) n = f at ho ⊢
  have hm := fun d Q => c_meaning (d := d) (Q := Q) (ν := jsI ν 473 t f) (i := t) (by exact jWd_c rfl hW) h4
  have hv : jI (jsI ν 473 t f) 473 t = f := by rw [mI1, if_pos rfl]
  have kc : (iN k).toNatClampNeg = k := iN_cl (by omega)
  have kj : jin (iN k) 10 = true := iN_in (by omega) (by omega)
  have k0 : ¬ iN k < 0 := iN_nn (by omega)
  have k1 : iN k < iN 10 := (iN_lt (by omega) (by omega)).mpr hk
  simp only [x72_0, x72_1, x72_2, x72_5, x72_6, x72_9, x72_12, x72_15a, x72_15b, x72_15c, x72_16, x72_17, x72_18, x72_19, x72_22, x72_23, x72_26, x72_29, x72_32, x72_35, x72_36, x75_0, x75_1, x75_4, x75_5, x75_6, x75_7, x75_10, x75_11, x75_12, x75_13, x75_14, mzi, mInc, mne, mlt9, mrk, mI1, mI2, mI3, mI4, mL1, mL2, mL3, mL4, mQ1, mQ2, mQ3, mQ4, mT1, mcat0, mcat1, mcat2, mcat3, mcat4, mrf1, jK_v, jK_n, JA, mz1, if_true, if_false, ite_true, ite_false, eq_self, not_false_eq_true, Nat.zero_le, true_and, and_true, and_self, Nat.reduceMod, Nat.reduceAdd, Nat.reduceLeDiff, Nat.reduceEqDiff, Nat.reduceLT, hw, hc, ho, ht, hm, hv, k0, k1, kc, kj]
theorem c_osw_from (hW : jWd ν) (ht : jI ν 194 7 = iN t) (h4 : t < 401) (hc : jI ν 579 0 = iN n) (hn : n ≤ 6) (hk : k < 10) : Ex (d + 3) 72 0 [some (.ref 1478), some (.ref 912), some (.int (iN k)), none] [] ν Q ↔ Q (.inl (some (.int (if kFi (jL ν 1565) (jL ν 542 t) n = -1 then 3 else 0)))) (jsI (jsI ν 473 t (kFi (jL ν 1565) (jL ν 542 t) n)) 912 k (kFi (jL ν 1565) (jL ν 542 t) n)) := by
  have hw := hW
  unfold jWd at hw
  have ho := fun d Q => c_oldName_s (d := d) (Q := Q) hW ht h4 hn
  generalize kFi (jL ν 1565) (jL ν 542 t) n = f at ho ⊢
  have hm := fun d Q => c_meaning (d := d) (Q := Q) (ν := jsI ν 473 t f) (i := t) (by exact jWd_c rfl hW) h4
  have hv : jI (jsI ν 473 t f) 473 t = f := by rw [mI1, if_pos rfl]
  have kc : (iN k).toNatClampNeg = k := iN_cl (by omega)
  have kj : jin (iN k) 10 = true := iN_in (by omega) (by omega)
  have k0 : ¬ iN k < 0 := iN_nn (by omega)
  have k1 : iN k < iN 10 := (iN_lt (by omega) (by omega)).mpr hk
  simp only [x72_0, x72_1, x72_2, x72_5, x72_6, x72_9, x72_12, x72_15a, x72_15b, x72_15c, x72_16, x72_17, x72_18, x72_19, x72_22, x72_23, x72_26, x72_29, x72_32, x72_35, x72_36, x75_0, x75_1, x75_4, x75_5, x75_6, x75_7, x75_10, x75_11, x75_12, x75_13, x75_14, mzi, mInc, mne, mlt9, mrk, mI1, mI2, mI3, mI4, mL1, mL2, mL3, mL4, mQ1, mQ2, mQ3, mQ4, mT1, mcat0, mcat1, mcat2, mcat3, mcat4, mrf1, jK_v, jK_n, JA, mz1, if_true, if_false, ite_true, ite_false, eq_self, not_false_eq_true, Nat.zero_le, true_and, and_true, and_self, Nat.reduceMod, Nat.reduceAdd, Nat.reduceLeDiff, Nat.reduceEqDiff, Nat.reduceLT, hw, hc, ho, ht, hm, hv, k0, k1, kc, kj]
theorem c_osw_to (hW : jWd ν) (ht : jI ν 194 7 = iN t) (h4 : t < 401) (hc : jI ν 579 0 = iN n) (hn : n ≤ 6) (hk : k < 10) : Ex (d + 3) 72 0 [some (.ref 1478), some (.ref 976), some (.int (iN k)), none] [] ν Q ↔ Q (.inl (some (.int (if kFi (jL ν 1565) (jL ν 542 t) n = -1 then 3 else 0)))) (jsI (jsI ν 473 t (kFi (jL ν 1565) (jL ν 542 t) n)) 976 k (kFi (jL ν 1565) (jL ν 542 t) n)) := by
  have hw := hW
  unfold jWd at hw
  have ho := fun d Q => c_oldName_s (d := d) (Q := Q) hW ht h4 hn
  generalize kFi (jL ν 1565) (jL ν 542 t) n = f at ho ⊢
  have hm := fun d Q => c_meaning (d := d) (Q := Q) (ν := jsI ν 473 t f) (i := t) (by exact jWd_c rfl hW) h4
  have hv : jI (jsI ν 473 t f) 473 t = f := by rw [mI1, if_pos rfl]
  have kc : (iN k).toNatClampNeg = k := iN_cl (by omega)
  have kj : jin (iN k) 10 = true := iN_in (by omega) (by omega)
  have k0 : ¬ iN k < 0 := iN_nn (by omega)
  have k1 : iN k < iN 10 := (iN_lt (by omega) (by omega)).mpr hk
  simp only [x72_0, x72_1, x72_2, x72_5, x72_6, x72_9, x72_12, x72_15a, x72_15b, x72_15c, x72_16, x72_17, x72_18, x72_19, x72_22, x72_23, x72_26, x72_29, x72_32, x72_35, x72_36, x75_0, x75_1, x75_4, x75_5, x75_6, x75_7, x75_10, x75_11, x75_12, x75_13, x75_14, mzi, mInc, mne, mlt9, mrk, mI1, mI2, mI3, mI4, mL1, mL2, mL3, mL4, mQ1, mQ2, mQ3, mQ4, mT1, mcat0, mcat1, mcat2, mcat3, mcat4, mrf1, jK_v, jK_n, JA, mz1, if_true, if_false, ite_true, ite_false, eq_self, not_false_eq_true, Nat.zero_le, true_and, and_true, and_self, Nat.reduceMod, Nat.reduceAdd, Nat.reduceLeDiff, Nat.reduceEqDiff, Nat.reduceLT, hw, hc, ho, ht, hm, hv, k0, k1, kc, kj]
theorem c_other (hW : jWd ν) (ht : jI ν 194 7 = iN t) (h4 : t < 401) (hc : jI ν 579 0 = iN n) (hn : n ≤ 6) {m : Nat} (hm : jI ν 579 2 = iN m) (hm10 : m ≤ 10) (hk : k < m) : Ex (d + 4) 77 0 [some (.ref 1478), some (.int (iN k)), none] [] ν Q ↔ Q (.inl (some (.int (if kFi (jL ν 1565) (jL ν 542 t) n = -1 then 3 else if kFi (jL ν 1565) (jL ν 542 t) n = jI ν 912 k then 7 else 0)))) (jsI (jsI ν 473 t (kFi (jL ν 1565) (jL ν 542 t) n)) 976 k (kFi (jL ν 1565) (jL ν 542 t) n)) := by
  have hw := hW
  unfold jWd at hw
  have ho := fun d Q => c_osw_to (d := d) (Q := Q) (k := k) hW ht h4 hc hn (by omega)
  generalize kFi (jL ν 1565) (jL ν 542 t) n = f at ho ⊢
  have kc : (iN k).toNatClampNeg = k := iN_cl (by omega)
  have kj : jin (iN k) 10 = true := iN_in (by omega) (by omega)
  have k0 : ¬ iN k < 0 := iN_nn (by omega)
  have k1 : iN k < iN m := (iN_lt (by omega) (by omega)).mpr hk
  have k2 : iN k < (10 : Int32) := (iN_lt (b := 10) (by omega) (by omega)).mpr (by omega)
  by_cases g1 : f = -1
  · have g1' := eq_true g1
    simp only [x77_0, x77_1, x77_2, x77_5, x77_8, x77_9, x77_12a, x77_12b, x77_12c, x77_13, x77_14, x77_17, x77_18, x77_21, x77_22, x77_25, x77_28, x77_29, x77_32, x77_35, x77_36, x77_37, x77_38, x77_41, x77_44, x77_45, x77_46, x77_49, x77_51, x77_52, x77_53, x78_0, x78_1, x78_4, x78_5, x78_6, x78_9, x78_12, x78_13, x78_15, x78_18, x78_19, x78_22, x78_23, mzi, mInc, mne, mlt9, mrk, mI1, mI2, mI3, mI4, mL1, mL2, mL3, mL4, mQ1, mQ2, mQ3, mQ4, mT1, mcat0, mcat1, mcat2, mcat3, mcat4, mrf1, jK_v, jK_n, JA, mz1, if_true, if_false, ite_true, ite_false, eq_self, not_false_eq_true, Nat.zero_le, true_and, and_true, and_self, Nat.reduceMod, Nat.reduceAdd, Nat.reduceLeDiff, Nat.reduceEqDiff, Nat.reduceLT, hw, ho, g1', zE]
  · have g1' := eq_false g1
    by_cases g2 : f = jI ν 912 k
    · have g2' := eq_true g2
      simp only [x77_0, x77_1, x77_2, x77_5, x77_8, x77_9, x77_12a, x77_12b, x77_12c, x77_13, x77_14, x77_17, x77_18, x77_21, x77_22, x77_25, x77_28, x77_29, x77_32, x77_35, x77_36, x77_37, x77_38, x77_41, x77_44, x77_45, x77_46, x77_49, x77_51, x77_52, x77_53, x78_0, x78_1, x78_4, x78_5, x78_6, x78_9, x78_12, x78_13, x78_15, x78_18, x78_19, x78_22, x78_23, mzi, mInc, mne, mlt9, mrk, mI1, mI2, mI3, mI4, mL1, mL2, mL3, mL4, mQ1, mQ2, mQ3, mQ4, mT1, mcat0, mcat1, mcat2, mcat3, mcat4, mrf1, jK_v, jK_n, JA, mz1, if_true, if_false, ite_true, ite_false, eq_self, not_false_eq_true, Nat.zero_le, true_and, and_true, and_self, Nat.reduceMod, Nat.reduceAdd, Nat.reduceLeDiff, Nat.reduceEqDiff, Nat.reduceLT, hw, hm, ho, g1', k0, k1, k2, kc, kj, ← g2]
    · have g2' := eq_false g2
      simp only [x77_0, x77_1, x77_2, x77_5, x77_8, x77_9, x77_12a, x77_12b, x77_12c, x77_13, x77_14, x77_17, x77_18, x77_21, x77_22, x77_25, x77_28, x77_29, x77_32, x77_35, x77_36, x77_37, x77_38, x77_41, x77_44, x77_45, x77_46, x77_49, x77_51, x77_52, x77_53, x78_0, x78_1, x78_4, x78_5, x78_6, x78_9, x78_12, x78_13, x78_15, x78_18, x78_19, x78_22, x78_23, mzi, mInc, mne, mlt9, mrk, mI1, mI2, mI3, mI4, mL1, mL2, mL3, mL4, mQ1, mQ2, mQ3, mQ4, mT1, mcat0, mcat1, mcat2, mcat3, mcat4, mrf1, jK_v, jK_n, JA, mz1, if_true, if_false, ite_true, ite_false, eq_self, not_false_eq_true, Nat.zero_le, true_and, and_true, and_self, Nat.reduceMod, Nat.reduceAdd, Nat.reduceLeDiff, Nat.reduceEqDiff, Nat.reduceLT, hw, hm, ho, g1', k0, k1, k2, kc, kj, g2']
end STEPC
