/-! THE PURE PART: names as the class tells them. -/
theorem lgz (x y : Int64) : (lg_cmp x y = 0) = (x = y) := by
  unfold lg_cmp
  apply propext
  constructor
  · intro h
    split at h
    · exact absurd h (by decide)
    · split at h
      · assumption
      · exact absurd h (by decide)
  · intro h
    subst h
    rw [if_neg (show ¬ x > x from Int64.lt_irrefl), if_pos rfl]
theorem zE : ((2 : Int32) = 0) = False ∧ ((3 : Int32) = 0) = False ∧ ((4 : Int32) = 0) = False ∧ ((5 : Int32) = 0) = False ∧ ((6 : Int32) = 0) = False ∧ ((7 : Int32) = 0) = False := by decide
section MEANC
variable {d : Nat} {μ ν : jM} {Q : jO → jM → Prop} {n t : Nat}
theorem c_find_s {x : Int64} (hn : n ≤ 6) : Ex (d) 69 0 [some (.long x), none, some (.ref 1565), some (.int (iN n)), none] [] μ Q ↔ Q (.inl (some (.int (jfst (fun k => decide (jL μ 1565 k = x)) 0 (n - 0))))) μ := by
  have hyes : ∀ k, 0 ≤ k → k < n → (jL μ 1565 k = x) → (Ex (d) 69 3 [some (.long x), none, some (.ref 1565), some (.int (iN n)), some (.int (iN k))] [] μ Q ↔ Q (.inl (some (.int (iN k)))) μ) := by
    intro k hlo hk hp
    have hlt : iN k < iN n := (iN_lt (by omega) (by omega)).mpr hk
    have hkc : (iN k).toNatClampNeg = k := iN_cl (by omega)
    have hkj : jin (iN k) 6 = true := iN_in (by omega) (by omega)
    have hl2 : iN k < iN 6 := (iN_lt (by omega) (by omega)).mpr (by omega)
    rw [x69_3]
    simp only [x69_0, x69_1a, x69_1b, x69_1c, x69_1d, x69_5, x69_6, x69_9, x69_11, x69_12, x69_13, x69_16, x69_17, x69_19, x69_20, x69_21, x69_22, x69_25, x69_27, x69_28a, x69_28b, x69_28c, x69_31, x69_34, x69_35, mzi, mInc, mne, mlt9, mrk, mI1, mI2, mI3, mI4, mL1, mL2, mL3, mL4, mQ1, mQ2, mQ3, mQ4, mT1, mcat0, mcat1, mcat2, mcat3, mcat4, mrf1, jK_v, jK_n, JA, mz1, if_true, if_false, ite_true, ite_false, eq_self, not_false_eq_true, Nat.zero_le, true_and, and_true, and_self, Nat.reduceMod, Nat.reduceAdd, Nat.reduceLeDiff, Nat.reduceEqDiff, Nat.reduceLT, hlt, hkc, hkj, hp, lgz, hl2]
  have hno : ∀ k, 0 ≤ k → k < n → ¬ (jL μ 1565 k = x) → (Ex (d) 69 3 [some (.long x), none, some (.ref 1565), some (.int (iN n)), some (.int (iN k))] [] μ Q ↔ Ex (d) 69 3 [some (.long x), none, some (.ref 1565), some (.int (iN n)), some (.int (iN (k + 1)))] [] μ Q) := by
    intro k hlo hk hp
    have hlt : iN k < iN n := (iN_lt (by omega) (by omega)).mpr hk
    have hkc : (iN k).toNatClampNeg = k := iN_cl (by omega)
    have hkj : jin (iN k) 6 = true := iN_in (by omega) (by omega)
    have hl2 : iN k < iN 6 := (iN_lt (by omega) (by omega)).mpr (by omega)
    rw [x69_3]
    simp only [x69_0, x69_1a, x69_1b, x69_1c, x69_1d, x69_5, x69_6, x69_9, x69_11, x69_12, x69_13, x69_16, x69_17, x69_19, x69_20, x69_21, x69_22, x69_25, x69_27, x69_28a, x69_28b, x69_28c, x69_31, x69_34, x69_35, mzi, mInc, mne, mlt9, mrk, mI1, mI2, mI3, mI4, mL1, mL2, mL3, mL4, mQ1, mQ2, mQ3, mQ4, mT1, mcat0, mcat1, mcat2, mcat3, mcat4, mrf1, jK_v, jK_n, JA, mz1, if_true, if_false, ite_true, ite_false, eq_self, not_false_eq_true, Nat.zero_le, true_and, and_true, and_self, Nat.reduceMod, Nat.reduceAdd, Nat.reduceLeDiff, Nat.reduceEqDiff, Nat.reduceLT, hlt, hkc, hkj, hp, lgz, hl2]
  have hge : ¬ iN n < iN n := iN_irr (by omega)
  have hend : Ex (d) 69 3 [some (.long x), none, some (.ref 1565), some (.int (iN n)), some (.int (iN (n)))] [] μ Q ↔ Q (.inl (some (.int (-1)))) μ := by
    simp only [↓if_neg hge, x69_3, x69_0, x69_1a, x69_1b, x69_1c, x69_1d, x69_5, x69_6, x69_9, x69_11, x69_12, x69_13, x69_16, x69_17, x69_19, x69_20, x69_21, x69_22, x69_25, x69_27, x69_28a, x69_28b, x69_28c, x69_31, x69_34, x69_35, mzi, mInc, mne, mlt9, mrk, mI1, mI2, mI3, mI4, mL1, mL2, mL3, mL4, mQ1, mQ2, mQ3, mQ4, mT1, mcat0, mcat1, mcat2, mcat3, mcat4, mrf1, jK_v, jK_n, JA, mz1, if_true, if_false, ite_true, ite_false, eq_self, not_false_eq_true, Nat.zero_le, true_and, and_true, and_self, Nat.reduceMod, Nat.reduceAdd, Nat.reduceLeDiff, Nat.reduceEqDiff, Nat.reduceLT, hge, lgz]
  have h1 : Ex (d) 69 0 [some (.long x), none, some (.ref 1565), some (.int (iN n)), none] [] μ Q ↔ Ex (d) 69 3 [some (.long x), none, some (.ref 1565), some (.int (iN n)), some (.int (iN 0))] [] μ Q := by
    simp only [x69_0, x69_1a, x69_1b, x69_1c, x69_1d, x69_5, x69_6, x69_9, x69_11, x69_12, x69_13, x69_16, x69_17, x69_19, x69_20, x69_21, x69_22, x69_25, x69_27, x69_28a, x69_28b, x69_28c, x69_31, x69_34, x69_35, mzi, mInc, mne, mlt9, mrk, mI1, mI2, mI3, mI4, mL1, mL2, mL3, mL4, mQ1, mQ2, mQ3, mQ4, mT1, mcat0, mcat1, mcat2, mcat3, mcat4, mrf1, jK_v, jK_n, JA, mz1, if_true, if_false, ite_true, ite_false, eq_self, not_false_eq_true, Nat.zero_le, true_and, and_true, and_self, Nat.reduceMod, Nat.reduceAdd, Nat.reduceLeDiff, Nat.reduceEqDiff, Nat.reduceLT, lgz]
  rw [h1]
  exact jfst_loop (P := fun k => Ex (d) 69 3 [some (.long x), none, some (.ref 1565), some (.int (iN n)), some (.int (iN k))] [] μ Q) (R := fun x => Q (.inl (some (.int x))) μ) hyes hno hend (by omega)
theorem c_find_l {x : Int64} (hn : n ≤ 10) : Ex (d) 69 0 [some (.long x), none, some (.ref 1628), some (.int (iN n)), none] [] μ Q ↔ Q (.inl (some (.int (jfst (fun k => decide (jL μ 1628 k = x)) 0 (n - 0))))) μ := by
  have hyes : ∀ k, 0 ≤ k → k < n → (jL μ 1628 k = x) → (Ex (d) 69 3 [some (.long x), none, some (.ref 1628), some (.int (iN n)), some (.int (iN k))] [] μ Q ↔ Q (.inl (some (.int (iN k)))) μ) := by
    intro k hlo hk hp
    have hlt : iN k < iN n := (iN_lt (by omega) (by omega)).mpr hk
    have hkc : (iN k).toNatClampNeg = k := iN_cl (by omega)
    have hkj : jin (iN k) 10 = true := iN_in (by omega) (by omega)
    have hl2 : iN k < iN 10 := (iN_lt (by omega) (by omega)).mpr (by omega)
    rw [x69_3]
    simp only [x69_0, x69_1a, x69_1b, x69_1c, x69_1d, x69_5, x69_6, x69_9, x69_11, x69_12, x69_13, x69_16, x69_17, x69_19, x69_20, x69_21, x69_22, x69_25, x69_27, x69_28a, x69_28b, x69_28c, x69_31, x69_34, x69_35, mzi, mInc, mne, mlt9, mrk, mI1, mI2, mI3, mI4, mL1, mL2, mL3, mL4, mQ1, mQ2, mQ3, mQ4, mT1, mcat0, mcat1, mcat2, mcat3, mcat4, mrf1, jK_v, jK_n, JA, mz1, if_true, if_false, ite_true, ite_false, eq_self, not_false_eq_true, Nat.zero_le, true_and, and_true, and_self, Nat.reduceMod, Nat.reduceAdd, Nat.reduceLeDiff, Nat.reduceEqDiff, Nat.reduceLT, hlt, hkc, hkj, hp, lgz, hl2]
  have hno : ∀ k, 0 ≤ k → k < n → ¬ (jL μ 1628 k = x) → (Ex (d) 69 3 [some (.long x), none, some (.ref 1628), some (.int (iN n)), some (.int (iN k))] [] μ Q ↔ Ex (d) 69 3 [some (.long x), none, some (.ref 1628), some (.int (iN n)), some (.int (iN (k + 1)))] [] μ Q) := by
    intro k hlo hk hp
    have hlt : iN k < iN n := (iN_lt (by omega) (by omega)).mpr hk
    have hkc : (iN k).toNatClampNeg = k := iN_cl (by omega)
    have hkj : jin (iN k) 10 = true := iN_in (by omega) (by omega)
    have hl2 : iN k < iN 10 := (iN_lt (by omega) (by omega)).mpr (by omega)
    rw [x69_3]
    simp only [x69_0, x69_1a, x69_1b, x69_1c, x69_1d, x69_5, x69_6, x69_9, x69_11, x69_12, x69_13, x69_16, x69_17, x69_19, x69_20, x69_21, x69_22, x69_25, x69_27, x69_28a, x69_28b, x69_28c, x69_31, x69_34, x69_35, mzi, mInc, mne, mlt9, mrk, mI1, mI2, mI3, mI4, mL1, mL2, mL3, mL4, mQ1, mQ2, mQ3, mQ4, mT1, mcat0, mcat1, mcat2, mcat3, mcat4, mrf1, jK_v, jK_n, JA, mz1, if_true, if_false, ite_true, ite_false, eq_self, not_false_eq_true, Nat.zero_le, true_and, and_true, and_self, Nat.reduceMod, Nat.reduceAdd, Nat.reduceLeDiff, Nat.reduceEqDiff, Nat.reduceLT, hlt, hkc, hkj, hp, lgz, hl2]
  have hge : ¬ iN n < iN n := iN_irr (by omega)
  have hend : Ex (d) 69 3 [some (.long x), none, some (.ref 1628), some (.int (iN n)), some (.int (iN (n)))] [] μ Q ↔ Q (.inl (some (.int (-1)))) μ := by
    simp only [↓if_neg hge, x69_3, x69_0, x69_1a, x69_1b, x69_1c, x69_1d, x69_5, x69_6, x69_9, x69_11, x69_12, x69_13, x69_16, x69_17, x69_19, x69_20, x69_21, x69_22, x69_25, x69_27, x69_28a, x69_28b, x69_28c, x69_31, x69_34, x69_35, mzi, mInc, mne, mlt9, mrk, mI1, mI2, mI3, mI4, mL1, mL2, mL3, mL4, mQ1, mQ2, mQ3, mQ4, mT1, mcat0, mcat1, mcat2, mcat3, mcat4, mrf1, jK_v, jK_n, JA, mz1, if_true, if_false, ite_true, ite_false, eq_self, not_false_eq_true, Nat.zero_le, true_and, and_true, and_self, Nat.reduceMod, Nat.reduceAdd, Nat.reduceLeDiff, Nat.reduceEqDiff, Nat.reduceLT, hge, lgz]
  have h1 : Ex (d) 69 0 [some (.long x), none, some (.ref 1628), some (.int (iN n)), none] [] μ Q ↔ Ex (d) 69 3 [some (.long x), none, some (.ref 1628), some (.int (iN n)), some (.int (iN 0))] [] μ Q := by
    simp only [x69_0, x69_1a, x69_1b, x69_1c, x69_1d, x69_5, x69_6, x69_9, x69_11, x69_12, x69_13, x69_16, x69_17, x69_19, x69_20, x69_21, x69_22, x69_25, x69_27, x69_28a, x69_28b, x69_28c, x69_31, x69_34, x69_35, mzi, mInc, mne, mlt9, mrk, mI1, mI2, mI3, mI4, mL1, mL2, mL3, mL4, mQ1, mQ2, mQ3, mQ4, mT1, mcat0, mcat1, mcat2, mcat3, mcat4, mrf1, jK_v, jK_n, JA, mz1, if_true, if_false, ite_true, ite_false, eq_self, not_false_eq_true, Nat.zero_le, true_and, and_true, and_self, Nat.reduceMod, Nat.reduceAdd, Nat.reduceLeDiff, Nat.reduceEqDiff, Nat.reduceLT, lgz]
  rw [h1]
  exact jfst_loop (P := fun k => Ex (d) 69 3 [some (.long x), none, some (.ref 1628), some (.int (iN n)), some (.int (iN k))] [] μ Q) (R := fun x => Q (.inl (some (.int x))) μ) hyes hno hend (by omega)
theorem c_find_t {x : Int64} (hn : n ≤ 10) : Ex (d) 69 0 [some (.long x), none, some (.ref 1692), some (.int (iN n)), none] [] μ Q ↔ Q (.inl (some (.int (jfst (fun k => decide (jL μ 1692 k = x)) 0 (n - 0))))) μ := by
  have hyes : ∀ k, 0 ≤ k → k < n → (jL μ 1692 k = x) → (Ex (d) 69 3 [some (.long x), none, some (.ref 1692), some (.int (iN n)), some (.int (iN k))] [] μ Q ↔ Q (.inl (some (.int (iN k)))) μ) := by
    intro k hlo hk hp
    have hlt : iN k < iN n := (iN_lt (by omega) (by omega)).mpr hk
    have hkc : (iN k).toNatClampNeg = k := iN_cl (by omega)
    have hkj : jin (iN k) 10 = true := iN_in (by omega) (by omega)
    have hl2 : iN k < iN 10 := (iN_lt (by omega) (by omega)).mpr (by omega)
    rw [x69_3]
    simp only [x69_0, x69_1a, x69_1b, x69_1c, x69_1d, x69_5, x69_6, x69_9, x69_11, x69_12, x69_13, x69_16, x69_17, x69_19, x69_20, x69_21, x69_22, x69_25, x69_27, x69_28a, x69_28b, x69_28c, x69_31, x69_34, x69_35, mzi, mInc, mne, mlt9, mrk, mI1, mI2, mI3, mI4, mL1, mL2, mL3, mL4, mQ1, mQ2, mQ3, mQ4, mT1, mcat0, mcat1, mcat2, mcat3, mcat4, mrf1, jK_v, jK_n, JA, mz1, if_true, if_false, ite_true, ite_false, eq_self, not_false_eq_true, Nat.zero_le, true_and, and_true, and_self, Nat.reduceMod, Nat.reduceAdd, Nat.reduceLeDiff, Nat.reduceEqDiff, Nat.reduceLT, hlt, hkc, hkj, hp, lgz, hl2]
  have hno : ∀ k, 0 ≤ k → k < n → ¬ (jL μ 1692 k = x) → (Ex (d) 69 3 [some (.long x), none, some (.ref 1692), some (.int (iN n)), some (.int (iN k))] [] μ Q ↔ Ex (d) 69 3 [some (.long x), none, some (.ref 1692), some (.int (iN n)), some (.int (iN (k + 1)))] [] μ Q) := by
    intro k hlo hk hp
    have hlt : iN k < iN n := (iN_lt (by omega) (by omega)).mpr hk
    have hkc : (iN k).toNatClampNeg = k := iN_cl (by omega)
    have hkj : jin (iN k) 10 = true := iN_in (by omega) (by omega)
    have hl2 : iN k < iN 10 := (iN_lt (by omega) (by omega)).mpr (by omega)
    rw [x69_3]
    simp only [x69_0, x69_1a, x69_1b, x69_1c, x69_1d, x69_5, x69_6, x69_9, x69_11, x69_12, x69_13, x69_16, x69_17, x69_19, x69_20, x69_21, x69_22, x69_25, x69_27, x69_28a, x69_28b, x69_28c, x69_31, x69_34, x69_35, mzi, mInc, mne, mlt9, mrk, mI1, mI2, mI3, mI4, mL1, mL2, mL3, mL4, mQ1, mQ2, mQ3, mQ4, mT1, mcat0, mcat1, mcat2, mcat3, mcat4, mrf1, jK_v, jK_n, JA, mz1, if_true, if_false, ite_true, ite_false, eq_self, not_false_eq_true, Nat.zero_le, true_and, and_true, and_self, Nat.reduceMod, Nat.reduceAdd, Nat.reduceLeDiff, Nat.reduceEqDiff, Nat.reduceLT, hlt, hkc, hkj, hp, lgz, hl2]
  have hge : ¬ iN n < iN n := iN_irr (by omega)
  have hend : Ex (d) 69 3 [some (.long x), none, some (.ref 1692), some (.int (iN n)), some (.int (iN (n)))] [] μ Q ↔ Q (.inl (some (.int (-1)))) μ := by
    simp only [↓if_neg hge, x69_3, x69_0, x69_1a, x69_1b, x69_1c, x69_1d, x69_5, x69_6, x69_9, x69_11, x69_12, x69_13, x69_16, x69_17, x69_19, x69_20, x69_21, x69_22, x69_25, x69_27, x69_28a, x69_28b, x69_28c, x69_31, x69_34, x69_35, mzi, mInc, mne, mlt9, mrk, mI1, mI2, mI3, mI4, mL1, mL2, mL3, mL4, mQ1, mQ2, mQ3, mQ4, mT1, mcat0, mcat1, mcat2, mcat3, mcat4, mrf1, jK_v, jK_n, JA, mz1, if_true, if_false, ite_true, ite_false, eq_self, not_false_eq_true, Nat.zero_le, true_and, and_true, and_self, Nat.reduceMod, Nat.reduceAdd, Nat.reduceLeDiff, Nat.reduceEqDiff, Nat.reduceLT, hge, lgz]
  have h1 : Ex (d) 69 0 [some (.long x), none, some (.ref 1692), some (.int (iN n)), none] [] μ Q ↔ Ex (d) 69 3 [some (.long x), none, some (.ref 1692), some (.int (iN n)), some (.int (iN 0))] [] μ Q := by
    simp only [x69_0, x69_1a, x69_1b, x69_1c, x69_1d, x69_5, x69_6, x69_9, x69_11, x69_12, x69_13, x69_16, x69_17, x69_19, x69_20, x69_21, x69_22, x69_25, x69_27, x69_28a, x69_28b, x69_28c, x69_31, x69_34, x69_35, mzi, mInc, mne, mlt9, mrk, mI1, mI2, mI3, mI4, mL1, mL2, mL3, mL4, mQ1, mQ2, mQ3, mQ4, mT1, mcat0, mcat1, mcat2, mcat3, mcat4, mrf1, jK_v, jK_n, JA, mz1, if_true, if_false, ite_true, ite_false, eq_self, not_false_eq_true, Nat.zero_le, true_and, and_true, and_self, Nat.reduceMod, Nat.reduceAdd, Nat.reduceLeDiff, Nat.reduceEqDiff, Nat.reduceLT, lgz]
  rw [h1]
  exact jfst_loop (P := fun k => Ex (d) 69 3 [some (.long x), none, some (.ref 1692), some (.int (iN n)), some (.int (iN k))] [] μ Q) (R := fun x => Q (.inl (some (.int x))) μ) hyes hno hend (by omega)
/-- where a name stands in a row of names -/
def kFi (g : Nat → Int64) (x : Int64) (n : Nat) : Int32 := jfst (fun k => decide (g k = x)) 0 (n - 0)
theorem kFi_c {g : Nat → Int64} {x : Int64} {n : Nat} : kFi g x n = -1 ∨ ∃ q, q < n ∧ kFi g x n = iN q := by
  rcases jfst_cases (p := fun k => decide (g k = x)) (n - 0) 0 with h | ⟨q, _, h1, h2⟩
  · exact Or.inl h
  · exact Or.inr ⟨q, by omega, h2⟩
theorem kFi_d (g : Nat → Int64) (x : Int64) (n : Nat) : jfst (fun k => decide (g k = x)) 0 (n - 0) = kFi g x n := rfl
theorem c_nameNext (hW : jWd ν) (ht : jI ν 194 7 = iN t) (h4 : t < 401) : Ex d 68 0 [some (.ref 194)] [] ν Q ↔ Q (.inl (some (.long (jL ν 542 t)))) ν := by
  have hw := hW
  unfold jWd at hw
  have t0 : ¬ iN t < 0 := iN_nn (by omega)
  have t1 : iN t < iN 401 := (iN_lt (by omega) (by omega)).mpr h4
  have tc : (iN t).toNatClampNeg = t := iN_cl (by omega)
  have tj : jin (iN t) 401 = true := iN_in (by omega) (by omega)
  simp only [x68_0, x68_1, x68_4, x68_7, x68_8, x68_11, x68_12, x68_15, x68_16, x68_19, x68_20, x68_23, x68_24, x68_27, x68_28, x68_31, x68_32, mzi, mInc, mne, mlt9, mrk, mI1, mI2, mI3, mI4, mL1, mL2, mL3, mL4, mQ1, mQ2, mQ3, mQ4, mT1, mcat0, mcat1, mcat2, mcat3, mcat4, mrf1, jK_v, jK_n, JA, mz1, if_true, if_false, ite_true, ite_false, eq_self, not_false_eq_true, Nat.zero_le, true_and, and_true, and_self, Nat.reduceMod, Nat.reduceAdd, Nat.reduceLeDiff, Nat.reduceEqDiff, Nat.reduceLT, hw, ht, t0, t1, tc, tj]
theorem c_setMean (hW : jWd ν) (ht : jI ν 194 7 = iN t) (h4 : t < 401) {v : Int32} : Ex (d + 1) 74 0 [some (.ref 194), some (.int v)] [] ν Q ↔ Q (.inl none) (jsI ν 473 t v) := by
  have hw := hW
  unfold jWd at hw
  have t0 : ¬ iN t < 0 := iN_nn (by omega)
  have t1 : iN t < iN 401 := (iN_lt (by omega) (by omega)).mpr h4
  have tc : (iN t).toNatClampNeg = t := iN_cl (by omega)
  have tj : jin (iN t) 401 = true := iN_in (by omega) (by omega)
  simp only [x74_0, x74_1, x74_4, x74_5, x74_8, x74_9, x74_12, x75_0, x75_1, x75_4, x75_5, x75_6, x75_7, x75_10, x75_11, x75_12, x75_13, x75_14, mzi, mInc, mne, mlt9, mrk, mI1, mI2, mI3, mI4, mL1, mL2, mL3, mL4, mQ1, mQ2, mQ3, mQ4, mT1, mcat0, mcat1, mcat2, mcat3, mcat4, mrf1, jK_v, jK_n, JA, mz1, if_true, if_false, ite_true, ite_false, eq_self, not_false_eq_true, Nat.zero_le, true_and, and_true, and_self, Nat.reduceMod, Nat.reduceAdd, Nat.reduceLeDiff, Nat.reduceEqDiff, Nat.reduceLT, hw, ht, t0, t1, tc, tj]
theorem c_meaning (hW : jWd ν) {i : Nat} (h4 : i < 401) : Ex d 76 0 [some (.ref 194), some (.int (iN i))] [] ν Q ↔ Q (.inl (some (.int (jI ν 473 i)))) ν := by
  have hw := hW
  unfold jWd at hw
  have t0 : ¬ iN i < 0 := iN_nn (by omega)
  have t1 : iN i < iN 401 := (iN_lt (by omega) (by omega)).mpr h4
  have tc : (iN i).toNatClampNeg = i := iN_cl (by omega)
  have tj : jin (iN i) 401 = true := iN_in (by omega) (by omega)
  simp only [x76_0, x76_1, x76_4, x76_5, x76_6, x76_9, x76_10, x76_13, x76_14, x76_17, x76_18, x76_19, x76_22, x76_23, mzi, mInc, mne, mlt9, mrk, mI1, mI2, mI3, mI4, mL1, mL2, mL3, mL4, mQ1, mQ2, mQ3, mQ4, mT1, mcat0, mcat1, mcat2, mcat3, mcat4, mrf1, jK_v, jK_n, JA, mz1, if_true, if_false, ite_true, ite_false, eq_self, not_false_eq_true, Nat.zero_le, true_and, and_true, and_self, Nat.reduceMod, Nat.reduceAdd, Nat.reduceLeDiff, Nat.reduceEqDiff, Nat.reduceLT, hw, t0, t1, tc, tj]
theorem c_lengthNext (hW : jWd ν) (ht : jI ν 194 7 = iN t) (h4 : t < 401) : Ex d 81 0 [some (.ref 194)] [] ν Q ↔ Q (.inl (some (.int (jI ν 409 t)))) ν := by
  have hw := hW
  unfold jWd at hw
  have t0 : ¬ iN t < 0 := iN_nn (by omega)
  have t1 : iN t < iN 401 := (iN_lt (by omega) (by omega)).mpr h4
  have tc : (iN t).toNatClampNeg = t := iN_cl (by omega)
  have tj : jin (iN t) 401 = true := iN_in (by omega) (by omega)
  simp only [x81_0, x81_1, x81_4, x81_7, x81_8, x81_11, x81_12, x81_15, x81_16, x81_19, x81_20, x81_23, x81_24, x81_27, x81_28, x81_31, x81_32, mzi, mInc, mne, mlt9, mrk, mI1, mI2, mI3, mI4, mL1, mL2, mL3, mL4, mQ1, mQ2, mQ3, mQ4, mT1, mcat0, mcat1, mcat2, mcat3, mcat4, mrf1, jK_v, jK_n, JA, mz1, if_true, if_false, ite_true, ite_false, eq_self, not_false_eq_true, Nat.zero_le, true_and, and_true, and_self, Nat.reduceMod, Nat.reduceAdd, Nat.reduceLeDiff, Nat.reduceEqDiff, Nat.reduceLT, hw, ht, t0, t1, tc, tj]
theorem c_newName_s (hW : jWd ν) (ht : jI ν 194 7 = iN t) (h4 : t < 401) (hn : n ≤ 6) : Ex (d + 1) 67 0 [some (.ref 1478), some (.ref 1565), some (.int (iN n)), none, none] [] ν Q ↔ if kFi (jL ν 1565) (jL ν 542 t) n = -1 then (if n < 6 then Q (.inl (some (.int 0))) (jsL ν 1565 n (jL ν 542 t)) else Q (.inl (some (.int 4))) ν) else Q (.inl (some (.int 2))) ν := by
  have hw := hW
  unfold jWd at hw
  have hx := fun d Q => c_nameNext (d := d) (Q := Q) hW ht h4
  have hf := fun d Q => c_find_s (d := d) (μ := ν) (Q := Q) (x := jL ν 542 t) hn
  simp only [kFi_d] at hf
  have n0 : ¬ iN n < 0 := iN_nn (by omega)
  have nc : (iN n).toNatClampNeg = n := iN_cl (by omega)
  by_cases g : kFi (jL ν 1565) (jL ν 542 t) n = -1
  · have g' := eq_true g
    by_cases c : n < 6
    · have c' := eq_true c
      have c2 : iN n < iN 6 := (iN_lt (by omega) (by omega)).mpr c
      have nj : jin (iN n) 6 = true := iN_in (by omega) (by omega)
      simp only [x67_0, x67_1, x67_4, x67_7a, x67_7b, x67_7c, x67_7d, x67_8, x67_9, x67_10, x67_11, x67_14, x67_15, x67_18, x67_19, x67_20, x67_21, x67_24, x67_25, x67_26, x67_27, x67_30, x67_31, x67_32, x67_33, x67_34, x67_35, x67_36, x67_37, mzi, mInc, mne, mlt9, mrk, mI1, mI2, mI3, mI4, mL1, mL2, mL3, mL4, mQ1, mQ2, mQ3, mQ4, mT1, mcat0, mcat1, mcat2, mcat3, mcat4, mrf1, jK_v, jK_n, JA, mz1, if_true, if_false, ite_true, ite_false, eq_self, not_false_eq_true, Nat.zero_le, true_and, and_true, and_self, Nat.reduceMod, Nat.reduceAdd, Nat.reduceLeDiff, Nat.reduceEqDiff, Nat.reduceLT, hw, hx, hf, g, c', n0, c2, nc, nj]
    · have c' := eq_false c
      have c2 : ¬ iN n < iN 6 := fun h => c ((iN_lt (by omega) (by omega)).mp h)
      simp only [x67_0, x67_1, x67_4, x67_7a, x67_7b, x67_7c, x67_7d, x67_8, x67_9, x67_10, x67_11, x67_14, x67_15, x67_18, x67_19, x67_20, x67_21, x67_24, x67_25, x67_26, x67_27, x67_30, x67_31, x67_32, x67_33, x67_34, x67_35, x67_36, x67_37, mzi, mInc, mne, mlt9, mrk, mI1, mI2, mI3, mI4, mL1, mL2, mL3, mL4, mQ1, mQ2, mQ3, mQ4, mT1, mcat0, mcat1, mcat2, mcat3, mcat4, mrf1, jK_v, jK_n, JA, mz1, if_true, if_false, ite_true, ite_false, eq_self, not_false_eq_true, Nat.zero_le, true_and, and_true, and_self, Nat.reduceMod, Nat.reduceAdd, Nat.reduceLeDiff, Nat.reduceEqDiff, Nat.reduceLT, hw, hx, hf, g, c', n0, c2]
  · have g' := eq_false g
    simp only [x67_0, x67_1, x67_4, x67_7a, x67_7b, x67_7c, x67_7d, x67_8, x67_9, x67_10, x67_11, x67_14, x67_15, x67_18, x67_19, x67_20, x67_21, x67_24, x67_25, x67_26, x67_27, x67_30, x67_31, x67_32, x67_33, x67_34, x67_35, x67_36, x67_37, mzi, mInc, mne, mlt9, mrk, mI1, mI2, mI3, mI4, mL1, mL2, mL3, mL4, mQ1, mQ2, mQ3, mQ4, mT1, mcat0, mcat1, mcat2, mcat3, mcat4, mrf1, jK_v, jK_n, JA, mz1, if_true, if_false, ite_true, ite_false, eq_self, not_false_eq_true, Nat.zero_le, true_and, and_true, and_self, Nat.reduceMod, Nat.reduceAdd, Nat.reduceLeDiff, Nat.reduceEqDiff, Nat.reduceLT, hw, hx, hf, g']
theorem c_oldName_s (hW : jWd ν) (ht : jI ν 194 7 = iN t) (h4 : t < 401) (hn : n ≤ 6) : Ex (d + 2) 73 0 [some (.ref 1478), some (.ref 1565), some (.int (iN n)), none] [] ν Q ↔ Q (.inl (some (.int (if kFi (jL ν 1565) (jL ν 542 t) n = -1 then 3 else 0)))) (jsI ν 473 t (kFi (jL ν 1565) (jL ν 542 t) n)) := by
  have hw := hW
  unfold jWd at hw
  have hx := fun d Q => c_nameNext (d := d) (Q := Q) hW ht h4
  have hf := fun d Q => c_find_s (d := d) (μ := ν) (Q := Q) (x := jL ν 542 t) hn
  simp only [kFi_d] at hf
  have hs := fun d v Q => c_setMean (d := d) (v := v) (Q := Q) hW ht h4
  by_cases g : kFi (jL ν 1565) (jL ν 542 t) n = -1
  · simp only [x73_0, x73_1, x73_4, x73_7, x73_8, x73_9, x73_12a, x73_12b, x73_12c, x73_13, x73_14, x73_17, x73_18, x73_21, x73_22, x73_23, x73_26, x73_27, x73_30, x73_31, mzi, mInc, mne, mlt9, mrk, mI1, mI2, mI3, mI4, mL1, mL2, mL3, mL4, mQ1, mQ2, mQ3, mQ4, mT1, mcat0, mcat1, mcat2, mcat3, mcat4, mrf1, jK_v, jK_n, JA, mz1, if_true, if_false, ite_true, ite_false, eq_self, not_false_eq_true, Nat.zero_le, true_and, and_true, and_self, Nat.reduceMod, Nat.reduceAdd, Nat.reduceLeDiff, Nat.reduceEqDiff, Nat.reduceLT, hw, hx, hf, hs, g]
  · have g' := eq_false g
    simp only [x73_0, x73_1, x73_4, x73_7, x73_8, x73_9, x73_12a, x73_12b, x73_12c, x73_13, x73_14, x73_17, x73_18, x73_21, x73_22, x73_23, x73_26, x73_27, x73_30, x73_31, mzi, mInc, mne, mlt9, mrk, mI1, mI2, mI3, mI4, mL1, mL2, mL3, mL4, mQ1, mQ2, mQ3, mQ4, mT1, mcat0, mcat1, mcat2, mcat3, mcat4, mrf1, jK_v, jK_n, JA, mz1, if_true, if_false, ite_true, ite_false, eq_self, not_false_eq_true, Nat.zero_le, true_and, and_true, and_self, Nat.reduceMod, Nat.reduceAdd, Nat.reduceLeDiff, Nat.reduceEqDiff, Nat.reduceLT, hw, hx, hf, hs, g']
theorem c_newName_l (hW : jWd ν) (ht : jI ν 194 7 = iN t) (h4 : t < 401) (hn : n ≤ 10) : Ex (d + 1) 67 0 [some (.ref 1478), some (.ref 1628), some (.int (iN n)), none, none] [] ν Q ↔ if kFi (jL ν 1628) (jL ν 542 t) n = -1 then (if n < 10 then Q (.inl (some (.int 0))) (jsL ν 1628 n (jL ν 542 t)) else Q (.inl (some (.int 4))) ν) else Q (.inl (some (.int 2))) ν := by
  have hw := hW
  unfold jWd at hw
  have hx := fun d Q => c_nameNext (d := d) (Q := Q) hW ht h4
  have hf := fun d Q => c_find_l (d := d) (μ := ν) (Q := Q) (x := jL ν 542 t) hn
  simp only [kFi_d] at hf
  have n0 : ¬ iN n < 0 := iN_nn (by omega)
  have nc : (iN n).toNatClampNeg = n := iN_cl (by omega)
  by_cases g : kFi (jL ν 1628) (jL ν 542 t) n = -1
  · have g' := eq_true g
    by_cases c : n < 10
    · have c' := eq_true c
      have c2 : iN n < iN 10 := (iN_lt (by omega) (by omega)).mpr c
      have nj : jin (iN n) 10 = true := iN_in (by omega) (by omega)
      simp only [x67_0, x67_1, x67_4, x67_7a, x67_7b, x67_7c, x67_7d, x67_8, x67_9, x67_10, x67_11, x67_14, x67_15, x67_18, x67_19, x67_20, x67_21, x67_24, x67_25, x67_26, x67_27, x67_30, x67_31, x67_32, x67_33, x67_34, x67_35, x67_36, x67_37, mzi, mInc, mne, mlt9, mrk, mI1, mI2, mI3, mI4, mL1, mL2, mL3, mL4, mQ1, mQ2, mQ3, mQ4, mT1, mcat0, mcat1, mcat2, mcat3, mcat4, mrf1, jK_v, jK_n, JA, mz1, if_true, if_false, ite_true, ite_false, eq_self, not_false_eq_true, Nat.zero_le, true_and, and_true, and_self, Nat.reduceMod, Nat.reduceAdd, Nat.reduceLeDiff, Nat.reduceEqDiff, Nat.reduceLT, hw, hx, hf, g, c', n0, c2, nc, nj]
    · have c' := eq_false c
      have c2 : ¬ iN n < iN 10 := fun h => c ((iN_lt (by omega) (by omega)).mp h)
      simp only [x67_0, x67_1, x67_4, x67_7a, x67_7b, x67_7c, x67_7d, x67_8, x67_9, x67_10, x67_11, x67_14, x67_15, x67_18, x67_19, x67_20, x67_21, x67_24, x67_25, x67_26, x67_27, x67_30, x67_31, x67_32, x67_33, x67_34, x67_35, x67_36, x67_37, mzi, mInc, mne, mlt9, mrk, mI1, mI2, mI3, mI4, mL1, mL2, mL3, mL4, mQ1, mQ2, mQ3, mQ4, mT1, mcat0, mcat1, mcat2, mcat3, mcat4, mrf1, jK_v, jK_n, JA, mz1, if_true, if_false, ite_true, ite_false, eq_self, not_false_eq_true, Nat.zero_le, true_and, and_true, and_self, Nat.reduceMod, Nat.reduceAdd, Nat.reduceLeDiff, Nat.reduceEqDiff, Nat.reduceLT, hw, hx, hf, g, c', n0, c2]
  · have g' := eq_false g
    simp only [x67_0, x67_1, x67_4, x67_7a, x67_7b, x67_7c, x67_7d, x67_8, x67_9, x67_10, x67_11, x67_14, x67_15, x67_18, x67_19, x67_20, x67_21, x67_24, x67_25, x67_26, x67_27, x67_30, x67_31, x67_32, x67_33, x67_34, x67_35, x67_36, x67_37, mzi, mInc, mne, mlt9, mrk, mI1, mI2, mI3, mI4, mL1, mL2, mL3, mL4, mQ1, mQ2, mQ3, mQ4, mT1, mcat0, mcat1, mcat2, mcat3, mcat4, mrf1, jK_v, jK_n, JA, mz1, if_true, if_false, ite_true, ite_false, eq_self, not_false_eq_true, Nat.zero_le, true_and, and_true, and_self, Nat.reduceMod, Nat.reduceAdd, Nat.reduceLeDiff, Nat.reduceEqDiff, Nat.reduceLT, hw, hx, hf, g']
theorem c_oldName_l (hW : jWd ν) (ht : jI ν 194 7 = iN t) (h4 : t < 401) (hn : n ≤ 10) : Ex (d + 2) 73 0 [some (.ref 1478), some (.ref 1628), some (.int (iN n)), none] [] ν Q ↔ Q (.inl (some (.int (if kFi (jL ν 1628) (jL ν 542 t) n = -1 then 3 else 0)))) (jsI ν 473 t (kFi (jL ν 1628) (jL ν 542 t) n)) := by
  have hw := hW
  unfold jWd at hw
  have hx := fun d Q => c_nameNext (d := d) (Q := Q) hW ht h4
  have hf := fun d Q => c_find_l (d := d) (μ := ν) (Q := Q) (x := jL ν 542 t) hn
  simp only [kFi_d] at hf
  have hs := fun d v Q => c_setMean (d := d) (v := v) (Q := Q) hW ht h4
  by_cases g : kFi (jL ν 1628) (jL ν 542 t) n = -1
  · simp only [x73_0, x73_1, x73_4, x73_7, x73_8, x73_9, x73_12a, x73_12b, x73_12c, x73_13, x73_14, x73_17, x73_18, x73_21, x73_22, x73_23, x73_26, x73_27, x73_30, x73_31, mzi, mInc, mne, mlt9, mrk, mI1, mI2, mI3, mI4, mL1, mL2, mL3, mL4, mQ1, mQ2, mQ3, mQ4, mT1, mcat0, mcat1, mcat2, mcat3, mcat4, mrf1, jK_v, jK_n, JA, mz1, if_true, if_false, ite_true, ite_false, eq_self, not_false_eq_true, Nat.zero_le, true_and, and_true, and_self, Nat.reduceMod, Nat.reduceAdd, Nat.reduceLeDiff, Nat.reduceEqDiff, Nat.reduceLT, hw, hx, hf, hs, g]
  · have g' := eq_false g
    simp only [x73_0, x73_1, x73_4, x73_7, x73_8, x73_9, x73_12a, x73_12b, x73_12c, x73_13, x73_14, x73_17, x73_18, x73_21, x73_22, x73_23, x73_26, x73_27, x73_30, x73_31, mzi, mInc, mne, mlt9, mrk, mI1, mI2, mI3, mI4, mL1, mL2, mL3, mL4, mQ1, mQ2, mQ3, mQ4, mT1, mcat0, mcat1, mcat2, mcat3, mcat4, mrf1, jK_v, jK_n, JA, mz1, if_true, if_false, ite_true, ite_false, eq_self, not_false_eq_true, Nat.zero_le, true_and, and_true, and_self, Nat.reduceMod, Nat.reduceAdd, Nat.reduceLeDiff, Nat.reduceEqDiff, Nat.reduceLT, hw, hx, hf, hs, g']
theorem c_newName_t (hW : jWd ν) (ht : jI ν 194 7 = iN t) (h4 : t < 401) (hn : n ≤ 10) : Ex (d + 1) 67 0 [some (.ref 1478), some (.ref 1692), some (.int (iN n)), none, none] [] ν Q ↔ if kFi (jL ν 1692) (jL ν 542 t) n = -1 then (if n < 10 then Q (.inl (some (.int 0))) (jsL ν 1692 n (jL ν 542 t)) else Q (.inl (some (.int 4))) ν) else Q (.inl (some (.int 2))) ν := by
  have hw := hW
  unfold jWd at hw
  have hx := fun d Q => c_nameNext (d := d) (Q := Q) hW ht h4
  have hf := fun d Q => c_find_t (d := d) (μ := ν) (Q := Q) (x := jL ν 542 t) hn
  simp only [kFi_d] at hf
  have n0 : ¬ iN n < 0 := iN_nn (by omega)
  have nc : (iN n).toNatClampNeg = n := iN_cl (by omega)
  by_cases g : kFi (jL ν 1692) (jL ν 542 t) n = -1
  · have g' := eq_true g
    by_cases c : n < 10
    · have c' := eq_true c
      have c2 : iN n < iN 10 := (iN_lt (by omega) (by omega)).mpr c
      have nj : jin (iN n) 10 = true := iN_in (by omega) (by omega)
      simp only [x67_0, x67_1, x67_4, x67_7a, x67_7b, x67_7c, x67_7d, x67_8, x67_9, x67_10, x67_11, x67_14, x67_15, x67_18, x67_19, x67_20, x67_21, x67_24, x67_25, x67_26, x67_27, x67_30, x67_31, x67_32, x67_33, x67_34, x67_35, x67_36, x67_37, mzi, mInc, mne, mlt9, mrk, mI1, mI2, mI3, mI4, mL1, mL2, mL3, mL4, mQ1, mQ2, mQ3, mQ4, mT1, mcat0, mcat1, mcat2, mcat3, mcat4, mrf1, jK_v, jK_n, JA, mz1, if_true, if_false, ite_true, ite_false, eq_self, not_false_eq_true, Nat.zero_le, true_and, and_true, and_self, Nat.reduceMod, Nat.reduceAdd, Nat.reduceLeDiff, Nat.reduceEqDiff, Nat.reduceLT, hw, hx, hf, g, c', n0, c2, nc, nj]
    · have c' := eq_false c
      have c2 : ¬ iN n < iN 10 := fun h => c ((iN_lt (by omega) (by omega)).mp h)
      simp only [x67_0, x67_1, x67_4, x67_7a, x67_7b, x67_7c, x67_7d, x67_8, x67_9, x67_10, x67_11, x67_14, x67_15, x67_18, x67_19, x67_20, x67_21, x67_24, x67_25, x67_26, x67_27, x67_30, x67_31, x67_32, x67_33, x67_34, x67_35, x67_36, x67_37, mzi, mInc, mne, mlt9, mrk, mI1, mI2, mI3, mI4, mL1, mL2, mL3, mL4, mQ1, mQ2, mQ3, mQ4, mT1, mcat0, mcat1, mcat2, mcat3, mcat4, mrf1, jK_v, jK_n, JA, mz1, if_true, if_false, ite_true, ite_false, eq_self, not_false_eq_true, Nat.zero_le, true_and, and_true, and_self, Nat.reduceMod, Nat.reduceAdd, Nat.reduceLeDiff, Nat.reduceEqDiff, Nat.reduceLT, hw, hx, hf, g, c', n0, c2]
  · have g' := eq_false g
    simp only [x67_0, x67_1, x67_4, x67_7a, x67_7b, x67_7c, x67_7d, x67_8, x67_9, x67_10, x67_11, x67_14, x67_15, x67_18, x67_19, x67_20, x67_21, x67_24, x67_25, x67_26, x67_27, x67_30, x67_31, x67_32, x67_33, x67_34, x67_35, x67_36, x67_37, mzi, mInc, mne, mlt9, mrk, mI1, mI2, mI3, mI4, mL1, mL2, mL3, mL4, mQ1, mQ2, mQ3, mQ4, mT1, mcat0, mcat1, mcat2, mcat3, mcat4, mrf1, jK_v, jK_n, JA, mz1, if_true, if_false, ite_true, ite_false, eq_self, not_false_eq_true, Nat.zero_le, true_and, and_true, and_self, Nat.reduceMod, Nat.reduceAdd, Nat.reduceLeDiff, Nat.reduceEqDiff, Nat.reduceLT, hw, hx, hf, g']
theorem c_oldName_t (hW : jWd ν) (ht : jI ν 194 7 = iN t) (h4 : t < 401) (hn : n ≤ 10) : Ex (d + 2) 73 0 [some (.ref 1478), some (.ref 1692), some (.int (iN n)), none] [] ν Q ↔ Q (.inl (some (.int (if kFi (jL ν 1692) (jL ν 542 t) n = -1 then 3 else 0)))) (jsI ν 473 t (kFi (jL ν 1692) (jL ν 542 t) n)) := by
  have hw := hW
  unfold jWd at hw
  have hx := fun d Q => c_nameNext (d := d) (Q := Q) hW ht h4
  have hf := fun d Q => c_find_t (d := d) (μ := ν) (Q := Q) (x := jL ν 542 t) hn
  simp only [kFi_d] at hf
  have hs := fun d v Q => c_setMean (d := d) (v := v) (Q := Q) hW ht h4
  by_cases g : kFi (jL ν 1692) (jL ν 542 t) n = -1
  · simp only [x73_0, x73_1, x73_4, x73_7, x73_8, x73_9, x73_12a, x73_12b, x73_12c, x73_13, x73_14, x73_17, x73_18, x73_21, x73_22, x73_23, x73_26, x73_27, x73_30, x73_31, mzi, mInc, mne, mlt9, mrk, mI1, mI2, mI3, mI4, mL1, mL2, mL3, mL4, mQ1, mQ2, mQ3, mQ4, mT1, mcat0, mcat1, mcat2, mcat3, mcat4, mrf1, jK_v, jK_n, JA, mz1, if_true, if_false, ite_true, ite_false, eq_self, not_false_eq_true, Nat.zero_le, true_and, and_true, and_self, Nat.reduceMod, Nat.reduceAdd, Nat.reduceLeDiff, Nat.reduceEqDiff, Nat.reduceLT, hw, hx, hf, hs, g]
  · have g' := eq_false g
    simp only [x73_0, x73_1, x73_4, x73_7, x73_8, x73_9, x73_12a, x73_12b, x73_12c, x73_13, x73_14, x73_17, x73_18, x73_21, x73_22, x73_23, x73_26, x73_27, x73_30, x73_31, mzi, mInc, mne, mlt9, mrk, mI1, mI2, mI3, mI4, mL1, mL2, mL3, mL4, mQ1, mQ2, mQ3, mQ4, mT1, mcat0, mcat1, mcat2, mcat3, mcat4, mrf1, jK_v, jK_n, JA, mz1, if_true, if_false, ite_true, ite_false, eq_self, not_false_eq_true, Nat.zero_le, true_and, and_true, and_self, Nat.reduceMod, Nat.reduceAdd, Nat.reduceLeDiff, Nat.reduceEqDiff, Nat.reduceLT, hw, hx, hf, hs, g']
theorem c_new_s (hW : jWd ν) (ht : jI ν 194 7 = iN t) (h4 : t < 401) (hc : jI ν 579 0 = iN n) (hn : n ≤ 6) : Ex (d + 2) 66 0 [some (.ref 1478), none] [] ν Q ↔ if kFi (jL ν 1565) (jL ν 542 t) n = -1 then (if n < 6 then Q (.inl (some (.int 0))) (jsI (jsL ν 1565 n (jL ν 542 t)) 579 0 (iN (n + 1))) else Q (.inl (some (.int 4))) ν) else Q (.inl (some (.int 2))) ν := by
  have hw := hW
  unfold jWd at hw
  have hf := fun d Q => c_newName_s (d := d) (Q := Q) hW ht h4 hn
  by_cases g : kFi (jL ν 1565) (jL ν 542 t) n = -1
  · by_cases c : n < 6
    · have c' := eq_true c
      simp only [x66_0, x66_1, x66_2, x66_5, x66_6, x66_9, x66_12, x66_15a, x66_15b, x66_15c, x66_16, x66_17, x66_20, x66_21, x66_24a, x66_24b, x66_25, x66_28, x66_29, x66_30, x66_33, x66_34, mzi, mInc, mne, mlt9, mrk, mI1, mI2, mI3, mI4, mL1, mL2, mL3, mL4, mQ1, mQ2, mQ3, mQ4, mT1, mcat0, mcat1, mcat2, mcat3, mcat4, mrf1, jK_v, jK_n, JA, mz1, if_true, if_false, ite_true, ite_false, eq_self, not_false_eq_true, Nat.zero_le, true_and, and_true, and_self, Nat.reduceMod, Nat.reduceAdd, Nat.reduceLeDiff, Nat.reduceEqDiff, Nat.reduceLT, hw, hc, hf, g, c', zE]
    · have c' := eq_false c
      simp only [x66_0, x66_1, x66_2, x66_5, x66_6, x66_9, x66_12, x66_15a, x66_15b, x66_15c, x66_16, x66_17, x66_20, x66_21, x66_24a, x66_24b, x66_25, x66_28, x66_29, x66_30, x66_33, x66_34, mzi, mInc, mne, mlt9, mrk, mI1, mI2, mI3, mI4, mL1, mL2, mL3, mL4, mQ1, mQ2, mQ3, mQ4, mT1, mcat0, mcat1, mcat2, mcat3, mcat4, mrf1, jK_v, jK_n, JA, mz1, if_true, if_false, ite_true, ite_false, eq_self, not_false_eq_true, Nat.zero_le, true_and, and_true, and_self, Nat.reduceMod, Nat.reduceAdd, Nat.reduceLeDiff, Nat.reduceEqDiff, Nat.reduceLT, hw, hc, hf, g, c', zE]
  · have g' := eq_false g
    simp only [x66_0, x66_1, x66_2, x66_5, x66_6, x66_9, x66_12, x66_15a, x66_15b, x66_15c, x66_16, x66_17, x66_20, x66_21, x66_24a, x66_24b, x66_25, x66_28, x66_29, x66_30, x66_33, x66_34, mzi, mInc, mne, mlt9, mrk, mI1, mI2, mI3, mI4, mL1, mL2, mL3, mL4, mQ1, mQ2, mQ3, mQ4, mT1, mcat0, mcat1, mcat2, mcat3, mcat4, mrf1, jK_v, jK_n, JA, mz1, if_true, if_false, ite_true, ite_false, eq_self, not_false_eq_true, Nat.zero_le, true_and, and_true, and_self, Nat.reduceMod, Nat.reduceAdd, Nat.reduceLeDiff, Nat.reduceEqDiff, Nat.reduceLT, hw, hc, hf, g', zE]
theorem c_new_l (hW : jWd ν) (ht : jI ν 194 7 = iN t) (h4 : t < 401) (hc : jI ν 579 1 = iN n) (hn : n ≤ 10) : Ex (d + 2) 70 0 [some (.ref 1478), none] [] ν Q ↔ if kFi (jL ν 1628) (jL ν 542 t) n = -1 then (if n < 10 then Q (.inl (some (.int 0))) (jsI (jsL ν 1628 n (jL ν 542 t)) 579 1 (iN (n + 1))) else Q (.inl (some (.int 4))) ν) else Q (.inl (some (.int 2))) ν := by
  have hw := hW
  unfold jWd at hw
  have hf := fun d Q => c_newName_l (d := d) (Q := Q) hW ht h4 hn
  by_cases g : kFi (jL ν 1628) (jL ν 542 t) n = -1
  · by_cases c : n < 10
    · have c' := eq_true c
      simp only [x70_0, x70_1, x70_2, x70_5, x70_6, x70_9, x70_12, x70_15a, x70_15b, x70_15c, x70_16, x70_17, x70_20, x70_21, x70_24a, x70_24b, x70_25, x70_28, x70_29, x70_30, x70_33, x70_34, mzi, mInc, mne, mlt9, mrk, mI1, mI2, mI3, mI4, mL1, mL2, mL3, mL4, mQ1, mQ2, mQ3, mQ4, mT1, mcat0, mcat1, mcat2, mcat3, mcat4, mrf1, jK_v, jK_n, JA, mz1, if_true, if_false, ite_true, ite_false, eq_self, not_false_eq_true, Nat.zero_le, true_and, and_true, and_self, Nat.reduceMod, Nat.reduceAdd, Nat.reduceLeDiff, Nat.reduceEqDiff, Nat.reduceLT, hw, hc, hf, g, c', zE]
    · have c' := eq_false c
      simp only [x70_0, x70_1, x70_2, x70_5, x70_6, x70_9, x70_12, x70_15a, x70_15b, x70_15c, x70_16, x70_17, x70_20, x70_21, x70_24a, x70_24b, x70_25, x70_28, x70_29, x70_30, x70_33, x70_34, mzi, mInc, mne, mlt9, mrk, mI1, mI2, mI3, mI4, mL1, mL2, mL3, mL4, mQ1, mQ2, mQ3, mQ4, mT1, mcat0, mcat1, mcat2, mcat3, mcat4, mrf1, jK_v, jK_n, JA, mz1, if_true, if_false, ite_true, ite_false, eq_self, not_false_eq_true, Nat.zero_le, true_and, and_true, and_self, Nat.reduceMod, Nat.reduceAdd, Nat.reduceLeDiff, Nat.reduceEqDiff, Nat.reduceLT, hw, hc, hf, g, c', zE]
  · have g' := eq_false g
    simp only [x70_0, x70_1, x70_2, x70_5, x70_6, x70_9, x70_12, x70_15a, x70_15b, x70_15c, x70_16, x70_17, x70_20, x70_21, x70_24a, x70_24b, x70_25, x70_28, x70_29, x70_30, x70_33, x70_34, mzi, mInc, mne, mlt9, mrk, mI1, mI2, mI3, mI4, mL1, mL2, mL3, mL4, mQ1, mQ2, mQ3, mQ4, mT1, mcat0, mcat1, mcat2, mcat3, mcat4, mrf1, jK_v, jK_n, JA, mz1, if_true, if_false, ite_true, ite_false, eq_self, not_false_eq_true, Nat.zero_le, true_and, and_true, and_self, Nat.reduceMod, Nat.reduceAdd, Nat.reduceLeDiff, Nat.reduceEqDiff, Nat.reduceLT, hw, hc, hf, g', zE]
theorem c_new_t (hW : jWd ν) (ht : jI ν 194 7 = iN t) (h4 : t < 401) (hc : jI ν 579 2 = iN n) (hn : n ≤ 10) : Ex (d + 2) 71 0 [some (.ref 1478), none] [] ν Q ↔ if kFi (jL ν 1692) (jL ν 542 t) n = -1 then (if n < 10 then Q (.inl (some (.int 0))) (jsI (jsL ν 1692 n (jL ν 542 t)) 579 2 (iN (n + 1))) else Q (.inl (some (.int 4))) ν) else Q (.inl (some (.int 2))) ν := by
  have hw := hW
  unfold jWd at hw
  have hf := fun d Q => c_newName_t (d := d) (Q := Q) hW ht h4 hn
  by_cases g : kFi (jL ν 1692) (jL ν 542 t) n = -1
  · by_cases c : n < 10
    · have c' := eq_true c
      simp only [x71_0, x71_1, x71_2, x71_5, x71_6, x71_9, x71_12, x71_15a, x71_15b, x71_15c, x71_16, x71_17, x71_20, x71_21, x71_24a, x71_24b, x71_25, x71_28, x71_29, x71_30, x71_33, x71_34, mzi, mInc, mne, mlt9, mrk, mI1, mI2, mI3, mI4, mL1, mL2, mL3, mL4, mQ1, mQ2, mQ3, mQ4, mT1, mcat0, mcat1, mcat2, mcat3, mcat4, mrf1, jK_v, jK_n, JA, mz1, if_true, if_false, ite_true, ite_false, eq_self, not_false_eq_true, Nat.zero_le, true_and, and_true, and_self, Nat.reduceMod, Nat.reduceAdd, Nat.reduceLeDiff, Nat.reduceEqDiff, Nat.reduceLT, hw, hc, hf, g, c', zE]
    · have c' := eq_false c
      simp only [x71_0, x71_1, x71_2, x71_5, x71_6, x71_9, x71_12, x71_15a, x71_15b, x71_15c, x71_16, x71_17, x71_20, x71_21, x71_24a, x71_24b, x71_25, x71_28, x71_29, x71_30, x71_33, x71_34, mzi, mInc, mne, mlt9, mrk, mI1, mI2, mI3, mI4, mL1, mL2, mL3, mL4, mQ1, mQ2, mQ3, mQ4, mT1, mcat0, mcat1, mcat2, mcat3, mcat4, mrf1, jK_v, jK_n, JA, mz1, if_true, if_false, ite_true, ite_false, eq_self, not_false_eq_true, Nat.zero_le, true_and, and_true, and_self, Nat.reduceMod, Nat.reduceAdd, Nat.reduceLeDiff, Nat.reduceEqDiff, Nat.reduceLT, hw, hc, hf, g, c', zE]
  · have g' := eq_false g
    simp only [x71_0, x71_1, x71_2, x71_5, x71_6, x71_9, x71_12, x71_15a, x71_15b, x71_15c, x71_16, x71_17, x71_20, x71_21, x71_24a, x71_24b, x71_25, x71_28, x71_29, x71_30, x71_33, x71_34, mzi, mInc, mne, mlt9, mrk, mI1, mI2, mI3, mI4, mL1, mL2, mL3, mL4, mQ1, mQ2, mQ3, mQ4, mT1, mcat0, mcat1, mcat2, mcat3, mcat4, mrf1, jK_v, jK_n, JA, mz1, if_true, if_false, ite_true, ite_false, eq_self, not_false_eq_true, Nat.zero_le, true_and, and_true, and_self, Nat.reduceMod, Nat.reduceAdd, Nat.reduceLeDiff, Nat.reduceEqDiff, Nat.reduceLT, hw, hc, hf, g', zE]
end MEANC
