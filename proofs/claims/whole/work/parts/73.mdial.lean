/-! THE PURE PART: dialling (reference). -/
section C23
variable {d : Nat} {μ : jM} {Q : jO → jM → Prop} {n p a w : Nat}
def kDlMs (μ : jM) (l : Nat) (c : Int32) : jM := jsI (jsI μ 5968 l (10 * jI μ 5968 l + c)) 6032 l (jI μ 6032 l + 1)
theorem d_dialFs {l : Nat} {c : Int32} (hM : jMp μ p) (hn : jI μ (64 * p + 11) 2 = iN n) (h10 : n ≤ 10) (hl : l < 10) (hd : jI μ 6032 l = iN a) (ha : a + 1 < 2 ^ 30) (hb : ∀ k, k < n → ∃ b, b < 100 ∧ jI μ (64 * p + 272) k = iN b) : (∀ a, ¬ a = 5968 → ¬ a = 6032 → jI (kDlMs μ l c) a = jI μ a) ∧ jI (kDlMs μ l c) 5968 l = 10 * jI μ 5968 l + c ∧ jI (kDlMs μ l c) 6032 l = jI μ 6032 l + 1 ∧
    (∀ (d : Nat) (Q : jO → jM → Prop), Ex d 164 0 [some (.ref 5836), some (.int (iN l)), none] [] (kDlMs μ l c) Q ↔ Q (.inl (some (.int (jfst (fun k => decide (0 < jI μ 6032 l + 1 ∧ jI μ (64 * p + 272) k = jI μ 6032 l + 1 ∧ jI μ (64 * p + 208) k = 10 * jI μ 5968 l + c)) 0 (n - 0))))) (kDlMs μ l c)) ∧
    (∀ (d : Nat) (Q : jO → jM → Prop), Ex d 165 0 [some (.ref 5836), some (.int (iN l)), none, none, none] [] (kDlMs μ l c) Q ↔ Q (.inl (some (.int (bif jany (fun k => decide (¬ jI μ (64 * p + 272) k < jI μ 6032 l + 1 ∧ jcut (jI μ (64 * p + 208) k) (jI μ (64 * p + 272) k - (jI μ 6032 l + 1)) = 10 * jI μ 5968 l + c)) 0 n then 1 else 0)))) (kDlMs μ l c)) := by
  have hne := jPne hM.2.1
  have hI : ∀ a, ¬ a = 5968 → ¬ a = 6032 → jI (kDlMs μ l c) a = jI μ a := by
    intro a h1 h2
    unfold kDlMs
    rw [mI2 h2, mI2 h1]
  have hP : ∀ c', c' < 900 → jI (kDlMs μ l c) (64 * p + c') = jI μ (64 * p + c') := fun c' h => hI _ (hne c' 5968 h (by decide) (by decide)) (hne c' 6032 h (by decide) (by decide))
  have hN : jI (kDlMs μ l c) 5968 l = 10 * jI μ 5968 l + c := by
    unfold kDlMs
    simp only [mI1, mI2, Nat.reduceEqDiff, not_false_eq_true, if_true]
  have hD : jI (kDlMs μ l c) 6032 l = jI μ 6032 l + 1 := by
    unfold kDlMs
    simp only [mI1, if_true]
  have hM1 : jMp (kDlMs μ l c) p := jMp_c (by unfold kDlMs; simp only [mI4]) hM
  refine ⟨hI, hN, hD, fun d Q => ?_, fun d Q => ?_⟩
  · have h := d_calleds (d := d) (μ := kDlMs μ l c) (Q := Q) (n := n) hl hM1 (by rw [hP 11 (by decide)]; exact hn) h10
    rw [hD, hN, hP 272 (by decide), hP 208 (by decide)] at h
    exact h
  · have h := d_beginss (d := d) (μ := kDlMs μ l c) (Q := Q) (n := n) (a := a + 1) (l := l) hM1 (by rw [hP 11 (by decide)]; exact hn) h10 hl (by rw [hD, hd, mInc]) ha (by rw [hP 272 (by decide)]; exact hb)
    rw [hD, hN, hP 272 (by decide), hP 208 (by decide)] at h
    exact h
theorem d_dial0s {l : Nat} {c : Int32} (hM : jMp μ p) (hn : jI μ (64 * p + 11) 2 = iN n) (h10 : n ≤ 10) (hl : l < 10) (hd : jI μ 6032 l = iN a) (ha : a + 1 < 2 ^ 30) (hb : ∀ k, k < n → ∃ b, b < 100 ∧ jI μ (64 * p + 272) k = iN b) {k : Nat} (hk : k < 10) (hw1 : jI μ 5836 7 = iN w) (hw2 : w < 10) (hc : jfst (fun k => decide (0 < jI μ 6032 l + 1 ∧ jI μ (64 * p + 272) k = jI μ 6032 l + 1 ∧ jI μ (64 * p + 208) k = 10 * jI μ 5968 l + c)) 0 (n - 0) = iN k) : Ex (d + 1) 163 0 [some (.ref 5836), some (.int (iN l)), some (.int c)] [] μ Q ↔ Q (.inl (some (.int (2)))) (jsI (jsI (jsI (kDlMs μ l c) 5904 l 2) 6160 w (iN l)) 5836 7 (iN (w + 1))) := by
  obtain ⟨hI, hN, hD, hca, hbe⟩ := d_dialFs (c := c) hM hn h10 hl hd ha hb
  have hw := hM.1
  unfold jWd at hw
  have lc : (iN l).toNatClampNeg = l := iN_cl (by omega)
  have lj : jin (iN l) 10 = true := iN_in (by omega) (by omega)
  have hQ : jQ (kDlMs μ l c) = jQ μ := by
    unfold kDlMs
    simp only [mI4]
  have h1 : ∀ m, jsI (jsI μ 5968 l (10 * jI μ 5968 l + c)) 6032 l m = jsI (jsI μ 5968 l (10 * jI μ 5968 l + c)) 6032 l m := fun _ => rfl
  have hk0 : jsI (jsI μ 5968 l (10 * jI μ 5968 l + c)) 6032 l (jI μ 6032 l + 1) = kDlMs μ l c := rfl
  have hn1 := iN_n1 (q := k) (by omega)
  have wc : (iN w).toNatClampNeg = w := iN_cl (by omega)
  have wj : jin (iN w) 10 = true := iN_in (by omega) (by omega)
  simp only [x163_0, x163_1, x163_4, x163_5, x163_7, x163_8, x163_11, x163_12, x163_13, x163_14, x163_15, x163_16, x163_17, x163_18, x163_21, x163_22a, x163_22b, x163_23, x163_24, x163_25, x163_26, x163_27, x163_28, x163_29, x163_32, x163_33, x163_36, x163_37, x163_40, x163_41, x163_42, x163_43, x163_44, x163_47, x163_48, x163_51, x163_52, x163_53, x163_54a, x163_54b, x163_55, x163_58, x163_59, x163_60, x163_63, x163_66, x163_67, x163_68, x163_71, x163_74, x163_75, x163_78, x163_79, x163_81, x163_82, x163_83, x163_86, x163_87, x163_88, mzi, mInc, mne, mlt9, mrk, mI1, mI2, mI3, mI4, mL1, mL2, mL3, mL4, mQ1, mQ2, mQ3, mQ4, mT1, mcat0, mcat1, mcat2, mcat3, mcat4, mrf1, jK_v, jK_n, JA, mz1, if_true, if_false, ite_true, ite_false, eq_self, not_false_eq_true, Nat.zero_le, true_and, and_true, and_self, Nat.reduceMod, Nat.reduceAdd, Nat.reduceLeDiff, Nat.reduceEqDiff, Nat.reduceLT, hw, lc, lj, hk0, hI, hQ, hca, hbe, hn1, hw1, wc, wj, hc]
theorem d_dial1s {l : Nat} {c : Int32} (hM : jMp μ p) (hn : jI μ (64 * p + 11) 2 = iN n) (h10 : n ≤ 10) (hl : l < 10) (hd : jI μ 6032 l = iN a) (ha : a + 1 < 2 ^ 30) (hb : ∀ k, k < n → ∃ b, b < 100 ∧ jI μ (64 * p + 272) k = iN b) (hc : jfst (fun k => decide (0 < jI μ 6032 l + 1 ∧ jI μ (64 * p + 272) k = jI μ 6032 l + 1 ∧ jI μ (64 * p + 208) k = 10 * jI μ 5968 l + c)) 0 (n - 0) = -1) (hg : jany (fun k => decide (¬ jI μ (64 * p + 272) k < jI μ 6032 l + 1 ∧ jcut (jI μ (64 * p + 208) k) (jI μ (64 * p + 272) k - (jI μ 6032 l + 1)) = 10 * jI μ 5968 l + c)) 0 n = true) : Ex (d + 1) 163 0 [some (.ref 5836), some (.int (iN l)), some (.int c)] [] μ Q ↔ Q (.inl (some (.int (jI μ 5904 l)))) (kDlMs μ l c) := by
  obtain ⟨hI, hN, hD, hca, hbe⟩ := d_dialFs (c := c) hM hn h10 hl hd ha hb
  have hw := hM.1
  unfold jWd at hw
  have lc : (iN l).toNatClampNeg = l := iN_cl (by omega)
  have lj : jin (iN l) 10 = true := iN_in (by omega) (by omega)
  have hQ : jQ (kDlMs μ l c) = jQ μ := by
    unfold kDlMs
    simp only [mI4]
  have h1 : ∀ m, jsI (jsI μ 5968 l (10 * jI μ 5968 l + c)) 6032 l m = jsI (jsI μ 5968 l (10 * jI μ 5968 l + c)) 6032 l m := fun _ => rfl
  have hk0 : jsI (jsI μ 5968 l (10 * jI μ 5968 l + c)) 6032 l (jI μ 6032 l + 1) = kDlMs μ l c := rfl
  simp only [x163_0, x163_1, x163_4, x163_5, x163_7, x163_8, x163_11, x163_12, x163_13, x163_14, x163_15, x163_16, x163_17, x163_18, x163_21, x163_22a, x163_22b, x163_23, x163_24, x163_25, x163_26, x163_27, x163_28, x163_29, x163_32, x163_33, x163_36, x163_37, x163_40, x163_41, x163_42, x163_43, x163_44, x163_47, x163_48, x163_51, x163_52, x163_53, x163_54a, x163_54b, x163_55, x163_58, x163_59, x163_60, x163_63, x163_66, x163_67, x163_68, x163_71, x163_74, x163_75, x163_78, x163_79, x163_81, x163_82, x163_83, x163_86, x163_87, x163_88, mzi, mInc, mne, mlt9, mrk, mI1, mI2, mI3, mI4, mL1, mL2, mL3, mL4, mQ1, mQ2, mQ3, mQ4, mT1, mcat0, mcat1, mcat2, mcat3, mcat4, mrf1, jK_v, jK_n, JA, mz1, if_true, if_false, ite_true, ite_false, eq_self, not_false_eq_true, Nat.zero_le, true_and, and_true, and_self, Nat.reduceMod, Nat.reduceAdd, Nat.reduceLeDiff, Nat.reduceEqDiff, Nat.reduceLT, hw, lc, lj, hk0, hI, hQ, hca, hbe, hc, hg, cond_true]
theorem d_dial2s {l : Nat} {c : Int32} (hM : jMp μ p) (hn : jI μ (64 * p + 11) 2 = iN n) (h10 : n ≤ 10) (hl : l < 10) (hd : jI μ 6032 l = iN a) (ha : a + 1 < 2 ^ 30) (hb : ∀ k, k < n → ∃ b, b < 100 ∧ jI μ (64 * p + 272) k = iN b) (hc : jfst (fun k => decide (0 < jI μ 6032 l + 1 ∧ jI μ (64 * p + 272) k = jI μ 6032 l + 1 ∧ jI μ (64 * p + 208) k = 10 * jI μ 5968 l + c)) 0 (n - 0) = -1) (hg : jany (fun k => decide (¬ jI μ (64 * p + 272) k < jI μ 6032 l + 1 ∧ jcut (jI μ (64 * p + 208) k) (jI μ (64 * p + 272) k - (jI μ 6032 l + 1)) = 10 * jI μ 5968 l + c)) 0 n = false) : Ex (d + 1) 163 0 [some (.ref 5836), some (.int (iN l)), some (.int c)] [] μ Q ↔ Q (.inl (some (.int (7)))) (jsI (kDlMs μ l c) 5904 l 7) := by
  obtain ⟨hI, hN, hD, hca, hbe⟩ := d_dialFs (c := c) hM hn h10 hl hd ha hb
  have hw := hM.1
  unfold jWd at hw
  have lc : (iN l).toNatClampNeg = l := iN_cl (by omega)
  have lj : jin (iN l) 10 = true := iN_in (by omega) (by omega)
  have hQ : jQ (kDlMs μ l c) = jQ μ := by
    unfold kDlMs
    simp only [mI4]
  have h1 : ∀ m, jsI (jsI μ 5968 l (10 * jI μ 5968 l + c)) 6032 l m = jsI (jsI μ 5968 l (10 * jI μ 5968 l + c)) 6032 l m := fun _ => rfl
  have hk0 : jsI (jsI μ 5968 l (10 * jI μ 5968 l + c)) 6032 l (jI μ 6032 l + 1) = kDlMs μ l c := rfl
  simp only [x163_0, x163_1, x163_4, x163_5, x163_7, x163_8, x163_11, x163_12, x163_13, x163_14, x163_15, x163_16, x163_17, x163_18, x163_21, x163_22a, x163_22b, x163_23, x163_24, x163_25, x163_26, x163_27, x163_28, x163_29, x163_32, x163_33, x163_36, x163_37, x163_40, x163_41, x163_42, x163_43, x163_44, x163_47, x163_48, x163_51, x163_52, x163_53, x163_54a, x163_54b, x163_55, x163_58, x163_59, x163_60, x163_63, x163_66, x163_67, x163_68, x163_71, x163_74, x163_75, x163_78, x163_79, x163_81, x163_82, x163_83, x163_86, x163_87, x163_88, mzi, mInc, mne, mlt9, mrk, mI1, mI2, mI3, mI4, mL1, mL2, mL3, mL4, mQ1, mQ2, mQ3, mQ4, mT1, mcat0, mcat1, mcat2, mcat3, mcat4, mrf1, jK_v, jK_n, JA, mz1, if_true, if_false, ite_true, ite_false, eq_self, not_false_eq_true, Nat.zero_le, true_and, and_true, and_self, Nat.reduceMod, Nat.reduceAdd, Nat.reduceLeDiff, Nat.reduceEqDiff, Nat.reduceLT, hw, lc, lj, hk0, hI, hQ, hca, hbe, hc, hg, cond_false]
def kDlMh (μ : jM) (l : Nat) (c : Int32) : jM := jsI (jsI μ 6864 l (10 * jI μ 6864 l + c)) 6928 l (jI μ 6928 l + 1)
theorem d_dialFh {l : Nat} {c : Int32} (hM : jMp μ p) (hn : jI μ (64 * p + 11) 2 = iN n) (h10 : n ≤ 10) (hl : l < 10) (hd : jI μ 6928 l = iN a) (ha : a + 1 < 2 ^ 30) (hb : ∀ k, k < n → ∃ b, b < 100 ∧ jI μ (64 * p + 272) k = iN b) : (∀ a, ¬ a = 6864 → ¬ a = 6928 → jI (kDlMh μ l c) a = jI μ a) ∧ jI (kDlMh μ l c) 6864 l = 10 * jI μ 6864 l + c ∧ jI (kDlMh μ l c) 6928 l = jI μ 6928 l + 1 ∧
    (∀ (d : Nat) (Q : jO → jM → Prop), Ex d 164 0 [some (.ref 6732), some (.int (iN l)), none] [] (kDlMh μ l c) Q ↔ Q (.inl (some (.int (jfst (fun k => decide (0 < jI μ 6928 l + 1 ∧ jI μ (64 * p + 272) k = jI μ 6928 l + 1 ∧ jI μ (64 * p + 208) k = 10 * jI μ 6864 l + c)) 0 (n - 0))))) (kDlMh μ l c)) ∧
    (∀ (d : Nat) (Q : jO → jM → Prop), Ex d 165 0 [some (.ref 6732), some (.int (iN l)), none, none, none] [] (kDlMh μ l c) Q ↔ Q (.inl (some (.int (bif jany (fun k => decide (¬ jI μ (64 * p + 272) k < jI μ 6928 l + 1 ∧ jcut (jI μ (64 * p + 208) k) (jI μ (64 * p + 272) k - (jI μ 6928 l + 1)) = 10 * jI μ 6864 l + c)) 0 n then 1 else 0)))) (kDlMh μ l c)) := by
  have hne := jPne hM.2.1
  have hI : ∀ a, ¬ a = 6864 → ¬ a = 6928 → jI (kDlMh μ l c) a = jI μ a := by
    intro a h1 h2
    unfold kDlMh
    rw [mI2 h2, mI2 h1]
  have hP : ∀ c', c' < 900 → jI (kDlMh μ l c) (64 * p + c') = jI μ (64 * p + c') := fun c' h => hI _ (hne c' 6864 h (by decide) (by decide)) (hne c' 6928 h (by decide) (by decide))
  have hN : jI (kDlMh μ l c) 6864 l = 10 * jI μ 6864 l + c := by
    unfold kDlMh
    simp only [mI1, mI2, Nat.reduceEqDiff, not_false_eq_true, if_true]
  have hD : jI (kDlMh μ l c) 6928 l = jI μ 6928 l + 1 := by
    unfold kDlMh
    simp only [mI1, if_true]
  have hM1 : jMp (kDlMh μ l c) p := jMp_c (by unfold kDlMh; simp only [mI4]) hM
  refine ⟨hI, hN, hD, fun d Q => ?_, fun d Q => ?_⟩
  · have h := d_calledh (d := d) (μ := kDlMh μ l c) (Q := Q) (n := n) hl hM1 (by rw [hP 11 (by decide)]; exact hn) h10
    rw [hD, hN, hP 272 (by decide), hP 208 (by decide)] at h
    exact h
  · have h := d_beginsh (d := d) (μ := kDlMh μ l c) (Q := Q) (n := n) (a := a + 1) (l := l) hM1 (by rw [hP 11 (by decide)]; exact hn) h10 hl (by rw [hD, hd, mInc]) ha (by rw [hP 272 (by decide)]; exact hb)
    rw [hD, hN, hP 272 (by decide), hP 208 (by decide)] at h
    exact h
theorem d_dial0h {l : Nat} {c : Int32} (hM : jMp μ p) (hn : jI μ (64 * p + 11) 2 = iN n) (h10 : n ≤ 10) (hl : l < 10) (hd : jI μ 6928 l = iN a) (ha : a + 1 < 2 ^ 30) (hb : ∀ k, k < n → ∃ b, b < 100 ∧ jI μ (64 * p + 272) k = iN b) {k : Nat} (hk : k < 10) (hw1 : jI μ 6732 7 = iN w) (hw2 : w < 10) (hc : jfst (fun k => decide (0 < jI μ 6928 l + 1 ∧ jI μ (64 * p + 272) k = jI μ 6928 l + 1 ∧ jI μ (64 * p + 208) k = 10 * jI μ 6864 l + c)) 0 (n - 0) = iN k) : Ex (d + 1) 163 0 [some (.ref 6732), some (.int (iN l)), some (.int c)] [] μ Q ↔ Q (.inl (some (.int (2)))) (jsI (jsI (jsI (kDlMh μ l c) 6800 l 2) 7056 w (iN l)) 6732 7 (iN (w + 1))) := by
  obtain ⟨hI, hN, hD, hca, hbe⟩ := d_dialFh (c := c) hM hn h10 hl hd ha hb
  have hw := hM.1
  unfold jWd at hw
  have lc : (iN l).toNatClampNeg = l := iN_cl (by omega)
  have lj : jin (iN l) 10 = true := iN_in (by omega) (by omega)
  have hQ : jQ (kDlMh μ l c) = jQ μ := by
    unfold kDlMh
    simp only [mI4]
  have h1 : ∀ m, jsI (jsI μ 6864 l (10 * jI μ 6864 l + c)) 6928 l m = jsI (jsI μ 6864 l (10 * jI μ 6864 l + c)) 6928 l m := fun _ => rfl
  have hk0 : jsI (jsI μ 6864 l (10 * jI μ 6864 l + c)) 6928 l (jI μ 6928 l + 1) = kDlMh μ l c := rfl
  have hn1 := iN_n1 (q := k) (by omega)
  have wc : (iN w).toNatClampNeg = w := iN_cl (by omega)
  have wj : jin (iN w) 10 = true := iN_in (by omega) (by omega)
  simp only [x163_0, x163_1, x163_4, x163_5, x163_7, x163_8, x163_11, x163_12, x163_13, x163_14, x163_15, x163_16, x163_17, x163_18, x163_21, x163_22a, x163_22b, x163_23, x163_24, x163_25, x163_26, x163_27, x163_28, x163_29, x163_32, x163_33, x163_36, x163_37, x163_40, x163_41, x163_42, x163_43, x163_44, x163_47, x163_48, x163_51, x163_52, x163_53, x163_54a, x163_54b, x163_55, x163_58, x163_59, x163_60, x163_63, x163_66, x163_67, x163_68, x163_71, x163_74, x163_75, x163_78, x163_79, x163_81, x163_82, x163_83, x163_86, x163_87, x163_88, mzi, mInc, mne, mlt9, mrk, mI1, mI2, mI3, mI4, mL1, mL2, mL3, mL4, mQ1, mQ2, mQ3, mQ4, mT1, mcat0, mcat1, mcat2, mcat3, mcat4, mrf1, jK_v, jK_n, JA, mz1, if_true, if_false, ite_true, ite_false, eq_self, not_false_eq_true, Nat.zero_le, true_and, and_true, and_self, Nat.reduceMod, Nat.reduceAdd, Nat.reduceLeDiff, Nat.reduceEqDiff, Nat.reduceLT, hw, lc, lj, hk0, hI, hQ, hca, hbe, hn1, hw1, wc, wj, hc]
theorem d_dial1h {l : Nat} {c : Int32} (hM : jMp μ p) (hn : jI μ (64 * p + 11) 2 = iN n) (h10 : n ≤ 10) (hl : l < 10) (hd : jI μ 6928 l = iN a) (ha : a + 1 < 2 ^ 30) (hb : ∀ k, k < n → ∃ b, b < 100 ∧ jI μ (64 * p + 272) k = iN b) (hc : jfst (fun k => decide (0 < jI μ 6928 l + 1 ∧ jI μ (64 * p + 272) k = jI μ 6928 l + 1 ∧ jI μ (64 * p + 208) k = 10 * jI μ 6864 l + c)) 0 (n - 0) = -1) (hg : jany (fun k => decide (¬ jI μ (64 * p + 272) k < jI μ 6928 l + 1 ∧ jcut (jI μ (64 * p + 208) k) (jI μ (64 * p + 272) k - (jI μ 6928 l + 1)) = 10 * jI μ 6864 l + c)) 0 n = true) : Ex (d + 1) 163 0 [some (.ref 6732), some (.int (iN l)), some (.int c)] [] μ Q ↔ Q (.inl (some (.int (jI μ 6800 l)))) (kDlMh μ l c) := by
  obtain ⟨hI, hN, hD, hca, hbe⟩ := d_dialFh (c := c) hM hn h10 hl hd ha hb
  have hw := hM.1
  unfold jWd at hw
  have lc : (iN l).toNatClampNeg = l := iN_cl (by omega)
  have lj : jin (iN l) 10 = true := iN_in (by omega) (by omega)
  have hQ : jQ (kDlMh μ l c) = jQ μ := by
    unfold kDlMh
    simp only [mI4]
  have h1 : ∀ m, jsI (jsI μ 6864 l (10 * jI μ 6864 l + c)) 6928 l m = jsI (jsI μ 6864 l (10 * jI μ 6864 l + c)) 6928 l m := fun _ => rfl
  have hk0 : jsI (jsI μ 6864 l (10 * jI μ 6864 l + c)) 6928 l (jI μ 6928 l + 1) = kDlMh μ l c := rfl
  simp only [x163_0, x163_1, x163_4, x163_5, x163_7, x163_8, x163_11, x163_12, x163_13, x163_14, x163_15, x163_16, x163_17, x163_18, x163_21, x163_22a, x163_22b, x163_23, x163_24, x163_25, x163_26, x163_27, x163_28, x163_29, x163_32, x163_33, x163_36, x163_37, x163_40, x163_41, x163_42, x163_43, x163_44, x163_47, x163_48, x163_51, x163_52, x163_53, x163_54a, x163_54b, x163_55, x163_58, x163_59, x163_60, x163_63, x163_66, x163_67, x163_68, x163_71, x163_74, x163_75, x163_78, x163_79, x163_81, x163_82, x163_83, x163_86, x163_87, x163_88, mzi, mInc, mne, mlt9, mrk, mI1, mI2, mI3, mI4, mL1, mL2, mL3, mL4, mQ1, mQ2, mQ3, mQ4, mT1, mcat0, mcat1, mcat2, mcat3, mcat4, mrf1, jK_v, jK_n, JA, mz1, if_true, if_false, ite_true, ite_false, eq_self, not_false_eq_true, Nat.zero_le, true_and, and_true, and_self, Nat.reduceMod, Nat.reduceAdd, Nat.reduceLeDiff, Nat.reduceEqDiff, Nat.reduceLT, hw, lc, lj, hk0, hI, hQ, hca, hbe, hc, hg, cond_true]
theorem d_dial2h {l : Nat} {c : Int32} (hM : jMp μ p) (hn : jI μ (64 * p + 11) 2 = iN n) (h10 : n ≤ 10) (hl : l < 10) (hd : jI μ 6928 l = iN a) (ha : a + 1 < 2 ^ 30) (hb : ∀ k, k < n → ∃ b, b < 100 ∧ jI μ (64 * p + 272) k = iN b) (hc : jfst (fun k => decide (0 < jI μ 6928 l + 1 ∧ jI μ (64 * p + 272) k = jI μ 6928 l + 1 ∧ jI μ (64 * p + 208) k = 10 * jI μ 6864 l + c)) 0 (n - 0) = -1) (hg : jany (fun k => decide (¬ jI μ (64 * p + 272) k < jI μ 6928 l + 1 ∧ jcut (jI μ (64 * p + 208) k) (jI μ (64 * p + 272) k - (jI μ 6928 l + 1)) = 10 * jI μ 6864 l + c)) 0 n = false) : Ex (d + 1) 163 0 [some (.ref 6732), some (.int (iN l)), some (.int c)] [] μ Q ↔ Q (.inl (some (.int (7)))) (jsI (kDlMh μ l c) 6800 l 7) := by
  obtain ⟨hI, hN, hD, hca, hbe⟩ := d_dialFh (c := c) hM hn h10 hl hd ha hb
  have hw := hM.1
  unfold jWd at hw
  have lc : (iN l).toNatClampNeg = l := iN_cl (by omega)
  have lj : jin (iN l) 10 = true := iN_in (by omega) (by omega)
  have hQ : jQ (kDlMh μ l c) = jQ μ := by
    unfold kDlMh
    simp only [mI4]
  have h1 : ∀ m, jsI (jsI μ 6864 l (10 * jI μ 6864 l + c)) 6928 l m = jsI (jsI μ 6864 l (10 * jI μ 6864 l + c)) 6928 l m := fun _ => rfl
  have hk0 : jsI (jsI μ 6864 l (10 * jI μ 6864 l + c)) 6928 l (jI μ 6928 l + 1) = kDlMh μ l c := rfl
  simp only [x163_0, x163_1, x163_4, x163_5, x163_7, x163_8, x163_11, x163_12, x163_13, x163_14, x163_15, x163_16, x163_17, x163_18, x163_21, x163_22a, x163_22b, x163_23, x163_24, x163_25, x163_26, x163_27, x163_28, x163_29, x163_32, x163_33, x163_36, x163_37, x163_40, x163_41, x163_42, x163_43, x163_44, x163_47, x163_48, x163_51, x163_52, x163_53, x163_54a, x163_54b, x163_55, x163_58, x163_59, x163_60, x163_63, x163_66, x163_67, x163_68, x163_71, x163_74, x163_75, x163_78, x163_79, x163_81, x163_82, x163_83, x163_86, x163_87, x163_88, mzi, mInc, mne, mlt9, mrk, mI1, mI2, mI3, mI4, mL1, mL2, mL3, mL4, mQ1, mQ2, mQ3, mQ4, mT1, mcat0, mcat1, mcat2, mcat3, mcat4, mrf1, jK_v, jK_n, JA, mz1, if_true, if_false, ite_true, ite_false, eq_self, not_false_eq_true, Nat.zero_le, true_and, and_true, and_self, Nat.reduceMod, Nat.reduceAdd, Nat.reduceLeDiff, Nat.reduceEqDiff, Nat.reduceLT, hw, lc, lj, hk0, hI, hQ, hca, hbe, hc, hg, cond_false]
end C23
