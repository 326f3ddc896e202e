/-! THE PURE PART: is it the beginning of a number (reference). -/
theorem jfold_shift {f : Int32 → Int32} : ∀ m k j x, jfold (fun _ a => f a) k m x = jfold (fun _ a => f a) j m x
  | 0, _, _, _ => rfl
  | m + 1, k, j, x => jfold_shift m (k + 1) (j + 1) (f x)
theorem jcut_n {x : Int32} {a b : Nat} (h : a ≤ b) (hb : b < 2 ^ 31) : jfold (fun _ y => y / 10) a (b - a) x = jcut x (iN b - iN a) := by
  have e : iN b - iN a = iN (b - a) := by
    rw [show iN b = iN (b - a) + iN a from by rw [iN_add]; congr 1; omega, Int32.add_sub_cancel]
  unfold jcut
  rw [e, if_neg (iN_nn (by omega)), iN_cl (by omega)]
  exact jfold_shift _ _ _ _
/-- is there a place at which p holds -/
def jany (p : Nat → Bool) : Nat → Nat → Bool
  | _, 0 => false
  | k, m + 1 => p k || jany p (k + 1) m
section C22
variable {d : Nat} {μ : jM} {Q : jO → jM → Prop} {n p a : Nat}
theorem d_beginss {l : Nat} (hM : jMp μ p) (hn : jI μ (64 * p + 11) 2 = iN n) (h10 : n ≤ 10) (hl : l < 10) (hd : jI μ 6032 l = iN a) (ha : a < 2 ^ 30) (hb : ∀ k, k < n → ∃ b, b < 100 ∧ jI μ (64 * p + 272) k = iN b) : Ex d 165 0 [some (.ref 5836), some (.int (iN l)), none, none, none] [] μ Q ↔ Q (.inl (some (.int (bif jany (fun k => decide (¬ jI μ (64 * p + 272) k < jI μ 6032 l ∧ jcut (jI μ (64 * p + 208) k) (jI μ (64 * p + 272) k - jI μ 6032 l) = jI μ 5968 l)) 0 n then 1 else 0)))) μ := by
  obtain ⟨hW, hp, hpl, hq⟩ := hM
  have hw := hW
  unfold jWd at hw
  unfold jMq at hq
  have jp := JP p
  have jpm := JPm p
  have lc : (iN l).toNatClampNeg = l := iN_cl (by omega)
  have lj : jin (iN l) 10 = true := iN_in (by omega) (by omega)
  have loop : ∀ (r k : Nat) (v3 v4 : Option Value), k + r = n → (Ex d 165 2 [some (.ref 5836), some (.int (iN l)), some (.int (iN k)), v3, v4] [] μ Q ↔ Q (.inl (some (.int (bif jany (fun k => decide (¬ jI μ (64 * p + 272) k < jI μ 6032 l ∧ jcut (jI μ (64 * p + 208) k) (jI μ (64 * p + 272) k - jI μ 6032 l) = jI μ 5968 l)) k r then 1 else 0)))) μ) := by
    intro r
    induction r with
    | zero =>
      intro k v3 v4 hk
      have hk2 : k = n := by omega
      subst hk2
      have hge : ¬ iN k < iN k := iN_irr (by omega)
      unfold jany
      simp only [↓if_neg hge, x165_2, x165_0, x165_1a, x165_1b, x165_1c, x165_3, x165_4, x165_7, x165_10, x165_13, x165_16, x165_17, x165_20, x165_23, x165_26, x165_27, x165_28a, x165_28b, x165_28c, x165_29, x165_30, x165_33, x165_34, x165_35a, x165_35b, x165_35c, x165_39, x165_40, x165_43, x165_46, x165_49, x165_50, x165_51, x165_54, x165_55, x165_57, x165_58a, x165_58b, x165_58c, x165_59a, x165_59b, x165_59c, x165_62, x165_65, x165_66, x165_69, x165_72, x165_75, x165_76, x165_77, x165_78, x165_81, x165_82, x165_83, x165_86, x165_87, x165_88, x165_91, x165_92, x165_93, x165_96, x165_97, x165_98a, x165_98b, x165_98c, x165_101, x165_104, x165_105, mzi, mInc, mne, mlt9, mrk, mI1, mI2, mI3, mI4, mL1, mL2, mL3, mL4, mQ1, mQ2, mQ3, mQ4, mT1, mcat0, mcat1, mcat2, mcat3, mcat4, mrf1, jK_v, jK_n, JA, mz1, if_true, if_false, ite_true, ite_false, eq_self, not_false_eq_true, Nat.zero_le, true_and, and_true, and_self, Nat.reduceMod, Nat.reduceAdd, Nat.reduceLeDiff, Nat.reduceEqDiff, Nat.reduceLT, hw, hpl, hq, jp, jpm, hn, hge, cond_false]
    | succ r ihr =>
      intro k v3 v4 hk
      have hlt : iN k < iN n := (iN_lt (by omega) (by omega)).mpr (by omega)
      have kc : (iN k).toNatClampNeg = k := iN_cl (by omega)
      have kj : jin (iN k) 10 = true := iN_in (by omega) (by omega)
      obtain ⟨b, hb1, hb2⟩ := hb k (by omega)
      have h1 : Ex d 165 2 [some (.ref 5836), some (.int (iN l)), some (.int (iN k)), v3, v4] [] μ Q ↔ Ex d 165 37 [some (.ref 5836), some (.int (iN l)), some (.int (iN k)), some (.int (jI μ (64 * p + 208) k)), some (.int (iN a))] [] μ Q := by
        rw [x165_2]
        simp only [x165_0, x165_1a, x165_1b, x165_1c, x165_3, x165_4, x165_7, x165_10, x165_13, x165_16, x165_17, x165_20, x165_23, x165_26, x165_27, x165_28a, x165_28b, x165_28c, x165_29, x165_30, x165_33, x165_34, x165_35a, x165_35b, x165_35c, x165_39, x165_40, x165_43, x165_46, x165_49, x165_50, x165_51, x165_54, x165_55, x165_57, x165_58a, x165_58b, x165_58c, x165_59a, x165_59b, x165_59c, x165_62, x165_65, x165_66, x165_69, x165_72, x165_75, x165_76, x165_77, x165_78, x165_81, x165_82, x165_83, x165_86, x165_87, x165_88, x165_91, x165_92, x165_93, x165_96, x165_97, x165_98a, x165_98b, x165_98c, x165_101, x165_104, x165_105, mzi, mInc, mne, mlt9, mrk, mI1, mI2, mI3, mI4, mL1, mL2, mL3, mL4, mQ1, mQ2, mQ3, mQ4, mT1, mcat0, mcat1, mcat2, mcat3, mcat4, mrf1, jK_v, jK_n, JA, mz1, if_true, if_false, ite_true, ite_false, eq_self, not_false_eq_true, Nat.zero_le, true_and, and_true, and_self, Nat.reduceMod, Nat.reduceAdd, Nat.reduceLeDiff, Nat.reduceEqDiff, Nat.reduceLT, hw, hpl, hq, jp, jpm, hn, hlt, kc, kj, lc, lj, hd]
      have hin : ∀ (j : Nat) (y : Int32), j < b → (Ex d 165 37 [some (.ref 5836), some (.int (iN l)), some (.int (iN k)), some (.int y), some (.int (iN j))] [] μ Q ↔ Ex d 165 37 [some (.ref 5836), some (.int (iN l)), some (.int (iN k)), some (.int (y / 10)), some (.int (iN (j + 1)))] [] μ Q) := by
        intro j y hj
        have hlt2 : iN j < iN b := (iN_lt (by omega) (by omega)).mpr hj
        rw [x165_37]
        simp only [x165_0, x165_1a, x165_1b, x165_1c, x165_3, x165_4, x165_7, x165_10, x165_13, x165_16, x165_17, x165_20, x165_23, x165_26, x165_27, x165_28a, x165_28b, x165_28c, x165_29, x165_30, x165_33, x165_34, x165_35a, x165_35b, x165_35c, x165_39, x165_40, x165_43, x165_46, x165_49, x165_50, x165_51, x165_54, x165_55, x165_57, x165_58a, x165_58b, x165_58c, x165_59a, x165_59b, x165_59c, x165_62, x165_65, x165_66, x165_69, x165_72, x165_75, x165_76, x165_77, x165_78, x165_81, x165_82, x165_83, x165_86, x165_87, x165_88, x165_91, x165_92, x165_93, x165_96, x165_97, x165_98a, x165_98b, x165_98c, x165_101, x165_104, x165_105, mzi, mInc, mne, mlt9, mrk, mI1, mI2, mI3, mI4, mL1, mL2, mL3, mL4, mQ1, mQ2, mQ3, mQ4, mT1, mcat0, mcat1, mcat2, mcat3, mcat4, mrf1, jK_v, jK_n, JA, mz1, if_true, if_false, ite_true, ite_false, eq_self, not_false_eq_true, Nat.zero_le, true_and, and_true, and_self, Nat.reduceMod, Nat.reduceAdd, Nat.reduceLeDiff, Nat.reduceEqDiff, Nat.reduceLT, hw, hpl, hq, jp, jpm, kc, kj, hb2, hlt2, m10]
      rw [h1]
      unfold jany
      by_cases hab : b < a
      · have hba : iN b < iN a := (iN_lt (by omega) (by omega)).mpr hab
        have hab2 : ¬ iN a < iN b := fun h => by
          have := (iN_lt (by omega) (by omega)).mp h
          omega
        have hf : decide (¬ jI μ (64 * p + 272) k < jI μ 6032 l ∧ jcut (jI μ (64 * p + 208) k) (jI μ (64 * p + 272) k - jI μ 6032 l) = jI μ 5968 l) = false := by
          rw [hb2, hd]
          exact decide_eq_false (fun h => h.1 hba)
        rw [hf, Bool.false_or, ← ihr (k + 1) (some (.int (jI μ (64 * p + 208) k))) (some (.int (iN a))) (by omega), x165_37]
        simp only [↓if_neg hab2, ↓if_pos hba, x165_0, x165_1a, x165_1b, x165_1c, x165_3, x165_4, x165_7, x165_10, x165_13, x165_16, x165_17, x165_20, x165_23, x165_26, x165_27, x165_28a, x165_28b, x165_28c, x165_29, x165_30, x165_33, x165_34, x165_35a, x165_35b, x165_35c, x165_39, x165_40, x165_43, x165_46, x165_49, x165_50, x165_51, x165_54, x165_55, x165_57, x165_58a, x165_58b, x165_58c, x165_59a, x165_59b, x165_59c, x165_62, x165_65, x165_66, x165_69, x165_72, x165_75, x165_76, x165_77, x165_78, x165_81, x165_82, x165_83, x165_86, x165_87, x165_88, x165_91, x165_92, x165_93, x165_96, x165_97, x165_98a, x165_98b, x165_98c, x165_101, x165_104, x165_105, mzi, mInc, mne, mlt9, mrk, mI1, mI2, mI3, mI4, mL1, mL2, mL3, mL4, mQ1, mQ2, mQ3, mQ4, mT1, mcat0, mcat1, mcat2, mcat3, mcat4, mrf1, jK_v, jK_n, JA, mz1, if_true, if_false, ite_true, ite_false, eq_self, not_false_eq_true, Nat.zero_le, true_and, and_true, and_self, Nat.reduceMod, Nat.reduceAdd, Nat.reduceLeDiff, Nat.reduceEqDiff, Nat.reduceLT, hw, hpl, hq, jp, jpm, kc, kj, lc, lj, hd, hb2, hab2, hba]
      · have hba : ¬ iN b < iN a := fun h => hab ((iN_lt (by omega) (by omega)).mp h)
        have hge : ¬ iN b < iN b := iN_irr (by omega)
        have h2 := jfold_loop (P := fun j y => Ex d 165 37 [some (.ref 5836), some (.int (iN l)), some (.int (iN k)), some (.int y), some (.int (iN j))] [] μ Q) hin (b - a) a (jI μ (64 * p + 208) k) (by omega)
        rw [h2, jcut_n (by omega) (by omega), x165_37]
        by_cases g : jcut (jI μ (64 * p + 208) k) (iN b - iN a) = jI μ 5968 l
        · have hf : decide (¬ jI μ (64 * p + 272) k < jI μ 6032 l ∧ jcut (jI μ (64 * p + 208) k) (jI μ (64 * p + 272) k - jI μ 6032 l) = jI μ 5968 l) = true := by
            rw [hb2, hd]
            exact decide_eq_true ⟨hba, g⟩
          have g' := eq_true g
          rw [hf, Bool.true_or]
          simp only [↓if_neg hge, ↓if_neg hba, x165_0, x165_1a, x165_1b, x165_1c, x165_3, x165_4, x165_7, x165_10, x165_13, x165_16, x165_17, x165_20, x165_23, x165_26, x165_27, x165_28a, x165_28b, x165_28c, x165_29, x165_30, x165_33, x165_34, x165_35a, x165_35b, x165_35c, x165_39, x165_40, x165_43, x165_46, x165_49, x165_50, x165_51, x165_54, x165_55, x165_57, x165_58a, x165_58b, x165_58c, x165_59a, x165_59b, x165_59c, x165_62, x165_65, x165_66, x165_69, x165_72, x165_75, x165_76, x165_77, x165_78, x165_81, x165_82, x165_83, x165_86, x165_87, x165_88, x165_91, x165_92, x165_93, x165_96, x165_97, x165_98a, x165_98b, x165_98c, x165_101, x165_104, x165_105, mzi, mInc, mne, mlt9, mrk, mI1, mI2, mI3, mI4, mL1, mL2, mL3, mL4, mQ1, mQ2, mQ3, mQ4, mT1, mcat0, mcat1, mcat2, mcat3, mcat4, mrf1, jK_v, jK_n, JA, mz1, if_true, if_false, ite_true, ite_false, eq_self, not_false_eq_true, Nat.zero_le, true_and, and_true, and_self, Nat.reduceMod, Nat.reduceAdd, Nat.reduceLeDiff, Nat.reduceEqDiff, Nat.reduceLT, hw, hpl, hq, jp, jpm, kc, kj, lc, lj, hd, hb2, hge, hba, g', cond_true]
        · have hf : decide (¬ jI μ (64 * p + 272) k < jI μ 6032 l ∧ jcut (jI μ (64 * p + 208) k) (jI μ (64 * p + 272) k - jI μ 6032 l) = jI μ 5968 l) = false := by
            rw [hb2, hd]
            exact decide_eq_false (fun h => g h.2)
          have g' := eq_false g
          rw [hf, Bool.false_or, ← ihr (k + 1) (some (.int (jcut (jI μ (64 * p + 208) k) (iN b - iN a)))) (some (.int (iN b))) (by omega)]
          simp only [↓if_neg hge, ↓if_neg hba, x165_0, x165_1a, x165_1b, x165_1c, x165_3, x165_4, x165_7, x165_10, x165_13, x165_16, x165_17, x165_20, x165_23, x165_26, x165_27, x165_28a, x165_28b, x165_28c, x165_29, x165_30, x165_33, x165_34, x165_35a, x165_35b, x165_35c, x165_39, x165_40, x165_43, x165_46, x165_49, x165_50, x165_51, x165_54, x165_55, x165_57, x165_58a, x165_58b, x165_58c, x165_59a, x165_59b, x165_59c, x165_62, x165_65, x165_66, x165_69, x165_72, x165_75, x165_76, x165_77, x165_78, x165_81, x165_82, x165_83, x165_86, x165_87, x165_88, x165_91, x165_92, x165_93, x165_96, x165_97, x165_98a, x165_98b, x165_98c, x165_101, x165_104, x165_105, mzi, mInc, mne, mlt9, mrk, mI1, mI2, mI3, mI4, mL1, mL2, mL3, mL4, mQ1, mQ2, mQ3, mQ4, mT1, mcat0, mcat1, mcat2, mcat3, mcat4, mrf1, jK_v, jK_n, JA, mz1, if_true, if_false, ite_true, ite_false, eq_self, not_false_eq_true, Nat.zero_le, true_and, and_true, and_self, Nat.reduceMod, Nat.reduceAdd, Nat.reduceLeDiff, Nat.reduceEqDiff, Nat.reduceLT, hw, hpl, hq, jp, jpm, kc, kj, lc, lj, hd, hb2, hge, hba, g']
  have h1 : Ex d 165 0 [some (.ref 5836), some (.int (iN l)), none, none, none] [] μ Q ↔ Ex d 165 2 [some (.ref 5836), some (.int (iN l)), some (.int (iN 0)), none, none] [] μ Q := by
    simp only [x165_0, x165_1a, x165_1b, x165_1c, x165_3, x165_4, x165_7, x165_10, x165_13, x165_16, x165_17, x165_20, x165_23, x165_26, x165_27, x165_28a, x165_28b, x165_28c, x165_29, x165_30, x165_33, x165_34, x165_35a, x165_35b, x165_35c, x165_39, x165_40, x165_43, x165_46, x165_49, x165_50, x165_51, x165_54, x165_55, x165_57, x165_58a, x165_58b, x165_58c, x165_59a, x165_59b, x165_59c, x165_62, x165_65, x165_66, x165_69, x165_72, x165_75, x165_76, x165_77, x165_78, x165_81, x165_82, x165_83, x165_86, x165_87, x165_88, x165_91, x165_92, x165_93, x165_96, x165_97, x165_98a, x165_98b, x165_98c, x165_101, x165_104, x165_105, mzi, mInc, mne, mlt9, mrk, mI1, mI2, mI3, mI4, mL1, mL2, mL3, mL4, mQ1, mQ2, mQ3, mQ4, mT1, mcat0, mcat1, mcat2, mcat3, mcat4, mrf1, jK_v, jK_n, JA, mz1, if_true, if_false, ite_true, ite_false, eq_self, not_false_eq_true, Nat.zero_le, true_and, and_true, and_self, Nat.reduceMod, Nat.reduceAdd, Nat.reduceLeDiff, Nat.reduceEqDiff, Nat.reduceLT]
  rw [h1]
  exact loop n 0 none none (by omega)
theorem d_beginsh {l : Nat} (hM : jMp μ p) (hn : jI μ (64 * p + 11) 2 = iN n) (h10 : n ≤ 10) (hl : l < 10) (hd : jI μ 6928 l = iN a) (ha : a < 2 ^ 30) (hb : ∀ k, k < n → ∃ b, b < 100 ∧ jI μ (64 * p + 272) k = iN b) : Ex d 165 0 [some (.ref 6732), some (.int (iN l)), none, none, none] [] μ Q ↔ Q (.inl (some (.int (bif jany (fun k => decide (¬ jI μ (64 * p + 272) k < jI μ 6928 l ∧ jcut (jI μ (64 * p + 208) k) (jI μ (64 * p + 272) k - jI μ 6928 l) = jI μ 6864 l)) 0 n then 1 else 0)))) μ := by
  obtain ⟨hW, hp, hpl, hq⟩ := hM
  have hw := hW
  unfold jWd at hw
  unfold jMq at hq
  have jp := JP p
  have jpm := JPm p
  have lc : (iN l).toNatClampNeg = l := iN_cl (by omega)
  have lj : jin (iN l) 10 = true := iN_in (by omega) (by omega)
  have loop : ∀ (r k : Nat) (v3 v4 : Option Value), k + r = n → (Ex d 165 2 [some (.ref 6732), some (.int (iN l)), some (.int (iN k)), v3, v4] [] μ Q ↔ Q (.inl (some (.int (bif jany (fun k => decide (¬ jI μ (64 * p + 272) k < jI μ 6928 l ∧ jcut (jI μ (64 * p + 208) k) (jI μ (64 * p + 272) k - jI μ 6928 l) = jI μ 6864 l)) k r then 1 else 0)))) μ) := by
    intro r
    induction r with
    | zero =>
      intro k v3 v4 hk
      have hk2 : k = n := by omega
      subst hk2
      have hge : ¬ iN k < iN k := iN_irr (by omega)
      unfold jany
      simp only [↓if_neg hge, x165_2, x165_0, x165_1a, x165_1b, x165_1c, x165_3, x165_4, x165_7, x165_10, x165_13, x165_16, x165_17, x165_20, x165_23, x165_26, x165_27, x165_28a, x165_28b, x165_28c, x165_29, x165_30, x165_33, x165_34, x165_35a, x165_35b, x165_35c, x165_39, x165_40, x165_43, x165_46, x165_49, x165_50, x165_51, x165_54, x165_55, x165_57, x165_58a, x165_58b, x165_58c, x165_59a, x165_59b, x165_59c, x165_62, x165_65, x165_66, x165_69, x165_72, x165_75, x165_76, x165_77, x165_78, x165_81, x165_82, x165_83, x165_86, x165_87, x165_88, x165_91, x165_92, x165_93, x165_96, x165_97, x165_98a, x165_98b, x165_98c, x165_101, x165_104, x165_105, mzi, mInc, mne, mlt9, mrk, mI1, mI2, mI3, mI4, mL1, mL2, mL3, mL4, mQ1, mQ2, mQ3, mQ4, mT1, mcat0, mcat1, mcat2, mcat3, mcat4, mrf1, jK_v, jK_n, JA, mz1, if_true, if_false, ite_true, ite_false, eq_self, not_false_eq_true, Nat.zero_le, true_and, and_true, and_self, Nat.reduceMod, Nat.reduceAdd, Nat.reduceLeDiff, Nat.reduceEqDiff, Nat.reduceLT, hw, hpl, hq, jp, jpm, hn, hge, cond_false]
    | succ r ihr =>
      intro k v3 v4 hk
      have hlt : iN k < iN n := (iN_lt (by omega) (by omega)).mpr (by omega)
      have kc : (iN k).toNatClampNeg = k := iN_cl (by omega)
      have kj : jin (iN k) 10 = true := iN_in (by omega) (by omega)
      obtain ⟨b, hb1, hb2⟩ := hb k (by omega)
      have h1 : Ex d 165 2 [some (.ref 6732), some (.int (iN l)), some (.int (iN k)), v3, v4] [] μ Q ↔ Ex d 165 37 [some (.ref 6732), some (.int (iN l)), some (.int (iN k)), some (.int (jI μ (64 * p + 208) k)), some (.int (iN a))] [] μ Q := by
        rw [x165_2]
        simp only [x165_0, x165_1a, x165_1b, x165_1c, x165_3, x165_4, x165_7, x165_10, x165_13, x165_16, x165_17, x165_20, x165_23, x165_26, x165_27, x165_28a, x165_28b, x165_28c, x165_29, x165_30, x165_33, x165_34, x165_35a, x165_35b, x165_35c, x165_39, x165_40, x165_43, x165_46, x165_49, x165_50, x165_51, x165_54, x165_55, x165_57, x165_58a, x165_58b, x165_58c, x165_59a, x165_59b, x165_59c, x165_62, x165_65, x165_66, x165_69, x165_72, x165_75, x165_76, x165_77, x165_78, x165_81, x165_82, x165_83, x165_86, x165_87, x165_88, x165_91, x165_92, x165_93, x165_96, x165_97, x165_98a, x165_98b, x165_98c, x165_101, x165_104, x165_105, mzi, mInc, mne, mlt9, mrk, mI1, mI2, mI3, mI4, mL1, mL2, mL3, mL4, mQ1, mQ2, mQ3, mQ4, mT1, mcat0, mcat1, mcat2, mcat3, mcat4, mrf1, jK_v, jK_n, JA, mz1, if_true, if_false, ite_true, ite_false, eq_self, not_false_eq_true, Nat.zero_le, true_and, and_true, and_self, Nat.reduceMod, Nat.reduceAdd, Nat.reduceLeDiff, Nat.reduceEqDiff, Nat.reduceLT, hw, hpl, hq, jp, jpm, hn, hlt, kc, kj, lc, lj, hd]
      have hin : ∀ (j : Nat) (y : Int32), j < b → (Ex d 165 37 [some (.ref 6732), some (.int (iN l)), some (.int (iN k)), some (.int y), some (.int (iN j))] [] μ Q ↔ Ex d 165 37 [some (.ref 6732), some (.int (iN l)), some (.int (iN k)), some (.int (y / 10)), some (.int (iN (j + 1)))] [] μ Q) := by
        intro j y hj
        have hlt2 : iN j < iN b := (iN_lt (by omega) (by omega)).mpr hj
        rw [x165_37]
        simp only [x165_0, x165_1a, x165_1b, x165_1c, x165_3, x165_4, x165_7, x165_10, x165_13, x165_16, x165_17, x165_20, x165_23, x165_26, x165_27, x165_28a, x165_28b, x165_28c, x165_29, x165_30, x165_33, x165_34, x165_35a, x165_35b, x165_35c, x165_39, x165_40, x165_43, x165_46, x165_49, x165_50, x165_51, x165_54, x165_55, x165_57, x165_58a, x165_58b, x165_58c, x165_59a, x165_59b, x165_59c, x165_62, x165_65, x165_66, x165_69, x165_72, x165_75, x165_76, x165_77, x165_78, x165_81, x165_82, x165_83, x165_86, x165_87, x165_88, x165_91, x165_92, x165_93, x165_96, x165_97, x165_98a, x165_98b, x165_98c, x165_101, x165_104, x165_105, mzi, mInc, mne, mlt9, mrk, mI1, mI2, mI3, mI4, mL1, mL2, mL3, mL4, mQ1, mQ2, mQ3, mQ4, mT1, mcat0, mcat1, mcat2, mcat3, mcat4, mrf1, jK_v, jK_n, JA, mz1, if_true, if_false, ite_true, ite_false, eq_self, not_false_eq_true, Nat.zero_le, true_and, and_true, and_self, Nat.reduceMod, Nat.reduceAdd, Nat.reduceLeDiff, Nat.reduceEqDiff, Nat.reduceLT, hw, hpl, hq, jp, jpm, kc, kj, hb2, hlt2, m10]
      rw [h1]
      unfold jany
      by_cases hab : b < a
      · have hba : iN b < iN a := (iN_lt (by omega) (by omega)).mpr hab
        have hab2 : ¬ iN a < iN b := fun h => by
          have := (iN_lt (by omega) (by omega)).mp h
          omega
        have hf : decide (¬ jI μ (64 * p + 272) k < jI μ 6928 l ∧ jcut (jI μ (64 * p + 208) k) (jI μ (64 * p + 272) k - jI μ 6928 l) = jI μ 6864 l) = false := by
          rw [hb2, hd]
          exact decide_eq_false (fun h => h.1 hba)
        rw [hf, Bool.false_or, ← ihr (k + 1) (some (.int (jI μ (64 * p + 208) k))) (some (.int (iN a))) (by omega), x165_37]
        simp only [↓if_neg hab2, ↓if_pos hba, x165_0, x165_1a, x165_1b, x165_1c, x165_3, x165_4, x165_7, x165_10, x165_13, x165_16, x165_17, x165_20, x165_23, x165_26, x165_27, x165_28a, x165_28b, x165_28c, x165_29, x165_30, x165_33, x165_34, x165_35a, x165_35b, x165_35c, x165_39, x165_40, x165_43, x165_46, x165_49, x165_50, x165_51, x165_54, x165_55, x165_57, x165_58a, x165_58b, x165_58c, x165_59a, x165_59b, x165_59c, x165_62, x165_65, x165_66, x165_69, x165_72, x165_75, x165_76, x165_77, x165_78, x165_81, x165_82, x165_83, x165_86, x165_87, x165_88, x165_91, x165_92, x165_93, x165_96, x165_97, x165_98a, x165_98b, x165_98c, x165_101, x165_104, x165_105, mzi, mInc, mne, mlt9, mrk, mI1, mI2, mI3, mI4, mL1, mL2, mL3, mL4, mQ1, mQ2, mQ3, mQ4, mT1, mcat0, mcat1, mcat2, mcat3, mcat4, mrf1, jK_v, jK_n, JA, mz1, if_true, if_false, ite_true, ite_false, eq_self, not_false_eq_true, Nat.zero_le, true_and, and_true, and_self, Nat.reduceMod, Nat.reduceAdd, Nat.reduceLeDiff, Nat.reduceEqDiff, Nat.reduceLT, hw, hpl, hq, jp, jpm, kc, kj, lc, lj, hd, hb2, hab2, hba]
      · have hba : ¬ iN b < iN a := fun h => hab ((iN_lt (by omega) (by omega)).mp h)
        have hge : ¬ iN b < iN b := iN_irr (by omega)
        have h2 := jfold_loop (P := fun j y => Ex d 165 37 [some (.ref 6732), some (.int (iN l)), some (.int (iN k)), some (.int y), some (.int (iN j))] [] μ Q) hin (b - a) a (jI μ (64 * p + 208) k) (by omega)
        rw [h2, jcut_n (by omega) (by omega), x165_37]
        by_cases g : jcut (jI μ (64 * p + 208) k) (iN b - iN a) = jI μ 6864 l
        · have hf : decide (¬ jI μ (64 * p + 272) k < jI μ 6928 l ∧ jcut (jI μ (64 * p + 208) k) (jI μ (64 * p + 272) k - jI μ 6928 l) = jI μ 6864 l) = true := by
            rw [hb2, hd]
            exact decide_eq_true ⟨hba, g⟩
          have g' := eq_true g
          rw [hf, Bool.true_or]
          simp only [↓if_neg hge, ↓if_neg hba, x165_0, x165_1a, x165_1b, x165_1c, x165_3, x165_4, x165_7, x165_10, x165_13, x165_16, x165_17, x165_20, x165_23, x165_26, x165_27, x165_28a, x165_28b, x165_28c, x165_29, x165_30, x165_33, x165_34, x165_35a, x165_35b, x165_35c, x165_39, x165_40, x165_43, x165_46, x165_49, x165_50, x165_51, x165_54, x165_55, x165_57, x165_58a, x165_58b, x165_58c, x165_59a, x165_59b, x165_59c, x165_62, x165_65, x165_66, x165_69, x165_72, x165_75, x165_76, x165_77, x165_78, x165_81, x165_82, x165_83, x165_86, x165_87, x165_88, x165_91, x165_92, x165_93, x165_96, x165_97, x165_98a, x165_98b, x165_98c, x165_101, x165_104, x165_105, mzi, mInc, mne, mlt9, mrk, mI1, mI2, mI3, mI4, mL1, mL2, mL3, mL4, mQ1, mQ2, mQ3, mQ4, mT1, mcat0, mcat1, mcat2, mcat3, mcat4, mrf1, jK_v, jK_n, JA, mz1, if_true, if_false, ite_true, ite_false, eq_self, not_false_eq_true, Nat.zero_le, true_and, and_true, and_self, Nat.reduceMod, Nat.reduceAdd, Nat.reduceLeDiff, Nat.reduceEqDiff, Nat.reduceLT, hw, hpl, hq, jp, jpm, kc, kj, lc, lj, hd, hb2, hge, hba, g', cond_true]
        · have hf : decide (¬ jI μ (64 * p + 272) k < jI μ 6928 l ∧ jcut (jI μ (64 * p + 208) k) (jI μ (64 * p + 272) k - jI μ 6928 l) = jI μ 6864 l) = false := by
            rw [hb2, hd]
            exact decide_eq_false (fun h => g h.2)
          have g' := eq_false g
          rw [hf, Bool.false_or, ← ihr (k + 1) (some (.int (jcut (jI μ (64 * p + 208) k) (iN b - iN a)))) (some (.int (iN b))) (by omega)]
          simp only [↓if_neg hge, ↓if_neg hba, x165_0, x165_1a, x165_1b, x165_1c, x165_3, x165_4, x165_7, x165_10, x165_13, x165_16, x165_17, x165_20, x165_23, x165_26, x165_27, x165_28a, x165_28b, x165_28c, x165_29, x165_30, x165_33, x165_34, x165_35a, x165_35b, x165_35c, x165_39, x165_40, x165_43, x165_46, x165_49, x165_50, x165_51, x165_54, x165_55, x165_57, x165_58a, x165_58b, x165_58c, x165_59a, x165_59b, x165_59c, x165_62, x165_65, x165_66, x165_69, x165_72, x165_75, x165_76, x165_77, x165_78, x165_81, x165_82, x165_83, x165_86, x165_87, x165_88, x165_91, x165_92, x165_93, x165_96, x165_97, x165_98a, x165_98b, x165_98c, x165_101, x165_104, x165_105, mzi, mInc, mne, mlt9, mrk, mI1, mI2, mI3, mI4, mL1, mL2, mL3, mL4, mQ1, mQ2, mQ3, mQ4, mT1, mcat0, mcat1, mcat2, mcat3, mcat4, mrf1, jK_v, jK_n, JA, mz1, if_true, if_false, ite_true, ite_false, eq_self, not_false_eq_true, Nat.zero_le, true_and, and_true, and_self, Nat.reduceMod, Nat.reduceAdd, Nat.reduceLeDiff, Nat.reduceEqDiff, Nat.reduceLT, hw, hpl, hq, jp, jpm, kc, kj, lc, lj, hd, hb2, hge, hba, g']
  have h1 : Ex d 165 0 [some (.ref 6732), some (.int (iN l)), none, none, none] [] μ Q ↔ Ex d 165 2 [some (.ref 6732), some (.int (iN l)), some (.int (iN 0)), none, none] [] μ Q := by
    simp only [x165_0, x165_1a, x165_1b, x165_1c, x165_3, x165_4, x165_7, x165_10, x165_13, x165_16, x165_17, x165_20, x165_23, x165_26, x165_27, x165_28a, x165_28b, x165_28c, x165_29, x165_30, x165_33, x165_34, x165_35a, x165_35b, x165_35c, x165_39, x165_40, x165_43, x165_46, x165_49, x165_50, x165_51, x165_54, x165_55, x165_57, x165_58a, x165_58b, x165_58c, x165_59a, x165_59b, x165_59c, x165_62, x165_65, x165_66, x165_69, x165_72, x165_75, x165_76, x165_77, x165_78, x165_81, x165_82, x165_83, x165_86, x165_87, x165_88, x165_91, x165_92, x165_93, x165_96, x165_97, x165_98a, x165_98b, x165_98c, x165_101, x165_104, x165_105, mzi, mInc, mne, mlt9, mrk, mI1, mI2, mI3, mI4, mL1, mL2, mL3, mL4, mQ1, mQ2, mQ3, mQ4, mT1, mcat0, mcat1, mcat2, mcat3, mcat4, mrf1, jK_v, jK_n, JA, mz1, if_true, if_false, ite_true, ite_false, eq_self, not_false_eq_true, Nat.zero_le, true_and, and_true, and_self, Nat.reduceMod, Nat.reduceAdd, Nat.reduceLeDiff, Nat.reduceEqDiff, Nat.reduceLT]
  rw [h1]
  exact loop n 0 none none (by omega)
end C22
