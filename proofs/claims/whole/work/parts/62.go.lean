/-! THE PURE PART: ticks (class), 2. -/
section C12
variable {d : Nat} {μ : jM} {Q : jO → jM → Prop} {n m t L w mk : Nat} {K : Nat → Nat}
theorem jrowfn (r : Nat → Int32) (c : Int32) (k : Nat) : (fun j => if j = k then c else if j < k then c else r j) = (fun j => if j < k + 1 then c else r j) := by
  funext j
  by_cases h : j = k
  · rw [if_pos h, if_pos (by omega)]
  · by_cases h2 : j < k
    · rw [if_neg h, if_pos h2, if_pos (by omega)]
    · rw [if_neg h, if_neg h2, if_neg (by omega)]
theorem c_gon (hP : jPl μ m n t L K) (hw1 : jI μ 2567 16 = iN w) (hw2 : w ≤ 10) (hmk : jI μ 2567 3 = iN mk) (hmk2 : mk < 2 ^ 31) : Ex (d + 12) 258 0 [some (.ref 2567), none, none, none] [] μ Q ↔ Q (.inl (some (.int (kMarksn μ m n t L K w mk).1))) (kGon μ m n t L K w mk) := by
  have hn10 : n ≤ 10 := hP.2.2.2.2.1
  have step1 : ∀ (k : Nat) (a : Int32 × jM) (b : Option Value), k < min mk w → (jPl a.2 m n t L K ∧ jI a.2 2567 16 = iN (w - k) ∧ jI a.2 2567 3 = iN mk) →
      (jPl (kMarkn m n t L K (w - k) a).2 m n t L K ∧ jI (kMarkn m n t L K (w - k) a).2 2567 16 = iN (w - (k + 1)) ∧ jI (kMarkn m n t L K (w - k) a).2 2567 3 = iN mk) ∧ ∃ b', (Ex (d + 12) 258 4 [some (.ref 2567), some (.int a.1), some (.int (iN k)), b] [] a.2 Q ↔ Ex (d + 12) 258 4 [some (.ref 2567), some (.int (kMarkn m n t L K (w - k) a).1), some (.int (iN (k + 1))), b'] [] (kMarkn m n t L K (w - k) a).2 Q) := by
    intro k a b hk ⟨hP1, hx1, hx2⟩
    obtain ⟨sum, μ1⟩ := a
    simp only at hP1 hx1 hx2
    have hk1 : k < mk := by omega
    have hk2 : k < w := by omega
    have hP1' := hP1
    obtain ⟨hW, hm, h6, hn, h10, ht, ht10, hL, hL4, hK, hok, h14, h16⟩ := hP1
    have hw := hW
    unfold jWd at hw
    have hlt : iN k < iN mk := (iN_lt (by omega) (by omega)).mpr hk1
    have hpos : (0 : Int32) < iN (w - k) := (iN_lt (a := 0) (by omega) (by omega)).mpr (by omega)
    have hlv : ∀ (d : Nat) (Q : jO → jM → Prop), Ex d 170 0 [some (.ref 2567), some (.int 0), none] [] μ1 Q ↔ Q (.inl none) (kLvn μ1 (w - k) 0) := fun d Q => c_leaven (q := 0) hW hx1 (by omega) (by omega)
    have hPv : jPl (kLvn μ1 (w - k) 0) m n t L K := jPln jSmn_l hP1'
    have hxv : jI (kLvn μ1 (w - k) 0) 2567 = fun j => if j = 16 then iN (w - (k + 1)) else jI μ1 2567 j := by
      unfold kLvn
      rw [mR2 (by decide)]
      funext j
      rw [mI1, show w - k - 1 = w - (k + 1) by omega]
    have hrd : ∀ a, ¬ a = 2567 → ¬ a = 3344 → jI (kLvn μ1 (w - k) 0) a = jI μ1 a := fun a h1 h2 => by unfold kLvn; rw [mR2 h2, mI2 h1]
    have hrq : jQ (kLvn μ1 (w - k) 0) = jQ μ1 := rfl
    have hj0 : jin 0 10 = true := by decide
    by_cases g0 : jhas (jI μ1 3344 0) (iN n) 10 = 0
    · refine ⟨?_, some (.int (jI μ1 3344 0)), ?_⟩
      · unfold kMarkn
        rw [if_pos g0]
        exact ⟨hPv, by rw [hxv]; exact if_pos rfl, by rw [hxv]; exact (if_neg (by decide)).trans hx2⟩
      · unfold kMarkn
        rw [if_pos g0, x258_4]
        simp only [x258_0, x258_1a, x258_1b, x258_1c, x258_2, x258_3a, x258_3b, x258_3c, x258_5, x258_6, x258_9, x258_12, x258_13, x258_16, x258_19, x258_20, x258_23, x258_24, x258_25a, x258_25b, x258_25c, x258_26, x258_27, x258_28, x258_31, x258_32, x258_33, x258_36, x258_37, x258_40, x258_43, x258_44, x258_45, x258_46, x258_49, x258_50, x258_51, x258_54, x258_57, x258_58, x258_59a, x258_59b, x258_59c, x258_60a, x258_60b, x258_60c, x258_63, x258_66, x258_67a, x258_67b, x258_67c, x258_69, x258_70, x258_73, x258_76, x258_79, x258_80, x258_81, x258_84, x258_87, x258_88, x258_89, x258_92a, x258_92b, x258_92c, x258_95, x258_98, x258_99a, x258_99b, x258_100, x258_103, x258_104, x258_105, x258_108, x258_109, mzi, mInc, mne, mlt9, mrk, mI1, mI2, mI3, mI4, mL1, mL2, mL3, mL4, mQ1, mQ2, mQ3, mQ4, mT1, mcat0, mcat1, mcat2, mcat3, mcat4, mrf1, jK_v, jK_n, JA, mz1, if_true, if_false, ite_true, ite_false, eq_self, not_false_eq_true, Nat.zero_le, true_and, and_true, and_self, Nat.reduceMod, Nat.reduceAdd, Nat.reduceLeDiff, Nat.reduceEqDiff, Nat.reduceLT, hw, hn, hx1, hx2, hlt, hpos, hlv, hrd, hrq, c_hasLine (x := 1731) rfl, g0, hj0]
    · obtain ⟨e, hc⟩ := jhas_1 g0 h10
      have hsv : ∀ (d : Nat) (c : Int32) (Q : jO → jM → Prop), Ex (d + 11) 259 0 [some (.ref 2567), some (.int (iN (jI μ1 3344 0).toNatClampNeg)), some (.int c)] [] (kLvn μ1 (w - k) 0) Q ↔ Q (.inl (some (.int (kServen (kLvn μ1 (w - k) 0) m n t L K (jI μ1 3344 0).toNatClampNeg c).1))) (kServen (kLvn μ1 (w - k) 0) m n t L K (jI μ1 3344 0).toNatClampNeg c).2 := fun d c Q => c_serven hPv hc
      refine ⟨?_, some (.int (jI μ1 3344 0)), ?_⟩
      · unfold kMarkn
        rw [if_neg g0]
        refine ⟨jPln jSmn_s hPv, ?_, ?_⟩
        · rw [kServe_xn, hxv]; exact if_pos rfl
        · rw [kServe_xn, hxv]; exact (if_neg (by decide)).trans hx2
      · unfold kMarkn
        rw [if_neg g0, x258_4]
        simp only
        generalize hv : (jI μ1 3344 0).toNatClampNeg = v at e hc hsv ⊢
        have vj : jin (iN v) 10 = true := iN_in (by omega) (by omega)
        have vc : (iN v).toNatClampNeg = v := iN_cl (by omega)
        have hh : jhas (iN v) (iN n) 10 = 1 := jhas_in (m := 10) hc h10 (by decide)
        simp only [x258_0, x258_1a, x258_1b, x258_1c, x258_2, x258_3a, x258_3b, x258_3c, x258_5, x258_6, x258_9, x258_12, x258_13, x258_16, x258_19, x258_20, x258_23, x258_24, x258_25a, x258_25b, x258_25c, x258_26, x258_27, x258_28, x258_31, x258_32, x258_33, x258_36, x258_37, x258_40, x258_43, x258_44, x258_45, x258_46, x258_49, x258_50, x258_51, x258_54, x258_57, x258_58, x258_59a, x258_59b, x258_59c, x258_60a, x258_60b, x258_60c, x258_63, x258_66, x258_67a, x258_67b, x258_67c, x258_69, x258_70, x258_73, x258_76, x258_79, x258_80, x258_81, x258_84, x258_87, x258_88, x258_89, x258_92a, x258_92b, x258_92c, x258_95, x258_98, x258_99a, x258_99b, x258_100, x258_103, x258_104, x258_105, x258_108, x258_109, mzi, mInc, mne, mlt9, mrk, mI1, mI2, mI3, mI4, mL1, mL2, mL3, mL4, mQ1, mQ2, mQ3, mQ4, mT1, mcat0, mcat1, mcat2, mcat3, mcat4, mrf1, jK_v, jK_n, JA, mz1, if_true, if_false, ite_true, ite_false, eq_self, not_false_eq_true, Nat.zero_le, true_and, and_true, and_self, Nat.reduceMod, Nat.reduceAdd, Nat.reduceLeDiff, Nat.reduceEqDiff, Nat.reduceLT, hw, hn, hx1, hx2, hlt, hpos, hlv, hrd, hrq, c_hasLine (x := 1731) rfl, e, hh, hj0, vj, vc, hsv]
  obtain ⟨⟨hP2, hx2, hx3⟩, b1, hb1⟩ := jfold_loopI (P := fun k (a : Int32 × jM) (b : Option Value) => Ex (d + 12) 258 4 [some (.ref 2567), some (.int a.1), some (.int (iN k)), b] [] a.2 Q) (I := fun k a => jPl a.2 m n t L K ∧ jI a.2 2567 16 = iN (w - k) ∧ jI a.2 2567 3 = iN mk) (f := fun k a => kMarkn m n t L K (w - k) a) step1 (min mk w) 0 (0, μ) none (by omega) ⟨hP, hw1, hmk⟩
  have hf1 : jfold (fun k a => kMarkn m n t L K (w - k) a) 0 (min mk w) (0, μ) = kMarksn μ m n t L K w mk := rfl
  rw [hf1] at hP2 hx2 hx3 hb1
  have hw := hP.1
  unfold jWd at hw
  have h1 : Ex (d + 12) 258 0 [some (.ref 2567), none, none, none] [] μ Q ↔ Ex (d + 12) 258 4 [some (.ref 2567), some (.int 0), some (.int (iN 0)), none] [] μ Q := by
    simp only [x258_0, x258_1a, x258_1b, x258_1c, x258_2, x258_3a, x258_3b, x258_3c, x258_5, x258_6, x258_9, x258_12, x258_13, x258_16, x258_19, x258_20, x258_23, x258_24, x258_25a, x258_25b, x258_25c, x258_26, x258_27, x258_28, x258_31, x258_32, x258_33, x258_36, x258_37, x258_40, x258_43, x258_44, x258_45, x258_46, x258_49, x258_50, x258_51, x258_54, x258_57, x258_58, x258_59a, x258_59b, x258_59c, x258_60a, x258_60b, x258_60c, x258_63, x258_66, x258_67a, x258_67b, x258_67c, x258_69, x258_70, x258_73, x258_76, x258_79, x258_80, x258_81, x258_84, x258_87, x258_88, x258_89, x258_92a, x258_92b, x258_92c, x258_95, x258_98, x258_99a, x258_99b, x258_100, x258_103, x258_104, x258_105, x258_108, x258_109, mzi, mInc, mne, mlt9, mrk, mI1, mI2, mI3, mI4, mL1, mL2, mL3, mL4, mQ1, mQ2, mQ3, mQ4, mT1, mcat0, mcat1, mcat2, mcat3, mcat4, mrf1, jK_v, jK_n, JA, mz1, if_true, if_false, ite_true, ite_false, eq_self, not_false_eq_true, Nat.zero_le, true_and, and_true, and_self, Nat.reduceMod, Nat.reduceAdd, Nat.reduceLeDiff, Nat.reduceEqDiff, Nat.reduceLT, hw]
  rw [h1, hb1]
  have hw2' := hP2.1
  unfold jWd at hw2'
  have h2 : Ex (d + 12) 258 4 [some (.ref 2567), some (.int (kMarksn μ m n t L K w mk).1), some (.int (iN (min mk w))), b1] [] (kMarksn μ m n t L K w mk).2 Q ↔ Ex (d + 12) 258 68 [some (.ref 2567), some (.int (kMarksn μ m n t L K w mk).1), some (.int (iN 0)), b1] [] (kMarksn μ m n t L K w mk).2 Q := by
    rw [x258_4]
    by_cases g : iN (min mk w) < iN mk
    · have hz : ¬ (0 : Int32) < iN (w - min mk w) := by
        have h := (iN_lt (by omega) (by omega)).mp g
        rw [show w - min mk w = 0 by omega]
        decide
      simp only [x258_0, x258_1a, x258_1b, x258_1c, x258_2, x258_3a, x258_3b, x258_3c, x258_5, x258_6, x258_9, x258_12, x258_13, x258_16, x258_19, x258_20, x258_23, x258_24, x258_25a, x258_25b, x258_25c, x258_26, x258_27, x258_28, x258_31, x258_32, x258_33, x258_36, x258_37, x258_40, x258_43, x258_44, x258_45, x258_46, x258_49, x258_50, x258_51, x258_54, x258_57, x258_58, x258_59a, x258_59b, x258_59c, x258_60a, x258_60b, x258_60c, x258_63, x258_66, x258_67a, x258_67b, x258_67c, x258_69, x258_70, x258_73, x258_76, x258_79, x258_80, x258_81, x258_84, x258_87, x258_88, x258_89, x258_92a, x258_92b, x258_92c, x258_95, x258_98, x258_99a, x258_99b, x258_100, x258_103, x258_104, x258_105, x258_108, x258_109, mzi, mInc, mne, mlt9, mrk, mI1, mI2, mI3, mI4, mL1, mL2, mL3, mL4, mQ1, mQ2, mQ3, mQ4, mT1, mcat0, mcat1, mcat2, mcat3, mcat4, mrf1, jK_v, jK_n, JA, mz1, if_true, if_false, ite_true, ite_false, eq_self, not_false_eq_true, Nat.zero_le, true_and, and_true, and_self, Nat.reduceMod, Nat.reduceAdd, Nat.reduceLeDiff, Nat.reduceEqDiff, Nat.reduceLT, hw2', hx2, hx3, g, hz]
    · simp only [x258_0, x258_1a, x258_1b, x258_1c, x258_2, x258_3a, x258_3b, x258_3c, x258_5, x258_6, x258_9, x258_12, x258_13, x258_16, x258_19, x258_20, x258_23, x258_24, x258_25a, x258_25b, x258_25c, x258_26, x258_27, x258_28, x258_31, x258_32, x258_33, x258_36, x258_37, x258_40, x258_43, x258_44, x258_45, x258_46, x258_49, x258_50, x258_51, x258_54, x258_57, x258_58, x258_59a, x258_59b, x258_59c, x258_60a, x258_60b, x258_60c, x258_63, x258_66, x258_67a, x258_67b, x258_67c, x258_69, x258_70, x258_73, x258_76, x258_79, x258_80, x258_81, x258_84, x258_87, x258_88, x258_89, x258_92a, x258_92b, x258_92c, x258_95, x258_98, x258_99a, x258_99b, x258_100, x258_103, x258_104, x258_105, x258_108, x258_109, mzi, mInc, mne, mlt9, mrk, mI1, mI2, mI3, mI4, mL1, mL2, mL3, mL4, mQ1, mQ2, mQ3, mQ4, mT1, mcat0, mcat1, mcat2, mcat3, mcat4, mrf1, jK_v, jK_n, JA, mz1, if_true, if_false, ite_true, ite_false, eq_self, not_false_eq_true, Nat.zero_le, true_and, and_true, and_self, Nat.reduceMod, Nat.reduceAdd, Nat.reduceLeDiff, Nat.reduceEqDiff, Nat.reduceLT, hw2', hx2, hx3, g]
  rw [h2]
  have step2 : ∀ (k : Nat) (a : jM) (b : Unit), k < n → jPl a m n t L K → jPl (if jI a 3024 k = 0 then a else kRingn a n k) m n t L K ∧ ∃ b' : Unit, (Ex (d + 12) 258 68 [some (.ref 2567), some (.int (kMarksn μ m n t L K w mk).1), some (.int (iN k)), b1] [] a Q ↔ Ex (d + 12) 258 68 [some (.ref 2567), some (.int (kMarksn μ m n t L K w mk).1), some (.int (iN (k + 1))), b1] [] (if jI a 3024 k = 0 then a else kRingn a n k) Q) := by
    intro k a b hk hPa
    refine ⟨?_, (), ?_⟩
    · split
      · exact hPa
      · exact jPln jSmn_g hPa
    · have hlt : iN k < iN n := (iN_lt (by omega) (by omega)).mpr hk
      obtain ⟨hW, hm, h6, hn, h10, ht, ht10, hL, hL4, hK, hok, h14, h16⟩ := hPa
      have hwa := hW
      unfold jWd at hwa
      have hmade : ∀ (d : Nat) (Q : jO → jM → Prop), Ex d 140 0 [some (.ref 2567), some (.int (iN k))] [] a Q ↔ Q (.inl (some (.int (if jI a 3024 k = 0 then 0 else 1)))) a := fun d Q => c_maden hW (by omega)
      have hring : ∀ (d : Nat) (Q : jO → jM → Prop), Ex (d + 2) 260 0 [some (.ref 2567), some (.int (iN k)), none] [] a Q ↔ Q (.inl none) (kRingn a n k) := fun d Q => c_ringn hW hn h10 hk
      rw [x258_68]
      by_cases g : jI a 3024 k = 0
      all_goals simp only [x258_0, x258_1a, x258_1b, x258_1c, x258_2, x258_3a, x258_3b, x258_3c, x258_5, x258_6, x258_9, x258_12, x258_13, x258_16, x258_19, x258_20, x258_23, x258_24, x258_25a, x258_25b, x258_25c, x258_26, x258_27, x258_28, x258_31, x258_32, x258_33, x258_36, x258_37, x258_40, x258_43, x258_44, x258_45, x258_46, x258_49, x258_50, x258_51, x258_54, x258_57, x258_58, x258_59a, x258_59b, x258_59c, x258_60a, x258_60b, x258_60c, x258_63, x258_66, x258_67a, x258_67b, x258_67c, x258_69, x258_70, x258_73, x258_76, x258_79, x258_80, x258_81, x258_84, x258_87, x258_88, x258_89, x258_92a, x258_92b, x258_92c, x258_95, x258_98, x258_99a, x258_99b, x258_100, x258_103, x258_104, x258_105, x258_108, x258_109, mzi, mInc, mne, mlt9, mrk, mI1, mI2, mI3, mI4, mL1, mL2, mL3, mL4, mQ1, mQ2, mQ3, mQ4, mT1, mcat0, mcat1, mcat2, mcat3, mcat4, mrf1, jK_v, jK_n, JA, mz1, if_true, if_false, ite_true, ite_false, eq_self, not_false_eq_true, Nat.zero_le, true_and, and_true, and_self, Nat.reduceMod, Nat.reduceAdd, Nat.reduceLeDiff, Nat.reduceEqDiff, Nat.reduceLT, hwa, hn, hlt, hmade, hring, g]
  obtain ⟨hP3, b2, hb2⟩ := jfold_loopI (P := fun k (a : jM) (b : Unit) => Ex (d + 12) 258 68 [some (.ref 2567), some (.int (kMarksn μ m n t L K w mk).1), some (.int (iN k)), b1] [] a Q) (I := fun k a => jPl a m n t L K) (f := fun k a => if jI a 3024 k = 0 then a else kRingn a n k) step2 n 0 (kMarksn μ m n t L K w mk).2 () (by omega) hP2
  have hf2 : jfold (fun k a => if jI a 3024 k = 0 then a else kRingn a n k) 0 n (kMarksn μ m n t L K w mk).2 = kRingsn (kMarksn μ m n t L K w mk).2 n := rfl
  rw [hf2] at hP3 hb2
  rw [hb2]
  have hge : ¬ iN n < iN n := iN_irr (by omega)
  have hw3 := hP3.1
  unfold jWd at hw3
  have hn3 := hP3.2.2.2.1
  unfold kGon
  simp only [x258_68, x258_0, x258_1a, x258_1b, x258_1c, x258_2, x258_3a, x258_3b, x258_3c, x258_5, x258_6, x258_9, x258_12, x258_13, x258_16, x258_19, x258_20, x258_23, x258_24, x258_25a, x258_25b, x258_25c, x258_26, x258_27, x258_28, x258_31, x258_32, x258_33, x258_36, x258_37, x258_40, x258_43, x258_44, x258_45, x258_46, x258_49, x258_50, x258_51, x258_54, x258_57, x258_58, x258_59a, x258_59b, x258_59c, x258_60a, x258_60b, x258_60c, x258_63, x258_66, x258_67a, x258_67b, x258_67c, x258_69, x258_70, x258_73, x258_76, x258_79, x258_80, x258_81, x258_84, x258_87, x258_88, x258_89, x258_92a, x258_92b, x258_92c, x258_95, x258_98, x258_99a, x258_99b, x258_100, x258_103, x258_104, x258_105, x258_108, x258_109, mzi, mInc, mne, mlt9, mrk, mI1, mI2, mI3, mI4, mL1, mL2, mL3, mL4, mQ1, mQ2, mQ3, mQ4, mT1, mcat0, mcat1, mcat2, mcat3, mcat4, mrf1, jK_v, jK_n, JA, mz1, if_true, if_false, ite_true, ite_false, eq_self, not_false_eq_true, Nat.zero_le, true_and, and_true, and_self, Nat.reduceMod, Nat.reduceAdd, Nat.reduceLeDiff, Nat.reduceEqDiff, Nat.reduceLT, hw3, hn3, hge]
/-- begun anew -/
def kBegn (μ : jM) (k : Nat) : jM := jsR (jsR (jsR (jsR (jsR (jsR (jsR (jsR (jsR (jsR (jsR (jsI μ 2567 16 0) 2640 (fun j => if j < k then 0 else jI μ 2640 j)) 2704 (fun j => if j < k then -1 else jI μ 2704 j)) 2960 (fun j => if j < k then 0 else jI μ 2960 j)) 2768 (fun j => if j < k then 0 else jI μ 2768 j)) 2832 (fun j => if j < k then 0 else jI μ 2832 j)) 2896 (fun j => if j < k then -1 else jI μ 2896 j)) 3024 (fun j => if j < k then 0 else jI μ 3024 j)) 3088 (fun j => if j < k then 0 else jI μ 3088 j)) 3152 (fun j => if j < k then 0 else jI μ 3152 j)) 3216 (fun j => if j < k then 0 else jI μ 3216 j)) 3280 (fun j => if j < k then 0 else jI μ 3280 j)
theorem c_begn (hW : jWd μ) : Ex (d + 1) 91 0 [some (.ref 2567), none] [] μ Q ↔ Q (.inl none) (kBegn μ 10) := by
  have hw := hW
  unfold jWd at hw
  have loop : ∀ k, 0 ≤ k → k < 10 → (Ex (d + 1) 91 7 [some (.ref 2567), some (.int (iN k))] [] (kBegn μ k) Q ↔ Ex (d + 1) 91 7 [some (.ref 2567), some (.int (iN (k + 1)))] [] (kBegn μ (k + 1)) Q) := by
    intro k _ hk
    have hlt : iN k < (10 : Int32) := (iN_lt (b := 10) (by omega) (by decide)).mpr hk
    have kc : (iN k).toNatClampNeg = k := iN_cl (by omega)
    have kj : jin (iN k) 10 = true := iN_in (by omega) (by omega)
    have hQ : jQ (kBegn μ k) = jQ μ := by
      unfold kBegn
      simp only [mR3, mI4]
    rw [x91_7]
    simp only [x91_0, x91_1, x91_2, x91_5, x91_6a, x91_6b, x91_6c, x91_8, x91_10, x91_13, x91_14, x91_17, x91_18, x91_19, x91_20, x91_21, x91_24, x91_25, x91_26, x91_27, x91_28, x91_31, x91_32, x91_33, x91_34, x91_35, x91_36, x91_39, x91_40, x91_41, x91_44a, x91_44b, x91_44c, x91_47, x91_50, x92_0, x92_1, x92_4, x92_5, x92_6, x92_7, x92_8, x92_11, x92_12, x92_13, x92_14, x92_15, x92_18, x92_19, x92_20, x92_21, x93_0, x93_1, x93_4, x93_5, x93_6, x93_7, x93_8, x93_11, x93_12, x93_13, x93_14, x93_15, x93_18, x93_19, x93_20, x93_21, x93_22, x93_25, x93_26, x93_27, x93_28, x93_29, x93_32, x93_33, x93_34, x93_35, mzi, mInc, mne, mlt9, mrk, mI1, mI2, mI3, mI4, mL1, mL2, mL3, mL4, mQ1, mQ2, mQ3, mQ4, mT1, mcat0, mcat1, mcat2, mcat3, mcat4, mrf1, jK_v, jK_n, JA, mz1, if_true, if_false, ite_true, ite_false, eq_self, not_false_eq_true, Nat.zero_le, true_and, and_true, and_self, Nat.reduceMod, Nat.reduceAdd, Nat.reduceLeDiff, Nat.reduceEqDiff, Nat.reduceLT, hw, hlt, kc, kj, hQ]
    unfold kBegn
    simp only [mRI, mRIc, Nat.reduceEqDiff, not_false_eq_true, jrowfn]
  have h0 := jclimb (P := fun k => Ex (d + 1) 91 7 [some (.ref 2567), some (.int (iN k))] [] (kBegn μ k) Q) loop (Nat.zero_le 10)
  have hz : kBegn μ 0 = jsI μ 2567 16 0 := by
    unfold kBegn
    simp only [Nat.not_lt_zero, if_false]
    repeat rw [jsR_id (by simp only [mR2, mI2, Nat.reduceEqDiff, not_false_eq_true])]
  have h1 : Ex (d + 1) 91 0 [some (.ref 2567), none] [] μ Q ↔ Ex (d + 1) 91 7 [some (.ref 2567), some (.int (iN 0))] [] (kBegn μ 0) Q := by
    rw [hz]
    simp only [x91_0, x91_1, x91_2, x91_5, x91_6a, x91_6b, x91_6c, x91_8, x91_10, x91_13, x91_14, x91_17, x91_18, x91_19, x91_20, x91_21, x91_24, x91_25, x91_26, x91_27, x91_28, x91_31, x91_32, x91_33, x91_34, x91_35, x91_36, x91_39, x91_40, x91_41, x91_44a, x91_44b, x91_44c, x91_47, x91_50, x92_0, x92_1, x92_4, x92_5, x92_6, x92_7, x92_8, x92_11, x92_12, x92_13, x92_14, x92_15, x92_18, x92_19, x92_20, x92_21, x93_0, x93_1, x93_4, x93_5, x93_6, x93_7, x93_8, x93_11, x93_12, x93_13, x93_14, x93_15, x93_18, x93_19, x93_20, x93_21, x93_22, x93_25, x93_26, x93_27, x93_28, x93_29, x93_32, x93_33, x93_34, x93_35, mzi, mInc, mne, mlt9, mrk, mI1, mI2, mI3, mI4, mL1, mL2, mL3, mL4, mQ1, mQ2, mQ3, mQ4, mT1, mcat0, mcat1, mcat2, mcat3, mcat4, mrf1, jK_v, jK_n, JA, mz1, if_true, if_false, ite_true, ite_false, eq_self, not_false_eq_true, Nat.zero_le, true_and, and_true, and_self, Nat.reduceMod, Nat.reduceAdd, Nat.reduceLeDiff, Nat.reduceEqDiff, Nat.reduceLT, hw]
  have hge : ¬ iN 10 < (10 : Int32) := by decide
  rw [h1, h0]
  simp only [x91_7, x91_0, x91_1, x91_2, x91_5, x91_6a, x91_6b, x91_6c, x91_8, x91_10, x91_13, x91_14, x91_17, x91_18, x91_19, x91_20, x91_21, x91_24, x91_25, x91_26, x91_27, x91_28, x91_31, x91_32, x91_33, x91_34, x91_35, x91_36, x91_39, x91_40, x91_41, x91_44a, x91_44b, x91_44c, x91_47, x91_50, x92_0, x92_1, x92_4, x92_5, x92_6, x92_7, x92_8, x92_11, x92_12, x92_13, x92_14, x92_15, x92_18, x92_19, x92_20, x92_21, x93_0, x93_1, x93_4, x93_5, x93_6, x93_7, x93_8, x93_11, x93_12, x93_13, x93_14, x93_15, x93_18, x93_19, x93_20, x93_21, x93_22, x93_25, x93_26, x93_27, x93_28, x93_29, x93_32, x93_33, x93_34, x93_35, mzi, mInc, mne, mlt9, mrk, mI1, mI2, mI3, mI4, mL1, mL2, mL3, mL4, mQ1, mQ2, mQ3, mQ4, mT1, mcat0, mcat1, mcat2, mcat3, mcat4, mrf1, jK_v, jK_n, JA, mz1, if_true, if_false, ite_true, ite_false, eq_self, not_false_eq_true, Nat.zero_le, true_and, and_true, and_self, Nat.reduceMod, Nat.reduceAdd, Nat.reduceLeDiff, Nat.reduceEqDiff, Nat.reduceLT, hge]
theorem c_goa (hP : jPl μ m n t L K) (hw1 : jI μ 3463 16 = iN w) (hw2 : w ≤ 10) (hmk : jI μ 3463 3 = iN mk) (hmk2 : mk < 2 ^ 31) : Ex (d + 12) 258 0 [some (.ref 3463), none, none, none] [] μ Q ↔ Q (.inl (some (.int (kMarksa μ m n t L K w mk).1))) (kGoa μ m n t L K w mk) := by
  have hn10 : n ≤ 10 := hP.2.2.2.2.1
  have step1 : ∀ (k : Nat) (a : Int32 × jM) (b : Option Value), k < min mk w → (jPl a.2 m n t L K ∧ jI a.2 3463 16 = iN (w - k) ∧ jI a.2 3463 3 = iN mk) →
      (jPl (kMarka m n t L K (w - k) a).2 m n t L K ∧ jI (kMarka m n t L K (w - k) a).2 3463 16 = iN (w - (k + 1)) ∧ jI (kMarka m n t L K (w - k) a).2 3463 3 = iN mk) ∧ ∃ b', (Ex (d + 12) 258 4 [some (.ref 3463), some (.int a.1), some (.int (iN k)), b] [] a.2 Q ↔ Ex (d + 12) 258 4 [some (.ref 3463), some (.int (kMarka m n t L K (w - k) a).1), some (.int (iN (k + 1))), b'] [] (kMarka m n t L K (w - k) a).2 Q) := by
    intro k a b hk ⟨hP1, hx1, hx2⟩
    obtain ⟨sum, μ1⟩ := a
    simp only at hP1 hx1 hx2
    have hk1 : k < mk := by omega
    have hk2 : k < w := by omega
    have hP1' := hP1
    obtain ⟨hW, hm, h6, hn, h10, ht, ht10, hL, hL4, hK, hok, h14, h16⟩ := hP1
    have hw := hW
    unfold jWd at hw
    have hlt : iN k < iN mk := (iN_lt (by omega) (by omega)).mpr hk1
    have hpos : (0 : Int32) < iN (w - k) := (iN_lt (a := 0) (by omega) (by omega)).mpr (by omega)
    have hlv : ∀ (d : Nat) (Q : jO → jM → Prop), Ex d 170 0 [some (.ref 3463), some (.int 0), none] [] μ1 Q ↔ Q (.inl none) (kLva μ1 (w - k) 0) := fun d Q => c_leavea (q := 0) hW hx1 (by omega) (by omega)
    have hPv : jPl (kLva μ1 (w - k) 0) m n t L K := jPla jSma_l hP1'
    have hxv : jI (kLva μ1 (w - k) 0) 3463 = fun j => if j = 16 then iN (w - (k + 1)) else jI μ1 3463 j := by
      unfold kLva
      rw [mR2 (by decide)]
      funext j
      rw [mI1, show w - k - 1 = w - (k + 1) by omega]
    have hrd : ∀ a, ¬ a = 3463 → ¬ a = 4240 → jI (kLva μ1 (w - k) 0) a = jI μ1 a := fun a h1 h2 => by unfold kLva; rw [mR2 h2, mI2 h1]
    have hrq : jQ (kLva μ1 (w - k) 0) = jQ μ1 := rfl
    have hj0 : jin 0 10 = true := by decide
    by_cases g0 : jhas (jI μ1 4240 0) (iN n) 10 = 0
    · refine ⟨?_, some (.int (jI μ1 4240 0)), ?_⟩
      · unfold kMarka
        rw [if_pos g0]
        exact ⟨hPv, by rw [hxv]; exact if_pos rfl, by rw [hxv]; exact (if_neg (by decide)).trans hx2⟩
      · unfold kMarka
        rw [if_pos g0, x258_4]
        simp only [x258_0, x258_1a, x258_1b, x258_1c, x258_2, x258_3a, x258_3b, x258_3c, x258_5, x258_6, x258_9, x258_12, x258_13, x258_16, x258_19, x258_20, x258_23, x258_24, x258_25a, x258_25b, x258_25c, x258_26, x258_27, x258_28, x258_31, x258_32, x258_33, x258_36, x258_37, x258_40, x258_43, x258_44, x258_45, x258_46, x258_49, x258_50, x258_51, x258_54, x258_57, x258_58, x258_59a, x258_59b, x258_59c, x258_60a, x258_60b, x258_60c, x258_63, x258_66, x258_67a, x258_67b, x258_67c, x258_69, x258_70, x258_73, x258_76, x258_79, x258_80, x258_81, x258_84, x258_87, x258_88, x258_89, x258_92a, x258_92b, x258_92c, x258_95, x258_98, x258_99a, x258_99b, x258_100, x258_103, x258_104, x258_105, x258_108, x258_109, mzi, mInc, mne, mlt9, mrk, mI1, mI2, mI3, mI4, mL1, mL2, mL3, mL4, mQ1, mQ2, mQ3, mQ4, mT1, mcat0, mcat1, mcat2, mcat3, mcat4, mrf1, jK_v, jK_n, JA, mz1, if_true, if_false, ite_true, ite_false, eq_self, not_false_eq_true, Nat.zero_le, true_and, and_true, and_self, Nat.reduceMod, Nat.reduceAdd, Nat.reduceLeDiff, Nat.reduceEqDiff, Nat.reduceLT, hw, hn, hx1, hx2, hlt, hpos, hlv, hrd, hrq, c_hasLine (x := 1731) rfl, g0, hj0]
    · obtain ⟨e, hc⟩ := jhas_1 g0 h10
      have hsv : ∀ (d : Nat) (c : Int32) (Q : jO → jM → Prop), Ex (d + 11) 259 0 [some (.ref 3463), some (.int (iN (jI μ1 4240 0).toNatClampNeg)), some (.int c)] [] (kLva μ1 (w - k) 0) Q ↔ Q (.inl (some (.int (kServea (kLva μ1 (w - k) 0) m n t L K (jI μ1 4240 0).toNatClampNeg c).1))) (kServea (kLva μ1 (w - k) 0) m n t L K (jI μ1 4240 0).toNatClampNeg c).2 := fun d c Q => c_servea hPv hc
      refine ⟨?_, some (.int (jI μ1 4240 0)), ?_⟩
      · unfold kMarka
        rw [if_neg g0]
        refine ⟨jPla jSma_s hPv, ?_, ?_⟩
        · rw [kServe_xa, hxv]; exact if_pos rfl
        · rw [kServe_xa, hxv]; exact (if_neg (by decide)).trans hx2
      · unfold kMarka
        rw [if_neg g0, x258_4]
        simp only
        generalize hv : (jI μ1 4240 0).toNatClampNeg = v at e hc hsv ⊢
        have vj : jin (iN v) 10 = true := iN_in (by omega) (by omega)
        have vc : (iN v).toNatClampNeg = v := iN_cl (by omega)
        have hh : jhas (iN v) (iN n) 10 = 1 := jhas_in (m := 10) hc h10 (by decide)
        simp only [x258_0, x258_1a, x258_1b, x258_1c, x258_2, x258_3a, x258_3b, x258_3c, x258_5, x258_6, x258_9, x258_12, x258_13, x258_16, x258_19, x258_20, x258_23, x258_24, x258_25a, x258_25b, x258_25c, x258_26, x258_27, x258_28, x258_31, x258_32, x258_33, x258_36, x258_37, x258_40, x258_43, x258_44, x258_45, x258_46, x258_49, x258_50, x258_51, x258_54, x258_57, x258_58, x258_59a, x258_59b, x258_59c, x258_60a, x258_60b, x258_60c, x258_63, x258_66, x258_67a, x258_67b, x258_67c, x258_69, x258_70, x258_73, x258_76, x258_79, x258_80, x258_81, x258_84, x258_87, x258_88, x258_89, x258_92a, x258_92b, x258_92c, x258_95, x258_98, x258_99a, x258_99b, x258_100, x258_103, x258_104, x258_105, x258_108, x258_109, mzi, mInc, mne, mlt9, mrk, mI1, mI2, mI3, mI4, mL1, mL2, mL3, mL4, mQ1, mQ2, mQ3, mQ4, mT1, mcat0, mcat1, mcat2, mcat3, mcat4, mrf1, jK_v, jK_n, JA, mz1, if_true, if_false, ite_true, ite_false, eq_self, not_false_eq_true, Nat.zero_le, true_and, and_true, and_self, Nat.reduceMod, Nat.reduceAdd, Nat.reduceLeDiff, Nat.reduceEqDiff, Nat.reduceLT, hw, hn, hx1, hx2, hlt, hpos, hlv, hrd, hrq, c_hasLine (x := 1731) rfl, e, hh, hj0, vj, vc, hsv]
  obtain ⟨⟨hP2, hx2, hx3⟩, b1, hb1⟩ := jfold_loopI (P := fun k (a : Int32 × jM) (b : Option Value) => Ex (d + 12) 258 4 [some (.ref 3463), some (.int a.1), some (.int (iN k)), b] [] a.2 Q) (I := fun k a => jPl a.2 m n t L K ∧ jI a.2 3463 16 = iN (w - k) ∧ jI a.2 3463 3 = iN mk) (f := fun k a => kMarka m n t L K (w - k) a) step1 (min mk w) 0 (0, μ) none (by omega) ⟨hP, hw1, hmk⟩
  have hf1 : jfold (fun k a => kMarka m n t L K (w - k) a) 0 (min mk w) (0, μ) = kMarksa μ m n t L K w mk := rfl
  rw [hf1] at hP2 hx2 hx3 hb1
  have hw := hP.1
  unfold jWd at hw
  have h1 : Ex (d + 12) 258 0 [some (.ref 3463), none, none, none] [] μ Q ↔ Ex (d + 12) 258 4 [some (.ref 3463), some (.int 0), some (.int (iN 0)), none] [] μ Q := by
    simp only [x258_0, x258_1a, x258_1b, x258_1c, x258_2, x258_3a, x258_3b, x258_3c, x258_5, x258_6, x258_9, x258_12, x258_13, x258_16, x258_19, x258_20, x258_23, x258_24, x258_25a, x258_25b, x258_25c, x258_26, x258_27, x258_28, x258_31, x258_32, x258_33, x258_36, x258_37, x258_40, x258_43, x258_44, x258_45, x258_46, x258_49, x258_50, x258_51, x258_54, x258_57, x258_58, x258_59a, x258_59b, x258_59c, x258_60a, x258_60b, x258_60c, x258_63, x258_66, x258_67a, x258_67b, x258_67c, x258_69, x258_70, x258_73, x258_76, x258_79, x258_80, x258_81, x258_84, x258_87, x258_88, x258_89, x258_92a, x258_92b, x258_92c, x258_95, x258_98, x258_99a, x258_99b, x258_100, x258_103, x258_104, x258_105, x258_108, x258_109, mzi, mInc, mne, mlt9, mrk, mI1, mI2, mI3, mI4, mL1, mL2, mL3, mL4, mQ1, mQ2, mQ3, mQ4, mT1, mcat0, mcat1, mcat2, mcat3, mcat4, mrf1, jK_v, jK_n, JA, mz1, if_true, if_false, ite_true, ite_false, eq_self, not_false_eq_true, Nat.zero_le, true_and, and_true, and_self, Nat.reduceMod, Nat.reduceAdd, Nat.reduceLeDiff, Nat.reduceEqDiff, Nat.reduceLT, hw]
  rw [h1, hb1]
  have hw2' := hP2.1
  unfold jWd at hw2'
  have h2 : Ex (d + 12) 258 4 [some (.ref 3463), some (.int (kMarksa μ m n t L K w mk).1), some (.int (iN (min mk w))), b1] [] (kMarksa μ m n t L K w mk).2 Q ↔ Ex (d + 12) 258 68 [some (.ref 3463), some (.int (kMarksa μ m n t L K w mk).1), some (.int (iN 0)), b1] [] (kMarksa μ m n t L K w mk).2 Q := by
    rw [x258_4]
    by_cases g : iN (min mk w) < iN mk
    · have hz : ¬ (0 : Int32) < iN (w - min mk w) := by
        have h := (iN_lt (by omega) (by omega)).mp g
        rw [show w - min mk w = 0 by omega]
        decide
      simp only [x258_0, x258_1a, x258_1b, x258_1c, x258_2, x258_3a, x258_3b, x258_3c, x258_5, x258_6, x258_9, x258_12, x258_13, x258_16, x258_19, x258_20, x258_23, x258_24, x258_25a, x258_25b, x258_25c, x258_26, x258_27, x258_28, x258_31, x258_32, x258_33, x258_36, x258_37, x258_40, x258_43, x258_44, x258_45, x258_46, x258_49, x258_50, x258_51, x258_54, x258_57, x258_58, x258_59a, x258_59b, x258_59c, x258_60a, x258_60b, x258_60c, x258_63, x258_66, x258_67a, x258_67b, x258_67c, x258_69, x258_70, x258_73, x258_76, x258_79, x258_80, x258_81, x258_84, x258_87, x258_88, x258_89, x258_92a, x258_92b, x258_92c, x258_95, x258_98, x258_99a, x258_99b, x258_100, x258_103, x258_104, x258_105, x258_108, x258_109, mzi, mInc, mne, mlt9, mrk, mI1, mI2, mI3, mI4, mL1, mL2, mL3, mL4, mQ1, mQ2, mQ3, mQ4, mT1, mcat0, mcat1, mcat2, mcat3, mcat4, mrf1, jK_v, jK_n, JA, mz1, if_true, if_false, ite_true, ite_false, eq_self, not_false_eq_true, Nat.zero_le, true_and, and_true, and_self, Nat.reduceMod, Nat.reduceAdd, Nat.reduceLeDiff, Nat.reduceEqDiff, Nat.reduceLT, hw2', hx2, hx3, g, hz]
    · simp only [x258_0, x258_1a, x258_1b, x258_1c, x258_2, x258_3a, x258_3b, x258_3c, x258_5, x258_6, x258_9, x258_12, x258_13, x258_16, x258_19, x258_20, x258_23, x258_24, x258_25a, x258_25b, x258_25c, x258_26, x258_27, x258_28, x258_31, x258_32, x258_33, x258_36, x258_37, x258_40, x258_43, x258_44, x258_45, x258_46, x258_49, x258_50, x258_51, x258_54, x258_57, x258_58, x258_59a, x258_59b, x258_59c, x258_60a, x258_60b, x258_60c, x258_63, x258_66, x258_67a, x258_67b, x258_67c, x258_69, x258_70, x258_73, x258_76, x258_79, x258_80, x258_81, x258_84, x258_87, x258_88, x258_89, x258_92a, x258_92b, x258_92c, x258_95, x258_98, x258_99a, x258_99b, x258_100, x258_103, x258_104, x258_105, x258_108, x258_109, mzi, mInc, mne, mlt9, mrk, mI1, mI2, mI3, mI4, mL1, mL2, mL3, mL4, mQ1, mQ2, mQ3, mQ4, mT1, mcat0, mcat1, mcat2, mcat3, mcat4, mrf1, jK_v, jK_n, JA, mz1, if_true, if_false, ite_true, ite_false, eq_self, not_false_eq_true, Nat.zero_le, true_and, and_true, and_self, Nat.reduceMod, Nat.reduceAdd, Nat.reduceLeDiff, Nat.reduceEqDiff, Nat.reduceLT, hw2', hx2, hx3, g]
  rw [h2]
  have step2 : ∀ (k : Nat) (a : jM) (b : Unit), k < n → jPl a m n t L K → jPl (if jI a 3920 k = 0 then a else kRinga a n k) m n t L K ∧ ∃ b' : Unit, (Ex (d + 12) 258 68 [some (.ref 3463), some (.int (kMarksa μ m n t L K w mk).1), some (.int (iN k)), b1] [] a Q ↔ Ex (d + 12) 258 68 [some (.ref 3463), some (.int (kMarksa μ m n t L K w mk).1), some (.int (iN (k + 1))), b1] [] (if jI a 3920 k = 0 then a else kRinga a n k) Q) := by
    intro k a b hk hPa
    refine ⟨?_, (), ?_⟩
    · split
      · exact hPa
      · exact jPla jSma_g hPa
    · have hlt : iN k < iN n := (iN_lt (by omega) (by omega)).mpr hk
      obtain ⟨hW, hm, h6, hn, h10, ht, ht10, hL, hL4, hK, hok, h14, h16⟩ := hPa
      have hwa := hW
      unfold jWd at hwa
      have hmade : ∀ (d : Nat) (Q : jO → jM → Prop), Ex d 140 0 [some (.ref 3463), some (.int (iN k))] [] a Q ↔ Q (.inl (some (.int (if jI a 3920 k = 0 then 0 else 1)))) a := fun d Q => c_madea hW (by omega)
      have hring : ∀ (d : Nat) (Q : jO → jM → Prop), Ex (d + 2) 260 0 [some (.ref 3463), some (.int (iN k)), none] [] a Q ↔ Q (.inl none) (kRinga a n k) := fun d Q => c_ringa hW hn h10 hk
      rw [x258_68]
      by_cases g : jI a 3920 k = 0
      all_goals simp only [x258_0, x258_1a, x258_1b, x258_1c, x258_2, x258_3a, x258_3b, x258_3c, x258_5, x258_6, x258_9, x258_12, x258_13, x258_16, x258_19, x258_20, x258_23, x258_24, x258_25a, x258_25b, x258_25c, x258_26, x258_27, x258_28, x258_31, x258_32, x258_33, x258_36, x258_37, x258_40, x258_43, x258_44, x258_45, x258_46, x258_49, x258_50, x258_51, x258_54, x258_57, x258_58, x258_59a, x258_59b, x258_59c, x258_60a, x258_60b, x258_60c, x258_63, x258_66, x258_67a, x258_67b, x258_67c, x258_69, x258_70, x258_73, x258_76, x258_79, x258_80, x258_81, x258_84, x258_87, x258_88, x258_89, x258_92a, x258_92b, x258_92c, x258_95, x258_98, x258_99a, x258_99b, x258_100, x258_103, x258_104, x258_105, x258_108, x258_109, mzi, mInc, mne, mlt9, mrk, mI1, mI2, mI3, mI4, mL1, mL2, mL3, mL4, mQ1, mQ2, mQ3, mQ4, mT1, mcat0, mcat1, mcat2, mcat3, mcat4, mrf1, jK_v, jK_n, JA, mz1, if_true, if_false, ite_true, ite_false, eq_self, not_false_eq_true, Nat.zero_le, true_and, and_true, and_self, Nat.reduceMod, Nat.reduceAdd, Nat.reduceLeDiff, Nat.reduceEqDiff, Nat.reduceLT, hwa, hn, hlt, hmade, hring, g]
  obtain ⟨hP3, b2, hb2⟩ := jfold_loopI (P := fun k (a : jM) (b : Unit) => Ex (d + 12) 258 68 [some (.ref 3463), some (.int (kMarksa μ m n t L K w mk).1), some (.int (iN k)), b1] [] a Q) (I := fun k a => jPl a m n t L K) (f := fun k a => if jI a 3920 k = 0 then a else kRinga a n k) step2 n 0 (kMarksa μ m n t L K w mk).2 () (by omega) hP2
  have hf2 : jfold (fun k a => if jI a 3920 k = 0 then a else kRinga a n k) 0 n (kMarksa μ m n t L K w mk).2 = kRingsa (kMarksa μ m n t L K w mk).2 n := rfl
  rw [hf2] at hP3 hb2
  rw [hb2]
  have hge : ¬ iN n < iN n := iN_irr (by omega)
  have hw3 := hP3.1
  unfold jWd at hw3
  have hn3 := hP3.2.2.2.1
  unfold kGoa
  simp only [x258_68, x258_0, x258_1a, x258_1b, x258_1c, x258_2, x258_3a, x258_3b, x258_3c, x258_5, x258_6, x258_9, x258_12, x258_13, x258_16, x258_19, x258_20, x258_23, x258_24, x258_25a, x258_25b, x258_25c, x258_26, x258_27, x258_28, x258_31, x258_32, x258_33, x258_36, x258_37, x258_40, x258_43, x258_44, x258_45, x258_46, x258_49, x258_50, x258_51, x258_54, x258_57, x258_58, x258_59a, x258_59b, x258_59c, x258_60a, x258_60b, x258_60c, x258_63, x258_66, x258_67a, x258_67b, x258_67c, x258_69, x258_70, x258_73, x258_76, x258_79, x258_80, x258_81, x258_84, x258_87, x258_88, x258_89, x258_92a, x258_92b, x258_92c, x258_95, x258_98, x258_99a, x258_99b, x258_100, x258_103, x258_104, x258_105, x258_108, x258_109, mzi, mInc, mne, mlt9, mrk, mI1, mI2, mI3, mI4, mL1, mL2, mL3, mL4, mQ1, mQ2, mQ3, mQ4, mT1, mcat0, mcat1, mcat2, mcat3, mcat4, mrf1, jK_v, jK_n, JA, mz1, if_true, if_false, ite_true, ite_false, eq_self, not_false_eq_true, Nat.zero_le, true_and, and_true, and_self, Nat.reduceMod, Nat.reduceAdd, Nat.reduceLeDiff, Nat.reduceEqDiff, Nat.reduceLT, hw3, hn3, hge]
/-- begun anew -/
def kBega (μ : jM) (k : Nat) : jM := jsR (jsR (jsR (jsR (jsR (jsR (jsR (jsR (jsR (jsR (jsR (jsI μ 3463 16 0) 3536 (fun j => if j < k then 0 else jI μ 3536 j)) 3600 (fun j => if j < k then -1 else jI μ 3600 j)) 3856 (fun j => if j < k then 0 else jI μ 3856 j)) 3664 (fun j => if j < k then 0 else jI μ 3664 j)) 3728 (fun j => if j < k then 0 else jI μ 3728 j)) 3792 (fun j => if j < k then -1 else jI μ 3792 j)) 3920 (fun j => if j < k then 0 else jI μ 3920 j)) 3984 (fun j => if j < k then 0 else jI μ 3984 j)) 4048 (fun j => if j < k then 0 else jI μ 4048 j)) 4112 (fun j => if j < k then 0 else jI μ 4112 j)) 4176 (fun j => if j < k then 0 else jI μ 4176 j)
theorem c_bega (hW : jWd μ) : Ex (d + 1) 91 0 [some (.ref 3463), none] [] μ Q ↔ Q (.inl none) (kBega μ 10) := by
  have hw := hW
  unfold jWd at hw
  have loop : ∀ k, 0 ≤ k → k < 10 → (Ex (d + 1) 91 7 [some (.ref 3463), some (.int (iN k))] [] (kBega μ k) Q ↔ Ex (d + 1) 91 7 [some (.ref 3463), some (.int (iN (k + 1)))] [] (kBega μ (k + 1)) Q) := by
    intro k _ hk
    have hlt : iN k < (10 : Int32) := (iN_lt (b := 10) (by omega) (by decide)).mpr hk
    have kc : (iN k).toNatClampNeg = k := iN_cl (by omega)
    have kj : jin (iN k) 10 = true := iN_in (by omega) (by omega)
    have hQ : jQ (kBega μ k) = jQ μ := by
      unfold kBega
      simp only [mR3, mI4]
    rw [x91_7]
    simp only [x91_0, x91_1, x91_2, x91_5, x91_6a, x91_6b, x91_6c, x91_8, x91_10, x91_13, x91_14, x91_17, x91_18, x91_19, x91_20, x91_21, x91_24, x91_25, x91_26, x91_27, x91_28, x91_31, x91_32, x91_33, x91_34, x91_35, x91_36, x91_39, x91_40, x91_41, x91_44a, x91_44b, x91_44c, x91_47, x91_50, x92_0, x92_1, x92_4, x92_5, x92_6, x92_7, x92_8, x92_11, x92_12, x92_13, x92_14, x92_15, x92_18, x92_19, x92_20, x92_21, x93_0, x93_1, x93_4, x93_5, x93_6, x93_7, x93_8, x93_11, x93_12, x93_13, x93_14, x93_15, x93_18, x93_19, x93_20, x93_21, x93_22, x93_25, x93_26, x93_27, x93_28, x93_29, x93_32, x93_33, x93_34, x93_35, mzi, mInc, mne, mlt9, mrk, mI1, mI2, mI3, mI4, mL1, mL2, mL3, mL4, mQ1, mQ2, mQ3, mQ4, mT1, mcat0, mcat1, mcat2, mcat3, mcat4, mrf1, jK_v, jK_n, JA, mz1, if_true, if_false, ite_true, ite_false, eq_self, not_false_eq_true, Nat.zero_le, true_and, and_true, and_self, Nat.reduceMod, Nat.reduceAdd, Nat.reduceLeDiff, Nat.reduceEqDiff, Nat.reduceLT, hw, hlt, kc, kj, hQ]
    unfold kBega
    simp only [mRI, mRIc, Nat.reduceEqDiff, not_false_eq_true, jrowfn]
  have h0 := jclimb (P := fun k => Ex (d + 1) 91 7 [some (.ref 3463), some (.int (iN k))] [] (kBega μ k) Q) loop (Nat.zero_le 10)
  have hz : kBega μ 0 = jsI μ 3463 16 0 := by
    unfold kBega
    simp only [Nat.not_lt_zero, if_false]
    repeat rw [jsR_id (by simp only [mR2, mI2, Nat.reduceEqDiff, not_false_eq_true])]
  have h1 : Ex (d + 1) 91 0 [some (.ref 3463), none] [] μ Q ↔ Ex (d + 1) 91 7 [some (.ref 3463), some (.int (iN 0))] [] (kBega μ 0) Q := by
    rw [hz]
    simp only [x91_0, x91_1, x91_2, x91_5, x91_6a, x91_6b, x91_6c, x91_8, x91_10, x91_13, x91_14, x91_17, x91_18, x91_19, x91_20, x91_21, x91_24, x91_25, x91_26, x91_27, x91_28, x91_31, x91_32, x91_33, x91_34, x91_35, x91_36, x91_39, x91_40, x91_41, x91_44a, x91_44b, x91_44c, x91_47, x91_50, x92_0, x92_1, x92_4, x92_5, x92_6, x92_7, x92_8, x92_11, x92_12, x92_13, x92_14, x92_15, x92_18, x92_19, x92_20, x92_21, x93_0, x93_1, x93_4, x93_5, x93_6, x93_7, x93_8, x93_11, x93_12, x93_13, x93_14, x93_15, x93_18, x93_19, x93_20, x93_21, x93_22, x93_25, x93_26, x93_27, x93_28, x93_29, x93_32, x93_33, x93_34, x93_35, mzi, mInc, mne, mlt9, mrk, mI1, mI2, mI3, mI4, mL1, mL2, mL3, mL4, mQ1, mQ2, mQ3, mQ4, mT1, mcat0, mcat1, mcat2, mcat3, mcat4, mrf1, jK_v, jK_n, JA, mz1, if_true, if_false, ite_true, ite_false, eq_self, not_false_eq_true, Nat.zero_le, true_and, and_true, and_self, Nat.reduceMod, Nat.reduceAdd, Nat.reduceLeDiff, Nat.reduceEqDiff, Nat.reduceLT, hw]
  have hge : ¬ iN 10 < (10 : Int32) := by decide
  rw [h1, h0]
  simp only [x91_7, x91_0, x91_1, x91_2, x91_5, x91_6a, x91_6b, x91_6c, x91_8, x91_10, x91_13, x91_14, x91_17, x91_18, x91_19, x91_20, x91_21, x91_24, x91_25, x91_26, x91_27, x91_28, x91_31, x91_32, x91_33, x91_34, x91_35, x91_36, x91_39, x91_40, x91_41, x91_44a, x91_44b, x91_44c, x91_47, x91_50, x92_0, x92_1, x92_4, x92_5, x92_6, x92_7, x92_8, x92_11, x92_12, x92_13, x92_14, x92_15, x92_18, x92_19, x92_20, x92_21, x93_0, x93_1, x93_4, x93_5, x93_6, x93_7, x93_8, x93_11, x93_12, x93_13, x93_14, x93_15, x93_18, x93_19, x93_20, x93_21, x93_22, x93_25, x93_26, x93_27, x93_28, x93_29, x93_32, x93_33, x93_34, x93_35, mzi, mInc, mne, mlt9, mrk, mI1, mI2, mI3, mI4, mL1, mL2, mL3, mL4, mQ1, mQ2, mQ3, mQ4, mT1, mcat0, mcat1, mcat2, mcat3, mcat4, mrf1, jK_v, jK_n, JA, mz1, if_true, if_false, ite_true, ite_false, eq_self, not_false_eq_true, Nat.zero_le, true_and, and_true, and_self, Nat.reduceMod, Nat.reduceAdd, Nat.reduceLeDiff, Nat.reduceEqDiff, Nat.reduceLT, hge]
def kCopy (μ : jM) : jM := jsR (jsR (jsR (jsR (jsR (jsR (jsR (jsR (jsR (jsR (jsR (jsR (jsI (jsI (jsI μ 3463 2 (jI μ 2567 2)) 3463 3 (jI μ 2567 3)) 3463 16 (jI μ 2567 16)) 3536 (fun j => if j < 10 then jI μ 2640 j else jI μ 3536 j)) 3600 (fun j => if j < 10 then jI μ 2704 j else jI μ 3600 j)) 3664 (fun j => if j < 10 then jI μ 2768 j else jI μ 3664 j)) 3728 (fun j => if j < 10 then jI μ 2832 j else jI μ 3728 j)) 3792 (fun j => if j < 10 then jI μ 2896 j else jI μ 3792 j)) 3856 (fun j => if j < 10 then jI μ 2960 j else jI μ 3856 j)) 3920 (fun j => if j < 10 then jI μ 3024 j else jI μ 3920 j)) 3984 (fun j => if j < 10 then jI μ 3088 j else jI μ 3984 j)) 4048 (fun j => if j < 10 then jI μ 3152 j else jI μ 4048 j)) 4112 (fun j => if j < 10 then jI μ 3216 j else jI μ 4112 j)) 4176 (fun j => if j < 10 then jI μ 3280 j else jI μ 4176 j)) 4240 (fun j => if j < 10 then jI μ 3344 j else jI μ 4240 j)
theorem c_copyX (hW : jWd μ) : Ex (d + 1) 266 0 [some (.ref 3463), some (.ref 2567)] [] μ Q ↔ Q (.inl none) (kCopy μ) := by
  have hw := hW
  unfold jWd at hw
  unfold kCopy
  simp only [x266_0, x266_1, x266_2, x266_5, x266_8, x266_9, x266_10, x266_13, x266_16, x266_17, x266_18, x266_21, x266_24, x266_25, x266_28, x266_29, x266_32, x266_35, x266_36, x266_39, x266_40, x266_43, x266_46, x266_47, x266_50, x266_51, x266_54, x266_57, x266_58, x266_61, x266_62, x266_65, x266_68, x266_69, x266_72, x266_73, x266_76, x266_79, x266_80, x266_83, x266_84, x266_87, x266_90, x266_91, x266_94, x266_95, x266_98, x266_101, x266_102, x266_105, x266_106, x266_109, x266_112, x266_113, x266_116, x266_117, x266_120, x266_123, x266_124, x266_127, x266_128, x266_131, x266_134, x266_135, x266_138, x266_139, x266_142, x266_145, x266_146, x266_149, x266_150, x266_153, x266_156, mzi, mInc, mne, mlt9, mrk, mI1, mI2, mI3, mI4, mL1, mL2, mL3, mL4, mQ1, mQ2, mQ3, mQ4, mT1, mcat0, mcat1, mcat2, mcat3, mcat4, mrf1, jK_v, jK_n, JA, mz1, if_true, if_false, ite_true, ite_false, eq_self, not_false_eq_true, Nat.zero_le, true_and, and_true, and_self, Nat.reduceMod, Nat.reduceAdd, Nat.reduceLeDiff, Nat.reduceEqDiff, Nat.reduceLT, hw, mR2, mR3, c_copy (a := 2640) (b := 3536) (n := 10) rfl rfl rfl rfl rfl rfl (by decide), c_copy (a := 2704) (b := 3600) (n := 10) rfl rfl rfl rfl rfl rfl (by decide), c_copy (a := 2768) (b := 3664) (n := 10) rfl rfl rfl rfl rfl rfl (by decide), c_copy (a := 2832) (b := 3728) (n := 10) rfl rfl rfl rfl rfl rfl (by decide), c_copy (a := 2896) (b := 3792) (n := 10) rfl rfl rfl rfl rfl rfl (by decide), c_copy (a := 2960) (b := 3856) (n := 10) rfl rfl rfl rfl rfl rfl (by decide), c_copy (a := 3024) (b := 3920) (n := 10) rfl rfl rfl rfl rfl rfl (by decide), c_copy (a := 3088) (b := 3984) (n := 10) rfl rfl rfl rfl rfl rfl (by decide), c_copy (a := 3152) (b := 4048) (n := 10) rfl rfl rfl rfl rfl rfl (by decide), c_copy (a := 3216) (b := 4112) (n := 10) rfl rfl rfl rfl rfl rfl (by decide), c_copy (a := 3280) (b := 4176) (n := 10) rfl rfl rfl rfl rfl rfl (by decide), c_copy (a := 3344) (b := 4240) (n := 10) rfl rfl rfl rfl rfl rfl (by decide)]
end C12
