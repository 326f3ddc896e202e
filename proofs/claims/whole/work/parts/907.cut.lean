/-! THE PURE PART: tokens (reference). -/
/-- the tokens as the reference keeps them, those below j -/
def jTm (μ μ' : jM) (b : Nat → Int32) (sz j : Nat) : Prop :=
  (∀ a, ¬ a = 4633 → ¬ a = 4697 → ¬ a = 4761 → ¬ a = 4825 → ¬ a = 4889 → jI μ' a = jI μ a) ∧ jQ μ' = jQ μ ∧ jL μ' = jL μ ∧ jA μ' = jA μ ∧ jX μ' = jX μ ∧
  ∀ i, i < j → jI μ' 4633 i = iN (kMd (kTk b sz i)) ∧ jI μ' 4697 i = iN (kTs b sz i) ∧ (kTs b sz i < sz → jI μ' 4761 i = iN (kTl b sz i)) ∧ jI μ' 4825 i = 0 ∧ jI μ' 4889 i = 0
theorem kMd_lt : ∀ K, K < 42 → (kMd K < 900 ↔ K < 39) ∧ (kMd K = 900 ↔ K = 39) ∧ kMd K < 1000 := by decide +kernel
section CUT
variable {μ : jM} {sz N : Nat} {b : Nat → Int32}
theorem d_cutS {ν : jM} (hW : jWd μ) (hT : kTp μ b sz) (hB : ∀ i, i < sz → ∃ v, v < 256 ∧ b i = iN v) (hN : kTN b sz N) {j : Nat} (hj : j < N) (hF : jTm μ ν b sz j) : ∃ ν', jTm μ ν' b sz (j + 1) ∧ ∀ (d : Nat) (Q : jO → jM → Prop), (Ex (d + 7) 97 4 [some (.ref 4490), some (.int (iN (kPs b sz j))), some (.int (iN j))] [] ν Q ↔ if kTk b sz j < 39 then Ex (d + 7) 97 4 [some (.ref 4490), some (.int (iN (kPs b sz (j + 1)))), some (.int (iN (j + 1)))] [] ν' Q else Q (.inl none) ν') := by
  obtain ⟨f1, f2, f3, f4, f5, f6⟩ := hF
  have hWn : jWd ν := jWd_c f2 hW
  have hw := hWn
  unfold jWd at hw
  have hTn : kTp ν b sz := ⟨by rw [f1 4490 (by decide) (by decide) (by decide) (by decide) (by decide)]; exact hT.1, hT.2.1, fun i hi => by rw [f1 4567 (by decide) (by decide) (by decide) (by decide) (by decide)]; exact hT.2.2.1 i hi, hT.2.2.2⟩
  have h2 := hT.2.1
  have hps := kPs_le hN j hj
  have hts := kAf_le (b := b) hps
  have hN4 := hN.2.1
  have jc : (iN j).toNatClampNeg = j := iN_cl (by omega)
  have jj : jin (iN j) 401 = true := iN_in (by omega) (by omega)
  have j400 : ¬ (400 : Int32) < iN j := fun h => absurd ((iN_lt (a := 400) (by omega) (by omega)).mp h) (by omega)
  -- blanks
  have loop : ∀ f c (d : Nat) (Q : jO → jM → Prop), sz ≤ c + f → c + f < 2 ^ 19 → (Ex (d + 7) 97 11 [some (.ref 4490), some (.int (iN c)), some (.int (iN j))] [] ν Q ↔ Ex (d + 7) 97 37 [some (.ref 4490), some (.int (iN (kSk kBlk b sz f c))), some (.int (iN j))] [] ν Q) := by
    intro f
    induction f with
    | zero =>
      intro c d Q hc hc2
      have hbc := fun d Q => d_byteOf (d := d) (Q := Q) (a := c) hWn hTn (by omega)
      have e1 := hT.2.2.2 c (by omega)
      rw [e1] at hbc
      have n1 : ¬ (-1 : Int32) = 32 := by decide
      have n2 : ¬ (-1 : Int32) = 10 := by decide
      rw [x97_11]
      simp only [x97_0, x97_1a, x97_1b, x97_1c, x97_2, x97_3a, x97_3b, x97_3c, x97_5, x97_8, x97_12, x97_13, x97_16, x97_18, x97_21, x97_22, x97_23, x97_26, x97_28, x97_31a, x97_31b, x97_31c, x97_34, x97_37, x97_38, x97_41, x97_42, x97_43, x97_44, x97_45, x97_48, x97_49, x97_50, x97_51, x97_52, x97_55, x97_56, x97_57, x97_58, x97_59, x97_62, x97_63, x97_64, x97_65, x97_66, x97_69, x97_70, x97_71, x97_74, x97_77, x97_78, x97_81, x97_82, x97_83, x97_86, x97_89, x97_90, x97_93, x97_94, x97_97, x97_98, x97_99, x97_102, x97_103, x97_104, x97_107, x97_110, x97_111, x97_112, x97_113, x97_116, x97_117, x97_118, x97_119a, x97_119b, x97_119c, x97_120a, x97_120b, x97_120c, x97_123, x97_126, mzi, mInc, mne, mlt9, mrk, mI1, mI2, mI3, mI4, mL1, mL2, mL3, mL4, mQ1, mQ2, mQ3, mQ4, mT1, mcat0, mcat1, mcat2, mcat3, mcat4, mrf1, jK_v, jK_n, JA, mz1, if_true, if_false, ite_true, ite_false, eq_self, not_false_eq_true, Nat.zero_le, true_and, and_true, and_self, Nat.reduceMod, Nat.reduceAdd, Nat.reduceLeDiff, Nat.reduceEqDiff, Nat.reduceLT, hw, hbc, n1, n2]
      simp only [kSk]
    | succ f ih =>
      intro c d Q hc hc2
      have hbc := fun d Q => d_byteOf (d := d) (Q := Q) (a := c) hWn hTn (by omega)
      have hih := fun d Q => ih (c + 1) d Q (by omega) (by omega)
      rw [x97_11]
      unfold kSk
      by_cases q : c < sz
      · by_cases q1 : b c = 32
        · have q1' := eq_true q1
          rw [if_pos ⟨q, decide_eq_true (Or.inl q1)⟩]
          simp only [x97_0, x97_1a, x97_1b, x97_1c, x97_2, x97_3a, x97_3b, x97_3c, x97_5, x97_8, x97_12, x97_13, x97_16, x97_18, x97_21, x97_22, x97_23, x97_26, x97_28, x97_31a, x97_31b, x97_31c, x97_34, x97_37, x97_38, x97_41, x97_42, x97_43, x97_44, x97_45, x97_48, x97_49, x97_50, x97_51, x97_52, x97_55, x97_56, x97_57, x97_58, x97_59, x97_62, x97_63, x97_64, x97_65, x97_66, x97_69, x97_70, x97_71, x97_74, x97_77, x97_78, x97_81, x97_82, x97_83, x97_86, x97_89, x97_90, x97_93, x97_94, x97_97, x97_98, x97_99, x97_102, x97_103, x97_104, x97_107, x97_110, x97_111, x97_112, x97_113, x97_116, x97_117, x97_118, x97_119a, x97_119b, x97_119c, x97_120a, x97_120b, x97_120c, x97_123, x97_126, mzi, mInc, mne, mlt9, mrk, mI1, mI2, mI3, mI4, mL1, mL2, mL3, mL4, mQ1, mQ2, mQ3, mQ4, mT1, mcat0, mcat1, mcat2, mcat3, mcat4, mrf1, jK_v, jK_n, JA, mz1, if_true, if_false, ite_true, ite_false, eq_self, not_false_eq_true, Nat.zero_le, true_and, and_true, and_self, Nat.reduceMod, Nat.reduceAdd, Nat.reduceLeDiff, Nat.reduceEqDiff, Nat.reduceLT, hw, hbc, q1', hih]
        · have q1' := eq_false q1
          by_cases q2 : b c = 10
          · have q2' := eq_true q2
            rw [if_pos ⟨q, decide_eq_true (Or.inr q2)⟩]
            simp only [x97_0, x97_1a, x97_1b, x97_1c, x97_2, x97_3a, x97_3b, x97_3c, x97_5, x97_8, x97_12, x97_13, x97_16, x97_18, x97_21, x97_22, x97_23, x97_26, x97_28, x97_31a, x97_31b, x97_31c, x97_34, x97_37, x97_38, x97_41, x97_42, x97_43, x97_44, x97_45, x97_48, x97_49, x97_50, x97_51, x97_52, x97_55, x97_56, x97_57, x97_58, x97_59, x97_62, x97_63, x97_64, x97_65, x97_66, x97_69, x97_70, x97_71, x97_74, x97_77, x97_78, x97_81, x97_82, x97_83, x97_86, x97_89, x97_90, x97_93, x97_94, x97_97, x97_98, x97_99, x97_102, x97_103, x97_104, x97_107, x97_110, x97_111, x97_112, x97_113, x97_116, x97_117, x97_118, x97_119a, x97_119b, x97_119c, x97_120a, x97_120b, x97_120c, x97_123, x97_126, mzi, mInc, mne, mlt9, mrk, mI1, mI2, mI3, mI4, mL1, mL2, mL3, mL4, mQ1, mQ2, mQ3, mQ4, mT1, mcat0, mcat1, mcat2, mcat3, mcat4, mrf1, jK_v, jK_n, JA, mz1, if_true, if_false, ite_true, ite_false, eq_self, not_false_eq_true, Nat.zero_le, true_and, and_true, and_self, Nat.reduceMod, Nat.reduceAdd, Nat.reduceLeDiff, Nat.reduceEqDiff, Nat.reduceLT, hw, hbc, q1', q2', hih]
          · have q2' := eq_false q2
            rw [if_neg fun h => (of_decide_eq_true h.2).elim q1 q2]
            simp only [x97_0, x97_1a, x97_1b, x97_1c, x97_2, x97_3a, x97_3b, x97_3c, x97_5, x97_8, x97_12, x97_13, x97_16, x97_18, x97_21, x97_22, x97_23, x97_26, x97_28, x97_31a, x97_31b, x97_31c, x97_34, x97_37, x97_38, x97_41, x97_42, x97_43, x97_44, x97_45, x97_48, x97_49, x97_50, x97_51, x97_52, x97_55, x97_56, x97_57, x97_58, x97_59, x97_62, x97_63, x97_64, x97_65, x97_66, x97_69, x97_70, x97_71, x97_74, x97_77, x97_78, x97_81, x97_82, x97_83, x97_86, x97_89, x97_90, x97_93, x97_94, x97_97, x97_98, x97_99, x97_102, x97_103, x97_104, x97_107, x97_110, x97_111, x97_112, x97_113, x97_116, x97_117, x97_118, x97_119a, x97_119b, x97_119c, x97_120a, x97_120b, x97_120c, x97_123, x97_126, mzi, mInc, mne, mlt9, mrk, mI1, mI2, mI3, mI4, mL1, mL2, mL3, mL4, mQ1, mQ2, mQ3, mQ4, mT1, mcat0, mcat1, mcat2, mcat3, mcat4, mrf1, jK_v, jK_n, JA, mz1, if_true, if_false, ite_true, ite_false, eq_self, not_false_eq_true, Nat.zero_le, true_and, and_true, and_self, Nat.reduceMod, Nat.reduceAdd, Nat.reduceLeDiff, Nat.reduceEqDiff, Nat.reduceLT, hw, hbc, q1', q2']
      · have e1 := hT.2.2.2 c (by omega)
        rw [e1] at hbc
        have n1 : ¬ (-1 : Int32) = 32 := by decide
        have n2 : ¬ (-1 : Int32) = 10 := by decide
        rw [if_neg fun h => q h.1]
        simp only [x97_0, x97_1a, x97_1b, x97_1c, x97_2, x97_3a, x97_3b, x97_3c, x97_5, x97_8, x97_12, x97_13, x97_16, x97_18, x97_21, x97_22, x97_23, x97_26, x97_28, x97_31a, x97_31b, x97_31c, x97_34, x97_37, x97_38, x97_41, x97_42, x97_43, x97_44, x97_45, x97_48, x97_49, x97_50, x97_51, x97_52, x97_55, x97_56, x97_57, x97_58, x97_59, x97_62, x97_63, x97_64, x97_65, x97_66, x97_69, x97_70, x97_71, x97_74, x97_77, x97_78, x97_81, x97_82, x97_83, x97_86, x97_89, x97_90, x97_93, x97_94, x97_97, x97_98, x97_99, x97_102, x97_103, x97_104, x97_107, x97_110, x97_111, x97_112, x97_113, x97_116, x97_117, x97_118, x97_119a, x97_119b, x97_119c, x97_120a, x97_120b, x97_120c, x97_123, x97_126, mzi, mInc, mne, mlt9, mrk, mI1, mI2, mI3, mI4, mL1, mL2, mL3, mL4, mQ1, mQ2, mQ3, mQ4, mT1, mcat0, mcat1, mcat2, mcat3, mcat4, mrf1, jK_v, jK_n, JA, mz1, if_true, if_false, ite_true, ite_false, eq_self, not_false_eq_true, Nat.zero_le, true_and, and_true, and_self, Nat.reduceMod, Nat.reduceAdd, Nat.reduceLeDiff, Nat.reduceEqDiff, Nat.reduceLT, hw, hbc, n1, n2]
  have hbl := fun d Q => loop (sz - kPs b sz j) (kPs b sz j) d Q (by omega) (by omega)
  have ets : kSk kBlk b sz (sz - kPs b sz j) (kPs b sz j) = kTs b sz j := rfl
  rw [ets] at hbl
  -- the three rows, then the kind
  have hk := d_kindAt (μ := jsI (jsI (jsI ν 4697 j (iN (kTs b sz j))) 4825 j 0) 4889 j 0) (b := b) (sz := sz) (a := kTs b sz j) (idx := j) (jWd_c rfl hWn) ⟨by rw [mI2 (by decide), mI2 (by decide), mI2 (by decide)]; exact hTn.1, hTn.2.1, fun i hi => by rw [mI2 (by decide), mI2 (by decide), mI2 (by decide)]; exact hTn.2.2.1 i hi, hTn.2.2.2⟩ hB (by unfold kTs; omega) (by omega)
  have etl : kLn b sz (kTs b sz j) = kTl b sz j := rfl
  rw [etl] at hk
  have hK41 := kKd_le (b := b) (sz := sz) (a := kTs b sz j) (len := kTl b sz j)
  obtain ⟨m1, m2, m3⟩ := kMd_lt (kKd b sz (kTs b sz j) (kTl b sz j)) (by omega)
  -- the memory behind the kind
  have hmem : ∃ ν2, (if kTs b sz j < sz then jsI (jsI (jsI (jsI ν 4697 j (iN (kTs b sz j))) 4825 j 0) 4889 j 0) 4761 j (iN (kTl b sz j)) else jsI (jsI (jsI ν 4697 j (iN (kTs b sz j))) 4825 j 0) 4889 j 0) = ν2 ∧ (∀ a, ¬ a = 4697 → ¬ a = 4761 → ¬ a = 4825 → ¬ a = 4889 → jI ν2 a = jI ν a) ∧ jQ ν2 = jQ ν ∧ jL ν2 = jL ν ∧ jA ν2 = jA ν ∧ jX ν2 = jX ν ∧ (∀ i, jI ν2 4697 i = if i = j then iN (kTs b sz j) else jI ν 4697 i) ∧ (∀ i, ¬ i = j → jI ν2 4761 i = jI ν 4761 i) ∧ (kTs b sz j < sz → jI ν2 4761 j = iN (kTl b sz j)) ∧ (∀ i, jI ν2 4825 i = if i = j then 0 else jI ν 4825 i) ∧ ∀ i, jI ν2 4889 i = if i = j then 0 else jI ν 4889 i := by
    refine ⟨_, rfl, ?_⟩
    by_cases g : kTs b sz j < sz
    · rw [if_pos g]
      refine ⟨fun a n1 n2 n3 n4 => by rw [mI2 n2, mI2 n4, mI2 n3, mI2 n1], rfl, rfl, rfl, rfl, fun i => ?_, fun i hi => ?_, fun _ => ?_, fun i => ?_, fun i => ?_⟩
      · rw [mI2 (by decide), mI2 (by decide), mI2 (by decide), mI1]
      · rw [mI1, if_neg hi, mI2 (by decide), mI2 (by decide), mI2 (by decide)]
      · rw [mI1, if_pos rfl]
      · rw [mI2 (by decide), mI2 (by decide), mI1, mI2 (by decide)]
      · rw [mI2 (by decide), mI1, mI2 (by decide), mI2 (by decide)]
    · rw [if_neg g]
      refine ⟨fun a n1 n2 n3 n4 => by rw [mI2 n4, mI2 n3, mI2 n1], rfl, rfl, rfl, rfl, fun i => ?_, fun i hi => ?_, fun h => absurd h g, fun i => ?_, fun i => ?_⟩
      · rw [mI2 (by decide), mI2 (by decide), mI1]
      · rw [mI2 (by decide), mI2 (by decide), mI2 (by decide)]
      · rw [mI2 (by decide), mI1, mI2 (by decide)]
      · rw [mI1, mI2 (by decide), mI2 (by decide)]
  obtain ⟨ν2, hν2, g1, g2, g3, g4, g5, g6, g7, g8, g9, g10⟩ := hmem
  rw [hν2] at hk
  have hwg := hw
  rw [← g2] at hwg
  have facts : ∀ ν3 : jM, (∀ a, ¬ a = 4633 → jI ν3 a = jI ν2 a) → jQ ν3 = jQ ν2 → jL ν3 = jL ν2 → jA ν3 = jA ν2 → jX ν3 = jX ν2 → (∀ i, ¬ i = j → jI ν3 4633 i = jI ν2 4633 i) → jI ν3 4633 j = iN (kMd (kTk b sz j)) → jTm μ ν3 b sz (j + 1) := by
    intro ν3 e1 e2 e3 e4 e5 e6 e7
    refine ⟨fun a n1 n2 n3 n4 n5 => by rw [e1 a n1, g1 a n2 n3 n4 n5]; exact f1 a n1 n2 n3 n4 n5, by rw [e2, g2, f2], by rw [e3, g3, f3], by rw [e4, g4, f4], by rw [e5, g5, f5], fun i hi => ?_⟩
    rw [e1 4697 (by decide), e1 4761 (by decide), e1 4825 (by decide), e1 4889 (by decide), g6, g9, g10]
    by_cases e : i = j
    · subst e
      rw [if_pos rfl, if_pos rfl, if_pos rfl]
      exact ⟨e7, rfl, g8, rfl, rfl⟩
    · obtain ⟨q1, q2, q3, q4, q5⟩ := f6 i (by omega)
      rw [if_neg e, if_neg e, if_neg e, e6 i e, g1 4633 (by decide) (by decide) (by decide) (by decide), g7 i e]
      exact ⟨q1, q2, q3, q4, q5⟩
  have hlt39 : kTk b sz j < 39 → kTs b sz j < sz := fun h => (kTk_lt h).2.2
  have hps2 : kPs b sz (j + 1) = kTs b sz j + kTl b sz j := rfl
  have hsum : iN (kTs b sz j) + iN (kTl b sz j) = iN (kTs b sz j + kTl b sz j) := iN_add
  have i400 : (iN j = 400) = (j = 400) := propext ⟨fun h => (iN_eq (b := 400) (by omega) (by omega)).mp h, fun h => by rw [h]; rfl⟩
  have i900 : (iN (kMd (kKd b sz (kTs b sz j) (kTl b sz j))) = 900) = (kKd b sz (kTs b sz j) (kTl b sz j) = 39) := propext ⟨fun h => m2.mp ((iN_eq (b := 900) (by omega) (by omega)).mp h), fun h => by rw [h]; decide⟩
  have l900 : (iN (kMd (kKd b sz (kTs b sz j) (kTl b sz j))) < 900) = (kKd b sz (kTs b sz j) (kTl b sz j) < 39) := propext ⟨fun h => m1.mp ((iN_lt (b := 900) (by omega) (by omega)).mp h), fun h => (iN_lt (b := 900) (by omega) (by omega)).mpr (m1.mpr h)⟩
  by_cases gw : j = 400 ∧ ¬ kKd b sz (kTs b sz j) (kTl b sz j) = 39
  · have hK : kTk b sz j = 40 := by unfold kTk; rw [if_pos gw]
    refine ⟨jsI (jsI ν2 4633 j (iN (kMd (kKd b sz (kTs b sz j) (kTl b sz j))))) 4633 j 901, facts _ (fun a n => by rw [mI2 n, mI2 n]) rfl rfl rfl rfl (fun i hi => by rw [mI1, if_neg hi, mI1, if_neg hi]) (by rw [mI1, if_pos rfl, hK]; decide), fun d Q => ?_⟩
    have hblq := hbl d Q
    rw [hK, if_neg (by decide), x97_4]
    have q1 := eq_true gw.1
    have q2 := eq_false gw.2
    have n901 : ¬ (901 : Int32) < 900 := by decide
    simp only [x97_0, x97_1a, x97_1b, x97_1c, x97_2, x97_3a, x97_3b, x97_3c, x97_5, x97_8, x97_12, x97_13, x97_16, x97_18, x97_21, x97_22, x97_23, x97_26, x97_28, x97_31a, x97_31b, x97_31c, x97_34, x97_37, x97_38, x97_41, x97_42, x97_43, x97_44, x97_45, x97_48, x97_49, x97_50, x97_51, x97_52, x97_55, x97_56, x97_57, x97_58, x97_59, x97_62, x97_63, x97_64, x97_65, x97_66, x97_69, x97_70, x97_71, x97_74, x97_77, x97_78, x97_81, x97_82, x97_83, x97_86, x97_89, x97_90, x97_93, x97_94, x97_97, x97_98, x97_99, x97_102, x97_103, x97_104, x97_107, x97_110, x97_111, x97_112, x97_113, x97_116, x97_117, x97_118, x97_119a, x97_119b, x97_119c, x97_120a, x97_120b, x97_120c, x97_123, x97_126, mzi, mInc, mne, mlt9, mrk, mI1, mI2, mI3, mI4, mL1, mL2, mL3, mL4, mQ1, mQ2, mQ3, mQ4, mT1, mcat0, mcat1, mcat2, mcat3, mcat4, mrf1, jK_v, jK_n, JA, mz1, if_true, if_false, ite_true, ite_false, eq_self, not_false_eq_true, Nat.zero_le, true_and, and_true, and_self, Nat.reduceMod, Nat.reduceAdd, Nat.reduceLeDiff, Nat.reduceEqDiff, Nat.reduceLT, hwg, hw, hblq, j400, hk, jc, jj, i400, i900, q1, q2, n901]
  · have hK : kTk b sz j = kKd b sz (kTs b sz j) (kTl b sz j) := by unfold kTk; rw [if_neg gw]
    refine ⟨jsI ν2 4633 j (iN (kMd (kKd b sz (kTs b sz j) (kTl b sz j)))), facts _ (fun a n => by rw [mI2 n]) rfl rfl rfl rfl (fun i hi => by rw [mI1, if_neg hi]) (by rw [mI1, if_pos rfl, hK]), fun d Q => ?_⟩
    have hblq := hbl d Q
    rw [hK, x97_4]
    by_cases q39 : kKd b sz (kTs b sz j) (kTl b sz j) < 39
    · have q39' := eq_true q39
      have hm8 := g8 (hlt39 (by rw [hK]; exact q39))
      have q1 : (j = 400) = False := eq_false fun h => gw ⟨h, by omega⟩
      rw [if_pos q39, hps2]
      simp only [x97_0, x97_1a, x97_1b, x97_1c, x97_2, x97_3a, x97_3b, x97_3c, x97_5, x97_8, x97_12, x97_13, x97_16, x97_18, x97_21, x97_22, x97_23, x97_26, x97_28, x97_31a, x97_31b, x97_31c, x97_34, x97_37, x97_38, x97_41, x97_42, x97_43, x97_44, x97_45, x97_48, x97_49, x97_50, x97_51, x97_52, x97_55, x97_56, x97_57, x97_58, x97_59, x97_62, x97_63, x97_64, x97_65, x97_66, x97_69, x97_70, x97_71, x97_74, x97_77, x97_78, x97_81, x97_82, x97_83, x97_86, x97_89, x97_90, x97_93, x97_94, x97_97, x97_98, x97_99, x97_102, x97_103, x97_104, x97_107, x97_110, x97_111, x97_112, x97_113, x97_116, x97_117, x97_118, x97_119a, x97_119b, x97_119c, x97_120a, x97_120b, x97_120c, x97_123, x97_126, mzi, mInc, mne, mlt9, mrk, mI1, mI2, mI3, mI4, mL1, mL2, mL3, mL4, mQ1, mQ2, mQ3, mQ4, mT1, mcat0, mcat1, mcat2, mcat3, mcat4, mrf1, jK_v, jK_n, JA, mz1, if_true, if_false, ite_true, ite_false, eq_self, not_false_eq_true, Nat.zero_le, true_and, and_true, and_self, Nat.reduceMod, Nat.reduceAdd, Nat.reduceLeDiff, Nat.reduceEqDiff, Nat.reduceLT, hwg, hw, hblq, j400, hk, jc, jj, i400, l900, q39', q1, hm8, hsum]
    · have q39' := eq_false q39
      rw [if_neg q39]
      by_cases q1 : j = 400
      · have q1' := eq_true q1
        have q2 : (kKd b sz (kTs b sz j) (kTl b sz j) = 39) = True := eq_true (Classical.not_not.mp fun h => gw ⟨q1, h⟩)
        simp only [x97_0, x97_1a, x97_1b, x97_1c, x97_2, x97_3a, x97_3b, x97_3c, x97_5, x97_8, x97_12, x97_13, x97_16, x97_18, x97_21, x97_22, x97_23, x97_26, x97_28, x97_31a, x97_31b, x97_31c, x97_34, x97_37, x97_38, x97_41, x97_42, x97_43, x97_44, x97_45, x97_48, x97_49, x97_50, x97_51, x97_52, x97_55, x97_56, x97_57, x97_58, x97_59, x97_62, x97_63, x97_64, x97_65, x97_66, x97_69, x97_70, x97_71, x97_74, x97_77, x97_78, x97_81, x97_82, x97_83, x97_86, x97_89, x97_90, x97_93, x97_94, x97_97, x97_98, x97_99, x97_102, x97_103, x97_104, x97_107, x97_110, x97_111, x97_112, x97_113, x97_116, x97_117, x97_118, x97_119a, x97_119b, x97_119c, x97_120a, x97_120b, x97_120c, x97_123, x97_126, mzi, mInc, mne, mlt9, mrk, mI1, mI2, mI3, mI4, mL1, mL2, mL3, mL4, mQ1, mQ2, mQ3, mQ4, mT1, mcat0, mcat1, mcat2, mcat3, mcat4, mrf1, jK_v, jK_n, JA, mz1, if_true, if_false, ite_true, ite_false, eq_self, not_false_eq_true, Nat.zero_le, true_and, and_true, and_self, Nat.reduceMod, Nat.reduceAdd, Nat.reduceLeDiff, Nat.reduceEqDiff, Nat.reduceLT, hwg, hw, hblq, j400, hk, jc, jj, i400, i900, l900, q39', q1', q2]
      · have q1' := eq_false q1
        simp only [x97_0, x97_1a, x97_1b, x97_1c, x97_2, x97_3a, x97_3b, x97_3c, x97_5, x97_8, x97_12, x97_13, x97_16, x97_18, x97_21, x97_22, x97_23, x97_26, x97_28, x97_31a, x97_31b, x97_31c, x97_34, x97_37, x97_38, x97_41, x97_42, x97_43, x97_44, x97_45, x97_48, x97_49, x97_50, x97_51, x97_52, x97_55, x97_56, x97_57, x97_58, x97_59, x97_62, x97_63, x97_64, x97_65, x97_66, x97_69, x97_70, x97_71, x97_74, x97_77, x97_78, x97_81, x97_82, x97_83, x97_86, x97_89, x97_90, x97_93, x97_94, x97_97, x97_98, x97_99, x97_102, x97_103, x97_104, x97_107, x97_110, x97_111, x97_112, x97_113, x97_116, x97_117, x97_118, x97_119a, x97_119b, x97_119c, x97_120a, x97_120b, x97_120c, x97_123, x97_126, mzi, mInc, mne, mlt9, mrk, mI1, mI2, mI3, mI4, mL1, mL2, mL3, mL4, mQ1, mQ2, mQ3, mQ4, mT1, mcat0, mcat1, mcat2, mcat3, mcat4, mrf1, jK_v, jK_n, JA, mz1, if_true, if_false, ite_true, ite_false, eq_self, not_false_eq_true, Nat.zero_le, true_and, and_true, and_self, Nat.reduceMod, Nat.reduceAdd, Nat.reduceLeDiff, Nat.reduceEqDiff, Nat.reduceLT, hwg, hw, hblq, j400, hk, jc, jj, i400, l900, q39', q1']
theorem d_cut (hW : jWd μ) (hT : kTp μ b sz) (hB : ∀ i, i < sz → ∃ v, v < 256 ∧ b i = iN v) (hN : kTN b sz N) : ∃ μ', jTm μ μ' b sz N ∧ ∀ (d : Nat) (Q : jO → jM → Prop), (Ex (d + 7) 97 0 [some (.ref 4490), none, none] [] μ Q ↔ Q (.inl none) μ') := by
  have hw := hW
  unfold jWd at hw
  have hclimb : ∀ j, j < N → ∃ ν, jTm μ ν b sz j ∧ ∀ (d : Nat) (Q : jO → jM → Prop), (Ex (d + 7) 97 0 [some (.ref 4490), none, none] [] μ Q ↔ Ex (d + 7) 97 4 [some (.ref 4490), some (.int (iN (kPs b sz j))), some (.int (iN j))] [] ν Q) := by
    intro j
    induction j with
    | zero =>
      intro _
      refine ⟨μ, ⟨fun _ _ _ _ _ _ => rfl, rfl, rfl, rfl, rfl, fun i hi => absurd hi (by omega)⟩, fun d Q => ?_⟩
      show _ ↔ Ex (d + 7) 97 4 [some (.ref 4490), some (.int (iN 0)), some (.int (iN 0))] [] μ Q
      simp only [x97_0, x97_1a, x97_1b, x97_1c, x97_2, x97_3a, x97_3b, x97_3c, x97_5, x97_8, x97_12, x97_13, x97_16, x97_18, x97_21, x97_22, x97_23, x97_26, x97_28, x97_31a, x97_31b, x97_31c, x97_34, x97_37, x97_38, x97_41, x97_42, x97_43, x97_44, x97_45, x97_48, x97_49, x97_50, x97_51, x97_52, x97_55, x97_56, x97_57, x97_58, x97_59, x97_62, x97_63, x97_64, x97_65, x97_66, x97_69, x97_70, x97_71, x97_74, x97_77, x97_78, x97_81, x97_82, x97_83, x97_86, x97_89, x97_90, x97_93, x97_94, x97_97, x97_98, x97_99, x97_102, x97_103, x97_104, x97_107, x97_110, x97_111, x97_112, x97_113, x97_116, x97_117, x97_118, x97_119a, x97_119b, x97_119c, x97_120a, x97_120b, x97_120c, x97_123, x97_126, mzi, mInc, mne, mlt9, mrk, mI1, mI2, mI3, mI4, mL1, mL2, mL3, mL4, mQ1, mQ2, mQ3, mQ4, mT1, mcat0, mcat1, mcat2, mcat3, mcat4, mrf1, jK_v, jK_n, JA, mz1, if_true, if_false, ite_true, ite_false, eq_self, not_false_eq_true, Nat.zero_le, true_and, and_true, and_self, Nat.reduceMod, Nat.reduceAdd, Nat.reduceLeDiff, Nat.reduceEqDiff, Nat.reduceLT, hw]
    | succ j ih =>
      intro hj
      obtain ⟨ν, t1, t2⟩ := ih (by omega)
      obtain ⟨ν', t3, t4⟩ := d_cutS hW hT hB hN (show j < N by omega) t1
      refine ⟨_, t3, fun d Q => (t2 d Q).trans ((t4 d Q).trans ?_)⟩
      rw [if_pos (hN.2.2.2 j (by omega))]
  obtain ⟨ν, t1, t2⟩ := hclimb (N - 1) (by have := hN.1; omega)
  obtain ⟨ν', t3, t4⟩ := d_cutS hW hT hB hN (show N - 1 < N by have := hN.1; omega) t1
  rw [show N - 1 + 1 = N by have := hN.1; omega] at t3
  refine ⟨_, t3, fun d Q => (t2 d Q).trans ((t4 d Q).trans ?_)⟩
  rw [if_neg (by have := hN.2.2.1; omega)]
end CUT
