/-! THE PURE PART: texts (reference). -/
/-- a kind as the reference's number -/
def kMd (K : Nat) : Nat := if K < 22 then K else if K < 35 then 50 + ((jstr K).getD 0 0).toNatClampNeg else if K = 35 then 300 else if K = 36 then 301 else if K = 37 then 40 else if K = 38 then 41 else if K = 39 then 900 else 901
theorem jwrd_n : ∀ k, k < 22 → jwrd k = 64 * k + 41 := by decide +kernel
theorem i_i2b : ∀ v, v < 128 → (iN v).toInt8.toInt32 = iN v ∧ ((iN v).toUInt32 % 65536).toInt32 = iN v := by decide +kernel
section LEXM
variable {d : Nat} {μ : jM} {Q : jO → jM → Prop} {sz n a len : Nat} {b : Nat → Int32}
/-- the tape of the reference -/
def kTp (μ : jM) (b : Nat → Int32) (sz : Nat) : Prop := jI μ 4490 2 = iN sz ∧ sz ≤ 2000 ∧ (∀ i, i < sz → jI μ 4567 i = b i) ∧ ∀ i, sz ≤ i → b i = -1
theorem d_byteOf (hW : jWd μ) (hT : kTp μ b sz) (ha : a < 2 ^ 31) : Ex d 98 0 [some (.ref 4490), some (.int (iN a))] [] μ Q ↔ Q (.inl (some (.int (b a)))) μ := by
  have hw := hW
  unfold jWd at hw
  obtain ⟨h1, h2, h3, h4⟩ := hT
  by_cases g : a < sz
  · have g1 : iN a < iN sz := (iN_lt (by omega) (by omega)).mpr g
    have ac : (iN a).toNatClampNeg = a := iN_cl (by omega)
    have aj : jin (iN a) 2000 = true := iN_in (by omega) (by omega)
    have e := h3 a g
    simp only [x98_0, x98_1, x98_2, x98_5, x98_8, x98_9, x98_12, x98_13, x98_14, x98_17, x98_18, mzi, mInc, mne, mlt9, mrk, mI1, mI2, mI3, mI4, mL1, mL2, mL3, mL4, mQ1, mQ2, mQ3, mQ4, mT1, mcat0, mcat1, mcat2, mcat3, mcat4, mrf1, jK_v, jK_n, JA, mz1, if_true, if_false, ite_true, ite_false, eq_self, not_false_eq_true, Nat.zero_le, true_and, and_true, and_self, Nat.reduceMod, Nat.reduceAdd, Nat.reduceLeDiff, Nat.reduceEqDiff, Nat.reduceLT, hw, h1, g1, ac, aj, e]
  · have g1 : ¬ iN a < iN sz := fun h => g ((iN_lt (by omega) (by omega)).mp h)
    have e := h4 a (by omega)
    simp only [x98_0, x98_1, x98_2, x98_5, x98_8, x98_9, x98_12, x98_13, x98_14, x98_17, x98_18, mzi, mInc, mne, mlt9, mrk, mI1, mI2, mI3, mI4, mL1, mL2, mL3, mL4, mQ1, mQ2, mQ3, mQ4, mT1, mcat0, mcat1, mcat2, mcat3, mcat4, mrf1, jK_v, jK_n, JA, mz1, if_true, if_false, ite_true, ite_false, eq_self, not_false_eq_true, Nat.zero_le, true_and, and_true, and_self, Nat.reduceMod, Nat.reduceAdd, Nat.reduceLeDiff, Nat.reduceEqDiff, Nat.reduceLT, hw, h1, g1, e]
theorem d_isLetter {x : Int32} : Ex d 100 0 [some (.int x)] [] μ Q ↔ Q (.inl (some (.int (if kLet x = true then 1 else 0)))) μ := by
  unfold kLet
  by_cases g1 : x < 97
  · simp only [x100_0, x100_1, x100_3, x100_6, x100_7, x100_9, x100_12, x100_13, x100_16, x100_17, mzi, mInc, mne, mlt9, mrk, mI1, mI2, mI3, mI4, mL1, mL2, mL3, mL4, mQ1, mQ2, mQ3, mQ4, mT1, mcat0, mcat1, mcat2, mcat3, mcat4, mrf1, jK_v, jK_n, JA, mz1, if_true, if_false, ite_true, ite_false, eq_self, not_false_eq_true, Nat.zero_le, true_and, and_true, and_self, Nat.reduceMod, Nat.reduceAdd, Nat.reduceLeDiff, Nat.reduceEqDiff, Nat.reduceLT, g1, false_and, not_true_eq_false, decide_false, Bool.false_eq_true]
  · by_cases g2 : 122 < x
    all_goals simp only [x100_0, x100_1, x100_3, x100_6, x100_7, x100_9, x100_12, x100_13, x100_16, x100_17, mzi, mInc, mne, mlt9, mrk, mI1, mI2, mI3, mI4, mL1, mL2, mL3, mL4, mQ1, mQ2, mQ3, mQ4, mT1, mcat0, mcat1, mcat2, mcat3, mcat4, mrf1, jK_v, jK_n, JA, mz1, if_true, if_false, ite_true, ite_false, eq_self, not_false_eq_true, Nat.zero_le, true_and, and_true, and_self, Nat.reduceMod, Nat.reduceAdd, Nat.reduceLeDiff, Nat.reduceEqDiff, Nat.reduceLT, g1, g2, false_and, and_false, not_true_eq_false, decide_false, decide_true, Bool.false_eq_true]
theorem d_isDigit {x : Int32} : Ex d 101 0 [some (.int x)] [] μ Q ↔ Q (.inl (some (.int (if kDgt x = true then 1 else 0)))) μ := by
  unfold kDgt
  by_cases g1 : x < 48
  · simp only [x101_0, x101_1, x101_3, x101_6, x101_7, x101_9, x101_12, x101_13, x101_16, x101_17, mzi, mInc, mne, mlt9, mrk, mI1, mI2, mI3, mI4, mL1, mL2, mL3, mL4, mQ1, mQ2, mQ3, mQ4, mT1, mcat0, mcat1, mcat2, mcat3, mcat4, mrf1, jK_v, jK_n, JA, mz1, if_true, if_false, ite_true, ite_false, eq_self, not_false_eq_true, Nat.zero_le, true_and, and_true, and_self, Nat.reduceMod, Nat.reduceAdd, Nat.reduceLeDiff, Nat.reduceEqDiff, Nat.reduceLT, g1, false_and, not_true_eq_false, decide_false, Bool.false_eq_true]
  · by_cases g2 : 57 < x
    all_goals simp only [x101_0, x101_1, x101_3, x101_6, x101_7, x101_9, x101_12, x101_13, x101_16, x101_17, mzi, mInc, mne, mlt9, mrk, mI1, mI2, mI3, mI4, mL1, mL2, mL3, mL4, mQ1, mQ2, mQ3, mQ4, mT1, mcat0, mcat1, mcat2, mcat3, mcat4, mrf1, jK_v, jK_n, JA, mz1, if_true, if_false, ite_true, ite_false, eq_self, not_false_eq_true, Nat.zero_le, true_and, and_true, and_self, Nat.reduceMod, Nat.reduceAdd, Nat.reduceLeDiff, Nat.reduceEqDiff, Nat.reduceLT, g1, g2, false_and, and_false, not_true_eq_false, decide_false, decide_true, Bool.false_eq_true]
theorem kTn_n {k : Nat} (h : k < 37) : kTn k = k := if_pos h
theorem d_word (hW : jWd μ) (hT : kTp μ b sz) (ha : a + len ≤ sz) : Ex (d + 5) 102 0 [some (.ref 4490), some (.int (iN a)), some (.int (iN len)), none, none, none] [] μ Q ↔ Q (.inl (some (.int (iN (kFk (kTxt b a len) 40 0 22))))) μ := by
  have hw := hW
  unfold jWd at hw
  obtain ⟨h1, h2, h3, h4⟩ := hT
  have jty170 : (Nat.ble 3 (jty 170) && Nat.ble (jty 170) 5) = true := by decide +kernel
  have jt170 : jty 170 < 9 := by decide +kernel
  have jln170 : ∀ μ, jln 170 μ = 22 := fun μ => rfl
  have i22 : iN 22 = 22 := rfl
  have loop : ∀ m k (b4 b5 : Option Int32), k + m = 22 → (Ex (d + 5) 102 2 [some (.ref 4490), some (.int (iN a)), some (.int (iN len)), some (.int (iN k)), b4.map .int, b5.map .int] [] μ Q ↔ Q (.inl (some (.int (iN (kFk (kTxt b a len) 40 k m))))) μ) := by
    intro m
    induction m with
    | zero =>
      intro k b4 b5 hk
      have hk22 : k = 22 := by omega
      subst hk22
      have hge : ¬ iN 22 < (22 : Int32) := by decide
      rw [x102_2]
      simp only [x102_0, x102_1a, x102_1b, x102_1c, x102_3, x102_6, x102_7, x102_10, x102_13, x102_14, x102_15, x102_18, x102_19, x102_22, x102_23, x102_26, x102_27a, x102_27b, x102_27c, x102_29, x102_30a, x102_30b, x102_30c, x102_34, x102_37, x102_39, x102_40, x102_43, x102_46, x102_47, x102_48, x102_50, x102_53, x102_54, x102_57, x102_58, x102_60, x102_61, x102_62, x102_65, x102_66, x102_69, x102_70a, x102_70b, x102_70c, x102_72a, x102_72b, x102_72c, x102_75, x102_78, x102_80, x102_83, x102_84, x102_85a, x102_85b, x102_85c, x102_88, x102_91, x102_93, mzi, mInc, mne, mlt9, mrk, mI1, mI2, mI3, mI4, mL1, mL2, mL3, mL4, mQ1, mQ2, mQ3, mQ4, mT1, mcat0, mcat1, mcat2, mcat3, mcat4, mrf1, jK_v, jK_n, JA, mz1, if_true, if_false, ite_true, ite_false, eq_self, not_false_eq_true, Nat.zero_le, true_and, and_true, and_self, Nat.reduceMod, Nat.reduceAdd, Nat.reduceLeDiff, Nat.reduceEqDiff, Nat.reduceLT, jt170, jln170, i22, hge]
      rfl
    | succ m ih =>
      intro k b4 b5 hk
      have hlt : iN k < (22 : Int32) := (iN_lt (b := 22) (by omega) (by decide)).mpr (by omega)
      have kc : (iN k).toNatClampNeg = k := iN_cl (by omega)
      have kj : jin (iN k) 22 = true := iN_in (by omega) (by omega)
      have m41 : (64 * k + 41) % 64 = 41 := by omega
      have hsl := fun d Q => c_strlen (d := d) (Q := Q) (μ := μ) (n := k)
      have hl := jstr_l k (by omega)
      have jrk : jrdQ 170 k μ = some (64 * k + 41) := by
        show some (jwrd k) = _
        rw [jwrd_n k (by omega)]
      unfold kFk
      have etx : kTxt b a len k = decide ((jstr k).length = len ∧ kStd b k a = true) := by
        unfold kTxt
        rw [kTn_n (by omega)]
      have hnx : ∀ b4 b5 : Option Int32, Ex (d + 5) 102 2 [some (.ref 4490), some (.int (iN a)), some (.int (iN len)), some (.int (iN (k + 1))), b4.map .int, b5.map .int] [] μ Q ↔ Q (.inl (some (.int (iN (kFk (kTxt b a len) 40 (k + 1) m))))) μ := fun b4 b5 => ih (k + 1) b4 b5 (by omega)
      by_cases g1 : (jstr k).length = len
      · have h01 : Ex (d + 5) 102 2 [some (.ref 4490), some (.int (iN a)), some (.int (iN len)), some (.int (iN k)), b4.map .int, b5.map .int] [] μ Q ↔ Ex (d + 5) 102 32 [some (.ref 4490), some (.int (iN a)), some (.int (iN len)), some (.int (iN k)), some (.int 1), some (.int (iN 0))] [] μ Q := by
          have g1' : iN (jstr k).length = iN len := by rw [g1]
          rw [x102_2]
          cases b4 <;> cases b5 <;> simp only [Option.map_some, Option.map_none, x102_0, x102_1a, x102_1b, x102_1c, x102_3, x102_6, x102_7, x102_10, x102_13, x102_14, x102_15, x102_18, x102_19, x102_22, x102_23, x102_26, x102_27a, x102_27b, x102_27c, x102_29, x102_30a, x102_30b, x102_30c, x102_34, x102_37, x102_39, x102_40, x102_43, x102_46, x102_47, x102_48, x102_50, x102_53, x102_54, x102_57, x102_58, x102_60, x102_61, x102_62, x102_65, x102_66, x102_69, x102_70a, x102_70b, x102_70c, x102_72a, x102_72b, x102_72c, x102_75, x102_78, x102_80, x102_83, x102_84, x102_85a, x102_85b, x102_85c, x102_88, x102_91, x102_93, mzi, mInc, mne, mlt9, mrk, mI1, mI2, mI3, mI4, mL1, mL2, mL3, mL4, mQ1, mQ2, mQ3, mQ4, mT1, mcat0, mcat1, mcat2, mcat3, mcat4, mrf1, jK_v, jK_n, JA, mz1, if_true, if_false, ite_true, ite_false, eq_self, not_false_eq_true, Nat.zero_le, true_and, and_true, and_self, Nat.reduceMod, Nat.reduceAdd, Nat.reduceLeDiff, Nat.reduceEqDiff, Nat.reduceLT, jt170, jty170, jln170, i22, hlt, kc, kj, jrk, m41, hsl, g1']
        rw [h01]
        have step : ∀ i, 0 ≤ i → i < len → (Ex (d + 5) 102 32 [some (.ref 4490), some (.int (iN a)), some (.int (iN len)), some (.int (iN k)), some (.int 1), some (.int (iN i))] [] μ Q ↔ if b (a + i) = (jstr k).getD i 0 then Ex (d + 5) 102 32 [some (.ref 4490), some (.int (iN a)), some (.int (iN len)), some (.int (iN k)), some (.int 1), some (.int (iN (i + 1)))] [] μ Q else Ex (d + 5) 102 32 [some (.ref 4490), some (.int (iN a)), some (.int (iN len)), some (.int (iN k)), some (.int 0), some (.int (iN (i + 1)))] [] μ Q) := by
          intro i _ hi
          have hc := fun d Q => c_charAt (d := d) (Q := Q) (μ := μ) (n := k) (i := i) (by omega) (by omega)
          have ilt : iN i < iN len := (iN_lt (by omega) (by omega)).mpr hi
          have hai : iN a + iN i = iN (a + i) := iN_add
          have ac : (iN (a + i)).toNatClampNeg = a + i := iN_cl (by omega)
          have aj : jin (iN (a + i)) 2000 = true := iN_in (by omega) (by omega)
          have e := h3 (a + i) (by omega)
          rw [x102_32]
          by_cases g : (jstr k).getD i 0 = b (a + i)
          · have g' := eq_true g
            rw [if_pos g.symm]
            simp only [x102_0, x102_1a, x102_1b, x102_1c, x102_3, x102_6, x102_7, x102_10, x102_13, x102_14, x102_15, x102_18, x102_19, x102_22, x102_23, x102_26, x102_27a, x102_27b, x102_27c, x102_29, x102_30a, x102_30b, x102_30c, x102_34, x102_37, x102_39, x102_40, x102_43, x102_46, x102_47, x102_48, x102_50, x102_53, x102_54, x102_57, x102_58, x102_60, x102_61, x102_62, x102_65, x102_66, x102_69, x102_70a, x102_70b, x102_70c, x102_72a, x102_72b, x102_72c, x102_75, x102_78, x102_80, x102_83, x102_84, x102_85a, x102_85b, x102_85c, x102_88, x102_91, x102_93, mzi, mInc, mne, mlt9, mrk, mI1, mI2, mI3, mI4, mL1, mL2, mL3, mL4, mQ1, mQ2, mQ3, mQ4, mT1, mcat0, mcat1, mcat2, mcat3, mcat4, mrf1, jK_v, jK_n, JA, mz1, if_true, if_false, ite_true, ite_false, eq_self, not_false_eq_true, Nat.zero_le, true_and, and_true, and_self, Nat.reduceMod, Nat.reduceAdd, Nat.reduceLeDiff, Nat.reduceEqDiff, Nat.reduceLT, hw, jt170, jty170, jln170, ilt, kc, kj, jrk, m41, hc, hai, ac, aj, e, g']
          · have g' := eq_false g
            rw [if_neg fun h => g h.symm]
            simp only [x102_0, x102_1a, x102_1b, x102_1c, x102_3, x102_6, x102_7, x102_10, x102_13, x102_14, x102_15, x102_18, x102_19, x102_22, x102_23, x102_26, x102_27a, x102_27b, x102_27c, x102_29, x102_30a, x102_30b, x102_30c, x102_34, x102_37, x102_39, x102_40, x102_43, x102_46, x102_47, x102_48, x102_50, x102_53, x102_54, x102_57, x102_58, x102_60, x102_61, x102_62, x102_65, x102_66, x102_69, x102_70a, x102_70b, x102_70c, x102_72a, x102_72b, x102_72c, x102_75, x102_78, x102_80, x102_83, x102_84, x102_85a, x102_85b, x102_85c, x102_88, x102_91, x102_93, mzi, mInc, mne, mlt9, mrk, mI1, mI2, mI3, mI4, mL1, mL2, mL3, mL4, mQ1, mQ2, mQ3, mQ4, mT1, mcat0, mcat1, mcat2, mcat3, mcat4, mrf1, jK_v, jK_n, JA, mz1, if_true, if_false, ite_true, ite_false, eq_self, not_false_eq_true, Nat.zero_le, true_and, and_true, and_self, Nat.reduceMod, Nat.reduceAdd, Nat.reduceLeDiff, Nat.reduceEqDiff, Nat.reduceLT, hw, jt170, jty170, jln170, ilt, kc, kj, jrk, m41, hc, hai, ac, aj, e, g']
        have miss : ∀ i, Ex (d + 5) 102 32 [some (.ref 4490), some (.int (iN a)), some (.int (iN len)), some (.int (iN k)), some (.int 0), some (.int (iN i))] [] μ Q ↔ Q (.inl (some (.int (iN (kFk (kTxt b a len) 40 (k + 1) m))))) μ := by
          intro i
          have hx := hnx (some 0) (some (iN i))
          simp only [Option.map_some] at hx
          rw [x102_32]
          simp only [x102_0, x102_1a, x102_1b, x102_1c, x102_3, x102_6, x102_7, x102_10, x102_13, x102_14, x102_15, x102_18, x102_19, x102_22, x102_23, x102_26, x102_27a, x102_27b, x102_27c, x102_29, x102_30a, x102_30b, x102_30c, x102_34, x102_37, x102_39, x102_40, x102_43, x102_46, x102_47, x102_48, x102_50, x102_53, x102_54, x102_57, x102_58, x102_60, x102_61, x102_62, x102_65, x102_66, x102_69, x102_70a, x102_70b, x102_70c, x102_72a, x102_72b, x102_72c, x102_75, x102_78, x102_80, x102_83, x102_84, x102_85a, x102_85b, x102_85c, x102_88, x102_91, x102_93, mzi, mInc, mne, mlt9, mrk, mI1, mI2, mI3, mI4, mL1, mL2, mL3, mL4, mQ1, mQ2, mQ3, mQ4, mT1, mcat0, mcat1, mcat2, mcat3, mcat4, mrf1, jK_v, jK_n, JA, mz1, if_true, if_false, ite_true, ite_false, eq_self, not_false_eq_true, Nat.zero_le, true_and, and_true, and_self, Nat.reduceMod, Nat.reduceAdd, Nat.reduceLeDiff, Nat.reduceEqDiff, Nat.reduceLT, hx]
        have hend : Ex (d + 5) 102 32 [some (.ref 4490), some (.int (iN a)), some (.int (iN len)), some (.int (iN k)), some (.int 1), some (.int (iN len))] [] μ Q ↔ Q (.inl (some (.int (iN k)))) μ := by
          have hge : ¬ iN len < iN len := iN_irr (by omega)
          rw [x102_32]
          simp only [x102_0, x102_1a, x102_1b, x102_1c, x102_3, x102_6, x102_7, x102_10, x102_13, x102_14, x102_15, x102_18, x102_19, x102_22, x102_23, x102_26, x102_27a, x102_27b, x102_27c, x102_29, x102_30a, x102_30b, x102_30c, x102_34, x102_37, x102_39, x102_40, x102_43, x102_46, x102_47, x102_48, x102_50, x102_53, x102_54, x102_57, x102_58, x102_60, x102_61, x102_62, x102_65, x102_66, x102_69, x102_70a, x102_70b, x102_70c, x102_72a, x102_72b, x102_72c, x102_75, x102_78, x102_80, x102_83, x102_84, x102_85a, x102_85b, x102_85c, x102_88, x102_91, x102_93, mzi, mInc, mne, mlt9, mrk, mI1, mI2, mI3, mI4, mL1, mL2, mL3, mL4, mQ1, mQ2, mQ3, mQ4, mT1, mcat0, mcat1, mcat2, mcat3, mcat4, mrf1, jK_v, jK_n, JA, mz1, if_true, if_false, ite_true, ite_false, eq_self, not_false_eq_true, Nat.zero_le, true_and, and_true, and_self, Nat.reduceMod, Nat.reduceAdd, Nat.reduceLeDiff, Nat.reduceEqDiff, Nat.reduceLT, hge]
        have h3' := jfst_loop (P := fun i => Ex (d + 5) 102 32 [some (.ref 4490), some (.int (iN a)), some (.int (iN len)), some (.int (iN k)), some (.int 1), some (.int (iN i))] [] μ Q) (R := fun x => if x = -1 then Q (.inl (some (.int (iN k)))) μ else Q (.inl (some (.int (iN (kFk (kTxt b a len) 40 (k + 1) m))))) μ) (p := fun i => ¬ b (a + i) = (jstr k).getD i 0) (dp := fun k => inferInstance) (n := len) (lo := 0) (fun i h1 h2 h3 => by
          rw [step i h1 h2, if_neg h3, if_neg (iN_n1 (by omega)), miss]) (fun i h1 h2 h3 => by
          rw [step i h1 h2, if_pos (Classical.not_not.mp h3)]) (by rw [hend, if_pos rfl]) (Nat.zero_le _)
        refine h3'.trans ?_
        rw [etx]
        unfold kStd
        rw [g1]
        by_cases g2 : jfst (fun i => decide (¬ b (a + i) = (jstr k).getD i 0)) 0 (len - 0) = -1
        · rw [if_pos g2, if_pos (decide_eq_true ⟨rfl, decide_eq_true g2⟩)]
        · rw [if_neg g2, if_neg fun h => g2 (of_decide_eq_true (of_decide_eq_true h).2)]
      · have g1' : ¬ iN (jstr k).length = iN len := fun h => g1 ((iN_eq (by omega) (by omega)).mp h)
        rw [etx, if_neg fun h => g1 (of_decide_eq_true h).1]
        have hx := hnx (some 0) (some (iN 0))
        simp only [Option.map_some] at hx
        rw [x102_2]
        have hstop : Ex (d + 5) 102 32 [some (.ref 4490), some (.int (iN a)), some (.int (iN len)), some (.int (iN k)), some (.int 0), some (.int 0)] [] μ Q ↔ Q (.inl (some (.int (iN (kFk (kTxt b a len) 40 (k + 1) m))))) μ := by
          rw [x102_32]
          simp only [x102_0, x102_1a, x102_1b, x102_1c, x102_3, x102_6, x102_7, x102_10, x102_13, x102_14, x102_15, x102_18, x102_19, x102_22, x102_23, x102_26, x102_27a, x102_27b, x102_27c, x102_29, x102_30a, x102_30b, x102_30c, x102_34, x102_37, x102_39, x102_40, x102_43, x102_46, x102_47, x102_48, x102_50, x102_53, x102_54, x102_57, x102_58, x102_60, x102_61, x102_62, x102_65, x102_66, x102_69, x102_70a, x102_70b, x102_70c, x102_72a, x102_72b, x102_72c, x102_75, x102_78, x102_80, x102_83, x102_84, x102_85a, x102_85b, x102_85c, x102_88, x102_91, x102_93, mzi, mInc, mne, mlt9, mrk, mI1, mI2, mI3, mI4, mL1, mL2, mL3, mL4, mQ1, mQ2, mQ3, mQ4, mT1, mcat0, mcat1, mcat2, mcat3, mcat4, mrf1, jK_v, jK_n, JA, mz1, if_true, if_false, ite_true, ite_false, eq_self, not_false_eq_true, Nat.zero_le, true_and, and_true, and_self, Nat.reduceMod, Nat.reduceAdd, Nat.reduceLeDiff, Nat.reduceEqDiff, Nat.reduceLT]
          exact hx
        cases b4 <;> cases b5 <;> simp only [Option.map_some, Option.map_none, x102_0, x102_1a, x102_1b, x102_1c, x102_3, x102_6, x102_7, x102_10, x102_13, x102_14, x102_15, x102_18, x102_19, x102_22, x102_23, x102_26, x102_27a, x102_27b, x102_27c, x102_29, x102_30a, x102_30b, x102_30c, x102_34, x102_37, x102_39, x102_40, x102_43, x102_46, x102_47, x102_48, x102_50, x102_53, x102_54, x102_57, x102_58, x102_60, x102_61, x102_62, x102_65, x102_66, x102_69, x102_70a, x102_70b, x102_70c, x102_72a, x102_72b, x102_72c, x102_75, x102_78, x102_80, x102_83, x102_84, x102_85a, x102_85b, x102_85c, x102_88, x102_91, x102_93, mzi, mInc, mne, mlt9, mrk, mI1, mI2, mI3, mI4, mL1, mL2, mL3, mL4, mQ1, mQ2, mQ3, mQ4, mT1, mcat0, mcat1, mcat2, mcat3, mcat4, mrf1, jK_v, jK_n, JA, mz1, if_true, if_false, ite_true, ite_false, eq_self, not_false_eq_true, Nat.zero_le, true_and, and_true, and_self, Nat.reduceMod, Nat.reduceAdd, Nat.reduceLeDiff, Nat.reduceEqDiff, Nat.reduceLT, jt170, jty170, jln170, i22, hlt, kc, kj, jrk, m41, hsl, g1', hstop]
  have h0 : Ex (d + 5) 102 0 [some (.ref 4490), some (.int (iN a)), some (.int (iN len)), none, none, none] [] μ Q ↔ Ex (d + 5) 102 2 [some (.ref 4490), some (.int (iN a)), some (.int (iN len)), some (.int (iN 0)), Option.map Value.int none, Option.map Value.int none] [] μ Q := by
    simp only [Option.map_none, x102_0, x102_1a, x102_1b, x102_1c, x102_3, x102_6, x102_7, x102_10, x102_13, x102_14, x102_15, x102_18, x102_19, x102_22, x102_23, x102_26, x102_27a, x102_27b, x102_27c, x102_29, x102_30a, x102_30b, x102_30c, x102_34, x102_37, x102_39, x102_40, x102_43, x102_46, x102_47, x102_48, x102_50, x102_53, x102_54, x102_57, x102_58, x102_60, x102_61, x102_62, x102_65, x102_66, x102_69, x102_70a, x102_70b, x102_70c, x102_72a, x102_72b, x102_72c, x102_75, x102_78, x102_80, x102_83, x102_84, x102_85a, x102_85b, x102_85c, x102_88, x102_91, x102_93, mzi, mInc, mne, mlt9, mrk, mI1, mI2, mI3, mI4, mL1, mL2, mL3, mL4, mQ1, mQ2, mQ3, mQ4, mT1, mcat0, mcat1, mcat2, mcat3, mcat4, mrf1, jK_v, jK_n, JA, mz1, if_true, if_false, ite_true, ite_false, eq_self, not_false_eq_true, Nat.zero_le, true_and, and_true, and_self, Nat.reduceMod, Nat.reduceAdd, Nat.reduceLeDiff, Nat.reduceEqDiff, Nat.reduceLT]
  rw [h0]
  exact loop 22 0 none none rfl
theorem d_ixChar {v : Nat} (hv : v < 128) : Ex d 107 0 [some (.ref 2475), some (.int (iN v)), some (.int 0), some (.int 13), none, none] [] μ Q ↔ Q (.inl (some (.int (jfst (fun i => decide ((jstr 38).getD i 0 = iN v)) 0 (13 - 0))))) μ := by
  obtain ⟨hb, _⟩ := i_i2b v hv
  have h43 := JR43 38
  have e43 : 64 * 38 + 43 = 2475 := rfl
  rw [e43] at h43
  have hlen : (jstr 38).length = 13 := by decide +kernel
  have step : ∀ i, i < 13 → (Ex d 107 7 [some (.ref 2475), some (.int (iN v)), some (.int 0), some (.int 13), some (.int (iN v)), some (.int (iN i))] [] μ Q ↔ if (jstr 38).getD i 0 = iN v then Q (.inl (some (.int (iN i)))) μ else Ex d 107 7 [some (.ref 2475), some (.int (iN v)), some (.int 0), some (.int 13), some (.int (iN v)), some (.int (iN (i + 1)))] [] μ Q) := by
    intro i hi
    have hlt : iN i < (13 : Int32) := (iN_lt (b := 13) (by omega) (by decide)).mpr hi
    have ic : (iN i).toNatClampNeg = i := iN_cl (by omega)
    have ij : jin (iN i) 13 = true := iN_in (by omega) (by omega)
    rw [x107_7]
    by_cases g : (jstr 38).getD i 0 = iN v
    · have g' := eq_true g
      rw [if_pos g]
      simp only [x107_0, x107_1, x107_2a, x107_2b, x107_2c, x107_4, x107_5a, x107_5b, x107_5c, x107_9, x107_10, x107_13, x107_14, x107_16, x107_17, x107_19, x107_22, x107_24, x107_25a, x107_25b, x107_25c, x107_28, x107_31, x107_32, mzi, mInc, mne, mlt9, mrk, mI1, mI2, mI3, mI4, mL1, mL2, mL3, mL4, mQ1, mQ2, mQ3, mQ4, mT1, mcat0, mcat1, mcat2, mcat3, mcat4, mrf1, jK_v, jK_n, JA, mz1, if_true, if_false, ite_true, ite_false, eq_self, not_false_eq_true, Nat.zero_le, true_and, and_true, and_self, Nat.reduceMod, Nat.reduceAdd, Nat.reduceLeDiff, Nat.reduceEqDiff, Nat.reduceLT, hlt, ic, ij, h43, hlen, g']
    · have g' := eq_false g
      rw [if_neg g]
      simp only [x107_0, x107_1, x107_2a, x107_2b, x107_2c, x107_4, x107_5a, x107_5b, x107_5c, x107_9, x107_10, x107_13, x107_14, x107_16, x107_17, x107_19, x107_22, x107_24, x107_25a, x107_25b, x107_25c, x107_28, x107_31, x107_32, mzi, mInc, mne, mlt9, mrk, mI1, mI2, mI3, mI4, mL1, mL2, mL3, mL4, mQ1, mQ2, mQ3, mQ4, mT1, mcat0, mcat1, mcat2, mcat3, mcat4, mrf1, jK_v, jK_n, JA, mz1, if_true, if_false, ite_true, ite_false, eq_self, not_false_eq_true, Nat.zero_le, true_and, and_true, and_self, Nat.reduceMod, Nat.reduceAdd, Nat.reduceLeDiff, Nat.reduceEqDiff, Nat.reduceLT, hlt, ic, ij, h43, hlen, g']
  have hend : Ex d 107 7 [some (.ref 2475), some (.int (iN v)), some (.int 0), some (.int 13), some (.int (iN v)), some (.int (iN 13))] [] μ Q ↔ Q (.inl (some (.int (-1)))) μ := by
    have hge : ¬ iN 13 < (13 : Int32) := by decide
    rw [x107_7]
    simp only [x107_0, x107_1, x107_2a, x107_2b, x107_2c, x107_4, x107_5a, x107_5b, x107_5c, x107_9, x107_10, x107_13, x107_14, x107_16, x107_17, x107_19, x107_22, x107_24, x107_25a, x107_25b, x107_25c, x107_28, x107_31, x107_32, mzi, mInc, mne, mlt9, mrk, mI1, mI2, mI3, mI4, mL1, mL2, mL3, mL4, mQ1, mQ2, mQ3, mQ4, mT1, mcat0, mcat1, mcat2, mcat3, mcat4, mrf1, jK_v, jK_n, JA, mz1, if_true, if_false, ite_true, ite_false, eq_self, not_false_eq_true, Nat.zero_le, true_and, and_true, and_self, Nat.reduceMod, Nat.reduceAdd, Nat.reduceLeDiff, Nat.reduceEqDiff, Nat.reduceLT, hge]
  have h0 : Ex d 107 0 [some (.ref 2475), some (.int (iN v)), some (.int 0), some (.int 13), none, none] [] μ Q ↔ Ex d 107 7 [some (.ref 2475), some (.int (iN v)), some (.int 0), some (.int 13), some (.int (iN v)), some (.int (iN 0))] [] μ Q := by
    simp only [x107_0, x107_1, x107_2a, x107_2b, x107_2c, x107_4, x107_5a, x107_5b, x107_5c, x107_9, x107_10, x107_13, x107_14, x107_16, x107_17, x107_19, x107_22, x107_24, x107_25a, x107_25b, x107_25c, x107_28, x107_31, x107_32, mzi, mInc, mne, mlt9, mrk, mI1, mI2, mI3, mI4, mL1, mL2, mL3, mL4, mQ1, mQ2, mQ3, mQ4, mT1, mcat0, mcat1, mcat2, mcat3, mcat4, mrf1, jK_v, jK_n, JA, mz1, if_true, if_false, ite_true, ite_false, eq_self, not_false_eq_true, Nat.zero_le, true_and, and_true, and_self, Nat.reduceMod, Nat.reduceAdd, Nat.reduceLeDiff, Nat.reduceEqDiff, Nat.reduceLT, hb]
  rw [h0]
  exact jfst_loop (P := fun i => Ex d 107 7 [some (.ref 2475), some (.int (iN v)), some (.int 0), some (.int 13), some (.int (iN v)), some (.int (iN i))] [] μ Q) (R := fun x => Q (.inl (some (.int x))) μ) (p := fun i => (jstr 38).getD i 0 = iN v) (dp := fun k => inferInstance) (n := 13) (lo := 0) (fun i _ h2 h3 => by rw [step i h2, if_pos h3]) (fun i _ h2 h3 => by rw [step i h2, if_neg h3]) hend (Nat.zero_le _)
theorem d_indexOf {v : Nat} (hv : v < 128) : Ex (d + 4) 103 0 [some (.ref 2473), some (.int (iN v))] [] μ Q ↔ Q (.inl (some (.int (jfst (fun i => decide ((jstr 38).getD i 0 = iN v)) 0 (13 - 0))))) μ := by
  have h43 := JR43 38
  have e43 : 64 * 38 + 43 = 2475 := rfl
  rw [e43] at h43
  have hlen : (jstr 38).length = 13 := by decide +kernel
  have v0 : ¬ iN v < 0 := iN_nn (by omega)
  have v255 : ¬ (255 : Int32) < iN v := fun h => absurd ((iN_lt (a := 255) (by omega) (by omega)).mp h) (by omega)
  have hix := fun d Q => d_ixChar (d := d) (Q := Q) (μ := μ) hv
  have hsl := fun d Q => c_strlen (d := d) (Q := Q) (μ := μ) (n := 38)
  have e41 : 64 * 38 + 41 = 2473 := rfl
  rw [e41, hlen] at hsl
  have i13 : iN 13 = 13 := rfl
  have m00 : (if (0 : Int32) < 0 then (0 : Int32) else 0) = 0 := by decide
  have m13 : (if (13 : Int32) < 13 then (13 : Int32) else 13) = 13 := by decide
  have l013 : (0 : Int32) < 13 := by decide
  have h9 : (1 : Nat) < 9 := by decide
  simp only [x103_0, x103_1, x103_2, x103_3, x103_6, x104_0, x104_1, x104_4, x104_7, x104_8, x104_11, x104_12, x104_13, x104_14, x104_17, x104_20, x104_23, x104_24, x104_27, x104_28, x104_29, x104_30, x104_36, x38_0, x38_3, x38_6, x38_7, x38_10, x38_13, x38_14, x38_17, x38_18, x105_0, x105_1, x105_4, x105_7, x105_8, x105_9, x105_10, x105_11, x105_14a, x105_14b, x105_14c, x105_15, x105_16, x105_17, x105_18, x105_21a, x105_21b, x105_21c, x105_22, x105_23, x105_24, x105_27, x105_28, x105_29, x105_30, x105_31, x105_32, x105_33, x105_36, x106_0, x106_1, x106_4, x106_5, x106_8, x106_11, x106_12, x106_15, x106_16, mzi, mInc, mne, mlt9, mrk, mI1, mI2, mI3, mI4, mL1, mL2, mL3, mL4, mQ1, mQ2, mQ3, mQ4, mT1, mcat0, mcat1, mcat2, mcat3, mcat4, mrf1, jK_v, jK_n, JA, mz1, if_true, if_false, ite_true, ite_false, eq_self, not_false_eq_true, Nat.zero_le, true_and, and_true, and_self, Nat.reduceMod, Nat.reduceAdd, Nat.reduceLeDiff, Nat.reduceEqDiff, Nat.reduceLT, h43, hlen, v0, v255, hix, hsl, i13, m00, m13, l013, h9]
end LEXM
