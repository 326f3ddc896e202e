/-! THE PURE PART: tokens (class). -/
/-- the lexer -/
def kAf (b : Nat → Int32) (sz a : Nat) : Nat := kSk kBlk b sz (sz - a) a
def kLn (b : Nat → Int32) (sz a : Nat) : Nat := if kLet (b a) = true then kSk (fun x => kLet x || kDgt x) b sz (sz - a) a - a else if kDgt (b a) = true then kSk kDgt b sz (sz - a) a - a else if (kStd b 35 a || kStd b 36 a) = true then 2 else 1
def kKd (b : Nat → Int32) (sz a len : Nat) : Nat := if ¬ a < sz then 39 else if kDgt (b a) = true then (if len ≤ 6 then 38 else 40) else if kLet (b a) = true then (if len ≤ 10 then kFk (kTxt b a len) 37 0 42 else 40) else kFk (kTxt b a len) 40 0 42
def kNm (b : Nat → Int32) (a len : Nat) : Int32 := jfold (fun i x => x * 10 + b i - 48) a len 0
def kNa (b : Nat → Int32) (a len : Nat) : Int64 := jfold (fun i x => x * Int64.ofNat 37 + (if kDgt (b i) = true then b i - 48 + 1 else b i - 97 + 11).toInt64) a len (Int64.ofNat 0)
theorem kSk_le {p : Int32 → Bool} {b : Nat → Int32} {sz : Nat} : ∀ f a, a ≤ kSk p b sz f a ∧ (kSk p b sz f a ≤ sz ∨ kSk p b sz f a = a)
  | 0, a => ⟨Nat.le_refl _, Or.inr rfl⟩
  | f + 1, a => by
    unfold kSk
    by_cases h : a < sz ∧ p (b a) = true
    · rw [if_pos h]
      obtain ⟨h1, h2⟩ := kSk_le (p := p) (b := b) (sz := sz) f (a + 1)
      omega
    · rw [if_neg h]
      exact ⟨Nat.le_refl _, Or.inr rfl⟩
theorem kSk_f {p : Int32 → Bool} {b : Nat → Int32} {sz : Nat} : ∀ f g a, sz ≤ a + f → sz ≤ a + g → kSk p b sz f a = kSk p b sz g a
  | 0, 0, _, _, _ => rfl
  | 0, g + 1, a, h, _ => by
    unfold kSk
    rw [if_neg (by omega)]
  | f + 1, 0, a, _, h => by
    unfold kSk
    rw [if_neg (by omega)]
  | f + 1, g + 1, a, h, h2 => by
    unfold kSk
    rw [kSk_f f g (a + 1) (by omega) (by omega)]
section LEXD
variable {d : Nat} {μ : jM} {Q : jO → jM → Prop} {sz n a len : Nat}
theorem c_blanks (hW : jWd μ) (hz : jI μ 65 1 = iN sz) (h2 : sz ≤ 2000) (ha : a < 2 ^ 29) : Ex (d + 2) 28 0 [some (.ref 194), some (.int (iN a)), none] [] μ Q ↔ Q (.inl (some (.int (iN (kAf (kBy (jI μ 155) sz) sz a))))) μ := by
  have hw := hW
  unfold jWd at hw
  have loop : ∀ f c, sz ≤ c + f → c < 2 ^ 29 → (Ex (d + 2) 28 2 [some (.ref 194), some (.int (iN a)), some (.int (iN c))] [] μ Q ↔ Q (.inl (some (.int (iN (kSk kBlk (kBy (jI μ 155) sz) sz f c))))) μ) := by
    intro f
    induction f with
    | zero =>
      intro c hc hc2
      have hge : ¬ iN c < iN sz := fun h => absurd ((iN_lt (by omega) (by omega)).mp h) (by omega)
      rw [x28_2]
      simp only [x28_0, x28_1a, x28_1b, x28_1c, x28_3, x28_4, x28_7, x28_10, x28_13, x28_14, x28_17, x28_18, x28_21, x28_24a, x28_24b, x28_24c, x28_27, x28_30, x28_31, mzi, mInc, mne, mlt9, mrk, mI1, mI2, mI3, mI4, mL1, mL2, mL3, mL4, mQ1, mQ2, mQ3, mQ4, mT1, mcat0, mcat1, mcat2, mcat3, mcat4, mrf1, jK_v, jK_n, JA, mz1, if_true, if_false, ite_true, ite_false, eq_self, not_false_eq_true, Nat.zero_le, true_and, and_true, and_self, Nat.reduceMod, Nat.reduceAdd, Nat.reduceLeDiff, Nat.reduceEqDiff, Nat.reduceLT, hw, hz, hge]
      rfl
    | succ f ih =>
      intro c hc hc2
      have hbl := fun d Q => c_isBlank (d := d) (Q := Q) (at_ := c) hW hz h2 (by omega)
      rw [x28_2]
      unfold kSk
      by_cases g : c < sz
      · have hlt : iN c < iN sz := (iN_lt (by omega) (by omega)).mpr g
        by_cases g2 : kBlk (kBy (jI μ 155) sz c) = true
        · have hih := ih (c + 1) (by omega) (by omega)
          rw [if_pos ⟨g, g2⟩]
          simp only [x28_0, x28_1a, x28_1b, x28_1c, x28_3, x28_4, x28_7, x28_10, x28_13, x28_14, x28_17, x28_18, x28_21, x28_24a, x28_24b, x28_24c, x28_27, x28_30, x28_31, mzi, mInc, mne, mlt9, mrk, mI1, mI2, mI3, mI4, mL1, mL2, mL3, mL4, mQ1, mQ2, mQ3, mQ4, mT1, mcat0, mcat1, mcat2, mcat3, mcat4, mrf1, jK_v, jK_n, JA, mz1, if_true, if_false, ite_true, ite_false, eq_self, not_false_eq_true, Nat.zero_le, true_and, and_true, and_self, Nat.reduceMod, Nat.reduceAdd, Nat.reduceLeDiff, Nat.reduceEqDiff, Nat.reduceLT, hw, hz, hlt, hbl, g2, hih]
        · rw [if_neg fun h => g2 h.2]
          have g2' := eq_false g2
          simp only [x28_0, x28_1a, x28_1b, x28_1c, x28_3, x28_4, x28_7, x28_10, x28_13, x28_14, x28_17, x28_18, x28_21, x28_24a, x28_24b, x28_24c, x28_27, x28_30, x28_31, mzi, mInc, mne, mlt9, mrk, mI1, mI2, mI3, mI4, mL1, mL2, mL3, mL4, mQ1, mQ2, mQ3, mQ4, mT1, mcat0, mcat1, mcat2, mcat3, mcat4, mrf1, jK_v, jK_n, JA, mz1, if_true, if_false, ite_true, ite_false, eq_self, not_false_eq_true, Nat.zero_le, true_and, and_true, and_self, Nat.reduceMod, Nat.reduceAdd, Nat.reduceLeDiff, Nat.reduceEqDiff, Nat.reduceLT, hw, hz, hlt, hbl, g2', Bool.false_eq_true]
      · have hge : ¬ iN c < iN sz := fun h => g ((iN_lt (by omega) (by omega)).mp h)
        rw [if_neg fun h => g h.1]
        simp only [x28_0, x28_1a, x28_1b, x28_1c, x28_3, x28_4, x28_7, x28_10, x28_13, x28_14, x28_17, x28_18, x28_21, x28_24a, x28_24b, x28_24c, x28_27, x28_30, x28_31, mzi, mInc, mne, mlt9, mrk, mI1, mI2, mI3, mI4, mL1, mL2, mL3, mL4, mQ1, mQ2, mQ3, mQ4, mT1, mcat0, mcat1, mcat2, mcat3, mcat4, mrf1, jK_v, jK_n, JA, mz1, if_true, if_false, ite_true, ite_false, eq_self, not_false_eq_true, Nat.zero_le, true_and, and_true, and_self, Nat.reduceMod, Nat.reduceAdd, Nat.reduceLeDiff, Nat.reduceEqDiff, Nat.reduceLT, hw, hz, hge]
  have h1 : Ex (d + 2) 28 0 [some (.ref 194), some (.int (iN a)), none] [] μ Q ↔ Ex (d + 2) 28 2 [some (.ref 194), some (.int (iN a)), some (.int (iN a))] [] μ Q := by
    simp only [x28_0, x28_1a, x28_1b, x28_1c, x28_3, x28_4, x28_7, x28_10, x28_13, x28_14, x28_17, x28_18, x28_21, x28_24a, x28_24b, x28_24c, x28_27, x28_30, x28_31, mzi, mInc, mne, mlt9, mrk, mI1, mI2, mI3, mI4, mL1, mL2, mL3, mL4, mQ1, mQ2, mQ3, mQ4, mT1, mcat0, mcat1, mcat2, mcat3, mcat4, mrf1, jK_v, jK_n, JA, mz1, if_true, if_false, ite_true, ite_false, eq_self, not_false_eq_true, Nat.zero_le, true_and, and_true, and_self, Nat.reduceMod, Nat.reduceAdd, Nat.reduceLeDiff, Nat.reduceEqDiff, Nat.reduceLT]
  rw [h1]
  exact loop (sz - a) a (by omega) ha
theorem iN_sub {x y : Nat} (h : y ≤ x) : iN x - iN y = iN (x - y) := by
  have : iN x = iN (x - y) + iN y := by rw [iN_add]; congr 1; omega
  rw [this, Int32.add_sub_cancel]
theorem c_length (hW : jWd μ) (hz : jI μ 65 1 = iN sz) (h2 : sz ≤ 2000) (ha : a < 2 ^ 29) : Ex (d + 6) 31 0 [some (.ref 194), some (.int (iN a)), none] [] μ Q ↔ Q (.inl (some (.int (iN (kLn (kBy (jI μ 155) sz) sz a))))) μ := by
  have hw := hW
  unfold jWd at hw
  have hle := fun c (hc : c < 2 ^ 29) d Q => c_isLetter (d := d) (Q := Q) (at_ := c) hW hz h2 (by omega)
  have hdi := fun c (hc : c < 2 ^ 29) d Q => c_isDigit (d := d) (Q := Q) (at_ := c) hW hz h2 (by omega)
  have done : ∀ c, a ≤ c → (Ex (d + 6) 31 133 [some (.ref 194), some (.int (iN a)), some (.int (iN c))] [] μ Q ↔ Q (.inl (some (.int (iN (c - a))))) μ) := by
    intro c hc
    have hs := iN_sub hc
    simp only [x31_0, x31_1a, x31_1b, x31_1c, x31_2, x31_3, x31_6, x31_7, x31_10, x31_14, x31_15, x31_18, x31_21, x31_24, x31_25, x31_28, x31_29, x31_32, x31_35, x31_36, x31_39, x31_40, x31_43, x31_46a, x31_46b, x31_46c, x31_49, x31_52, x31_53, x31_56, x31_57, x31_60, x31_64, x31_65, x31_68, x31_71, x31_74, x31_75, x31_78, x31_79, x31_82, x31_85a, x31_85b, x31_85c, x31_88, x31_91, x31_92, x31_93, x31_96, x31_99, x31_102, x31_103, x31_106, x31_109, x31_110, x31_113, x31_116, x31_119, x31_120, x31_123, x31_126, x31_127, x31_130, x31_131, x31_132a, x31_132b, x31_132c, x31_133, x31_134, x31_135, x31_136, mzi, mInc, mne, mlt9, mrk, mI1, mI2, mI3, mI4, mL1, mL2, mL3, mL4, mQ1, mQ2, mQ3, mQ4, mT1, mcat0, mcat1, mcat2, mcat3, mcat4, mrf1, jK_v, jK_n, JA, mz1, if_true, if_false, ite_true, ite_false, eq_self, not_false_eq_true, Nat.zero_le, true_and, and_true, and_self, Nat.reduceMod, Nat.reduceAdd, Nat.reduceLeDiff, Nat.reduceEqDiff, Nat.reduceLT, hs]
  have loop1 : ∀ f c, sz ≤ c + f → a ≤ c → c < 2 ^ 29 → (Ex (d + 6) 31 13 [some (.ref 194), some (.int (iN a)), some (.int (iN c))] [] μ Q ↔ Q (.inl (some (.int (iN (kSk (fun x => kLet x || kDgt x) (kBy (jI μ 155) sz) sz f c - a))))) μ) := by
    intro f
    induction f with
    | zero =>
      intro c hc hac hc2
      have hge : ¬ iN c < iN sz := fun h => absurd ((iN_lt (by omega) (by omega)).mp h) (by omega)
      have hs := iN_sub hac
      rw [x31_13]
      simp only [x31_0, x31_1a, x31_1b, x31_1c, x31_2, x31_3, x31_6, x31_7, x31_10, x31_14, x31_15, x31_18, x31_21, x31_24, x31_25, x31_28, x31_29, x31_32, x31_35, x31_36, x31_39, x31_40, x31_43, x31_46a, x31_46b, x31_46c, x31_49, x31_52, x31_53, x31_56, x31_57, x31_60, x31_64, x31_65, x31_68, x31_71, x31_74, x31_75, x31_78, x31_79, x31_82, x31_85a, x31_85b, x31_85c, x31_88, x31_91, x31_92, x31_93, x31_96, x31_99, x31_102, x31_103, x31_106, x31_109, x31_110, x31_113, x31_116, x31_119, x31_120, x31_123, x31_126, x31_127, x31_130, x31_131, x31_132a, x31_132b, x31_132c, x31_133, x31_134, x31_135, x31_136, mzi, mInc, mne, mlt9, mrk, mI1, mI2, mI3, mI4, mL1, mL2, mL3, mL4, mQ1, mQ2, mQ3, mQ4, mT1, mcat0, mcat1, mcat2, mcat3, mcat4, mrf1, jK_v, jK_n, JA, mz1, if_true, if_false, ite_true, ite_false, eq_self, not_false_eq_true, Nat.zero_le, true_and, and_true, and_self, Nat.reduceMod, Nat.reduceAdd, Nat.reduceLeDiff, Nat.reduceEqDiff, Nat.reduceLT, hw, hz, hge, hs]
      rfl
    | succ f ih =>
      intro c hc hac hc2
      have hs := iN_sub hac
      have hle1 := hle c hc2
      have hdi1 := hdi c hc2
      rw [x31_13]
      unfold kSk
      by_cases g : c < sz
      · have hlt : iN c < iN sz := (iN_lt (by omega) (by omega)).mpr g
        have hih := ih (c + 1) (by omega) (by omega) (by omega)
        by_cases g2 : kLet (kBy (jI μ 155) sz c) = true
        · rw [if_pos ⟨g, by rw [g2]; rfl⟩]
          simp only [x31_0, x31_1a, x31_1b, x31_1c, x31_2, x31_3, x31_6, x31_7, x31_10, x31_14, x31_15, x31_18, x31_21, x31_24, x31_25, x31_28, x31_29, x31_32, x31_35, x31_36, x31_39, x31_40, x31_43, x31_46a, x31_46b, x31_46c, x31_49, x31_52, x31_53, x31_56, x31_57, x31_60, x31_64, x31_65, x31_68, x31_71, x31_74, x31_75, x31_78, x31_79, x31_82, x31_85a, x31_85b, x31_85c, x31_88, x31_91, x31_92, x31_93, x31_96, x31_99, x31_102, x31_103, x31_106, x31_109, x31_110, x31_113, x31_116, x31_119, x31_120, x31_123, x31_126, x31_127, x31_130, x31_131, x31_132a, x31_132b, x31_132c, x31_133, x31_134, x31_135, x31_136, mzi, mInc, mne, mlt9, mrk, mI1, mI2, mI3, mI4, mL1, mL2, mL3, mL4, mQ1, mQ2, mQ3, mQ4, mT1, mcat0, mcat1, mcat2, mcat3, mcat4, mrf1, jK_v, jK_n, JA, mz1, if_true, if_false, ite_true, ite_false, eq_self, not_false_eq_true, Nat.zero_le, true_and, and_true, and_self, Nat.reduceMod, Nat.reduceAdd, Nat.reduceLeDiff, Nat.reduceEqDiff, Nat.reduceLT, hw, hz, hlt, hle1, g2, hih]
        · have g2' := eq_false g2
          have g2b : kLet (kBy (jI μ 155) sz c) = false := by simpa using g2
          by_cases g3 : kDgt (kBy (jI μ 155) sz c) = true
          · rw [if_pos ⟨g, by rw [g2b, g3]; rfl⟩]
            simp only [x31_0, x31_1a, x31_1b, x31_1c, x31_2, x31_3, x31_6, x31_7, x31_10, x31_14, x31_15, x31_18, x31_21, x31_24, x31_25, x31_28, x31_29, x31_32, x31_35, x31_36, x31_39, x31_40, x31_43, x31_46a, x31_46b, x31_46c, x31_49, x31_52, x31_53, x31_56, x31_57, x31_60, x31_64, x31_65, x31_68, x31_71, x31_74, x31_75, x31_78, x31_79, x31_82, x31_85a, x31_85b, x31_85c, x31_88, x31_91, x31_92, x31_93, x31_96, x31_99, x31_102, x31_103, x31_106, x31_109, x31_110, x31_113, x31_116, x31_119, x31_120, x31_123, x31_126, x31_127, x31_130, x31_131, x31_132a, x31_132b, x31_132c, x31_133, x31_134, x31_135, x31_136, mzi, mInc, mne, mlt9, mrk, mI1, mI2, mI3, mI4, mL1, mL2, mL3, mL4, mQ1, mQ2, mQ3, mQ4, mT1, mcat0, mcat1, mcat2, mcat3, mcat4, mrf1, jK_v, jK_n, JA, mz1, if_true, if_false, ite_true, ite_false, eq_self, not_false_eq_true, Nat.zero_le, true_and, and_true, and_self, Nat.reduceMod, Nat.reduceAdd, Nat.reduceLeDiff, Nat.reduceEqDiff, Nat.reduceLT, hw, hz, hlt, hle1, hdi1, g2', g3, hih, Bool.false_eq_true]
          · have g3' := eq_false g3
            have g3b : kDgt (kBy (jI μ 155) sz c) = false := by simpa using g3
            rw [if_neg fun h => by have := h.2; rw [g2b, g3b] at this; exact Bool.noConfusion this]
            simp only [x31_0, x31_1a, x31_1b, x31_1c, x31_2, x31_3, x31_6, x31_7, x31_10, x31_14, x31_15, x31_18, x31_21, x31_24, x31_25, x31_28, x31_29, x31_32, x31_35, x31_36, x31_39, x31_40, x31_43, x31_46a, x31_46b, x31_46c, x31_49, x31_52, x31_53, x31_56, x31_57, x31_60, x31_64, x31_65, x31_68, x31_71, x31_74, x31_75, x31_78, x31_79, x31_82, x31_85a, x31_85b, x31_85c, x31_88, x31_91, x31_92, x31_93, x31_96, x31_99, x31_102, x31_103, x31_106, x31_109, x31_110, x31_113, x31_116, x31_119, x31_120, x31_123, x31_126, x31_127, x31_130, x31_131, x31_132a, x31_132b, x31_132c, x31_133, x31_134, x31_135, x31_136, mzi, mInc, mne, mlt9, mrk, mI1, mI2, mI3, mI4, mL1, mL2, mL3, mL4, mQ1, mQ2, mQ3, mQ4, mT1, mcat0, mcat1, mcat2, mcat3, mcat4, mrf1, jK_v, jK_n, JA, mz1, if_true, if_false, ite_true, ite_false, eq_self, not_false_eq_true, Nat.zero_le, true_and, and_true, and_self, Nat.reduceMod, Nat.reduceAdd, Nat.reduceLeDiff, Nat.reduceEqDiff, Nat.reduceLT, hw, hz, hlt, hle1, hdi1, g2', g3', hs, Bool.false_eq_true]
      · have hge : ¬ iN c < iN sz := fun h => g ((iN_lt (by omega) (by omega)).mp h)
        rw [if_neg fun h => g h.1]
        simp only [x31_0, x31_1a, x31_1b, x31_1c, x31_2, x31_3, x31_6, x31_7, x31_10, x31_14, x31_15, x31_18, x31_21, x31_24, x31_25, x31_28, x31_29, x31_32, x31_35, x31_36, x31_39, x31_40, x31_43, x31_46a, x31_46b, x31_46c, x31_49, x31_52, x31_53, x31_56, x31_57, x31_60, x31_64, x31_65, x31_68, x31_71, x31_74, x31_75, x31_78, x31_79, x31_82, x31_85a, x31_85b, x31_85c, x31_88, x31_91, x31_92, x31_93, x31_96, x31_99, x31_102, x31_103, x31_106, x31_109, x31_110, x31_113, x31_116, x31_119, x31_120, x31_123, x31_126, x31_127, x31_130, x31_131, x31_132a, x31_132b, x31_132c, x31_133, x31_134, x31_135, x31_136, mzi, mInc, mne, mlt9, mrk, mI1, mI2, mI3, mI4, mL1, mL2, mL3, mL4, mQ1, mQ2, mQ3, mQ4, mT1, mcat0, mcat1, mcat2, mcat3, mcat4, mrf1, jK_v, jK_n, JA, mz1, if_true, if_false, ite_true, ite_false, eq_self, not_false_eq_true, Nat.zero_le, true_and, and_true, and_self, Nat.reduceMod, Nat.reduceAdd, Nat.reduceLeDiff, Nat.reduceEqDiff, Nat.reduceLT, hw, hz, hge, hs]
  have loop2 : ∀ f c, sz ≤ c + f → a ≤ c → c < 2 ^ 29 → (Ex (d + 6) 31 63 [some (.ref 194), some (.int (iN a)), some (.int (iN c))] [] μ Q ↔ Q (.inl (some (.int (iN (kSk kDgt (kBy (jI μ 155) sz) sz f c - a))))) μ) := by
    intro f
    induction f with
    | zero =>
      intro c hc hac hc2
      have hge : ¬ iN c < iN sz := fun h => absurd ((iN_lt (by omega) (by omega)).mp h) (by omega)
      have hs := iN_sub hac
      rw [x31_63]
      simp only [x31_0, x31_1a, x31_1b, x31_1c, x31_2, x31_3, x31_6, x31_7, x31_10, x31_14, x31_15, x31_18, x31_21, x31_24, x31_25, x31_28, x31_29, x31_32, x31_35, x31_36, x31_39, x31_40, x31_43, x31_46a, x31_46b, x31_46c, x31_49, x31_52, x31_53, x31_56, x31_57, x31_60, x31_64, x31_65, x31_68, x31_71, x31_74, x31_75, x31_78, x31_79, x31_82, x31_85a, x31_85b, x31_85c, x31_88, x31_91, x31_92, x31_93, x31_96, x31_99, x31_102, x31_103, x31_106, x31_109, x31_110, x31_113, x31_116, x31_119, x31_120, x31_123, x31_126, x31_127, x31_130, x31_131, x31_132a, x31_132b, x31_132c, x31_133, x31_134, x31_135, x31_136, mzi, mInc, mne, mlt9, mrk, mI1, mI2, mI3, mI4, mL1, mL2, mL3, mL4, mQ1, mQ2, mQ3, mQ4, mT1, mcat0, mcat1, mcat2, mcat3, mcat4, mrf1, jK_v, jK_n, JA, mz1, if_true, if_false, ite_true, ite_false, eq_self, not_false_eq_true, Nat.zero_le, true_and, and_true, and_self, Nat.reduceMod, Nat.reduceAdd, Nat.reduceLeDiff, Nat.reduceEqDiff, Nat.reduceLT, hw, hz, hge, hs]
      rfl
    | succ f ih =>
      intro c hc hac hc2
      have hs := iN_sub hac
      have hdi1 := hdi c hc2
      rw [x31_63]
      unfold kSk
      by_cases g : c < sz
      · have hlt : iN c < iN sz := (iN_lt (by omega) (by omega)).mpr g
        have hih := ih (c + 1) (by omega) (by omega) (by omega)
        by_cases g3 : kDgt (kBy (jI μ 155) sz c) = true
        · rw [if_pos ⟨g, g3⟩]
          simp only [x31_0, x31_1a, x31_1b, x31_1c, x31_2, x31_3, x31_6, x31_7, x31_10, x31_14, x31_15, x31_18, x31_21, x31_24, x31_25, x31_28, x31_29, x31_32, x31_35, x31_36, x31_39, x31_40, x31_43, x31_46a, x31_46b, x31_46c, x31_49, x31_52, x31_53, x31_56, x31_57, x31_60, x31_64, x31_65, x31_68, x31_71, x31_74, x31_75, x31_78, x31_79, x31_82, x31_85a, x31_85b, x31_85c, x31_88, x31_91, x31_92, x31_93, x31_96, x31_99, x31_102, x31_103, x31_106, x31_109, x31_110, x31_113, x31_116, x31_119, x31_120, x31_123, x31_126, x31_127, x31_130, x31_131, x31_132a, x31_132b, x31_132c, x31_133, x31_134, x31_135, x31_136, mzi, mInc, mne, mlt9, mrk, mI1, mI2, mI3, mI4, mL1, mL2, mL3, mL4, mQ1, mQ2, mQ3, mQ4, mT1, mcat0, mcat1, mcat2, mcat3, mcat4, mrf1, jK_v, jK_n, JA, mz1, if_true, if_false, ite_true, ite_false, eq_self, not_false_eq_true, Nat.zero_le, true_and, and_true, and_self, Nat.reduceMod, Nat.reduceAdd, Nat.reduceLeDiff, Nat.reduceEqDiff, Nat.reduceLT, hw, hz, hlt, hdi1, g3, hih]
        · have g3' := eq_false g3
          rw [if_neg fun h => g3 h.2]
          simp only [x31_0, x31_1a, x31_1b, x31_1c, x31_2, x31_3, x31_6, x31_7, x31_10, x31_14, x31_15, x31_18, x31_21, x31_24, x31_25, x31_28, x31_29, x31_32, x31_35, x31_36, x31_39, x31_40, x31_43, x31_46a, x31_46b, x31_46c, x31_49, x31_52, x31_53, x31_56, x31_57, x31_60, x31_64, x31_65, x31_68, x31_71, x31_74, x31_75, x31_78, x31_79, x31_82, x31_85a, x31_85b, x31_85c, x31_88, x31_91, x31_92, x31_93, x31_96, x31_99, x31_102, x31_103, x31_106, x31_109, x31_110, x31_113, x31_116, x31_119, x31_120, x31_123, x31_126, x31_127, x31_130, x31_131, x31_132a, x31_132b, x31_132c, x31_133, x31_134, x31_135, x31_136, mzi, mInc, mne, mlt9, mrk, mI1, mI2, mI3, mI4, mL1, mL2, mL3, mL4, mQ1, mQ2, mQ3, mQ4, mT1, mcat0, mcat1, mcat2, mcat3, mcat4, mrf1, jK_v, jK_n, JA, mz1, if_true, if_false, ite_true, ite_false, eq_self, not_false_eq_true, Nat.zero_le, true_and, and_true, and_self, Nat.reduceMod, Nat.reduceAdd, Nat.reduceLeDiff, Nat.reduceEqDiff, Nat.reduceLT, hw, hz, hlt, hdi1, g3', hs, Bool.false_eq_true]
      · have hge : ¬ iN c < iN sz := fun h => g ((iN_lt (by omega) (by omega)).mp h)
        rw [if_neg fun h => g h.1]
        simp only [x31_0, x31_1a, x31_1b, x31_1c, x31_2, x31_3, x31_6, x31_7, x31_10, x31_14, x31_15, x31_18, x31_21, x31_24, x31_25, x31_28, x31_29, x31_32, x31_35, x31_36, x31_39, x31_40, x31_43, x31_46a, x31_46b, x31_46c, x31_49, x31_52, x31_53, x31_56, x31_57, x31_60, x31_64, x31_65, x31_68, x31_71, x31_74, x31_75, x31_78, x31_79, x31_82, x31_85a, x31_85b, x31_85c, x31_88, x31_91, x31_92, x31_93, x31_96, x31_99, x31_102, x31_103, x31_106, x31_109, x31_110, x31_113, x31_116, x31_119, x31_120, x31_123, x31_126, x31_127, x31_130, x31_131, x31_132a, x31_132b, x31_132c, x31_133, x31_134, x31_135, x31_136, mzi, mInc, mne, mlt9, mrk, mI1, mI2, mI3, mI4, mL1, mL2, mL3, mL4, mQ1, mQ2, mQ3, mQ4, mT1, mcat0, mcat1, mcat2, mcat3, mcat4, mrf1, jK_v, jK_n, JA, mz1, if_true, if_false, ite_true, ite_false, eq_self, not_false_eq_true, Nat.zero_le, true_and, and_true, and_self, Nat.reduceMod, Nat.reduceAdd, Nat.reduceLeDiff, Nat.reduceEqDiff, Nat.reduceLT, hw, hz, hge, hs]
  have hla := hle a ha
  have hda := hdi a ha
  have hl1 := loop1 (sz - a) a (by omega) (Nat.le_refl _) ha
  have hl2 := loop2 (sz - a) a (by omega) (Nat.le_refl _) ha
  have hst := fun n (hn : n < 64) d Q => c_stands (d := d) (Q := Q) (n := n) hW hz h2 (show a < 2 ^ 30 by omega) hn
  have hs35 := hst 35 (by decide)
  have hs36 := hst 36 (by decide)
  have t35 : jktx 35 = 64 * 35 + 41 := by decide +kernel
  have t36 : jktx 36 = 64 * 36 + 41 := by decide +kernel
  have d35 : 2280 / 64 = 35 := by decide
  have d36 : 2344 / 64 = 36 := by decide
  have s2 : iN a + 2 - iN a = iN 2 := by
    rw [show (2 : Int32) = iN 2 from rfl, iN_add, iN_sub (by omega)]
    congr 1
    omega
  have s1 : iN (a + 1) - iN a = iN 1 := by
    rw [iN_sub (by omega)]
    congr 1
    omega
  unfold kLn
  by_cases g2 : kLet (kBy (jI μ 155) sz a) = true
  · rw [if_pos g2]
    simp only [x31_0, x31_1a, x31_1b, x31_1c, x31_2, x31_3, x31_6, x31_7, x31_10, x31_14, x31_15, x31_18, x31_21, x31_24, x31_25, x31_28, x31_29, x31_32, x31_35, x31_36, x31_39, x31_40, x31_43, x31_46a, x31_46b, x31_46c, x31_49, x31_52, x31_53, x31_56, x31_57, x31_60, x31_64, x31_65, x31_68, x31_71, x31_74, x31_75, x31_78, x31_79, x31_82, x31_85a, x31_85b, x31_85c, x31_88, x31_91, x31_92, x31_93, x31_96, x31_99, x31_102, x31_103, x31_106, x31_109, x31_110, x31_113, x31_116, x31_119, x31_120, x31_123, x31_126, x31_127, x31_130, x31_131, x31_132a, x31_132b, x31_132c, x31_133, x31_134, x31_135, x31_136, mzi, mInc, mne, mlt9, mrk, mI1, mI2, mI3, mI4, mL1, mL2, mL3, mL4, mQ1, mQ2, mQ3, mQ4, mT1, mcat0, mcat1, mcat2, mcat3, mcat4, mrf1, jK_v, jK_n, JA, mz1, if_true, if_false, ite_true, ite_false, eq_self, not_false_eq_true, Nat.zero_le, true_and, and_true, and_self, Nat.reduceMod, Nat.reduceAdd, Nat.reduceLeDiff, Nat.reduceEqDiff, Nat.reduceLT, hw, hla, g2, hl1]
  · have g2' := eq_false g2
    rw [if_neg g2]
    by_cases g3 : kDgt (kBy (jI μ 155) sz a) = true
    · rw [if_pos g3]
      simp only [x31_0, x31_1a, x31_1b, x31_1c, x31_2, x31_3, x31_6, x31_7, x31_10, x31_14, x31_15, x31_18, x31_21, x31_24, x31_25, x31_28, x31_29, x31_32, x31_35, x31_36, x31_39, x31_40, x31_43, x31_46a, x31_46b, x31_46c, x31_49, x31_52, x31_53, x31_56, x31_57, x31_60, x31_64, x31_65, x31_68, x31_71, x31_74, x31_75, x31_78, x31_79, x31_82, x31_85a, x31_85b, x31_85c, x31_88, x31_91, x31_92, x31_93, x31_96, x31_99, x31_102, x31_103, x31_106, x31_109, x31_110, x31_113, x31_116, x31_119, x31_120, x31_123, x31_126, x31_127, x31_130, x31_131, x31_132a, x31_132b, x31_132c, x31_133, x31_134, x31_135, x31_136, mzi, mInc, mne, mlt9, mrk, mI1, mI2, mI3, mI4, mL1, mL2, mL3, mL4, mQ1, mQ2, mQ3, mQ4, mT1, mcat0, mcat1, mcat2, mcat3, mcat4, mrf1, jK_v, jK_n, JA, mz1, if_true, if_false, ite_true, ite_false, eq_self, not_false_eq_true, Nat.zero_le, true_and, and_true, and_self, Nat.reduceMod, Nat.reduceAdd, Nat.reduceLeDiff, Nat.reduceEqDiff, Nat.reduceLT, hw, hla, hda, g2', g3, hl2, Bool.false_eq_true]
    · have g3' := eq_false g3
      rw [if_neg g3]
      by_cases g4 : kStd (kBy (jI μ 155) sz) 35 a = true
      · rw [if_pos (by rw [g4]; rfl)]
        simp only [x31_0, x31_1a, x31_1b, x31_1c, x31_2, x31_3, x31_6, x31_7, x31_10, x31_14, x31_15, x31_18, x31_21, x31_24, x31_25, x31_28, x31_29, x31_32, x31_35, x31_36, x31_39, x31_40, x31_43, x31_46a, x31_46b, x31_46c, x31_49, x31_52, x31_53, x31_56, x31_57, x31_60, x31_64, x31_65, x31_68, x31_71, x31_74, x31_75, x31_78, x31_79, x31_82, x31_85a, x31_85b, x31_85c, x31_88, x31_91, x31_92, x31_93, x31_96, x31_99, x31_102, x31_103, x31_106, x31_109, x31_110, x31_113, x31_116, x31_119, x31_120, x31_123, x31_126, x31_127, x31_130, x31_131, x31_132a, x31_132b, x31_132c, x31_133, x31_134, x31_135, x31_136, mzi, mInc, mne, mlt9, mrk, mI1, mI2, mI3, mI4, mL1, mL2, mL3, mL4, mQ1, mQ2, mQ3, mQ4, mT1, mcat0, mcat1, mcat2, mcat3, mcat4, mrf1, jK_v, jK_n, JA, mz1, if_true, if_false, ite_true, ite_false, eq_self, not_false_eq_true, Nat.zero_le, true_and, and_true, and_self, Nat.reduceMod, Nat.reduceAdd, Nat.reduceLeDiff, Nat.reduceEqDiff, Nat.reduceLT, hw, hla, hda, g2', g3', Nat.reduceDiv, t35, hs35, g4, s2, Bool.false_eq_true]
      · have g4' := eq_false g4
        have g4b : kStd (kBy (jI μ 155) sz) 35 a = false := by simpa using g4
        by_cases g5 : kStd (kBy (jI μ 155) sz) 36 a = true
        · rw [if_pos (by rw [g4b, g5]; rfl)]
          simp only [x31_0, x31_1a, x31_1b, x31_1c, x31_2, x31_3, x31_6, x31_7, x31_10, x31_14, x31_15, x31_18, x31_21, x31_24, x31_25, x31_28, x31_29, x31_32, x31_35, x31_36, x31_39, x31_40, x31_43, x31_46a, x31_46b, x31_46c, x31_49, x31_52, x31_53, x31_56, x31_57, x31_60, x31_64, x31_65, x31_68, x31_71, x31_74, x31_75, x31_78, x31_79, x31_82, x31_85a, x31_85b, x31_85c, x31_88, x31_91, x31_92, x31_93, x31_96, x31_99, x31_102, x31_103, x31_106, x31_109, x31_110, x31_113, x31_116, x31_119, x31_120, x31_123, x31_126, x31_127, x31_130, x31_131, x31_132a, x31_132b, x31_132c, x31_133, x31_134, x31_135, x31_136, mzi, mInc, mne, mlt9, mrk, mI1, mI2, mI3, mI4, mL1, mL2, mL3, mL4, mQ1, mQ2, mQ3, mQ4, mT1, mcat0, mcat1, mcat2, mcat3, mcat4, mrf1, jK_v, jK_n, JA, mz1, if_true, if_false, ite_true, ite_false, eq_self, not_false_eq_true, Nat.zero_le, true_and, and_true, and_self, Nat.reduceMod, Nat.reduceAdd, Nat.reduceLeDiff, Nat.reduceEqDiff, Nat.reduceLT, hw, hla, hda, g2', g3', Nat.reduceDiv, t35, t36, hs35, hs36, g4', g5, s2, Bool.false_eq_true]
        · have g5' := eq_false g5
          have g5b : kStd (kBy (jI μ 155) sz) 36 a = false := by simpa using g5
          rw [if_neg (by rw [g4b, g5b]; exact Bool.false_ne_true)]
          simp only [x31_0, x31_1a, x31_1b, x31_1c, x31_2, x31_3, x31_6, x31_7, x31_10, x31_14, x31_15, x31_18, x31_21, x31_24, x31_25, x31_28, x31_29, x31_32, x31_35, x31_36, x31_39, x31_40, x31_43, x31_46a, x31_46b, x31_46c, x31_49, x31_52, x31_53, x31_56, x31_57, x31_60, x31_64, x31_65, x31_68, x31_71, x31_74, x31_75, x31_78, x31_79, x31_82, x31_85a, x31_85b, x31_85c, x31_88, x31_91, x31_92, x31_93, x31_96, x31_99, x31_102, x31_103, x31_106, x31_109, x31_110, x31_113, x31_116, x31_119, x31_120, x31_123, x31_126, x31_127, x31_130, x31_131, x31_132a, x31_132b, x31_132c, x31_133, x31_134, x31_135, x31_136, mzi, mInc, mne, mlt9, mrk, mI1, mI2, mI3, mI4, mL1, mL2, mL3, mL4, mQ1, mQ2, mQ3, mQ4, mT1, mcat0, mcat1, mcat2, mcat3, mcat4, mrf1, jK_v, jK_n, JA, mz1, if_true, if_false, ite_true, ite_false, eq_self, not_false_eq_true, Nat.zero_le, true_and, and_true, and_self, Nat.reduceMod, Nat.reduceAdd, Nat.reduceLeDiff, Nat.reduceEqDiff, Nat.reduceLT, hw, hla, hda, g2', g3', Nat.reduceDiv, t35, t36, hs35, hs36, g4', g5', s1, Bool.false_eq_true]
theorem c_kindAt (hW : jWd μ) (hz : jI μ 65 1 = iN sz) (h2 : sz ≤ 2000) (ha : a < 2 ^ 29) (hlen : len < 2 ^ 31) : Ex (d + 7) 42 0 [some (.ref 194), some (.int (iN a)), some (.int (iN len))] [] μ Q ↔ Q (.inl (some (.ref (64 * kKd (kBy (jI μ 155) sz) sz a len + 40)))) μ := by
  have hw := hW
  unfold jWd at hw
  have hla := fun d Q => c_isLetter (d := d) (Q := Q) (at_ := a) hW hz h2 (by omega)
  have hda := fun d Q => c_isDigit (d := d) (Q := Q) (at_ := a) hW hz h2 (by omega)
  have hkt := fun o d Q => c_kindText (d := d) (Q := Q) (o := o) (at_ := a) hW hz h2 (by omega) hlen
  have hk1 := hkt 37
  have hk2 := hkt 40
  have e37 : 64 * 37 + 40 = 2408 := rfl
  have e40 : 64 * 40 + 40 = 2600 := rfl
  rw [e37] at hk1
  rw [e40] at hk2
  unfold kKd
  by_cases g : a < sz
  · have hlt : iN a < iN sz := (iN_lt (by omega) (by omega)).mpr g
    rw [if_neg fun h => h g]
    by_cases g3 : kDgt (kBy (jI μ 155) sz a) = true
    · rw [if_pos g3]
      by_cases g6 : len ≤ 6
      · have h6 : ¬ (6 : Int32) < iN len := fun h => absurd ((iN_lt (a := 6) (by omega) hlen).mp h) (by omega)
        rw [if_pos g6]
        simp only [x42_0, x42_1, x42_2, x42_5, x42_8, x42_11, x42_14, x42_15, x42_16, x42_19, x42_20, x42_23, x42_26, x42_27, x42_29, x42_32, x42_35, x42_38, x42_41, x42_42, x42_43, x42_46, x42_47, x42_50, x42_53, x42_54, x42_56, x42_59, x42_60, x42_61, x42_62, x42_65, x42_68, x42_71, x42_74, x42_75, x42_76, x42_77, x42_78, x42_81, x42_84, mzi, mInc, mne, mlt9, mrk, mI1, mI2, mI3, mI4, mL1, mL2, mL3, mL4, mQ1, mQ2, mQ3, mQ4, mT1, mcat0, mcat1, mcat2, mcat3, mcat4, mrf1, jK_v, jK_n, JA, mz1, if_true, if_false, ite_true, ite_false, eq_self, not_false_eq_true, Nat.zero_le, true_and, and_true, and_self, Nat.reduceMod, Nat.reduceAdd, Nat.reduceLeDiff, Nat.reduceEqDiff, Nat.reduceLT, hw, hz, hlt, hda, g3, h6]
      · have h6 : (6 : Int32) < iN len := (iN_lt (a := 6) (by omega) hlen).mpr (by omega)
        rw [if_neg g6]
        simp only [x42_0, x42_1, x42_2, x42_5, x42_8, x42_11, x42_14, x42_15, x42_16, x42_19, x42_20, x42_23, x42_26, x42_27, x42_29, x42_32, x42_35, x42_38, x42_41, x42_42, x42_43, x42_46, x42_47, x42_50, x42_53, x42_54, x42_56, x42_59, x42_60, x42_61, x42_62, x42_65, x42_68, x42_71, x42_74, x42_75, x42_76, x42_77, x42_78, x42_81, x42_84, mzi, mInc, mne, mlt9, mrk, mI1, mI2, mI3, mI4, mL1, mL2, mL3, mL4, mQ1, mQ2, mQ3, mQ4, mT1, mcat0, mcat1, mcat2, mcat3, mcat4, mrf1, jK_v, jK_n, JA, mz1, if_true, if_false, ite_true, ite_false, eq_self, not_false_eq_true, Nat.zero_le, true_and, and_true, and_self, Nat.reduceMod, Nat.reduceAdd, Nat.reduceLeDiff, Nat.reduceEqDiff, Nat.reduceLT, hw, hz, hlt, hda, g3, h6]
    · have g3' := eq_false g3
      rw [if_neg g3]
      by_cases g2 : kLet (kBy (jI μ 155) sz a) = true
      · rw [if_pos g2]
        by_cases g6 : len ≤ 10
        · have h6 : ¬ (10 : Int32) < iN len := fun h => absurd ((iN_lt (a := 10) (by omega) hlen).mp h) (by omega)
          rw [if_pos g6]
          simp only [x42_0, x42_1, x42_2, x42_5, x42_8, x42_11, x42_14, x42_15, x42_16, x42_19, x42_20, x42_23, x42_26, x42_27, x42_29, x42_32, x42_35, x42_38, x42_41, x42_42, x42_43, x42_46, x42_47, x42_50, x42_53, x42_54, x42_56, x42_59, x42_60, x42_61, x42_62, x42_65, x42_68, x42_71, x42_74, x42_75, x42_76, x42_77, x42_78, x42_81, x42_84, mzi, mInc, mne, mlt9, mrk, mI1, mI2, mI3, mI4, mL1, mL2, mL3, mL4, mQ1, mQ2, mQ3, mQ4, mT1, mcat0, mcat1, mcat2, mcat3, mcat4, mrf1, jK_v, jK_n, JA, mz1, if_true, if_false, ite_true, ite_false, eq_self, not_false_eq_true, Nat.zero_le, true_and, and_true, and_self, Nat.reduceMod, Nat.reduceAdd, Nat.reduceLeDiff, Nat.reduceEqDiff, Nat.reduceLT, hw, hz, hlt, hda, hla, g2, g3', h6, hk1, Bool.false_eq_true]
        · have h6 : (10 : Int32) < iN len := (iN_lt (a := 10) (by omega) hlen).mpr (by omega)
          rw [if_neg g6]
          simp only [x42_0, x42_1, x42_2, x42_5, x42_8, x42_11, x42_14, x42_15, x42_16, x42_19, x42_20, x42_23, x42_26, x42_27, x42_29, x42_32, x42_35, x42_38, x42_41, x42_42, x42_43, x42_46, x42_47, x42_50, x42_53, x42_54, x42_56, x42_59, x42_60, x42_61, x42_62, x42_65, x42_68, x42_71, x42_74, x42_75, x42_76, x42_77, x42_78, x42_81, x42_84, mzi, mInc, mne, mlt9, mrk, mI1, mI2, mI3, mI4, mL1, mL2, mL3, mL4, mQ1, mQ2, mQ3, mQ4, mT1, mcat0, mcat1, mcat2, mcat3, mcat4, mrf1, jK_v, jK_n, JA, mz1, if_true, if_false, ite_true, ite_false, eq_self, not_false_eq_true, Nat.zero_le, true_and, and_true, and_self, Nat.reduceMod, Nat.reduceAdd, Nat.reduceLeDiff, Nat.reduceEqDiff, Nat.reduceLT, hw, hz, hlt, hda, hla, g2, g3', h6, Bool.false_eq_true]
      · have g2' := eq_false g2
        rw [if_neg g2]
        simp only [x42_0, x42_1, x42_2, x42_5, x42_8, x42_11, x42_14, x42_15, x42_16, x42_19, x42_20, x42_23, x42_26, x42_27, x42_29, x42_32, x42_35, x42_38, x42_41, x42_42, x42_43, x42_46, x42_47, x42_50, x42_53, x42_54, x42_56, x42_59, x42_60, x42_61, x42_62, x42_65, x42_68, x42_71, x42_74, x42_75, x42_76, x42_77, x42_78, x42_81, x42_84, mzi, mInc, mne, mlt9, mrk, mI1, mI2, mI3, mI4, mL1, mL2, mL3, mL4, mQ1, mQ2, mQ3, mQ4, mT1, mcat0, mcat1, mcat2, mcat3, mcat4, mrf1, jK_v, jK_n, JA, mz1, if_true, if_false, ite_true, ite_false, eq_self, not_false_eq_true, Nat.zero_le, true_and, and_true, and_self, Nat.reduceMod, Nat.reduceAdd, Nat.reduceLeDiff, Nat.reduceEqDiff, Nat.reduceLT, hw, hz, hlt, hda, hla, g2', g3', hk2, Bool.false_eq_true]
  · have hge : ¬ iN a < iN sz := fun h => g ((iN_lt (by omega) (by omega)).mp h)
    rw [if_pos g]
    simp only [x42_0, x42_1, x42_2, x42_5, x42_8, x42_11, x42_14, x42_15, x42_16, x42_19, x42_20, x42_23, x42_26, x42_27, x42_29, x42_32, x42_35, x42_38, x42_41, x42_42, x42_43, x42_46, x42_47, x42_50, x42_53, x42_54, x42_56, x42_59, x42_60, x42_61, x42_62, x42_65, x42_68, x42_71, x42_74, x42_75, x42_76, x42_77, x42_78, x42_81, x42_84, mzi, mInc, mne, mlt9, mrk, mI1, mI2, mI3, mI4, mL1, mL2, mL3, mL4, mQ1, mQ2, mQ3, mQ4, mT1, mcat0, mcat1, mcat2, mcat3, mcat4, mrf1, jK_v, jK_n, JA, mz1, if_true, if_false, ite_true, ite_false, eq_self, not_false_eq_true, Nat.zero_le, true_and, and_true, and_self, Nat.reduceMod, Nat.reduceAdd, Nat.reduceLeDiff, Nat.reduceEqDiff, Nat.reduceLT, hw, hz, hge]
theorem c_numberAt (hW : jWd μ) (hz : jI μ 65 1 = iN sz) (h2 : sz ≤ 2000) (ha : a < 2 ^ 29) (hlen : len < 2 ^ 29) : Ex (d + 1) 44 0 [some (.ref 194), some (.int (iN a)), some (.int (iN len)), none, none] [] μ Q ↔ Q (.inl (some (.int (kNm (kBy (jI μ 155) sz) a len)))) μ := by
  have hw := hW
  unfold jWd at hw
  have hsum : iN a + iN len = iN (a + len) := iN_add
  have loop : ∀ k x, k < a + len → (Ex (d + 1) 44 5 [some (.ref 194), some (.int (iN a)), some (.int (iN len)), some (.int x), some (.int (iN k))] [] μ Q ↔ Ex (d + 1) 44 5 [some (.ref 194), some (.int (iN a)), some (.int (iN len)), some (.int (x * 10 + kBy (jI μ 155) sz k - 48)), some (.int (iN (k + 1)))] [] μ Q) := by
    intro k x hk
    have hlt : iN k < iN (a + len) := (iN_lt (by omega) (by omega)).mpr hk
    have hb := fun d Q => c_byteAt (d := d) (Q := Q) (at_ := k) hW hz h2 (by omega)
    rw [x44_5]
    simp only [x44_0, x44_1a, x44_1b, x44_1c, x44_2, x44_3a, x44_3b, x44_3c, x44_7, x44_8, x44_9, x44_10, x44_13, x44_14, x44_16, x44_17, x44_18, x44_21, x44_23, x44_26, x44_27, x44_29, x44_30a, x44_30b, x44_30c, x44_31a, x44_31b, x44_31c, x44_34, x44_37, x44_38, mzi, mInc, mne, mlt9, mrk, mI1, mI2, mI3, mI4, mL1, mL2, mL3, mL4, mQ1, mQ2, mQ3, mQ4, mT1, mcat0, mcat1, mcat2, mcat3, mcat4, mrf1, jK_v, jK_n, JA, mz1, if_true, if_false, ite_true, ite_false, eq_self, not_false_eq_true, Nat.zero_le, true_and, and_true, and_self, Nat.reduceMod, Nat.reduceAdd, Nat.reduceLeDiff, Nat.reduceEqDiff, Nat.reduceLT, hw, hsum, hlt, hb]
  have h0 := jfold_loop (P := fun k x => Ex (d + 1) 44 5 [some (.ref 194), some (.int (iN a)), some (.int (iN len)), some (.int x), some (.int (iN k))] [] μ Q) loop len a 0 rfl
  have hge : ¬ iN (a + len) < iN (a + len) := iN_irr (by omega)
  have h1 : Ex (d + 1) 44 0 [some (.ref 194), some (.int (iN a)), some (.int (iN len)), none, none] [] μ Q ↔ Ex (d + 1) 44 5 [some (.ref 194), some (.int (iN a)), some (.int (iN len)), some (.int 0), some (.int (iN a))] [] μ Q := by
    simp only [x44_0, x44_1a, x44_1b, x44_1c, x44_2, x44_3a, x44_3b, x44_3c, x44_7, x44_8, x44_9, x44_10, x44_13, x44_14, x44_16, x44_17, x44_18, x44_21, x44_23, x44_26, x44_27, x44_29, x44_30a, x44_30b, x44_30c, x44_31a, x44_31b, x44_31c, x44_34, x44_37, x44_38, mzi, mInc, mne, mlt9, mrk, mI1, mI2, mI3, mI4, mL1, mL2, mL3, mL4, mQ1, mQ2, mQ3, mQ4, mT1, mcat0, mcat1, mcat2, mcat3, mcat4, mrf1, jK_v, jK_n, JA, mz1, if_true, if_false, ite_true, ite_false, eq_self, not_false_eq_true, Nat.zero_le, true_and, and_true, and_self, Nat.reduceMod, Nat.reduceAdd, Nat.reduceLeDiff, Nat.reduceEqDiff, Nat.reduceLT]
  rw [h1, h0, x44_5]
  simp only [x44_0, x44_1a, x44_1b, x44_1c, x44_2, x44_3a, x44_3b, x44_3c, x44_7, x44_8, x44_9, x44_10, x44_13, x44_14, x44_16, x44_17, x44_18, x44_21, x44_23, x44_26, x44_27, x44_29, x44_30a, x44_30b, x44_30c, x44_31a, x44_31b, x44_31c, x44_34, x44_37, x44_38, mzi, mInc, mne, mlt9, mrk, mI1, mI2, mI3, mI4, mL1, mL2, mL3, mL4, mQ1, mQ2, mQ3, mQ4, mT1, mcat0, mcat1, mcat2, mcat3, mcat4, mrf1, jK_v, jK_n, JA, mz1, if_true, if_false, ite_true, ite_false, eq_self, not_false_eq_true, Nat.zero_le, true_and, and_true, and_self, Nat.reduceMod, Nat.reduceAdd, Nat.reduceLeDiff, Nat.reduceEqDiff, Nat.reduceLT, hw, hsum, hge]
  rfl
theorem c_nameAt (hW : jWd μ) (hz : jI μ 65 1 = iN sz) (h2 : sz ≤ 2000) (ha : a < 2 ^ 29) (hlen : len < 2 ^ 29) : Ex (d + 2) 45 0 [some (.ref 194), some (.int (iN a)), some (.int (iN len)), none, none, none] [] μ Q ↔ Q (.inl (some (.long (kNa (kBy (jI μ 155) sz) a len)))) μ := by
  have hw := hW
  unfold jWd at hw
  have hsum : iN a + iN len = iN (a + len) := iN_add
  have loop : ∀ k x, k < a + len → (Ex (d + 2) 45 5 [some (.ref 194), some (.int (iN a)), some (.int (iN len)), some (.long x), none, some (.int (iN k))] [] μ Q ↔ Ex (d + 2) 45 5 [some (.ref 194), some (.int (iN a)), some (.int (iN len)), some (.long (x * Int64.ofNat 37 + (if kDgt (kBy (jI μ 155) sz k) = true then kBy (jI μ 155) sz k - 48 + 1 else kBy (jI μ 155) sz k - 97 + 11).toInt64)), none, some (.int (iN (k + 1)))] [] μ Q) := by
    intro k x hk
    have hlt : iN k < iN (a + len) := (iN_lt (by omega) (by omega)).mpr hk
    have hb := fun d Q => c_byteAt (d := d) (Q := Q) (at_ := k) hW hz h2 (by omega)
    have hd := fun d Q => c_isDigit (d := d) (Q := Q) (at_ := k) hW hz h2 (by omega)
    rw [x45_5]
    by_cases g : kDgt (kBy (jI μ 155) sz k) = true
    · have g' := eq_true g
      simp only [x45_0, x45_1a, x45_1b, x45_1c, x45_1d, x45_2, x45_3a, x45_3b, x45_3c, x45_3d, x45_7, x45_8, x45_9, x45_10, x45_13, x45_14, x45_17, x45_18, x45_19, x45_22, x45_24, x45_27, x45_30, x45_31, x45_34, x45_36, x45_39, x45_41, x45_42, x45_43, x45_44, x45_47, x45_48, x45_51, x45_53, x45_56, x45_58, x45_59, x45_61, x45_62, x45_63, x45_64a, x45_64b, x45_64c, x45_64d, x45_65a, x45_65b, x45_65c, x45_68, x45_71, x45_72, mzi, mInc, mne, mlt9, mrk, mI1, mI2, mI3, mI4, mL1, mL2, mL3, mL4, mQ1, mQ2, mQ3, mQ4, mT1, mcat0, mcat1, mcat2, mcat3, mcat4, mrf1, jK_v, jK_n, JA, mz1, if_true, if_false, ite_true, ite_false, eq_self, not_false_eq_true, Nat.zero_le, true_and, and_true, and_self, Nat.reduceMod, Nat.reduceAdd, Nat.reduceLeDiff, Nat.reduceEqDiff, Nat.reduceLT, hw, hsum, hlt, hb, hd, g']
    · have g' := eq_false g
      simp only [x45_0, x45_1a, x45_1b, x45_1c, x45_1d, x45_2, x45_3a, x45_3b, x45_3c, x45_3d, x45_7, x45_8, x45_9, x45_10, x45_13, x45_14, x45_17, x45_18, x45_19, x45_22, x45_24, x45_27, x45_30, x45_31, x45_34, x45_36, x45_39, x45_41, x45_42, x45_43, x45_44, x45_47, x45_48, x45_51, x45_53, x45_56, x45_58, x45_59, x45_61, x45_62, x45_63, x45_64a, x45_64b, x45_64c, x45_64d, x45_65a, x45_65b, x45_65c, x45_68, x45_71, x45_72, mzi, mInc, mne, mlt9, mrk, mI1, mI2, mI3, mI4, mL1, mL2, mL3, mL4, mQ1, mQ2, mQ3, mQ4, mT1, mcat0, mcat1, mcat2, mcat3, mcat4, mrf1, jK_v, jK_n, JA, mz1, if_true, if_false, ite_true, ite_false, eq_self, not_false_eq_true, Nat.zero_le, true_and, and_true, and_self, Nat.reduceMod, Nat.reduceAdd, Nat.reduceLeDiff, Nat.reduceEqDiff, Nat.reduceLT, hw, hsum, hlt, hb, hd, g', Bool.false_eq_true]
  have h0 := jfold_loop (P := fun k x => Ex (d + 2) 45 5 [some (.ref 194), some (.int (iN a)), some (.int (iN len)), some (.long x), none, some (.int (iN k))] [] μ Q) loop len a (Int64.ofNat 0) rfl
  have hge : ¬ iN (a + len) < iN (a + len) := iN_irr (by omega)
  have h1 : Ex (d + 2) 45 0 [some (.ref 194), some (.int (iN a)), some (.int (iN len)), none, none, none] [] μ Q ↔ Ex (d + 2) 45 5 [some (.ref 194), some (.int (iN a)), some (.int (iN len)), some (.long (Int64.ofNat 0)), none, some (.int (iN a))] [] μ Q := by
    simp only [x45_0, x45_1a, x45_1b, x45_1c, x45_1d, x45_2, x45_3a, x45_3b, x45_3c, x45_3d, x45_7, x45_8, x45_9, x45_10, x45_13, x45_14, x45_17, x45_18, x45_19, x45_22, x45_24, x45_27, x45_30, x45_31, x45_34, x45_36, x45_39, x45_41, x45_42, x45_43, x45_44, x45_47, x45_48, x45_51, x45_53, x45_56, x45_58, x45_59, x45_61, x45_62, x45_63, x45_64a, x45_64b, x45_64c, x45_64d, x45_65a, x45_65b, x45_65c, x45_68, x45_71, x45_72, mzi, mInc, mne, mlt9, mrk, mI1, mI2, mI3, mI4, mL1, mL2, mL3, mL4, mQ1, mQ2, mQ3, mQ4, mT1, mcat0, mcat1, mcat2, mcat3, mcat4, mrf1, jK_v, jK_n, JA, mz1, if_true, if_false, ite_true, ite_false, eq_self, not_false_eq_true, Nat.zero_le, true_and, and_true, and_self, Nat.reduceMod, Nat.reduceAdd, Nat.reduceLeDiff, Nat.reduceEqDiff, Nat.reduceLT]
  rw [h1, h0, x45_5]
  simp only [x45_0, x45_1a, x45_1b, x45_1c, x45_1d, x45_2, x45_3a, x45_3b, x45_3c, x45_3d, x45_7, x45_8, x45_9, x45_10, x45_13, x45_14, x45_17, x45_18, x45_19, x45_22, x45_24, x45_27, x45_30, x45_31, x45_34, x45_36, x45_39, x45_41, x45_42, x45_43, x45_44, x45_47, x45_48, x45_51, x45_53, x45_56, x45_58, x45_59, x45_61, x45_62, x45_63, x45_64a, x45_64b, x45_64c, x45_64d, x45_65a, x45_65b, x45_65c, x45_68, x45_71, x45_72, mzi, mInc, mne, mlt9, mrk, mI1, mI2, mI3, mI4, mL1, mL2, mL3, mL4, mQ1, mQ2, mQ3, mQ4, mT1, mcat0, mcat1, mcat2, mcat3, mcat4, mrf1, jK_v, jK_n, JA, mz1, if_true, if_false, ite_true, ite_false, eq_self, not_false_eq_true, Nat.zero_le, true_and, and_true, and_self, Nat.reduceMod, Nat.reduceAdd, Nat.reduceLeDiff, Nat.reduceEqDiff, Nat.reduceLT, hw, hsum, hge]
  rfl
end LEXD
