/-! THE PURE PART: bytes and texts (class). -/
theorem x40_5r {d : Nat} {a0 a1 : Int32} {ls : List (Option Value)} {st : List Value} {μ : jM} {Q : jO → jM → Prop} {v : Nat} (h : jcat st ≤ 8) : Ex (d + 1) 40 5 (ls) (.retAddr v :: .int a1 :: .int a0 :: st) μ Q ↔ Ex d 41 0 [some (.int a0), some (.int a1), some (.retAddr v)] [] μ (jK (d + 1) 40 5 8 ls st Q) := Exc (E := (.invokestatic 1059, 3, 41, 3, 0, [])) (as := [.int a0, .int a1, .retAddr v]) rfl (jx_callS h rfl rfl rfl rfl)
theorem jrok3 : ∀ v, v < 256 → (jrok 3 (iN v) = true ∧ ((iN v &&& 255).toUInt32 % 65536).toInt32 = iN v) := by decide +kernel
theorem jstr_a : ∀ n, n < 64 → ∀ i, i < (jstr n).length → ((jstr n).getD i 0).toNatClampNeg < 128 ∧ (jstr n).getD i 0 = iN ((jstr n).getD i 0).toNatClampNeg := by decide +kernel
theorem jstr_l : ∀ n, n < 64 → (jstr n).length < 20 := by decide +kernel
theorem JR43 (n : Nat) : jty (64 * n + 43) = 1 ∧ (∀ μ, jln (64 * n + 43) μ = (jstr n).length) ∧ ∀ i μ, jrdI (64 * n + 43) i μ = (jstr n).getD i 0 := by
  have e1 : (64 * n + 43) % 64 = 43 := by omega
  have e2 : (64 * n + 43) / 64 = n := by omega
  refine ⟨?_, fun μ => ?_, fun i μ => ?_⟩
  · unfold jty
    rw [e1]
    rfl
  · unfold jln
    rw [e1, e2]
    rfl
  · unfold jrdI
    rw [e1, e2]
    rfl
theorem i_shr0 {x : Int32} : x >>> ((0 : Int32) &&& 31) = x := by
  apply Int32.toBitVec_inj.mp
  rw [show (0 : Int32) = iN 0 from rfl, jshr (by decide)]
  simp
/-- a byte of the tape, -1 behind its end -/
def kBy (t : Nat → Int32) (sz at_ : Nat) : Int32 := if at_ < sz then t at_ &&& 255 else -1
def kLet (x : Int32) : Bool := decide (¬ x < 97 ∧ ¬ 122 < x)
def kDgt (x : Int32) : Bool := decide (¬ x < 48 ∧ ¬ 57 < x)
def kBlk (x : Int32) : Bool := decide (x = 32 ∨ x = 10)
def kStd (b : Nat → Int32) (n at_ : Nat) : Bool := decide (jfst (fun i => decide (¬ b (at_ + i) = (jstr n).getD i 0)) 0 ((jstr n).length - 0) = -1)
/-- the first, or another -/
def kFk (p : Nat → Bool) (o : Nat) : Nat → Nat → Nat
  | _, 0 => o
  | k, m + 1 => if p k = true then k else kFk p o (k + 1) m
def kTn (k : Nat) : Nat := if k < 37 then k else 37
theorem jktx_n : ∀ k, k < 42 → jktx k = 64 * kTn k + 41 := by decide +kernel
/-- on while it is so -/
def kSk (p : Int32 → Bool) (b : Nat → Int32) (sz : Nat) : Nat → Nat → Nat
  | 0, a => a
  | f + 1, a => if a < sz ∧ p (b a) = true then kSk p b sz f (a + 1) else a
def kTxt (b : Nat → Int32) (at_ len : Nat) (k : Nat) : Bool := decide ((jstr (kTn k)).length = len ∧ kStd b (kTn k) at_ = true)
section LEXC
variable {d : Nat} {μ : jM} {Q : jO → jM → Prop} {sz n at_ len : Nat}
theorem c_strlen : Ex (d + 1) 35 0 [some (.ref (64 * n + 41))] [] μ Q ↔ Q (.inl (some (.int (iN (jstr n).length)))) μ := by
  have h41 : (64 * n + 41) % 64 = 41 := by omega
  have h43 := JR43 n
  have hs := @i_shr0
  have e2 : 64 * n + 41 + 2 = 64 * n + 43 := by omega
  have h9 : (1 : Nat) < 9 := by decide
  have j2 : jrok 2 0 = true := by decide
  simp only [x35_0, x35_1, x35_4, x35_5, x35_6, x35_9, x35_10, x36_0, x36_3, x36_6, x36_7, x36_10, x36_13, x36_14, mzi, mInc, mne, mlt9, mrk, mI1, mI2, mI3, mI4, mL1, mL2, mL3, mL4, mQ1, mQ2, mQ3, mQ4, mT1, mcat0, mcat1, mcat2, mcat3, mcat4, mrf1, jK_v, jK_n, JA, mz1, if_true, if_false, ite_true, ite_false, eq_self, not_false_eq_true, Nat.zero_le, true_and, and_true, and_self, Nat.reduceMod, Nat.reduceAdd, Nat.reduceLeDiff, Nat.reduceEqDiff, Nat.reduceLT, h41, e2, h43, hs, h9, j2]
theorem c_charAt {i : Nat} (hn : n < 64) (hi : i < (jstr n).length) : Ex (d + 4) 37 0 [some (.ref (64 * n + 41)), some (.int (iN i))] [] μ Q ↔ Q (.inl (some (.int ((jstr n).getD i 0)))) μ := by
  have h41 : (64 * n + 41) % 64 = 41 := by omega
  have h43 := JR43 n
  have e2 : 64 * n + 41 + 2 = 64 * n + 43 := by omega
  have h9 : (1 : Nat) < 9 := by decide
  have hl := jstr_l n hn
  obtain ⟨ha, hb⟩ := jstr_a n hn i hi
  generalize ((jstr n).getD i 0).toNatClampNeg = v at ha hb
  obtain ⟨hr, hr2⟩ := jrok3 v (by omega)
  have ic : (iN i).toNatClampNeg = i := iN_cl (by omega)
  have ij : jin (iN i) (jstr n).length = true := iN_in hi (by omega)
  have i0 : ¬ iN i < 0 := iN_nn (by omega)
  have il : iN i < iN (jstr n).length := (iN_lt (by omega) (by omega)).mpr hi
  rw [hb]
  simp only [x37_0, x37_1, x37_4, x37_7, x37_8, x37_11, x37_12, x37_15, x37_16, x37_17, x37_20, x37_24, x38_0, x38_3, x38_6, x38_7, x38_10, x38_13, x38_14, x38_17, x38_18, x39_0, x39_1, x39_2, x39_3, x39_6, x39_7, x39_8, x39_9, x39_12, x39_13, x39_14, x40_0, x40_1, x40_2, x40_8a, x40_8b, x40_9, x41_0, x41_1, x41_4, x41_5, x41_6, x41_9, x41_10, x41_11, x41_16, x41_17, x40_5r, mzi, mInc, mne, mlt9, mrk, mI1, mI2, mI3, mI4, mL1, mL2, mL3, mL4, mQ1, mQ2, mQ3, mQ4, mT1, mcat0, mcat1, mcat2, mcat3, mcat4, mrf1, jK_v, jK_n, JA, mz1, if_true, if_false, ite_true, ite_false, eq_self, not_false_eq_true, Nat.zero_le, true_and, and_true, and_self, Nat.reduceMod, Nat.reduceAdd, Nat.reduceLeDiff, Nat.reduceEqDiff, Nat.reduceLT, h41, e2, h43, h9, ic, ij, i0, il, hb, hr, hr2]
theorem c_byteAt (hW : jWd μ) (hz : jI μ 65 1 = iN sz) (h2 : sz ≤ 2000) (ha : at_ < 2 ^ 31) : Ex d 30 0 [some (.ref 65), some (.int (iN at_))] [] μ Q ↔ Q (.inl (some (.int (kBy (jI μ 155) sz at_)))) μ := by
  have hw := hW
  unfold jWd at hw
  have a0 : ¬ iN at_ < 0 := iN_nn ha
  unfold kBy
  by_cases g : at_ < sz
  · have g1 : iN at_ < iN sz := (iN_lt (by omega) (by omega)).mpr g
    have g2 : iN at_ < iN 2000 := (iN_lt (by omega) (by omega)).mpr (by omega)
    have ac : (iN at_).toNatClampNeg = at_ := iN_cl (by omega)
    have aj : jin (iN at_) 2000 = true := iN_in (by omega) (by omega)
    simp only [x30_0, x30_1, x30_4, x30_5, x30_6, x30_9, x30_12, x30_13, x30_14, x30_17, x30_18, x30_21, x30_22, x30_25, x30_26, x30_27, x30_30, x30_31, x30_34, x30_35, mzi, mInc, mne, mlt9, mrk, mI1, mI2, mI3, mI4, mL1, mL2, mL3, mL4, mQ1, mQ2, mQ3, mQ4, mT1, mcat0, mcat1, mcat2, mcat3, mcat4, mrf1, jK_v, jK_n, JA, mz1, if_true, if_false, ite_true, ite_false, eq_self, not_false_eq_true, Nat.zero_le, true_and, and_true, and_self, Nat.reduceMod, Nat.reduceAdd, Nat.reduceLeDiff, Nat.reduceEqDiff, Nat.reduceLT, hw, hz, a0, g1, g2, ac, aj, g]
  · have g1 : ¬ iN at_ < iN sz := fun h => g ((iN_lt (by omega) (by omega)).mp h)
    simp only [x30_0, x30_1, x30_4, x30_5, x30_6, x30_9, x30_12, x30_13, x30_14, x30_17, x30_18, x30_21, x30_22, x30_25, x30_26, x30_27, x30_30, x30_31, x30_34, x30_35, mzi, mInc, mne, mlt9, mrk, mI1, mI2, mI3, mI4, mL1, mL2, mL3, mL4, mQ1, mQ2, mQ3, mQ4, mT1, mcat0, mcat1, mcat2, mcat3, mcat4, mrf1, jK_v, jK_n, JA, mz1, if_true, if_false, ite_true, ite_false, eq_self, not_false_eq_true, Nat.zero_le, true_and, and_true, and_self, Nat.reduceMod, Nat.reduceAdd, Nat.reduceLeDiff, Nat.reduceEqDiff, Nat.reduceLT, hw, hz, a0, g1, g]
theorem c_isLetter (hW : jWd μ) (hz : jI μ 65 1 = iN sz) (h2 : sz ≤ 2000) (ha : at_ < 2 ^ 31) : Ex (d + 1) 32 0 [some (.ref 65), some (.int (iN at_)), none] [] μ Q ↔ Q (.inl (some (.int (if kLet (kBy (jI μ 155) sz at_) = true then 1 else 0)))) μ := by
  have hb := fun d Q => c_byteAt (d := d) (Q := Q) hW hz h2 ha
  unfold kLet
  by_cases g1 : kBy (jI μ 155) sz at_ < 97
  · simp only [x32_0, x32_1, x32_2, x32_5a, x32_5b, x32_5c, x32_6, x32_7, x32_9, x32_12, x32_13, x32_15, x32_18, x32_19, x32_22, x32_23, mzi, mInc, mne, mlt9, mrk, mI1, mI2, mI3, mI4, mL1, mL2, mL3, mL4, mQ1, mQ2, mQ3, mQ4, mT1, mcat0, mcat1, mcat2, mcat3, mcat4, mrf1, jK_v, jK_n, JA, mz1, if_true, if_false, ite_true, ite_false, eq_self, not_false_eq_true, Nat.zero_le, true_and, and_true, and_self, Nat.reduceMod, Nat.reduceAdd, Nat.reduceLeDiff, Nat.reduceEqDiff, Nat.reduceLT, hb, g1, false_and, not_true_eq_false, decide_false, Bool.false_eq_true]
  · by_cases g2 : 122 < kBy (jI μ 155) sz at_
    all_goals simp only [x32_0, x32_1, x32_2, x32_5a, x32_5b, x32_5c, x32_6, x32_7, x32_9, x32_12, x32_13, x32_15, x32_18, x32_19, x32_22, x32_23, mzi, mInc, mne, mlt9, mrk, mI1, mI2, mI3, mI4, mL1, mL2, mL3, mL4, mQ1, mQ2, mQ3, mQ4, mT1, mcat0, mcat1, mcat2, mcat3, mcat4, mrf1, jK_v, jK_n, JA, mz1, if_true, if_false, ite_true, ite_false, eq_self, not_false_eq_true, Nat.zero_le, true_and, and_true, and_self, Nat.reduceMod, Nat.reduceAdd, Nat.reduceLeDiff, Nat.reduceEqDiff, Nat.reduceLT, hb, g1, g2, false_and, and_false, not_true_eq_false, decide_false, decide_true, Bool.false_eq_true]
theorem c_isDigit (hW : jWd μ) (hz : jI μ 65 1 = iN sz) (h2 : sz ≤ 2000) (ha : at_ < 2 ^ 31) : Ex (d + 1) 33 0 [some (.ref 65), some (.int (iN at_)), none] [] μ Q ↔ Q (.inl (some (.int (if kDgt (kBy (jI μ 155) sz at_) = true then 1 else 0)))) μ := by
  have hb := fun d Q => c_byteAt (d := d) (Q := Q) hW hz h2 ha
  unfold kDgt
  by_cases g1 : kBy (jI μ 155) sz at_ < 48
  · simp only [x33_0, x33_1, x33_2, x33_5a, x33_5b, x33_5c, x33_6, x33_7, x33_9, x33_12, x33_13, x33_15, x33_18, x33_19, x33_22, x33_23, mzi, mInc, mne, mlt9, mrk, mI1, mI2, mI3, mI4, mL1, mL2, mL3, mL4, mQ1, mQ2, mQ3, mQ4, mT1, mcat0, mcat1, mcat2, mcat3, mcat4, mrf1, jK_v, jK_n, JA, mz1, if_true, if_false, ite_true, ite_false, eq_self, not_false_eq_true, Nat.zero_le, true_and, and_true, and_self, Nat.reduceMod, Nat.reduceAdd, Nat.reduceLeDiff, Nat.reduceEqDiff, Nat.reduceLT, hb, g1, false_and, not_true_eq_false, decide_false, Bool.false_eq_true]
  · by_cases g2 : 57 < kBy (jI μ 155) sz at_
    all_goals simp only [x33_0, x33_1, x33_2, x33_5a, x33_5b, x33_5c, x33_6, x33_7, x33_9, x33_12, x33_13, x33_15, x33_18, x33_19, x33_22, x33_23, mzi, mInc, mne, mlt9, mrk, mI1, mI2, mI3, mI4, mL1, mL2, mL3, mL4, mQ1, mQ2, mQ3, mQ4, mT1, mcat0, mcat1, mcat2, mcat3, mcat4, mrf1, jK_v, jK_n, JA, mz1, if_true, if_false, ite_true, ite_false, eq_self, not_false_eq_true, Nat.zero_le, true_and, and_true, and_self, Nat.reduceMod, Nat.reduceAdd, Nat.reduceLeDiff, Nat.reduceEqDiff, Nat.reduceLT, hb, g1, g2, false_and, and_false, not_true_eq_false, decide_false, decide_true, Bool.false_eq_true]
theorem c_isBlank (hW : jWd μ) (hz : jI μ 65 1 = iN sz) (h2 : sz ≤ 2000) (ha : at_ < 2 ^ 31) : Ex (d + 1) 29 0 [some (.ref 65), some (.int (iN at_)), none] [] μ Q ↔ Q (.inl (some (.int (if kBlk (kBy (jI μ 155) sz at_) = true then 1 else 0)))) μ := by
  have hb := fun d Q => c_byteAt (d := d) (Q := Q) hW hz h2 ha
  unfold kBlk
  by_cases g1 : kBy (jI μ 155) sz at_ = 32
  · have g1' := eq_true g1
    simp only [x29_0, x29_1, x29_2, x29_5a, x29_5b, x29_5c, x29_6, x29_7, x29_9, x29_12, x29_13, x29_15, x29_18, x29_19, x29_22, x29_23, mzi, mInc, mne, mlt9, mrk, mI1, mI2, mI3, mI4, mL1, mL2, mL3, mL4, mQ1, mQ2, mQ3, mQ4, mT1, mcat0, mcat1, mcat2, mcat3, mcat4, mrf1, jK_v, jK_n, JA, mz1, if_true, if_false, ite_true, ite_false, eq_self, not_false_eq_true, Nat.zero_le, true_and, and_true, and_self, Nat.reduceMod, Nat.reduceAdd, Nat.reduceLeDiff, Nat.reduceEqDiff, Nat.reduceLT, hb, g1', true_or, decide_true]
  · have g1' := eq_false g1
    by_cases g2 : kBy (jI μ 155) sz at_ = 10
    · have g2' := eq_true g2
      simp only [x29_0, x29_1, x29_2, x29_5a, x29_5b, x29_5c, x29_6, x29_7, x29_9, x29_12, x29_13, x29_15, x29_18, x29_19, x29_22, x29_23, mzi, mInc, mne, mlt9, mrk, mI1, mI2, mI3, mI4, mL1, mL2, mL3, mL4, mQ1, mQ2, mQ3, mQ4, mT1, mcat0, mcat1, mcat2, mcat3, mcat4, mrf1, jK_v, jK_n, JA, mz1, if_true, if_false, ite_true, ite_false, eq_self, not_false_eq_true, Nat.zero_le, true_and, and_true, and_self, Nat.reduceMod, Nat.reduceAdd, Nat.reduceLeDiff, Nat.reduceEqDiff, Nat.reduceLT, hb, g1', g2', or_true, decide_true]
    · have g2' := eq_false g2
      simp only [x29_0, x29_1, x29_2, x29_5a, x29_5b, x29_5c, x29_6, x29_7, x29_9, x29_12, x29_13, x29_15, x29_18, x29_19, x29_22, x29_23, mzi, mInc, mne, mlt9, mrk, mI1, mI2, mI3, mI4, mL1, mL2, mL3, mL4, mQ1, mQ2, mQ3, mQ4, mT1, mcat0, mcat1, mcat2, mcat3, mcat4, mrf1, jK_v, jK_n, JA, mz1, if_true, if_false, ite_true, ite_false, eq_self, not_false_eq_true, Nat.zero_le, true_and, and_true, and_self, Nat.reduceMod, Nat.reduceAdd, Nat.reduceLeDiff, Nat.reduceEqDiff, Nat.reduceLT, hb, g1', g2', or_false, decide_false, Bool.false_eq_true]
theorem c_stands (hW : jWd μ) (hz : jI μ 65 1 = iN sz) (h2 : sz ≤ 2000) (ha : at_ < 2 ^ 30) (hn : n < 64) : Ex (d + 5) 34 0 [some (.ref 65), some (.ref (64 * n + 41)), some (.int (iN at_)), none] [] μ Q ↔ Q (.inl (some (.int (if kStd (kBy (jI μ 155) sz) n at_ = true then 1 else 0)))) μ := by
  have hl := jstr_l n hn
  have h41 : (64 * n + 41) % 64 = 41 := by omega
  have hb := fun d Q (k : Nat) (hk : k < 20) => c_byteAt (d := d) (Q := Q) (at_ := at_ + k) hW hz h2 (by omega)
  have hsl := fun d Q => c_strlen (d := d) (Q := Q) (μ := μ) (n := n)
  have step : ∀ k, 0 ≤ k → k < (jstr n).length → (Ex (d + 5) 34 2 [some (.ref 65), some (.ref (64 * n + 41)), some (.int (iN at_)), some (.int (iN k))] [] μ Q ↔ if kBy (jI μ 155) sz (at_ + k) = (jstr n).getD k 0 then Ex (d + 5) 34 2 [some (.ref 65), some (.ref (64 * n + 41)), some (.int (iN at_)), some (.int (iN (k + 1)))] [] μ Q else Q (.inl (some (.int 0))) μ) := by
    intro k _ hk
    have hc := fun d Q => c_charAt (d := d) (Q := Q) (μ := μ) hn hk
    have hlt : iN k < iN (jstr n).length := (iN_lt (by omega) (by omega)).mpr hk
    have ha2 : iN at_ + iN k = iN (at_ + k) := iN_add
    have hb2 := fun d Q => hb d Q k (by omega)
    rw [x34_2]
    simp only [x34_0, x34_1a, x34_1b, x34_1c, x34_3, x34_4, x34_7, x34_10, x34_11, x34_12, x34_13, x34_14, x34_17, x34_18, x34_19, x34_22, x34_25, x34_26, x34_27a, x34_27b, x34_27c, x34_30, x34_33, x34_34, mzi, mInc, mne, mlt9, mrk, mI1, mI2, mI3, mI4, mL1, mL2, mL3, mL4, mQ1, mQ2, mQ3, mQ4, mT1, mcat0, mcat1, mcat2, mcat3, mcat4, mrf1, jK_v, jK_n, JA, mz1, if_true, if_false, ite_true, ite_false, eq_self, not_false_eq_true, Nat.zero_le, true_and, and_true, and_self, Nat.reduceMod, Nat.reduceAdd, Nat.reduceLeDiff, Nat.reduceEqDiff, Nat.reduceLT, h41, hsl, hlt, ha2, hb2, hc]
  have hend : Ex (d + 5) 34 2 [some (.ref 65), some (.ref (64 * n + 41)), some (.int (iN at_)), some (.int (iN (jstr n).length))] [] μ Q ↔ Q (.inl (some (.int 1))) μ := by
    have hge : ¬ iN (jstr n).length < iN (jstr n).length := iN_irr (by omega)
    rw [x34_2]
    simp only [x34_0, x34_1a, x34_1b, x34_1c, x34_3, x34_4, x34_7, x34_10, x34_11, x34_12, x34_13, x34_14, x34_17, x34_18, x34_19, x34_22, x34_25, x34_26, x34_27a, x34_27b, x34_27c, x34_30, x34_33, x34_34, mzi, mInc, mne, mlt9, mrk, mI1, mI2, mI3, mI4, mL1, mL2, mL3, mL4, mQ1, mQ2, mQ3, mQ4, mT1, mcat0, mcat1, mcat2, mcat3, mcat4, mrf1, jK_v, jK_n, JA, mz1, if_true, if_false, ite_true, ite_false, eq_self, not_false_eq_true, Nat.zero_le, true_and, and_true, and_self, Nat.reduceMod, Nat.reduceAdd, Nat.reduceLeDiff, Nat.reduceEqDiff, Nat.reduceLT, h41, hsl, hge]
  have h1 : Ex (d + 5) 34 0 [some (.ref 65), some (.ref (64 * n + 41)), some (.int (iN at_)), none] [] μ Q ↔ Ex (d + 5) 34 2 [some (.ref 65), some (.ref (64 * n + 41)), some (.int (iN at_)), some (.int (iN 0))] [] μ Q := by
    simp only [x34_0, x34_1a, x34_1b, x34_1c, x34_3, x34_4, x34_7, x34_10, x34_11, x34_12, x34_13, x34_14, x34_17, x34_18, x34_19, x34_22, x34_25, x34_26, x34_27a, x34_27b, x34_27c, x34_30, x34_33, x34_34, mzi, mInc, mne, mlt9, mrk, mI1, mI2, mI3, mI4, mL1, mL2, mL3, mL4, mQ1, mQ2, mQ3, mQ4, mT1, mcat0, mcat1, mcat2, mcat3, mcat4, mrf1, jK_v, jK_n, JA, mz1, if_true, if_false, ite_true, ite_false, eq_self, not_false_eq_true, Nat.zero_le, true_and, and_true, and_self, Nat.reduceMod, Nat.reduceAdd, Nat.reduceLeDiff, Nat.reduceEqDiff, Nat.reduceLT]
  rw [h1]
  have h3 := jfst_loop (P := fun k => Ex (d + 5) 34 2 [some (.ref 65), some (.ref (64 * n + 41)), some (.int (iN at_)), some (.int (iN k))] [] μ Q) (R := fun x => Q (.inl (some (.int (if decide (x = -1) = true then 1 else 0)))) μ) (p := fun k => ¬ kBy (jI μ 155) sz (at_ + k) = (jstr n).getD k 0) (dp := fun k => inferInstance) (n := (jstr n).length) (lo := 0) (fun k h1 h2 h3 => by
    rw [step k h1 h2, if_neg h3, decide_eq_false (iN_n1 (by omega)), if_neg Bool.false_ne_true]) (fun k h1 h2 h3 => by
    rw [step k h1 h2, if_pos (Classical.not_not.mp h3)]) (by rw [hend]; rfl) (Nat.zero_le _)
  exact h3
theorem c_kindText {o : Nat} (hW : jWd μ) (hz : jI μ 65 1 = iN sz) (h2 : sz ≤ 2000) (ha : at_ < 2 ^ 30) (hlen : len < 2 ^ 31) : Ex (d + 6) 43 0 [some (.ref 194), some (.int (iN at_)), some (.int (iN len)), some (.ref (64 * o + 40)), none, none, none, none] [] μ Q ↔ Q (.inl (some (.ref (64 * kFk (kTxt (kBy (jI μ 155) sz) at_ len) o 0 42 + 40)))) μ := by
  have hw := hW
  unfold jWd at hw
  have loop : ∀ m k b, k + m = 42 → (Ex (d + 6) 43 13 [some (.ref 194), some (.int (iN at_)), some (.int (iN len)), some (.ref (64 * o + 40)), some (.ref 106), some (.int 42), some (.int (iN k)), b] [] μ Q ↔ Q (.inl (some (.ref (64 * kFk (kTxt (kBy (jI μ 155) sz) at_ len) o k m + 40)))) μ) := by
    intro m
    induction m with
    | zero =>
      intro k b hk
      have hk42 : k = 42 := by omega
      subst hk42
      have hge : ¬ iN 42 < (42 : Int32) := by decide
      rw [x43_13]
      simp only [x43_0, x43_3a, x43_3b, x43_3c, x43_5, x43_7, x43_8a, x43_8b, x43_8c, x43_10, x43_11a, x43_11b, x43_11c, x43_15, x43_17, x43_20, x43_22, x43_24, x43_25a, x43_25b, x43_25c, x43_27, x43_29, x43_32, x43_35, x43_36, x43_39, x43_40, x43_43, x43_45, x43_48, x43_49, x43_52, x43_55, x43_57, x43_58a, x43_58b, x43_58c, x43_61, x43_64, x43_65, mzi, mInc, mne, mlt9, mrk, mI1, mI2, mI3, mI4, mL1, mL2, mL3, mL4, mQ1, mQ2, mQ3, mQ4, mT1, mcat0, mcat1, mcat2, mcat3, mcat4, mrf1, jK_v, jK_n, JA, mz1, if_true, if_false, ite_true, ite_false, eq_self, not_false_eq_true, Nat.zero_le, true_and, and_true, and_self, Nat.reduceMod, Nat.reduceAdd, Nat.reduceLeDiff, Nat.reduceEqDiff, Nat.reduceLT, hge]
      rfl
    | succ m ih =>
      intro k b hk
      have hlt : iN k < (42 : Int32) := (iN_lt (b := 42) (by omega) (by decide)).mpr (by omega)
      have kc : (iN k).toNatClampNeg = k := iN_cl (by omega)
      have kj : jin (iN k) 42 = true := iN_in (by omega) (by omega)
      have e40 : 40 + 64 * k = 64 * k + 40 := by omega
      have m40 : (64 * k + 40) % 64 = 40 := by omega
      have d40 : (64 * k + 40) / 64 = k := by omega
      have hx := jktx_n k (by omega)
      have m41 : (64 * kTn k + 41) % 64 = 41 := by omega
      have hkt : kTn k < 64 := by unfold kTn; split <;> omega
      have hl := jstr_l (kTn k) hkt
      have hsl := fun d Q => c_strlen (d := d) (Q := Q) (μ := μ) (n := kTn k)
      have hsd := fun d Q => c_stands (d := d) (Q := Q) hW hz h2 ha hkt
      have hih := fun b => ih (k + 1) b (by omega)
      have jrk : jrdQ 106 k μ = some (64 * k + 40) := by
        show some (40 + 64 * k) = some (64 * k + 40)
        rw [e40]
      have jty106 : (Nat.ble 3 (jty 106) && Nat.ble (jty 106) 5) = true := by decide +kernel
      have jln106 : ∀ μ, jln 106 μ = 42 := fun μ => rfl
      rw [x43_13]
      unfold kFk kTxt
      by_cases g1 : (jstr (kTn k)).length = len
      · have g1' : iN (jstr (kTn k)).length = iN len := by rw [g1]
        by_cases g2 : kStd (kBy (jI μ 155) sz) (kTn k) at_ = true
        · have g12 : decide ((jstr (kTn k)).length = len ∧ kStd (kBy (jI μ 155) sz) (kTn k) at_ = true) = true := decide_eq_true ⟨g1, g2⟩
          rw [if_pos g12]
          simp only [x43_0, x43_3a, x43_3b, x43_3c, x43_5, x43_7, x43_8a, x43_8b, x43_8c, x43_10, x43_11a, x43_11b, x43_11c, x43_15, x43_17, x43_20, x43_22, x43_24, x43_25a, x43_25b, x43_25c, x43_27, x43_29, x43_32, x43_35, x43_36, x43_39, x43_40, x43_43, x43_45, x43_48, x43_49, x43_52, x43_55, x43_57, x43_58a, x43_58b, x43_58c, x43_61, x43_64, x43_65, mzi, mInc, mne, mlt9, mrk, mI1, mI2, mI3, mI4, mL1, mL2, mL3, mL4, mQ1, mQ2, mQ3, mQ4, mT1, mcat0, mcat1, mcat2, mcat3, mcat4, mrf1, jK_v, jK_n, JA, mz1, if_true, if_false, ite_true, ite_false, eq_self, not_false_eq_true, Nat.zero_le, true_and, and_true, and_self, Nat.reduceMod, Nat.reduceAdd, Nat.reduceLeDiff, Nat.reduceEqDiff, Nat.reduceLT, hw, hlt, kc, kj, jrk, jty106, jln106, m40, d40, hx, m41, hsl, hsd, g1', g2]
        · have g12 : ¬ decide ((jstr (kTn k)).length = len ∧ kStd (kBy (jI μ 155) sz) (kTn k) at_ = true) = true := fun h => g2 (of_decide_eq_true h).2
          rw [if_neg g12]
          unfold kTxt at hih
          simp only [x43_0, x43_3a, x43_3b, x43_3c, x43_5, x43_7, x43_8a, x43_8b, x43_8c, x43_10, x43_11a, x43_11b, x43_11c, x43_15, x43_17, x43_20, x43_22, x43_24, x43_25a, x43_25b, x43_25c, x43_27, x43_29, x43_32, x43_35, x43_36, x43_39, x43_40, x43_43, x43_45, x43_48, x43_49, x43_52, x43_55, x43_57, x43_58a, x43_58b, x43_58c, x43_61, x43_64, x43_65, mzi, mInc, mne, mlt9, mrk, mI1, mI2, mI3, mI4, mL1, mL2, mL3, mL4, mQ1, mQ2, mQ3, mQ4, mT1, mcat0, mcat1, mcat2, mcat3, mcat4, mrf1, jK_v, jK_n, JA, mz1, if_true, if_false, ite_true, ite_false, eq_self, not_false_eq_true, Nat.zero_le, true_and, and_true, and_self, Nat.reduceMod, Nat.reduceAdd, Nat.reduceLeDiff, Nat.reduceEqDiff, Nat.reduceLT, hw, hlt, kc, kj, jrk, jty106, jln106, m40, d40, hx, m41, hsl, hsd, g1', g2, hih, Bool.false_eq_true]
      · have g1' : ¬ iN (jstr (kTn k)).length = iN len := fun h => g1 ((iN_eq (by omega) hlen).mp h)
        have g12 : ¬ decide ((jstr (kTn k)).length = len ∧ kStd (kBy (jI μ 155) sz) (kTn k) at_ = true) = true := fun h => g1 (of_decide_eq_true h).1
        rw [if_neg g12]
        unfold kTxt at hih
        simp only [x43_0, x43_3a, x43_3b, x43_3c, x43_5, x43_7, x43_8a, x43_8b, x43_8c, x43_10, x43_11a, x43_11b, x43_11c, x43_15, x43_17, x43_20, x43_22, x43_24, x43_25a, x43_25b, x43_25c, x43_27, x43_29, x43_32, x43_35, x43_36, x43_39, x43_40, x43_43, x43_45, x43_48, x43_49, x43_52, x43_55, x43_57, x43_58a, x43_58b, x43_58c, x43_61, x43_64, x43_65, mzi, mInc, mne, mlt9, mrk, mI1, mI2, mI3, mI4, mL1, mL2, mL3, mL4, mQ1, mQ2, mQ3, mQ4, mT1, mcat0, mcat1, mcat2, mcat3, mcat4, mrf1, jK_v, jK_n, JA, mz1, if_true, if_false, ite_true, ite_false, eq_self, not_false_eq_true, Nat.zero_le, true_and, and_true, and_self, Nat.reduceMod, Nat.reduceAdd, Nat.reduceLeDiff, Nat.reduceEqDiff, Nat.reduceLT, hw, hlt, kc, kj, jrk, jty106, jln106, m40, d40, hx, m41, hsl, hsd, g1', hih]
  have jt106 : jty 106 < 9 := by decide +kernel
  have jln106 : ∀ μ, jln 106 μ = 42 := fun μ => rfl
  have i42 : iN 42 = 42 := rfl
  have h1 : Ex (d + 6) 43 0 [some (.ref 194), some (.int (iN at_)), some (.int (iN len)), some (.ref (64 * o + 40)), none, none, none, none] [] μ Q ↔ Ex (d + 6) 43 13 [some (.ref 194), some (.int (iN at_)), some (.int (iN len)), some (.ref (64 * o + 40)), some (.ref 106), some (.int 42), some (.int (iN 0)), none] [] μ Q := by
    simp only [x43_0, x43_3a, x43_3b, x43_3c, x43_5, x43_7, x43_8a, x43_8b, x43_8c, x43_10, x43_11a, x43_11b, x43_11c, x43_15, x43_17, x43_20, x43_22, x43_24, x43_25a, x43_25b, x43_25c, x43_27, x43_29, x43_32, x43_35, x43_36, x43_39, x43_40, x43_43, x43_45, x43_48, x43_49, x43_52, x43_55, x43_57, x43_58a, x43_58b, x43_58c, x43_61, x43_64, x43_65, mzi, mInc, mne, mlt9, mrk, mI1, mI2, mI3, mI4, mL1, mL2, mL3, mL4, mQ1, mQ2, mQ3, mQ4, mT1, mcat0, mcat1, mcat2, mcat3, mcat4, mrf1, jK_v, jK_n, JA, mz1, if_true, if_false, ite_true, ite_false, eq_self, not_false_eq_true, Nat.zero_le, true_and, and_true, and_self, Nat.reduceMod, Nat.reduceAdd, Nat.reduceLeDiff, Nat.reduceEqDiff, Nat.reduceLT, jt106, jln106, i42]
  rw [h1]
  exact loop 42 0 none rfl
end LEXC
