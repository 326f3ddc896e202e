/-! THE PURE PART: kinds of tokens (reference). -/
theorem kStd_i {b : Nat → Int32} {n a : Nat} (hn : n < 64) : kStd b n a = true ↔ ∀ i, i < (jstr n).length → b (a + i) = (jstr n).getD i 0 := by
  have hl := jstr_l n hn
  unfold kStd
  rw [decide_eq_true_iff, jfst_no _ _ (by omega)]
  constructor
  · intro h i hi
    exact Classical.not_not.mp (of_decide_eq_false (h i (Nat.zero_le _) (by omega)))
  · intro h i _ hi
    exact decide_eq_false (Classical.not_not.mpr (h i (by omega)))
theorem jstr_f' : ∀ k, k < 37 → 22 ≤ k → kLet ((jstr k).getD 0 0) = false ∧ kDgt ((jstr k).getD 0 0) = false ∧ 1 ≤ (jstr k).length ∧ (k < 35 ↔ (jstr k).length = 1) := by decide +kernel
theorem jstr_f (k : Nat) (h : 22 ≤ k) (h2 : k < 37) : kLet ((jstr k).getD 0 0) = false ∧ kDgt ((jstr k).getD 0 0) = false ∧ 1 ≤ (jstr k).length ∧ (k < 35 ↔ (jstr k).length = 1) := jstr_f' k h2 h
theorem jstr_g : ∀ k, k < 22 → kLet ((jstr k).getD 0 0) = true ∧ 2 ≤ (jstr k).length := by decide +kernel
theorem jstr_e : (jstr 37).length = 0 := by decide +kernel
theorem jstr_35 : (jstr 35).length = 2 ∧ (jstr 36).length = 2 ∧ (jstr 35).getD 0 0 = 60 ∧ (jstr 36).getD 0 0 = 62 ∧ (jstr 35).getD 1 0 = 61 ∧ (jstr 36).getD 1 0 = 61 := by decide +kernel
theorem jstr_38 : ∀ i, i < 13 → (jstr 38).getD i 0 = (jstr (22 + i)).getD 0 0 := by decide +kernel
theorem kTxt_le {b : Nat → Int32} {a len k : Nat} (h : kTxt b a len k = true) (hk : k < 42) (hl : 1 ≤ len) : k < 37 ∧ (jstr k).length = len ∧ ∀ i, i < len → b (a + i) = (jstr k).getD i 0 := by
  unfold kTxt at h
  obtain ⟨h1, h2⟩ := of_decide_eq_true h
  by_cases g : k < 37
  · rw [kTn_n g] at h1 h2
    exact ⟨g, h1, fun i hi => (kStd_i (by omega)).mp h2 i (by omega)⟩
  · have e : kTn k = 37 := if_neg g
    rw [e, jstr_e] at h1
    omega
theorem kTxt_ge {b : Nat → Int32} {a len k : Nat} (hk : k < 37) (h1 : (jstr k).length = len) (h2 : ∀ i, i < len → b (a + i) = (jstr k).getD i 0) : kTxt b a len k = true := by
  unfold kTxt
  rw [kTn_n hk]
  exact decide_eq_true ⟨h1, (kStd_i (by omega)).mpr fun i hi => h2 i (by omega)⟩
/-- a word -/
theorem kMd_word {b : Nat → Int32} {a len : Nat} (hl : 1 ≤ len) (hL : kLet (b a) = true) : kMd (kFk (kTxt b a len) 37 0 42) = kFk (kTxt b a len) 40 0 22 := by
  have no : ∀ k, 22 ≤ k → k < 42 → kTxt b a len k = false := by
    intro k h1 h2
    cases e : kTxt b a len k with
    | false => rfl
    | true =>
      obtain ⟨a1, a2, a3⟩ := kTxt_le e h2 hl
      have := a3 0 (by omega)
      rw [Nat.add_zero] at this
      rw [this, (jstr_f k h1 a1).1] at hL
      exact Bool.noConfusion hL
  rcases kFk_lt (p := kTxt b a len) (o := 37) 42 0 with ⟨a1, a2⟩ | ⟨a1, a2, a3, a4⟩
  · rw [a1]
    rcases kFk_lt (p := kTxt b a len) (o := 40) 22 0 with ⟨b1, b2⟩ | ⟨b1, b2, b3, b4⟩
    · rw [b1]
      rfl
    · rw [a2 _ (by omega) (by omega)] at b3
      exact Bool.noConfusion b3
  · generalize kFk (kTxt b a len) 37 0 42 = K at *
    have hK : K < 22 := by
      by_cases g : K < 22
      · exact g
      · rw [no K (by omega) (by omega)] at a3
        exact Bool.noConfusion a3
    rcases kFk_lt (p := kTxt b a len) (o := 40) 22 0 with ⟨b1, b2⟩ | ⟨b1, b2, b3, b4⟩
    · rw [b2 K (by omega) (by omega)] at a3
      exact Bool.noConfusion a3
    · generalize kFk (kTxt b a len) 40 0 22 = J at *
      have : K = J := by
        by_cases g : K < J
        · rw [b4 K (by omega) g] at a3
          exact Bool.noConfusion a3
        · by_cases g2 : J < K
          · rw [a4 J (by omega) g2] at b3
            exact Bool.noConfusion b3
          · omega
      subst this
      exact if_pos hK
/-- a sign of two bytes, of one -/
theorem kLong {b : Nat → Int32} {a : Nat} : (kStd b 35 a || kStd b 36 a) = true ↔ (b a = 60 ∨ b a = 62) ∧ b (a + 1) = 61 := by
  obtain ⟨l1, l2, c1, c2, c3, c4⟩ := jstr_35
  rw [Bool.or_eq_true, kStd_i (by decide), kStd_i (by decide), l1, l2]
  constructor
  · rintro (h | h)
    · have h0 := h 0 (by decide)
      have h1 := h 1 (by decide)
      rw [c1, Nat.add_zero] at h0
      rw [c3] at h1
      exact ⟨Or.inl h0, h1⟩
    · have h0 := h 0 (by decide)
      have h1 := h 1 (by decide)
      rw [c2, Nat.add_zero] at h0
      rw [c4] at h1
      exact ⟨Or.inr h0, h1⟩
  · rintro ⟨h | h, h1⟩
    · refine Or.inl fun i hi => ?_
      have : i = 0 ∨ i = 1 := by omega
      rcases this with e | e
      · rw [e, c1]; exact h
      · rw [e, c3]; exact h1
    · refine Or.inr fun i hi => ?_
      have : i = 0 ∨ i = 1 := by omega
      rcases this with e | e
      · rw [e, c2]; exact h
      · rw [e, c4]; exact h1
theorem kFk_is {p : Nat → Bool} {o m K : Nat} (h1 : K < m) (h2 : p K = true) (h3 : ∀ j, j < K → p j = false) : kFk p o 0 m = K := by
  rcases kFk_lt (p := p) (o := o) m 0 with ⟨a1, a2⟩ | ⟨a1, a2, a3, a4⟩
  · rw [a2 K (Nat.zero_le _) (by omega)] at h2
    exact Bool.noConfusion h2
  · generalize kFk p o 0 m = J at *
    by_cases g : J < K
    · rw [h3 J g] at a3
      exact Bool.noConfusion a3
    · by_cases g2 : K < J
      · rw [a4 K (Nat.zero_le _) g2] at h2
        exact Bool.noConfusion h2
      · omega
theorem kMd_two {b : Nat → Int32} {a : Nat} (h0 : b a = 60 ∨ b a = 62) (h1 : b (a + 1) = 61) : kMd (kFk (kTxt b a 2) 40 0 42) = if b a = 60 then 300 else 301 := by
  obtain ⟨l1, l2, c1, c2, c3, c4⟩ := jstr_35
  have no : ∀ k, k < 35 → kTxt b a 2 k = false := by
    intro k hk
    cases e : kTxt b a 2 k with
    | false => rfl
    | true =>
      obtain ⟨a1, a2, a3⟩ := kTxt_le e (by omega) (by decide)
      by_cases g : k < 22
      · have := a3 0 (by decide)
        rw [Nat.add_zero] at this
        have h := (jstr_g k g).1
        rw [← this] at h
        rcases h0 with h0 | h0
        · rw [h0] at h; exact absurd h (by decide)
        · rw [h0] at h; exact absurd h (by decide)
      · have := (jstr_f k (by omega) (by omega)).2.2.2.mp hk
        omega
  by_cases g : b a = 60
  · rw [if_pos g]
    have : kFk (kTxt b a 2) 40 0 42 = 35 := kFk_is (by decide) (kTxt_ge (by decide) l1 fun i hi => by
      have : i = 0 ∨ i = 1 := by omega
      rcases this with e | e
      · rw [e, c1]; exact g
      · rw [e, c3]; exact h1) no
    rw [this]
    rfl
  · rw [if_neg g]
    have g2 : b a = 62 := h0.elim (fun h => absurd h g) id
    have : kFk (kTxt b a 2) 40 0 42 = 36 := kFk_is (by decide) (kTxt_ge (by decide) l2 fun i hi => by
      have : i = 0 ∨ i = 1 := by omega
      rcases this with e | e
      · rw [e, c2]; exact g2
      · rw [e, c4]; exact h1) fun j hj => by
        by_cases e : j = 35
        · subst e
          cases e2 : kTxt b a 2 35 with
          | false => rfl
          | true =>
            obtain ⟨a1, a2, a3⟩ := kTxt_le e2 (by omega) (by decide)
            have := a3 0 (by decide)
            rw [c1, Nat.add_zero] at this
            exact absurd this g
        · exact no j (by omega)
    rw [this]
    rfl
theorem kMd_one {b : Nat → Int32} {a v : Nat} (hv : v < 256) (hb : b a = iN v) (hL : kLet (b a) = false) : iN (kMd (kFk (kTxt b a 1) 40 0 42)) = if 0 < iN v ∧ iN v < 128 ∧ ¬ jfst (fun i => decide ((jstr 38).getD i 0 = iN v)) 0 (13 - 0) < 0 then 50 + iN v else 901 := by
  have tx : ∀ k, k < 42 → (kTxt b a 1 k = true ↔ 22 ≤ k ∧ k < 35 ∧ (jstr k).getD 0 0 = iN v) := by
    intro k hk
    constructor
    · intro h
      obtain ⟨a1, a2, a3⟩ := kTxt_le h hk (by decide)
      have h0 := a3 0 (by decide)
      rw [Nat.add_zero, hb] at h0
      by_cases g : k < 22
      · have := (jstr_g k g).2
        omega
      · exact ⟨by omega, (jstr_f k (by omega) a1).2.2.2.mpr a2, h0.symm⟩
    · rintro ⟨h1, h2, h3⟩
      refine kTxt_ge (by omega) ((jstr_f k h1 (by omega)).2.2.2.mp h2) fun i hi => ?_
      have : i = 0 := by omega
      rw [this, Nat.add_zero, hb, h3]
  have hch : ∀ k, 22 ≤ k → k < 35 → (jstr k).getD 0 0 = iN v → 0 < v ∧ v < 128 := by
    intro k h1 h2 h3
    have := (jstr_a k (by omega) 0 (by have := (jstr_f k h1 (by omega)).2.2.1; omega))
    rw [h3, iN_cl (by omega)] at this
    refine ⟨?_, this.1⟩
    refine Nat.pos_of_ne_zero fun e => ?_
    subst e
    have h0 : ∀ k, k < 35 → 22 ≤ k → ¬ (jstr k).getD 0 0 = iN 0 := by decide +kernel
    exact h0 k h2 h1 h3
  rcases kFk_lt (p := kTxt b a 1) (o := 40) 42 0 with ⟨a1, a2⟩ | ⟨a1, a2, a3, a4⟩
  · rw [a1, if_neg]
    · rfl
    · rintro ⟨h1, h2, h3⟩
      rcases jfst_cases (p := fun i => decide ((jstr 38).getD i 0 = iN v)) (13 - 0) 0 with e | ⟨q, q1, q2, q3⟩
      · rw [e] at h3
        exact h3 (by decide)
      · obtain ⟨r1, r2, r3, r4⟩ := jfst_at (by omega) _ _ (by omega) q3
        have h4 := of_decide_eq_true r3
        rw [jstr_38 q (by omega)] at h4
        have h5 := (tx (22 + q) (by omega)).mpr ⟨by omega, by omega, h4⟩
        rw [a2 (22 + q) (by omega) (by omega)] at h5
        exact Bool.noConfusion h5
  · generalize kFk (kTxt b a 1) 40 0 42 = K at *
    obtain ⟨h1, h2, h3⟩ := (tx K (by omega)).mp a3
    obtain ⟨v1, v2⟩ := hch K h1 h2 h3
    have hj : ¬ jfst (fun i => decide ((jstr 38).getD i 0 = iN v)) 0 (13 - 0) < 0 := by
      rcases jfst_cases (p := fun i => decide ((jstr 38).getD i 0 = iN v)) (13 - 0) 0 with e | ⟨q, q1, q2, q3⟩
      · have := (jfst_no _ _ (by omega)).mp e (K - 22) (by omega) (by omega)
        have := of_decide_eq_false this
        rw [jstr_38 (K - 22) (by omega), show 22 + (K - 22) = K by omega] at this
        exact absurd h3 this
      · rw [q3]
        exact iN_nn (by omega)
    rw [if_pos ⟨(iN_lt (a := 0) (by omega) (by omega)).mpr v1, (iN_lt (b := 128) (by omega) (by omega)).mpr v2, hj⟩]
    unfold kMd
    rw [if_neg (by omega), if_pos h2, h3, iN_cl (by omega), ← iN_add]
    rfl
section KND
variable {μ : jM} {sz a idx : Nat} {b : Nat → Int32}
/-- the kind of the token at a place (reference) -/
theorem d_kindAt (hW : jWd μ) (hT : kTp μ b sz) (hB : ∀ i, i < sz → ∃ v, v < 256 ∧ b i = iN v) (ha : a ≤ sz + 1) (hi : idx < 401) : ∀ (d : Nat) (Q : jO → jM → Prop), (Ex (d + 6) 99 0 [some (.ref 4490), some (.int (iN a)), some (.int (iN idx)), none, none, none] [] μ Q ↔ Q (.inl (some (.int (iN (kMd (kKd b sz a (kLn b sz a))))))) (if a < sz then jsI μ 4761 idx (iN (kLn b sz a)) else μ)) := by
  intro d Q
  have hw := hW
  unfold jWd at hw
  have h2 := hT.2.1
  have by_ := fun c (hc : c < 2 ^ 20) d Q => d_byteOf (d := d) (Q := Q) (a := c) hW hT (by omega)
  have bya := by_ a (by omega)
  have ic : (iN idx).toNatClampNeg = idx := iN_cl (by omega)
  have ij : jin (iN idx) 401 = true := iN_in (by omega) (by omega)
  by_cases g : a < sz
  · obtain ⟨v, hv, hb⟩ := hB a g
    have hn1 : ¬ iN v = -1 := iN_n1 (by omega)
    have lp := kLn_pos (b := b) g
    have hsk : ∀ p : Int32 → Bool, p (b a) = true → kSk p b sz (sz - a) a = kSk p b sz (sz - a - 1) (a + 1) := by
      intro p hp
      rw [show sz - a = (sz - a - 1) + 1 by omega]
      show (if a < sz ∧ p (b a) = true then kSk p b sz (sz - a - 1) (a + 1) else a) = _
      rw [if_pos ⟨g, hp⟩]
      rfl
    have hskl : ∀ p : Int32 → Bool, a + 1 ≤ kSk p b sz (sz - a - 1) (a + 1) ∧ kSk p b sz (sz - a - 1) (a + 1) ≤ sz := by
      intro p
      have := kSk_le (p := p) (b := b) (sz := sz) (sz - a - 1) (a + 1)
      omega
    rw [if_pos g]
    by_cases gL : kLet (b a) = true
    · -- a word
      have loop : ∀ f c, sz ≤ c + f → c + f < 2 ^ 19 → (Ex (d + 6) 99 34 [some (.ref 4490), some (.int (iN a)), some (.int (iN idx)), some (.int (b a)), some (.int (iN c)), none] [] μ Q ↔ Ex (d + 6) 99 71 [some (.ref 4490), some (.int (iN a)), some (.int (iN idx)), some (.int (b a)), some (.int (iN (kSk (fun x => kLet x || kDgt x) b sz f c))), none] [] μ Q) := by
        intro f
        induction f with
        | zero =>
          intro c hc hc2
          have hbc := by_ c (by omega)
          have e1 := hT.2.2.2 c (by omega)
          rw [e1] at hbc
          have l1 : kLet (-1) = false := by decide
          have l2 : kDgt (-1) = false := by decide
          rw [x99_34]
          simp only [x99_0, x99_1, x99_2, x99_5a, x99_5b, x99_5c, x99_6, x99_7, x99_8, x99_9a, x99_9b, x99_9c, x99_11, x99_12, x99_13, x99_16, x99_19, x99_20, x99_21, x99_24, x99_27, x99_28, x99_31, x99_35, x99_37, x99_40, x99_43, x99_46, x99_47, x99_50, x99_53, x99_54, x99_56, x99_59, x99_62, x99_65a, x99_65b, x99_65c, x99_68, x99_71, x99_72, x99_75, x99_76, x99_78, x99_79, x99_80, x99_81, x99_83, x99_84, x99_85, x99_86, x99_89, x99_92, x99_94, x99_97, x99_99, x99_102, x99_105, x99_106, x99_107, x99_110, x99_113, x99_114, x99_115, x99_117, x99_118, x99_119, x99_122, x99_125, x99_127, x99_128, x99_129, x99_131, x99_134, x99_135, x99_137, x99_140, x99_141, x99_143, x99_146, x99_148, x99_151, x99_152, x99_155, x99_156a, x99_156b, x99_156c, x99_158, x99_159, x99_162, x99_163, x99_165, x99_168, x99_169, x99_172, x99_173, x99_174, x99_176, x99_179, x99_180, x99_182, x99_185, x99_188, x99_191, x99_194, x99_195, x99_196, x99_199, x99_200, x99_203, x99_206, x99_208, x99_209, x99_210, x99_213, x99_216, x99_218, x99_219, x99_220, x99_223, x99_226, mzi, mInc, mne, mlt9, mrk, mI1, mI2, mI3, mI4, mL1, mL2, mL3, mL4, mQ1, mQ2, mQ3, mQ4, mT1, mcat0, mcat1, mcat2, mcat3, mcat4, mrf1, jK_v, jK_n, JA, mz1, if_true, if_false, ite_true, ite_false, eq_self, not_false_eq_true, Nat.zero_le, true_and, and_true, and_self, Nat.reduceMod, Nat.reduceAdd, Nat.reduceLeDiff, Nat.reduceEqDiff, Nat.reduceLT, hw, hbc, d_isDigit, d_isLetter, gL, l1, l2, Bool.false_eq_true]
          rfl
        | succ f ih =>
          intro c hc hc2
          have hbc := by_ c (by omega)
          have hih := ih (c + 1) (by omega) (by omega)
          rw [x99_34]
          unfold kSk
          by_cases q : c < sz
          · by_cases q3 : kDgt (b c) = true
            · rw [if_pos ⟨q, by rw [q3, Bool.or_true]⟩]
              simp only [x99_0, x99_1, x99_2, x99_5a, x99_5b, x99_5c, x99_6, x99_7, x99_8, x99_9a, x99_9b, x99_9c, x99_11, x99_12, x99_13, x99_16, x99_19, x99_20, x99_21, x99_24, x99_27, x99_28, x99_31, x99_35, x99_37, x99_40, x99_43, x99_46, x99_47, x99_50, x99_53, x99_54, x99_56, x99_59, x99_62, x99_65a, x99_65b, x99_65c, x99_68, x99_71, x99_72, x99_75, x99_76, x99_78, x99_79, x99_80, x99_81, x99_83, x99_84, x99_85, x99_86, x99_89, x99_92, x99_94, x99_97, x99_99, x99_102, x99_105, x99_106, x99_107, x99_110, x99_113, x99_114, x99_115, x99_117, x99_118, x99_119, x99_122, x99_125, x99_127, x99_128, x99_129, x99_131, x99_134, x99_135, x99_137, x99_140, x99_141, x99_143, x99_146, x99_148, x99_151, x99_152, x99_155, x99_156a, x99_156b, x99_156c, x99_158, x99_159, x99_162, x99_163, x99_165, x99_168, x99_169, x99_172, x99_173, x99_174, x99_176, x99_179, x99_180, x99_182, x99_185, x99_188, x99_191, x99_194, x99_195, x99_196, x99_199, x99_200, x99_203, x99_206, x99_208, x99_209, x99_210, x99_213, x99_216, x99_218, x99_219, x99_220, x99_223, x99_226, mzi, mInc, mne, mlt9, mrk, mI1, mI2, mI3, mI4, mL1, mL2, mL3, mL4, mQ1, mQ2, mQ3, mQ4, mT1, mcat0, mcat1, mcat2, mcat3, mcat4, mrf1, jK_v, jK_n, JA, mz1, if_true, if_false, ite_true, ite_false, eq_self, not_false_eq_true, Nat.zero_le, true_and, and_true, and_self, Nat.reduceMod, Nat.reduceAdd, Nat.reduceLeDiff, Nat.reduceEqDiff, Nat.reduceLT, hw, hbc, d_isDigit, q3, hih]
            · have q3' := eq_false q3
              have q3b : kDgt (b c) = false := by simpa using q3
              by_cases q2 : kLet (b c) = true
              · rw [if_pos ⟨q, by rw [q2]; rfl⟩]
                simp only [x99_0, x99_1, x99_2, x99_5a, x99_5b, x99_5c, x99_6, x99_7, x99_8, x99_9a, x99_9b, x99_9c, x99_11, x99_12, x99_13, x99_16, x99_19, x99_20, x99_21, x99_24, x99_27, x99_28, x99_31, x99_35, x99_37, x99_40, x99_43, x99_46, x99_47, x99_50, x99_53, x99_54, x99_56, x99_59, x99_62, x99_65a, x99_65b, x99_65c, x99_68, x99_71, x99_72, x99_75, x99_76, x99_78, x99_79, x99_80, x99_81, x99_83, x99_84, x99_85, x99_86, x99_89, x99_92, x99_94, x99_97, x99_99, x99_102, x99_105, x99_106, x99_107, x99_110, x99_113, x99_114, x99_115, x99_117, x99_118, x99_119, x99_122, x99_125, x99_127, x99_128, x99_129, x99_131, x99_134, x99_135, x99_137, x99_140, x99_141, x99_143, x99_146, x99_148, x99_151, x99_152, x99_155, x99_156a, x99_156b, x99_156c, x99_158, x99_159, x99_162, x99_163, x99_165, x99_168, x99_169, x99_172, x99_173, x99_174, x99_176, x99_179, x99_180, x99_182, x99_185, x99_188, x99_191, x99_194, x99_195, x99_196, x99_199, x99_200, x99_203, x99_206, x99_208, x99_209, x99_210, x99_213, x99_216, x99_218, x99_219, x99_220, x99_223, x99_226, mzi, mInc, mne, mlt9, mrk, mI1, mI2, mI3, mI4, mL1, mL2, mL3, mL4, mQ1, mQ2, mQ3, mQ4, mT1, mcat0, mcat1, mcat2, mcat3, mcat4, mrf1, jK_v, jK_n, JA, mz1, if_true, if_false, ite_true, ite_false, eq_self, not_false_eq_true, Nat.zero_le, true_and, and_true, and_self, Nat.reduceMod, Nat.reduceAdd, Nat.reduceLeDiff, Nat.reduceEqDiff, Nat.reduceLT, hw, hbc, d_isDigit, d_isLetter, gL, q3', q2, Bool.false_eq_true, hih]
              · have q2' := eq_false q2
                have q2b : kLet (b c) = false := by simpa using q2
                rw [if_neg fun h => by have := h.2; rw [q2b, q3b] at this; exact Bool.noConfusion this]
                simp only [x99_0, x99_1, x99_2, x99_5a, x99_5b, x99_5c, x99_6, x99_7, x99_8, x99_9a, x99_9b, x99_9c, x99_11, x99_12, x99_13, x99_16, x99_19, x99_20, x99_21, x99_24, x99_27, x99_28, x99_31, x99_35, x99_37, x99_40, x99_43, x99_46, x99_47, x99_50, x99_53, x99_54, x99_56, x99_59, x99_62, x99_65a, x99_65b, x99_65c, x99_68, x99_71, x99_72, x99_75, x99_76, x99_78, x99_79, x99_80, x99_81, x99_83, x99_84, x99_85, x99_86, x99_89, x99_92, x99_94, x99_97, x99_99, x99_102, x99_105, x99_106, x99_107, x99_110, x99_113, x99_114, x99_115, x99_117, x99_118, x99_119, x99_122, x99_125, x99_127, x99_128, x99_129, x99_131, x99_134, x99_135, x99_137, x99_140, x99_141, x99_143, x99_146, x99_148, x99_151, x99_152, x99_155, x99_156a, x99_156b, x99_156c, x99_158, x99_159, x99_162, x99_163, x99_165, x99_168, x99_169, x99_172, x99_173, x99_174, x99_176, x99_179, x99_180, x99_182, x99_185, x99_188, x99_191, x99_194, x99_195, x99_196, x99_199, x99_200, x99_203, x99_206, x99_208, x99_209, x99_210, x99_213, x99_216, x99_218, x99_219, x99_220, x99_223, x99_226, mzi, mInc, mne, mlt9, mrk, mI1, mI2, mI3, mI4, mL1, mL2, mL3, mL4, mQ1, mQ2, mQ3, mQ4, mT1, mcat0, mcat1, mcat2, mcat3, mcat4, mrf1, jK_v, jK_n, JA, mz1, if_true, if_false, ite_true, ite_false, eq_self, not_false_eq_true, Nat.zero_le, true_and, and_true, and_self, Nat.reduceMod, Nat.reduceAdd, Nat.reduceLeDiff, Nat.reduceEqDiff, Nat.reduceLT, hw, hbc, d_isDigit, d_isLetter, gL, q3', q2', Bool.false_eq_true]
          · have e1 := hT.2.2.2 c (by omega)
            rw [e1] at hbc
            have l1 : kLet (-1) = false := by decide
            have l2 : kDgt (-1) = false := by decide
            rw [if_neg fun h => q h.1]
            simp only [x99_0, x99_1, x99_2, x99_5a, x99_5b, x99_5c, x99_6, x99_7, x99_8, x99_9a, x99_9b, x99_9c, x99_11, x99_12, x99_13, x99_16, x99_19, x99_20, x99_21, x99_24, x99_27, x99_28, x99_31, x99_35, x99_37, x99_40, x99_43, x99_46, x99_47, x99_50, x99_53, x99_54, x99_56, x99_59, x99_62, x99_65a, x99_65b, x99_65c, x99_68, x99_71, x99_72, x99_75, x99_76, x99_78, x99_79, x99_80, x99_81, x99_83, x99_84, x99_85, x99_86, x99_89, x99_92, x99_94, x99_97, x99_99, x99_102, x99_105, x99_106, x99_107, x99_110, x99_113, x99_114, x99_115, x99_117, x99_118, x99_119, x99_122, x99_125, x99_127, x99_128, x99_129, x99_131, x99_134, x99_135, x99_137, x99_140, x99_141, x99_143, x99_146, x99_148, x99_151, x99_152, x99_155, x99_156a, x99_156b, x99_156c, x99_158, x99_159, x99_162, x99_163, x99_165, x99_168, x99_169, x99_172, x99_173, x99_174, x99_176, x99_179, x99_180, x99_182, x99_185, x99_188, x99_191, x99_194, x99_195, x99_196, x99_199, x99_200, x99_203, x99_206, x99_208, x99_209, x99_210, x99_213, x99_216, x99_218, x99_219, x99_220, x99_223, x99_226, mzi, mInc, mne, mlt9, mrk, mI1, mI2, mI3, mI4, mL1, mL2, mL3, mL4, mQ1, mQ2, mQ3, mQ4, mT1, mcat0, mcat1, mcat2, mcat3, mcat4, mrf1, jK_v, jK_n, JA, mz1, if_true, if_false, ite_true, ite_false, eq_self, not_false_eq_true, Nat.zero_le, true_and, and_true, and_self, Nat.reduceMod, Nat.reduceAdd, Nat.reduceLeDiff, Nat.reduceEqDiff, Nat.reduceLT, hw, hbc, d_isDigit, d_isLetter, gL, l1, l2, Bool.false_eq_true]
      have eLn : kLn b sz a = kSk (fun x => kLet x || kDgt x) b sz (sz - a - 1) (a + 1) - a := by
        unfold kLn
        rw [if_pos gL, hsk _ (by rw [gL]; rfl)]
      obtain ⟨s1, s2⟩ := hskl (fun x => kLet x || kDgt x)
      have hl := loop (sz - a - 1) (a + 1) (by omega) (by omega)
      generalize kSk (fun x => kLet x || kDgt x) b sz (sz - a - 1) (a + 1) = e at *
      have hsub : iN e - iN a = iN (e - a) := iN_sub (by omega)
      have gD : kDgt (b a) = false := by
        unfold kDgt
        unfold kLet at gL
        have h1 := (of_decide_eq_true gL).1
        refine decide_eq_false fun h => ?_
        rw [hb] at h1 h
        have h3 : ¬ v < 97 := fun q => h1 ((iN_lt (b := 97) (by omega) (by omega)).mpr q)
        exact h.2 ((iN_lt (a := 57) (by omega) (by omega)).mpr (by omega))
      have hK : kKd b sz a (e - a) = if e - a ≤ 10 then kFk (kTxt b a (e - a)) 37 0 42 else 40 := by
        unfold kKd
        rw [if_neg (fun h => h g), gD, if_neg Bool.false_ne_true, if_pos gL]
      rw [eLn, hK]
      have hwd := fun d Q => d_word (d := d) (Q := Q) (μ := jsI μ 4761 idx (iN (e - a))) (b := b) (sz := sz) (a := a) (len := e - a) (jWd_c rfl hW) ⟨by rw [mI2 (by decide)]; exact hT.1, hT.2.1, fun i hi => by rw [mI2 (by decide)]; exact hT.2.2.1 i hi, hT.2.2.2⟩ (by omega)
      have hbn1 : ¬ b a = -1 := by rw [hb]; exact hn1
      have n1' := eq_false hbn1
      by_cases g10 : e - a ≤ 10
      · have q10 : ¬ (10 : Int32) < iN (e - a) := fun h => absurd ((iN_lt (a := 10) (by omega) (by omega)).mp h) (by omega)
        rw [if_pos g10, kMd_word (by omega) gL]
        simp only [x99_0, x99_1, x99_2, x99_5a, x99_5b, x99_5c, x99_6, x99_7, x99_8, x99_9a, x99_9b, x99_9c, x99_11, x99_12, x99_13, x99_16, x99_19, x99_20, x99_21, x99_24, x99_27, x99_28, x99_31, x99_35, x99_37, x99_40, x99_43, x99_46, x99_47, x99_50, x99_53, x99_54, x99_56, x99_59, x99_62, x99_65a, x99_65b, x99_65c, x99_68, x99_71, x99_72, x99_75, x99_76, x99_78, x99_79, x99_80, x99_81, x99_83, x99_84, x99_85, x99_86, x99_89, x99_92, x99_94, x99_97, x99_99, x99_102, x99_105, x99_106, x99_107, x99_110, x99_113, x99_114, x99_115, x99_117, x99_118, x99_119, x99_122, x99_125, x99_127, x99_128, x99_129, x99_131, x99_134, x99_135, x99_137, x99_140, x99_141, x99_143, x99_146, x99_148, x99_151, x99_152, x99_155, x99_156a, x99_156b, x99_156c, x99_158, x99_159, x99_162, x99_163, x99_165, x99_168, x99_169, x99_172, x99_173, x99_174, x99_176, x99_179, x99_180, x99_182, x99_185, x99_188, x99_191, x99_194, x99_195, x99_196, x99_199, x99_200, x99_203, x99_206, x99_208, x99_209, x99_210, x99_213, x99_216, x99_218, x99_219, x99_220, x99_223, x99_226, mzi, mInc, mne, mlt9, mrk, mI1, mI2, mI3, mI4, mL1, mL2, mL3, mL4, mQ1, mQ2, mQ3, mQ4, mT1, mcat0, mcat1, mcat2, mcat3, mcat4, mrf1, jK_v, jK_n, JA, mz1, if_true, if_false, ite_true, ite_false, eq_self, not_false_eq_true, Nat.zero_le, true_and, and_true, and_self, Nat.reduceMod, Nat.reduceAdd, Nat.reduceLeDiff, Nat.reduceEqDiff, Nat.reduceLT, hw, bya, n1', d_isLetter, gL, hl, hsub, ic, ij, q10, hwd]
      · have q10 : (10 : Int32) < iN (e - a) := (iN_lt (a := 10) (by omega) (by omega)).mpr (by omega)
        have e901 : iN (kMd 40) = 901 := by decide
        rw [if_neg g10, e901]
        simp only [x99_0, x99_1, x99_2, x99_5a, x99_5b, x99_5c, x99_6, x99_7, x99_8, x99_9a, x99_9b, x99_9c, x99_11, x99_12, x99_13, x99_16, x99_19, x99_20, x99_21, x99_24, x99_27, x99_28, x99_31, x99_35, x99_37, x99_40, x99_43, x99_46, x99_47, x99_50, x99_53, x99_54, x99_56, x99_59, x99_62, x99_65a, x99_65b, x99_65c, x99_68, x99_71, x99_72, x99_75, x99_76, x99_78, x99_79, x99_80, x99_81, x99_83, x99_84, x99_85, x99_86, x99_89, x99_92, x99_94, x99_97, x99_99, x99_102, x99_105, x99_106, x99_107, x99_110, x99_113, x99_114, x99_115, x99_117, x99_118, x99_119, x99_122, x99_125, x99_127, x99_128, x99_129, x99_131, x99_134, x99_135, x99_137, x99_140, x99_141, x99_143, x99_146, x99_148, x99_151, x99_152, x99_155, x99_156a, x99_156b, x99_156c, x99_158, x99_159, x99_162, x99_163, x99_165, x99_168, x99_169, x99_172, x99_173, x99_174, x99_176, x99_179, x99_180, x99_182, x99_185, x99_188, x99_191, x99_194, x99_195, x99_196, x99_199, x99_200, x99_203, x99_206, x99_208, x99_209, x99_210, x99_213, x99_216, x99_218, x99_219, x99_220, x99_223, x99_226, mzi, mInc, mne, mlt9, mrk, mI1, mI2, mI3, mI4, mL1, mL2, mL3, mL4, mQ1, mQ2, mQ3, mQ4, mT1, mcat0, mcat1, mcat2, mcat3, mcat4, mrf1, jK_v, jK_n, JA, mz1, if_true, if_false, ite_true, ite_false, eq_self, not_false_eq_true, Nat.zero_le, true_and, and_true, and_self, Nat.reduceMod, Nat.reduceAdd, Nat.reduceLeDiff, Nat.reduceEqDiff, Nat.reduceLT, hw, bya, n1', d_isLetter, gL, hl, hsub, ic, ij, q10]
    · have gL' := eq_false gL
      have gLb : kLet (b a) = false := by simpa using gL
      have hbn1 : ¬ b a = -1 := by rw [hb]; exact hn1
      have n1' := eq_false hbn1
      by_cases gD : kDgt (b a) = true
      · -- a number
        have loop : ∀ f c, sz ≤ c + f → c + f < 2 ^ 19 → (Ex (d + 6) 99 34 [some (.ref 4490), some (.int (iN a)), some (.int (iN idx)), some (.int (b a)), some (.int (iN c)), none] [] μ Q ↔ Ex (d + 6) 99 71 [some (.ref 4490), some (.int (iN a)), some (.int (iN idx)), some (.int (b a)), some (.int (iN (kSk kDgt b sz f c))), none] [] μ Q) := by
          intro f
          induction f with
          | zero =>
            intro c hc hc2
            have hbc := by_ c (by omega)
            have e1 := hT.2.2.2 c (by omega)
            rw [e1] at hbc
            have l2 : kDgt (-1) = false := by decide
            rw [x99_34]
            simp only [x99_0, x99_1, x99_2, x99_5a, x99_5b, x99_5c, x99_6, x99_7, x99_8, x99_9a, x99_9b, x99_9c, x99_11, x99_12, x99_13, x99_16, x99_19, x99_20, x99_21, x99_24, x99_27, x99_28, x99_31, x99_35, x99_37, x99_40, x99_43, x99_46, x99_47, x99_50, x99_53, x99_54, x99_56, x99_59, x99_62, x99_65a, x99_65b, x99_65c, x99_68, x99_71, x99_72, x99_75, x99_76, x99_78, x99_79, x99_80, x99_81, x99_83, x99_84, x99_85, x99_86, x99_89, x99_92, x99_94, x99_97, x99_99, x99_102, x99_105, x99_106, x99_107, x99_110, x99_113, x99_114, x99_115, x99_117, x99_118, x99_119, x99_122, x99_125, x99_127, x99_128, x99_129, x99_131, x99_134, x99_135, x99_137, x99_140, x99_141, x99_143, x99_146, x99_148, x99_151, x99_152, x99_155, x99_156a, x99_156b, x99_156c, x99_158, x99_159, x99_162, x99_163, x99_165, x99_168, x99_169, x99_172, x99_173, x99_174, x99_176, x99_179, x99_180, x99_182, x99_185, x99_188, x99_191, x99_194, x99_195, x99_196, x99_199, x99_200, x99_203, x99_206, x99_208, x99_209, x99_210, x99_213, x99_216, x99_218, x99_219, x99_220, x99_223, x99_226, mzi, mInc, mne, mlt9, mrk, mI1, mI2, mI3, mI4, mL1, mL2, mL3, mL4, mQ1, mQ2, mQ3, mQ4, mT1, mcat0, mcat1, mcat2, mcat3, mcat4, mrf1, jK_v, jK_n, JA, mz1, if_true, if_false, ite_true, ite_false, eq_self, not_false_eq_true, Nat.zero_le, true_and, and_true, and_self, Nat.reduceMod, Nat.reduceAdd, Nat.reduceLeDiff, Nat.reduceEqDiff, Nat.reduceLT, hw, hbc, d_isDigit, d_isLetter, gL', l2, Bool.false_eq_true]
            rfl
          | succ f ih =>
            intro c hc hc2
            have hbc := by_ c (by omega)
            have hih := ih (c + 1) (by omega) (by omega)
            rw [x99_34]
            unfold kSk
            by_cases q : c < sz
            · by_cases q3 : kDgt (b c) = true
              · rw [if_pos ⟨q, q3⟩]
                simp only [x99_0, x99_1, x99_2, x99_5a, x99_5b, x99_5c, x99_6, x99_7, x99_8, x99_9a, x99_9b, x99_9c, x99_11, x99_12, x99_13, x99_16, x99_19, x99_20, x99_21, x99_24, x99_27, x99_28, x99_31, x99_35, x99_37, x99_40, x99_43, x99_46, x99_47, x99_50, x99_53, x99_54, x99_56, x99_59, x99_62, x99_65a, x99_65b, x99_65c, x99_68, x99_71, x99_72, x99_75, x99_76, x99_78, x99_79, x99_80, x99_81, x99_83, x99_84, x99_85, x99_86, x99_89, x99_92, x99_94, x99_97, x99_99, x99_102, x99_105, x99_106, x99_107, x99_110, x99_113, x99_114, x99_115, x99_117, x99_118, x99_119, x99_122, x99_125, x99_127, x99_128, x99_129, x99_131, x99_134, x99_135, x99_137, x99_140, x99_141, x99_143, x99_146, x99_148, x99_151, x99_152, x99_155, x99_156a, x99_156b, x99_156c, x99_158, x99_159, x99_162, x99_163, x99_165, x99_168, x99_169, x99_172, x99_173, x99_174, x99_176, x99_179, x99_180, x99_182, x99_185, x99_188, x99_191, x99_194, x99_195, x99_196, x99_199, x99_200, x99_203, x99_206, x99_208, x99_209, x99_210, x99_213, x99_216, x99_218, x99_219, x99_220, x99_223, x99_226, mzi, mInc, mne, mlt9, mrk, mI1, mI2, mI3, mI4, mL1, mL2, mL3, mL4, mQ1, mQ2, mQ3, mQ4, mT1, mcat0, mcat1, mcat2, mcat3, mcat4, mrf1, jK_v, jK_n, JA, mz1, if_true, if_false, ite_true, ite_false, eq_self, not_false_eq_true, Nat.zero_le, true_and, and_true, and_self, Nat.reduceMod, Nat.reduceAdd, Nat.reduceLeDiff, Nat.reduceEqDiff, Nat.reduceLT, hw, hbc, d_isDigit, q3, hih]
              · have q3' := eq_false q3
                rw [if_neg fun h => q3 h.2]
                simp only [x99_0, x99_1, x99_2, x99_5a, x99_5b, x99_5c, x99_6, x99_7, x99_8, x99_9a, x99_9b, x99_9c, x99_11, x99_12, x99_13, x99_16, x99_19, x99_20, x99_21, x99_24, x99_27, x99_28, x99_31, x99_35, x99_37, x99_40, x99_43, x99_46, x99_47, x99_50, x99_53, x99_54, x99_56, x99_59, x99_62, x99_65a, x99_65b, x99_65c, x99_68, x99_71, x99_72, x99_75, x99_76, x99_78, x99_79, x99_80, x99_81, x99_83, x99_84, x99_85, x99_86, x99_89, x99_92, x99_94, x99_97, x99_99, x99_102, x99_105, x99_106, x99_107, x99_110, x99_113, x99_114, x99_115, x99_117, x99_118, x99_119, x99_122, x99_125, x99_127, x99_128, x99_129, x99_131, x99_134, x99_135, x99_137, x99_140, x99_141, x99_143, x99_146, x99_148, x99_151, x99_152, x99_155, x99_156a, x99_156b, x99_156c, x99_158, x99_159, x99_162, x99_163, x99_165, x99_168, x99_169, x99_172, x99_173, x99_174, x99_176, x99_179, x99_180, x99_182, x99_185, x99_188, x99_191, x99_194, x99_195, x99_196, x99_199, x99_200, x99_203, x99_206, x99_208, x99_209, x99_210, x99_213, x99_216, x99_218, x99_219, x99_220, x99_223, x99_226, mzi, mInc, mne, mlt9, mrk, mI1, mI2, mI3, mI4, mL1, mL2, mL3, mL4, mQ1, mQ2, mQ3, mQ4, mT1, mcat0, mcat1, mcat2, mcat3, mcat4, mrf1, jK_v, jK_n, JA, mz1, if_true, if_false, ite_true, ite_false, eq_self, not_false_eq_true, Nat.zero_le, true_and, and_true, and_self, Nat.reduceMod, Nat.reduceAdd, Nat.reduceLeDiff, Nat.reduceEqDiff, Nat.reduceLT, hw, hbc, d_isDigit, d_isLetter, gL', q3', Bool.false_eq_true]
            · have e1 := hT.2.2.2 c (by omega)
              rw [e1] at hbc
              have l2 : kDgt (-1) = false := by decide
              rw [if_neg fun h => q h.1]
              simp only [x99_0, x99_1, x99_2, x99_5a, x99_5b, x99_5c, x99_6, x99_7, x99_8, x99_9a, x99_9b, x99_9c, x99_11, x99_12, x99_13, x99_16, x99_19, x99_20, x99_21, x99_24, x99_27, x99_28, x99_31, x99_35, x99_37, x99_40, x99_43, x99_46, x99_47, x99_50, x99_53, x99_54, x99_56, x99_59, x99_62, x99_65a, x99_65b, x99_65c, x99_68, x99_71, x99_72, x99_75, x99_76, x99_78, x99_79, x99_80, x99_81, x99_83, x99_84, x99_85, x99_86, x99_89, x99_92, x99_94, x99_97, x99_99, x99_102, x99_105, x99_106, x99_107, x99_110, x99_113, x99_114, x99_115, x99_117, x99_118, x99_119, x99_122, x99_125, x99_127, x99_128, x99_129, x99_131, x99_134, x99_135, x99_137, x99_140, x99_141, x99_143, x99_146, x99_148, x99_151, x99_152, x99_155, x99_156a, x99_156b, x99_156c, x99_158, x99_159, x99_162, x99_163, x99_165, x99_168, x99_169, x99_172, x99_173, x99_174, x99_176, x99_179, x99_180, x99_182, x99_185, x99_188, x99_191, x99_194, x99_195, x99_196, x99_199, x99_200, x99_203, x99_206, x99_208, x99_209, x99_210, x99_213, x99_216, x99_218, x99_219, x99_220, x99_223, x99_226, mzi, mInc, mne, mlt9, mrk, mI1, mI2, mI3, mI4, mL1, mL2, mL3, mL4, mQ1, mQ2, mQ3, mQ4, mT1, mcat0, mcat1, mcat2, mcat3, mcat4, mrf1, jK_v, jK_n, JA, mz1, if_true, if_false, ite_true, ite_false, eq_self, not_false_eq_true, Nat.zero_le, true_and, and_true, and_self, Nat.reduceMod, Nat.reduceAdd, Nat.reduceLeDiff, Nat.reduceEqDiff, Nat.reduceLT, hw, hbc, d_isDigit, d_isLetter, gL', l2, Bool.false_eq_true]
        have eLn : kLn b sz a = kSk kDgt b sz (sz - a - 1) (a + 1) - a := by
          unfold kLn
          rw [if_neg gL, if_pos gD, hsk _ gD]
        obtain ⟨s1, s2⟩ := hskl kDgt
        have hl := loop (sz - a - 1) (a + 1) (by omega) (by omega)
        generalize kSk kDgt b sz (sz - a - 1) (a + 1) = e at *
        have hsub : iN e - iN a = iN (e - a) := iN_sub (by omega)
        have hK : kKd b sz a (e - a) = if e - a ≤ 6 then 38 else 40 := by
          unfold kKd
          rw [if_neg (fun h => h g), if_pos gD]
        rw [eLn, hK]
        by_cases g6 : e - a ≤ 6
        · have q6 : ¬ (6 : Int32) < iN (e - a) := fun h => absurd ((iN_lt (a := 6) (by omega) (by omega)).mp h) (by omega)
          have e41 : iN (kMd 38) = 41 := by decide
          rw [if_pos g6, e41]
          simp only [x99_0, x99_1, x99_2, x99_5a, x99_5b, x99_5c, x99_6, x99_7, x99_8, x99_9a, x99_9b, x99_9c, x99_11, x99_12, x99_13, x99_16, x99_19, x99_20, x99_21, x99_24, x99_27, x99_28, x99_31, x99_35, x99_37, x99_40, x99_43, x99_46, x99_47, x99_50, x99_53, x99_54, x99_56, x99_59, x99_62, x99_65a, x99_65b, x99_65c, x99_68, x99_71, x99_72, x99_75, x99_76, x99_78, x99_79, x99_80, x99_81, x99_83, x99_84, x99_85, x99_86, x99_89, x99_92, x99_94, x99_97, x99_99, x99_102, x99_105, x99_106, x99_107, x99_110, x99_113, x99_114, x99_115, x99_117, x99_118, x99_119, x99_122, x99_125, x99_127, x99_128, x99_129, x99_131, x99_134, x99_135, x99_137, x99_140, x99_141, x99_143, x99_146, x99_148, x99_151, x99_152, x99_155, x99_156a, x99_156b, x99_156c, x99_158, x99_159, x99_162, x99_163, x99_165, x99_168, x99_169, x99_172, x99_173, x99_174, x99_176, x99_179, x99_180, x99_182, x99_185, x99_188, x99_191, x99_194, x99_195, x99_196, x99_199, x99_200, x99_203, x99_206, x99_208, x99_209, x99_210, x99_213, x99_216, x99_218, x99_219, x99_220, x99_223, x99_226, mzi, mInc, mne, mlt9, mrk, mI1, mI2, mI3, mI4, mL1, mL2, mL3, mL4, mQ1, mQ2, mQ3, mQ4, mT1, mcat0, mcat1, mcat2, mcat3, mcat4, mrf1, jK_v, jK_n, JA, mz1, if_true, if_false, ite_true, ite_false, eq_self, not_false_eq_true, Nat.zero_le, true_and, and_true, and_self, Nat.reduceMod, Nat.reduceAdd, Nat.reduceLeDiff, Nat.reduceEqDiff, Nat.reduceLT, hw, bya, n1', d_isLetter, d_isDigit, gL', gD, hl, hsub, ic, ij, q6, Bool.false_eq_true]
        · have q6 : (6 : Int32) < iN (e - a) := (iN_lt (a := 6) (by omega) (by omega)).mpr (by omega)
          have e901 : iN (kMd 40) = 901 := by decide
          rw [if_neg g6, e901]
          simp only [x99_0, x99_1, x99_2, x99_5a, x99_5b, x99_5c, x99_6, x99_7, x99_8, x99_9a, x99_9b, x99_9c, x99_11, x99_12, x99_13, x99_16, x99_19, x99_20, x99_21, x99_24, x99_27, x99_28, x99_31, x99_35, x99_37, x99_40, x99_43, x99_46, x99_47, x99_50, x99_53, x99_54, x99_56, x99_59, x99_62, x99_65a, x99_65b, x99_65c, x99_68, x99_71, x99_72, x99_75, x99_76, x99_78, x99_79, x99_80, x99_81, x99_83, x99_84, x99_85, x99_86, x99_89, x99_92, x99_94, x99_97, x99_99, x99_102, x99_105, x99_106, x99_107, x99_110, x99_113, x99_114, x99_115, x99_117, x99_118, x99_119, x99_122, x99_125, x99_127, x99_128, x99_129, x99_131, x99_134, x99_135, x99_137, x99_140, x99_141, x99_143, x99_146, x99_148, x99_151, x99_152, x99_155, x99_156a, x99_156b, x99_156c, x99_158, x99_159, x99_162, x99_163, x99_165, x99_168, x99_169, x99_172, x99_173, x99_174, x99_176, x99_179, x99_180, x99_182, x99_185, x99_188, x99_191, x99_194, x99_195, x99_196, x99_199, x99_200, x99_203, x99_206, x99_208, x99_209, x99_210, x99_213, x99_216, x99_218, x99_219, x99_220, x99_223, x99_226, mzi, mInc, mne, mlt9, mrk, mI1, mI2, mI3, mI4, mL1, mL2, mL3, mL4, mQ1, mQ2, mQ3, mQ4, mT1, mcat0, mcat1, mcat2, mcat3, mcat4, mrf1, jK_v, jK_n, JA, mz1, if_true, if_false, ite_true, ite_false, eq_self, not_false_eq_true, Nat.zero_le, true_and, and_true, and_self, Nat.reduceMod, Nat.reduceAdd, Nat.reduceLeDiff, Nat.reduceEqDiff, Nat.reduceLT, hw, bya, n1', d_isLetter, d_isDigit, gL', gD, hl, hsub, ic, ij, q6, Bool.false_eq_true]
      · -- a sign
        have gD' := eq_false gD
        have bya1 := by_ (a + 1) (by omega)
        have hK : ∀ len, kKd b sz a len = kFk (kTxt b a len) 40 0 42 := by
          intro len
          unfold kKd
          rw [if_neg (fun h => h g), if_neg gD, if_neg gL]
        have eLn : kLn b sz a = if (b a = 60 ∨ b a = 62) ∧ b (a + 1) = 61 then 2 else 1 := by
          unfold kLn
          rw [if_neg gL, if_neg gD]
          by_cases q : (b a = 60 ∨ b a = 62) ∧ b (a + 1) = 61
          · rw [if_pos q, if_pos (kLong.mpr q)]
          · rw [if_neg q, if_neg fun h => q (kLong.mp h)]
        have i1 : iN 1 = 1 := rfl
        have i2 : iN 2 = 2 := rfl
        by_cases q : (b a = 60 ∨ b a = 62) ∧ b (a + 1) = 61
        · rw [eLn, if_pos q, hK, kMd_two q.1 q.2]
          have q1' := eq_true q.2
          by_cases e60 : b a = 60
          · have e60' := eq_true e60
            have e300 : iN 300 = 300 := rfl
            rw [if_pos e60]
            simp only [x99_0, x99_1, x99_2, x99_5a, x99_5b, x99_5c, x99_6, x99_7, x99_8, x99_9a, x99_9b, x99_9c, x99_11, x99_12, x99_13, x99_16, x99_19, x99_20, x99_21, x99_24, x99_27, x99_28, x99_31, x99_35, x99_37, x99_40, x99_43, x99_46, x99_47, x99_50, x99_53, x99_54, x99_56, x99_59, x99_62, x99_65a, x99_65b, x99_65c, x99_68, x99_71, x99_72, x99_75, x99_76, x99_78, x99_79, x99_80, x99_81, x99_83, x99_84, x99_85, x99_86, x99_89, x99_92, x99_94, x99_97, x99_99, x99_102, x99_105, x99_106, x99_107, x99_110, x99_113, x99_114, x99_115, x99_117, x99_118, x99_119, x99_122, x99_125, x99_127, x99_128, x99_129, x99_131, x99_134, x99_135, x99_137, x99_140, x99_141, x99_143, x99_146, x99_148, x99_151, x99_152, x99_155, x99_156a, x99_156b, x99_156c, x99_158, x99_159, x99_162, x99_163, x99_165, x99_168, x99_169, x99_172, x99_173, x99_174, x99_176, x99_179, x99_180, x99_182, x99_185, x99_188, x99_191, x99_194, x99_195, x99_196, x99_199, x99_200, x99_203, x99_206, x99_208, x99_209, x99_210, x99_213, x99_216, x99_218, x99_219, x99_220, x99_223, x99_226, mzi, mInc, mne, mlt9, mrk, mI1, mI2, mI3, mI4, mL1, mL2, mL3, mL4, mQ1, mQ2, mQ3, mQ4, mT1, mcat0, mcat1, mcat2, mcat3, mcat4, mrf1, jK_v, jK_n, JA, mz1, if_true, if_false, ite_true, ite_false, eq_self, not_false_eq_true, Nat.zero_le, true_and, and_true, and_self, Nat.reduceMod, Nat.reduceAdd, Nat.reduceLeDiff, Nat.reduceEqDiff, Nat.reduceLT, hw, bya, bya1, n1', d_isLetter, d_isDigit, gL', gD', ic, ij, e60', q1', Bool.false_eq_true, i2, e300]
          · have e62' := eq_true (q.1.elim (fun h => absurd h e60) id)
            have e60' := eq_false e60
            have e301 : iN 301 = 301 := rfl
            rw [if_neg e60]
            simp only [x99_0, x99_1, x99_2, x99_5a, x99_5b, x99_5c, x99_6, x99_7, x99_8, x99_9a, x99_9b, x99_9c, x99_11, x99_12, x99_13, x99_16, x99_19, x99_20, x99_21, x99_24, x99_27, x99_28, x99_31, x99_35, x99_37, x99_40, x99_43, x99_46, x99_47, x99_50, x99_53, x99_54, x99_56, x99_59, x99_62, x99_65a, x99_65b, x99_65c, x99_68, x99_71, x99_72, x99_75, x99_76, x99_78, x99_79, x99_80, x99_81, x99_83, x99_84, x99_85, x99_86, x99_89, x99_92, x99_94, x99_97, x99_99, x99_102, x99_105, x99_106, x99_107, x99_110, x99_113, x99_114, x99_115, x99_117, x99_118, x99_119, x99_122, x99_125, x99_127, x99_128, x99_129, x99_131, x99_134, x99_135, x99_137, x99_140, x99_141, x99_143, x99_146, x99_148, x99_151, x99_152, x99_155, x99_156a, x99_156b, x99_156c, x99_158, x99_159, x99_162, x99_163, x99_165, x99_168, x99_169, x99_172, x99_173, x99_174, x99_176, x99_179, x99_180, x99_182, x99_185, x99_188, x99_191, x99_194, x99_195, x99_196, x99_199, x99_200, x99_203, x99_206, x99_208, x99_209, x99_210, x99_213, x99_216, x99_218, x99_219, x99_220, x99_223, x99_226, mzi, mInc, mne, mlt9, mrk, mI1, mI2, mI3, mI4, mL1, mL2, mL3, mL4, mQ1, mQ2, mQ3, mQ4, mT1, mcat0, mcat1, mcat2, mcat3, mcat4, mrf1, jK_v, jK_n, JA, mz1, if_true, if_false, ite_true, ite_false, eq_self, not_false_eq_true, Nat.zero_le, true_and, and_true, and_self, Nat.reduceMod, Nat.reduceAdd, Nat.reduceLeDiff, Nat.reduceEqDiff, Nat.reduceLT, hw, bya, bya1, n1', d_isLetter, d_isDigit, gL', gD', ic, ij, e60', e62', q1', Bool.false_eq_true, i2, e301]
        · rw [eLn, if_neg q, hK, kMd_one hv hb gLb, ← hb]
          have main : Ex (d + 6) 99 0 [some (.ref 4490), some (.int (iN a)), some (.int (iN idx)), none, none, none] [] μ Q ↔ Ex (d + 6) 99 195 [some (.ref 4490), some (.int (iN a)), some (.int (iN idx)), some (.int (b a)), some (.int (iN (a + 1))), some (.int 0)] [] (jsI μ 4761 idx 1) Q := by
            by_cases e60 : b a = 60
            · have e60' := eq_true e60
              have q1' := eq_false (fun h => q ⟨Or.inl e60, h⟩ : ¬ b (a + 1) = 61)
              simp only [x99_0, x99_1, x99_2, x99_5a, x99_5b, x99_5c, x99_6, x99_7, x99_8, x99_9a, x99_9b, x99_9c, x99_11, x99_12, x99_13, x99_16, x99_19, x99_20, x99_21, x99_24, x99_27, x99_28, x99_31, x99_35, x99_37, x99_40, x99_43, x99_46, x99_47, x99_50, x99_53, x99_54, x99_56, x99_59, x99_62, x99_65a, x99_65b, x99_65c, x99_68, x99_71, x99_72, x99_75, x99_76, x99_78, x99_79, x99_80, x99_81, x99_83, x99_84, x99_85, x99_86, x99_89, x99_92, x99_94, x99_97, x99_99, x99_102, x99_105, x99_106, x99_107, x99_110, x99_113, x99_114, x99_115, x99_117, x99_118, x99_119, x99_122, x99_125, x99_127, x99_128, x99_129, x99_131, x99_134, x99_135, x99_137, x99_140, x99_141, x99_143, x99_146, x99_148, x99_151, x99_152, x99_155, x99_156a, x99_156b, x99_156c, x99_158, x99_159, x99_162, x99_163, x99_165, x99_168, x99_169, x99_172, x99_173, x99_174, x99_176, x99_179, x99_180, x99_182, x99_185, x99_188, x99_191, x99_194, x99_195, x99_196, x99_199, x99_200, x99_203, x99_206, x99_208, x99_209, x99_210, x99_213, x99_216, x99_218, x99_219, x99_220, x99_223, x99_226, mzi, mInc, mne, mlt9, mrk, mI1, mI2, mI3, mI4, mL1, mL2, mL3, mL4, mQ1, mQ2, mQ3, mQ4, mT1, mcat0, mcat1, mcat2, mcat3, mcat4, mrf1, jK_v, jK_n, JA, mz1, if_true, if_false, ite_true, ite_false, eq_self, not_false_eq_true, Nat.zero_le, true_and, and_true, and_self, Nat.reduceMod, Nat.reduceAdd, Nat.reduceLeDiff, Nat.reduceEqDiff, Nat.reduceLT, hw, bya, bya1, n1', d_isLetter, d_isDigit, gL', gD', ic, ij, e60', q1', Bool.false_eq_true]
            · have e60' := eq_false e60
              by_cases e62 : b a = 62
              · have e62' := eq_true e62
                have q1' := eq_false (fun h => q ⟨Or.inr e62, h⟩ : ¬ b (a + 1) = 61)
                simp only [x99_0, x99_1, x99_2, x99_5a, x99_5b, x99_5c, x99_6, x99_7, x99_8, x99_9a, x99_9b, x99_9c, x99_11, x99_12, x99_13, x99_16, x99_19, x99_20, x99_21, x99_24, x99_27, x99_28, x99_31, x99_35, x99_37, x99_40, x99_43, x99_46, x99_47, x99_50, x99_53, x99_54, x99_56, x99_59, x99_62, x99_65a, x99_65b, x99_65c, x99_68, x99_71, x99_72, x99_75, x99_76, x99_78, x99_79, x99_80, x99_81, x99_83, x99_84, x99_85, x99_86, x99_89, x99_92, x99_94, x99_97, x99_99, x99_102, x99_105, x99_106, x99_107, x99_110, x99_113, x99_114, x99_115, x99_117, x99_118, x99_119, x99_122, x99_125, x99_127, x99_128, x99_129, x99_131, x99_134, x99_135, x99_137, x99_140, x99_141, x99_143, x99_146, x99_148, x99_151, x99_152, x99_155, x99_156a, x99_156b, x99_156c, x99_158, x99_159, x99_162, x99_163, x99_165, x99_168, x99_169, x99_172, x99_173, x99_174, x99_176, x99_179, x99_180, x99_182, x99_185, x99_188, x99_191, x99_194, x99_195, x99_196, x99_199, x99_200, x99_203, x99_206, x99_208, x99_209, x99_210, x99_213, x99_216, x99_218, x99_219, x99_220, x99_223, x99_226, mzi, mInc, mne, mlt9, mrk, mI1, mI2, mI3, mI4, mL1, mL2, mL3, mL4, mQ1, mQ2, mQ3, mQ4, mT1, mcat0, mcat1, mcat2, mcat3, mcat4, mrf1, jK_v, jK_n, JA, mz1, if_true, if_false, ite_true, ite_false, eq_self, not_false_eq_true, Nat.zero_le, true_and, and_true, and_self, Nat.reduceMod, Nat.reduceAdd, Nat.reduceLeDiff, Nat.reduceEqDiff, Nat.reduceLT, hw, bya, bya1, n1', d_isLetter, d_isDigit, gL', gD', ic, ij, e60', e62', q1', Bool.false_eq_true]
              · have e62' := eq_false e62
                simp only [x99_0, x99_1, x99_2, x99_5a, x99_5b, x99_5c, x99_6, x99_7, x99_8, x99_9a, x99_9b, x99_9c, x99_11, x99_12, x99_13, x99_16, x99_19, x99_20, x99_21, x99_24, x99_27, x99_28, x99_31, x99_35, x99_37, x99_40, x99_43, x99_46, x99_47, x99_50, x99_53, x99_54, x99_56, x99_59, x99_62, x99_65a, x99_65b, x99_65c, x99_68, x99_71, x99_72, x99_75, x99_76, x99_78, x99_79, x99_80, x99_81, x99_83, x99_84, x99_85, x99_86, x99_89, x99_92, x99_94, x99_97, x99_99, x99_102, x99_105, x99_106, x99_107, x99_110, x99_113, x99_114, x99_115, x99_117, x99_118, x99_119, x99_122, x99_125, x99_127, x99_128, x99_129, x99_131, x99_134, x99_135, x99_137, x99_140, x99_141, x99_143, x99_146, x99_148, x99_151, x99_152, x99_155, x99_156a, x99_156b, x99_156c, x99_158, x99_159, x99_162, x99_163, x99_165, x99_168, x99_169, x99_172, x99_173, x99_174, x99_176, x99_179, x99_180, x99_182, x99_185, x99_188, x99_191, x99_194, x99_195, x99_196, x99_199, x99_200, x99_203, x99_206, x99_208, x99_209, x99_210, x99_213, x99_216, x99_218, x99_219, x99_220, x99_223, x99_226, mzi, mInc, mne, mlt9, mrk, mI1, mI2, mI3, mI4, mL1, mL2, mL3, mL4, mQ1, mQ2, mQ3, mQ4, mT1, mcat0, mcat1, mcat2, mcat3, mcat4, mrf1, jK_v, jK_n, JA, mz1, if_true, if_false, ite_true, ite_false, eq_self, not_false_eq_true, Nat.zero_le, true_and, and_true, and_self, Nat.reduceMod, Nat.reduceAdd, Nat.reduceLeDiff, Nat.reduceEqDiff, Nat.reduceLT, hw, bya, bya1, n1', d_isLetter, d_isDigit, gL', gD', ic, ij, e60', e62', Bool.false_eq_true]
          rw [main, i1]
          by_cases p0 : 0 < b a
          · by_cases p1 : b a < 128
            · have hv128 : v < 128 := by
                rw [hb] at p1
                exact (iN_lt (b := 128) (by omega) (by omega)).mp p1
              have hix := fun d Q => d_indexOf (d := d) (Q := Q) (μ := jsI μ 4761 idx 1) hv128
              have hcc := (i_i2b v hv128).2
              rw [← hb] at hix hcc
              by_cases p2 : jfst (fun i => decide ((jstr 38).getD i 0 = b a)) 0 (13 - 0) < 0
              · rw [if_neg fun h => h.2.2 p2]
                simp only [x99_0, x99_1, x99_2, x99_5a, x99_5b, x99_5c, x99_6, x99_7, x99_8, x99_9a, x99_9b, x99_9c, x99_11, x99_12, x99_13, x99_16, x99_19, x99_20, x99_21, x99_24, x99_27, x99_28, x99_31, x99_35, x99_37, x99_40, x99_43, x99_46, x99_47, x99_50, x99_53, x99_54, x99_56, x99_59, x99_62, x99_65a, x99_65b, x99_65c, x99_68, x99_71, x99_72, x99_75, x99_76, x99_78, x99_79, x99_80, x99_81, x99_83, x99_84, x99_85, x99_86, x99_89, x99_92, x99_94, x99_97, x99_99, x99_102, x99_105, x99_106, x99_107, x99_110, x99_113, x99_114, x99_115, x99_117, x99_118, x99_119, x99_122, x99_125, x99_127, x99_128, x99_129, x99_131, x99_134, x99_135, x99_137, x99_140, x99_141, x99_143, x99_146, x99_148, x99_151, x99_152, x99_155, x99_156a, x99_156b, x99_156c, x99_158, x99_159, x99_162, x99_163, x99_165, x99_168, x99_169, x99_172, x99_173, x99_174, x99_176, x99_179, x99_180, x99_182, x99_185, x99_188, x99_191, x99_194, x99_195, x99_196, x99_199, x99_200, x99_203, x99_206, x99_208, x99_209, x99_210, x99_213, x99_216, x99_218, x99_219, x99_220, x99_223, x99_226, mzi, mInc, mne, mlt9, mrk, mI1, mI2, mI3, mI4, mL1, mL2, mL3, mL4, mQ1, mQ2, mQ3, mQ4, mT1, mcat0, mcat1, mcat2, mcat3, mcat4, mrf1, jK_v, jK_n, JA, mz1, if_true, if_false, ite_true, ite_false, eq_self, not_false_eq_true, Nat.zero_le, true_and, and_true, and_self, Nat.reduceMod, Nat.reduceAdd, Nat.reduceLeDiff, Nat.reduceEqDiff, Nat.reduceLT, p0, p1, hcc, hix, p2]
              · rw [if_pos ⟨p0, p1, p2⟩]
                simp only [x99_0, x99_1, x99_2, x99_5a, x99_5b, x99_5c, x99_6, x99_7, x99_8, x99_9a, x99_9b, x99_9c, x99_11, x99_12, x99_13, x99_16, x99_19, x99_20, x99_21, x99_24, x99_27, x99_28, x99_31, x99_35, x99_37, x99_40, x99_43, x99_46, x99_47, x99_50, x99_53, x99_54, x99_56, x99_59, x99_62, x99_65a, x99_65b, x99_65c, x99_68, x99_71, x99_72, x99_75, x99_76, x99_78, x99_79, x99_80, x99_81, x99_83, x99_84, x99_85, x99_86, x99_89, x99_92, x99_94, x99_97, x99_99, x99_102, x99_105, x99_106, x99_107, x99_110, x99_113, x99_114, x99_115, x99_117, x99_118, x99_119, x99_122, x99_125, x99_127, x99_128, x99_129, x99_131, x99_134, x99_135, x99_137, x99_140, x99_141, x99_143, x99_146, x99_148, x99_151, x99_152, x99_155, x99_156a, x99_156b, x99_156c, x99_158, x99_159, x99_162, x99_163, x99_165, x99_168, x99_169, x99_172, x99_173, x99_174, x99_176, x99_179, x99_180, x99_182, x99_185, x99_188, x99_191, x99_194, x99_195, x99_196, x99_199, x99_200, x99_203, x99_206, x99_208, x99_209, x99_210, x99_213, x99_216, x99_218, x99_219, x99_220, x99_223, x99_226, mzi, mInc, mne, mlt9, mrk, mI1, mI2, mI3, mI4, mL1, mL2, mL3, mL4, mQ1, mQ2, mQ3, mQ4, mT1, mcat0, mcat1, mcat2, mcat3, mcat4, mrf1, jK_v, jK_n, JA, mz1, if_true, if_false, ite_true, ite_false, eq_self, not_false_eq_true, Nat.zero_le, true_and, and_true, and_self, Nat.reduceMod, Nat.reduceAdd, Nat.reduceLeDiff, Nat.reduceEqDiff, Nat.reduceLT, p0, p1, hcc, hix, p2]
            · rw [if_neg fun h => p1 h.2.1]
              simp only [x99_0, x99_1, x99_2, x99_5a, x99_5b, x99_5c, x99_6, x99_7, x99_8, x99_9a, x99_9b, x99_9c, x99_11, x99_12, x99_13, x99_16, x99_19, x99_20, x99_21, x99_24, x99_27, x99_28, x99_31, x99_35, x99_37, x99_40, x99_43, x99_46, x99_47, x99_50, x99_53, x99_54, x99_56, x99_59, x99_62, x99_65a, x99_65b, x99_65c, x99_68, x99_71, x99_72, x99_75, x99_76, x99_78, x99_79, x99_80, x99_81, x99_83, x99_84, x99_85, x99_86, x99_89, x99_92, x99_94, x99_97, x99_99, x99_102, x99_105, x99_106, x99_107, x99_110, x99_113, x99_114, x99_115, x99_117, x99_118, x99_119, x99_122, x99_125, x99_127, x99_128, x99_129, x99_131, x99_134, x99_135, x99_137, x99_140, x99_141, x99_143, x99_146, x99_148, x99_151, x99_152, x99_155, x99_156a, x99_156b, x99_156c, x99_158, x99_159, x99_162, x99_163, x99_165, x99_168, x99_169, x99_172, x99_173, x99_174, x99_176, x99_179, x99_180, x99_182, x99_185, x99_188, x99_191, x99_194, x99_195, x99_196, x99_199, x99_200, x99_203, x99_206, x99_208, x99_209, x99_210, x99_213, x99_216, x99_218, x99_219, x99_220, x99_223, x99_226, mzi, mInc, mne, mlt9, mrk, mI1, mI2, mI3, mI4, mL1, mL2, mL3, mL4, mQ1, mQ2, mQ3, mQ4, mT1, mcat0, mcat1, mcat2, mcat3, mcat4, mrf1, jK_v, jK_n, JA, mz1, if_true, if_false, ite_true, ite_false, eq_self, not_false_eq_true, Nat.zero_le, true_and, and_true, and_self, Nat.reduceMod, Nat.reduceAdd, Nat.reduceLeDiff, Nat.reduceEqDiff, Nat.reduceLT, p0, p1]
          · rw [if_neg fun h => p0 h.1]
            simp only [x99_0, x99_1, x99_2, x99_5a, x99_5b, x99_5c, x99_6, x99_7, x99_8, x99_9a, x99_9b, x99_9c, x99_11, x99_12, x99_13, x99_16, x99_19, x99_20, x99_21, x99_24, x99_27, x99_28, x99_31, x99_35, x99_37, x99_40, x99_43, x99_46, x99_47, x99_50, x99_53, x99_54, x99_56, x99_59, x99_62, x99_65a, x99_65b, x99_65c, x99_68, x99_71, x99_72, x99_75, x99_76, x99_78, x99_79, x99_80, x99_81, x99_83, x99_84, x99_85, x99_86, x99_89, x99_92, x99_94, x99_97, x99_99, x99_102, x99_105, x99_106, x99_107, x99_110, x99_113, x99_114, x99_115, x99_117, x99_118, x99_119, x99_122, x99_125, x99_127, x99_128, x99_129, x99_131, x99_134, x99_135, x99_137, x99_140, x99_141, x99_143, x99_146, x99_148, x99_151, x99_152, x99_155, x99_156a, x99_156b, x99_156c, x99_158, x99_159, x99_162, x99_163, x99_165, x99_168, x99_169, x99_172, x99_173, x99_174, x99_176, x99_179, x99_180, x99_182, x99_185, x99_188, x99_191, x99_194, x99_195, x99_196, x99_199, x99_200, x99_203, x99_206, x99_208, x99_209, x99_210, x99_213, x99_216, x99_218, x99_219, x99_220, x99_223, x99_226, mzi, mInc, mne, mlt9, mrk, mI1, mI2, mI3, mI4, mL1, mL2, mL3, mL4, mQ1, mQ2, mQ3, mQ4, mT1, mcat0, mcat1, mcat2, mcat3, mcat4, mrf1, jK_v, jK_n, JA, mz1, if_true, if_false, ite_true, ite_false, eq_self, not_false_eq_true, Nat.zero_le, true_and, and_true, and_self, Nat.reduceMod, Nat.reduceAdd, Nat.reduceLeDiff, Nat.reduceEqDiff, Nat.reduceLT, p0]
  · have e1 := hT.2.2.2 a (by omega)
    rw [e1] at bya
    rw [if_neg g]
    have hK : kKd b sz a (kLn b sz a) = 39 := by
      unfold kKd
      rw [if_pos g]
    have e900 : iN (kMd 39) = 900 := by decide
    rw [hK, e900]
    simp only [x99_0, x99_1, x99_2, x99_5a, x99_5b, x99_5c, x99_6, x99_7, x99_8, x99_9a, x99_9b, x99_9c, x99_11, x99_12, x99_13, x99_16, x99_19, x99_20, x99_21, x99_24, x99_27, x99_28, x99_31, x99_35, x99_37, x99_40, x99_43, x99_46, x99_47, x99_50, x99_53, x99_54, x99_56, x99_59, x99_62, x99_65a, x99_65b, x99_65c, x99_68, x99_71, x99_72, x99_75, x99_76, x99_78, x99_79, x99_80, x99_81, x99_83, x99_84, x99_85, x99_86, x99_89, x99_92, x99_94, x99_97, x99_99, x99_102, x99_105, x99_106, x99_107, x99_110, x99_113, x99_114, x99_115, x99_117, x99_118, x99_119, x99_122, x99_125, x99_127, x99_128, x99_129, x99_131, x99_134, x99_135, x99_137, x99_140, x99_141, x99_143, x99_146, x99_148, x99_151, x99_152, x99_155, x99_156a, x99_156b, x99_156c, x99_158, x99_159, x99_162, x99_163, x99_165, x99_168, x99_169, x99_172, x99_173, x99_174, x99_176, x99_179, x99_180, x99_182, x99_185, x99_188, x99_191, x99_194, x99_195, x99_196, x99_199, x99_200, x99_203, x99_206, x99_208, x99_209, x99_210, x99_213, x99_216, x99_218, x99_219, x99_220, x99_223, x99_226, mzi, mInc, mne, mlt9, mrk, mI1, mI2, mI3, mI4, mL1, mL2, mL3, mL4, mQ1, mQ2, mQ3, mQ4, mT1, mcat0, mcat1, mcat2, mcat3, mcat4, mrf1, jK_v, jK_n, JA, mz1, if_true, if_false, ite_true, ite_false, eq_self, not_false_eq_true, Nat.zero_le, true_and, and_true, and_self, Nat.reduceMod, Nat.reduceAdd, Nat.reduceLeDiff, Nat.reduceEqDiff, Nat.reduceLT, hw, bya]
end KND
