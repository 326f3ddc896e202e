/-! THE PURE PART: ticks (class), 1. -/
theorem jhas01 {x n m : Int32} : jhas x n m = 1 ∨ jhas x n m = 0 := by
  unfold jhas
  repeat' split
  all_goals first | exact Or.inl rfl | exact Or.inr rfl
theorem jhas_1 {x : Int32} {n : Nat} (h : ¬ jhas x (iN n) 10 = 0) (h10 : n ≤ 10) : x = iN x.toNatClampNeg ∧ x.toNatClampNeg < n := by
  unfold jhas at h
  by_cases h0 : x < 0
  · rw [if_pos h0] at h
    exact absurd rfl h
  · obtain ⟨k, hk, rfl⟩ := iN_pos h0
    rw [if_neg h0] at h
    by_cases h1 : iN k < iN n
    · rw [iN_cl hk]
      exact ⟨rfl, (iN_lt hk (by omega)).mp h1⟩
    · rw [if_neg h1] at h
      exact absurd rfl h
section C11
variable {d : Nat} {μ : jM} {Q : jO → jM → Prop} {n m t L w mk : Nat} {K : Nat → Nat}
/-- the memory when a way was looked for -/
def kLkMn (μ : jM) (m n t L : Nat) (K : Nat → Nat) (a b : Nat) : jM := jsR (kShMn μ n L K) 3400 (kLook (jI μ 2064) (jI μ 2128) (jI μ 2256) t (jI μ 1872 a) (jI μ 1872 b) (kFreen μ n m) (kOpenn μ n t L K) (jI μ 3400))
def kConnn (μ : jM) (l j : Nat) : jM := jsI (jsI (jsI (jsI (jsI (jsI (jsI μ 2640 l 3) 2640 j 4) 2704 l (iN j)) 2704 j (iN l)) 3024 l (jI μ 3400 5)) 3088 l (jI μ 3400 6)) 3152 l (jI μ 3400 4)
/-- a line that waits is served -/
def kServen (μ : jM) (m n t L : Nat) (K : Nat → Nat) (l : Nat) (c : Int32) : Int32 × jM :=
  if jhas c (iN n) 10 = 0 then (0, jsI μ 2640 l 6) else
  if jI μ 2640 c.toNatClampNeg = 0 then
    if jI (kLkMn μ m n t L K l c.toNatClampNeg) 3400 4 = -1 then (0, jsI (kLkMn μ m n t L K l c.toNatClampNeg) 2640 l 7)
    else (1, kConnn (kLkMn μ m n t L K l c.toNatClampNeg) l c.toNatClampNeg)
  else (0, jsI μ 2640 l 6)
def kRingn (μ : jM) (n l : Nat) : jM :=
  if jI μ 2640 l = 5 then jsI (jsI μ 3280 l (jI μ 3280 l + 1)) 2960 l (jI μ 2960 l + (jI μ 3152 l + 1)) else
  if jI μ 3216 l + 1 < 12 then jsI μ 3216 l (jI μ 3216 l + 1) else
  if jhas (jI μ 2704 l) (iN n) 10 = 0 then jsI μ 3216 l (jI μ 3216 l + 1) else
  kDiscn (jsI (jsI (jsI μ 3216 l (jI μ 3216 l + 1)) 2640 l 7) 2640 (jI μ 2704 l).toNatClampNeg 0) l (jI μ 2704 l).toNatClampNeg
/-- one that waits is handled -/
def kMarkn (m n t L : Nat) (K : Nat → Nat) (w : Nat) (a : Int32 × jM) : Int32 × jM :=
  if jhas (jI a.2 3344 0) (iN n) 10 = 0 then (a.1 + 0, kLvn a.2 w 0) else
  (a.1 + (kServen (kLvn a.2 w 0) m n t L K (jI a.2 3344 0).toNatClampNeg (jI a.2 2896 (jI a.2 3344 0).toNatClampNeg)).1, (kServen (kLvn a.2 w 0) m n t L K (jI a.2 3344 0).toNatClampNeg (jI a.2 2896 (jI a.2 3344 0).toNatClampNeg)).2)
def kMarksn (μ : jM) (m n t L : Nat) (K : Nat → Nat) (w mk : Nat) : Int32 × jM := jfold (fun k a => kMarkn m n t L K (w - k) a) 0 (min mk w) (0, μ)
def kRingsn (μ : jM) (n : Nat) : jM := jfold (fun k μ => if jI μ 3024 k = 0 then μ else kRingn μ n k) 0 n μ
/-- a tick -/
def kGon (μ : jM) (m n t L : Nat) (K : Nat → Nat) (w mk : Nat) : jM := jsI (kRingsn (kMarksn μ m n t L K w mk).2 n) 2567 2 (jI (kRingsn (kMarksn μ m n t L K w mk).2 n) 2567 2 + 1)
/-- what these leave alone -/
def jSmn (μ μ' : jM) : Prop := jQ μ' = jQ μ ∧ jL μ' = jL μ ∧ jA μ' = jA μ ∧ jX μ' = jX μ ∧ (∀ a, ¬ a = 2308 → ¬ a = 2520 → (a < 2567 ∨ 3400 < a) → jI μ' a = jI μ a) ∧ jI μ' 2308 3 = jI μ 2308 3
theorem jSmn_r : jSmn μ μ := ⟨rfl, rfl, rfl, rfl, fun _ _ _ _ => rfl, rfl⟩
theorem jSmn_t {μ1 μ2 : jM} (h : jSmn μ μ1) (h2 : jSmn μ1 μ2) : jSmn μ μ2 := by
  obtain ⟨a1, a2, a3, a4, a5, a6⟩ := h
  obtain ⟨b1, b2, b3, b4, b5, b6⟩ := h2
  exact ⟨b1.trans a1, b2.trans a2, b3.trans a3, b4.trans a4, fun a h1 h2 h3 => (b5 a h1 h2 h3).trans (a5 a h1 h2 h3), b6.trans a6⟩
theorem jSmn_I {a k : Nat} {v : Int32} (h1 : 2567 ≤ a) (h2 : a ≤ 3400) : jSmn μ (jsI μ a k v) :=
  ⟨rfl, rfl, rfl, rfl, fun b _ _ h => mI2 (by omega), by rw [mI2 (by omega)]⟩
theorem jSmn_R {a : Nat} {g : Nat → Int32} (h1 : 2567 ≤ a) (h2 : a ≤ 3400) : jSmn μ (jsR μ a g) :=
  ⟨rfl, rfl, rfl, rfl, fun b _ _ h => mR2 (by omega), by rw [mR2 (by omega)]⟩
theorem jSmn_h : jSmn μ (kShMn μ n L K) := by
  refine ⟨rfl, rfl, rfl, rfl, fun a h1 h2 h => ?_, ?_⟩
  · unfold kShMn
    rw [mR2 h2, mI2 h1]
  · unfold kShMn
    rw [mR2 (by decide), mI1, if_neg (by decide)]
theorem jPln {μ' : jM} (h : jSmn μ μ') (hP : jPl μ m n t L K) : jPl μ' m n t L K := by
  obtain ⟨a1, a2, a3, a4, a5, a6⟩ := h
  exact jPl_c a1 (a5 1731 (by decide) (by decide) (by decide)) a6 (a5 2456 (by decide) (by decide) (by decide)) hP
theorem jSmn_d {l j : Nat} : jSmn μ (kDiscn μ l j) := by
  unfold kDiscn kFwn
  repeat' refine jSmn_t ?_ (jSmn_I (by decide) (by decide))
  exact jSmn_r
theorem jSmn_s {l : Nat} {c : Int32} : jSmn μ (kServen μ m n t L K l c).2 := by
  unfold kServen kConnn kLkMn
  split
  · exact jSmn_I (by decide) (by decide)
  · split
    · split
      · exact jSmn_t (jSmn_t jSmn_h (jSmn_R (by decide) (by decide))) (jSmn_I (by decide) (by decide))
      · repeat' refine jSmn_t ?_ (jSmn_I (by decide) (by decide))
        exact jSmn_t jSmn_h (jSmn_R (by decide) (by decide))
    · exact jSmn_I (by decide) (by decide)
theorem jSmn_l {q : Nat} : jSmn μ (kLvn μ w q) := jSmn_t (jSmn_I (by decide) (by decide)) (jSmn_R (by decide) (by decide))
theorem jSmn_g {l : Nat} : jSmn μ (kRingn μ n l) := by
  unfold kRingn
  split
  · exact jSmn_t (jSmn_I (by decide) (by decide)) (jSmn_I (by decide) (by decide))
  · split
    · exact jSmn_I (by decide) (by decide)
    · split
      · exact jSmn_I (by decide) (by decide)
      · exact jSmn_t (jSmn_t (jSmn_t (jSmn_I (by decide) (by decide)) (jSmn_I (by decide) (by decide))) (jSmn_I (by decide) (by decide))) jSmn_d
theorem jSmn_m {a : Int32 × jM} : jSmn a.2 (kMarkn m n t L K w a).2 := by
  unfold kMarkn
  split
  · exact jSmn_l
  · exact jSmn_t jSmn_l jSmn_s
/-- serving leaves the exchange's own fields -/
theorem kServe_xn {l : Nat} {c : Int32} : jI (kServen μ m n t L K l c).2 2567 = jI μ 2567 := by
  have hl : ∀ a b, jI (kLkMn μ m n t L K a b) 2567 = jI μ 2567 := by
    intro a b
    unfold kLkMn kShMn
    rw [mR2 (by decide), mR2 (by decide), mI2 (by decide)]
  unfold kServen kConnn
  split
  · exact mI2 (by decide)
  · split
    · split
      · rw [mI2 (by decide)]
        exact hl _ _
      · simp only [mI2, Nat.reduceEqDiff, not_false_eq_true, hl]
    · exact mI2 (by decide)
theorem c_serven {l : Nat} {c : Int32} (hP : jPl μ m n t L K) (hl : l < n) : Ex (d + 11) 259 0 [some (.ref 2567), some (.int (iN l)), some (.int c)] [] μ Q ↔ Q (.inl (some (.int (kServen μ m n t L K l c).1))) (kServen μ m n t L K l c).2 := by
  have hP' := hP
  obtain ⟨hW, hm, h6, hn, h10, ht, ht10, hL, hL4, hK, hok, h14, h16⟩ := hP
  have hw := hW
  unfold jWd at hw
  have lc : (iN l).toNatClampNeg = l := iN_cl (by omega)
  have lj : jin (iN l) 10 = true := iN_in (by omega) (by omega)
  unfold kServen
  by_cases g0 : jhas c (iN n) 10 = 0
  · simp only [x259_0, x259_1, x259_2, x259_5, x259_8, x259_9, x259_12, x259_13, x259_15, x259_16, x259_17, x259_18, x259_19, x259_20, x259_21, x259_24, x259_25, x259_28, x259_31, x259_32, x259_35, x259_36, x259_39, x259_40, x259_42, x259_43, x259_44, x259_45, x259_46, x259_49, x259_50, x259_51, x259_52, x259_53, x259_56, x259_57, x259_58, x259_59, x259_60, x259_63, x259_64, x259_65, x259_66, x259_67, x259_70, x259_71, x259_72, x259_73, x259_74, x259_77, x259_78, x259_79, x259_82, x259_85, x259_86, x259_87, x259_90, x259_91, x259_92, x259_95, x259_98, x259_99, x259_100, x259_103, x259_104, x259_105, x259_108, x259_111, x259_112, x259_113, x202_0, x202_1, x202_4, x202_5, x202_8, x202_11, x202_12, x202_15, x202_16, x202_17, x202_20, x202_21, x202_24, x202_25, mzi, mInc, mne, mlt9, mrk, mI1, mI2, mI3, mI4, mL1, mL2, mL3, mL4, mQ1, mQ2, mQ3, mQ4, mT1, mcat0, mcat1, mcat2, mcat3, mcat4, mrf1, jK_v, jK_n, JA, mz1, if_true, if_false, ite_true, ite_false, eq_self, not_false_eq_true, Nat.zero_le, true_and, and_true, and_self, Nat.reduceMod, Nat.reduceAdd, Nat.reduceLeDiff, Nat.reduceEqDiff, Nat.reduceLT, hw, hn, c_hasLine (x := 1731) rfl, g0, lc, lj]
  · obtain ⟨e, hc⟩ := jhas_1 g0 h10
    generalize c.toNatClampNeg = j at e hc ⊢
    subst e
    have hh : jhas (iN j) (iN n) 10 = 1 := jhas_in (m := 10) hc h10 (by decide)
    have jc : (iN j).toNatClampNeg = j := iN_cl (by omega)
    have jj : jin (iN j) 10 = true := iN_in (by omega) (by omega)
    by_cases g1 : jI μ 2640 j = 0
    · have hlk : ∀ (d : Nat) (Q : jO → jM → Prop), Ex (d + 10) 221 0 [some (.ref 2567), some (.int (iN l)), some (.int (iN j))] [] μ Q ↔ Q (.inl none) (kLkMn μ m n t L K l j) := fun d Q => c_lookWn hP' hl hc
      have hQ : jQ (kLkMn μ m n t L K l j) = jQ μ := rfl
      by_cases g2 : jI (kLkMn μ m n t L K l j) 3400 4 = -1
      all_goals simp only [x259_0, x259_1, x259_2, x259_5, x259_8, x259_9, x259_12, x259_13, x259_15, x259_16, x259_17, x259_18, x259_19, x259_20, x259_21, x259_24, x259_25, x259_28, x259_31, x259_32, x259_35, x259_36, x259_39, x259_40, x259_42, x259_43, x259_44, x259_45, x259_46, x259_49, x259_50, x259_51, x259_52, x259_53, x259_56, x259_57, x259_58, x259_59, x259_60, x259_63, x259_64, x259_65, x259_66, x259_67, x259_70, x259_71, x259_72, x259_73, x259_74, x259_77, x259_78, x259_79, x259_82, x259_85, x259_86, x259_87, x259_90, x259_91, x259_92, x259_95, x259_98, x259_99, x259_100, x259_103, x259_104, x259_105, x259_108, x259_111, x259_112, x259_113, x202_0, x202_1, x202_4, x202_5, x202_8, x202_11, x202_12, x202_15, x202_16, x202_17, x202_20, x202_21, x202_24, x202_25, mzi, mInc, mne, mlt9, mrk, mI1, mI2, mI3, mI4, mL1, mL2, mL3, mL4, mQ1, mQ2, mQ3, mQ4, mT1, mcat0, mcat1, mcat2, mcat3, mcat4, mrf1, jK_v, jK_n, JA, mz1, if_true, if_false, ite_true, ite_false, eq_self, not_false_eq_true, Nat.zero_le, true_and, and_true, and_self, Nat.reduceMod, Nat.reduceAdd, Nat.reduceLeDiff, Nat.reduceEqDiff, Nat.reduceLT, hw, hn, c_hasLine (x := 1731) rfl, g0, hh, lc, lj, jc, jj, g1, hlk, hQ, g2, kConnn]
    · simp only [x259_0, x259_1, x259_2, x259_5, x259_8, x259_9, x259_12, x259_13, x259_15, x259_16, x259_17, x259_18, x259_19, x259_20, x259_21, x259_24, x259_25, x259_28, x259_31, x259_32, x259_35, x259_36, x259_39, x259_40, x259_42, x259_43, x259_44, x259_45, x259_46, x259_49, x259_50, x259_51, x259_52, x259_53, x259_56, x259_57, x259_58, x259_59, x259_60, x259_63, x259_64, x259_65, x259_66, x259_67, x259_70, x259_71, x259_72, x259_73, x259_74, x259_77, x259_78, x259_79, x259_82, x259_85, x259_86, x259_87, x259_90, x259_91, x259_92, x259_95, x259_98, x259_99, x259_100, x259_103, x259_104, x259_105, x259_108, x259_111, x259_112, x259_113, x202_0, x202_1, x202_4, x202_5, x202_8, x202_11, x202_12, x202_15, x202_16, x202_17, x202_20, x202_21, x202_24, x202_25, mzi, mInc, mne, mlt9, mrk, mI1, mI2, mI3, mI4, mL1, mL2, mL3, mL4, mQ1, mQ2, mQ3, mQ4, mT1, mcat0, mcat1, mcat2, mcat3, mcat4, mrf1, jK_v, jK_n, JA, mz1, if_true, if_false, ite_true, ite_false, eq_self, not_false_eq_true, Nat.zero_le, true_and, and_true, and_self, Nat.reduceMod, Nat.reduceAdd, Nat.reduceLeDiff, Nat.reduceEqDiff, Nat.reduceLT, hw, hn, c_hasLine (x := 1731) rfl, g0, hh, lc, lj, jc, jj, g1]
theorem c_ringn {l : Nat} (hW : jWd μ) (hn : jI μ 1731 1 = iN n) (h10 : n ≤ 10) (hl : l < n) : Ex (d + 2) 260 0 [some (.ref 2567), some (.int (iN l)), none] [] μ Q ↔ Q (.inl none) (kRingn μ n l) := by
  have hw := hW
  unfold jWd at hw
  have lc : (iN l).toNatClampNeg = l := iN_cl (by omega)
  have lj : jin (iN l) 10 = true := iN_in (by omega) (by omega)
  unfold kRingn
  by_cases g1 : jI μ 2640 l = 5
  · simp only [x260_0, x260_1, x260_4, x260_5, x260_6a, x260_6b, x260_6c, x260_7, x260_8, x260_11, x260_12, x260_13, x260_14, x260_17, x260_18, x260_21, x260_22a, x260_22b, x260_23, x260_24, x260_25, x260_26, x260_27, x260_28, x260_31, x260_32a, x260_32b, x260_33, x260_34, x260_35, x260_38, x260_39, x260_40, x260_41, x260_42, x260_43, x260_44, x260_45, x260_46, x260_49, x260_50a, x260_50b, x260_51, x260_52, x260_53, x260_54, x260_55, x260_56, x260_59, x260_60, x260_61, x260_63, x260_66, x260_67, x260_70, x260_71, x260_74, x260_77, x260_78, x260_81, x260_82, x260_84, x260_85, x260_86, x260_89, x260_90, x260_91, x260_92, x260_93, x260_94, x260_95, x260_98, x171_0, x171_1, x171_4, x171_5, x171_6, x171_7, x171_8, x171_11, x171_12, x171_13, x171_14, x171_15, x171_16, x171_19, x171_20, x171_21, x171_24, x93_0, x93_1, x93_4, x93_5, x93_6, x93_7, x93_8, x93_11, x93_12, x93_13, x93_14, x93_15, x93_18, x93_19, x93_20, x93_21, x93_22, x93_25, x93_26, x93_27, x93_28, x93_29, x93_32, x93_33, x93_34, x93_35, mzi, mInc, mne, mlt9, mrk, mI1, mI2, mI3, mI4, mL1, mL2, mL3, mL4, mQ1, mQ2, mQ3, mQ4, mT1, mcat0, mcat1, mcat2, mcat3, mcat4, mrf1, jK_v, jK_n, JA, mz1, if_true, if_false, ite_true, ite_false, eq_self, not_false_eq_true, Nat.zero_le, true_and, and_true, and_self, Nat.reduceMod, Nat.reduceAdd, Nat.reduceLeDiff, Nat.reduceEqDiff, Nat.reduceLT, hw, lc, lj, g1]
  · by_cases g2 : jI μ 3216 l + 1 < 12
    · simp only [x260_0, x260_1, x260_4, x260_5, x260_6a, x260_6b, x260_6c, x260_7, x260_8, x260_11, x260_12, x260_13, x260_14, x260_17, x260_18, x260_21, x260_22a, x260_22b, x260_23, x260_24, x260_25, x260_26, x260_27, x260_28, x260_31, x260_32a, x260_32b, x260_33, x260_34, x260_35, x260_38, x260_39, x260_40, x260_41, x260_42, x260_43, x260_44, x260_45, x260_46, x260_49, x260_50a, x260_50b, x260_51, x260_52, x260_53, x260_54, x260_55, x260_56, x260_59, x260_60, x260_61, x260_63, x260_66, x260_67, x260_70, x260_71, x260_74, x260_77, x260_78, x260_81, x260_82, x260_84, x260_85, x260_86, x260_89, x260_90, x260_91, x260_92, x260_93, x260_94, x260_95, x260_98, x171_0, x171_1, x171_4, x171_5, x171_6, x171_7, x171_8, x171_11, x171_12, x171_13, x171_14, x171_15, x171_16, x171_19, x171_20, x171_21, x171_24, x93_0, x93_1, x93_4, x93_5, x93_6, x93_7, x93_8, x93_11, x93_12, x93_13, x93_14, x93_15, x93_18, x93_19, x93_20, x93_21, x93_22, x93_25, x93_26, x93_27, x93_28, x93_29, x93_32, x93_33, x93_34, x93_35, mzi, mInc, mne, mlt9, mrk, mI1, mI2, mI3, mI4, mL1, mL2, mL3, mL4, mQ1, mQ2, mQ3, mQ4, mT1, mcat0, mcat1, mcat2, mcat3, mcat4, mrf1, jK_v, jK_n, JA, mz1, if_true, if_false, ite_true, ite_false, eq_self, not_false_eq_true, Nat.zero_le, true_and, and_true, and_self, Nat.reduceMod, Nat.reduceAdd, Nat.reduceLeDiff, Nat.reduceEqDiff, Nat.reduceLT, hw, lc, lj, g1, g2]
    · by_cases g0 : jhas (jI μ 2704 l) (iN n) 10 = 0
      · simp only [x260_0, x260_1, x260_4, x260_5, x260_6a, x260_6b, x260_6c, x260_7, x260_8, x260_11, x260_12, x260_13, x260_14, x260_17, x260_18, x260_21, x260_22a, x260_22b, x260_23, x260_24, x260_25, x260_26, x260_27, x260_28, x260_31, x260_32a, x260_32b, x260_33, x260_34, x260_35, x260_38, x260_39, x260_40, x260_41, x260_42, x260_43, x260_44, x260_45, x260_46, x260_49, x260_50a, x260_50b, x260_51, x260_52, x260_53, x260_54, x260_55, x260_56, x260_59, x260_60, x260_61, x260_63, x260_66, x260_67, x260_70, x260_71, x260_74, x260_77, x260_78, x260_81, x260_82, x260_84, x260_85, x260_86, x260_89, x260_90, x260_91, x260_92, x260_93, x260_94, x260_95, x260_98, x171_0, x171_1, x171_4, x171_5, x171_6, x171_7, x171_8, x171_11, x171_12, x171_13, x171_14, x171_15, x171_16, x171_19, x171_20, x171_21, x171_24, x93_0, x93_1, x93_4, x93_5, x93_6, x93_7, x93_8, x93_11, x93_12, x93_13, x93_14, x93_15, x93_18, x93_19, x93_20, x93_21, x93_22, x93_25, x93_26, x93_27, x93_28, x93_29, x93_32, x93_33, x93_34, x93_35, mzi, mInc, mne, mlt9, mrk, mI1, mI2, mI3, mI4, mL1, mL2, mL3, mL4, mQ1, mQ2, mQ3, mQ4, mT1, mcat0, mcat1, mcat2, mcat3, mcat4, mrf1, jK_v, jK_n, JA, mz1, if_true, if_false, ite_true, ite_false, eq_self, not_false_eq_true, Nat.zero_le, true_and, and_true, and_self, Nat.reduceMod, Nat.reduceAdd, Nat.reduceLeDiff, Nat.reduceEqDiff, Nat.reduceLT, hw, hn, c_hasLine (x := 1731) rfl, lc, lj, g1, g2, g0]
      · obtain ⟨e, hc⟩ := jhas_1 g0 h10
        generalize (jI μ 2704 l).toNatClampNeg = j at e hc ⊢
        have hh : jhas (iN j) (iN n) 10 = 1 := jhas_in (m := 10) hc h10 (by decide)
        have jc : (iN j).toNatClampNeg = j := iN_cl (by omega)
        have jj : jin (iN j) 10 = true := iN_in (by omega) (by omega)
        simp only [x260_0, x260_1, x260_4, x260_5, x260_6a, x260_6b, x260_6c, x260_7, x260_8, x260_11, x260_12, x260_13, x260_14, x260_17, x260_18, x260_21, x260_22a, x260_22b, x260_23, x260_24, x260_25, x260_26, x260_27, x260_28, x260_31, x260_32a, x260_32b, x260_33, x260_34, x260_35, x260_38, x260_39, x260_40, x260_41, x260_42, x260_43, x260_44, x260_45, x260_46, x260_49, x260_50a, x260_50b, x260_51, x260_52, x260_53, x260_54, x260_55, x260_56, x260_59, x260_60, x260_61, x260_63, x260_66, x260_67, x260_70, x260_71, x260_74, x260_77, x260_78, x260_81, x260_82, x260_84, x260_85, x260_86, x260_89, x260_90, x260_91, x260_92, x260_93, x260_94, x260_95, x260_98, x171_0, x171_1, x171_4, x171_5, x171_6, x171_7, x171_8, x171_11, x171_12, x171_13, x171_14, x171_15, x171_16, x171_19, x171_20, x171_21, x171_24, x93_0, x93_1, x93_4, x93_5, x93_6, x93_7, x93_8, x93_11, x93_12, x93_13, x93_14, x93_15, x93_18, x93_19, x93_20, x93_21, x93_22, x93_25, x93_26, x93_27, x93_28, x93_29, x93_32, x93_33, x93_34, x93_35, mzi, mInc, mne, mlt9, mrk, mI1, mI2, mI3, mI4, mL1, mL2, mL3, mL4, mQ1, mQ2, mQ3, mQ4, mT1, mcat0, mcat1, mcat2, mcat3, mcat4, mrf1, jK_v, jK_n, JA, mz1, if_true, if_false, ite_true, ite_false, eq_self, not_false_eq_true, Nat.zero_le, true_and, and_true, and_self, Nat.reduceMod, Nat.reduceAdd, Nat.reduceLeDiff, Nat.reduceEqDiff, Nat.reduceLT, hw, hn, c_hasLine (x := 1731) rfl, lc, lj, g1, g2, e, hh, jc, jj, kDiscn, kFwn]
/-- the memory when a way was looked for -/
def kLkMa (μ : jM) (m n t L : Nat) (K : Nat → Nat) (a b : Nat) : jM := jsR (kShMa μ n L K) 4296 (kLook (jI μ 2064) (jI μ 2128) (jI μ 2256) t (jI μ 1872 a) (jI μ 1872 b) (kFreea μ n m) (kOpena μ n t L K) (jI μ 4296))
def kConna (μ : jM) (l j : Nat) : jM := jsI (jsI (jsI (jsI (jsI (jsI (jsI μ 3536 l 3) 3536 j 4) 3600 l (iN j)) 3600 j (iN l)) 3920 l (jI μ 4296 5)) 3984 l (jI μ 4296 6)) 4048 l (jI μ 4296 4)
/-- a line that waits is served -/
def kServea (μ : jM) (m n t L : Nat) (K : Nat → Nat) (l : Nat) (c : Int32) : Int32 × jM :=
  if jhas c (iN n) 10 = 0 then (0, jsI μ 3536 l 6) else
  if jI μ 3536 c.toNatClampNeg = 0 then
    if jI (kLkMa μ m n t L K l c.toNatClampNeg) 4296 4 = -1 then (0, jsI (kLkMa μ m n t L K l c.toNatClampNeg) 3536 l 7)
    else (1, kConna (kLkMa μ m n t L K l c.toNatClampNeg) l c.toNatClampNeg)
  else (0, jsI μ 3536 l 6)
def kRinga (μ : jM) (n l : Nat) : jM :=
  if jI μ 3536 l = 5 then jsI (jsI μ 4176 l (jI μ 4176 l + 1)) 3856 l (jI μ 3856 l + (jI μ 4048 l + 1)) else
  if jI μ 4112 l + 1 < 12 then jsI μ 4112 l (jI μ 4112 l + 1) else
  if jhas (jI μ 3600 l) (iN n) 10 = 0 then jsI μ 4112 l (jI μ 4112 l + 1) else
  kDisca (jsI (jsI (jsI μ 4112 l (jI μ 4112 l + 1)) 3536 l 7) 3536 (jI μ 3600 l).toNatClampNeg 0) l (jI μ 3600 l).toNatClampNeg
/-- one that waits is handled -/
def kMarka (m n t L : Nat) (K : Nat → Nat) (w : Nat) (a : Int32 × jM) : Int32 × jM :=
  if jhas (jI a.2 4240 0) (iN n) 10 = 0 then (a.1 + 0, kLva a.2 w 0) else
  (a.1 + (kServea (kLva a.2 w 0) m n t L K (jI a.2 4240 0).toNatClampNeg (jI a.2 3792 (jI a.2 4240 0).toNatClampNeg)).1, (kServea (kLva a.2 w 0) m n t L K (jI a.2 4240 0).toNatClampNeg (jI a.2 3792 (jI a.2 4240 0).toNatClampNeg)).2)
def kMarksa (μ : jM) (m n t L : Nat) (K : Nat → Nat) (w mk : Nat) : Int32 × jM := jfold (fun k a => kMarka m n t L K (w - k) a) 0 (min mk w) (0, μ)
def kRingsa (μ : jM) (n : Nat) : jM := jfold (fun k μ => if jI μ 3920 k = 0 then μ else kRinga μ n k) 0 n μ
/-- a tick -/
def kGoa (μ : jM) (m n t L : Nat) (K : Nat → Nat) (w mk : Nat) : jM := jsI (kRingsa (kMarksa μ m n t L K w mk).2 n) 3463 2 (jI (kRingsa (kMarksa μ m n t L K w mk).2 n) 3463 2 + 1)
/-- what these leave alone -/
def jSma (μ μ' : jM) : Prop := jQ μ' = jQ μ ∧ jL μ' = jL μ ∧ jA μ' = jA μ ∧ jX μ' = jX μ ∧ (∀ a, ¬ a = 2308 → ¬ a = 2520 → (a < 3463 ∨ 4296 < a) → jI μ' a = jI μ a) ∧ jI μ' 2308 3 = jI μ 2308 3
theorem jSma_r : jSma μ μ := ⟨rfl, rfl, rfl, rfl, fun _ _ _ _ => rfl, rfl⟩
theorem jSma_t {μ1 μ2 : jM} (h : jSma μ μ1) (h2 : jSma μ1 μ2) : jSma μ μ2 := by
  obtain ⟨a1, a2, a3, a4, a5, a6⟩ := h
  obtain ⟨b1, b2, b3, b4, b5, b6⟩ := h2
  exact ⟨b1.trans a1, b2.trans a2, b3.trans a3, b4.trans a4, fun a h1 h2 h3 => (b5 a h1 h2 h3).trans (a5 a h1 h2 h3), b6.trans a6⟩
theorem jSma_I {a k : Nat} {v : Int32} (h1 : 3463 ≤ a) (h2 : a ≤ 4296) : jSma μ (jsI μ a k v) :=
  ⟨rfl, rfl, rfl, rfl, fun b _ _ h => mI2 (by omega), by rw [mI2 (by omega)]⟩
theorem jSma_R {a : Nat} {g : Nat → Int32} (h1 : 3463 ≤ a) (h2 : a ≤ 4296) : jSma μ (jsR μ a g) :=
  ⟨rfl, rfl, rfl, rfl, fun b _ _ h => mR2 (by omega), by rw [mR2 (by omega)]⟩
theorem jSma_h : jSma μ (kShMa μ n L K) := by
  refine ⟨rfl, rfl, rfl, rfl, fun a h1 h2 h => ?_, ?_⟩
  · unfold kShMa
    rw [mR2 h2, mI2 h1]
  · unfold kShMa
    rw [mR2 (by decide), mI1, if_neg (by decide)]
theorem jPla {μ' : jM} (h : jSma μ μ') (hP : jPl μ m n t L K) : jPl μ' m n t L K := by
  obtain ⟨a1, a2, a3, a4, a5, a6⟩ := h
  exact jPl_c a1 (a5 1731 (by decide) (by decide) (by decide)) a6 (a5 2456 (by decide) (by decide) (by decide)) hP
theorem jSma_d {l j : Nat} : jSma μ (kDisca μ l j) := by
  unfold kDisca kFwa
  repeat' refine jSma_t ?_ (jSma_I (by decide) (by decide))
  exact jSma_r
theorem jSma_s {l : Nat} {c : Int32} : jSma μ (kServea μ m n t L K l c).2 := by
  unfold kServea kConna kLkMa
  split
  · exact jSma_I (by decide) (by decide)
  · split
    · split
      · exact jSma_t (jSma_t jSma_h (jSma_R (by decide) (by decide))) (jSma_I (by decide) (by decide))
      · repeat' refine jSma_t ?_ (jSma_I (by decide) (by decide))
        exact jSma_t jSma_h (jSma_R (by decide) (by decide))
    · exact jSma_I (by decide) (by decide)
theorem jSma_l {q : Nat} : jSma μ (kLva μ w q) := jSma_t (jSma_I (by decide) (by decide)) (jSma_R (by decide) (by decide))
theorem jSma_g {l : Nat} : jSma μ (kRinga μ n l) := by
  unfold kRinga
  split
  · exact jSma_t (jSma_I (by decide) (by decide)) (jSma_I (by decide) (by decide))
  · split
    · exact jSma_I (by decide) (by decide)
    · split
      · exact jSma_I (by decide) (by decide)
      · exact jSma_t (jSma_t (jSma_t (jSma_I (by decide) (by decide)) (jSma_I (by decide) (by decide))) (jSma_I (by decide) (by decide))) jSma_d
theorem jSma_m {a : Int32 × jM} : jSma a.2 (kMarka m n t L K w a).2 := by
  unfold kMarka
  split
  · exact jSma_l
  · exact jSma_t jSma_l jSma_s
/-- serving leaves the exchange's own fields -/
theorem kServe_xa {l : Nat} {c : Int32} : jI (kServea μ m n t L K l c).2 3463 = jI μ 3463 := by
  have hl : ∀ a b, jI (kLkMa μ m n t L K a b) 3463 = jI μ 3463 := by
    intro a b
    unfold kLkMa kShMa
    rw [mR2 (by decide), mR2 (by decide), mI2 (by decide)]
  unfold kServea kConna
  split
  · exact mI2 (by decide)
  · split
    · split
      · rw [mI2 (by decide)]
        exact hl _ _
      · simp only [mI2, Nat.reduceEqDiff, not_false_eq_true, hl]
    · exact mI2 (by decide)
theorem c_servea {l : Nat} {c : Int32} (hP : jPl μ m n t L K) (hl : l < n) : Ex (d + 11) 259 0 [some (.ref 3463), some (.int (iN l)), some (.int c)] [] μ Q ↔ Q (.inl (some (.int (kServea μ m n t L K l c).1))) (kServea μ m n t L K l c).2 := by
  have hP' := hP
  obtain ⟨hW, hm, h6, hn, h10, ht, ht10, hL, hL4, hK, hok, h14, h16⟩ := hP
  have hw := hW
  unfold jWd at hw
  have lc : (iN l).toNatClampNeg = l := iN_cl (by omega)
  have lj : jin (iN l) 10 = true := iN_in (by omega) (by omega)
  unfold kServea
  by_cases g0 : jhas c (iN n) 10 = 0
  · simp only [x259_0, x259_1, x259_2, x259_5, x259_8, x259_9, x259_12, x259_13, x259_15, x259_16, x259_17, x259_18, x259_19, x259_20, x259_21, x259_24, x259_25, x259_28, x259_31, x259_32, x259_35, x259_36, x259_39, x259_40, x259_42, x259_43, x259_44, x259_45, x259_46, x259_49, x259_50, x259_51, x259_52, x259_53, x259_56, x259_57, x259_58, x259_59, x259_60, x259_63, x259_64, x259_65, x259_66, x259_67, x259_70, x259_71, x259_72, x259_73, x259_74, x259_77, x259_78, x259_79, x259_82, x259_85, x259_86, x259_87, x259_90, x259_91, x259_92, x259_95, x259_98, x259_99, x259_100, x259_103, x259_104, x259_105, x259_108, x259_111, x259_112, x259_113, x202_0, x202_1, x202_4, x202_5, x202_8, x202_11, x202_12, x202_15, x202_16, x202_17, x202_20, x202_21, x202_24, x202_25, mzi, mInc, mne, mlt9, mrk, mI1, mI2, mI3, mI4, mL1, mL2, mL3, mL4, mQ1, mQ2, mQ3, mQ4, mT1, mcat0, mcat1, mcat2, mcat3, mcat4, mrf1, jK_v, jK_n, JA, mz1, if_true, if_false, ite_true, ite_false, eq_self, not_false_eq_true, Nat.zero_le, true_and, and_true, and_self, Nat.reduceMod, Nat.reduceAdd, Nat.reduceLeDiff, Nat.reduceEqDiff, Nat.reduceLT, hw, hn, c_hasLine (x := 1731) rfl, g0, lc, lj]
  · obtain ⟨e, hc⟩ := jhas_1 g0 h10
    generalize c.toNatClampNeg = j at e hc ⊢
    subst e
    have hh : jhas (iN j) (iN n) 10 = 1 := jhas_in (m := 10) hc h10 (by decide)
    have jc : (iN j).toNatClampNeg = j := iN_cl (by omega)
    have jj : jin (iN j) 10 = true := iN_in (by omega) (by omega)
    by_cases g1 : jI μ 3536 j = 0
    · have hlk : ∀ (d : Nat) (Q : jO → jM → Prop), Ex (d + 10) 221 0 [some (.ref 3463), some (.int (iN l)), some (.int (iN j))] [] μ Q ↔ Q (.inl none) (kLkMa μ m n t L K l j) := fun d Q => c_lookWa hP' hl hc
      have hQ : jQ (kLkMa μ m n t L K l j) = jQ μ := rfl
      by_cases g2 : jI (kLkMa μ m n t L K l j) 4296 4 = -1
      all_goals simp only [x259_0, x259_1, x259_2, x259_5, x259_8, x259_9, x259_12, x259_13, x259_15, x259_16, x259_17, x259_18, x259_19, x259_20, x259_21, x259_24, x259_25, x259_28, x259_31, x259_32, x259_35, x259_36, x259_39, x259_40, x259_42, x259_43, x259_44, x259_45, x259_46, x259_49, x259_50, x259_51, x259_52, x259_53, x259_56, x259_57, x259_58, x259_59, x259_60, x259_63, x259_64, x259_65, x259_66, x259_67, x259_70, x259_71, x259_72, x259_73, x259_74, x259_77, x259_78, x259_79, x259_82, x259_85, x259_86, x259_87, x259_90, x259_91, x259_92, x259_95, x259_98, x259_99, x259_100, x259_103, x259_104, x259_105, x259_108, x259_111, x259_112, x259_113, x202_0, x202_1, x202_4, x202_5, x202_8, x202_11, x202_12, x202_15, x202_16, x202_17, x202_20, x202_21, x202_24, x202_25, mzi, mInc, mne, mlt9, mrk, mI1, mI2, mI3, mI4, mL1, mL2, mL3, mL4, mQ1, mQ2, mQ3, mQ4, mT1, mcat0, mcat1, mcat2, mcat3, mcat4, mrf1, jK_v, jK_n, JA, mz1, if_true, if_false, ite_true, ite_false, eq_self, not_false_eq_true, Nat.zero_le, true_and, and_true, and_self, Nat.reduceMod, Nat.reduceAdd, Nat.reduceLeDiff, Nat.reduceEqDiff, Nat.reduceLT, hw, hn, c_hasLine (x := 1731) rfl, g0, hh, lc, lj, jc, jj, g1, hlk, hQ, g2, kConna]
    · simp only [x259_0, x259_1, x259_2, x259_5, x259_8, x259_9, x259_12, x259_13, x259_15, x259_16, x259_17, x259_18, x259_19, x259_20, x259_21, x259_24, x259_25, x259_28, x259_31, x259_32, x259_35, x259_36, x259_39, x259_40, x259_42, x259_43, x259_44, x259_45, x259_46, x259_49, x259_50, x259_51, x259_52, x259_53, x259_56, x259_57, x259_58, x259_59, x259_60, x259_63, x259_64, x259_65, x259_66, x259_67, x259_70, x259_71, x259_72, x259_73, x259_74, x259_77, x259_78, x259_79, x259_82, x259_85, x259_86, x259_87, x259_90, x259_91, x259_92, x259_95, x259_98, x259_99, x259_100, x259_103, x259_104, x259_105, x259_108, x259_111, x259_112, x259_113, x202_0, x202_1, x202_4, x202_5, x202_8, x202_11, x202_12, x202_15, x202_16, x202_17, x202_20, x202_21, x202_24, x202_25, mzi, mInc, mne, mlt9, mrk, mI1, mI2, mI3, mI4, mL1, mL2, mL3, mL4, mQ1, mQ2, mQ3, mQ4, mT1, mcat0, mcat1, mcat2, mcat3, mcat4, mrf1, jK_v, jK_n, JA, mz1, if_true, if_false, ite_true, ite_false, eq_self, not_false_eq_true, Nat.zero_le, true_and, and_true, and_self, Nat.reduceMod, Nat.reduceAdd, Nat.reduceLeDiff, Nat.reduceEqDiff, Nat.reduceLT, hw, hn, c_hasLine (x := 1731) rfl, g0, hh, lc, lj, jc, jj, g1]
theorem c_ringa {l : Nat} (hW : jWd μ) (hn : jI μ 1731 1 = iN n) (h10 : n ≤ 10) (hl : l < n) : Ex (d + 2) 260 0 [some (.ref 3463), some (.int (iN l)), none] [] μ Q ↔ Q (.inl none) (kRinga μ n l) := by
  have hw := hW
  unfold jWd at hw
  have lc : (iN l).toNatClampNeg = l := iN_cl (by omega)
  have lj : jin (iN l) 10 = true := iN_in (by omega) (by omega)
  unfold kRinga
  by_cases g1 : jI μ 3536 l = 5
  · simp only [x260_0, x260_1, x260_4, x260_5, x260_6a, x260_6b, x260_6c, x260_7, x260_8, x260_11, x260_12, x260_13, x260_14, x260_17, x260_18, x260_21, x260_22a, x260_22b, x260_23, x260_24, x260_25, x260_26, x260_27, x260_28, x260_31, x260_32a, x260_32b, x260_33, x260_34, x260_35, x260_38, x260_39, x260_40, x260_41, x260_42, x260_43, x260_44, x260_45, x260_46, x260_49, x260_50a, x260_50b, x260_51, x260_52, x260_53, x260_54, x260_55, x260_56, x260_59, x260_60, x260_61, x260_63, x260_66, x260_67, x260_70, x260_71, x260_74, x260_77, x260_78, x260_81, x260_82, x260_84, x260_85, x260_86, x260_89, x260_90, x260_91, x260_92, x260_93, x260_94, x260_95, x260_98, x171_0, x171_1, x171_4, x171_5, x171_6, x171_7, x171_8, x171_11, x171_12, x171_13, x171_14, x171_15, x171_16, x171_19, x171_20, x171_21, x171_24, x93_0, x93_1, x93_4, x93_5, x93_6, x93_7, x93_8, x93_11, x93_12, x93_13, x93_14, x93_15, x93_18, x93_19, x93_20, x93_21, x93_22, x93_25, x93_26, x93_27, x93_28, x93_29, x93_32, x93_33, x93_34, x93_35, mzi, mInc, mne, mlt9, mrk, mI1, mI2, mI3, mI4, mL1, mL2, mL3, mL4, mQ1, mQ2, mQ3, mQ4, mT1, mcat0, mcat1, mcat2, mcat3, mcat4, mrf1, jK_v, jK_n, JA, mz1, if_true, if_false, ite_true, ite_false, eq_self, not_false_eq_true, Nat.zero_le, true_and, and_true, and_self, Nat.reduceMod, Nat.reduceAdd, Nat.reduceLeDiff, Nat.reduceEqDiff, Nat.reduceLT, hw, lc, lj, g1]
  · by_cases g2 : jI μ 4112 l + 1 < 12
    · simp only [x260_0, x260_1, x260_4, x260_5, x260_6a, x260_6b, x260_6c, x260_7, x260_8, x260_11, x260_12, x260_13, x260_14, x260_17, x260_18, x260_21, x260_22a, x260_22b, x260_23, x260_24, x260_25, x260_26, x260_27, x260_28, x260_31, x260_32a, x260_32b, x260_33, x260_34, x260_35, x260_38, x260_39, x260_40, x260_41, x260_42, x260_43, x260_44, x260_45, x260_46, x260_49, x260_50a, x260_50b, x260_51, x260_52, x260_53, x260_54, x260_55, x260_56, x260_59, x260_60, x260_61, x260_63, x260_66, x260_67, x260_70, x260_71, x260_74, x260_77, x260_78, x260_81, x260_82, x260_84, x260_85, x260_86, x260_89, x260_90, x260_91, x260_92, x260_93, x260_94, x260_95, x260_98, x171_0, x171_1, x171_4, x171_5, x171_6, x171_7, x171_8, x171_11, x171_12, x171_13, x171_14, x171_15, x171_16, x171_19, x171_20, x171_21, x171_24, x93_0, x93_1, x93_4, x93_5, x93_6, x93_7, x93_8, x93_11, x93_12, x93_13, x93_14, x93_15, x93_18, x93_19, x93_20, x93_21, x93_22, x93_25, x93_26, x93_27, x93_28, x93_29, x93_32, x93_33, x93_34, x93_35, mzi, mInc, mne, mlt9, mrk, mI1, mI2, mI3, mI4, mL1, mL2, mL3, mL4, mQ1, mQ2, mQ3, mQ4, mT1, mcat0, mcat1, mcat2, mcat3, mcat4, mrf1, jK_v, jK_n, JA, mz1, if_true, if_false, ite_true, ite_false, eq_self, not_false_eq_true, Nat.zero_le, true_and, and_true, and_self, Nat.reduceMod, Nat.reduceAdd, Nat.reduceLeDiff, Nat.reduceEqDiff, Nat.reduceLT, hw, lc, lj, g1, g2]
    · by_cases g0 : jhas (jI μ 3600 l) (iN n) 10 = 0
      · simp only [x260_0, x260_1, x260_4, x260_5, x260_6a, x260_6b, x260_6c, x260_7, x260_8, x260_11, x260_12, x260_13, x260_14, x260_17, x260_18, x260_21, x260_22a, x260_22b, x260_23, x260_24, x260_25, x260_26, x260_27, x260_28, x260_31, x260_32a, x260_32b, x260_33, x260_34, x260_35, x260_38, x260_39, x260_40, x260_41, x260_42, x260_43, x260_44, x260_45, x260_46, x260_49, x260_50a, x260_50b, x260_51, x260_52, x260_53, x260_54, x260_55, x260_56, x260_59, x260_60, x260_61, x260_63, x260_66, x260_67, x260_70, x260_71, x260_74, x260_77, x260_78, x260_81, x260_82, x260_84, x260_85, x260_86, x260_89, x260_90, x260_91, x260_92, x260_93, x260_94, x260_95, x260_98, x171_0, x171_1, x171_4, x171_5, x171_6, x171_7, x171_8, x171_11, x171_12, x171_13, x171_14, x171_15, x171_16, x171_19, x171_20, x171_21, x171_24, x93_0, x93_1, x93_4, x93_5, x93_6, x93_7, x93_8, x93_11, x93_12, x93_13, x93_14, x93_15, x93_18, x93_19, x93_20, x93_21, x93_22, x93_25, x93_26, x93_27, x93_28, x93_29, x93_32, x93_33, x93_34, x93_35, mzi, mInc, mne, mlt9, mrk, mI1, mI2, mI3, mI4, mL1, mL2, mL3, mL4, mQ1, mQ2, mQ3, mQ4, mT1, mcat0, mcat1, mcat2, mcat3, mcat4, mrf1, jK_v, jK_n, JA, mz1, if_true, if_false, ite_true, ite_false, eq_self, not_false_eq_true, Nat.zero_le, true_and, and_true, and_self, Nat.reduceMod, Nat.reduceAdd, Nat.reduceLeDiff, Nat.reduceEqDiff, Nat.reduceLT, hw, hn, c_hasLine (x := 1731) rfl, lc, lj, g1, g2, g0]
      · obtain ⟨e, hc⟩ := jhas_1 g0 h10
        generalize (jI μ 3600 l).toNatClampNeg = j at e hc ⊢
        have hh : jhas (iN j) (iN n) 10 = 1 := jhas_in (m := 10) hc h10 (by decide)
        have jc : (iN j).toNatClampNeg = j := iN_cl (by omega)
        have jj : jin (iN j) 10 = true := iN_in (by omega) (by omega)
        simp only [x260_0, x260_1, x260_4, x260_5, x260_6a, x260_6b, x260_6c, x260_7, x260_8, x260_11, x260_12, x260_13, x260_14, x260_17, x260_18, x260_21, x260_22a, x260_22b, x260_23, x260_24, x260_25, x260_26, x260_27, x260_28, x260_31, x260_32a, x260_32b, x260_33, x260_34, x260_35, x260_38, x260_39, x260_40, x260_41, x260_42, x260_43, x260_44, x260_45, x260_46, x260_49, x260_50a, x260_50b, x260_51, x260_52, x260_53, x260_54, x260_55, x260_56, x260_59, x260_60, x260_61, x260_63, x260_66, x260_67, x260_70, x260_71, x260_74, x260_77, x260_78, x260_81, x260_82, x260_84, x260_85, x260_86, x260_89, x260_90, x260_91, x260_92, x260_93, x260_94, x260_95, x260_98, x171_0, x171_1, x171_4, x171_5, x171_6, x171_7, x171_8, x171_11, x171_12, x171_13, x171_14, x171_15, x171_16, x171_19, x171_20, x171_21, x171_24, x93_0, x93_1, x93_4, x93_5, x93_6, x93_7, x93_8, x93_11, x93_12, x93_13, x93_14, x93_15, x93_18, x93_19, x93_20, x93_21, x93_22, x93_25, x93_26, x93_27, x93_28, x93_29, x93_32, x93_33, x93_34, x93_35, mzi, mInc, mne, mlt9, mrk, mI1, mI2, mI3, mI4, mL1, mL2, mL3, mL4, mQ1, mQ2, mQ3, mQ4, mT1, mcat0, mcat1, mcat2, mcat3, mcat4, mrf1, jK_v, jK_n, JA, mz1, if_true, if_false, ite_true, ite_false, eq_self, not_false_eq_true, Nat.zero_le, true_and, and_true, and_self, Nat.reduceMod, Nat.reduceAdd, Nat.reduceLeDiff, Nat.reduceEqDiff, Nat.reduceLT, hw, hn, c_hasLine (x := 1731) rfl, lc, lj, g1, g2, e, hh, jc, jj, kDisca, kFwa]
end C11
