/-! THE PURE PART: by hand (class). -/
/-- a number or -1 -/
def jox : Option Nat → Int32
  | some q => iN q
  | none => -1
theorem jcpy {f g : Nat → Int32} {n : Nat} : va_cpy f g 0 0 n = fun j => if j < n then f j else g j := by
  funext j
  by_cases h : j < n
  · rw [pk_cpy_in (by omega) (by omega), if_pos h]
    congr 1
    omega
  · rw [pk_cpy_out (by omega), if_neg h]
theorem c_copy {d : Nat} {μ : jM} {Q : jO → jM → Prop} {a b n : Nat} (ha : jty a = 0) (hb : jty b = 0) (ma : jmade a = true) (mb : jmade b = true) (la : jln a μ = n) (lb : jln b μ = n) (hn : n < 2 ^ 31) : Ex d 89 0 [some (.ref a), some (.ref b)] [] μ Q ↔ Q (.inl none) (jsR μ b (fun j => if j < n then jI μ a j else jI μ b j)) := by
  have h9 : jty a < 9 := by omega
  have h9' : jty b < 9 := by omega
  have hir : ¬ iN n < iN n := iN_irr hn
  have h0 : (0 : Int32).toNatClampNeg = 0 := by decide
  have hnn : ¬ iN n < 0 := iN_nn hn
  have hc : (iN n).toNatClampNeg = n := iN_cl hn
  have hcopy : jcopy 11 [some (.ref a), some (.ref b)] [.int (iN n), .int 0, .ref b, .int 0, .ref a] μ = jN 14 [some (.ref a), some (.ref b)] [] (jsR μ b (va_cpy (jI μ a) (jI μ b) (0 : Int32).toNatClampNeg (0 : Int32).toNatClampNeg (iN n).toNatClampNeg)) := by
    unfold jcopy
    simp only [ma, mb, ha, hb, la, lb, hc, h0, Nat.beq_refl, Nat.zero_add, Nat.ble_self_eq_true, decide_eq_false hnn, decide_eq_false (show ¬ (0 : Int32) < 0 by decide), Bool.not_false, Bool.true_and, jcat, List.map_nil, List.sum_nil, cond]
  have hir2 : (if iN n < iN n then iN n else iN n) = iN n := if_neg hir
  simp only [x89_0, x89_1, x89_2, x89_3, x89_4, x89_5, x89_6, x89_7, x89_8, x89_11, x89_14, mzi, mInc, mne, mlt9, mrk, mI1, mI2, mI3, mI4, mL1, mL2, mL3, mL4, mQ1, mQ2, mQ3, mQ4, mT1, mcat0, mcat1, mcat2, mcat3, mcat4, mrf1, jK_v, jK_n, JA, mz1, if_true, if_false, ite_true, ite_false, eq_self, not_false_eq_true, Nat.zero_le, true_and, and_true, and_self, Nat.reduceMod, Nat.reduceAdd, Nat.reduceLeDiff, Nat.reduceEqDiff, Nat.reduceLT, la, lb, ha, hb, h9, h9', hir2, hir, hcopy, hc, h0, jcpy]
section C9
variable {d : Nat} {μ : jM} {Q : jO → jM → Prop} {n m t L w : Nat} {K : Nat → Nat}
/-- no way at l -/
def kFwn (μ : jM) (l : Nat) : jM := jsI (jsI (jsI (jsI (jsI μ 3024 l 0) 3088 l 0) 3152 l 0) 3216 l 0) 3280 l 0
def kDiscn (μ : jM) (a b : Nat) : jM := kFwn (kFwn (jsI (jsI μ 2704 a (-1)) 2704 b (-1)) a) b
def kFdn (μ : jM) (l : Nat) : jM := jsI (jsI (jsI μ 2768 l 0) 2832 l 0) 2896 l (-1)
/-- out of the queue -/
def kLvn (μ : jM) (w q : Nat) : jM := jsR (jsI μ 2567 16 (iN (w - 1))) 3344 (fun j => if q ≤ j ∧ j < w - 1 then jI μ 3344 (j + 1) else jI μ 3344 j)
def kHgn (μ : jM) (l w : Nat) (p o : Option Nat) : jM :=
  let μ1 := match p with
    | some q => kLvn μ w q
    | none => μ
  let μ2 := match o with
    | some j => kDiscn (jsI μ1 2640 j (if jI μ 2640 j = 4 then 0 else 7)) l j
    | none => μ1
  kFdn (jsI μ2 2640 l 0) l
theorem c_lift0n {l : Nat} (hW : jWd μ) (hl : l < 10) (h0 : jI μ 2640 l = 0) : Ex (d + 1) 154 0 [some (.ref 2567), some (.int (iN l)), none] [] μ Q ↔ Q (.inl (some (.int 1))) (jsI μ 2640 l 1) := by
  have hw := hW
  unfold jWd at hw
  have lc : (iN l).toNatClampNeg = l := iN_cl (by omega)
  have lj : jin (iN l) 10 = true := iN_in (by omega) (by omega)
  simp only [x154_0, x154_1, x154_4, x154_5, x154_6a, x154_6b, x154_6c, x154_7, x154_8, x154_11, x154_12, x154_13, x154_16, x154_17, x154_20, x154_21, x154_22, x154_23, x154_26, x154_27, x154_30, x154_31, x154_34, x154_37, x154_38, x154_41, x154_42, x154_43, x154_44, x154_45, x154_48, x154_49, x154_50, x154_51, x154_52, x154_55, x154_56, x154_57, mzi, mInc, mne, mlt9, mrk, mI1, mI2, mI3, mI4, mL1, mL2, mL3, mL4, mQ1, mQ2, mQ3, mQ4, mT1, mcat0, mcat1, mcat2, mcat3, mcat4, mrf1, jK_v, jK_n, JA, mz1, if_true, if_false, ite_true, ite_false, eq_self, not_false_eq_true, Nat.zero_le, true_and, and_true, and_self, Nat.reduceMod, Nat.reduceAdd, Nat.reduceLeDiff, Nat.reduceEqDiff, Nat.reduceLT, hw, lc, lj, h0]
theorem c_lift1n {l j : Nat} (hW : jWd μ) (hn : jI μ 1731 1 = iN n) (h10 : n ≤ 10) (hl : l < 10) (h0 : ¬ jI μ 2640 l = 0) (hj : j < n) (ho : jI μ 2704 l = iN j) (hlj : ¬ l = j) : Ex (d + 1) 154 0 [some (.ref 2567), some (.int (iN l)), none] [] μ Q ↔ Q (.inl (some (.int 5))) (jsI (jsI μ 2640 l 5) 2640 j 5) := by
  have hw := hW
  unfold jWd at hw
  have lc : (iN l).toNatClampNeg = l := iN_cl (by omega)
  have lj : jin (iN l) 10 = true := iN_in (by omega) (by omega)
  have jc : (iN j).toNatClampNeg = j := iN_cl (by omega)
  have jj : jin (iN j) 10 = true := iN_in (by omega) (by omega)
  have hh : jhas (iN j) (iN n) 10 = 1 := jhas_in (m := 10) hj h10 (by decide)
  simp only [x154_0, x154_1, x154_4, x154_5, x154_6a, x154_6b, x154_6c, x154_7, x154_8, x154_11, x154_12, x154_13, x154_16, x154_17, x154_20, x154_21, x154_22, x154_23, x154_26, x154_27, x154_30, x154_31, x154_34, x154_37, x154_38, x154_41, x154_42, x154_43, x154_44, x154_45, x154_48, x154_49, x154_50, x154_51, x154_52, x154_55, x154_56, x154_57, mzi, mInc, mne, mlt9, mrk, mI1, mI2, mI3, mI4, mL1, mL2, mL3, mL4, mQ1, mQ2, mQ3, mQ4, mT1, mcat0, mcat1, mcat2, mcat3, mcat4, mrf1, jK_v, jK_n, JA, mz1, if_true, if_false, ite_true, ite_false, eq_self, not_false_eq_true, Nat.zero_le, true_and, and_true, and_self, Nat.reduceMod, Nat.reduceAdd, Nat.reduceLeDiff, Nat.reduceEqDiff, Nat.reduceLT, hw, lc, lj, h0, ho, c_hasLine (x := 1731) rfl, hn, hh, jc, jj, hlj]
theorem c_hangn {l : Nat} {p o : Option Nat} (hW : jWd μ) (hn : jI μ 1731 1 = iN n) (h10 : n ≤ 10) (hw1 : jI μ 2567 16 = iN w) (hw2 : w ≤ 10) (hl : l < 10) (hp : jfst (fun k => decide (jI μ 3344 k = iN l)) 0 (w - 0) = jox p) (hp2 : ∀ q, p = some q → q < w) (ho : jI μ 2704 l = jox o) (ho2 : ∀ j, o = some j → j < n ∧ ¬ j = l) : Ex (d + 2) 168 0 [some (.ref 2567), some (.int (iN l)), none, none, none] [] μ Q ↔ Q (.inl (some (.int (jI μ 2640 l)))) (kHgn μ l w p o) := by
  have hw := hW
  unfold jWd at hw
  have lc : (iN l).toNatClampNeg = l := iN_cl (by omega)
  have lj : jin (iN l) 10 = true := iN_in (by omega) (by omega)
  have hm1 : jhas (-1) (iN n) 10 = 0 := by
    unfold jhas
    rw [if_pos (by decide)]
  have hpl : ∀ (d : Nat) (Q : jO → jM → Prop), Ex d 169 0 [some (.ref 2567), some (.int (iN l)), none] [] μ Q ↔ Q (.inl (some (.int (jox p)))) μ := by
    intro d Q
    rw [c_placen hW hw1 hw2, hp]
  have hne : ∀ q, q < 10 → ¬ iN q = -1 := fun q h e => absurd (congrArg Int32.toInt e) (by rw [Int32.toInt_ofNat_of_lt (by omega)]; show ¬ _ = (-1 : Int); omega)
  unfold kHgn
  cases o with
  | none =>
    simp only [jox] at ho
    cases p with
    | none =>
      simp only [jox] at hpl
      simp only [x168_0, x168_1, x168_4, x168_5, x168_6a, x168_6b, x168_6c, x168_7, x168_8, x168_11, x168_12, x168_13a, x168_13b, x168_13c, x168_14, x168_15, x168_16, x168_19a, x168_19b, x168_19c, x168_21, x168_23, x168_24, x168_27, x168_28, x168_30, x168_33, x168_34, x168_37, x168_38, x168_41, x168_44, x168_45, x168_48, x168_49, x168_50, x168_53, x168_54, x168_55, x168_56, x168_59, x168_60, x168_63, x168_65, x168_66, x168_67, x168_68, x168_69, x168_72, x168_73, x168_76, x168_77, x168_78, x168_79, x168_80, x168_81, x168_84, x168_85, x171_0, x171_1, x171_4, x171_5, x171_6, x171_7, x171_8, x171_11, x171_12, x171_13, x171_14, x171_15, x171_16, x171_19, x171_20, x171_21, x171_24, x93_0, x93_1, x93_4, x93_5, x93_6, x93_7, x93_8, x93_11, x93_12, x93_13, x93_14, x93_15, x93_18, x93_19, x93_20, x93_21, x93_22, x93_25, x93_26, x93_27, x93_28, x93_29, x93_32, x93_33, x93_34, x93_35, x92_0, x92_1, x92_4, x92_5, x92_6, x92_7, x92_8, x92_11, x92_12, x92_13, x92_14, x92_15, x92_18, x92_19, x92_20, x92_21, mzi, mInc, mne, mlt9, mrk, mI1, mI2, mI3, mI4, mL1, mL2, mL3, mL4, mQ1, mQ2, mQ3, mQ4, mT1, mcat0, mcat1, mcat2, mcat3, mcat4, mrf1, jK_v, jK_n, JA, mz1, if_true, if_false, ite_true, ite_false, eq_self, not_false_eq_true, Nat.zero_le, true_and, and_true, and_self, Nat.reduceMod, Nat.reduceAdd, Nat.reduceLeDiff, Nat.reduceEqDiff, Nat.reduceLT, hw, lc, lj, hpl, ho, c_hasLine (x := 1731) rfl, hn, hm1, kFdn]
    | some q =>
      simp only [jox] at hpl
      have hq := hp2 q rfl
      have hn1 := hne q (by omega)
      have hlv : ∀ (d : Nat) (Q : jO → jM → Prop), Ex d 170 0 [some (.ref 2567), some (.int (iN q)), none] [] μ Q ↔ Q (.inl none) (kLvn μ w q) := fun d Q => c_leaven hW hw1 hw2 hq
      have hrd : ∀ a, ¬ a = 2567 → ¬ a = 3344 → jI (kLvn μ w q) a = jI μ a := fun a h1 h2 => by unfold kLvn; rw [mR2 h2, mI2 h1]
      have hrq : jQ (kLvn μ w q) = jQ μ := rfl
      simp only [x168_0, x168_1, x168_4, x168_5, x168_6a, x168_6b, x168_6c, x168_7, x168_8, x168_11, x168_12, x168_13a, x168_13b, x168_13c, x168_14, x168_15, x168_16, x168_19a, x168_19b, x168_19c, x168_21, x168_23, x168_24, x168_27, x168_28, x168_30, x168_33, x168_34, x168_37, x168_38, x168_41, x168_44, x168_45, x168_48, x168_49, x168_50, x168_53, x168_54, x168_55, x168_56, x168_59, x168_60, x168_63, x168_65, x168_66, x168_67, x168_68, x168_69, x168_72, x168_73, x168_76, x168_77, x168_78, x168_79, x168_80, x168_81, x168_84, x168_85, x171_0, x171_1, x171_4, x171_5, x171_6, x171_7, x171_8, x171_11, x171_12, x171_13, x171_14, x171_15, x171_16, x171_19, x171_20, x171_21, x171_24, x93_0, x93_1, x93_4, x93_5, x93_6, x93_7, x93_8, x93_11, x93_12, x93_13, x93_14, x93_15, x93_18, x93_19, x93_20, x93_21, x93_22, x93_25, x93_26, x93_27, x93_28, x93_29, x93_32, x93_33, x93_34, x93_35, x92_0, x92_1, x92_4, x92_5, x92_6, x92_7, x92_8, x92_11, x92_12, x92_13, x92_14, x92_15, x92_18, x92_19, x92_20, x92_21, mzi, mInc, mne, mlt9, mrk, mI1, mI2, mI3, mI4, mL1, mL2, mL3, mL4, mQ1, mQ2, mQ3, mQ4, mT1, mcat0, mcat1, mcat2, mcat3, mcat4, mrf1, jK_v, jK_n, JA, mz1, if_true, if_false, ite_true, ite_false, eq_self, not_false_eq_true, Nat.zero_le, true_and, and_true, and_self, Nat.reduceMod, Nat.reduceAdd, Nat.reduceLeDiff, Nat.reduceEqDiff, Nat.reduceLT, hw, lc, lj, hpl, ho, c_hasLine (x := 1731) rfl, hn, hm1, kFdn, hn1, hlv, hrd, hrq]
  | some j =>
    simp only [jox] at ho
    obtain ⟨hj, hjl⟩ := ho2 j rfl
    have jc : (iN j).toNatClampNeg = j := iN_cl (by omega)
    have jj : jin (iN j) 10 = true := iN_in (by omega) (by omega)
    have hh : jhas (iN j) (iN n) 10 = 1 := jhas_in (m := 10) hj h10 (by decide)
    cases p with
    | none =>
      simp only [jox] at hpl
      by_cases g : jI μ 2640 j = 4
      all_goals simp only [x168_0, x168_1, x168_4, x168_5, x168_6a, x168_6b, x168_6c, x168_7, x168_8, x168_11, x168_12, x168_13a, x168_13b, x168_13c, x168_14, x168_15, x168_16, x168_19a, x168_19b, x168_19c, x168_21, x168_23, x168_24, x168_27, x168_28, x168_30, x168_33, x168_34, x168_37, x168_38, x168_41, x168_44, x168_45, x168_48, x168_49, x168_50, x168_53, x168_54, x168_55, x168_56, x168_59, x168_60, x168_63, x168_65, x168_66, x168_67, x168_68, x168_69, x168_72, x168_73, x168_76, x168_77, x168_78, x168_79, x168_80, x168_81, x168_84, x168_85, x171_0, x171_1, x171_4, x171_5, x171_6, x171_7, x171_8, x171_11, x171_12, x171_13, x171_14, x171_15, x171_16, x171_19, x171_20, x171_21, x171_24, x93_0, x93_1, x93_4, x93_5, x93_6, x93_7, x93_8, x93_11, x93_12, x93_13, x93_14, x93_15, x93_18, x93_19, x93_20, x93_21, x93_22, x93_25, x93_26, x93_27, x93_28, x93_29, x93_32, x93_33, x93_34, x93_35, x92_0, x92_1, x92_4, x92_5, x92_6, x92_7, x92_8, x92_11, x92_12, x92_13, x92_14, x92_15, x92_18, x92_19, x92_20, x92_21, mzi, mInc, mne, mlt9, mrk, mI1, mI2, mI3, mI4, mL1, mL2, mL3, mL4, mQ1, mQ2, mQ3, mQ4, mT1, mcat0, mcat1, mcat2, mcat3, mcat4, mrf1, jK_v, jK_n, JA, mz1, if_true, if_false, ite_true, ite_false, eq_self, not_false_eq_true, Nat.zero_le, true_and, and_true, and_self, Nat.reduceMod, Nat.reduceAdd, Nat.reduceLeDiff, Nat.reduceEqDiff, Nat.reduceLT, hw, lc, lj, jc, jj, hpl, ho, c_hasLine (x := 1731) rfl, hn, hh, g, kFdn, kDiscn, kFwn]
    | some q =>
      simp only [jox] at hpl
      have hq := hp2 q rfl
      have hn1 := hne q (by omega)
      have hlv : ∀ (d : Nat) (Q : jO → jM → Prop), Ex d 170 0 [some (.ref 2567), some (.int (iN q)), none] [] μ Q ↔ Q (.inl none) (kLvn μ w q) := fun d Q => c_leaven hW hw1 hw2 hq
      have hrd : ∀ a, ¬ a = 2567 → ¬ a = 3344 → jI (kLvn μ w q) a = jI μ a := fun a h1 h2 => by unfold kLvn; rw [mR2 h2, mI2 h1]
      have hrq : jQ (kLvn μ w q) = jQ μ := rfl
      by_cases g : jI μ 2640 j = 4
      all_goals simp only [x168_0, x168_1, x168_4, x168_5, x168_6a, x168_6b, x168_6c, x168_7, x168_8, x168_11, x168_12, x168_13a, x168_13b, x168_13c, x168_14, x168_15, x168_16, x168_19a, x168_19b, x168_19c, x168_21, x168_23, x168_24, x168_27, x168_28, x168_30, x168_33, x168_34, x168_37, x168_38, x168_41, x168_44, x168_45, x168_48, x168_49, x168_50, x168_53, x168_54, x168_55, x168_56, x168_59, x168_60, x168_63, x168_65, x168_66, x168_67, x168_68, x168_69, x168_72, x168_73, x168_76, x168_77, x168_78, x168_79, x168_80, x168_81, x168_84, x168_85, x171_0, x171_1, x171_4, x171_5, x171_6, x171_7, x171_8, x171_11, x171_12, x171_13, x171_14, x171_15, x171_16, x171_19, x171_20, x171_21, x171_24, x93_0, x93_1, x93_4, x93_5, x93_6, x93_7, x93_8, x93_11, x93_12, x93_13, x93_14, x93_15, x93_18, x93_19, x93_20, x93_21, x93_22, x93_25, x93_26, x93_27, x93_28, x93_29, x93_32, x93_33, x93_34, x93_35, x92_0, x92_1, x92_4, x92_5, x92_6, x92_7, x92_8, x92_11, x92_12, x92_13, x92_14, x92_15, x92_18, x92_19, x92_20, x92_21, mzi, mInc, mne, mlt9, mrk, mI1, mI2, mI3, mI4, mL1, mL2, mL3, mL4, mQ1, mQ2, mQ3, mQ4, mT1, mcat0, mcat1, mcat2, mcat3, mcat4, mrf1, jK_v, jK_n, JA, mz1, if_true, if_false, ite_true, ite_false, eq_self, not_false_eq_true, Nat.zero_le, true_and, and_true, and_self, Nat.reduceMod, Nat.reduceAdd, Nat.reduceLeDiff, Nat.reduceEqDiff, Nat.reduceLT, hw, lc, lj, jc, jj, hpl, ho, c_hasLine (x := 1731) rfl, hn, hh, g, hn1, hlv, hrd, hrq, kFdn, kDiscn, kFwn]
/-- no way at l -/
def kFwa (μ : jM) (l : Nat) : jM := jsI (jsI (jsI (jsI (jsI μ 3920 l 0) 3984 l 0) 4048 l 0) 4112 l 0) 4176 l 0
def kDisca (μ : jM) (a b : Nat) : jM := kFwa (kFwa (jsI (jsI μ 3600 a (-1)) 3600 b (-1)) a) b
def kFda (μ : jM) (l : Nat) : jM := jsI (jsI (jsI μ 3664 l 0) 3728 l 0) 3792 l (-1)
/-- out of the queue -/
def kLva (μ : jM) (w q : Nat) : jM := jsR (jsI μ 3463 16 (iN (w - 1))) 4240 (fun j => if q ≤ j ∧ j < w - 1 then jI μ 4240 (j + 1) else jI μ 4240 j)
def kHga (μ : jM) (l w : Nat) (p o : Option Nat) : jM :=
  let μ1 := match p with
    | some q => kLva μ w q
    | none => μ
  let μ2 := match o with
    | some j => kDisca (jsI μ1 3536 j (if jI μ 3536 j = 4 then 0 else 7)) l j
    | none => μ1
  kFda (jsI μ2 3536 l 0) l
theorem c_lift0a {l : Nat} (hW : jWd μ) (hl : l < 10) (h0 : jI μ 3536 l = 0) : Ex (d + 1) 154 0 [some (.ref 3463), some (.int (iN l)), none] [] μ Q ↔ Q (.inl (some (.int 1))) (jsI μ 3536 l 1) := by
  have hw := hW
  unfold jWd at hw
  have lc : (iN l).toNatClampNeg = l := iN_cl (by omega)
  have lj : jin (iN l) 10 = true := iN_in (by omega) (by omega)
  simp only [x154_0, x154_1, x154_4, x154_5, x154_6a, x154_6b, x154_6c, x154_7, x154_8, x154_11, x154_12, x154_13, x154_16, x154_17, x154_20, x154_21, x154_22, x154_23, x154_26, x154_27, x154_30, x154_31, x154_34, x154_37, x154_38, x154_41, x154_42, x154_43, x154_44, x154_45, x154_48, x154_49, x154_50, x154_51, x154_52, x154_55, x154_56, x154_57, mzi, mInc, mne, mlt9, mrk, mI1, mI2, mI3, mI4, mL1, mL2, mL3, mL4, mQ1, mQ2, mQ3, mQ4, mT1, mcat0, mcat1, mcat2, mcat3, mcat4, mrf1, jK_v, jK_n, JA, mz1, if_true, if_false, ite_true, ite_false, eq_self, not_false_eq_true, Nat.zero_le, true_and, and_true, and_self, Nat.reduceMod, Nat.reduceAdd, Nat.reduceLeDiff, Nat.reduceEqDiff, Nat.reduceLT, hw, lc, lj, h0]
theorem c_lift1a {l j : Nat} (hW : jWd μ) (hn : jI μ 1731 1 = iN n) (h10 : n ≤ 10) (hl : l < 10) (h0 : ¬ jI μ 3536 l = 0) (hj : j < n) (ho : jI μ 3600 l = iN j) (hlj : ¬ l = j) : Ex (d + 1) 154 0 [some (.ref 3463), some (.int (iN l)), none] [] μ Q ↔ Q (.inl (some (.int 5))) (jsI (jsI μ 3536 l 5) 3536 j 5) := by
  have hw := hW
  unfold jWd at hw
  have lc : (iN l).toNatClampNeg = l := iN_cl (by omega)
  have lj : jin (iN l) 10 = true := iN_in (by omega) (by omega)
  have jc : (iN j).toNatClampNeg = j := iN_cl (by omega)
  have jj : jin (iN j) 10 = true := iN_in (by omega) (by omega)
  have hh : jhas (iN j) (iN n) 10 = 1 := jhas_in (m := 10) hj h10 (by decide)
  simp only [x154_0, x154_1, x154_4, x154_5, x154_6a, x154_6b, x154_6c, x154_7, x154_8, x154_11, x154_12, x154_13, x154_16, x154_17, x154_20, x154_21, x154_22, x154_23, x154_26, x154_27, x154_30, x154_31, x154_34, x154_37, x154_38, x154_41, x154_42, x154_43, x154_44, x154_45, x154_48, x154_49, x154_50, x154_51, x154_52, x154_55, x154_56, x154_57, mzi, mInc, mne, mlt9, mrk, mI1, mI2, mI3, mI4, mL1, mL2, mL3, mL4, mQ1, mQ2, mQ3, mQ4, mT1, mcat0, mcat1, mcat2, mcat3, mcat4, mrf1, jK_v, jK_n, JA, mz1, if_true, if_false, ite_true, ite_false, eq_self, not_false_eq_true, Nat.zero_le, true_and, and_true, and_self, Nat.reduceMod, Nat.reduceAdd, Nat.reduceLeDiff, Nat.reduceEqDiff, Nat.reduceLT, hw, lc, lj, h0, ho, c_hasLine (x := 1731) rfl, hn, hh, jc, jj, hlj]
theorem c_hanga {l : Nat} {p o : Option Nat} (hW : jWd μ) (hn : jI μ 1731 1 = iN n) (h10 : n ≤ 10) (hw1 : jI μ 3463 16 = iN w) (hw2 : w ≤ 10) (hl : l < 10) (hp : jfst (fun k => decide (jI μ 4240 k = iN l)) 0 (w - 0) = jox p) (hp2 : ∀ q, p = some q → q < w) (ho : jI μ 3600 l = jox o) (ho2 : ∀ j, o = some j → j < n ∧ ¬ j = l) : Ex (d + 2) 168 0 [some (.ref 3463), some (.int (iN l)), none, none, none] [] μ Q ↔ Q (.inl (some (.int (jI μ 3536 l)))) (kHga μ l w p o) := by
  have hw := hW
  unfold jWd at hw
  have lc : (iN l).toNatClampNeg = l := iN_cl (by omega)
  have lj : jin (iN l) 10 = true := iN_in (by omega) (by omega)
  have hm1 : jhas (-1) (iN n) 10 = 0 := by
    unfold jhas
    rw [if_pos (by decide)]
  have hpl : ∀ (d : Nat) (Q : jO → jM → Prop), Ex d 169 0 [some (.ref 3463), some (.int (iN l)), none] [] μ Q ↔ Q (.inl (some (.int (jox p)))) μ := by
    intro d Q
    rw [c_placea hW hw1 hw2, hp]
  have hne : ∀ q, q < 10 → ¬ iN q = -1 := fun q h e => absurd (congrArg Int32.toInt e) (by rw [Int32.toInt_ofNat_of_lt (by omega)]; show ¬ _ = (-1 : Int); omega)
  unfold kHga
  cases o with
  | none =>
    simp only [jox] at ho
    cases p with
    | none =>
      simp only [jox] at hpl
      simp only [x168_0, x168_1, x168_4, x168_5, x168_6a, x168_6b, x168_6c, x168_7, x168_8, x168_11, x168_12, x168_13a, x168_13b, x168_13c, x168_14, x168_15, x168_16, x168_19a, x168_19b, x168_19c, x168_21, x168_23, x168_24, x168_27, x168_28, x168_30, x168_33, x168_34, x168_37, x168_38, x168_41, x168_44, x168_45, x168_48, x168_49, x168_50, x168_53, x168_54, x168_55, x168_56, x168_59, x168_60, x168_63, x168_65, x168_66, x168_67, x168_68, x168_69, x168_72, x168_73, x168_76, x168_77, x168_78, x168_79, x168_80, x168_81, x168_84, x168_85, x171_0, x171_1, x171_4, x171_5, x171_6, x171_7, x171_8, x171_11, x171_12, x171_13, x171_14, x171_15, x171_16, x171_19, x171_20, x171_21, x171_24, x93_0, x93_1, x93_4, x93_5, x93_6, x93_7, x93_8, x93_11, x93_12, x93_13, x93_14, x93_15, x93_18, x93_19, x93_20, x93_21, x93_22, x93_25, x93_26, x93_27, x93_28, x93_29, x93_32, x93_33, x93_34, x93_35, x92_0, x92_1, x92_4, x92_5, x92_6, x92_7, x92_8, x92_11, x92_12, x92_13, x92_14, x92_15, x92_18, x92_19, x92_20, x92_21, mzi, mInc, mne, mlt9, mrk, mI1, mI2, mI3, mI4, mL1, mL2, mL3, mL4, mQ1, mQ2, mQ3, mQ4, mT1, mcat0, mcat1, mcat2, mcat3, mcat4, mrf1, jK_v, jK_n, JA, mz1, if_true, if_false, ite_true, ite_false, eq_self, not_false_eq_true, Nat.zero_le, true_and, and_true, and_self, Nat.reduceMod, Nat.reduceAdd, Nat.reduceLeDiff, Nat.reduceEqDiff, Nat.reduceLT, hw, lc, lj, hpl, ho, c_hasLine (x := 1731) rfl, hn, hm1, kFda]
    | some q =>
      simp only [jox] at hpl
      have hq := hp2 q rfl
      have hn1 := hne q (by omega)
      have hlv : ∀ (d : Nat) (Q : jO → jM → Prop), Ex d 170 0 [some (.ref 3463), some (.int (iN q)), none] [] μ Q ↔ Q (.inl none) (kLva μ w q) := fun d Q => c_leavea hW hw1 hw2 hq
      have hrd : ∀ a, ¬ a = 3463 → ¬ a = 4240 → jI (kLva μ w q) a = jI μ a := fun a h1 h2 => by unfold kLva; rw [mR2 h2, mI2 h1]
      have hrq : jQ (kLva μ w q) = jQ μ := rfl
      simp only [x168_0, x168_1, x168_4, x168_5, x168_6a, x168_6b, x168_6c, x168_7, x168_8, x168_11, x168_12, x168_13a, x168_13b, x168_13c, x168_14, x168_15, x168_16, x168_19a, x168_19b, x168_19c, x168_21, x168_23, x168_24, x168_27, x168_28, x168_30, x168_33, x168_34, x168_37, x168_38, x168_41, x168_44, x168_45, x168_48, x168_49, x168_50, x168_53, x168_54, x168_55, x168_56, x168_59, x168_60, x168_63, x168_65, x168_66, x168_67, x168_68, x168_69, x168_72, x168_73, x168_76, x168_77, x168_78, x168_79, x168_80, x168_81, x168_84, x168_85, x171_0, x171_1, x171_4, x171_5, x171_6, x171_7, x171_8, x171_11, x171_12, x171_13, x171_14, x171_15, x171_16, x171_19, x171_20, x171_21, x171_24, x93_0, x93_1, x93_4, x93_5, x93_6, x93_7, x93_8, x93_11, x93_12, x93_13, x93_14, x93_15, x93_18, x93_19, x93_20, x93_21, x93_22, x93_25, x93_26, x93_27, x93_28, x93_29, x93_32, x93_33, x93_34, x93_35, x92_0, x92_1, x92_4, x92_5, x92_6, x92_7, x92_8, x92_11, x92_12, x92_13, x92_14, x92_15, x92_18, x92_19, x92_20, x92_21, mzi, mInc, mne, mlt9, mrk, mI1, mI2, mI3, mI4, mL1, mL2, mL3, mL4, mQ1, mQ2, mQ3, mQ4, mT1, mcat0, mcat1, mcat2, mcat3, mcat4, mrf1, jK_v, jK_n, JA, mz1, if_true, if_false, ite_true, ite_false, eq_self, not_false_eq_true, Nat.zero_le, true_and, and_true, and_self, Nat.reduceMod, Nat.reduceAdd, Nat.reduceLeDiff, Nat.reduceEqDiff, Nat.reduceLT, hw, lc, lj, hpl, ho, c_hasLine (x := 1731) rfl, hn, hm1, kFda, hn1, hlv, hrd, hrq]
  | some j =>
    simp only [jox] at ho
    obtain ⟨hj, hjl⟩ := ho2 j rfl
    have jc : (iN j).toNatClampNeg = j := iN_cl (by omega)
    have jj : jin (iN j) 10 = true := iN_in (by omega) (by omega)
    have hh : jhas (iN j) (iN n) 10 = 1 := jhas_in (m := 10) hj h10 (by decide)
    cases p with
    | none =>
      simp only [jox] at hpl
      by_cases g : jI μ 3536 j = 4
      all_goals simp only [x168_0, x168_1, x168_4, x168_5, x168_6a, x168_6b, x168_6c, x168_7, x168_8, x168_11, x168_12, x168_13a, x168_13b, x168_13c, x168_14, x168_15, x168_16, x168_19a, x168_19b, x168_19c, x168_21, x168_23, x168_24, x168_27, x168_28, x168_30, x168_33, x168_34, x168_37, x168_38, x168_41, x168_44, x168_45, x168_48, x168_49, x168_50, x168_53, x168_54, x168_55, x168_56, x168_59, x168_60, x168_63, x168_65, x168_66, x168_67, x168_68, x168_69, x168_72, x168_73, x168_76, x168_77, x168_78, x168_79, x168_80, x168_81, x168_84, x168_85, x171_0, x171_1, x171_4, x171_5, x171_6, x171_7, x171_8, x171_11, x171_12, x171_13, x171_14, x171_15, x171_16, x171_19, x171_20, x171_21, x171_24, x93_0, x93_1, x93_4, x93_5, x93_6, x93_7, x93_8, x93_11, x93_12, x93_13, x93_14, x93_15, x93_18, x93_19, x93_20, x93_21, x93_22, x93_25, x93_26, x93_27, x93_28, x93_29, x93_32, x93_33, x93_34, x93_35, x92_0, x92_1, x92_4, x92_5, x92_6, x92_7, x92_8, x92_11, x92_12, x92_13, x92_14, x92_15, x92_18, x92_19, x92_20, x92_21, mzi, mInc, mne, mlt9, mrk, mI1, mI2, mI3, mI4, mL1, mL2, mL3, mL4, mQ1, mQ2, mQ3, mQ4, mT1, mcat0, mcat1, mcat2, mcat3, mcat4, mrf1, jK_v, jK_n, JA, mz1, if_true, if_false, ite_true, ite_false, eq_self, not_false_eq_true, Nat.zero_le, true_and, and_true, and_self, Nat.reduceMod, Nat.reduceAdd, Nat.reduceLeDiff, Nat.reduceEqDiff, Nat.reduceLT, hw, lc, lj, jc, jj, hpl, ho, c_hasLine (x := 1731) rfl, hn, hh, g, kFda, kDisca, kFwa]
    | some q =>
      simp only [jox] at hpl
      have hq := hp2 q rfl
      have hn1 := hne q (by omega)
      have hlv : ∀ (d : Nat) (Q : jO → jM → Prop), Ex d 170 0 [some (.ref 3463), some (.int (iN q)), none] [] μ Q ↔ Q (.inl none) (kLva μ w q) := fun d Q => c_leavea hW hw1 hw2 hq
      have hrd : ∀ a, ¬ a = 3463 → ¬ a = 4240 → jI (kLva μ w q) a = jI μ a := fun a h1 h2 => by unfold kLva; rw [mR2 h2, mI2 h1]
      have hrq : jQ (kLva μ w q) = jQ μ := rfl
      by_cases g : jI μ 3536 j = 4
      all_goals simp only [x168_0, x168_1, x168_4, x168_5, x168_6a, x168_6b, x168_6c, x168_7, x168_8, x168_11, x168_12, x168_13a, x168_13b, x168_13c, x168_14, x168_15, x168_16, x168_19a, x168_19b, x168_19c, x168_21, x168_23, x168_24, x168_27, x168_28, x168_30, x168_33, x168_34, x168_37, x168_38, x168_41, x168_44, x168_45, x168_48, x168_49, x168_50, x168_53, x168_54, x168_55, x168_56, x168_59, x168_60, x168_63, x168_65, x168_66, x168_67, x168_68, x168_69, x168_72, x168_73, x168_76, x168_77, x168_78, x168_79, x168_80, x168_81, x168_84, x168_85, x171_0, x171_1, x171_4, x171_5, x171_6, x171_7, x171_8, x171_11, x171_12, x171_13, x171_14, x171_15, x171_16, x171_19, x171_20, x171_21, x171_24, x93_0, x93_1, x93_4, x93_5, x93_6, x93_7, x93_8, x93_11, x93_12, x93_13, x93_14, x93_15, x93_18, x93_19, x93_20, x93_21, x93_22, x93_25, x93_26, x93_27, x93_28, x93_29, x93_32, x93_33, x93_34, x93_35, x92_0, x92_1, x92_4, x92_5, x92_6, x92_7, x92_8, x92_11, x92_12, x92_13, x92_14, x92_15, x92_18, x92_19, x92_20, x92_21, mzi, mInc, mne, mlt9, mrk, mI1, mI2, mI3, mI4, mL1, mL2, mL3, mL4, mQ1, mQ2, mQ3, mQ4, mT1, mcat0, mcat1, mcat2, mcat3, mcat4, mrf1, jK_v, jK_n, JA, mz1, if_true, if_false, ite_true, ite_false, eq_self, not_false_eq_true, Nat.zero_le, true_and, and_true, and_self, Nat.reduceMod, Nat.reduceAdd, Nat.reduceLeDiff, Nat.reduceEqDiff, Nat.reduceLT, hw, lc, lj, jc, jj, hpl, ho, c_hasLine (x := 1731) rfl, hn, hh, g, hn1, hlv, hrd, hrq, kFda, kDisca, kFwa]
end C9
