/-! THE PURE PART: searches and climbs; the queue. -/
/-- the first place from k on, over m places, at which p holds; -1 without one -/
def jfst (p : Nat → Bool) : Nat → Nat → Int32
  | _, 0 => -1
  | k, m + 1 => bif p k then iN k else jfst p (k + 1) m
theorem jfst_loop {P : Nat → Prop} {R : Int32 → Prop} {p : Nat → Prop} {dp : ∀ k, Decidable (p k)} {n lo : Nat} (h1 : ∀ k, lo ≤ k → k < n → p k → (P k ↔ R (iN k))) (h2 : ∀ k, lo ≤ k → k < n → ¬ p k → (P k ↔ P (k + 1))) (h3 : P n ↔ R (-1)) (hn : lo ≤ n) : P lo ↔ R (jfst (fun k => decide (p k)) lo (n - lo)) := by
  have key : ∀ m k, lo ≤ k → k + m = n → (P k ↔ R (jfst (fun k => decide (p k)) k m)) := by
    intro m
    induction m with
    | zero =>
      intro k _ e
      rw [show k = n by omega]
      exact h3
    | succ m ih =>
      intro k hl e
      by_cases hp : p k
      · rw [h1 k hl (by omega) hp]
        unfold jfst
        rw [decide_eq_true hp]
        rfl
      · rw [h2 k hl (by omega) hp, ih (k + 1) (by omega) (by omega)]
        conv => rhs; unfold jfst
        rw [decide_eq_false hp]
        rfl
  exact key (n - lo) lo (Nat.le_refl _) (by omega)
theorem jclimb {P : Nat → Prop} {lo n : Nat} (h : ∀ k, lo ≤ k → k < n → (P k ↔ P (k + 1))) (hn : lo ≤ n) : P lo ↔ P n := by
  have key : ∀ m k, lo ≤ k → k + m = n → (P k ↔ P n) := by
    intro m
    induction m with
    | zero =>
      intro k _ e
      rw [show k = n by omega]
    | succ m ih =>
      intro k hl e
      rw [h k hl (by omega), ih (k + 1) (by omega) (by omega)]
  exact key (n - lo) lo (Nat.le_refl _) (by omega)
/-- a number without its last digits -/
def jcut (x c : Int32) : Int32 := if c < 0 then x else jfold (fun _ a => a / 10) 0 c.toNatClampNeg x
theorem jbit01 {s m : Int32} : jbit s m = 1 ∨ jbit s m = 0 := by
  unfold jbit
  split
  · exact Or.inl rfl
  · exact Or.inr rfl
theorem iN_pred {w : Nat} (h : 0 < w) : iN w - 1 = iN (w - 1) := by
  rw [show iN w = iN (w - 1) + 1 from by rw [mInc]; congr 1; omega, Int32.add_sub_cancel]
theorem m10 : ¬ (10 : Int32) = 0 := by decide
theorem mRI {μ : jM} {a k : Nat} {v : Int32} {g : Nat → Int32} : jsI (jsR μ a g) a k v = jsR μ a (fun j => if j = k then v else g j) := by
  refine Prod.ext ?_ rfl
  funext b j
  show j2 (jrow (jI μ) a g) a k v b j = jrow (jI μ) a (fun j => if j = k then v else g j) b j
  by_cases hb : b = a
  · subst hb
    rw [jrow_self]
    show j2 _ _ _ _ _ _ = _
    rw [j2_self, jrow_self]
  · rw [jrow_ne _ _ hb, j2_ne _ _ _ hb, jrow_ne _ _ hb]
theorem jsR_id {μ : jM} {a : Nat} {g : Nat → Int32} (h : g = jI μ a) : jsR μ a g = μ := by
  subst h
  refine Prod.ext ?_ rfl
  funext b
  show jrow (jI μ) a (jI μ a) b = _
  by_cases hb : b = a
  · subst hb
    rw [jrow_self]
    rfl
  · rw [jrow_ne _ _ hb]
    rfl
section C4
variable {d : Nat} {μ : jM} {Q : jO → jM → Prop} {n w : Nat}
theorem c_wl {x c : Int32} : Ex d 85 0 [some (.int x), some (.int c), none, none] [] μ Q ↔ Q (.inl (some (.int (jcut x c)))) μ := by
  unfold jcut
  by_cases h : c < 0
  · have h2 : ¬ (0 : Int32) < c := by
      intro h3
      exact Int32.lt_irrefl (Int32.lt_trans h h3)
    simp only [x85_4, x85_0, x85_1a, x85_1b, x85_1c, x85_2, x85_3a, x85_3b, x85_3c, x85_5, x85_6, x85_9, x85_10, x85_12, x85_13a, x85_13b, x85_13c, x85_14a, x85_14b, x85_14c, x85_17, x85_20, x85_21, mzi, mInc, mne, mlt9, mrk, mI1, mI2, mI3, mI4, mL1, mL2, mL3, mL4, mQ1, mQ2, mQ3, mQ4, mT1, mcat0, mcat1, mcat2, mcat3, mcat4, mrf1, jK_v, jK_n, JA, mz1, if_true, if_false, ite_true, ite_false, eq_self, not_false_eq_true, Nat.zero_le, true_and, and_true, and_self, Nat.reduceMod, Nat.reduceAdd, Nat.reduceLeDiff, Nat.reduceEqDiff, Nat.reduceLT, h, h2]
  · obtain ⟨m, hm, rfl⟩ := iN_pos h
    rw [if_neg h, iN_cl hm]
    have loop : ∀ k (a : Int32), k < m → (Ex d 85 4 [some (.int x), some (.int (iN m)), some (.int a), some (.int (iN k))] [] μ Q ↔ Ex d 85 4 [some (.int x), some (.int (iN m)), some (.int (a / 10)), some (.int (iN (k + 1)))] [] μ Q) := by
      intro k a hk
      have hlt : iN k < iN m := (iN_lt (by omega) (by omega)).mpr hk
      rw [x85_4]
      simp only [x85_0, x85_1a, x85_1b, x85_1c, x85_2, x85_3a, x85_3b, x85_3c, x85_5, x85_6, x85_9, x85_10, x85_12, x85_13a, x85_13b, x85_13c, x85_14a, x85_14b, x85_14c, x85_17, x85_20, x85_21, mzi, mInc, mne, mlt9, mrk, mI1, mI2, mI3, mI4, mL1, mL2, mL3, mL4, mQ1, mQ2, mQ3, mQ4, mT1, mcat0, mcat1, mcat2, mcat3, mcat4, mrf1, jK_v, jK_n, JA, mz1, if_true, if_false, ite_true, ite_false, eq_self, not_false_eq_true, Nat.zero_le, true_and, and_true, and_self, Nat.reduceMod, Nat.reduceAdd, Nat.reduceLeDiff, Nat.reduceEqDiff, Nat.reduceLT, hlt, m10]
    have h0 := jfold_loop (P := fun k a => Ex d 85 4 [some (.int x), some (.int (iN m)), some (.int a), some (.int (iN k))] [] μ Q) loop m 0 x (by omega)
    have h1 : Ex d 85 0 [some (.int x), some (.int (iN m)), none, none] [] μ Q ↔ Ex d 85 4 [some (.int x), some (.int (iN m)), some (.int x), some (.int (iN 0))] [] μ Q := by
      simp only [x85_0, x85_1a, x85_1b, x85_1c, x85_2, x85_3a, x85_3b, x85_3c, x85_5, x85_6, x85_9, x85_10, x85_12, x85_13a, x85_13b, x85_13c, x85_14a, x85_14b, x85_14c, x85_17, x85_20, x85_21, mzi, mInc, mne, mlt9, mrk, mI1, mI2, mI3, mI4, mL1, mL2, mL3, mL4, mQ1, mQ2, mQ3, mQ4, mT1, mcat0, mcat1, mcat2, mcat3, mcat4, mrf1, jK_v, jK_n, JA, mz1, if_true, if_false, ite_true, ite_false, eq_self, not_false_eq_true, Nat.zero_le, true_and, and_true, and_self, Nat.reduceMod, Nat.reduceAdd, Nat.reduceLeDiff, Nat.reduceEqDiff, Nat.reduceLT]
    have hge : ¬ iN m < iN m := iN_irr hm
    rw [h1, h0]
    simp only [x85_4, x85_0, x85_1a, x85_1b, x85_1c, x85_2, x85_3a, x85_3b, x85_3c, x85_5, x85_6, x85_9, x85_10, x85_12, x85_13a, x85_13b, x85_13c, x85_14a, x85_14b, x85_14c, x85_17, x85_20, x85_21, mzi, mInc, mne, mlt9, mrk, mI1, mI2, mI3, mI4, mL1, mL2, mL3, mL4, mQ1, mQ2, mQ3, mQ4, mT1, mcat0, mcat1, mcat2, mcat3, mcat4, mrf1, jK_v, jK_n, JA, mz1, if_true, if_false, ite_true, ite_false, eq_self, not_false_eq_true, Nat.zero_le, true_and, and_true, and_self, Nat.reduceMod, Nat.reduceAdd, Nat.reduceLeDiff, Nat.reduceEqDiff, Nat.reduceLT, hge]
theorem c_linesIn {w : Int32} (hW : jWd μ) (hn : jI μ 1731 1 = iN n) (h10 : n ≤ 10) : Ex (d + 1) 187 0 [some (.ref 1731), some (.int w), none, none] [] μ Q ↔ Q (.inl (some (.int (rsum (fun k => jbit w (jI μ 1872 k)) n)))) μ := by
  have hw := hW
  unfold jWd at hw
  have loop : ∀ (k : Nat) (a : Int32), k < n → (Ex (d + 1) 187 4 [some (.ref 1731), some (.int w), some (.int a), some (.int (iN k))] [] μ Q ↔ Ex (d + 1) 187 4 [some (.ref 1731), some (.int w), some (.int (a + jbit w (jI μ 1872 k))), some (.int (iN (k + 1)))] [] μ Q) := by
    intro k a hk
    have hlt : iN k < iN n := (iN_lt (by omega) (by omega)).mpr hk
    have hkc : (iN k).toNatClampNeg = k := iN_cl (by omega)
    have hkj : jin (iN k) 10 = true := iN_in (by omega) (by omega)
    rcases jbit01 (s := w) (m := jI μ 1872 k) with g | g
    all_goals rw [x187_4]
    all_goals simp only [x187_0, x187_1a, x187_1b, x187_1c, x187_2, x187_3a, x187_3b, x187_3c, x187_5, x187_6, x187_9, x187_12, x187_13, x187_14, x187_15, x187_18, x187_19, x187_20, x187_23, x187_26, x187_27, x187_30, x187_31, x187_32a, x187_32b, x187_32c, x187_33a, x187_33b, x187_33c, x187_36, x187_39, x187_40, mzi, mInc, mne, mlt9, mrk, mI1, mI2, mI3, mI4, mL1, mL2, mL3, mL4, mQ1, mQ2, mQ3, mQ4, mT1, mcat0, mcat1, mcat2, mcat3, mcat4, mrf1, jK_v, jK_n, JA, mz1, if_true, if_false, ite_true, ite_false, eq_self, not_false_eq_true, Nat.zero_le, true_and, and_true, and_self, Nat.reduceMod, Nat.reduceAdd, Nat.reduceLeDiff, Nat.reduceEqDiff, Nat.reduceLT, hlt, hkc, hkj, hw, hn, c_has, g]
  have h0 := jfold_loop (P := fun k a => Ex (d + 1) 187 4 [some (.ref 1731), some (.int w), some (.int a), some (.int (iN k))] [] μ Q) loop n 0 0 (by omega)
  have hge : ¬ iN n < iN n := iN_irr (by omega)
  have h1 : Ex (d + 1) 187 0 [some (.ref 1731), some (.int w), none, none] [] μ Q ↔ Ex (d + 1) 187 4 [some (.ref 1731), some (.int w), some (.int 0), some (.int (iN 0))] [] μ Q := by
    simp only [x187_0, x187_1a, x187_1b, x187_1c, x187_2, x187_3a, x187_3b, x187_3c, x187_5, x187_6, x187_9, x187_12, x187_13, x187_14, x187_15, x187_18, x187_19, x187_20, x187_23, x187_26, x187_27, x187_30, x187_31, x187_32a, x187_32b, x187_32c, x187_33a, x187_33b, x187_33c, x187_36, x187_39, x187_40, mzi, mInc, mne, mlt9, mrk, mI1, mI2, mI3, mI4, mL1, mL2, mL3, mL4, mQ1, mQ2, mQ3, mQ4, mT1, mcat0, mcat1, mcat2, mcat3, mcat4, mrf1, jK_v, jK_n, JA, mz1, if_true, if_false, ite_true, ite_false, eq_self, not_false_eq_true, Nat.zero_le, true_and, and_true, and_self, Nat.reduceMod, Nat.reduceAdd, Nat.reduceLeDiff, Nat.reduceEqDiff, Nat.reduceLT, hw, hn, c_has]
  rw [h1, h0]
  simp only [x187_4, x187_0, x187_1a, x187_1b, x187_1c, x187_2, x187_3a, x187_3b, x187_3c, x187_5, x187_6, x187_9, x187_12, x187_13, x187_14, x187_15, x187_18, x187_19, x187_20, x187_23, x187_26, x187_27, x187_30, x187_31, x187_32a, x187_32b, x187_32c, x187_33a, x187_33b, x187_33c, x187_36, x187_39, x187_40, mzi, mInc, mne, mlt9, mrk, mI1, mI2, mI3, mI4, mL1, mL2, mL3, mL4, mQ1, mQ2, mQ3, mQ4, mT1, mcat0, mcat1, mcat2, mcat3, mcat4, mrf1, jK_v, jK_n, JA, mz1, if_true, if_false, ite_true, ite_false, eq_self, not_false_eq_true, Nat.zero_le, true_and, and_true, and_self, Nat.reduceMod, Nat.reduceAdd, Nat.reduceLeDiff, Nat.reduceEqDiff, Nat.reduceLT, hge, hw, hn, c_has]
  rfl
theorem c_across {t : Nat} {w : Int32} (hW : jWd μ) (hn : jI μ 1731 2 = iN n) (h10 : n ≤ 10) (ht : t < n) : Ex (d + 1) 190 0 [some (.ref 1731), some (.int (iN t)), some (.int w)] [] μ Q ↔ Q (.inl (some (.int (if jI μ 2064 t = w then jI μ 2128 t else if jI μ 2128 t = w then jI μ 2064 t else -1)))) μ := by
  have hw := hW
  unfold jWd at hw
  have htc : (iN t).toNatClampNeg = t := iN_cl (by omega)
  have htj : jin (iN t) 10 = true := iN_in (by omega) (by omega)
  have ht0 : ¬ iN t < 0 := iN_nn (by omega)
  have htn : iN t < iN n := (iN_lt (by omega) (by omega)).mpr ht
  have ht1 : iN t < (10 : Int32) := (iN_lt (b := 10) (by omega) (by decide)).mpr (by omega)
  by_cases g1 : jI μ 2064 t = w
  all_goals by_cases g2 : jI μ 2128 t = w
  all_goals simp only [x190_0, x190_1, x190_2, x190_5, x190_8, x190_9, x190_10, x190_11, x190_14, x190_15, x190_16, x190_17, x190_20, x190_21, x190_24, x190_25, x190_26, x190_27, x190_28, x190_31, x190_32, x190_33, x190_34, x190_37, x190_38, x190_41, x190_42, x190_43, x190_46, x190_47, mzi, mInc, mne, mlt9, mrk, mI1, mI2, mI3, mI4, mL1, mL2, mL3, mL4, mQ1, mQ2, mQ3, mQ4, mT1, mcat0, mcat1, mcat2, mcat3, mcat4, mrf1, jK_v, jK_n, JA, mz1, if_true, if_false, ite_true, ite_false, eq_self, not_false_eq_true, Nat.zero_le, true_and, and_true, and_self, Nat.reduceMod, Nat.reduceAdd, Nat.reduceLeDiff, Nat.reduceEqDiff, Nat.reduceLT, hw, hn, x78_0, x78_1, x78_4, x78_5, x78_6, x78_9, x78_12, x78_13, x78_15, x78_18, x78_19, x78_22, x78_23, htc, htj, ht0, htn, ht1, g1, g2]
theorem c_trunksAt {w : Int32} (hW : jWd μ) (hn : jI μ 1731 2 = iN n) (h10 : n ≤ 10) : Ex (d + 2) 189 0 [some (.ref 1731), some (.int w), none, none] [] μ Q ↔ Q (.inl (some (.int (rsum (fun k => if (if jI μ 2064 k = w then jI μ 2128 k else if jI μ 2128 k = w then jI μ 2064 k else -1) = -1 then 0 else 1) n)))) μ := by
  have hw := hW
  unfold jWd at hw
  have loop : ∀ (k : Nat) (a : Int32), k < n → (Ex (d + 2) 189 4 [some (.ref 1731), some (.int w), some (.int a), some (.int (iN k))] [] μ Q ↔ Ex (d + 2) 189 4 [some (.ref 1731), some (.int w), some (.int (a + (if (if jI μ 2064 k = w then jI μ 2128 k else if jI μ 2128 k = w then jI μ 2064 k else -1) = -1 then 0 else 1))), some (.int (iN (k + 1)))] [] μ Q) := by
    intro k a hk
    have hlt : iN k < iN n := (iN_lt (by omega) (by omega)).mpr hk
    have hkc : (iN k).toNatClampNeg = k := iN_cl (by omega)
    have hkj : jin (iN k) 10 = true := iN_in (by omega) (by omega)
    all_goals rw [x189_4]
    all_goals by_cases g3 : (if jI μ 2064 k = w then jI μ 2128 k else if jI μ 2128 k = w then jI μ 2064 k else -1) = -1
    all_goals simp only [x189_0, x189_1a, x189_1b, x189_1c, x189_2, x189_3a, x189_3b, x189_3c, x189_5, x189_6, x189_9, x189_12, x189_13, x189_14, x189_15, x189_16, x189_19, x189_20, x189_23, x189_24, x189_27, x189_28, x189_29a, x189_29b, x189_29c, x189_30a, x189_30b, x189_30c, x189_33, x189_36, x189_37, mzi, mInc, mne, mlt9, mrk, mI1, mI2, mI3, mI4, mL1, mL2, mL3, mL4, mQ1, mQ2, mQ3, mQ4, mT1, mcat0, mcat1, mcat2, mcat3, mcat4, mrf1, jK_v, jK_n, JA, mz1, if_true, if_false, ite_true, ite_false, eq_self, not_false_eq_true, Nat.zero_le, true_and, and_true, and_self, Nat.reduceMod, Nat.reduceAdd, Nat.reduceLeDiff, Nat.reduceEqDiff, Nat.reduceLT, hlt, hkc, hkj, hw, hn, c_across hW hn h10 hk, g3]
  have h0 := jfold_loop (P := fun k a => Ex (d + 2) 189 4 [some (.ref 1731), some (.int w), some (.int a), some (.int (iN k))] [] μ Q) loop n 0 0 (by omega)
  have hge : ¬ iN n < iN n := iN_irr (by omega)
  have h1 : Ex (d + 2) 189 0 [some (.ref 1731), some (.int w), none, none] [] μ Q ↔ Ex (d + 2) 189 4 [some (.ref 1731), some (.int w), some (.int 0), some (.int (iN 0))] [] μ Q := by
    simp only [x189_0, x189_1a, x189_1b, x189_1c, x189_2, x189_3a, x189_3b, x189_3c, x189_5, x189_6, x189_9, x189_12, x189_13, x189_14, x189_15, x189_16, x189_19, x189_20, x189_23, x189_24, x189_27, x189_28, x189_29a, x189_29b, x189_29c, x189_30a, x189_30b, x189_30c, x189_33, x189_36, x189_37, mzi, mInc, mne, mlt9, mrk, mI1, mI2, mI3, mI4, mL1, mL2, mL3, mL4, mQ1, mQ2, mQ3, mQ4, mT1, mcat0, mcat1, mcat2, mcat3, mcat4, mrf1, jK_v, jK_n, JA, mz1, if_true, if_false, ite_true, ite_false, eq_self, not_false_eq_true, Nat.zero_le, true_and, and_true, and_self, Nat.reduceMod, Nat.reduceAdd, Nat.reduceLeDiff, Nat.reduceEqDiff, Nat.reduceLT, hw, hn]
  rw [h1, h0]
  simp only [x189_4, x189_0, x189_1a, x189_1b, x189_1c, x189_2, x189_3a, x189_3b, x189_3c, x189_5, x189_6, x189_9, x189_12, x189_13, x189_14, x189_15, x189_16, x189_19, x189_20, x189_23, x189_24, x189_27, x189_28, x189_29a, x189_29b, x189_29c, x189_30a, x189_30b, x189_30c, x189_33, x189_36, x189_37, mzi, mInc, mne, mlt9, mrk, mI1, mI2, mI3, mI4, mL1, mL2, mL3, mL4, mQ1, mQ2, mQ3, mQ4, mT1, mcat0, mcat1, mcat2, mcat3, mcat4, mrf1, jK_v, jK_n, JA, mz1, if_true, if_false, ite_true, ite_false, eq_self, not_false_eq_true, Nat.zero_le, true_and, and_true, and_self, Nat.reduceMod, Nat.reduceAdd, Nat.reduceLeDiff, Nat.reduceEqDiff, Nat.reduceLT, hge, hw, hn]
  rfl
theorem c_placen {v : Int32} (hW : jWd μ) (hw1 : jI μ 2567 16 = iN w) (hw2 : w ≤ 10) : Ex (d) 169 0 [some (.ref 2567), some (.int v), none] [] μ Q ↔ Q (.inl (some (.int (jfst (fun k => decide (jI μ 3344 k = v)) 0 (w - 0))))) μ := by
  have hw := hW
  unfold jWd at hw
  have hyes : ∀ k, 0 ≤ k → k < w → (jI μ 3344 k = v) → (Ex (d) 169 2 [some (.ref 2567), some (.int v), some (.int (iN k))] [] μ Q ↔ Q (.inl (some (.int (iN k)))) μ) := by
    intro k hlo hk hp
    have hlt : iN k < iN w := (iN_lt (by omega) (by omega)).mpr hk
    have hkc : (iN k).toNatClampNeg = k := iN_cl (by omega)
    have hkj : jin (iN k) 10 = true := iN_in (by omega) (by omega)
    have hlt9 : iN k < Int32.ofNat 10 := (iN_lt (by omega) (by omega)).mpr (by omega)
    rw [x169_2]
    simp only [x169_0, x169_1a, x169_1b, x169_1c, x169_3, x169_4, x169_7, x169_10, x169_11, x169_12, x169_15, x169_16, x169_19, x169_20, x169_23, x169_24, x169_25, x169_26, x169_29, x169_30, x169_31a, x169_31b, x169_31c, x169_34, x169_37, x169_38, mzi, mInc, mne, mlt9, mrk, mI1, mI2, mI3, mI4, mL1, mL2, mL3, mL4, mQ1, mQ2, mQ3, mQ4, mT1, mcat0, mcat1, mcat2, mcat3, mcat4, mrf1, jK_v, jK_n, JA, mz1, if_true, if_false, ite_true, ite_false, eq_self, not_false_eq_true, Nat.zero_le, true_and, and_true, and_self, Nat.reduceMod, Nat.reduceAdd, Nat.reduceLeDiff, Nat.reduceEqDiff, Nat.reduceLT, hlt, hkc, hkj, hp, hw, hw1, hlt9]
  have hno : ∀ k, 0 ≤ k → k < w → ¬ (jI μ 3344 k = v) → (Ex (d) 169 2 [some (.ref 2567), some (.int v), some (.int (iN k))] [] μ Q ↔ Ex (d) 169 2 [some (.ref 2567), some (.int v), some (.int (iN (k + 1)))] [] μ Q) := by
    intro k hlo hk hp
    have hlt : iN k < iN w := (iN_lt (by omega) (by omega)).mpr hk
    have hkc : (iN k).toNatClampNeg = k := iN_cl (by omega)
    have hkj : jin (iN k) 10 = true := iN_in (by omega) (by omega)
    have hlt9 : iN k < Int32.ofNat 10 := (iN_lt (by omega) (by omega)).mpr (by omega)
    rw [x169_2]
    simp only [x169_0, x169_1a, x169_1b, x169_1c, x169_3, x169_4, x169_7, x169_10, x169_11, x169_12, x169_15, x169_16, x169_19, x169_20, x169_23, x169_24, x169_25, x169_26, x169_29, x169_30, x169_31a, x169_31b, x169_31c, x169_34, x169_37, x169_38, mzi, mInc, mne, mlt9, mrk, mI1, mI2, mI3, mI4, mL1, mL2, mL3, mL4, mQ1, mQ2, mQ3, mQ4, mT1, mcat0, mcat1, mcat2, mcat3, mcat4, mrf1, jK_v, jK_n, JA, mz1, if_true, if_false, ite_true, ite_false, eq_self, not_false_eq_true, Nat.zero_le, true_and, and_true, and_self, Nat.reduceMod, Nat.reduceAdd, Nat.reduceLeDiff, Nat.reduceEqDiff, Nat.reduceLT, hlt, hkc, hkj, hp, hw, hw1, hlt9]
  have hge : ¬ iN w < iN w := iN_irr (by omega)
  have hend : Ex (d) 169 2 [some (.ref 2567), some (.int v), some (.int (iN (w)))] [] μ Q ↔ Q (.inl (some (.int (-1)))) μ := by
    simp only [x169_2, x169_0, x169_1a, x169_1b, x169_1c, x169_3, x169_4, x169_7, x169_10, x169_11, x169_12, x169_15, x169_16, x169_19, x169_20, x169_23, x169_24, x169_25, x169_26, x169_29, x169_30, x169_31a, x169_31b, x169_31c, x169_34, x169_37, x169_38, mzi, mInc, mne, mlt9, mrk, mI1, mI2, mI3, mI4, mL1, mL2, mL3, mL4, mQ1, mQ2, mQ3, mQ4, mT1, mcat0, mcat1, mcat2, mcat3, mcat4, mrf1, jK_v, jK_n, JA, mz1, if_true, if_false, ite_true, ite_false, eq_self, not_false_eq_true, Nat.zero_le, true_and, and_true, and_self, Nat.reduceMod, Nat.reduceAdd, Nat.reduceLeDiff, Nat.reduceEqDiff, Nat.reduceLT, hge, hw, hw1]
  have h1 : Ex (d) 169 0 [some (.ref 2567), some (.int v), none] [] μ Q ↔ Ex (d) 169 2 [some (.ref 2567), some (.int v), some (.int (iN 0))] [] μ Q := by
    simp only [x169_0, x169_1a, x169_1b, x169_1c, x169_3, x169_4, x169_7, x169_10, x169_11, x169_12, x169_15, x169_16, x169_19, x169_20, x169_23, x169_24, x169_25, x169_26, x169_29, x169_30, x169_31a, x169_31b, x169_31c, x169_34, x169_37, x169_38, mzi, mInc, mne, mlt9, mrk, mI1, mI2, mI3, mI4, mL1, mL2, mL3, mL4, mQ1, mQ2, mQ3, mQ4, mT1, mcat0, mcat1, mcat2, mcat3, mcat4, mrf1, jK_v, jK_n, JA, mz1, if_true, if_false, ite_true, ite_false, eq_self, not_false_eq_true, Nat.zero_le, true_and, and_true, and_self, Nat.reduceMod, Nat.reduceAdd, Nat.reduceLeDiff, Nat.reduceEqDiff, Nat.reduceLT, hw, hw1]
  rw [h1]
  exact jfst_loop (P := fun k => Ex (d) 169 2 [some (.ref 2567), some (.int v), some (.int (iN k))] [] μ Q) (R := fun x => Q (.inl (some (.int x))) μ) hyes hno hend (by omega)
theorem c_leaven {q : Nat} (hW : jWd μ) (hw1 : jI μ 2567 16 = iN w) (hw2 : w ≤ 10) (hq : q < w) : Ex d 170 0 [some (.ref 2567), some (.int (iN q)), none] [] μ Q ↔ Q (.inl none) (jsR (jsI μ 2567 16 (iN (w - 1))) 3344 (fun j => if q ≤ j ∧ j < w - 1 then jI μ 3344 (j + 1) else jI μ 3344 j)) := by
  have hw := hW
  unfold jWd at hw
  have loop : ∀ k, q ≤ k → k < w - 1 → (Ex d 170 12 [some (.ref 2567), some (.int (iN q)), some (.int (iN k))] [] (jsR (jsI μ 2567 16 (iN (w - 1))) 3344 (fun j => if q ≤ j ∧ j < k then jI μ 3344 (j + 1) else jI μ 3344 j)) Q ↔ Ex d 170 12 [some (.ref 2567), some (.int (iN q)), some (.int (iN (k + 1)))] [] (jsR (jsI μ 2567 16 (iN (w - 1))) 3344 (fun j => if q ≤ j ∧ j < k + 1 then jI μ 3344 (j + 1) else jI μ 3344 j)) Q) := by
    intro k hlo hk
    have hlt : iN k < iN (w - 1) := (iN_lt (by omega) (by omega)).mpr hk
    have hkc : (iN k).toNatClampNeg = k := iN_cl (by omega)
    have hkj : jin (iN k) 10 = true := iN_in (by omega) (by omega)
    have hkc1 : (iN (k + 1)).toNatClampNeg = k + 1 := iN_cl (by omega)
    have hkj1 : jin (iN (k + 1)) 10 = true := iN_in (by omega) (by omega)
    have hlt9 : iN (k + 1) < Int32.ofNat 10 := (iN_lt (by omega) (by omega)).mpr (by omega)
    have hf : ¬ (q ≤ k + 1 ∧ k + 1 < k) := by omega
    rw [x170_12]
    simp only [x170_0, x170_1a, x170_1b, x170_2, x170_5, x170_6, x170_7, x170_10, x170_11a, x170_11b, x170_11c, x170_13, x170_14, x170_17, x170_20, x170_21, x170_22, x170_23, x170_24, x170_27, x170_28, x170_31, x170_32, x170_35, x170_36, x170_37, x170_40, x170_41, x170_42, x170_43, x170_44, x170_45a, x170_45b, x170_45c, x170_48, x170_51, mzi, mInc, mne, mlt9, mrk, mI1, mI2, mI3, mI4, mL1, mL2, mL3, mL4, mQ1, mQ2, mQ3, mQ4, mT1, mcat0, mcat1, mcat2, mcat3, mcat4, mrf1, jK_v, jK_n, JA, mz1, if_true, if_false, ite_true, ite_false, eq_self, not_false_eq_true, Nat.zero_le, true_and, and_true, and_self, Nat.reduceMod, Nat.reduceAdd, Nat.reduceLeDiff, Nat.reduceEqDiff, Nat.reduceLT, hw, hlt, hkc, hkj, hkc1, hkj1, hlt9, mR1, mR2, mR3, mRI, hf]
    have he : (fun j => if j = k then jI μ 3344 (k + 1) else if q ≤ j ∧ j < k then jI μ 3344 (j + 1) else jI μ 3344 j) = (fun j => if q ≤ j ∧ j < k + 1 then jI μ 3344 (j + 1) else jI μ 3344 j) := by
      funext j
      by_cases e : j = k
      · rw [if_pos e, if_pos (by omega), e]
      · by_cases e2 : q ≤ j ∧ j < k
        · rw [if_neg e, if_pos e2, if_pos (by omega)]
        · rw [if_neg e, if_neg e2, if_neg (by omega)]
    rw [he]
  have h0 := jclimb (P := fun k => Ex d 170 12 [some (.ref 2567), some (.int (iN q)), some (.int (iN k))] [] (jsR (jsI μ 2567 16 (iN (w - 1))) 3344 (fun j => if q ≤ j ∧ j < k then jI μ 3344 (j + 1) else jI μ 3344 j)) Q) loop (by omega)
  have hge : ¬ iN (w - 1) < iN (w - 1) := iN_irr (by omega)
  have hm : iN w - 1 = iN (w - 1) := iN_pred (by omega)
  have h2 : jsR (jsI μ 2567 16 (iN (w - 1))) 3344 (fun j => if q ≤ j ∧ j < q then jI μ 3344 (j + 1) else jI μ 3344 j) = jsI μ 2567 16 (iN (w - 1)) := by
    refine jsR_id ?_
    funext j
    rw [if_neg (by omega), mI2 (by omega)]
  have h1 : Ex d 170 0 [some (.ref 2567), some (.int (iN q)), none] [] μ Q ↔ Ex d 170 12 [some (.ref 2567), some (.int (iN q)), some (.int (iN q))] [] (jsI μ 2567 16 (iN (w - 1))) Q := by
    simp only [x170_0, x170_1a, x170_1b, x170_2, x170_5, x170_6, x170_7, x170_10, x170_11a, x170_11b, x170_11c, x170_13, x170_14, x170_17, x170_20, x170_21, x170_22, x170_23, x170_24, x170_27, x170_28, x170_31, x170_32, x170_35, x170_36, x170_37, x170_40, x170_41, x170_42, x170_43, x170_44, x170_45a, x170_45b, x170_45c, x170_48, x170_51, mzi, mInc, mne, mlt9, mrk, mI1, mI2, mI3, mI4, mL1, mL2, mL3, mL4, mQ1, mQ2, mQ3, mQ4, mT1, mcat0, mcat1, mcat2, mcat3, mcat4, mrf1, jK_v, jK_n, JA, mz1, if_true, if_false, ite_true, ite_false, eq_self, not_false_eq_true, Nat.zero_le, true_and, and_true, and_self, Nat.reduceMod, Nat.reduceAdd, Nat.reduceLeDiff, Nat.reduceEqDiff, Nat.reduceLT, hw, hw1, hm]
  have h3 : Ex d 170 12 [some (.ref 2567), some (.int (iN q)), some (.int (iN q))] [] (jsI μ 2567 16 (iN (w - 1))) Q ↔ Ex d 170 12 [some (.ref 2567), some (.int (iN q)), some (.int (iN q))] [] (jsR (jsI μ 2567 16 (iN (w - 1))) 3344 (fun j => if q ≤ j ∧ j < q then jI μ 3344 (j + 1) else jI μ 3344 j)) Q := by rw [h2]
  rw [h1, h3, h0]
  simp only [x170_12, x170_0, x170_1a, x170_1b, x170_2, x170_5, x170_6, x170_7, x170_10, x170_11a, x170_11b, x170_11c, x170_13, x170_14, x170_17, x170_20, x170_21, x170_22, x170_23, x170_24, x170_27, x170_28, x170_31, x170_32, x170_35, x170_36, x170_37, x170_40, x170_41, x170_42, x170_43, x170_44, x170_45a, x170_45b, x170_45c, x170_48, x170_51, mzi, mInc, mne, mlt9, mrk, mI1, mI2, mI3, mI4, mL1, mL2, mL3, mL4, mQ1, mQ2, mQ3, mQ4, mT1, mcat0, mcat1, mcat2, mcat3, mcat4, mrf1, jK_v, jK_n, JA, mz1, if_true, if_false, ite_true, ite_false, eq_self, not_false_eq_true, Nat.zero_le, true_and, and_true, and_self, Nat.reduceMod, Nat.reduceAdd, Nat.reduceLeDiff, Nat.reduceEqDiff, Nat.reduceLT, hw, hge, mR1, mR2, mR3]
theorem c_placea {v : Int32} (hW : jWd μ) (hw1 : jI μ 3463 16 = iN w) (hw2 : w ≤ 10) : Ex (d) 169 0 [some (.ref 3463), some (.int v), none] [] μ Q ↔ Q (.inl (some (.int (jfst (fun k => decide (jI μ 4240 k = v)) 0 (w - 0))))) μ := by
  have hw := hW
  unfold jWd at hw
  have hyes : ∀ k, 0 ≤ k → k < w → (jI μ 4240 k = v) → (Ex (d) 169 2 [some (.ref 3463), some (.int v), some (.int (iN k))] [] μ Q ↔ Q (.inl (some (.int (iN k)))) μ) := by
    intro k hlo hk hp
    have hlt : iN k < iN w := (iN_lt (by omega) (by omega)).mpr hk
    have hkc : (iN k).toNatClampNeg = k := iN_cl (by omega)
    have hkj : jin (iN k) 10 = true := iN_in (by omega) (by omega)
    have hlt9 : iN k < Int32.ofNat 10 := (iN_lt (by omega) (by omega)).mpr (by omega)
    rw [x169_2]
    simp only [x169_0, x169_1a, x169_1b, x169_1c, x169_3, x169_4, x169_7, x169_10, x169_11, x169_12, x169_15, x169_16, x169_19, x169_20, x169_23, x169_24, x169_25, x169_26, x169_29, x169_30, x169_31a, x169_31b, x169_31c, x169_34, x169_37, x169_38, mzi, mInc, mne, mlt9, mrk, mI1, mI2, mI3, mI4, mL1, mL2, mL3, mL4, mQ1, mQ2, mQ3, mQ4, mT1, mcat0, mcat1, mcat2, mcat3, mcat4, mrf1, jK_v, jK_n, JA, mz1, if_true, if_false, ite_true, ite_false, eq_self, not_false_eq_true, Nat.zero_le, true_and, and_true, and_self, Nat.reduceMod, Nat.reduceAdd, Nat.reduceLeDiff, Nat.reduceEqDiff, Nat.reduceLT, hlt, hkc, hkj, hp, hw, hw1, hlt9]
  have hno : ∀ k, 0 ≤ k → k < w → ¬ (jI μ 4240 k = v) → (Ex (d) 169 2 [some (.ref 3463), some (.int v), some (.int (iN k))] [] μ Q ↔ Ex (d) 169 2 [some (.ref 3463), some (.int v), some (.int (iN (k + 1)))] [] μ Q) := by
    intro k hlo hk hp
    have hlt : iN k < iN w := (iN_lt (by omega) (by omega)).mpr hk
    have hkc : (iN k).toNatClampNeg = k := iN_cl (by omega)
    have hkj : jin (iN k) 10 = true := iN_in (by omega) (by omega)
    have hlt9 : iN k < Int32.ofNat 10 := (iN_lt (by omega) (by omega)).mpr (by omega)
    rw [x169_2]
    simp only [x169_0, x169_1a, x169_1b, x169_1c, x169_3, x169_4, x169_7, x169_10, x169_11, x169_12, x169_15, x169_16, x169_19, x169_20, x169_23, x169_24, x169_25, x169_26, x169_29, x169_30, x169_31a, x169_31b, x169_31c, x169_34, x169_37, x169_38, mzi, mInc, mne, mlt9, mrk, mI1, mI2, mI3, mI4, mL1, mL2, mL3, mL4, mQ1, mQ2, mQ3, mQ4, mT1, mcat0, mcat1, mcat2, mcat3, mcat4, mrf1, jK_v, jK_n, JA, mz1, if_true, if_false, ite_true, ite_false, eq_self, not_false_eq_true, Nat.zero_le, true_and, and_true, and_self, Nat.reduceMod, Nat.reduceAdd, Nat.reduceLeDiff, Nat.reduceEqDiff, Nat.reduceLT, hlt, hkc, hkj, hp, hw, hw1, hlt9]
  have hge : ¬ iN w < iN w := iN_irr (by omega)
  have hend : Ex (d) 169 2 [some (.ref 3463), some (.int v), some (.int (iN (w)))] [] μ Q ↔ Q (.inl (some (.int (-1)))) μ := by
    simp only [x169_2, x169_0, x169_1a, x169_1b, x169_1c, x169_3, x169_4, x169_7, x169_10, x169_11, x169_12, x169_15, x169_16, x169_19, x169_20, x169_23, x169_24, x169_25, x169_26, x169_29, x169_30, x169_31a, x169_31b, x169_31c, x169_34, x169_37, x169_38, mzi, mInc, mne, mlt9, mrk, mI1, mI2, mI3, mI4, mL1, mL2, mL3, mL4, mQ1, mQ2, mQ3, mQ4, mT1, mcat0, mcat1, mcat2, mcat3, mcat4, mrf1, jK_v, jK_n, JA, mz1, if_true, if_false, ite_true, ite_false, eq_self, not_false_eq_true, Nat.zero_le, true_and, and_true, and_self, Nat.reduceMod, Nat.reduceAdd, Nat.reduceLeDiff, Nat.reduceEqDiff, Nat.reduceLT, hge, hw, hw1]
  have h1 : Ex (d) 169 0 [some (.ref 3463), some (.int v), none] [] μ Q ↔ Ex (d) 169 2 [some (.ref 3463), some (.int v), some (.int (iN 0))] [] μ Q := by
    simp only [x169_0, x169_1a, x169_1b, x169_1c, x169_3, x169_4, x169_7, x169_10, x169_11, x169_12, x169_15, x169_16, x169_19, x169_20, x169_23, x169_24, x169_25, x169_26, x169_29, x169_30, x169_31a, x169_31b, x169_31c, x169_34, x169_37, x169_38, mzi, mInc, mne, mlt9, mrk, mI1, mI2, mI3, mI4, mL1, mL2, mL3, mL4, mQ1, mQ2, mQ3, mQ4, mT1, mcat0, mcat1, mcat2, mcat3, mcat4, mrf1, jK_v, jK_n, JA, mz1, if_true, if_false, ite_true, ite_false, eq_self, not_false_eq_true, Nat.zero_le, true_and, and_true, and_self, Nat.reduceMod, Nat.reduceAdd, Nat.reduceLeDiff, Nat.reduceEqDiff, Nat.reduceLT, hw, hw1]
  rw [h1]
  exact jfst_loop (P := fun k => Ex (d) 169 2 [some (.ref 3463), some (.int v), some (.int (iN k))] [] μ Q) (R := fun x => Q (.inl (some (.int x))) μ) hyes hno hend (by omega)
theorem c_leavea {q : Nat} (hW : jWd μ) (hw1 : jI μ 3463 16 = iN w) (hw2 : w ≤ 10) (hq : q < w) : Ex d 170 0 [some (.ref 3463), some (.int (iN q)), none] [] μ Q ↔ Q (.inl none) (jsR (jsI μ 3463 16 (iN (w - 1))) 4240 (fun j => if q ≤ j ∧ j < w - 1 then jI μ 4240 (j + 1) else jI μ 4240 j)) := by
  have hw := hW
  unfold jWd at hw
  have loop : ∀ k, q ≤ k → k < w - 1 → (Ex d 170 12 [some (.ref 3463), some (.int (iN q)), some (.int (iN k))] [] (jsR (jsI μ 3463 16 (iN (w - 1))) 4240 (fun j => if q ≤ j ∧ j < k then jI μ 4240 (j + 1) else jI μ 4240 j)) Q ↔ Ex d 170 12 [some (.ref 3463), some (.int (iN q)), some (.int (iN (k + 1)))] [] (jsR (jsI μ 3463 16 (iN (w - 1))) 4240 (fun j => if q ≤ j ∧ j < k + 1 then jI μ 4240 (j + 1) else jI μ 4240 j)) Q) := by
    intro k hlo hk
    have hlt : iN k < iN (w - 1) := (iN_lt (by omega) (by omega)).mpr hk
    have hkc : (iN k).toNatClampNeg = k := iN_cl (by omega)
    have hkj : jin (iN k) 10 = true := iN_in (by omega) (by omega)
    have hkc1 : (iN (k + 1)).toNatClampNeg = k + 1 := iN_cl (by omega)
    have hkj1 : jin (iN (k + 1)) 10 = true := iN_in (by omega) (by omega)
    have hlt9 : iN (k + 1) < Int32.ofNat 10 := (iN_lt (by omega) (by omega)).mpr (by omega)
    have hf : ¬ (q ≤ k + 1 ∧ k + 1 < k) := by omega
    rw [x170_12]
    simp only [x170_0, x170_1a, x170_1b, x170_2, x170_5, x170_6, x170_7, x170_10, x170_11a, x170_11b, x170_11c, x170_13, x170_14, x170_17, x170_20, x170_21, x170_22, x170_23, x170_24, x170_27, x170_28, x170_31, x170_32, x170_35, x170_36, x170_37, x170_40, x170_41, x170_42, x170_43, x170_44, x170_45a, x170_45b, x170_45c, x170_48, x170_51, mzi, mInc, mne, mlt9, mrk, mI1, mI2, mI3, mI4, mL1, mL2, mL3, mL4, mQ1, mQ2, mQ3, mQ4, mT1, mcat0, mcat1, mcat2, mcat3, mcat4, mrf1, jK_v, jK_n, JA, mz1, if_true, if_false, ite_true, ite_false, eq_self, not_false_eq_true, Nat.zero_le, true_and, and_true, and_self, Nat.reduceMod, Nat.reduceAdd, Nat.reduceLeDiff, Nat.reduceEqDiff, Nat.reduceLT, hw, hlt, hkc, hkj, hkc1, hkj1, hlt9, mR1, mR2, mR3, mRI, hf]
    have he : (fun j => if j = k then jI μ 4240 (k + 1) else if q ≤ j ∧ j < k then jI μ 4240 (j + 1) else jI μ 4240 j) = (fun j => if q ≤ j ∧ j < k + 1 then jI μ 4240 (j + 1) else jI μ 4240 j) := by
      funext j
      by_cases e : j = k
      · rw [if_pos e, if_pos (by omega), e]
      · by_cases e2 : q ≤ j ∧ j < k
        · rw [if_neg e, if_pos e2, if_pos (by omega)]
        · rw [if_neg e, if_neg e2, if_neg (by omega)]
    rw [he]
  have h0 := jclimb (P := fun k => Ex d 170 12 [some (.ref 3463), some (.int (iN q)), some (.int (iN k))] [] (jsR (jsI μ 3463 16 (iN (w - 1))) 4240 (fun j => if q ≤ j ∧ j < k then jI μ 4240 (j + 1) else jI μ 4240 j)) Q) loop (by omega)
  have hge : ¬ iN (w - 1) < iN (w - 1) := iN_irr (by omega)
  have hm : iN w - 1 = iN (w - 1) := iN_pred (by omega)
  have h2 : jsR (jsI μ 3463 16 (iN (w - 1))) 4240 (fun j => if q ≤ j ∧ j < q then jI μ 4240 (j + 1) else jI μ 4240 j) = jsI μ 3463 16 (iN (w - 1)) := by
    refine jsR_id ?_
    funext j
    rw [if_neg (by omega), mI2 (by omega)]
  have h1 : Ex d 170 0 [some (.ref 3463), some (.int (iN q)), none] [] μ Q ↔ Ex d 170 12 [some (.ref 3463), some (.int (iN q)), some (.int (iN q))] [] (jsI μ 3463 16 (iN (w - 1))) Q := by
    simp only [x170_0, x170_1a, x170_1b, x170_2, x170_5, x170_6, x170_7, x170_10, x170_11a, x170_11b, x170_11c, x170_13, x170_14, x170_17, x170_20, x170_21, x170_22, x170_23, x170_24, x170_27, x170_28, x170_31, x170_32, x170_35, x170_36, x170_37, x170_40, x170_41, x170_42, x170_43, x170_44, x170_45a, x170_45b, x170_45c, x170_48, x170_51, mzi, mInc, mne, mlt9, mrk, mI1, mI2, mI3, mI4, mL1, mL2, mL3, mL4, mQ1, mQ2, mQ3, mQ4, mT1, mcat0, mcat1, mcat2, mcat3, mcat4, mrf1, jK_v, jK_n, JA, mz1, if_true, if_false, ite_true, ite_false, eq_self, not_false_eq_true, Nat.zero_le, true_and, and_true, and_self, Nat.reduceMod, Nat.reduceAdd, Nat.reduceLeDiff, Nat.reduceEqDiff, Nat.reduceLT, hw, hw1, hm]
  have h3 : Ex d 170 12 [some (.ref 3463), some (.int (iN q)), some (.int (iN q))] [] (jsI μ 3463 16 (iN (w - 1))) Q ↔ Ex d 170 12 [some (.ref 3463), some (.int (iN q)), some (.int (iN q))] [] (jsR (jsI μ 3463 16 (iN (w - 1))) 4240 (fun j => if q ≤ j ∧ j < q then jI μ 4240 (j + 1) else jI μ 4240 j)) Q := by rw [h2]
  rw [h1, h3, h0]
  simp only [x170_12, x170_0, x170_1a, x170_1b, x170_2, x170_5, x170_6, x170_7, x170_10, x170_11a, x170_11b, x170_11c, x170_13, x170_14, x170_17, x170_20, x170_21, x170_22, x170_23, x170_24, x170_27, x170_28, x170_31, x170_32, x170_35, x170_36, x170_37, x170_40, x170_41, x170_42, x170_43, x170_44, x170_45a, x170_45b, x170_45c, x170_48, x170_51, mzi, mInc, mne, mlt9, mrk, mI1, mI2, mI3, mI4, mL1, mL2, mL3, mL4, mQ1, mQ2, mQ3, mQ4, mT1, mcat0, mcat1, mcat2, mcat3, mcat4, mrf1, jK_v, jK_n, JA, mz1, if_true, if_false, ite_true, ite_false, eq_self, not_false_eq_true, Nat.zero_le, true_and, and_true, and_self, Nat.reduceMod, Nat.reduceAdd, Nat.reduceLeDiff, Nat.reduceEqDiff, Nat.reduceLT, hw, hge, mR1, mR2, mR3]
end C4
