/-! THE PURE PART: the smallest methods. -/
def jbit (s m : Int32) : Int32 := if (s >>> (m &&& 31)) &&& 1 = 1 then 1 else 0
def jhas (l n m : Int32) : Int32 := if l < 0 then 0 else if l < n then if l < m then 1 else 0 else 0
theorem jhas_in {l n m : Nat} (h : l < n) (h2 : n ≤ m) (h3 : m < 2 ^ 31) : jhas (iN l) (iN n) (iN m) = 1 := by
  unfold jhas
  rw [if_neg (iN_nn (by omega)), if_pos ((iN_lt (by omega) (by omega)).mpr h), if_pos ((iN_lt (by omega) (by omega)).mpr (by omega))]
theorem jhas_no {x : Int32} {n m : Nat} (h : ¬ ∃ k, k < n ∧ x = iN k) (h2 : n ≤ m) (h3 : m < 2 ^ 31) : jhas x (iN n) (iN m) = 0 := by
  unfold jhas
  by_cases h0 : x < 0
  · rw [if_pos h0]
  · obtain ⟨k, hk, rfl⟩ := iN_pos h0
    rw [if_neg h0, if_neg]
    intro hl
    exact h ⟨k, (iN_lt hk (by omega)).mp hl, rfl⟩
section C1
variable {d : Nat} {μ : jM} {Q : jO → jM → Prop}
theorem c_has {s m : Int32} : Ex d 188 0 [some (.int s), some (.int m)] [] μ Q ↔ Q (.inl (some (.int (jbit s m)))) μ := by
  simp only [x188_0, x188_1, x188_2, x188_3, x188_4, x188_5, x188_6, x188_9, x188_10, x188_13, x188_14, mrk]
  unfold jbit
  split <;> rfl
theorem c_hasLine {x : Nat} {l : Int32} (h : x % 64 = 3) : Ex d 84 0 [some (.ref x), some (.int l)] [] μ Q ↔ Q (.inl (some (.int (jhas l (jI μ x 1) 10)))) μ := by
  simp only [x84_0, x84_1, x84_4, x84_5, x84_6, x84_9, x84_12, x84_13, x84_15, x84_18, x84_19, x84_22, x84_23, mrk, h]
  unfold jhas
  repeat' split
  all_goals rfl
theorem c_put {a n : Nat} {k v : Int32} (h1 : jty a = 0) (h2 : jmade a = true) (h3 : ∀ μ, jln a μ = n) (hn : n < 2 ^ 31) : Ex d 75 0 [some (.ref a), some (.int k), some (.int v)] [] μ Q ↔ Q (.inl none) (if k < 0 then μ else if k < iN n then jsI μ a k.toNatClampNeg v else μ) := by
  have h4 : jty a < 9 := by omega
  by_cases hk : k < 0
  · simp only [x75_0, x75_1, x75_4, x75_5, x75_6, x75_7, x75_10, x75_11, x75_12, x75_13, x75_14, hk, if_true]
  · by_cases hk2 : k < iN n
    · have h5 : jin k (jln a μ) = true := by rw [h3]; exact jin_of hk hk2 hn
      simp only [x75_0, x75_1, x75_4, x75_5, x75_6, x75_7, x75_10, x75_11, x75_12, x75_13, x75_14, hk, hk2, h1, h2, h3, mlt9, h5, if_true, if_false, jin_of hk hk2 hn]
    · simp only [x75_0, x75_1, x75_4, x75_5, x75_6, x75_7, x75_10, x75_11, x75_12, x75_13, x75_14, hk, hk2, h1, h2, h3, mlt9, if_true, if_false]
theorem c_maden {k : Nat} (hW : jWd μ) (hk : k < 10) : Ex d 140 0 [some (.ref 2567), some (.int (iN k))] [] μ Q ↔ Q (.inl (some (.int (if jI μ 3024 k = 0 then 0 else 1)))) μ := by
  have hw := hW
  unfold jWd at hw
  have hc : (iN k).toNatClampNeg = k := iN_cl (by omega)
  have hj : jin (iN k) 10 = true := iN_in hk (by omega)
  simp only [x140_0, x140_1, x140_4, x140_5, x140_6, x140_9, x140_10, x140_13, x140_14, mzi, mInc, mne, mlt9, mrk, mI1, mI2, mI3, mI4, mL1, mL2, mL3, mL4, mQ1, mQ2, mQ3, mQ4, mT1, mcat0, mcat1, mcat2, mcat3, mcat4, mrf1, jK_v, jK_n, JA, mz1, if_true, if_false, ite_true, ite_false, eq_self, not_false_eq_true, Nat.zero_le, true_and, and_true, and_self, Nat.reduceMod, Nat.reduceAdd, Nat.reduceLeDiff, Nat.reduceEqDiff, Nat.reduceLT, hw, hc, hj, mrk]
  split <;> rfl
theorem c_madea {k : Nat} (hW : jWd μ) (hk : k < 10) : Ex d 140 0 [some (.ref 3463), some (.int (iN k))] [] μ Q ↔ Q (.inl (some (.int (if jI μ 3920 k = 0 then 0 else 1)))) μ := by
  have hw := hW
  unfold jWd at hw
  have hc : (iN k).toNatClampNeg = k := iN_cl (by omega)
  have hj : jin (iN k) 10 = true := iN_in hk (by omega)
  simp only [x140_0, x140_1, x140_4, x140_5, x140_6, x140_9, x140_10, x140_13, x140_14, mzi, mInc, mne, mlt9, mrk, mI1, mI2, mI3, mI4, mL1, mL2, mL3, mL4, mQ1, mQ2, mQ3, mQ4, mT1, mcat0, mcat1, mcat2, mcat3, mcat4, mrf1, jK_v, jK_n, JA, mz1, if_true, if_false, ite_true, ite_false, eq_self, not_false_eq_true, Nat.zero_le, true_and, and_true, and_self, Nat.reduceMod, Nat.reduceAdd, Nat.reduceLeDiff, Nat.reduceEqDiff, Nat.reduceLT, hw, hc, hj, mrk]
  split <;> rfl
end C1
