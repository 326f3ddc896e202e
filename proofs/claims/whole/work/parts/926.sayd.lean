/-! THE PURE PART: what a token tells, reference. -/
/-- the reference, as it holds what was read against what was told -/
def jSb (B : jM) (r : Nat) (kd : Nat → Nat) (N : Nat) (b : Nat → Int32) (sz : Nat) : Prop := jR0 B r kd N b sz ∧ (∀ k, k < N - 1 → jI B 4825 k = iN (kRole kd k)) ∧ ∀ k, k < N - 1 → kd k = 37 → jI B 4761 k = iN (kTl b sz k) ∧ kGoo b (kTs b sz k) (kTl b sz k) ∧ kTs b sz k + kTl b sz k ≤ sz
/-- the same name -/
def kSm (b : Nat → Int32) (sz k t : Nat) : Prop := kTl b sz k = kTl b sz t ∧ ∀ j, j < kTl b sz k → b (kTs b sz k + j) = b (kTs b sz t + j)
/-- what a look for a name finds -/
def kTv (kd : Nat → Nat) (b : Nat → Int32) (sz c t : Nat) (v : Int32) : Prop := (v = -1 ∧ ∀ k, k < t → kRole kd k = c → ¬ kSm b sz k t) ∨ ∃ k, k < t ∧ kRole kd k = c ∧ kSm b sz k t ∧ v = iN (kCn kd c k) ∧ ∀ j, j < k → kRole kd j = c → ¬ kSm b sz j t
section SAYD
variable {d : Nat} {μ : jM} {Q : jO → jM → Prop} {kd : Nat → Nat} {N r sz k t c n : Nat} {b : Nat → Int32}
theorem kRole_37 (h : kRole kd k = c) (hc : c = 1 ∨ c = 2 ∨ c = 3 ∨ 9 ≤ c) : kd k = 37 := by
  unfold kRole at h
  by_cases a : kd k = 37
  · exact a
  · rw [if_neg a] at h
    repeat' split at h
    all_goals omega
theorem kRole_38 (h : kRole kd k = c) (hc : 5 ≤ c ∧ c ≤ 8) : kd k = 38 := by
  unfold kRole at h
  by_cases a : kd k = 37
  · rw [if_pos a] at h
    repeat' split at h
    all_goals omega
  · rw [if_neg a] at h
    by_cases a2 : kd k = 38
    · exact a2
    · rw [if_neg a2] at h
      split at h <;> omega
theorem kRole_lt (kd : Nat → Nat) (k : Nat) : kRole kd k ≤ 15 := by
  unfold kRole
  repeat' split
  all_goals omega
theorem kCn_le (kd : Nat → Nat) (x : Nat) : ∀ i, kCn kd x i ≤ i
  | 0 => Nat.le_refl _
  | i + 1 => by
    have := kCn_le kd x i
    rw [kCn_s]
    split <;> omega
theorem d_same (h : jSb μ r kd N b sz) (hk : k < N - 1) (ht : t < N - 1) (hk7 : kd k = 37) (ht7 : kd t = 37) : ∃ v : Int32, (v = 1 ∧ kSm b sz k t ∨ v = 0 ∧ ¬ kSm b sz k t) ∧ ∀ (d : Nat) (Q : jO → jM → Prop), (Ex d 131 0 [some (.ref 4490), some (.int (iN k)), some (.int (iN t)), none] [] μ Q ↔ Q (.inl (some (.int v))) μ) := by
  obtain ⟨h0, _, h2⟩ := h
  have hw := h0.1
  unfold jWd at hw
  have hN2 := h0.2.1.2.1
  obtain ⟨t1, t2, t3, t4⟩ := h0.2.2.2.2.2.1
  have f1 := (h0.2.2.2.2.2.2 k (by omega)).2.1
  have f2 := (h0.2.2.2.2.2.2 t (by omega)).2.1
  obtain ⟨g1, g2, g3⟩ := h2 k hk hk7
  obtain ⟨g4, g5, g6⟩ := h2 t ht ht7
  have g21 := g2.1
  have g51 := g5.1
  have kc : (iN k).toNatClampNeg = k := iN_cl (by omega)
  have kj : jin (iN k) 401 = true := iN_in (by omega) (by omega)
  have tc : (iN t).toNatClampNeg = t := iN_cl (by omega)
  have tj : jin (iN t) 401 = true := iN_in (by omega) (by omega)
  have heq : (iN (kTl b sz k) = iN (kTl b sz t)) = (kTl b sz k = kTl b sz t) := propext ⟨fun e => (iN_eq (by omega) (by omega)).mp e, fun e => by rw [e]⟩
  unfold kSm
  generalize kTs b sz k = a1 at *
  generalize kTl b sz k = l1 at *
  generalize kTs b sz t = a2 at *
  generalize kTl b sz t = l2 at *
  by_cases e : l1 = l2
  rotate_left
  · have e' := eq_false e
    refine ⟨0, Or.inr ⟨rfl, fun q => e q.1⟩, fun d Q => ?_⟩
    simp only [x131_0, x131_1, x131_4, x131_5, x131_6, x131_7, x131_10, x131_11, x131_12, x131_15, x131_16, x131_17, x131_18a, x131_18b, x131_18c, x131_20, x131_21, x131_24, x131_25, x131_26, x131_29, x131_30, x131_33, x131_34, x131_37, x131_38, x131_39, x131_40, x131_41, x131_42, x131_43, x131_46, x131_47, x131_50, x131_51, x131_52, x131_53, x131_54, x131_55, x131_58, x131_59, x131_60a, x131_60b, x131_60c, x131_63, x131_66, x131_67, mzi, mInc, mne, mlt9, mrk, mI1, mI2, mI3, mI4, mL1, mL2, mL3, mL4, mQ1, mQ2, mQ3, mQ4, mT1, mcat0, mcat1, mcat2, mcat3, mcat4, mrf1, jK_v, jK_n, JA, mz1, if_true, if_false, ite_true, ite_false, eq_self, not_false_eq_true, Nat.zero_le, true_and, and_true, and_self, Nat.reduceMod, Nat.reduceAdd, Nat.reduceLeDiff, Nat.reduceEqDiff, Nat.reduceLT, hw, g1, g4, kc, kj, tc, tj, heq, e']
  subst e
  have it : ∀ (d : Nat) (Q : jO → jM → Prop) i, i < l1 → (Ex d 131 19 [some (.ref 4490), some (.int (iN k)), some (.int (iN t)), some (.int (iN i))] [] μ Q ↔ if b (a1 + i) = b (a2 + i) then Ex d 131 19 [some (.ref 4490), some (.int (iN k)), some (.int (iN t)), some (.int (iN (i + 1)))] [] μ Q else Q (.inl (some (.int 0))) μ) := by
    intro d Q i hi
    have hlt : iN i < iN l1 := (iN_lt (by omega) (by omega)).mpr hi
    have s1 : iN a1 + iN i = iN (a1 + i) := iN_add
    have s2 : iN a2 + iN i = iN (a2 + i) := iN_add
    have c1 : (iN (a1 + i)).toNatClampNeg = a1 + i := iN_cl (by omega)
    have j1 : jin (iN (a1 + i)) 2000 = true := iN_in (by omega) (by omega)
    have c2 : (iN (a2 + i)).toNatClampNeg = a2 + i := iN_cl (by omega)
    have j2 : jin (iN (a2 + i)) 2000 = true := iN_in (by omega) (by omega)
    have b1 := t3 (a1 + i) (by omega)
    have b2 := t3 (a2 + i) (by omega)
    rw [x131_19]
    by_cases q : b (a1 + i) = b (a2 + i)
    · rw [if_pos q]
      rw [q] at b1
      simp only [x131_0, x131_1, x131_4, x131_5, x131_6, x131_7, x131_10, x131_11, x131_12, x131_15, x131_16, x131_17, x131_18a, x131_18b, x131_18c, x131_20, x131_21, x131_24, x131_25, x131_26, x131_29, x131_30, x131_33, x131_34, x131_37, x131_38, x131_39, x131_40, x131_41, x131_42, x131_43, x131_46, x131_47, x131_50, x131_51, x131_52, x131_53, x131_54, x131_55, x131_58, x131_59, x131_60a, x131_60b, x131_60c, x131_63, x131_66, x131_67, mzi, mInc, mne, mlt9, mrk, mI1, mI2, mI3, mI4, mL1, mL2, mL3, mL4, mQ1, mQ2, mQ3, mQ4, mT1, mcat0, mcat1, mcat2, mcat3, mcat4, mrf1, jK_v, jK_n, JA, mz1, if_true, if_false, ite_true, ite_false, eq_self, not_false_eq_true, Nat.zero_le, true_and, and_true, and_self, Nat.reduceMod, Nat.reduceAdd, Nat.reduceLeDiff, Nat.reduceEqDiff, Nat.reduceLT, hw, f1, f2, g1, kc, kj, tc, tj, hlt, s1, s2, c1, c2, j1, j2, b1, b2]
    · have q' := eq_false q
      rw [if_neg q]
      simp only [x131_0, x131_1, x131_4, x131_5, x131_6, x131_7, x131_10, x131_11, x131_12, x131_15, x131_16, x131_17, x131_18a, x131_18b, x131_18c, x131_20, x131_21, x131_24, x131_25, x131_26, x131_29, x131_30, x131_33, x131_34, x131_37, x131_38, x131_39, x131_40, x131_41, x131_42, x131_43, x131_46, x131_47, x131_50, x131_51, x131_52, x131_53, x131_54, x131_55, x131_58, x131_59, x131_60a, x131_60b, x131_60c, x131_63, x131_66, x131_67, mzi, mInc, mne, mlt9, mrk, mI1, mI2, mI3, mI4, mL1, mL2, mL3, mL4, mQ1, mQ2, mQ3, mQ4, mT1, mcat0, mcat1, mcat2, mcat3, mcat4, mrf1, jK_v, jK_n, JA, mz1, if_true, if_false, ite_true, ite_false, eq_self, not_false_eq_true, Nat.zero_le, true_and, and_true, and_self, Nat.reduceMod, Nat.reduceAdd, Nat.reduceLeDiff, Nat.reduceEqDiff, Nat.reduceLT, hw, f1, f2, g1, kc, kj, tc, tj, hlt, s1, s2, c1, c2, j1, j2, b1, b2, q']
  have hend : ∀ (d : Nat) (Q : jO → jM → Prop), (Ex d 131 19 [some (.ref 4490), some (.int (iN k)), some (.int (iN t)), some (.int (iN l1))] [] μ Q ↔ Q (.inl (some (.int 1))) μ) := by
    intro d Q
    have hge : ¬ iN l1 < iN l1 := iN_irr (by omega)
    rw [x131_19]
    simp only [x131_0, x131_1, x131_4, x131_5, x131_6, x131_7, x131_10, x131_11, x131_12, x131_15, x131_16, x131_17, x131_18a, x131_18b, x131_18c, x131_20, x131_21, x131_24, x131_25, x131_26, x131_29, x131_30, x131_33, x131_34, x131_37, x131_38, x131_39, x131_40, x131_41, x131_42, x131_43, x131_46, x131_47, x131_50, x131_51, x131_52, x131_53, x131_54, x131_55, x131_58, x131_59, x131_60a, x131_60b, x131_60c, x131_63, x131_66, x131_67, mzi, mInc, mne, mlt9, mrk, mI1, mI2, mI3, mI4, mL1, mL2, mL3, mL4, mQ1, mQ2, mQ3, mQ4, mT1, mcat0, mcat1, mcat2, mcat3, mcat4, mrf1, jK_v, jK_n, JA, mz1, if_true, if_false, ite_true, ite_false, eq_self, not_false_eq_true, Nat.zero_le, true_and, and_true, and_self, Nat.reduceMod, Nat.reduceAdd, Nat.reduceLeDiff, Nat.reduceEqDiff, Nat.reduceLT, hw, g1, kc, kj, hge]
  have hrun : ∀ m i, i + m = l1 → (∀ j, j < i → b (a1 + j) = b (a2 + j)) → ∃ v : Int32, (v = 1 ∧ (l1 = l1 ∧ ∀ j, j < l1 → b (a1 + j) = b (a2 + j)) ∨ v = 0 ∧ ¬ (l1 = l1 ∧ ∀ j, j < l1 → b (a1 + j) = b (a2 + j))) ∧ ∀ (d : Nat) (Q : jO → jM → Prop), (Ex d 131 19 [some (.ref 4490), some (.int (iN k)), some (.int (iN t)), some (.int (iN i))] [] μ Q ↔ Q (.inl (some (.int v))) μ) := by
    intro m
    induction m with
    | zero =>
      intro i hi hj
      have e : i = l1 := by omega
      subst e
      exact ⟨1, Or.inl ⟨rfl, rfl, hj⟩, hend⟩
    | succ m ih =>
      intro i hi hj
      by_cases q : b (a1 + i) = b (a2 + i)
      · obtain ⟨v, h1, h2⟩ := ih (i + 1) (by omega) (fun j hj2 => by
          by_cases e : j = i
          · rw [e]; exact q
          · exact hj j (by omega))
        exact ⟨v, h1, fun d Q => by rw [it d Q i (by omega), if_pos q]; exact h2 d Q⟩
      · exact ⟨0, Or.inr ⟨rfl, fun h => q (h.2 i (by omega))⟩, fun d Q => by rw [it d Q i (by omega), if_neg q]⟩
  obtain ⟨v, h1, h2⟩ := hrun l1 0 (by omega) (fun j hj => absurd hj (by omega))
  refine ⟨v, h1, fun d Q => ?_⟩
  refine Iff.trans ?_ (h2 d Q)
  have z := eq_true (rfl : l1 = l1)
  simp only [x131_0, x131_1, x131_4, x131_5, x131_6, x131_7, x131_10, x131_11, x131_12, x131_15, x131_16, x131_17, x131_18a, x131_18b, x131_18c, x131_20, x131_21, x131_24, x131_25, x131_26, x131_29, x131_30, x131_33, x131_34, x131_37, x131_38, x131_39, x131_40, x131_41, x131_42, x131_43, x131_46, x131_47, x131_50, x131_51, x131_52, x131_53, x131_54, x131_55, x131_58, x131_59, x131_60a, x131_60b, x131_60c, x131_63, x131_66, x131_67, mzi, mInc, mne, mlt9, mrk, mI1, mI2, mI3, mI4, mL1, mL2, mL3, mL4, mQ1, mQ2, mQ3, mQ4, mT1, mcat0, mcat1, mcat2, mcat3, mcat4, mrf1, jK_v, jK_n, JA, mz1, if_true, if_false, ite_true, ite_false, eq_self, not_false_eq_true, Nat.zero_le, true_and, and_true, and_self, Nat.reduceMod, Nat.reduceAdd, Nat.reduceLeDiff, Nat.reduceEqDiff, Nat.reduceLT, hw, g1, g4, kc, kj, tc, tj]
theorem d_told (h : jSb μ r kd N b sz) (ht : t < N - 1) (ht7 : kd t = 37) (hc : c = 1 ∨ c = 2 ∨ c = 3) : ∃ v, kTv kd b sz c t v ∧ ∀ (d : Nat) (Q : jO → jM → Prop), (Ex (d + 1) 130 0 [some (.ref 4490), some (.int (iN t)), some (.int (iN c)), none, none] [] μ Q ↔ Q (.inl (some (.int v))) μ) := by
  have h' := h
  obtain ⟨h0, h1, _⟩ := h'
  have hw := h0.1
  unfold jWd at hw
  have hN2 := h0.2.1.2.1
  have step : ∀ k, k < t → (kRole kd k = c → kSm b sz k t → ∀ (d : Nat) (Q : jO → jM → Prop), (Ex (d + 1) 130 5 [some (.ref 4490), some (.int (iN t)), some (.int (iN c)), some (.int (iN (kCn kd c k))), some (.int (iN k))] [] μ Q ↔ Q (.inl (some (.int (iN (kCn kd c k))))) μ)) ∧ ((kRole kd k = c → ¬ kSm b sz k t) → ∀ (d : Nat) (Q : jO → jM → Prop), (Ex (d + 1) 130 5 [some (.ref 4490), some (.int (iN t)), some (.int (iN c)), some (.int (iN (kCn kd c k))), some (.int (iN k))] [] μ Q ↔ Ex (d + 1) 130 5 [some (.ref 4490), some (.int (iN t)), some (.int (iN c)), some (.int (iN (kCn kd c (k + 1)))), some (.int (iN (k + 1)))] [] μ Q)) := by
    intro k hk
    have hlt : iN k < iN t := (iN_lt (by omega) (by omega)).mpr hk
    have kc : (iN k).toNatClampNeg = k := iN_cl (by omega)
    have kj : jin (iN k) 401 = true := iN_in (by omega) (by omega)
    have hrl := h1 k (by omega)
    have hr15 := kRole_lt kd k
    have heq : (iN (kRole kd k) = iN c) = (kRole kd k = c) := propext ⟨fun e => (iN_eq (by omega) (by omega)).mp e, fun e => by rw [e]⟩
    by_cases g : kRole kd k = c
    · have g' := eq_true g
      obtain ⟨v, v1, v2⟩ := d_same h (show k < N - 1 by omega) ht (kRole_37 g (by omega)) ht7
      refine ⟨fun _ hs d Q => ?_, fun hs d Q => ?_⟩
      · have hv : v = 1 := v1.elim (fun q => q.1) (fun q => absurd hs q.2)
        rw [hv] at v2
        rw [x130_5]
        simp only [x130_0, x130_1a, x130_1b, x130_1c, x130_2, x130_3a, x130_3b, x130_3c, x130_7, x130_8, x130_11, x130_12, x130_15, x130_17, x130_18, x130_19, x130_22, x130_25, x130_26, x130_28, x130_29, x130_32, x130_35, x130_36, x130_37a, x130_37b, x130_37c, x130_40a, x130_40b, x130_40c, x130_43, x130_46, x130_47, mzi, mInc, mne, mlt9, mrk, mI1, mI2, mI3, mI4, mL1, mL2, mL3, mL4, mQ1, mQ2, mQ3, mQ4, mT1, mcat0, mcat1, mcat2, mcat3, mcat4, mrf1, jK_v, jK_n, JA, mz1, if_true, if_false, ite_true, ite_false, eq_self, not_false_eq_true, Nat.zero_le, true_and, and_true, and_self, Nat.reduceMod, Nat.reduceAdd, Nat.reduceLeDiff, Nat.reduceEqDiff, Nat.reduceLT, hw, hlt, kc, kj, hrl, heq, g', v2]
      · have hv : v = 0 := v1.elim (fun q => absurd q.2 (hs g)) (fun q => q.1)
        rw [hv] at v2
        have hinc : kCn kd c (k + 1) = kCn kd c k + 1 := by rw [kCn_s, if_pos g]
        rw [x130_5, hinc]
        simp only [x130_0, x130_1a, x130_1b, x130_1c, x130_2, x130_3a, x130_3b, x130_3c, x130_7, x130_8, x130_11, x130_12, x130_15, x130_17, x130_18, x130_19, x130_22, x130_25, x130_26, x130_28, x130_29, x130_32, x130_35, x130_36, x130_37a, x130_37b, x130_37c, x130_40a, x130_40b, x130_40c, x130_43, x130_46, x130_47, mzi, mInc, mne, mlt9, mrk, mI1, mI2, mI3, mI4, mL1, mL2, mL3, mL4, mQ1, mQ2, mQ3, mQ4, mT1, mcat0, mcat1, mcat2, mcat3, mcat4, mrf1, jK_v, jK_n, JA, mz1, if_true, if_false, ite_true, ite_false, eq_self, not_false_eq_true, Nat.zero_le, true_and, and_true, and_self, Nat.reduceMod, Nat.reduceAdd, Nat.reduceLeDiff, Nat.reduceEqDiff, Nat.reduceLT, hw, hlt, kc, kj, hrl, heq, g', v2]
    · have g' := eq_false g
      refine ⟨fun q => absurd q g, fun _ d Q => ?_⟩
      have hinc : kCn kd c (k + 1) = kCn kd c k := by rw [kCn_s, if_neg g]; rfl
      rw [x130_5, hinc]
      simp only [x130_0, x130_1a, x130_1b, x130_1c, x130_2, x130_3a, x130_3b, x130_3c, x130_7, x130_8, x130_11, x130_12, x130_15, x130_17, x130_18, x130_19, x130_22, x130_25, x130_26, x130_28, x130_29, x130_32, x130_35, x130_36, x130_37a, x130_37b, x130_37c, x130_40a, x130_40b, x130_40c, x130_43, x130_46, x130_47, mzi, mInc, mne, mlt9, mrk, mI1, mI2, mI3, mI4, mL1, mL2, mL3, mL4, mQ1, mQ2, mQ3, mQ4, mT1, mcat0, mcat1, mcat2, mcat3, mcat4, mrf1, jK_v, jK_n, JA, mz1, if_true, if_false, ite_true, ite_false, eq_self, not_false_eq_true, Nat.zero_le, true_and, and_true, and_self, Nat.reduceMod, Nat.reduceAdd, Nat.reduceLeDiff, Nat.reduceEqDiff, Nat.reduceLT, hw, hlt, kc, kj, hrl, heq, g']
  have hrun : ∀ m k, k + m = t → (∀ j, j < k → kRole kd j = c → ¬ kSm b sz j t) → ∃ v, kTv kd b sz c t v ∧ ∀ (d : Nat) (Q : jO → jM → Prop), (Ex (d + 1) 130 5 [some (.ref 4490), some (.int (iN t)), some (.int (iN c)), some (.int (iN (kCn kd c k))), some (.int (iN k))] [] μ Q ↔ Q (.inl (some (.int v))) μ) := by
    intro m
    induction m with
    | zero =>
      intro k hk hj
      have e : k = t := by omega
      subst e
      have hge : ¬ iN k < iN k := iN_irr (by omega)
      refine ⟨-1, Or.inl ⟨rfl, hj⟩, fun d Q => ?_⟩
      rw [x130_5]
      simp only [x130_0, x130_1a, x130_1b, x130_1c, x130_2, x130_3a, x130_3b, x130_3c, x130_7, x130_8, x130_11, x130_12, x130_15, x130_17, x130_18, x130_19, x130_22, x130_25, x130_26, x130_28, x130_29, x130_32, x130_35, x130_36, x130_37a, x130_37b, x130_37c, x130_40a, x130_40b, x130_40c, x130_43, x130_46, x130_47, mzi, mInc, mne, mlt9, mrk, mI1, mI2, mI3, mI4, mL1, mL2, mL3, mL4, mQ1, mQ2, mQ3, mQ4, mT1, mcat0, mcat1, mcat2, mcat3, mcat4, mrf1, jK_v, jK_n, JA, mz1, if_true, if_false, ite_true, ite_false, eq_self, not_false_eq_true, Nat.zero_le, true_and, and_true, and_self, Nat.reduceMod, Nat.reduceAdd, Nat.reduceLeDiff, Nat.reduceEqDiff, Nat.reduceLT, hge]
    | succ m ih =>
      intro k hk hj
      by_cases g : kRole kd k = c ∧ kSm b sz k t
      · exact ⟨iN (kCn kd c k), Or.inr ⟨k, by omega, g.1, g.2, rfl, hj⟩, (step k (by omega)).1 g.1 g.2⟩
      · obtain ⟨v, v1, v2⟩ := ih (k + 1) (by omega) (fun j hj2 hr => by
          by_cases e : j = k
          · rw [e]
            rw [e] at hr
            exact fun q => g ⟨hr, q⟩
          · exact hj j (by omega) hr)
        exact ⟨v, v1, fun d Q => by rw [(step k (by omega)).2 (fun q1 q2 => g ⟨q1, q2⟩)]; exact v2 d Q⟩
  obtain ⟨v, v1, v2⟩ := hrun t 0 (by omega) (fun j hj => absurd hj (by omega))
  refine ⟨v, v1, fun d Q => ?_⟩
  refine Iff.trans ?_ (v2 d Q)
  show _ ↔ Ex (d + 1) 130 5 [some (.ref 4490), some (.int (iN t)), some (.int (iN c)), some (.int (iN 0)), some (.int (iN 0))] [] μ Q
  simp only [x130_0, x130_1a, x130_1b, x130_1c, x130_2, x130_3a, x130_3b, x130_3c, x130_7, x130_8, x130_11, x130_12, x130_15, x130_17, x130_18, x130_19, x130_22, x130_25, x130_26, x130_28, x130_29, x130_32, x130_35, x130_36, x130_37a, x130_37b, x130_37c, x130_40a, x130_40b, x130_40c, x130_43, x130_46, x130_47, mzi, mInc, mne, mlt9, mrk, mI1, mI2, mI3, mI4, mL1, mL2, mL3, mL4, mQ1, mQ2, mQ3, mQ4, mT1, mcat0, mcat1, mcat2, mcat3, mcat4, mrf1, jK_v, jK_n, JA, mz1, if_true, if_false, ite_true, ite_false, eq_self, not_false_eq_true, Nat.zero_le, true_and, and_true, and_self, Nat.reduceMod, Nat.reduceAdd, Nat.reduceLeDiff, Nat.reduceEqDiff, Nat.reduceLT]
theorem d_look (h : jSb μ r kd N b sz) (ht : t < N - 1) (ht7 : kd t = 37) (hc : c = 1 ∨ c = 2 ∨ c = 3) : ∃ v, kTv kd b sz c t v ∧ ∀ (d : Nat) (Q : jO → jM → Prop), (Ex (d + 2) 134 0 [some (.ref 4490), some (.int (iN t)), some (.int (iN c))] [] μ Q ↔ Q (.inl (some (.int (if v = -1 then 3 else 0)))) (jsI μ 4889 t v)) := by
  obtain ⟨v, v1, v2⟩ := d_told h ht ht7 hc
  have hw := h.1.1
  unfold jWd at hw
  have hN2 := h.1.2.1.2.1
  have tc : (iN t).toNatClampNeg = t := iN_cl (by omega)
  have tj : jin (iN t) 401 = true := iN_in (by omega) (by omega)
  have hm : jI (jsI μ 4889 t v) 4889 t = v := by rw [mI1, if_pos rfl]
  refine ⟨v, v1, fun d Q => ?_⟩
  by_cases g : v = -1
  · rw [g] at v2
    simp only [x134_0, x134_1, x134_4, x134_5, x134_6, x134_7, x134_8, x134_11, x134_12, x134_13, x134_16, x134_17, x134_18, x134_19, x134_22, x134_23, x134_26, x134_27, mzi, mInc, mne, mlt9, mrk, mI1, mI2, mI3, mI4, mL1, mL2, mL3, mL4, mQ1, mQ2, mQ3, mQ4, mT1, mcat0, mcat1, mcat2, mcat3, mcat4, mrf1, jK_v, jK_n, JA, mz1, if_true, if_false, ite_true, ite_false, eq_self, not_false_eq_true, Nat.zero_le, true_and, and_true, and_self, Nat.reduceMod, Nat.reduceAdd, Nat.reduceLeDiff, Nat.reduceEqDiff, Nat.reduceLT, hw, v2, tc, tj, g]
  · have g' := eq_false g
    simp only [x134_0, x134_1, x134_4, x134_5, x134_6, x134_7, x134_8, x134_11, x134_12, x134_13, x134_16, x134_17, x134_18, x134_19, x134_22, x134_23, x134_26, x134_27, mzi, mInc, mne, mlt9, mrk, mI1, mI2, mI3, mI4, mL1, mL2, mL3, mL4, mQ1, mQ2, mQ3, mQ4, mT1, mcat0, mcat1, mcat2, mcat3, mcat4, mrf1, jK_v, jK_n, JA, mz1, if_true, if_false, ite_true, ite_false, eq_self, not_false_eq_true, Nat.zero_le, true_and, and_true, and_self, Nat.reduceMod, Nat.reduceAdd, Nat.reduceLeDiff, Nat.reduceEqDiff, Nat.reduceLT, hw, v2, tc, tj, hm, g']
theorem d_isNew (h : jSb μ r kd N b sz) (ht : t < N - 1) (hr : kRole kd t = c) (hc : c = 1 ∨ c = 2 ∨ c = 3) {M : Nat} (hM : M ≤ 10) (hn : n ≤ M) : ∃ v, kTv kd b sz c t v ∧ ∀ (d : Nat) (Q : jO → jM → Prop), (Ex (d + 2) 129 0 [some (.ref 4490), some (.int (iN t)), some (.int (iN n)), some (.int (iN M))] [] μ Q ↔ Q (.inl (some (.int (if v = -1 then (if n < M then 0 else 4) else 2)))) μ) := by
  obtain ⟨v, v1, v2⟩ := d_told h ht (kRole_37 hr (by omega)) hc
  have hw := h.1.1
  unfold jWd at hw
  have hN2 := h.1.2.1.2.1
  have tc : (iN t).toNatClampNeg = t := iN_cl (by omega)
  have tj : jin (iN t) 401 = true := iN_in (by omega) (by omega)
  have hrl := h.2.1 t ht
  rw [hr] at hrl
  have heq : (iN n = iN M) = (n = M) := propext ⟨fun e => (iN_eq (by omega) (by omega)).mp e, fun e => by rw [e]⟩
  refine ⟨v, v1, fun d Q => ?_⟩
  by_cases g : v = -1
  · rw [g] at v2
    by_cases q : n < M
    · have q1 := eq_true q
      have q2 := eq_false (show ¬ n = M by omega)
      simp only [x129_0, x129_1, x129_2, x129_3, x129_6, x129_7, x129_8, x129_11, x129_12, x129_15, x129_16, x129_19, x129_20, x129_21, x129_24, x129_25, x129_28, x129_29, mzi, mInc, mne, mlt9, mrk, mI1, mI2, mI3, mI4, mL1, mL2, mL3, mL4, mQ1, mQ2, mQ3, mQ4, mT1, mcat0, mcat1, mcat2, mcat3, mcat4, mrf1, jK_v, jK_n, JA, mz1, if_true, if_false, ite_true, ite_false, eq_self, not_false_eq_true, Nat.zero_le, true_and, and_true, and_self, Nat.reduceMod, Nat.reduceAdd, Nat.reduceLeDiff, Nat.reduceEqDiff, Nat.reduceLT, hw, v2, tc, tj, hrl, heq, g, q1, q2]
    · have q1 := eq_false q
      have q2 := eq_true (show n = M by omega)
      simp only [x129_0, x129_1, x129_2, x129_3, x129_6, x129_7, x129_8, x129_11, x129_12, x129_15, x129_16, x129_19, x129_20, x129_21, x129_24, x129_25, x129_28, x129_29, mzi, mInc, mne, mlt9, mrk, mI1, mI2, mI3, mI4, mL1, mL2, mL3, mL4, mQ1, mQ2, mQ3, mQ4, mT1, mcat0, mcat1, mcat2, mcat3, mcat4, mrf1, jK_v, jK_n, JA, mz1, if_true, if_false, ite_true, ite_false, eq_self, not_false_eq_true, Nat.zero_le, true_and, and_true, and_self, Nat.reduceMod, Nat.reduceAdd, Nat.reduceLeDiff, Nat.reduceEqDiff, Nat.reduceLT, hw, v2, tc, tj, hrl, heq, g, q1, q2]
  · have g' := eq_false g
    simp only [x129_0, x129_1, x129_2, x129_3, x129_6, x129_7, x129_8, x129_11, x129_12, x129_15, x129_16, x129_19, x129_20, x129_21, x129_24, x129_25, x129_28, x129_29, mzi, mInc, mne, mlt9, mrk, mI1, mI2, mI3, mI4, mL1, mL2, mL3, mL4, mQ1, mQ2, mQ3, mQ4, mT1, mcat0, mcat1, mcat2, mcat3, mcat4, mrf1, jK_v, jK_n, JA, mz1, if_true, if_false, ite_true, ite_false, eq_self, not_false_eq_true, Nat.zero_le, true_and, and_true, and_self, Nat.reduceMod, Nat.reduceAdd, Nat.reduceLeDiff, Nat.reduceEqDiff, Nat.reduceLT, hw, v2, tc, tj, hrl, g']
theorem d_inRange (h : jR0 μ r kd N b sz) (ht : t ≤ N - 1) (hk : kd t = 38) {m : Int32} : Ex (d + 1) 132 0 [some (.ref 4490), some (.int (iN t)), some (.int m)] [] μ Q ↔ Q (.inl (some (.int (if kNm b (kTs b sz t) (kTl b sz t) < 1 then 5 else if m < kNm b (kTs b sz t) (kTl b sz t) then 5 else 0)))) μ := by
  have hw := h.1
  unfold jWd at hw
  have hn := fun d Q => d_numberAt (d := d) (Q := Q) h jRf_refl ht hk
  generalize kNm b (kTs b sz t) (kTl b sz t) = x at hn ⊢
  by_cases g1 : x < 1
  · have g1' := eq_true g1
    simp only [x132_0, x132_1, x132_2, x132_5, x132_6, x132_7, x132_10, x132_13, x132_14, x132_17, x132_18, x25_0, x25_1, x25_2, x25_5, x25_6, x25_7, x25_10, x25_11, x25_14, x25_15, mzi, mInc, mne, mlt9, mrk, mI1, mI2, mI3, mI4, mL1, mL2, mL3, mL4, mQ1, mQ2, mQ3, mQ4, mT1, mcat0, mcat1, mcat2, mcat3, mcat4, mrf1, jK_v, jK_n, JA, mz1, if_true, if_false, ite_true, ite_false, eq_self, not_false_eq_true, Nat.zero_le, true_and, and_true, and_self, Nat.reduceMod, Nat.reduceAdd, Nat.reduceLeDiff, Nat.reduceEqDiff, Nat.reduceLT, hw, hn, g1']
  · have g1' := eq_false g1
    by_cases g2 : m < x
    · have g2' := eq_true g2
      simp only [x132_0, x132_1, x132_2, x132_5, x132_6, x132_7, x132_10, x132_13, x132_14, x132_17, x132_18, x25_0, x25_1, x25_2, x25_5, x25_6, x25_7, x25_10, x25_11, x25_14, x25_15, mzi, mInc, mne, mlt9, mrk, mI1, mI2, mI3, mI4, mL1, mL2, mL3, mL4, mQ1, mQ2, mQ3, mQ4, mT1, mcat0, mcat1, mcat2, mcat3, mcat4, mrf1, jK_v, jK_n, JA, mz1, if_true, if_false, ite_true, ite_false, eq_self, not_false_eq_true, Nat.zero_le, true_and, and_true, and_self, Nat.reduceMod, Nat.reduceAdd, Nat.reduceLeDiff, Nat.reduceEqDiff, Nat.reduceLT, hw, hn, g1', g2']
    · have g2' := eq_false g2
      simp only [x132_0, x132_1, x132_2, x132_5, x132_6, x132_7, x132_10, x132_13, x132_14, x132_17, x132_18, x25_0, x25_1, x25_2, x25_5, x25_6, x25_7, x25_10, x25_11, x25_14, x25_15, mzi, mInc, mne, mlt9, mrk, mI1, mI2, mI3, mI4, mL1, mL2, mL3, mL4, mQ1, mQ2, mQ3, mQ4, mT1, mcat0, mcat1, mcat2, mcat3, mcat4, mrf1, jK_v, jK_n, JA, mz1, if_true, if_false, ite_true, ite_false, eq_self, not_false_eq_true, Nat.zero_le, true_and, and_true, and_self, Nat.reduceMod, Nat.reduceAdd, Nat.reduceLeDiff, Nat.reduceEqDiff, Nat.reduceLT, hw, hn, g1', g2']
end SAYD
