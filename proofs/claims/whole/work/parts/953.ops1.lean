/-! THE PURE PART: trim, setMarkers, errorAt. -/
section OPS1
variable {d p m n t L nh w mk sz : Nat} {μ μ2 A B : jM} {Q : jO → jM → Prop} {K : Nat → Nat} {T : Nat → List (Nat × Int32)} {pn pd : Nat → Int32} {x : Int32}
/-- a call of the law: class and reference answer alike -/
def jPair (μ : jM) (mL mM : Nat) (eL eM : List (Option Value)) : Prop := ∃ (k : Nat) (v : Int32) (μ1 μ2 : jM), k ≤ 3 ∧ (∀ (Q : jO → jM → Prop), (Ex (48 + 101) mL 0 eL [] μ Q ↔ Q (.inl (some (.int (iN k)))) μ1)) ∧ jI μ1 44 = jI μ 44 ∧ jI μ1 45 = jI μ 45 ∧ (∀ (Q : jO → jM → Prop), (Ex (48 + 101) mM 0 eM [] μ1 Q ↔ Q (.inl (some (.int v))) μ2)) ∧ jI μ2 4490 0 = iN k ∧ (k = 0 → jL μ2 7647 0 = v.toInt64) ∧ jGk μ μ2
/-- both throw -/
theorem pair_no {mL mM k : Nat} {eL eM : List (Option Value)} (hJ : jJp μ p m n t L K nh T w mk sz) (hk : k ≤ 3) (h0 : ¬ k = 0) (hA : ∀ (Q : jO → jM → Prop), (Ex (48 + 101) mL 0 eL [] μ Q ↔ Q (.inl (some (.int (iN k)))) (jthr μ))) (hB : ∀ (Q : jO → jM → Prop), (Ex (48 + 101) mM 0 eM [] (jthr μ) Q ↔ Q (.inl (some (.int 0))) (jsI (jsI (jthr μ) 4490 0 0) 4490 0 (iN k)))) : jPair μ mL mM eL eM :=
  ⟨k, 0, _, _, hk, hA, rfl, rfl, hB, by rw [mI1, if_pos rfl], fun h => absurd h h0, jGo_no hJ⟩
/-- what is told changes in the tape alone -/
theorem jGo_tp {sz' : Nat} (hJ : jJp μ p m n t L K nh T w mk sz) (hI : ∀ a, a < 64 * (jA μ).length → ¬ a = 65 → ¬ a = 155 → ¬ a = 4490 → ¬ a = 4567 → jI μ2 a = jI μ a) (h3 : jI μ2 4490 3 = jI μ 4490 3) (ht : jTq μ2 sz') (hQ : ∀ a, a < 64 * (jA μ).length → jQ μ2 a = jQ μ a) (hl : (jA μ).length ≤ (jA μ2).length) (hc : jnc μ2 ≤ jnc μ + 400) (hs : jns μ2 ≤ jns μ + 5000) : jGk μ μ2 := by
  have h1 := hJ.1
  have h120 := hJ.2.2.1
  refine ⟨jJ_k (jJ_of hJ) (fun a ha _ _ _ => hQ a ha) (fun k _ => by rw [hQ 4490 (by omega)]) (fun a ha => hI a (by omega) (by omega) (by omega) (by omega) (by omega)) ?_ ?_ ⟨?_, ?_, ?_⟩ ⟨sz', ht⟩ hl, hI 44 (by omega) (by decide) (by decide) (by decide) (by decide), hI 45 (by omega) (by decide) (by decide) (by decide) (by decide), hc, hs⟩
  · rw [hI 0 (by omega) (by decide) (by decide) (by decide) (by decide), h3, h1]
  · rw [hI 2308 (by omega) (by decide) (by decide) (by decide) (by decide)]
  · rw [hI 5836 (by omega) (by decide) (by decide) (by decide) (by decide)]
  · rw [hI 5836 (by omega) (by decide) (by decide) (by decide) (by decide)]
  · rw [hI 5836 (by omega) (by decide) (by decide) (by decide) (by decide)]
theorem c_trim (hW : jWd μ) (hz : jI μ 65 1 = iN sz) : Ex (d) 23 0 [some (.ref 0), some (.int x)] [] μ Q ↔ if x < 0 then Q (.inr 1) (jthr μ) else if iN sz < x then Q (.inr 1) (jthr μ) else Q (.inl (some (.int x))) (jsI μ 65 1 x) := by
  have hw := hW
  unfold jWd at hw
  simp only [x23_0, x23_1, x23_4, x23_5, x23_6, x23_9, x23_12, x23_15, x23_25, x23_26, x23_29, x23_30, x23_33, x23_34, mzi, mInc, mne, mlt9, mrk, mI1, mI2, mI3, mI4, mL1, mL2, mL3, mL4, mQ1, mQ2, mQ3, mQ4, mT1, mcat0, mcat1, mcat2, mcat3, mcat4, mrf1, jK_v, jK_n, JA, mz1, if_true, if_false, ite_true, ite_false, eq_self, not_false_eq_true, Nat.zero_le, true_and, and_true, and_self, Nat.reduceMod, Nat.reduceAdd, Nat.reduceLeDiff, Nat.reduceEqDiff, Nat.reduceLT, hw, hz]
theorem d_trim (hW : jWd μ) (hz : jI μ 4490 2 = iN sz) : Ex (d + 1) 24 0 [some (.ref 4490), some (.int x)] [] μ Q ↔ if x < 0 then Q (.inl (some (.int 0))) (jsI (jsI μ 4490 0 0) 4490 0 1) else if iN sz < x then Q (.inl (some (.int 0))) (jsI (jsI μ 4490 0 0) 4490 0 1) else Q (.inl (some (.int x))) (jsI (jsI μ 4490 0 0) 4490 2 x) := by
  have hw := hW
  unfold jWd at hw
  have hin := fun (d : Nat) (μ : jM) (v lo hi : Int32) (Q : jO → jM → Prop) => d_isIn (d := d) (μ := μ) (v := v) (lo := lo) (hi := hi) (Q := Q)
  have hno := fun (d : Nat) (μ : jM) (k : Int32) (Q : jO → jM → Prop) => d_no (d := d) (μ := μ) (k := k) (Q := Q)
  by_cases h1 : x < 0
  all_goals by_cases h2 : iN sz < x
  all_goals simp only [x24_0, x24_1, x24_2, x24_5, x24_6, x24_7, x24_8, x24_11, x24_14, x24_17, x24_18, x24_19, x24_22, x24_23, x24_24, x24_25, x24_28, x24_29, mzi, mInc, mne, mlt9, mrk, mI1, mI2, mI3, mI4, mL1, mL2, mL3, mL4, mQ1, mQ2, mQ3, mQ4, mT1, mcat0, mcat1, mcat2, mcat3, mcat4, mrf1, jK_v, jK_n, JA, mz1, if_true, if_false, ite_true, ite_false, eq_self, not_false_eq_true, Nat.zero_le, true_and, and_true, and_self, Nat.reduceMod, Nat.reduceAdd, Nat.reduceLeDiff, Nat.reduceEqDiff, Nat.reduceLT, hw, hz, hin, hno, h1, h2]
theorem op_trim (x : Int32) (hJ : jJp μ p m n t L K nh T w mk sz) : jPair μ 22 24 [some (.ref 0), some (.int x), some (.ref 7647), none] [some (.ref 4490), some (.int x)] := by
  have hW : jWd μ := hJ.2.2.2.1.1.1
  have hT := hJ.2.1
  obtain ⟨z1, z2, z3, z4, z5⟩ := hT
  have eA := fun (Q : jO → jM → Prop) => c_trim (d := 48 + 100) (Q := Q) (x := x) hW z1
  have eB := fun (Q : jO → jM → Prop) => d_trim (d := 48 + 100) (Q := Q) (x := x) (μ := jthr μ) (jWd_c rfl hW) z2
  by_cases h1 : x < 0
  · simp only [if_pos h1] at eA eB
    exact pair_no hJ (k := 1) (by decide) (by decide) (fun Q => l_trim_1 (d := 48 + 100) eA) eB
  · by_cases h2 : iN sz < x
    · simp only [if_neg h1, if_pos h2] at eA eB
      exact pair_no hJ (k := 1) (by decide) (by decide) (fun Q => l_trim_1 (d := 48 + 100) eA) eB
    · have eB' := fun (Q : jO → jM → Prop) => d_trim (d := 48 + 100) (Q := Q) (x := x) (sz := sz) (μ := jsL (jsI μ 65 1 x) 7647 0 x.toInt64) (jWd_c rfl hW) (by rw [mL3, mI2 (by decide)]; exact z2)
      simp only [if_neg h1, if_neg h2] at eA eB'
      obtain ⟨j, hj, rfl⟩ := iN_pos h1
      rw [iN_lt (by omega) hj] at h2
      refine ⟨0, _, _, _, by decide, fun Q => l_trim_v (d := 48 + 100) eA, rfl, rfl, eB', ?_, fun _ => ?_, ?_⟩
      · rw [mI1, if_neg (by decide), mI1, if_pos rfl]
        rfl
      · rw [mI3, mI3, mL1, if_pos rfl]
      · refine jGo_tp (sz' := j) hJ (fun a _ n1 _ n3 _ => ?_) ?_ ⟨?_, ?_, ?_, fun i hi => ?_, fun i hi => ?_⟩ (fun _ _ => rfl) (Nat.le_refl _) (Nat.le_add_right _ _) (Nat.le_add_right _ _)
        · rw [mI2 n3, mI2 n3, mL3, mI2 n1]
        · rw [mI1, if_neg (by decide), mI1, if_neg (by decide), mL3, mI2 (by decide)]
        · rw [mI2 (by decide), mI2 (by decide), mL3, mI1, if_pos rfl]
        · rw [mI1, if_pos rfl]
        · omega
        · rw [mI2 (by decide), mI2 (by decide), mL3, mI2 (by decide), mI2 (by decide), mI2 (by decide), mL3, mI2 (by decide), z4 i (by omega)]
          unfold kBy
          rw [if_pos (by omega), if_pos hi]
        · exact if_neg (by omega)
theorem c_setM (hW : jWd μ) (hz : jI μ 2567 3 = iN mk) : Ex (d) 149 0 [some (.ref 0), some (.int x), none] [] μ Q ↔ if x < 1 then Q (.inr 1) (jthr μ) else if 4 < x then Q (.inr 1) (jthr μ) else Q (.inl (some (.int (iN mk)))) (jsI μ 2567 3 x) := by
  have hw := hW
  unfold jWd at hw
  simp only [x149_0, x149_1, x149_2, x149_5, x149_6, x149_7, x149_10, x149_20, x149_21, x149_24, x149_27a, x149_27b, x149_27c, x149_28, x149_29, x149_32, x149_33, x149_36, x149_37, mzi, mInc, mne, mlt9, mrk, mI1, mI2, mI3, mI4, mL1, mL2, mL3, mL4, mQ1, mQ2, mQ3, mQ4, mT1, mcat0, mcat1, mcat2, mcat3, mcat4, mrf1, jK_v, jK_n, JA, mz1, if_true, if_false, ite_true, ite_false, eq_self, not_false_eq_true, Nat.zero_le, true_and, and_true, and_self, Nat.reduceMod, Nat.reduceAdd, Nat.reduceLeDiff, Nat.reduceEqDiff, Nat.reduceLT, hw, hz]
theorem d_setM (hW : jWd μ) (hz : jI μ 5836 1 = iN mk) : Ex (d + 1) 150 0 [some (.ref 4490), some (.int x), none] [] μ Q ↔ if x < 1 then Q (.inl (some (.int 0))) (jsI (jsI μ 4490 0 0) 4490 0 1) else if 4 < x then Q (.inl (some (.int 0))) (jsI (jsI μ 4490 0 0) 4490 0 1) else Q (.inl (some (.int (iN mk)))) (jsI (jsI μ 4490 0 0) 5836 1 x) := by
  have hw := hW
  unfold jWd at hw
  have hin := fun (d : Nat) (μ : jM) (v lo hi : Int32) (Q : jO → jM → Prop) => d_isIn (d := d) (μ := μ) (v := v) (lo := lo) (hi := hi) (Q := Q)
  have hno := fun (d : Nat) (μ : jM) (k : Int32) (Q : jO → jM → Prop) => d_no (d := d) (μ := μ) (k := k) (Q := Q)
  by_cases h1 : x < 1
  all_goals by_cases h2 : 4 < x
  all_goals simp only [x150_0, x150_1, x150_2, x150_5, x150_6, x150_7, x150_8, x150_11, x150_14, x150_15, x150_16, x150_19, x150_20, x150_21, x150_24, x150_27a, x150_27b, x150_27c, x150_28, x150_29, x150_32, x150_33, x150_36, x150_37, mzi, mInc, mne, mlt9, mrk, mI1, mI2, mI3, mI4, mL1, mL2, mL3, mL4, mQ1, mQ2, mQ3, mQ4, mT1, mcat0, mcat1, mcat2, mcat3, mcat4, mrf1, jK_v, jK_n, JA, mz1, if_true, if_false, ite_true, ite_false, eq_self, not_false_eq_true, Nat.zero_le, true_and, and_true, and_self, Nat.reduceMod, Nat.reduceAdd, Nat.reduceLeDiff, Nat.reduceEqDiff, Nat.reduceLT, hw, hz, hin, hno, h1, h2]
theorem R_mk {j : Nat} (h : jRXn A B n w mk pn pd) (h1 : 1 ≤ j) (h4 : j ≤ 4) : jRXn (jsI A 2567 3 (iN j)) (jsI B 5836 1 (iN j)) n w j pn pd := by
  unfold jRXn at h ⊢
  obtain ⟨g1, g2, g3, g4, g5, g6, g7, g8⟩ := h
  simp only [mI1, mI2, Nat.reduceEqDiff, not_false_eq_true, if_true, if_false]
  refine ⟨?_, trivial, trivial, h1, h4, g6, g7, ?_⟩
  · simpa using g1
  · simpa using g8
theorem op_setMarkers (x : Int32) (hJ : jJp μ p m n t L K nh T w mk sz) : jPair μ 148 150 [some (.ref 0), some (.int x), some (.ref 7647), none] [some (.ref 4490), some (.int x), none] := by
  have hJ' := hJ
  obtain ⟨h09, ⟨z1, z2⟩, h120, hR, hX, hp⟩ := hJ'
  have hW : jWd μ := hR.1.1
  have eA := fun (Q : jO → jM → Prop) => c_setM (d := 48 + 100) (Q := Q) (x := x) hW hX.2.1
  have eB := fun (Q : jO → jM → Prop) => d_setM (d := 48 + 100) (Q := Q) (x := x) (μ := jthr μ) (jWd_c rfl hW) hX.2.2.1
  by_cases h1 : x < 1
  · simp only [if_pos h1] at eA eB
    exact pair_no hJ (k := 1) (by decide) (by decide) (fun Q => l_setMarkers_1 (d := 48 + 100) eA) eB
  · by_cases h2 : 4 < x
    · simp only [if_neg h1, if_pos h2] at eA eB
      exact pair_no hJ (k := 1) (by decide) (by decide) (fun Q => l_setMarkers_1 (d := 48 + 100) eA) eB
    · have eB' := fun (Q : jO → jM → Prop) => d_setM (d := 48 + 100) (Q := Q) (x := x) (mk := mk) (μ := jsL (jsI μ 2567 3 x) 7647 0 (iN mk).toInt64) (jWd_c rfl hW) (by rw [mL3, mI2 (by decide)]; exact hX.2.2.1)
      simp only [if_neg h1, if_neg h2] at eA eB'
      obtain ⟨j, j1, j4, rfl⟩ : ∃ j, 1 ≤ j ∧ j ≤ 4 ∧ x = iN j := by
        have h0 : ¬ x < 0 := fun q => h1 (Int32.lt_trans q (by decide))
        obtain ⟨j, hj, rfl⟩ := iN_pos h0
        rw [show (1 : Int32) = iN 1 from rfl, iN_lt hj (by decide)] at h1
        rw [show (4 : Int32) = iN 4 from rfl, iN_lt (by decide) hj] at h2
        exact ⟨j, by omega, by omega, rfl⟩
      refine ⟨0, _, _, _, by decide, fun Q => l_setMarkers_v (d := 48 + 100) eA, rfl, rfl, eB', ?_, fun _ => ?_, ?_⟩
      · rw [mI2 (by decide), mI1, if_pos rfl]
        rfl
      · rw [mI3, mI3, mL1, if_pos rfl]
      · refine ⟨jJ_of (p := p) (m := m) (n := n) (t := t) (L := L) (K := K) (nh := nh) (T := T) (w := w) (mk := j) (sz := sz) ⟨?_, ?_, h120, ?_, ?_, hp⟩, rfl, rfl, Nat.le_add_right _ _, Nat.le_add_right _ _⟩
        · rw [mI2 (by decide), mI2 (by decide), mL3, mI2 (by decide), mI2 (by decide), mI1, if_neg (by decide), mL3, mI2 (by decide), h09]
        · refine jTq_g ⟨z1, z2⟩ ?_ ?_ ?_ ?_
          · rw [mI2 (by decide), mI2 (by decide), mL3, mI2 (by decide)]
          · rw [mI2 (by decide), mI2 (by decide), mL3, mI2 (by decide)]
          · rw [mI2 (by decide), mI1, if_neg (by decide), mL3, mI2 (by decide)]
          · rw [mI2 (by decide), mI2 (by decide), mL3, mI2 (by decide)]
        · refine jRP_k hR hp (fun _ _ _ _ _ => rfl) h120 (fun _ _ => rfl) (fun a ha => ?_) ?_
          · rw [mI2 (by omega), mI2 (by omega), mL3, mI2 (by omega)]
          · rw [mI2 (by decide), mI2 (by decide), mL3, mI2 (by decide)]
        · have hm := R_mk hX j1 j4
          rw [mI2 (by decide), mI2 (by decide), mL3, mI2 (by decide), mI2 (by decide), mI2 (by decide), mL3, mI2 (by decide)]
          refine jRXn_g hm (fun a g1 g2 => ?_) ⟨?_, ?_, ?_⟩ fun a g1 g2 => ?_
          · rw [mI2 (by omega), mI2 (by omega), mL3]
          · rw [mI1, mI1, mI2 (by decide), mL3, mI2 (by decide)]
          · rw [mI1, mI1, if_pos rfl, if_pos rfl]
          · rw [mI1, mI1, mI2 (by decide), mL3, mI2 (by decide)]
          · rw [mI2 (by omega), mI2 (by omega), mL3, mI2 (by omega), mI2 (by omega)]
theorem c_errAt (hW : jWd μ) : Ex (d) 135 0 [some (.ref 0)] [] μ Q ↔ Q (.inl (some (.int (jI μ 0 9)))) μ := by
  have hw := hW
  unfold jWd at hw
  simp only [x135_0, x135_1, x135_4, mzi, mInc, mne, mlt9, mrk, mI1, mI2, mI3, mI4, mL1, mL2, mL3, mL4, mQ1, mQ2, mQ3, mQ4, mT1, mcat0, mcat1, mcat2, mcat3, mcat4, mrf1, jK_v, jK_n, JA, mz1, if_true, if_false, ite_true, ite_false, eq_self, not_false_eq_true, Nat.zero_le, true_and, and_true, and_self, Nat.reduceMod, Nat.reduceAdd, Nat.reduceLeDiff, Nat.reduceEqDiff, Nat.reduceLT, hw]
theorem d_errAt (hW : jWd μ) : Ex (d) 136 0 [some (.ref 4490)] [] μ Q ↔ Q (.inl (some (.int (jI μ 4490 3)))) (jsI μ 4490 0 0) := by
  have hw := hW
  unfold jWd at hw
  simp only [x136_0, x136_1, x136_2, x136_5, x136_6, x136_9, mzi, mInc, mne, mlt9, mrk, mI1, mI2, mI3, mI4, mL1, mL2, mL3, mL4, mQ1, mQ2, mQ3, mQ4, mT1, mcat0, mcat1, mcat2, mcat3, mcat4, mrf1, jK_v, jK_n, JA, mz1, if_true, if_false, ite_true, ite_false, eq_self, not_false_eq_true, Nat.zero_le, true_and, and_true, and_self, Nat.reduceMod, Nat.reduceAdd, Nat.reduceLeDiff, Nat.reduceEqDiff, Nat.reduceLT, hw]
theorem op_errorAt (hJ : jJp μ p m n t L K nh T w mk sz) : ∃ (v : Int32) (μ2 : jM), jGk μ μ2 ∧ (∀ (Q : jO → jM → Prop), (Ex (48 + 101) 135 0 [some (.ref 0)] [] μ Q ↔ Q (.inl (some (.int v))) μ)) ∧ (∀ (Q : jO → jM → Prop), (Ex (48 + 101) 136 0 [some (.ref 4490)] [] μ Q ↔ Q (.inl (some (.int v))) μ2)) := by
  have hW : jWd μ := hJ.2.2.2.1.1.1
  refine ⟨jI μ 4490 3, _, ?_, fun Q => ?_, fun Q => d_errAt hW⟩
  · exact jGo_s jSc_0 hJ (Nat.le_add_right _ _) (Nat.le_add_right _ _)
  · rw [← hJ.1]
    exact c_errAt hW
end OPS1
