/-! THE PURE PART: the reference reads the tape. -/
section FRONTD2
variable {μ : jM} {N sz r : Nat} {b : Nat → Int32} {num : Nat → Int32}
theorem kNwM_w (hr : r = (jA μ).length) (h120 : 120 ≤ r) (hW : jWd μ) : jWd (kNwM μ) := by
  obtain ⟨_, _, k3, k4, _⟩ := kNwM_f hr h120
  have q : ∀ a, a < 7680 → ¬ a = 4490 → jQ (kNwM μ) a = jQ μ a := fun a ha hn => (k3 a (by omega)).2.2 hn
  unfold jWd at hW ⊢
  simp only [q, k4, Nat.reduceLT, Nat.reduceEqDiff, not_false_eq_true]
  exact hW
theorem front_d (hr : r = (jA μ).length) (h120 : 120 ≤ r) (hW : jWd μ) (hT : kTp μ b sz) (hB : ∀ i, i < sz → ∃ v, v < 256 ∧ b i = iN v) (hN : kTN b sz N) : ∃ μ1 μ', jTm (kNwM μ) μ1 b sz N ∧ μ' = jsI (jsI μ1 4490 9 0) 4490 10 0 ∧ jR0 μ' r (kTk b sz) N b sz ∧ jPr μ' μ' r (kTk b sz) num N 0 [] ∧ (∀ k, jI μ' (64 * r + 11) k = 0) ∧ ∀ (d : Nat) (Q : jO → jM → Prop), (Ex (d + 100) 96 0 [some (.ref 4490), none, none] [] μ Q ↔ Ex (d + 100) 96 25 [some (.ref 4490), none, none] [] μ' Q) := by
  have hK := kTok_of hN
  have hW1 := kNwM_w hr h120 hW
  obtain ⟨k1, k2, k3, k4, k5, k6, k7⟩ := kNwM_f hr h120
  obtain ⟨t1, t2, t3, t4⟩ := hT
  have hT1 : kTp (kNwM μ) b sz := ⟨by rw [(k3 4490 (by omega)).1]; exact t1, t2, fun i hi => by rw [(k3 4567 (by omega)).1]; exact t3 i hi, t4⟩
  obtain ⟨μ1, c, e⟩ := d_cut hW1 hT1 hB hN
  obtain ⟨c1, c2, c3, c4, c5, c6⟩ := c
  have hW2 : jWd μ1 := jWd_c c2 hW1
  have hz : ∀ k, jI (jsI (jsI μ1 4490 9 0) 4490 10 0) (64 * r + 11) k = 0 := fun k => by
    rw [mI2 (by omega), mI2 (by omega), c1 _ (by omega) (by omega) (by omega) (by omega) (by omega), k5]
  have h0 : jR0 (jsI (jsI μ1 4490 9 0) 4490 10 0) r (kTk b sz) N b sz := by
    refine ⟨jWd_c rfl hW2, hK, h120, by rw [mI4, mI4, c2]; exact k2, by unfold jMq at k1 ⊢; rw [mI4, mI4, c2]; exact k1, ⟨by rw [mI1, if_neg (by decide), mI1, if_neg (by decide), c1 4490 (by decide) (by decide) (by decide) (by decide) (by decide)]; exact hT1.1, t2, fun i hi => by rw [mI2 (by decide), mI2 (by decide), c1 4567 (by decide) (by decide) (by decide) (by decide) (by decide)]; exact hT1.2.2.1 i hi, t4⟩, fun k hk => ?_⟩
    obtain ⟨d1, d2, d3, d4, d5⟩ := c6 k hk
    rw [mI2 (by decide), mI2 (by decide), mI2 (by decide), mI2 (by decide), mI2 (by decide), mI2 (by decide)]
    exact ⟨d1, d2, fun h => ⟨d3 (kEnd_t h).2, (kEnd_t h).1⟩⟩
  refine ⟨μ1, _, ⟨c1, c2, c3, c4, c5, c6⟩, rfl, h0, ⟨jRg_refl, ⟨jRf_refl, by rw [mI1, if_neg (by decide), mI1, if_pos rfl]; rfl, by rw [mI1, if_pos rfl]; rfl, by rw [hz]; rfl, trivial, by rw [hz]; rfl, trivial, fun t ht => absurd ht (by omega), fun t _ ht => ?_⟩, by rw [hz]; rfl, fun k hk => absurd hk (Nat.not_lt_zero _)⟩, hz, fun d Q => ?_⟩
  · rw [mI2 (by decide), mI2 (by decide)]
    exact (c6 t ht).2.2.2.1
  · have hw := hW
    have hw1 := hW1
    have hw2 := hW2
    unfold jWd at hw hw1 hw2
    have hj : jadr μ 11 = 64 * r + 11 := by unfold jadr; rw [hr]
    have hm : (64 * r + 11) % 64 = 11 := by omega
    have h12 := fun (d : Nat) (μ : jM) (Q : jO → jM → Prop) => d_newPlan (μ := μ) (x := 64 * r + 11) hm (d := d) (Q := Q)
    have hnw : jsQ (jmk (64 * r + 11) kPlFs (jnew μ 11)) 4490 12 (some (64 * r + 11)) = kNwM μ := by unfold kNwM; rw [← hr]
    have e' : ∀ (Q : jO → jM → Prop), (Ex (d + 99) 97 0 [some (.ref 4490), none, none] [] (kNwM μ) Q ↔ Q (.inl none) μ1) := fun Q => e (d + 92) Q
    simp only [x96_0, x96_1, x96_4a, x96_4b, x96_5, x96_8, x96_11, x96_12, x96_15, x96_16, x96_17, x96_20, x96_21, x96_22, mzi, mInc, mne, mlt9, mrk, mI1, mI2, mI3, mI4, mL1, mL2, mL3, mL4, mQ1, mQ2, mQ3, mQ4, mT1, mcat0, mcat1, mcat2, mcat3, mcat4, mrf1, jK_v, jK_n, JA, mz1, if_true, if_false, ite_true, ite_false, eq_self, not_false_eq_true, Nat.zero_le, true_and, and_true, and_self, Nat.reduceMod, Nat.reduceAdd, Nat.reduceLeDiff, Nat.reduceEqDiff, Nat.reduceLT, hw, hw1, hw2, hj, hm, h12, hnw, e']
end FRONTD2
