/-! THE PURE PART: lift, dial, hang. -/
section HAND
variable {d p m n t L nh w mk sz r l f k j q a b : Nat} {μ ν μ2 A B : jM} {Q : jO → jM → Prop} {K : Nat → Nat} {T : Nat → List (Nat × Int32)} {x y : Int32} {pn pd : Nat → Int32}
variable {A1 B1 : jM} {z : Int64} {w2 mk2 : Nat}
theorem jany_congr {p q : Nat → Bool} : ∀ m k, (∀ j, k ≤ j → j < k + m → p j = q j) → jany p k m = jany q k m
  | 0, _, _ => rfl
  | m + 1, k, h => by
    unfold jany
    rw [h k (Nat.le_refl _) (by omega), jany_congr m (k + 1) fun j h1 h2 => h j (by omega) (by omega)]
/-- behind the class's part of a call -/
theorem mix_x (hs : jSmn μ A1) (hJ : jJp μ p m n t L K nh T w mk sz) : jRP μ (jsL A1 7647 0 z) p m n t L K nh T ∧ jRP μ (jsI (jsL A1 7647 0 z) 4490 0 0) p m n t L K nh T ∧ jRXn μ (jsI (jsL A1 7647 0 z) 4490 0 0) n w mk (jI μ 1936) (jI μ 2000) := by
  obtain ⟨_, _, h120, hR, hX, hp⟩ := hJ
  obtain ⟨s1, s2, s3, s4, s5, s6⟩ := hs
  have hf := jRP_f hR
  have hW1 : jWd (jsL A1 7647 0 z) := jWd_c s1 hR.1.1
  have hW2 : jWd (jsI (jsL A1 7647 0 z) 4490 0 0) := jWd_c s1 hR.1.1
  have q : ∀ a, 3400 < a → ¬ a = 4490 → jI (jsI (jsL A1 7647 0 z) 4490 0 0) a = jI μ a := fun a h1 h2 => by rw [mI2 h2, mL3, s5 a (by omega) (by omega) (Or.inr h1)]
  refine ⟨jRP_g hR hR.1.1 rfl (fun _ _ => rfl) rfl hW1 (by rw [mL4, s1]) (by rw [mL4, s1]) fun c hc => by rw [mL3, s5 _ (by omega) (by omega) (by omega)], jRP_g hR hR.1.1 rfl (fun _ _ => rfl) rfl hW2 (by rw [mI4, mL4, s1]) (by rw [mI4, mL4, s1]) fun c hc => q _ (by omega) (by omega), jRXn_g hX (fun _ _ _ => rfl) ⟨?_, ?_, ?_⟩ fun a g1 g2 => q a (by omega) (by omega)⟩
  · rw [q 5836 (by decide) (by decide)]
  · rw [q 5836 (by decide) (by decide)]
  · rw [q 5836 (by decide) (by decide)]
/-- a call that changes the exchange in both -/
theorem pair_x {mL mM : Nat} {eL eM : List (Option Value)} (hJ : jJp μ p m n t L K nh T w mk sz) (v : Int32) (hs : jSmn μ A1) (hA : ∀ (Q : jO → jM → Prop), (Ex (48 + 101) mL 0 eL [] μ Q ↔ Q (.inl (some (.int (iN 0)))) (jsL A1 7647 0 v.toInt64))) (hb : jFms (jsI (jsL A1 7647 0 v.toInt64) 4490 0 0) B1) (hB : ∀ (Q : jO → jM → Prop), (Ex (48 + 101) mM 0 eM [] (jsL A1 7647 0 v.toInt64) Q ↔ Q (.inl (some (.int v))) B1)) (hX2 : jRXn A1 B1 n w2 mk2 (jI μ 1936) (jI μ 2000)) : jPair μ mL mM eL eM := by
  obtain ⟨h09, hT, h120, hR, hX, hp⟩ := hJ
  obtain ⟨s1, s2, s3, s4, s5, s6⟩ := hs
  obtain ⟨b1, b2, b3, b4, b5⟩ := hb
  have o : ∀ a, (a < 2567 ∨ 3400 < a) → (a < 5836 ∨ 6680 < a) → ¬ a = 2308 → ¬ a = 2520 → ¬ a = 4490 → jI B1 a = jI μ a := fun a h1 h2 h3 h4 h5 => by rw [b5 a h2, mI2 h5, mL3, s5 a h3 h4 h1]
  have oz : ∀ k, ¬ k = 0 → jI B1 4490 k = jI μ 4490 k := fun k hk => by rw [b5 4490 (by decide), mI1, if_neg hk, mL3, s5 4490 (by decide) (by decide) (by decide)]
  have oq : jQ B1 = jQ μ := by rw [b1, mI4, mL4, s1]
  have lA : jA B1 = jA μ := by rw [b3, mI5, mL5, s3]
  have lX : jX B1 = jX μ := by rw [b4, mI6, mL6, s4]
  refine ⟨0, v, _, _, by decide, hA, ?_, ?_, hB, ?_, fun _ => ?_, ⟨jJ_of (p := p) (m := m) (n := n) (t := t) (L := L) (K := K) (nh := nh) (T := T) (w := w2) (mk := mk2) (sz := sz) ⟨?_, ?_, ?_, ?_, ?_, ?_⟩, ?_, ?_, ?_, ?_⟩⟩
  · rw [mL3, s5 44 (by decide) (by decide) (by decide)]
  · rw [mL3, s5 45 (by decide) (by decide) (by decide)]
  · rw [b5 4490 (by decide), mI1, if_pos rfl]
    rfl
  · rw [b2, mI3, mL1, if_pos rfl]
  · rw [o 0 (by decide) (by decide) (by decide) (by decide) (by decide), oz 3 (by decide), h09]
  · exact jTq_g hT (by rw [o 65 (by decide) (by decide) (by decide) (by decide) (by decide)]) (o 155 (by decide) (by decide) (by decide) (by decide) (by decide)) (oz 2 (by decide)) (o 4567 (by decide) (by decide) (by decide) (by decide) (by decide))
  · rw [lA]; exact h120
  · exact jRP_k hR hp (fun a _ _ _ _ => by rw [oq]) h120 (fun k _ => by rw [oq]) (fun a ha => o a (by omega) (by omega) (by omega) (by omega) (by omega)) (by rw [b5 2308 (by decide), mI2 (by decide), mL3, s6])
  · rw [o 1936 (by decide) (by decide) (by decide) (by decide) (by decide), o 2000 (by decide) (by decide) (by decide) (by decide) (by decide)]
    exact jRXn_g hX2 (fun a g1 g2 => by rw [b5 a (by omega), mI2 (by omega), mL3]) ⟨rfl, rfl, rfl⟩ fun _ _ _ => rfl
  · rw [lA]; exact hp
  · exact o 44 (by decide) (by decide) (by decide) (by decide) (by decide)
  · exact o 45 (by decide) (by decide) (by decide) (by decide) (by decide)
  · unfold jnc
    rw [lA, lX]
    omega
  · rw [jns_e lA lX]
    omega
theorem c_lift_v {v : Int32} (hW : jWd μ) (hn : jI μ 1731 1 = iN n) (h10 : n ≤ 10) (hl : l < n) (hd : jI μ 2640 l = 0 ∨ jI μ 2640 l = 4) (hi : ∀ (d : Nat) (Q : jO → jM → Prop), (Ex (d + 1) 154 0 [some (.ref 2567), some (.int (iN l)), none] [] μ Q ↔ Q (.inl (some (.int v))) ν)) : Ex (d + 2) 152 0 [some (.ref 0), some (.int (iN l))] [] μ Q ↔ Q (.inl (some (.int v))) ν := by
  have hw := hW
  unfold jWd at hw
  have hnd := fun (d : Nat) (x : Int32) (Q : jO → jM → Prop) => c_needL (d := d) (x := x) (Q := Q) hW
  have hj : jhas (iN l) (iN n) 10 = 1 := jhas_in hl h10 (by decide)
  have lc : (iN l).toNatClampNeg = l := iN_cl (by omega)
  have lj : jin (iN l) 10 = true := iN_in (by omega) (by omega)
  rcases hd with hd | hd
  · simp only [x152_0, x152_1, x152_2, x152_5, x152_6, x152_9, x152_12, x152_13, x152_14, x152_17, x152_18, x152_21, x152_24, x152_25, x152_26, x152_27, x152_30, x152_40, x152_41, x152_44, x152_45, x152_48, mzi, mInc, mne, mlt9, mrk, mI1, mI2, mI3, mI4, mL1, mL2, mL3, mL4, mQ1, mQ2, mQ3, mQ4, mT1, mcat0, mcat1, mcat2, mcat3, mcat4, mrf1, jK_v, jK_n, JA, mz1, if_true, if_false, ite_true, ite_false, eq_self, not_false_eq_true, Nat.zero_le, true_and, and_true, and_self, Nat.reduceMod, Nat.reduceAdd, Nat.reduceLeDiff, Nat.reduceEqDiff, Nat.reduceLT, hw, hnd, hn, hj, lc, lj, hi, hd]
  · simp only [x152_0, x152_1, x152_2, x152_5, x152_6, x152_9, x152_12, x152_13, x152_14, x152_17, x152_18, x152_21, x152_24, x152_25, x152_26, x152_27, x152_30, x152_40, x152_41, x152_44, x152_45, x152_48, mzi, mInc, mne, mlt9, mrk, mI1, mI2, mI3, mI4, mL1, mL2, mL3, mL4, mQ1, mQ2, mQ3, mQ4, mT1, mcat0, mcat1, mcat2, mcat3, mcat4, mrf1, jK_v, jK_n, JA, mz1, if_true, if_false, ite_true, ite_false, eq_self, not_false_eq_true, Nat.zero_le, true_and, and_true, and_self, Nat.reduceMod, Nat.reduceAdd, Nat.reduceLeDiff, Nat.reduceEqDiff, Nat.reduceLT, hw, hnd, hn, hj, lc, lj, hi, hd, (show ¬ (4 : Int32) = 0 by decide)]
theorem c_lift_y (hW : jWd μ) (hn : jI μ 1731 1 = iN n) (h10 : n ≤ 10) (hl : l < n) (hd : ¬ jI μ 2640 l = 0) (hd2 : ¬ jI μ 2640 l = 4) : Ex (d + 2) 152 0 [some (.ref 0), some (.int (iN l))] [] μ Q ↔ Q (.inr 0) (jthr μ) := by
  have hw := hW
  unfold jWd at hw
  have hnd := fun (d : Nat) (x : Int32) (Q : jO → jM → Prop) => c_needL (d := d) (x := x) (Q := Q) hW
  have hj : jhas (iN l) (iN n) 10 = 1 := jhas_in hl h10 (by decide)
  have lc : (iN l).toNatClampNeg = l := iN_cl (by omega)
  have lj : jin (iN l) 10 = true := iN_in (by omega) (by omega)
  simp only [x152_0, x152_1, x152_2, x152_5, x152_6, x152_9, x152_12, x152_13, x152_14, x152_17, x152_18, x152_21, x152_24, x152_25, x152_26, x152_27, x152_30, x152_40, x152_41, x152_44, x152_45, x152_48, mzi, mInc, mne, mlt9, mrk, mI1, mI2, mI3, mI4, mL1, mL2, mL3, mL4, mQ1, mQ2, mQ3, mQ4, mT1, mcat0, mcat1, mcat2, mcat3, mcat4, mrf1, jK_v, jK_n, JA, mz1, if_true, if_false, ite_true, ite_false, eq_self, not_false_eq_true, Nat.zero_le, true_and, and_true, and_self, Nat.reduceMod, Nat.reduceAdd, Nat.reduceLeDiff, Nat.reduceEqDiff, Nat.reduceLT, hw, hnd, hn, hj, lc, lj, hd, hd2]
theorem c_lift_x (hW : jWd μ) (hn : jI μ 1731 1 = iN n) (h10 : n ≤ 10) (h : ¬ ∃ l, l < n ∧ x = iN l) : Ex (d + 2) 152 0 [some (.ref 0), some (.int x)] [] μ Q ↔ Q (.inr 2) (jthr μ) := by
  have hw := hW
  unfold jWd at hw
  have hnd := fun (d : Nat) (x : Int32) (Q : jO → jM → Prop) => c_needL (d := d) (x := x) (Q := Q) hW
  have hj : jhas x (iN n) 10 = 0 := jhas_no h h10 (by decide)
  have hx : jhs 152 = [] := rfl
  simp only [x152_0, x152_1, x152_2, x152_5, x152_6, x152_9, x152_12, x152_13, x152_14, x152_17, x152_18, x152_21, x152_24, x152_25, x152_26, x152_27, x152_30, x152_40, x152_41, x152_44, x152_45, x152_48, mzi, mInc, mne, mlt9, mrk, mI1, mI2, mI3, mI4, mL1, mL2, mL3, mL4, mQ1, mQ2, mQ3, mQ4, mT1, mcat0, mcat1, mcat2, mcat3, mcat4, mrf1, jK_v, jK_n, JA, mz1, if_true, if_false, ite_true, ite_false, eq_self, not_false_eq_true, Nat.zero_le, true_and, and_true, and_self, Nat.reduceMod, Nat.reduceAdd, Nat.reduceLeDiff, Nat.reduceEqDiff, Nat.reduceLT, hnd, hn, hj, hx, jK_x]
theorem d_lift_v {v : Int32} (hM : jMp μ p) (hn : jI μ (64 * p + 11) 2 = iN n) (h10 : n ≤ 10) (hl : l < n) (hd : jI μ 5904 l = 0 ∨ jI μ 5904 l = 4) (hi : ∀ (d : Nat) (Q : jO → jM → Prop), (Ex d 157 0 [some (.ref 5836), some (.int (iN l))] [] (jsI μ 4490 0 0) Q ↔ Q (.inl (some (.int v))) ν)) : Ex (d + 2) 155 0 [some (.ref 4490), some (.int (iN l))] [] μ Q ↔ Q (.inl (some (.int v))) ν := by
  have hf := hM.2.1
  have hM' : jMp (jsI μ 4490 0 0) p := by rw [jMp_I]; exact hM
  have hn' : jI (jsI μ 4490 0 0) (64 * p + 11) 2 = iN n := by rw [mI2 (by omega)]; exact hn
  have hL := fun (d : Nat) (x : Int32) (Q : jO → jM → Prop) => d_isL (d := d) (x := x) (Q := Q) hM' hn' h10
  have hw := hM.1
  unfold jWd at hw
  have hj : jhas (iN l) (iN n) 10 = 1 := jhas_in hl h10 (by decide)
  have lc : (iN l).toNatClampNeg = l := iN_cl (by omega)
  have lj : jin (iN l) 10 = true := iN_in (by omega) (by omega)
  have hin := fun (d : Nat) (μ : jM) (v lo hi : Int32) (Q : jO → jM → Prop) => d_isIn (d := d) (μ := μ) (v := v) (lo := lo) (hi := hi) (Q := Q)
  have hno := fun (d : Nat) (μ : jM) (k : Int32) (Q : jO → jM → Prop) => d_no (d := d) (μ := μ) (k := k) (Q := Q)
  rcases hd with hd | hd
  · simp only [x155_0, x155_1, x155_2, x155_5, x155_6, x155_7, x155_10, x155_13, x155_14, x155_15, x155_18, x155_19, x155_20, x155_23, x155_26, x155_27, x155_28, x155_31, x155_32, x155_35, x155_38, x155_39, x155_40, x155_41, x155_44, x155_45, x155_48, x155_49, x155_52, x155_55, x155_56, x155_57, x155_60, mzi, mInc, mne, mlt9, mrk, mI1, mI2, mI3, mI4, mL1, mL2, mL3, mL4, mQ1, mQ2, mQ3, mQ4, mT1, mcat0, mcat1, mcat2, mcat3, mcat4, mrf1, jK_v, jK_n, JA, mz1, if_true, if_false, ite_true, ite_false, eq_self, not_false_eq_true, Nat.zero_le, true_and, and_true, and_self, Nat.reduceMod, Nat.reduceAdd, Nat.reduceLeDiff, Nat.reduceEqDiff, Nat.reduceLT, hw, hL, hj, lc, lj, hno, hin, hi, hd]
  · simp only [x155_0, x155_1, x155_2, x155_5, x155_6, x155_7, x155_10, x155_13, x155_14, x155_15, x155_18, x155_19, x155_20, x155_23, x155_26, x155_27, x155_28, x155_31, x155_32, x155_35, x155_38, x155_39, x155_40, x155_41, x155_44, x155_45, x155_48, x155_49, x155_52, x155_55, x155_56, x155_57, x155_60, mzi, mInc, mne, mlt9, mrk, mI1, mI2, mI3, mI4, mL1, mL2, mL3, mL4, mQ1, mQ2, mQ3, mQ4, mT1, mcat0, mcat1, mcat2, mcat3, mcat4, mrf1, jK_v, jK_n, JA, mz1, if_true, if_false, ite_true, ite_false, eq_self, not_false_eq_true, Nat.zero_le, true_and, and_true, and_self, Nat.reduceMod, Nat.reduceAdd, Nat.reduceLeDiff, Nat.reduceEqDiff, Nat.reduceLT, hw, hL, hj, lc, lj, hno, hin, hi, hd, (show ¬ (4 : Int32) = 0 by decide)]
theorem d_lift_y (hM : jMp μ p) (hn : jI μ (64 * p + 11) 2 = iN n) (h10 : n ≤ 10) (hl : l < n) (hd : ¬ jI μ 5904 l = 0) (hd2 : ¬ jI μ 5904 l = 4) : Ex (d + 2) 155 0 [some (.ref 4490), some (.int (iN l))] [] μ Q ↔ Q (.inl (some (.int 0))) (jsI (jsI μ 4490 0 0) 4490 0 2) := by
  have hf := hM.2.1
  have hM' : jMp (jsI μ 4490 0 0) p := by rw [jMp_I]; exact hM
  have hn' : jI (jsI μ 4490 0 0) (64 * p + 11) 2 = iN n := by rw [mI2 (by omega)]; exact hn
  have hL := fun (d : Nat) (x : Int32) (Q : jO → jM → Prop) => d_isL (d := d) (x := x) (Q := Q) hM' hn' h10
  have hw := hM.1
  unfold jWd at hw
  have hj : jhas (iN l) (iN n) 10 = 1 := jhas_in hl h10 (by decide)
  have lc : (iN l).toNatClampNeg = l := iN_cl (by omega)
  have lj : jin (iN l) 10 = true := iN_in (by omega) (by omega)
  have hin := fun (d : Nat) (μ : jM) (v lo hi : Int32) (Q : jO → jM → Prop) => d_isIn (d := d) (μ := μ) (v := v) (lo := lo) (hi := hi) (Q := Q)
  have hno := fun (d : Nat) (μ : jM) (k : Int32) (Q : jO → jM → Prop) => d_no (d := d) (μ := μ) (k := k) (Q := Q)
  simp only [x155_0, x155_1, x155_2, x155_5, x155_6, x155_7, x155_10, x155_13, x155_14, x155_15, x155_18, x155_19, x155_20, x155_23, x155_26, x155_27, x155_28, x155_31, x155_32, x155_35, x155_38, x155_39, x155_40, x155_41, x155_44, x155_45, x155_48, x155_49, x155_52, x155_55, x155_56, x155_57, x155_60, mzi, mInc, mne, mlt9, mrk, mI1, mI2, mI3, mI4, mL1, mL2, mL3, mL4, mQ1, mQ2, mQ3, mQ4, mT1, mcat0, mcat1, mcat2, mcat3, mcat4, mrf1, jK_v, jK_n, JA, mz1, if_true, if_false, ite_true, ite_false, eq_self, not_false_eq_true, Nat.zero_le, true_and, and_true, and_self, Nat.reduceMod, Nat.reduceAdd, Nat.reduceLeDiff, Nat.reduceEqDiff, Nat.reduceLT, hw, hL, hj, lc, lj, hno, hin, hd, hd2]
theorem d_lift_x (hM : jMp μ p) (hn : jI μ (64 * p + 11) 2 = iN n) (h10 : n ≤ 10) (h : ¬ ∃ l, l < n ∧ x = iN l) : Ex (d + 2) 155 0 [some (.ref 4490), some (.int x)] [] μ Q ↔ Q (.inl (some (.int 0))) (jsI (jsI μ 4490 0 0) 4490 0 1) := by
  have hf := hM.2.1
  have hM' : jMp (jsI μ 4490 0 0) p := by rw [jMp_I]; exact hM
  have hn' : jI (jsI μ 4490 0 0) (64 * p + 11) 2 = iN n := by rw [mI2 (by omega)]; exact hn
  have hL := fun (d : Nat) (x : Int32) (Q : jO → jM → Prop) => d_isL (d := d) (x := x) (Q := Q) hM' hn' h10
  have hw := hM.1
  unfold jWd at hw
  have hno := fun (d : Nat) (μ : jM) (k : Int32) (Q : jO → jM → Prop) => d_no (d := d) (μ := μ) (k := k) (Q := Q)
  have hj : jhas x (iN n) 10 = 0 := jhas_no h h10 (by decide)
  simp only [x155_0, x155_1, x155_2, x155_5, x155_6, x155_7, x155_10, x155_13, x155_14, x155_15, x155_18, x155_19, x155_20, x155_23, x155_26, x155_27, x155_28, x155_31, x155_32, x155_35, x155_38, x155_39, x155_40, x155_41, x155_44, x155_45, x155_48, x155_49, x155_52, x155_55, x155_56, x155_57, x155_60, mzi, mInc, mne, mlt9, mrk, mI1, mI2, mI3, mI4, mL1, mL2, mL3, mL4, mQ1, mQ2, mQ3, mQ4, mT1, mcat0, mcat1, mcat2, mcat3, mcat4, mrf1, jK_v, jK_n, JA, mz1, if_true, if_false, ite_true, ite_false, eq_self, not_false_eq_true, Nat.zero_le, true_and, and_true, and_self, Nat.reduceMod, Nat.reduceAdd, Nat.reduceLeDiff, Nat.reduceEqDiff, Nat.reduceLT, hL, hj, hno]
theorem c_hang_v {v : Int32} (hW : jWd μ) (hn : jI μ 1731 1 = iN n) (h10 : n ≤ 10) (hl : l < n) (hd : ¬ jI μ 2640 l = 0) (hd2 : ¬ jI μ 2640 l = 4) (hi : ∀ (d : Nat) (Q : jO → jM → Prop), (Ex (d + 2) 168 0 [some (.ref 2567), some (.int (iN l)), none, none, none] [] μ Q ↔ Q (.inl (some (.int v))) ν)) : Ex (d + 3) 167 0 [some (.ref 0), some (.int (iN l))] [] μ Q ↔ Q (.inl (some (.int v))) ν := by
  have hw := hW
  unfold jWd at hw
  have hnd := fun (d : Nat) (x : Int32) (Q : jO → jM → Prop) => c_needL (d := d) (x := x) (Q := Q) hW
  have hj : jhas (iN l) (iN n) 10 = 1 := jhas_in hl h10 (by decide)
  have lc : (iN l).toNatClampNeg = l := iN_cl (by omega)
  have lj : jin (iN l) 10 = true := iN_in (by omega) (by omega)
  simp only [x167_0, x167_1, x167_2, x167_5, x167_6, x167_9, x167_12, x167_13, x167_14, x167_17, x167_18, x167_21, x167_24, x167_25, x167_26, x167_27, x167_30, x167_40, x167_41, x167_44, x167_45, x167_48, mzi, mInc, mne, mlt9, mrk, mI1, mI2, mI3, mI4, mL1, mL2, mL3, mL4, mQ1, mQ2, mQ3, mQ4, mT1, mcat0, mcat1, mcat2, mcat3, mcat4, mrf1, jK_v, jK_n, JA, mz1, if_true, if_false, ite_true, ite_false, eq_self, not_false_eq_true, Nat.zero_le, true_and, and_true, and_self, Nat.reduceMod, Nat.reduceAdd, Nat.reduceLeDiff, Nat.reduceEqDiff, Nat.reduceLT, hw, hnd, hn, hj, lc, lj, hi, hd, hd2]
theorem c_hang_y (hW : jWd μ) (hn : jI μ 1731 1 = iN n) (h10 : n ≤ 10) (hl : l < n) (hd : jI μ 2640 l = 0 ∨ jI μ 2640 l = 4) : Ex (d + 2) 167 0 [some (.ref 0), some (.int (iN l))] [] μ Q ↔ Q (.inr 0) (jthr μ) := by
  have hw := hW
  unfold jWd at hw
  have hnd := fun (d : Nat) (x : Int32) (Q : jO → jM → Prop) => c_needL (d := d) (x := x) (Q := Q) hW
  have hj : jhas (iN l) (iN n) 10 = 1 := jhas_in hl h10 (by decide)
  have lc : (iN l).toNatClampNeg = l := iN_cl (by omega)
  have lj : jin (iN l) 10 = true := iN_in (by omega) (by omega)
  rcases hd with hd | hd
  · simp only [x167_0, x167_1, x167_2, x167_5, x167_6, x167_9, x167_12, x167_13, x167_14, x167_17, x167_18, x167_21, x167_24, x167_25, x167_26, x167_27, x167_30, x167_40, x167_41, x167_44, x167_45, x167_48, mzi, mInc, mne, mlt9, mrk, mI1, mI2, mI3, mI4, mL1, mL2, mL3, mL4, mQ1, mQ2, mQ3, mQ4, mT1, mcat0, mcat1, mcat2, mcat3, mcat4, mrf1, jK_v, jK_n, JA, mz1, if_true, if_false, ite_true, ite_false, eq_self, not_false_eq_true, Nat.zero_le, true_and, and_true, and_self, Nat.reduceMod, Nat.reduceAdd, Nat.reduceLeDiff, Nat.reduceEqDiff, Nat.reduceLT, hw, hnd, hn, hj, lc, lj, hd]
  · simp only [x167_0, x167_1, x167_2, x167_5, x167_6, x167_9, x167_12, x167_13, x167_14, x167_17, x167_18, x167_21, x167_24, x167_25, x167_26, x167_27, x167_30, x167_40, x167_41, x167_44, x167_45, x167_48, mzi, mInc, mne, mlt9, mrk, mI1, mI2, mI3, mI4, mL1, mL2, mL3, mL4, mQ1, mQ2, mQ3, mQ4, mT1, mcat0, mcat1, mcat2, mcat3, mcat4, mrf1, jK_v, jK_n, JA, mz1, if_true, if_false, ite_true, ite_false, eq_self, not_false_eq_true, Nat.zero_le, true_and, and_true, and_self, Nat.reduceMod, Nat.reduceAdd, Nat.reduceLeDiff, Nat.reduceEqDiff, Nat.reduceLT, hw, hnd, hn, hj, lc, lj, hd, (show ¬ (4 : Int32) = 0 by decide)]
theorem c_hang_x (hW : jWd μ) (hn : jI μ 1731 1 = iN n) (h10 : n ≤ 10) (h : ¬ ∃ l, l < n ∧ x = iN l) : Ex (d + 2) 167 0 [some (.ref 0), some (.int x)] [] μ Q ↔ Q (.inr 2) (jthr μ) := by
  have hw := hW
  unfold jWd at hw
  have hnd := fun (d : Nat) (x : Int32) (Q : jO → jM → Prop) => c_needL (d := d) (x := x) (Q := Q) hW
  have hj : jhas x (iN n) 10 = 0 := jhas_no h h10 (by decide)
  have hx : jhs 167 = [] := rfl
  simp only [x167_0, x167_1, x167_2, x167_5, x167_6, x167_9, x167_12, x167_13, x167_14, x167_17, x167_18, x167_21, x167_24, x167_25, x167_26, x167_27, x167_30, x167_40, x167_41, x167_44, x167_45, x167_48, mzi, mInc, mne, mlt9, mrk, mI1, mI2, mI3, mI4, mL1, mL2, mL3, mL4, mQ1, mQ2, mQ3, mQ4, mT1, mcat0, mcat1, mcat2, mcat3, mcat4, mrf1, jK_v, jK_n, JA, mz1, if_true, if_false, ite_true, ite_false, eq_self, not_false_eq_true, Nat.zero_le, true_and, and_true, and_self, Nat.reduceMod, Nat.reduceAdd, Nat.reduceLeDiff, Nat.reduceEqDiff, Nat.reduceLT, hnd, hn, hj, hx, jK_x]
theorem d_hang_v {v : Int32} (hM : jMp μ p) (hn : jI μ (64 * p + 11) 2 = iN n) (h10 : n ≤ 10) (hl : l < n) (hd : ¬ jI μ 5904 l = 0) (hd2 : ¬ jI μ 5904 l = 4) (hi : ∀ (d : Nat) (Q : jO → jM → Prop), (Ex (d + 1) 173 0 [some (.ref 5836), some (.int (iN l)), none, none] [] (jsI μ 4490 0 0) Q ↔ Q (.inl (some (.int v))) ν)) : Ex (d + 2) 172 0 [some (.ref 4490), some (.int (iN l))] [] μ Q ↔ Q (.inl (some (.int v))) ν := by
  have hf := hM.2.1
  have hM' : jMp (jsI μ 4490 0 0) p := by rw [jMp_I]; exact hM
  have hn' : jI (jsI μ 4490 0 0) (64 * p + 11) 2 = iN n := by rw [mI2 (by omega)]; exact hn
  have hL := fun (d : Nat) (x : Int32) (Q : jO → jM → Prop) => d_isL (d := d) (x := x) (Q := Q) hM' hn' h10
  have hw := hM.1
  unfold jWd at hw
  have hj : jhas (iN l) (iN n) 10 = 1 := jhas_in hl h10 (by decide)
  have lc : (iN l).toNatClampNeg = l := iN_cl (by omega)
  have lj : jin (iN l) 10 = true := iN_in (by omega) (by omega)
  have hin := fun (d : Nat) (μ : jM) (v lo hi : Int32) (Q : jO → jM → Prop) => d_isIn (d := d) (μ := μ) (v := v) (lo := lo) (hi := hi) (Q := Q)
  have hno := fun (d : Nat) (μ : jM) (k : Int32) (Q : jO → jM → Prop) => d_no (d := d) (μ := μ) (k := k) (Q := Q)
  simp only [x172_0, x172_1, x172_2, x172_5, x172_6, x172_7, x172_10, x172_13, x172_14, x172_15, x172_18, x172_19, x172_20, x172_23, x172_26, x172_27, x172_28, x172_31, x172_32, x172_35, x172_38, x172_39, x172_40, x172_41, x172_44, x172_45, x172_46, x172_49, x172_52, x172_53, x172_56, x172_57, x172_60, mzi, mInc, mne, mlt9, mrk, mI1, mI2, mI3, mI4, mL1, mL2, mL3, mL4, mQ1, mQ2, mQ3, mQ4, mT1, mcat0, mcat1, mcat2, mcat3, mcat4, mrf1, jK_v, jK_n, JA, mz1, if_true, if_false, ite_true, ite_false, eq_self, not_false_eq_true, Nat.zero_le, true_and, and_true, and_self, Nat.reduceMod, Nat.reduceAdd, Nat.reduceLeDiff, Nat.reduceEqDiff, Nat.reduceLT, hw, hL, hj, lc, lj, hno, hin, hi, hd, hd2]
theorem d_hang_y (hM : jMp μ p) (hn : jI μ (64 * p + 11) 2 = iN n) (h10 : n ≤ 10) (hl : l < n) (hd : jI μ 5904 l = 0 ∨ jI μ 5904 l = 4) : Ex (d + 2) 172 0 [some (.ref 4490), some (.int (iN l))] [] μ Q ↔ Q (.inl (some (.int 0))) (jsI (jsI μ 4490 0 0) 4490 0 2) := by
  have hf := hM.2.1
  have hM' : jMp (jsI μ 4490 0 0) p := by rw [jMp_I]; exact hM
  have hn' : jI (jsI μ 4490 0 0) (64 * p + 11) 2 = iN n := by rw [mI2 (by omega)]; exact hn
  have hL := fun (d : Nat) (x : Int32) (Q : jO → jM → Prop) => d_isL (d := d) (x := x) (Q := Q) hM' hn' h10
  have hw := hM.1
  unfold jWd at hw
  have hj : jhas (iN l) (iN n) 10 = 1 := jhas_in hl h10 (by decide)
  have lc : (iN l).toNatClampNeg = l := iN_cl (by omega)
  have lj : jin (iN l) 10 = true := iN_in (by omega) (by omega)
  have hin := fun (d : Nat) (μ : jM) (v lo hi : Int32) (Q : jO → jM → Prop) => d_isIn (d := d) (μ := μ) (v := v) (lo := lo) (hi := hi) (Q := Q)
  have hno := fun (d : Nat) (μ : jM) (k : Int32) (Q : jO → jM → Prop) => d_no (d := d) (μ := μ) (k := k) (Q := Q)
  rcases hd with hd | hd
  · simp only [x172_0, x172_1, x172_2, x172_5, x172_6, x172_7, x172_10, x172_13, x172_14, x172_15, x172_18, x172_19, x172_20, x172_23, x172_26, x172_27, x172_28, x172_31, x172_32, x172_35, x172_38, x172_39, x172_40, x172_41, x172_44, x172_45, x172_46, x172_49, x172_52, x172_53, x172_56, x172_57, x172_60, mzi, mInc, mne, mlt9, mrk, mI1, mI2, mI3, mI4, mL1, mL2, mL3, mL4, mQ1, mQ2, mQ3, mQ4, mT1, mcat0, mcat1, mcat2, mcat3, mcat4, mrf1, jK_v, jK_n, JA, mz1, if_true, if_false, ite_true, ite_false, eq_self, not_false_eq_true, Nat.zero_le, true_and, and_true, and_self, Nat.reduceMod, Nat.reduceAdd, Nat.reduceLeDiff, Nat.reduceEqDiff, Nat.reduceLT, hw, hL, hj, lc, lj, hno, hin, hd]
  · simp only [x172_0, x172_1, x172_2, x172_5, x172_6, x172_7, x172_10, x172_13, x172_14, x172_15, x172_18, x172_19, x172_20, x172_23, x172_26, x172_27, x172_28, x172_31, x172_32, x172_35, x172_38, x172_39, x172_40, x172_41, x172_44, x172_45, x172_46, x172_49, x172_52, x172_53, x172_56, x172_57, x172_60, mzi, mInc, mne, mlt9, mrk, mI1, mI2, mI3, mI4, mL1, mL2, mL3, mL4, mQ1, mQ2, mQ3, mQ4, mT1, mcat0, mcat1, mcat2, mcat3, mcat4, mrf1, jK_v, jK_n, JA, mz1, if_true, if_false, ite_true, ite_false, eq_self, not_false_eq_true, Nat.zero_le, true_and, and_true, and_self, Nat.reduceMod, Nat.reduceAdd, Nat.reduceLeDiff, Nat.reduceEqDiff, Nat.reduceLT, hw, hL, hj, lc, lj, hno, hin, hd, (show ¬ (4 : Int32) = 0 by decide)]
theorem d_hang_x (hM : jMp μ p) (hn : jI μ (64 * p + 11) 2 = iN n) (h10 : n ≤ 10) (h : ¬ ∃ l, l < n ∧ x = iN l) : Ex (d + 2) 172 0 [some (.ref 4490), some (.int x)] [] μ Q ↔ Q (.inl (some (.int 0))) (jsI (jsI μ 4490 0 0) 4490 0 1) := by
  have hf := hM.2.1
  have hM' : jMp (jsI μ 4490 0 0) p := by rw [jMp_I]; exact hM
  have hn' : jI (jsI μ 4490 0 0) (64 * p + 11) 2 = iN n := by rw [mI2 (by omega)]; exact hn
  have hL := fun (d : Nat) (x : Int32) (Q : jO → jM → Prop) => d_isL (d := d) (x := x) (Q := Q) hM' hn' h10
  have hw := hM.1
  unfold jWd at hw
  have hno := fun (d : Nat) (μ : jM) (k : Int32) (Q : jO → jM → Prop) => d_no (d := d) (μ := μ) (k := k) (Q := Q)
  have hj : jhas x (iN n) 10 = 0 := jhas_no h h10 (by decide)
  simp only [x172_0, x172_1, x172_2, x172_5, x172_6, x172_7, x172_10, x172_13, x172_14, x172_15, x172_18, x172_19, x172_20, x172_23, x172_26, x172_27, x172_28, x172_31, x172_32, x172_35, x172_38, x172_39, x172_40, x172_41, x172_44, x172_45, x172_46, x172_49, x172_52, x172_53, x172_56, x172_57, x172_60, mzi, mInc, mne, mlt9, mrk, mI1, mI2, mI3, mI4, mL1, mL2, mL3, mL4, mQ1, mQ2, mQ3, mQ4, mT1, mcat0, mcat1, mcat2, mcat3, mcat4, mrf1, jK_v, jK_n, JA, mz1, if_true, if_false, ite_true, ite_false, eq_self, not_false_eq_true, Nat.zero_le, true_and, and_true, and_self, Nat.reduceMod, Nat.reduceAdd, Nat.reduceLeDiff, Nat.reduceEqDiff, Nat.reduceLT, hL, hj, hno]
theorem c_dial_v {v : Int32} (hW : jWd μ) (hn : jI μ 1731 1 = iN n) (h10 : n ≤ 10) (hl : l < n) (hy : ¬ y < 0) (hy2 : ¬ 9 < y) (hd : jI μ 2640 l = 1) (hi : ∀ (d : Nat) (Q : jO → jM → Prop), (Ex (d + 2) 160 0 [some (.ref 2567), some (.int (iN l)), some (.int y), none] [] μ Q ↔ Q (.inl (some (.int v))) ν)) : Ex (d + 3) 159 0 [some (.ref 0), some (.int (iN l)), some (.int y)] [] μ Q ↔ Q (.inl (some (.int v))) ν := by
  have hw := hW
  unfold jWd at hw
  have hnd := fun (d : Nat) (x : Int32) (Q : jO → jM → Prop) => c_needL (d := d) (x := x) (Q := Q) hW
  have hj : jhas (iN l) (iN n) 10 = 1 := jhas_in hl h10 (by decide)
  have lc : (iN l).toNatClampNeg = l := iN_cl (by omega)
  have lj : jin (iN l) 10 = true := iN_in (by omega) (by omega)
  simp only [x159_0, x159_1, x159_2, x159_5, x159_6, x159_9, x159_10, x159_12, x159_15, x159_25, x159_26, x159_29, x159_32, x159_33, x159_34, x159_35, x159_38, x159_48, x159_49, x159_52, x159_53, x159_54, x159_57, mzi, mInc, mne, mlt9, mrk, mI1, mI2, mI3, mI4, mL1, mL2, mL3, mL4, mQ1, mQ2, mQ3, mQ4, mT1, mcat0, mcat1, mcat2, mcat3, mcat4, mrf1, jK_v, jK_n, JA, mz1, if_true, if_false, ite_true, ite_false, eq_self, not_false_eq_true, Nat.zero_le, true_and, and_true, and_self, Nat.reduceMod, Nat.reduceAdd, Nat.reduceLeDiff, Nat.reduceEqDiff, Nat.reduceLT, hw, hnd, hn, hj, lc, lj, hi, hy, hy2, hd]
theorem c_dial_y (hW : jWd μ) (hn : jI μ 1731 1 = iN n) (h10 : n ≤ 10) (hl : l < n) (hy : ¬ y < 0) (hy2 : ¬ 9 < y) (hd : ¬ jI μ 2640 l = 1) : Ex (d + 2) 159 0 [some (.ref 0), some (.int (iN l)), some (.int y)] [] μ Q ↔ Q (.inr 0) (jthr μ) := by
  have hw := hW
  unfold jWd at hw
  have hnd := fun (d : Nat) (x : Int32) (Q : jO → jM → Prop) => c_needL (d := d) (x := x) (Q := Q) hW
  have hj : jhas (iN l) (iN n) 10 = 1 := jhas_in hl h10 (by decide)
  have lc : (iN l).toNatClampNeg = l := iN_cl (by omega)
  have lj : jin (iN l) 10 = true := iN_in (by omega) (by omega)
  simp only [x159_0, x159_1, x159_2, x159_5, x159_6, x159_9, x159_10, x159_12, x159_15, x159_25, x159_26, x159_29, x159_32, x159_33, x159_34, x159_35, x159_38, x159_48, x159_49, x159_52, x159_53, x159_54, x159_57, mzi, mInc, mne, mlt9, mrk, mI1, mI2, mI3, mI4, mL1, mL2, mL3, mL4, mQ1, mQ2, mQ3, mQ4, mT1, mcat0, mcat1, mcat2, mcat3, mcat4, mrf1, jK_v, jK_n, JA, mz1, if_true, if_false, ite_true, ite_false, eq_self, not_false_eq_true, Nat.zero_le, true_and, and_true, and_self, Nat.reduceMod, Nat.reduceAdd, Nat.reduceLeDiff, Nat.reduceEqDiff, Nat.reduceLT, hw, hnd, hn, hj, lc, lj, hy, hy2, hd]
theorem c_dial_x (hW : jWd μ) (hn : jI μ 1731 1 = iN n) (h10 : n ≤ 10) (h : ¬ ∃ l, l < n ∧ x = iN l) : Ex (d + 2) 159 0 [some (.ref 0), some (.int x), some (.int y)] [] μ Q ↔ Q (.inr 2) (jthr μ) := by
  have hw := hW
  unfold jWd at hw
  have hnd := fun (d : Nat) (x : Int32) (Q : jO → jM → Prop) => c_needL (d := d) (x := x) (Q := Q) hW
  have hj : jhas x (iN n) 10 = 0 := jhas_no h h10 (by decide)
  have hx : jhs 159 = [] := rfl
  simp only [x159_0, x159_1, x159_2, x159_5, x159_6, x159_9, x159_10, x159_12, x159_15, x159_25, x159_26, x159_29, x159_32, x159_33, x159_34, x159_35, x159_38, x159_48, x159_49, x159_52, x159_53, x159_54, x159_57, mzi, mInc, mne, mlt9, mrk, mI1, mI2, mI3, mI4, mL1, mL2, mL3, mL4, mQ1, mQ2, mQ3, mQ4, mT1, mcat0, mcat1, mcat2, mcat3, mcat4, mrf1, jK_v, jK_n, JA, mz1, if_true, if_false, ite_true, ite_false, eq_self, not_false_eq_true, Nat.zero_le, true_and, and_true, and_self, Nat.reduceMod, Nat.reduceAdd, Nat.reduceLeDiff, Nat.reduceEqDiff, Nat.reduceLT, hnd, hn, hj, hx, jK_x]
theorem d_dial_v {v : Int32} (hM : jMp μ p) (hn : jI μ (64 * p + 11) 2 = iN n) (h10 : n ≤ 10) (hl : l < n) (hy : ¬ y < 0) (hy2 : ¬ 9 < y) (hd : jI μ 5904 l = 1) (hi : ∀ (d : Nat) (Q : jO → jM → Prop), (Ex (d + 1) 163 0 [some (.ref 5836), some (.int (iN l)), some (.int y)] [] (jsI μ 4490 0 0) Q ↔ Q (.inl (some (.int v))) ν)) : Ex (d + 2) 162 0 [some (.ref 4490), some (.int (iN l)), some (.int y)] [] μ Q ↔ Q (.inl (some (.int v))) ν := by
  have hf := hM.2.1
  have hM' : jMp (jsI μ 4490 0 0) p := by rw [jMp_I]; exact hM
  have hn' : jI (jsI μ 4490 0 0) (64 * p + 11) 2 = iN n := by rw [mI2 (by omega)]; exact hn
  have hL := fun (d : Nat) (x : Int32) (Q : jO → jM → Prop) => d_isL (d := d) (x := x) (Q := Q) hM' hn' h10
  have hw := hM.1
  unfold jWd at hw
  have hj : jhas (iN l) (iN n) 10 = 1 := jhas_in hl h10 (by decide)
  have lc : (iN l).toNatClampNeg = l := iN_cl (by omega)
  have lj : jin (iN l) 10 = true := iN_in (by omega) (by omega)
  have hin := fun (d : Nat) (μ : jM) (v lo hi : Int32) (Q : jO → jM → Prop) => d_isIn (d := d) (μ := μ) (v := v) (lo := lo) (hi := hi) (Q := Q)
  have hno := fun (d : Nat) (μ : jM) (k : Int32) (Q : jO → jM → Prop) => d_no (d := d) (μ := μ) (k := k) (Q := Q)
  simp only [x162_0, x162_1, x162_2, x162_5, x162_6, x162_7, x162_10, x162_13, x162_14, x162_15, x162_18, x162_19, x162_20, x162_21, x162_23, x162_26, x162_29, x162_30, x162_31, x162_34, x162_35, x162_36, x162_39, x162_42, x162_43, x162_44, x162_45, x162_48, x162_49, x162_52, x162_53, x162_54, x162_57, x162_60, x162_61, x162_62, x162_65, mzi, mInc, mne, mlt9, mrk, mI1, mI2, mI3, mI4, mL1, mL2, mL3, mL4, mQ1, mQ2, mQ3, mQ4, mT1, mcat0, mcat1, mcat2, mcat3, mcat4, mrf1, jK_v, jK_n, JA, mz1, if_true, if_false, ite_true, ite_false, eq_self, not_false_eq_true, Nat.zero_le, true_and, and_true, and_self, Nat.reduceMod, Nat.reduceAdd, Nat.reduceLeDiff, Nat.reduceEqDiff, Nat.reduceLT, hw, hL, hj, lc, lj, hno, hin, hi, hy, hy2, hd]
theorem d_dial_y (hM : jMp μ p) (hn : jI μ (64 * p + 11) 2 = iN n) (h10 : n ≤ 10) (hl : l < n) (hy : ¬ y < 0) (hy2 : ¬ 9 < y) (hd : ¬ jI μ 5904 l = 1) : Ex (d + 2) 162 0 [some (.ref 4490), some (.int (iN l)), some (.int y)] [] μ Q ↔ Q (.inl (some (.int 0))) (jsI (jsI μ 4490 0 0) 4490 0 3) := by
  have hf := hM.2.1
  have hM' : jMp (jsI μ 4490 0 0) p := by rw [jMp_I]; exact hM
  have hn' : jI (jsI μ 4490 0 0) (64 * p + 11) 2 = iN n := by rw [mI2 (by omega)]; exact hn
  have hL := fun (d : Nat) (x : Int32) (Q : jO → jM → Prop) => d_isL (d := d) (x := x) (Q := Q) hM' hn' h10
  have hw := hM.1
  unfold jWd at hw
  have hj : jhas (iN l) (iN n) 10 = 1 := jhas_in hl h10 (by decide)
  have lc : (iN l).toNatClampNeg = l := iN_cl (by omega)
  have lj : jin (iN l) 10 = true := iN_in (by omega) (by omega)
  have hin := fun (d : Nat) (μ : jM) (v lo hi : Int32) (Q : jO → jM → Prop) => d_isIn (d := d) (μ := μ) (v := v) (lo := lo) (hi := hi) (Q := Q)
  have hno := fun (d : Nat) (μ : jM) (k : Int32) (Q : jO → jM → Prop) => d_no (d := d) (μ := μ) (k := k) (Q := Q)
  simp only [x162_0, x162_1, x162_2, x162_5, x162_6, x162_7, x162_10, x162_13, x162_14, x162_15, x162_18, x162_19, x162_20, x162_21, x162_23, x162_26, x162_29, x162_30, x162_31, x162_34, x162_35, x162_36, x162_39, x162_42, x162_43, x162_44, x162_45, x162_48, x162_49, x162_52, x162_53, x162_54, x162_57, x162_60, x162_61, x162_62, x162_65, mzi, mInc, mne, mlt9, mrk, mI1, mI2, mI3, mI4, mL1, mL2, mL3, mL4, mQ1, mQ2, mQ3, mQ4, mT1, mcat0, mcat1, mcat2, mcat3, mcat4, mrf1, jK_v, jK_n, JA, mz1, if_true, if_false, ite_true, ite_false, eq_self, not_false_eq_true, Nat.zero_le, true_and, and_true, and_self, Nat.reduceMod, Nat.reduceAdd, Nat.reduceLeDiff, Nat.reduceEqDiff, Nat.reduceLT, hw, hL, hj, lc, lj, hno, hin, hy, hy2, hd]
theorem d_dial_x (hM : jMp μ p) (hn : jI μ (64 * p + 11) 2 = iN n) (h10 : n ≤ 10) (h : ¬ ∃ l, l < n ∧ x = iN l) : Ex (d + 2) 162 0 [some (.ref 4490), some (.int x), some (.int y)] [] μ Q ↔ Q (.inl (some (.int 0))) (jsI (jsI μ 4490 0 0) 4490 0 1) := by
  have hf := hM.2.1
  have hM' : jMp (jsI μ 4490 0 0) p := by rw [jMp_I]; exact hM
  have hn' : jI (jsI μ 4490 0 0) (64 * p + 11) 2 = iN n := by rw [mI2 (by omega)]; exact hn
  have hL := fun (d : Nat) (x : Int32) (Q : jO → jM → Prop) => d_isL (d := d) (x := x) (Q := Q) hM' hn' h10
  have hw := hM.1
  unfold jWd at hw
  have hno := fun (d : Nat) (μ : jM) (k : Int32) (Q : jO → jM → Prop) => d_no (d := d) (μ := μ) (k := k) (Q := Q)
  have hj : jhas x (iN n) 10 = 0 := jhas_no h h10 (by decide)
  simp only [x162_0, x162_1, x162_2, x162_5, x162_6, x162_7, x162_10, x162_13, x162_14, x162_15, x162_18, x162_19, x162_20, x162_21, x162_23, x162_26, x162_29, x162_30, x162_31, x162_34, x162_35, x162_36, x162_39, x162_42, x162_43, x162_44, x162_45, x162_48, x162_49, x162_52, x162_53, x162_54, x162_57, x162_60, x162_61, x162_62, x162_65, mzi, mInc, mne, mlt9, mrk, mI1, mI2, mI3, mI4, mL1, mL2, mL3, mL4, mQ1, mQ2, mQ3, mQ4, mT1, mcat0, mcat1, mcat2, mcat3, mcat4, mrf1, jK_v, jK_n, JA, mz1, if_true, if_false, ite_true, ite_false, eq_self, not_false_eq_true, Nat.zero_le, true_and, and_true, and_self, Nat.reduceMod, Nat.reduceAdd, Nat.reduceLeDiff, Nat.reduceEqDiff, Nat.reduceLT, hL, hj, hno]
theorem c_dial_z (hW : jWd μ) (hn : jI μ 1731 1 = iN n) (h10 : n ≤ 10) (hl : l < n) (hy : y < 0 ∨ 9 < y) : Ex (d + 2) 159 0 [some (.ref 0), some (.int (iN l)), some (.int y)] [] μ Q ↔ Q (.inr 1) (jthr μ) := by
  have hw := hW
  unfold jWd at hw
  have hnd := fun (d : Nat) (x : Int32) (Q : jO → jM → Prop) => c_needL (d := d) (x := x) (Q := Q) hW
  have hj : jhas (iN l) (iN n) 10 = 1 := jhas_in hl h10 (by decide)
  have lc : (iN l).toNatClampNeg = l := iN_cl (by omega)
  have lj : jin (iN l) 10 = true := iN_in (by omega) (by omega)
  by_cases h0 : y < 0
  · simp only [x159_0, x159_1, x159_2, x159_5, x159_6, x159_9, x159_10, x159_12, x159_15, x159_25, x159_26, x159_29, x159_32, x159_33, x159_34, x159_35, x159_38, x159_48, x159_49, x159_52, x159_53, x159_54, x159_57, mzi, mInc, mne, mlt9, mrk, mI1, mI2, mI3, mI4, mL1, mL2, mL3, mL4, mQ1, mQ2, mQ3, mQ4, mT1, mcat0, mcat1, mcat2, mcat3, mcat4, mrf1, jK_v, jK_n, JA, mz1, if_true, if_false, ite_true, ite_false, eq_self, not_false_eq_true, Nat.zero_le, true_and, and_true, and_self, Nat.reduceMod, Nat.reduceAdd, Nat.reduceLeDiff, Nat.reduceEqDiff, Nat.reduceLT, hw, hnd, hn, hj, lc, lj, h0]
  · have h9 := hy.resolve_left h0
    simp only [x159_0, x159_1, x159_2, x159_5, x159_6, x159_9, x159_10, x159_12, x159_15, x159_25, x159_26, x159_29, x159_32, x159_33, x159_34, x159_35, x159_38, x159_48, x159_49, x159_52, x159_53, x159_54, x159_57, mzi, mInc, mne, mlt9, mrk, mI1, mI2, mI3, mI4, mL1, mL2, mL3, mL4, mQ1, mQ2, mQ3, mQ4, mT1, mcat0, mcat1, mcat2, mcat3, mcat4, mrf1, jK_v, jK_n, JA, mz1, if_true, if_false, ite_true, ite_false, eq_self, not_false_eq_true, Nat.zero_le, true_and, and_true, and_self, Nat.reduceMod, Nat.reduceAdd, Nat.reduceLeDiff, Nat.reduceEqDiff, Nat.reduceLT, hw, hnd, hn, hj, lc, lj, h0, h9]
theorem d_dial_z (hM : jMp μ p) (hn : jI μ (64 * p + 11) 2 = iN n) (h10 : n ≤ 10) (hl : l < n) (hy : y < 0 ∨ 9 < y) : Ex (d + 2) 162 0 [some (.ref 4490), some (.int (iN l)), some (.int y)] [] μ Q ↔ Q (.inl (some (.int 0))) (jsI (jsI μ 4490 0 0) 4490 0 2) := by
  have hf := hM.2.1
  have hM' : jMp (jsI μ 4490 0 0) p := by rw [jMp_I]; exact hM
  have hn' : jI (jsI μ 4490 0 0) (64 * p + 11) 2 = iN n := by rw [mI2 (by omega)]; exact hn
  have hL := fun (d : Nat) (x : Int32) (Q : jO → jM → Prop) => d_isL (d := d) (x := x) (Q := Q) hM' hn' h10
  have hw := hM.1
  unfold jWd at hw
  have hj : jhas (iN l) (iN n) 10 = 1 := jhas_in hl h10 (by decide)
  have lc : (iN l).toNatClampNeg = l := iN_cl (by omega)
  have lj : jin (iN l) 10 = true := iN_in (by omega) (by omega)
  have hin := fun (d : Nat) (μ : jM) (v lo hi : Int32) (Q : jO → jM → Prop) => d_isIn (d := d) (μ := μ) (v := v) (lo := lo) (hi := hi) (Q := Q)
  have hno := fun (d : Nat) (μ : jM) (k : Int32) (Q : jO → jM → Prop) => d_no (d := d) (μ := μ) (k := k) (Q := Q)
  by_cases h0 : y < 0
  · simp only [x162_0, x162_1, x162_2, x162_5, x162_6, x162_7, x162_10, x162_13, x162_14, x162_15, x162_18, x162_19, x162_20, x162_21, x162_23, x162_26, x162_29, x162_30, x162_31, x162_34, x162_35, x162_36, x162_39, x162_42, x162_43, x162_44, x162_45, x162_48, x162_49, x162_52, x162_53, x162_54, x162_57, x162_60, x162_61, x162_62, x162_65, mzi, mInc, mne, mlt9, mrk, mI1, mI2, mI3, mI4, mL1, mL2, mL3, mL4, mQ1, mQ2, mQ3, mQ4, mT1, mcat0, mcat1, mcat2, mcat3, mcat4, mrf1, jK_v, jK_n, JA, mz1, if_true, if_false, ite_true, ite_false, eq_self, not_false_eq_true, Nat.zero_le, true_and, and_true, and_self, Nat.reduceMod, Nat.reduceAdd, Nat.reduceLeDiff, Nat.reduceEqDiff, Nat.reduceLT, hw, hL, hj, lc, lj, hno, hin, h0]
  · have h9 := hy.resolve_left h0
    simp only [x162_0, x162_1, x162_2, x162_5, x162_6, x162_7, x162_10, x162_13, x162_14, x162_15, x162_18, x162_19, x162_20, x162_21, x162_23, x162_26, x162_29, x162_30, x162_31, x162_34, x162_35, x162_36, x162_39, x162_42, x162_43, x162_44, x162_45, x162_48, x162_49, x162_52, x162_53, x162_54, x162_57, x162_60, x162_61, x162_62, x162_65, mzi, mInc, mne, mlt9, mrk, mI1, mI2, mI3, mI4, mL1, mL2, mL3, mL4, mQ1, mQ2, mQ3, mQ4, mT1, mcat0, mcat1, mcat2, mcat3, mcat4, mrf1, jK_v, jK_n, JA, mz1, if_true, if_false, ite_true, ite_false, eq_self, not_false_eq_true, Nat.zero_le, true_and, and_true, and_self, Nat.reduceMod, Nat.reduceAdd, Nat.reduceLeDiff, Nat.reduceEqDiff, Nat.reduceLT, hw, hL, hj, lc, lj, hno, hin, h0, h9]
theorem jSmn_fd {l : Nat} : jSmn μ (kFdn μ l) := jSmn_t (jSmn_t (jSmn_I (by decide) (by decide)) (jSmn_I (by decide) (by decide))) (jSmn_I (by decide) (by decide))
theorem jSmn_hg {p o : Option Nat} : jSmn μ (kHgn μ l w p o) := by
  unfold kHgn
  cases p with
  | none =>
    cases o with
    | none => exact jSmn_t (jSmn_I (by decide) (by decide)) jSmn_fd
    | some j => exact jSmn_t (jSmn_t (jSmn_t (jSmn_I (by decide) (by decide)) jSmn_d) (jSmn_I (by decide) (by decide))) jSmn_fd
  | some q =>
    cases o with
    | none => exact jSmn_t (jSmn_t jSmn_l (jSmn_I (by decide) (by decide))) jSmn_fd
    | some j => exact jSmn_t (jSmn_t (jSmn_t (jSmn_t jSmn_l (jSmn_I (by decide) (by decide))) jSmn_d) (jSmn_I (by decide) (by decide))) jSmn_fd
theorem jSmn_dl {c : Int32} {o : Option Nat} : jSmn μ (kDialn μ l w c o) := by
  have h : jSmn μ (kDln μ l c) := jSmn_t (jSmn_t (jSmn_I (by decide) (by decide)) (jSmn_I (by decide) (by decide))) (jSmn_I (by decide) (by decide))
  unfold kDialn
  cases o with
  | none => exact h
  | some k =>
    dsimp only
    split
    · exact jSmn_t h (jSmn_t (jSmn_I (by decide) (by decide)) (jSmn_t (jSmn_I (by decide) (by decide)) (jSmn_t (jSmn_I (by decide) (by decide)) (jSmn_t (jSmn_I (by decide) (by decide)) (jSmn_I (by decide) (by decide))))))
    · exact jSmn_t h (jSmn_I (by decide) (by decide))
theorem jFms_hg {p o : Option Nat} : jFms B (kHgMs B l w p o) := by
  have h3 : ∀ C : jM, jFms C (jsI (jsI (jsI C 5904 l 0) 6032 l 0) 5968 l 0) := fun C => jFms_t (jFms_t (jFms_I (by decide) (by decide)) (jFms_I (by decide) (by decide))) (jFms_I (by decide) (by decide))
  unfold kHgMs
  cases p with
  | none =>
    cases o with
    | none => exact h3 _
    | some j =>
      dsimp only
      split
      · exact jFms_t (jFms_t (jFms_t (jFms_t (jFms_I (by decide) (by decide)) (jFms_I (by decide) (by decide))) (jFms_I (by decide) (by decide))) (jFms_I (by decide) (by decide))) (h3 _)
      · exact jFms_t (jFms_t (jFms_t (jFms_t (jFms_I (by decide) (by decide)) (jFms_I (by decide) (by decide))) (jFms_I (by decide) (by decide))) (jFms_I (by decide) (by decide))) (h3 _)
  | some q =>
    cases o with
    | none => exact jFms_t jFms_l (h3 _)
    | some j =>
      dsimp only
      split
      · exact jFms_t jFms_l (jFms_t (jFms_t (jFms_t (jFms_t (jFms_I (by decide) (by decide)) (jFms_I (by decide) (by decide))) (jFms_I (by decide) (by decide))) (jFms_I (by decide) (by decide))) (h3 _))
      · exact jFms_t jFms_l (jFms_t (jFms_t (jFms_t (jFms_t (jFms_I (by decide) (by decide)) (jFms_I (by decide) (by decide))) (jFms_I (by decide) (by decide))) (jFms_I (by decide) (by decide))) (h3 _))
theorem op_lift (x : Int32) (hJ : jJp μ p m n t L K nh T w mk sz) : jPair μ 151 155 [some (.ref 0), some (.int x), some (.ref 7647), none] [some (.ref 4490), some (.int x)] := by
  have hJ' := hJ
  obtain ⟨h09, ⟨z1, z2⟩, h120, hR, hX, hp⟩ := hJ'
  have hW : jWd μ := hR.1.1
  have h10 : n ≤ 10 := hR.1.2.2.2.2.1
  have hn1 := hR.1.2.2.2.1
  have hM := hR.2.1
  have hn2 := hR.2.2.2.1
  by_cases h1 : ∃ l, l < n ∧ x = iN l
  · obtain ⟨l, hl, rfl⟩ := h1
    by_cases d0 : jI μ 2640 l = 0
    · have hs : jSmn μ (jsI μ 2640 l 1) := jSmn_I (by decide) (by decide)
      obtain ⟨m1, m2, m3⟩ := mix_x (z := (1 : Int32).toInt64) hs hJ
      have e5 := (m3.2.2.2.2.2.2.2.1 l hl).1
      have eA := fun (Q : jO → jM → Prop) => c_lift_v (d := 48 + 98) (Q := Q) hW hn1 h10 hl (Or.inl d0) (fun d Q => c_lift0n (d := d) (Q := Q) hW (by omega) d0)
      have eB := fun (Q : jO → jM → Prop) => d_lift_v (d := 48 + 99) (Q := Q) m1.2.1 m1.2.2.2.1 h10 hl (Or.inl (by rw [← d0, ← e5, mI2 (by decide)])) (fun d Q => d_lift0s (d := d) (Q := Q) m2.2.1.1 (by omega) (e5.trans d0))
      exact pair_x hJ 1 hs (fun Q => l_lift_v (d := 48 + 100) eA) (jFms_t (jFms_t (jFms_I (by decide) (by decide)) (jFms_I (by decide) (by decide))) (jFms_I (by decide) (by decide))) eB (R_lift0 m3 h10 hl d0)
    · by_cases d4 : jI μ 2640 l = 4
      · have hk : ∃ j, j < n ∧ ¬ j = l ∧ jI μ 2704 l = iN j ∧ jI μ 2704 j = iN l := by
          rcases hX.2.2.2.2.2.2.2.2.2.1 l hl with ⟨_, _, _, b, _⟩ | ⟨j, a1, a2, a3, a4, _⟩
          · exact absurd d4 b
          · exact ⟨j, a1, a2, a3, a4⟩
        obtain ⟨j, j1, j2, j3, j4⟩ := hk
        have hs : jSmn μ (jsI (jsI μ 2640 l 5) 2640 j 5) := jSmn_t (jSmn_I (by decide) (by decide)) (jSmn_I (by decide) (by decide))
        obtain ⟨m1, m2, m3⟩ := mix_x (z := (5 : Int32).toInt64) hs hJ
        obtain ⟨e5, _, _, _, e6, _⟩ := m3.2.2.2.2.2.2.2.1 l hl
        have eA := fun (Q : jO → jM → Prop) => c_lift_v (d := 48 + 98) (Q := Q) hW hn1 h10 hl (Or.inr d4) (fun d Q => c_lift1n (d := d) (Q := Q) hW hn1 h10 (by omega) d0 j1 j3 (fun g => j2 g.symm))
        have eB := fun (Q : jO → jM → Prop) => d_lift_v (d := 48 + 99) (Q := Q) m1.2.1 m1.2.2.2.1 h10 hl (Or.inr (by rw [← d4, ← e5, mI2 (by decide)])) (fun d Q => d_lift1s (d := d) (Q := Q) m2.2.1.1 (by omega) (by rw [e5]; exact d0) (show j < 10 by omega) (e6.trans j3))
        exact pair_x hJ 5 hs (fun Q => l_lift_v (d := 48 + 100) eA) (jFms_t (jFms_I (by decide) (by decide)) (jFms_I (by decide) (by decide))) eB (R_lift1 m3 h10 hl d4 j1 (fun g => j2 g.symm) j3 j4)
      · have e5 := (hX.2.2.2.2.2.2.2.1 l hl).1
        have eA := fun (Q : jO → jM → Prop) => c_lift_y (d := 48 + 98) (μ := μ) (Q := Q) hW hn1 h10 hl d0 d4
        have eB := fun (Q : jO → jM → Prop) => d_lift_y (d := 48 + 99) (μ := jthr μ) (Q := Q) (jMp_c rfl hM) hn2 h10 hl (by rw [← e5] at d0; exact d0) (by rw [← e5] at d4; exact d4)
        exact pair_no hJ (k := 2) (by decide) (by decide) (fun Q => l_lift_0 (d := 48 + 100) eA) eB
  · have eA := fun (Q : jO → jM → Prop) => c_lift_x (d := 48 + 98) (μ := μ) (Q := Q) hW hn1 h10 h1
    have eB := fun (Q : jO → jM → Prop) => d_lift_x (d := 48 + 99) (μ := jthr μ) (x := x) (Q := Q) (jMp_c rfl hM) hn2 h10 h1
    exact pair_no hJ (k := 1) (by decide) (by decide) (fun Q => l_lift_2 (d := 48 + 100) eA) eB
theorem op_hang (x : Int32) (hJ : jJp μ p m n t L K nh T w mk sz) : jPair μ 166 172 [some (.ref 0), some (.int x), some (.ref 7647), none] [some (.ref 4490), some (.int x)] := by
  have hJ' := hJ
  obtain ⟨h09, ⟨z1, z2⟩, h120, hR, hX, hp⟩ := hJ'
  have hW : jWd μ := hR.1.1
  have h10 : n ≤ 10 := hR.1.2.2.2.2.1
  have hn1 := hR.1.2.2.2.1
  have hM := hR.2.1
  have hn2 := hR.2.2.2.1
  by_cases h1 : ∃ l, l < n ∧ x = iN l
  · obtain ⟨l, hl, rfl⟩ := h1
    by_cases dx : jI μ 2640 l = 0 ∨ jI μ 2640 l = 4
    · have e5 := (hX.2.2.2.2.2.2.2.1 l hl).1
      have eA := fun (Q : jO → jM → Prop) => c_hang_y (d := 48 + 98) (μ := μ) (Q := Q) hW hn1 h10 hl dx
      have eB := fun (Q : jO → jM → Prop) => d_hang_y (d := 48 + 99) (μ := jthr μ) (Q := Q) (jMp_c rfl hM) hn2 h10 hl (by rw [← e5] at dx; exact dx)
      exact pair_no hJ (k := 2) (by decide) (by decide) (fun Q => l_hang_0 (d := 48 + 100) eA) eB
    · have d0 : ¬ jI μ 2640 l = 0 := fun g => dx (Or.inl g)
      have d4 : ¬ jI μ 2640 l = 4 := fun g => dx (Or.inr g)
      have hw10 : w ≤ n := kQu_n hX.2.2.2.2.2.2.2.2.2.2.1 (by omega)
      have fin : ∀ (p0 o0 : Option Nat), jfst (fun k => decide (jI μ 3344 k = iN l)) 0 (w - 0) = jox p0 → (∀ q, p0 = some q → q < w) → jI μ 2704 l = jox o0 → (∀ j, o0 = some j → j < n ∧ ¬ j = l) → (∀ z, (∀ (d : Nat) (Q : jO → jM → Prop), (Ex (d + 1) 173 0 [some (.ref 5836), some (.int (iN l)), none, none] [] (jsI (jsL (kHgn μ l w p0 o0) 7647 0 z) 4490 0 0) Q ↔ Q (.inl (some (.int (jI μ 2640 l)))) (kHgMs (jsI (jsL (kHgn μ l w p0 o0) 7647 0 z) 4490 0 0) l w p0 o0))) ∧ jRXn (kHgn μ l w p0 o0) (kHgMs (jsI (jsL (kHgn μ l w p0 o0) 7647 0 z) 4490 0 0) l w p0 o0) n (match p0 with | some _ => w - 1 | none => w) mk (jI μ 1936) (jI μ 2000)) → jPair μ 166 172 [some (.ref 0), some (.int (iN l)), some (.ref 7647), none] [some (.ref 4490), some (.int (iN l))] := by
        intro p0 o0 hp0 hp1 ho0 ho1 hz
        obtain ⟨hrun, hrx⟩ := hz (jI μ 2640 l).toInt64
        have hs : jSmn μ (kHgn μ l w p0 o0) := jSmn_hg
        obtain ⟨m1, m2, m3⟩ := mix_x (z := (jI μ 2640 l).toInt64) hs hJ
        have e5 := (m3.2.2.2.2.2.2.2.1 l hl).1
        rw [mI2 (by decide)] at e5
        have eA := fun (Q : jO → jM → Prop) => c_hang_v (d := 48 + 97) (Q := Q) hW hn1 h10 hl d0 d4 (fun d Q => c_hangn (d := d) (Q := Q) hW hn1 h10 hX.2.2.2.2.2.1 (by omega) (by omega) hp0 hp1 ho0 ho1)
        have eB := fun (Q : jO → jM → Prop) => d_hang_v (d := 48 + 99) (Q := Q) m1.2.1 m1.2.2.2.1 h10 hl (by rw [e5]; exact d0) (by rw [e5]; exact d4) hrun
        exact pair_x hJ (jI μ 2640 l) hs (fun Q => l_hang_v (d := 48 + 100) eA) jFms_hg eB hrx
      have hkE : ∀ z p0 o0, jRP μ (jsI (jsL (kHgn μ l w p0 o0) 7647 0 z) 4490 0 0) p m n t L K nh T ∧ jRXn μ (jsI (jsL (kHgn μ l w p0 o0) 7647 0 z) 4490 0 0) n w mk (jI μ 1936) (jI μ 2000) := fun z p0 o0 => (mix_x (z := z) jSmn_hg hJ).2
      rcases hX.2.2.2.2.2.2.2.2.2.1 l hl with ⟨a1, a2, a3, a4, a5⟩ | ⟨j, a1, a2, a3, a4, a5⟩
      · rcases kQu_place hX.2.2.2.2.2.2.2.2.2.2.1 (by omega) (by omega) hl with ⟨b1, q, b2, b3, b4, b5⟩ | ⟨b1, b2, b3⟩
        · refine fin (some q) none b4 (fun q' e => by cases e; exact b2) a1 (fun j e => by cases e) fun z => ?_
          obtain ⟨m2, m3⟩ := hkE z (some q) none
          obtain ⟨e5, _, _, _, e6, _⟩ := m3.2.2.2.2.2.2.2.1 l hl
          have hpl : jfst (fun k => decide (jI (jsI (jsL (kHgn μ l w (some q) none) 7647 0 z) 4490 0 0) 6160 k = iN l)) 0 (w - 0) = iN q := (E_placen m3).symm.trans b4
          refine ⟨fun d Q => ?_, R_hang2 m3 h10 hl b1 b2 b3⟩
          rw [d_hang2s (d := d) (Q := Q) m2.2.1.1 m3.2.2.2.2.2.2.1 (by omega) (by omega) (e5.trans b1) hpl b2 (e6.trans a1), e5]
        · refine fin none none b2 (fun q' e => by cases e) a1 (fun j e => by cases e) fun z => ?_
          obtain ⟨m2, m3⟩ := hkE z none none
          obtain ⟨e5, _, _, _, e6, _⟩ := m3.2.2.2.2.2.2.2.1 l hl
          refine ⟨fun d Q => ?_, R_hang0 m3 h10 hl b1 a1⟩
          rw [d_hang0s (d := d) (Q := Q) (w := w) m2.2.1.1 (by omega) (by rw [e5]; exact b1) (e6.trans a1), e5]
      · have b1 : ¬ jI μ 2640 l = 2 := fun g => by
          rcases a5 with ⟨_, _, c⟩ | ⟨_, _, c⟩
          · rcases c with ⟨c, _⟩ | ⟨c, _⟩ <;> rw [g] at c <;> exact absurd c (by decide)
          · rcases c with ⟨c, _⟩ | ⟨c, _⟩ <;> rw [g] at c <;> exact absurd c (by decide)
        rcases kQu_place hX.2.2.2.2.2.2.2.2.2.2.1 (by omega) (by omega) hl with ⟨b2, _⟩ | ⟨_, b2, b3⟩
        · exact absurd b2 b1
        · refine fin none (some j) b2 (fun q' e => by cases e) a3 (fun j' e => by cases e; exact ⟨a1, a2⟩) fun z => ?_
          obtain ⟨m2, m3⟩ := hkE z none (some j)
          obtain ⟨e5, _, _, _, e6, _⟩ := m3.2.2.2.2.2.2.2.1 l hl
          obtain ⟨_, _, _, _, e7, _⟩ := m3.2.2.2.2.2.2.2.1 j a1
          refine ⟨fun d Q => ?_, R_hang1 m3 h10 hl d4 a1 (fun g => a2 g.symm) a3 a4⟩
          rw [d_hang1s (d := d) (Q := Q) (w := w) m2.2.1.1 (by omega) (by rw [e5]; exact b1) (show j < 10 by omega) a2 (e6.trans a3) (e7.trans a4), e5]
  · have eA := fun (Q : jO → jM → Prop) => c_hang_x (d := 48 + 98) (μ := μ) (Q := Q) hW hn1 h10 h1
    have eB := fun (Q : jO → jM → Prop) => d_hang_x (d := 48 + 99) (μ := jthr μ) (x := x) (Q := Q) (jMp_c rfl hM) hn2 h10 h1
    exact pair_no hJ (k := 1) (by decide) (by decide) (fun Q => l_hang_2 (d := 48 + 100) eA) eB
theorem op_dial (x y : Int32) (hJ : jJp μ p m n t L K nh T w mk sz) : jPair μ 158 162 [some (.ref 0), some (.int x), some (.int y), some (.ref 7647), none] [some (.ref 4490), some (.int x), some (.int y)] := by
  have hJ' := hJ
  obtain ⟨h09, ⟨z1, z2⟩, h120, hR, hX, hp⟩ := hJ'
  have hW : jWd μ := hR.1.1
  have h10 : n ≤ 10 := hR.1.2.2.2.2.1
  have hn1 := hR.1.2.2.2.1
  have hM := hR.2.1
  have hn2 := hR.2.2.2.1
  by_cases h1 : ∃ l, l < n ∧ x = iN l
  · obtain ⟨l, hl, rfl⟩ := h1
    by_cases hy : y < 0 ∨ 9 < y
    · have eA := fun (Q : jO → jM → Prop) => c_dial_z (d := 48 + 98) (μ := μ) (Q := Q) hW hn1 h10 hl hy
      have eB := fun (Q : jO → jM → Prop) => d_dial_z (d := 48 + 99) (μ := jthr μ) (Q := Q) (jMp_c rfl hM) hn2 h10 hl hy
      exact pair_no hJ (k := 2) (by decide) (by decide) (fun Q => l_dial_1 (d := 48 + 100) eA) eB
    · have y0 : ¬ y < 0 := fun g => hy (Or.inl g)
      have y9 : ¬ 9 < y := fun g => hy (Or.inr g)
      by_cases d1 : jI μ 2640 l = 1
      · obtain ⟨g, g6, hg⟩ := ((hX.2.2.2.2.2.2.2.2.1 l hl).2.2.1 d1).2
        have hwn : w < n := kQu_lt hX.2.2.2.2.2.2.2.2.2.2.1 (by omega) hl (by rw [d1]; decide)
        have g1 : jI μ 2832 l + 1 = iN (g + 1) := by rw [hg, mInc]
        have fin : ∀ (o0 : Option Nat) (B1 : Int64 → jM) (w2 : Nat), kPf n (jI μ 1936) (jI μ 2000) (iN (g + 1)) (jI μ 2768 l * 10 + y) = jox o0 → (∀ k, o0 = some k → k < n) → (∀ z, (∀ (d : Nat) (Q : jO → jM → Prop), (Ex (d + 1) 163 0 [some (.ref 5836), some (.int (iN l)), some (.int y)] [] (jsI (jsL (kDialn μ l w y o0) 7647 0 z) 4490 0 0) Q ↔ Q (.inl (some (.int (kDiaAn μ l o0)))) (B1 z))) ∧ jFms (jsI (jsL (kDialn μ l w y o0) 7647 0 z) 4490 0 0) (B1 z) ∧ jRXn (kDialn μ l w y o0) (B1 z) n w2 mk (jI μ 1936) (jI μ 2000)) → jPair μ 158 162 [some (.ref 0), some (.int (iN l)), some (.int y), some (.ref 7647), none] [some (.ref 4490), some (.int (iN l)), some (.int y)] := by
          intro o0 B1 w2 ho0 ho1 hz
          obtain ⟨hrun, hfm, hrx⟩ := hz (kDiaAn μ l o0).toInt64
          have hs : jSmn μ (kDialn μ l w y o0) := jSmn_dl
          obtain ⟨m1, m2, m3⟩ := mix_x (z := (kDiaAn μ l o0).toInt64) hs hJ
          have e5 := (m3.2.2.2.2.2.2.2.1 l hl).1
          rw [mI2 (by decide)] at e5
          have eA := fun (Q : jO → jM → Prop) => c_dial_v (d := 48 + 97) (Q := Q) hW hn1 h10 hl y0 y9 d1 (fun d Q => c_dialn (d := d) (Q := Q) hW hn1 h10 (by omega) hX.2.2.2.2.2.1 (by omega) (by rw [g1]; exact ho0) ho1)
          have eB := fun (Q : jO → jM → Prop) => d_dial_v (d := 48 + 99) (Q := Q) m1.2.1 m1.2.2.2.1 h10 hl y0 y9 (e5.trans d1) hrun
          exact pair_x hJ (kDiaAn μ l o0) hs (fun Q => l_dial_v (d := 48 + 100) eA) hfm eB hrx
        have ctx : ∀ z o0, jRP μ (jsI (jsL (kDialn μ l w y o0) 7647 0 z) 4490 0 0) p m n t L K nh T ∧ jRXn μ (jsI (jsL (kDialn μ l w y o0) 7647 0 z) 4490 0 0) n w mk (jI μ 1936) (jI μ 2000) ∧ (∀ F, kFind n (jI μ 1936) (jI μ 2000) (iN (g + 1)) (jI μ 2768 l * 10 + y) = F → jfst (fun k => decide (0 < jI (jsI (jsL (kDialn μ l w y o0) 7647 0 z) 4490 0 0) 6032 l + 1 ∧ jI (jsI (jsL (kDialn μ l w y o0) 7647 0 z) 4490 0 0) (64 * p + 272) k = jI (jsI (jsL (kDialn μ l w y o0) 7647 0 z) 4490 0 0) 6032 l + 1 ∧ jI (jsI (jsL (kDialn μ l w y o0) 7647 0 z) 4490 0 0) (64 * p + 208) k = 10 * jI (jsI (jsL (kDialn μ l w y o0) 7647 0 z) 4490 0 0) 5968 l + y)) 0 (n - 0) = F) ∧ (∀ F, jany (fun k => decide (¬ jI μ 2000 k < iN (g + 1) ∧ jcut (jI μ 1936 k) (jI μ 2000 k - iN (g + 1)) = jI μ 2768 l * 10 + y)) 0 n = F → jany (fun k => decide (¬ jI (jsI (jsL (kDialn μ l w y o0) 7647 0 z) 4490 0 0) (64 * p + 272) k < jI (jsI (jsL (kDialn μ l w y o0) 7647 0 z) 4490 0 0) 6032 l + 1 ∧ jcut (jI (jsI (jsL (kDialn μ l w y o0) 7647 0 z) 4490 0 0) (64 * p + 208) k) (jI (jsI (jsL (kDialn μ l w y o0) 7647 0 z) 4490 0 0) (64 * p + 272) k - (jI (jsI (jsL (kDialn μ l w y o0) 7647 0 z) 4490 0 0) 6032 l + 1)) = 10 * jI (jsI (jsL (kDialn μ l w y o0) 7647 0 z) 4490 0 0) 5968 l + y)) 0 n = F) ∧ jI (jsI (jsL (kDialn μ l w y o0) 7647 0 z) 4490 0 0) 6032 l = iN g ∧ (∀ k, k < n → ∃ b, b < 100 ∧ jI (jsI (jsL (kDialn μ l w y o0) 7647 0 z) 4490 0 0) (64 * p + 272) k = iN b) := fun z o0 => by
          obtain ⟨_, m2, m3⟩ := mix_x (z := z) (jSmn_dl (μ := μ) (l := l) (w := w) (c := y) (o := o0)) hJ
          generalize jsI (jsL (kDialn μ l w y o0) 7647 0 z) 4490 0 0 = ν at m2 m3 ⊢
          obtain ⟨e1, e2, e3, _⟩ := m3.2.2.2.2.2.2.2.1 l hl
          have hr := m2.2.2.2.2.2.2.2.2.1
          have e6 : jI ν 6032 l + 1 = iN (g + 1) := by rw [e3, g1]
          have e7 : 10 * jI ν 5968 l + y = jI μ 2768 l * 10 + y := by rw [e2, Int32.mul_comm]
          refine ⟨m2, m3, fun F hF => ?_, fun F hF => ?_, by rw [e3, hg], fun k hk => ?_⟩
          · rw [e6, e7, ← hF]
            exact kFind_congr fun k hk => ⟨(hr k hk).2.2.1.symm, (hr k hk).2.2.2.1.symm⟩
          · rw [e6, e7, ← hF]
            exact jany_congr _ _ fun j _ hj => by rw [(hr j (by omega)).2.2.1, (hr j (by omega)).2.2.2.1]
          · obtain ⟨_, _, _, a4, b, _, b6, eb⟩ := hr k hk
            exact ⟨b, by omega, a4.symm.trans eb⟩
        rcases jfst_cases (p := fun k => decide (¬ jI μ 2000 k < iN (g + 1) ∧ jcut (jI μ 1936 k) (jI μ 2000 k - iN (g + 1)) = jI μ 2768 l * 10 + y)) n 0 with hF | ⟨k0, _, hk0, hF⟩
        · obtain ⟨q1, q2⟩ := kPf_0 (by omega) hF
          refine fin none (fun z => jsI (kDlMs (jsI (jsL (kDialn μ l w y none) 7647 0 z) 4490 0 0) l y) 5904 l 7) w hF (fun k e => by cases e) fun z => ?_
          obtain ⟨m2, m3, c1, c2, c3, c4⟩ := ctx z none
          exact ⟨fun d Q => d_dial2s (d := d) (Q := Q) m2.2.1 m2.2.2.2.1 h10 (by omega) c3 (by omega) c4 (c1 _ q1) (c2 _ q2), jFms_t (jFms_t (jFms_I (by decide) (by decide)) (jFms_I (by decide) (by decide))) (jFms_I (by decide) (by decide)), R_dial0 m3 h10 hl d1 hg hF⟩
        · have hk0' : k0 < n := by omega
          by_cases he : jI μ 2832 l + 1 = jI μ 2000 k0
          · have q1 := kPf_1 (by omega) g6 hk0' hF (g1.symm.trans he)
            refine fin (some k0) (fun z => jsI (jsI (jsI (kDlMs (jsI (jsL (kDialn μ l w y (some k0)) 7647 0 z) 4490 0 0) l y) 5904 l 2) 6160 w (iN l)) 5836 7 (iN (w + 1))) (w + 1) hF (fun k e => by cases e; exact hk0') fun z => ?_
            obtain ⟨m2, m3, c1, c2, c3, c4⟩ := ctx z (some k0)
            have hv : kDiaAn μ l (some k0) = 2 := if_pos he
            rw [hv]
            exact ⟨fun d Q => d_dial0s (d := d) (Q := Q) m2.2.1 m2.2.2.2.1 h10 (by omega) c3 (by omega) c4 (k := k0) (by omega) m3.2.2.2.2.2.2.1 (by omega) (c1 _ q1), jFms_t (jFms_t (jFms_t (jFms_t (jFms_I (by decide) (by decide)) (jFms_I (by decide) (by decide))) (jFms_I (by decide) (by decide))) (jFms_I (by decide) (by decide))) (jFms_I (by decide) (by decide)), R_dial1 m3 h10 hl d1 hg hk0' g6 hF he rfl⟩
          · have hfr := hR.2.2.2.2.2.2.2.2.2.1
            obtain ⟨q1, q2⟩ := kPf_2 (by omega) hk0' hfr hF (by rw [← g1]; exact he)
            refine fin (some k0) (fun z => kDlMs (jsI (jsL (kDialn μ l w y (some k0)) 7647 0 z) 4490 0 0) l y) w hF (fun k e => by cases e; exact hk0') fun z => ?_
            obtain ⟨m2, m3, c1, c2, c3, c4⟩ := ctx z (some k0)
            have hv : kDiaAn μ l (some k0) = 1 := if_neg he
            have e5 := (m3.2.2.2.2.2.2.2.1 l hl).1.trans d1
            obtain ⟨b, _, b6, eb⟩ := (hR.2.2.2.2.2.2.2.2.1 k0 hk0').2.2.2.2
            rw [hv]
            refine ⟨fun d Q => ?_, jFms_t (jFms_I (by decide) (by decide)) (jFms_I (by decide) (by decide)), R_dial2 m3 h10 hl d1 hg hfr hk0' ⟨b, b6, eb⟩ g6 hF he rfl⟩
            rw [d_dial1s (d := d) (Q := Q) m2.2.1 m2.2.2.2.1 h10 (by omega) c3 (by omega) c4 (c1 _ q1) (c2 _ q2), e5]
      · have e5 := (hX.2.2.2.2.2.2.2.1 l hl).1
        have eA := fun (Q : jO → jM → Prop) => c_dial_y (d := 48 + 98) (μ := μ) (Q := Q) hW hn1 h10 hl y0 y9 d1
        have eB := fun (Q : jO → jM → Prop) => d_dial_y (d := 48 + 99) (μ := jthr μ) (Q := Q) (jMp_c rfl hM) hn2 h10 hl y0 y9 (by rw [← e5] at d1; exact d1)
        exact pair_no hJ (k := 3) (by decide) (by decide) (fun Q => l_dial_0 (d := 48 + 100) eA) eB
  · have eA := fun (Q : jO → jM → Prop) => c_dial_x (d := 48 + 98) (μ := μ) (y := y) (Q := Q) hW hn1 h10 h1
    have eB := fun (Q : jO → jM → Prop) => d_dial_x (d := 48 + 99) (μ := jthr μ) (x := x) (y := y) (Q := Q) (jMp_c rfl hM) hn2 h10 h1
    exact pair_no hJ (k := 1) (by decide) (by decide) (fun Q => l_dial_2 (d := 48 + 100) eA) eB
end HAND
