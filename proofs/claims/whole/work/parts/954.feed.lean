/-! THE PURE PART: feed. -/
theorem JR21 (x : Nat) : jty (64 * x + 21) = 0 ∧ jmade (64 * x + 21) = true ∧ (∀ μ, jln (64 * x + 21) μ = 5) ∧ ∀ i μ, jrdI (64 * x + 21) i μ = jI μ (64 * x + 21) i := by
  have e1 : (64 * x + 21) % 64 = 21 := by omega
  refine ⟨?_, ?_, fun μ => ?_, fun i μ => ?_⟩
  · unfold jty
    rw [e1]
    rfl
  · unfold jmade
    rw [e1]
    rfl
  · unfold jln
    rw [e1]
    rfl
  · unfold jrdI
    rw [e1]
    rfl
theorem JR17 (x : Nat) : jty (64 * x + 17) = 0 ∧ jmade (64 * x + 17) = true ∧ (∀ μ, jln (64 * x + 17) μ = 11) ∧ ∀ i μ, jrdI (64 * x + 17) i μ = jI μ (64 * x + 17) i := by
  have e1 : (64 * x + 17) % 64 = 17 := by omega
  refine ⟨?_, ?_, fun μ => ?_, fun i μ => ?_⟩
  · unfold jty
    rw [e1]
    rfl
  · unfold jmade
    rw [e1]
    rfl
  · unfold jln
    rw [e1]
    rfl
  · unfold jrdI
    rw [e1]
    rfl
section FEED
variable {d p m n t L nh w mk sz s : Nat} {μ μ2 : jM} {Q : jO → jM → Prop} {K : Nat → Nat} {T : Nat → List (Nat × Int32)} {x v p0 p1 p2 p3 p4 : Int32}
theorem bit255 : ∀ i, i < 32 → (255 : Int32).toBitVec.getLsbD i = decide (i < 8) := by decide
theorem i8a (x : Int32) : x.toInt8.toInt32 &&& 255 = x &&& 255 := by
  apply Int32.toBitVec_inj.mp
  rw [Int32.toBitVec_and, Int32.toBitVec_and]
  apply BitVec.eq_of_getLsbD_eq
  intro i hi
  rw [BitVec.getLsbD_and, BitVec.getLsbD_and, bit255 i hi]
  by_cases h : i < 8
  · have e : x.toInt8.toInt32.toBitVec.getLsbD i = x.toBitVec.getLsbD i := by
      show (BitVec.signExtend 32 (BitVec.signExtend 8 x.toBitVec)).getLsbD i = _
      rw [BitVec.getLsbD_signExtend, BitVec.getLsbD_signExtend, decide_eq_true hi, decide_eq_true h, if_pos h, if_pos hi, Bool.true_and, Bool.true_and]
    rw [e]
  · rw [decide_eq_false h, Bool.and_false, Bool.and_false]
/-- a byte of a number, as the class keeps it -/
def kB4 (v : Int32) (i : Nat) : Int32 := ((v >>> ((24 - 8 * iN i) &&& 31)).toInt8.toInt32).toInt8.toInt32
theorem kB4_a {i : Nat} : kB4 v i &&& 255 = (v >>> ((24 - 8 * iN i) &&& 31)) &&& 255 := by
  unfold kB4
  rw [i8a, i8a]
def kApR (μ : jM) (s k : Nat) (v : Int32) : jM := jsR μ 155 (fun j => if s ≤ j ∧ j < s + k then kB4 v (j - s) else jI μ 155 j)
def kApM (μ : jM) (s : Nat) (v : Int32) : jM := jsI (kApR μ s 4 v) 65 1 (iN (s + 4))
theorem kApR_q {k : Nat} : jQ (kApR μ s k v) = jQ μ ∧ jL (kApR μ s k v) = jL μ ∧ jA (kApR μ s k v) = jA μ ∧ jX (kApR μ s k v) = jX μ := ⟨mR3.2.1, mR3.1, mR3.2.2.1, mR3.2.2.2⟩
theorem kApM_q : jQ (kApM μ s v) = jQ μ ∧ jL (kApM μ s v) = jL μ ∧ jA (kApM μ s v) = jA μ ∧ jX (kApM μ s v) = jX μ := kApR_q (μ := μ) (s := s) (k := 4) (v := v)
theorem kApM_f {a : Nat} (h1 : ¬ a = 65) (h2 : ¬ a = 155) : jI (kApM μ s v) a = jI μ a := by
  unfold kApM kApR
  rw [mI2 h1, mR2 h2]
theorem kApM_1 : jI (kApM μ s v) 65 1 = iN (s + 4) := by
  unfold kApM
  rw [mI1, if_pos rfl]
theorem kApM_r : jI (kApM μ s v) 155 = fun j => if s ≤ j ∧ j < s + 4 then kB4 v (j - s) else jI μ 155 j := by
  unfold kApM kApR
  rw [mI2 (by decide), mR1]
theorem c_append (hW : jWd μ) (hz : jI μ 65 1 = iN s) (hs : s + 4 ≤ 2000) : Ex d 18 0 [some (.ref 65), some (.int v), none] [] μ Q ↔ Q (.inl none) (kApM μ s v) := by
  have hw := hW
  unfold jWd at hw
  have z0 : ¬ iN s < 0 := iN_nn (by omega)
  have z4 : iN s + 4 = iN (s + 4) := iN_add
  have z5 : ¬ (2000 : Int32) < iN (s + 4) := by
    rw [show (2000 : Int32) = iN 2000 from rfl, iN_lt (by decide) (by omega)]
    omega
  have z6 : ¬ iN 2000 < iN (s + 4) := by
    rw [iN_lt (by decide) (by omega)]
    omega
  have loop : ∀ k, 0 ≤ k → k < 4 → (Ex d 18 24 [some (.ref 65), some (.int v), some (.int (iN k))] [] (kApR μ s k v) Q ↔ Ex d 18 24 [some (.ref 65), some (.int v), some (.int (iN (k + 1)))] [] (kApR μ s (k + 1) v) Q) := by
    intro k _ hk
    have hlt : iN k < (4 : Int32) := (iN_lt (b := 4) (by omega) (by decide)).mpr hk
    have a1 : iN s + iN k = iN (s + k) := iN_add
    have a2 : (iN (s + k)).toNatClampNeg = s + k := iN_cl (by omega)
    have a3 : jin (iN (s + k)) 2000 = true := iN_in (by omega) (by omega)
    have hq : jQ (kApR μ s k v) = jQ μ := kApR_q.1
    have h65 : jI (kApR μ s k v) 65 1 = iN s := by unfold kApR; rw [mR2 (by decide)]; exact hz
    have hn : jsI (kApR μ s k v) 155 (s + k) (((v >>> ((24 - 8 * iN k) &&& 31)).toInt8.toInt32).toInt8.toInt32) = kApR μ s (k + 1) v := by
      unfold kApR
      rw [mRI]
      congr 1
      funext j
      by_cases g : j = s + k
      · subst g
        rw [if_pos rfl, if_pos (by omega), Nat.add_sub_cancel_left]
        rfl
      · rw [if_neg g]
        by_cases g2 : s ≤ j ∧ j < s + k
        · rw [if_pos g2, if_pos (by omega)]
        · rw [if_neg g2, if_neg (by omega)]
    rw [x18_24]
    simp only [x18_0, x18_1, x18_4, x18_7, x18_8, x18_11, x18_12, x18_13, x18_14, x18_17, x18_18, x18_21, x18_22, x18_23a, x18_23b, x18_23c, x18_25, x18_26, x18_29, x18_30, x18_33, x18_34, x18_37, x18_38, x18_39, x18_40, x18_42, x18_44, x18_45, x18_46, x18_47, x18_48, x18_49, x18_50a, x18_50b, x18_50c, x18_53, x18_56, x18_57a, x18_57b, x18_58, x18_61, x18_62, x18_63, x18_66, mzi, mInc, mne, mlt9, mrk, mI1, mI2, mI3, mI4, mL1, mL2, mL3, mL4, mQ1, mQ2, mQ3, mQ4, mT1, mcat0, mcat1, mcat2, mcat3, mcat4, mrf1, jK_v, jK_n, JA, mz1, if_true, if_false, ite_true, ite_false, eq_self, not_false_eq_true, Nat.zero_le, true_and, and_true, and_self, Nat.reduceMod, Nat.reduceAdd, Nat.reduceLeDiff, Nat.reduceEqDiff, Nat.reduceLT, hw, hq, h65, hlt, a1, a2, a3, hn]
  have h0 := jclimb (P := fun k => Ex d 18 24 [some (.ref 65), some (.int v), some (.int (iN k))] [] (kApR μ s k v) Q) loop (Nat.zero_le 4)
  have hz0 : kApR μ s 0 v = μ := by
    unfold kApR
    refine jsR_id ?_
    funext j
    rw [if_neg (by omega)]
  have h1 : Ex d 18 0 [some (.ref 65), some (.int v), none] [] μ Q ↔ Ex d 18 24 [some (.ref 65), some (.int v), some (.int (iN 0))] [] (kApR μ s 0 v) Q := by
    rw [hz0]
    simp only [x18_0, x18_1, x18_4, x18_7, x18_8, x18_11, x18_12, x18_13, x18_14, x18_17, x18_18, x18_21, x18_22, x18_23a, x18_23b, x18_23c, x18_25, x18_26, x18_29, x18_30, x18_33, x18_34, x18_37, x18_38, x18_39, x18_40, x18_42, x18_44, x18_45, x18_46, x18_47, x18_48, x18_49, x18_50a, x18_50b, x18_50c, x18_53, x18_56, x18_57a, x18_57b, x18_58, x18_61, x18_62, x18_63, x18_66, mzi, mInc, mne, mlt9, mrk, mI1, mI2, mI3, mI4, mL1, mL2, mL3, mL4, mQ1, mQ2, mQ3, mQ4, mT1, mcat0, mcat1, mcat2, mcat3, mcat4, mrf1, jK_v, jK_n, JA, mz1, if_true, if_false, ite_true, ite_false, eq_self, not_false_eq_true, Nat.zero_le, true_and, and_true, and_self, Nat.reduceMod, Nat.reduceAdd, Nat.reduceLeDiff, Nat.reduceEqDiff, Nat.reduceLT, hw, hz, z0, z4, z5, z6]
  have hge : ¬ iN 4 < (4 : Int32) := by decide
  have hq : jQ (kApR μ s 4 v) = jQ μ := kApR_q.1
  have h65 : jI (kApR μ s 4 v) 65 1 = iN s := by unfold kApR; rw [mR2 (by decide)]; exact hz
  rw [h1, h0]
  simp only [↓if_neg hge, x18_24, x18_0, x18_1, x18_4, x18_7, x18_8, x18_11, x18_12, x18_13, x18_14, x18_17, x18_18, x18_21, x18_22, x18_23a, x18_23b, x18_23c, x18_25, x18_26, x18_29, x18_30, x18_33, x18_34, x18_37, x18_38, x18_39, x18_40, x18_42, x18_44, x18_45, x18_46, x18_47, x18_48, x18_49, x18_50a, x18_50b, x18_50c, x18_53, x18_56, x18_57a, x18_57b, x18_58, x18_61, x18_62, x18_63, x18_66, mzi, mInc, mne, mlt9, mrk, mI1, mI2, mI3, mI4, mL1, mL2, mL3, mL4, mQ1, mQ2, mQ3, mQ4, mT1, mcat0, mcat1, mcat2, mcat3, mcat4, mrf1, jK_v, jK_n, JA, mz1, if_true, if_false, ite_true, ite_false, eq_self, not_false_eq_true, Nat.zero_le, true_and, and_true, and_self, Nat.reduceMod, Nat.reduceAdd, Nat.reduceLeDiff, Nat.reduceEqDiff, Nat.reduceLT, hw, hq, h65, z4, hge]
  rfl
def kFeC (μ : jM) (s : Nat) (p0 p1 p2 p3 p4 : Int32) : jM := kApM (kApM (kApM (kApM (kApM μ s p0) (s + 4) p1) (s + 4 + 4) p2) (s + 4 + 4 + 4) p3) (s + 4 + 4 + 4 + 4) p4
theorem c_feed_1 (hW : jWd μ) (hz : jI μ 65 1 = iN sz) (h2 : sz ≤ 2000) (hs : ¬ sz + 20 ≤ 2000) : Ex (d + 1) 16 0 [some (.ref 0), some (.int p0), some (.int p1), some (.int p2), some (.int p3), some (.int p4)] [] μ Q ↔ Q (.inr 0) (jthr μ) := by
  have hw := hW
  unfold jWd at hw
  have z4 : iN sz + 20 = iN (sz + 20) := iN_add
  have z5 : (2000 : Int32) < iN (sz + 20) := by
    rw [show (2000 : Int32) = iN 2000 from rfl, iN_lt (by decide) (by omega)]
    omega
  simp only [x16_0, x16_1, x16_4, x16_7, x16_10, x16_20, x16_21, x16_24, x16_25, x16_28, x16_29, x16_32, x16_33, x16_36, x16_37, x16_40, x16_41, x16_44, x16_45, x16_48, x16_50, x16_53, x16_54, x16_57, x16_59, x16_62, x16_63, x16_66, x16_69, x17_0, x17_1, x17_4, x17_6, x17_7, x17_10, x17_13, x17_14, x17_17, x17_18, mzi, mInc, mne, mlt9, mrk, mI1, mI2, mI3, mI4, mL1, mL2, mL3, mL4, mQ1, mQ2, mQ3, mQ4, mT1, mcat0, mcat1, mcat2, mcat3, mcat4, mrf1, jK_v, jK_n, JA, mz1, if_true, if_false, ite_true, ite_false, eq_self, not_false_eq_true, Nat.zero_le, true_and, and_true, and_self, Nat.reduceMod, Nat.reduceAdd, Nat.reduceLeDiff, Nat.reduceEqDiff, Nat.reduceLT, hw, hz, z4, z5]
theorem c_feed_0 (hW : jWd μ) (hz : jI μ 65 1 = iN sz) (hs : sz + 20 ≤ 2000) : Ex (d + 1) 16 0 [some (.ref 0), some (.int p0), some (.int p1), some (.int p2), some (.int p3), some (.int p4)] [] μ Q ↔ Q (.inl (some (.int (iN (sz + 20))))) (kFeC μ sz p0 p1 p2 p3 p4) := by
  have hw := hW
  unfold jWd at hw
  have z4 : iN sz + 20 = iN (sz + 20) := iN_add
  have z5 : ¬ (2000 : Int32) < iN (sz + 20) := by
    rw [show (2000 : Int32) = iN 2000 from rfl, iN_lt (by decide) (by omega)]
    omega
  have q1 : jQ (kApM μ sz p0) = jQ μ := kApM_q.1
  have q2 : jQ (kApM (kApM μ sz p0) (sz + 4) p1) = jQ μ := kApM_q.1.trans q1
  have q3 : jQ (kApM (kApM (kApM μ sz p0) (sz + 4) p1) (sz + 4 + 4) p2) = jQ μ := kApM_q.1.trans q2
  have q4 : jQ (kApM (kApM (kApM (kApM μ sz p0) (sz + 4) p1) (sz + 4 + 4) p2) (sz + 4 + 4 + 4) p3) = jQ μ := kApM_q.1.trans q3
  have q5 : jQ (kFeC μ sz p0 p1 p2 p3 p4) = jQ μ := kApM_q.1.trans q4
  have w1 := jWd_c q1 hW
  have w2 := jWd_c q2 hW
  have w3 := jWd_c q3 hW
  have w4 := jWd_c q4 hW
  have e0 := fun (d : Nat) (Q : jO → jM → Prop) => c_append (d := d) (Q := Q) (v := p0) hW hz (by omega)
  have e1 := fun (d : Nat) (Q : jO → jM → Prop) => c_append (d := d) (Q := Q) (v := p1) w1 kApM_1 (by omega)
  have e2 := fun (d : Nat) (Q : jO → jM → Prop) => c_append (d := d) (Q := Q) (v := p2) w2 kApM_1 (by omega)
  have e3 := fun (d : Nat) (Q : jO → jM → Prop) => c_append (d := d) (Q := Q) (v := p3) w3 kApM_1 (by omega)
  have e4 := fun (d : Nat) (Q : jO → jM → Prop) => c_append (d := d) (Q := Q) (v := p4) w4 kApM_1 (by omega)
  have e5 : kApM (kApM (kApM (kApM (kApM μ sz p0) (sz + 4) p1) (sz + 4 + 4) p2) (sz + 4 + 4 + 4) p3) (sz + 4 + 4 + 4 + 4) p4 = kFeC μ sz p0 p1 p2 p3 p4 := rfl
  have e6 : jI (kFeC μ sz p0 p1 p2 p3 p4) 65 1 = iN (sz + 20) := kApM_1
  simp only [x16_0, x16_1, x16_4, x16_7, x16_10, x16_20, x16_21, x16_24, x16_25, x16_28, x16_29, x16_32, x16_33, x16_36, x16_37, x16_40, x16_41, x16_44, x16_45, x16_48, x16_50, x16_53, x16_54, x16_57, x16_59, x16_62, x16_63, x16_66, x16_69, x17_0, x17_1, x17_4, x17_6, x17_7, x17_10, x17_13, x17_14, x17_17, x17_18, mzi, mInc, mne, mlt9, mrk, mI1, mI2, mI3, mI4, mL1, mL2, mL3, mL4, mQ1, mQ2, mQ3, mQ4, mT1, mcat0, mcat1, mcat2, mcat3, mcat4, mrf1, jK_v, jK_n, JA, mz1, if_true, if_false, ite_true, ite_false, eq_self, not_false_eq_true, Nat.zero_le, true_and, and_true, and_self, Nat.reduceMod, Nat.reduceAdd, Nat.reduceLeDiff, Nat.reduceEqDiff, Nat.reduceLT, hw, hz, z4, z5, e0, q1, e1, q2, e2, q3, e3, q4, e4, e5, q5, e6]
/-- the bytes of five numbers -/
def kF (g : Nat → Int32) (k : Nat) : Int32 := (g (k / 4) >>> ((24 - 8 * iN (k % 4)) &&& 31)) &&& 255
def kFeN (μ : jM) (a : Nat) (p0 p1 p2 p3 p4 : Int32) : jM := jsI (jsI (jsI (jsI (jsI (jnew (jsI μ 4490 0 0) 21) a 0 p0) a 1 p1) a 2 p2) a 3 p3) a 4 p4
def kFeR (ν : jM) (a s k : Nat) : jM := jsR ν 4567 (fun j => if s ≤ j ∧ j < s + k then kF (jI ν a) (j - s) else jI ν 4567 j)
theorem k20 : ∀ k, k < 20 → iN k / 4 = iN (k / 4) ∧ iN k - iN (k / 4) * 4 = iN (k % 4) := by decide +kernel
theorem kFeN_f {r : Nat} (hr : r = (jA μ).length) : jGb r 1 5 (jsI μ 4490 0 0) (kFeN μ (64 * r + 21) p0 p1 p2 p3 p4) := by
  have h1 := jnew_b (μ := jsI μ 4490 0 0) (b := r) (c := 21) (s := 5) (Nat.le_of_eq hr) (by decide) (by decide)
  unfold kFeN
  exact jGb_t h1 (jGb_t (jGb_I (k := 0) (v := p0) (by omega)) (jGb_t (jGb_I (k := 1) (v := p1) (by omega)) (jGb_t (jGb_I (k := 2) (v := p2) (by omega)) (jGb_t (jGb_I (k := 3) (v := p3) (by omega)) (jGb_I (k := 4) (v := p4) (by omega))))))
theorem d_feed_1 (hW : jWd μ) (hz : jI μ 4490 2 = iN sz) (h2 : sz ≤ 2000) (hs : ¬ sz + 20 ≤ 2000) : Ex (d + 1) 19 0 [some (.ref 4490), some (.int p0), some (.int p1), some (.int p2), some (.int p3), some (.int p4), none, none] [] μ Q ↔ Q (.inl (some (.int 0))) (jsI (jsI μ 4490 0 0) 4490 0 1) := by
  have hw := hW
  unfold jWd at hw
  have hno := fun (d : Nat) (μ : jM) (k : Int32) (Q : jO → jM → Prop) => d_no (d := d) (μ := μ) (k := k) (Q := Q)
  have z5 : (1980 : Int32) < iN sz := by
    rw [show (1980 : Int32) = iN 1980 from rfl, iN_lt (by decide) (by omega)]
    omega
  simp only [x19_0, x19_1, x19_2, x19_5, x19_6, x19_9, x19_12, x19_15, x19_16, x19_17, x19_20, x19_21, x19_22, x19_24a, x19_24b, x19_25, x19_26, x19_27, x19_28a, x19_28b, x19_29, x19_30, x19_31, x19_32a, x19_32b, x19_33, x19_34, x19_35, x19_36a, x19_36b, x19_37, x19_38, x19_40, x19_41a, x19_41b, x19_42, x19_43, x19_45, x19_46a, x19_46b, x19_46c, x19_48, x19_49a, x19_49b, x19_49c, x19_53, x19_55, x19_58, x19_59, x19_62, x19_63, x19_66, x19_68, x19_69, x19_71, x19_73, x19_74, x19_75, x19_76, x19_78, x19_80, x19_82, x19_83, x19_84, x19_85, x19_86, x19_87, x19_90, x19_91, x19_92a, x19_92b, x19_92c, x19_95, x19_98, x19_99a, x19_99b, x19_100, x19_103, x19_105, x19_106, x19_109, x19_110, x19_113, mzi, mInc, mne, mlt9, mrk, mI1, mI2, mI3, mI4, mL1, mL2, mL3, mL4, mQ1, mQ2, mQ3, mQ4, mT1, mcat0, mcat1, mcat2, mcat3, mcat4, mrf1, jK_v, jK_n, JA, mz1, if_true, if_false, ite_true, ite_false, eq_self, not_false_eq_true, Nat.zero_le, true_and, and_true, and_self, Nat.reduceMod, Nat.reduceAdd, Nat.reduceLeDiff, Nat.reduceEqDiff, Nat.reduceLT, hw, hz, z5, hno]
theorem d_feed_0 {r : Nat} (hr : r = (jA μ).length) (h120 : 120 ≤ r) (hW : jWd μ) (hz : jI μ 4490 2 = iN sz) (hs : sz + 20 ≤ 2000) : Ex (d + 1) 19 0 [some (.ref 4490), some (.int p0), some (.int p1), some (.int p2), some (.int p3), some (.int p4), none, none] [] μ Q ↔ Q (.inl (some (.int (iN (sz + 20))))) (jsI (kFeR (kFeN μ (64 * r + 21) p0 p1 p2 p3 p4) (64 * r + 21) sz 20) 4490 2 (iN (sz + 20))) := by
  have hw := hW
  unfold jWd at hw
  obtain ⟨j1, j2, j3, j4⟩ := JR21 r
  have hg := kFeN_f (p0 := p0) (p1 := p1) (p2 := p2) (p3 := p3) (p4 := p4) hr
  have z4 : iN sz + 20 = iN (sz + 20) := iN_add
  have z5 : ¬ (1980 : Int32) < iN sz := by
    rw [show (1980 : Int32) = iN 1980 from rfl, iN_lt (by decide) (by omega)]
    omega
  have hadr : jadr (jsI μ 4490 0 0) 21 = 64 * r + 21 := by unfold jadr; rw [mI5, ← hr]
  have b0 : jin (0 : Int32) 5 = true ∧ jin (1 : Int32) 5 = true ∧ jin (2 : Int32) 5 = true ∧ jin (3 : Int32) 5 = true ∧ jin (4 : Int32) 5 = true ∧ (4 : Int32).toNatClampNeg = 4 := by decide
  have hN : jsI (jsI (jsI (jsI (jsI (jnew (jsI μ 4490 0 0) 21) (64 * r + 21) 0 p0) (64 * r + 21) 1 p1) (64 * r + 21) 2 p2) (64 * r + 21) 3 p3) (64 * r + 21) 4 p4 = kFeN μ (64 * r + 21) p0 p1 p2 p3 p4 := rfl
  generalize hν : kFeN μ (64 * r + 21) p0 p1 p2 p3 p4 = ν at *
  have hr0 : jQ ν 4490 = jQ μ 4490 := by rw [(hg.1 4490 (by omega)).2.2, mI4]
  have hsz : jI ν 4490 2 = iN sz := by rw [(hg.1 4490 (by omega)).1, mI1, if_neg (by decide)]; exact hz
  have h40 : ¬ (4 : Int32) = 0 := by decide
  have ne1 : ¬ 64 * r + 21 = 4567 := by omega
  have loop : ∀ k, 0 ≤ k → k < 20 → (Ex (d + 1) 19 51 [some (.ref 4490), some (.int p0), some (.int p1), some (.int p2), some (.int p3), some (.int p4), some (.ref (64 * r + 21)), some (.int (iN k))] [] (kFeR ν (64 * r + 21) sz k) Q ↔ Ex (d + 1) 19 51 [some (.ref 4490), some (.int p0), some (.int p1), some (.int p2), some (.int p3), some (.int p4), some (.ref (64 * r + 21)), some (.int (iN (k + 1)))] [] (kFeR ν (64 * r + 21) sz (k + 1)) Q) := by
    intro k _ hk
    have hlt : iN k < (20 : Int32) := (iN_lt (b := 20) (by omega) (by decide)).mpr hk
    obtain ⟨k1, k2⟩ := k20 k hk
    have a1 : iN sz + iN k = iN (sz + k) := iN_add
    have a2 : (iN (sz + k)).toNatClampNeg = sz + k := iN_cl (by omega)
    have a3 : jin (iN (sz + k)) 2000 = true := iN_in (by omega) (by omega)
    have a4 : (iN (k / 4)).toNatClampNeg = k / 4 := iN_cl (by omega)
    have a5 : jin (iN (k / 4)) 5 = true := iN_in (by omega) (by omega)
    have hq : jQ (kFeR ν (64 * r + 21) sz k) 4490 = jQ μ 4490 := by unfold kFeR; rw [mR3.2.1]; exact hr0
    have h65 : jI (kFeR ν (64 * r + 21) sz k) 4490 2 = iN sz := by unfold kFeR; rw [mR2 (by decide)]; exact hsz
    have hra : jI (kFeR ν (64 * r + 21) sz k) (64 * r + 21) = jI ν (64 * r + 21) := by unfold kFeR; rw [mR2 ne1]
    have hn : jsI (kFeR ν (64 * r + 21) sz k) 4567 (sz + k) (jI ν (64 * r + 21) (k / 4) >>> ((24 - 8 * iN (k % 4)) &&& 31) &&& 255) = kFeR ν (64 * r + 21) sz (k + 1) := by
      unfold kFeR
      rw [mRI]
      congr 1
      funext j
      by_cases g : j = sz + k
      · subst g
        rw [if_pos rfl, if_pos (by omega), Nat.add_sub_cancel_left]
        rfl
      · rw [if_neg g]
        by_cases g2 : sz ≤ j ∧ j < sz + k
        · rw [if_pos g2, if_pos (by omega)]
        · rw [if_neg g2, if_neg (by omega)]
    rw [x19_51]
    simp only [x19_0, x19_1, x19_2, x19_5, x19_6, x19_9, x19_12, x19_15, x19_16, x19_17, x19_20, x19_21, x19_22, x19_24a, x19_24b, x19_25, x19_26, x19_27, x19_28a, x19_28b, x19_29, x19_30, x19_31, x19_32a, x19_32b, x19_33, x19_34, x19_35, x19_36a, x19_36b, x19_37, x19_38, x19_40, x19_41a, x19_41b, x19_42, x19_43, x19_45, x19_46a, x19_46b, x19_46c, x19_48, x19_49a, x19_49b, x19_49c, x19_53, x19_55, x19_58, x19_59, x19_62, x19_63, x19_66, x19_68, x19_69, x19_71, x19_73, x19_74, x19_75, x19_76, x19_78, x19_80, x19_82, x19_83, x19_84, x19_85, x19_86, x19_87, x19_90, x19_91, x19_92a, x19_92b, x19_92c, x19_95, x19_98, x19_99a, x19_99b, x19_100, x19_103, x19_105, x19_106, x19_109, x19_110, x19_113, mzi, mInc, mne, mlt9, mrk, mI1, mI2, mI3, mI4, mL1, mL2, mL3, mL4, mQ1, mQ2, mQ3, mQ4, mT1, mcat0, mcat1, mcat2, mcat3, mcat4, mrf1, jK_v, jK_n, JA, mz1, if_true, if_false, ite_true, ite_false, eq_self, not_false_eq_true, Nat.zero_le, true_and, and_true, and_self, Nat.reduceMod, Nat.reduceAdd, Nat.reduceLeDiff, Nat.reduceEqDiff, Nat.reduceLT, hw, hq, h65, hra, hlt, a1, a2, a3, a4, a5, k1, k2, j1, j2, j3, j4, h40, hn]
  have h0 := jclimb (P := fun k => Ex (d + 1) 19 51 [some (.ref 4490), some (.int p0), some (.int p1), some (.int p2), some (.int p3), some (.int p4), some (.ref (64 * r + 21)), some (.int (iN k))] [] (kFeR ν (64 * r + 21) sz k) Q) loop (Nat.zero_le 20)
  have hz0 : kFeR ν (64 * r + 21) sz 0 = ν := by
    unfold kFeR
    refine jsR_id ?_
    funext j
    rw [if_neg (by omega)]
  have h1 : Ex (d + 1) 19 0 [some (.ref 4490), some (.int p0), some (.int p1), some (.int p2), some (.int p3), some (.int p4), none, none] [] μ Q ↔ Ex (d + 1) 19 51 [some (.ref 4490), some (.int p0), some (.int p1), some (.int p2), some (.int p3), some (.int p4), some (.ref (64 * r + 21)), some (.int (iN 0))] [] (kFeR ν (64 * r + 21) sz 0) Q := by
    rw [hz0]
    simp only [x19_0, x19_1, x19_2, x19_5, x19_6, x19_9, x19_12, x19_15, x19_16, x19_17, x19_20, x19_21, x19_22, x19_24a, x19_24b, x19_25, x19_26, x19_27, x19_28a, x19_28b, x19_29, x19_30, x19_31, x19_32a, x19_32b, x19_33, x19_34, x19_35, x19_36a, x19_36b, x19_37, x19_38, x19_40, x19_41a, x19_41b, x19_42, x19_43, x19_45, x19_46a, x19_46b, x19_46c, x19_48, x19_49a, x19_49b, x19_49c, x19_53, x19_55, x19_58, x19_59, x19_62, x19_63, x19_66, x19_68, x19_69, x19_71, x19_73, x19_74, x19_75, x19_76, x19_78, x19_80, x19_82, x19_83, x19_84, x19_85, x19_86, x19_87, x19_90, x19_91, x19_92a, x19_92b, x19_92c, x19_95, x19_98, x19_99a, x19_99b, x19_100, x19_103, x19_105, x19_106, x19_109, x19_110, x19_113, mzi, mInc, mne, mlt9, mrk, mI1, mI2, mI3, mI4, mL1, mL2, mL3, mL4, mQ1, mQ2, mQ3, mQ4, mT1, mcat0, mcat1, mcat2, mcat3, mcat4, mrf1, jK_v, jK_n, JA, mz1, if_true, if_false, ite_true, ite_false, eq_self, not_false_eq_true, Nat.zero_le, true_and, and_true, and_self, Nat.reduceMod, Nat.reduceAdd, Nat.reduceLeDiff, Nat.reduceEqDiff, Nat.reduceLT, hw, hz, z5, hadr, b0, j1, j2, j3, hN, hν]
  have hge : ¬ iN 20 < (20 : Int32) := by decide
  have hq : jQ (kFeR ν (64 * r + 21) sz 20) 4490 = jQ μ 4490 := by unfold kFeR; rw [mR3.2.1]; exact hr0
  have h65 : jI (kFeR ν (64 * r + 21) sz 20) 4490 2 = iN sz := by unfold kFeR; rw [mR2 (by decide)]; exact hsz
  rw [h1, h0]
  simp only [↓if_neg hge, x19_51, x19_0, x19_1, x19_2, x19_5, x19_6, x19_9, x19_12, x19_15, x19_16, x19_17, x19_20, x19_21, x19_22, x19_24a, x19_24b, x19_25, x19_26, x19_27, x19_28a, x19_28b, x19_29, x19_30, x19_31, x19_32a, x19_32b, x19_33, x19_34, x19_35, x19_36a, x19_36b, x19_37, x19_38, x19_40, x19_41a, x19_41b, x19_42, x19_43, x19_45, x19_46a, x19_46b, x19_46c, x19_48, x19_49a, x19_49b, x19_49c, x19_53, x19_55, x19_58, x19_59, x19_62, x19_63, x19_66, x19_68, x19_69, x19_71, x19_73, x19_74, x19_75, x19_76, x19_78, x19_80, x19_82, x19_83, x19_84, x19_85, x19_86, x19_87, x19_90, x19_91, x19_92a, x19_92b, x19_92c, x19_95, x19_98, x19_99a, x19_99b, x19_100, x19_103, x19_105, x19_106, x19_109, x19_110, x19_113, mzi, mInc, mne, mlt9, mrk, mI1, mI2, mI3, mI4, mL1, mL2, mL3, mL4, mQ1, mQ2, mQ3, mQ4, mT1, mcat0, mcat1, mcat2, mcat3, mcat4, mrf1, jK_v, jK_n, JA, mz1, if_true, if_false, ite_true, ite_false, eq_self, not_false_eq_true, Nat.zero_le, true_and, and_true, and_self, Nat.reduceMod, Nat.reduceAdd, Nat.reduceLeDiff, Nat.reduceEqDiff, Nat.reduceLT, hw, hq, h65, z4, hge]
end FEED
