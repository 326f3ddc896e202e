/-! THE PURE PART: feed; what count tells. -/
section COUNT
variable {d p m n t L nh w mk sz r : Nat} {μ μ2 A B : jM} {Q : jO → jM → Prop} {K : Nat → Nat} {T : Nat → List (Nat × Int32)} {x v p0 p1 p2 p3 p4 : Int32} {pn pd : Nat → Int32}
theorem kFeC_q {s : Nat} : jQ (kFeC μ s p0 p1 p2 p3 p4) = jQ μ ∧ jL (kFeC μ s p0 p1 p2 p3 p4) = jL μ ∧ jA (kFeC μ s p0 p1 p2 p3 p4) = jA μ ∧ jX (kFeC μ s p0 p1 p2 p3 p4) = jX μ := by
  unfold kFeC
  exact ⟨kApM_q.1.trans (kApM_q.1.trans (kApM_q.1.trans (kApM_q.1.trans kApM_q.1))), kApM_q.2.1.trans (kApM_q.2.1.trans (kApM_q.2.1.trans (kApM_q.2.1.trans kApM_q.2.1))), kApM_q.2.2.1.trans (kApM_q.2.2.1.trans (kApM_q.2.2.1.trans (kApM_q.2.2.1.trans kApM_q.2.2.1))), kApM_q.2.2.2.trans (kApM_q.2.2.2.trans (kApM_q.2.2.2.trans (kApM_q.2.2.2.trans kApM_q.2.2.2)))⟩
theorem kFeC_f {s a : Nat} (h1 : ¬ a = 65) (h2 : ¬ a = 155) : jI (kFeC μ s p0 p1 p2 p3 p4) a = jI μ a := by
  unfold kFeC
  rw [kApM_f h1 h2, kApM_f h1 h2, kApM_f h1 h2, kApM_f h1 h2, kApM_f h1 h2]
theorem kFeC_o {s j : Nat} (h : j < s) : jI (kFeC μ s p0 p1 p2 p3 p4) 155 j = jI μ 155 j := by
  unfold kFeC
  rw [kApM_r, kApM_r, kApM_r, kApM_r, kApM_r]
  dsimp only
  rw [if_neg (by omega), if_neg (by omega), if_neg (by omega), if_neg (by omega), if_neg (by omega)]
theorem kFeC_n {s i q : Nat} (hi : i < 4) (hq : q < 5) : jI (kFeC μ s p0 p1 p2 p3 p4) 155 (s + (4 * q + i)) = kB4 ([p0, p1, p2, p3, p4].getD q 0) i := by
  unfold kFeC
  rw [kApM_r, kApM_r, kApM_r, kApM_r, kApM_r]
  dsimp only
  have hc : q = 0 ∨ q = 1 ∨ q = 2 ∨ q = 3 ∨ q = 4 := by omega
  rcases hc with rfl | rfl | rfl | rfl | rfl
  · rw [if_neg (by omega), if_neg (by omega), if_neg (by omega), if_neg (by omega), if_pos (by omega), show s + (4 * 0 + i) - s = i by omega]
    rfl
  · rw [if_neg (by omega), if_neg (by omega), if_neg (by omega), if_pos (by omega), show s + (4 * 1 + i) - (s + 4) = i by omega]
    rfl
  · rw [if_neg (by omega), if_neg (by omega), if_pos (by omega), show s + (4 * 2 + i) - (s + 4 + 4) = i by omega]
    rfl
  · rw [if_neg (by omega), if_pos (by omega), show s + (4 * 3 + i) - (s + 4 + 4 + 4) = i by omega]
    rfl
  · rw [if_pos (by omega), show s + (4 * 4 + i) - (s + 4 + 4 + 4 + 4) = i by omega]
    rfl
theorem kFeN_v {a q : Nat} (hq : q < 5) : jI (kFeN μ a p0 p1 p2 p3 p4) a q = [p0, p1, p2, p3, p4].getD q 0 := by
  unfold kFeN
  have hc : q = 0 ∨ q = 1 ∨ q = 2 ∨ q = 3 ∨ q = 4 := by omega
  rcases hc with rfl | rfl | rfl | rfl | rfl <;> simp [mI1]
theorem op_feed (p0 p1 p2 p3 p4 : Int32) (hJ : jJp μ p m n t L K nh T w mk sz) : jPair μ 15 19 [some (.ref 0), some (.int p0), some (.int p1), some (.int p2), some (.int p3), some (.int p4), some (.ref 7647), none] [some (.ref 4490), some (.int p0), some (.int p1), some (.int p2), some (.int p3), some (.int p4), none, none] := by
  have hW : jWd μ := hJ.2.2.2.1.1.1
  have hT := hJ.2.1
  have h120 := hJ.2.2.1
  obtain ⟨z1, z2, z3, z4, z5⟩ := hT
  by_cases hs : sz + 20 ≤ 2000
  · have eA := fun (Q : jO → jM → Prop) => c_feed_0 (d := 48 + 99) (Q := Q) (p0 := p0) (p1 := p1) (p2 := p2) (p3 := p3) (p4 := p4) hW z1 hs
    have hq1 := kFeC_q (μ := μ) (s := sz) (p0 := p0) (p1 := p1) (p2 := p2) (p3 := p3) (p4 := p4)
    generalize hμ1 : jsL (kFeC μ sz p0 p1 p2 p3 p4) 7647 0 (iN (sz + 20)).toInt64 = μ1
    have i1 : jI μ1 = jI (kFeC μ sz p0 p1 p2 p3 p4) := by rw [← hμ1, mL3]
    have a1 : jA μ1 = jA μ := by rw [← hμ1, mL5, hq1.2.2.1]
    have x1 : jX μ1 = jX μ := by rw [← hμ1, mL6, hq1.2.2.2]
    have q1 : jQ μ1 = jQ μ := by rw [← hμ1, mL4, hq1.1]
    have f1 : ∀ a, ¬ a = 65 → ¬ a = 155 → jI μ1 a = jI μ a := fun a h1 h2 => by rw [i1, kFeC_f h1 h2]
    have eB := fun (Q : jO → jM → Prop) => d_feed_0 (d := 48 + 100) (Q := Q) (μ := μ1) (p0 := p0) (p1 := p1) (p2 := p2) (p3 := p3) (p4 := p4) (r := (jA μ).length) (by rw [a1]) h120 (jWd_c q1 hW) (by rw [f1 4490 (by decide) (by decide)]; exact z2) hs
    have hg := kFeN_f (μ := μ1) (p0 := p0) (p1 := p1) (p2 := p2) (p3 := p3) (p4 := p4) (r := (jA μ).length) (by rw [a1])
    have hv : ∀ q, q < 5 → jI (kFeN μ1 (64 * (jA μ).length + 21) p0 p1 p2 p3 p4) (64 * (jA μ).length + 21) q = [p0, p1, p2, p3, p4].getD q 0 := fun q hq => kFeN_v hq
    generalize hν : kFeN μ1 (64 * (jA μ).length + 21) p0 p1 p2 p3 p4 = ν at eB hg hv
    obtain ⟨g1, g2, g3, g4⟩ := hg
    have o : ∀ a, a < 64 * (jA μ).length → ¬ a = 4490 → ¬ a = 4567 → jI (jsI (kFeR ν (64 * (jA μ).length + 21) sz 20) 4490 2 (iN (sz + 20))) a = jI μ1 a := fun a ha n1 n2 => by
      rw [mI2 n1]
      unfold kFeR
      rw [mR2 n2, (g1 a ha).1, mI2 n1]
    have oz : ∀ k, ¬ k = 2 → jI (jsI (kFeR ν (64 * (jA μ).length + 21) sz 20) 4490 2 (iN (sz + 20))) 4490 k = jI (jsI μ1 4490 0 0) 4490 k := fun k hk => by
      rw [mI1, if_neg hk]
      unfold kFeR
      rw [mR2 (by decide), (g1 4490 (by omega)).1]
    have lq : jA (jsI (kFeR ν (64 * (jA μ).length + 21) sz 20) 4490 2 (iN (sz + 20))) = jA ν := by unfold kFeR; rw [mI5, mR3.2.2.1]
    have lx : jX (jsI (kFeR ν (64 * (jA μ).length + 21) sz 20) 4490 2 (iN (sz + 20))) = jX ν := by unfold kFeR; rw [mI6, mR3.2.2.2]
    have a2 : (jA ν).length = (jA μ).length + 1 := by rw [g2, mI5, a1]
    refine ⟨0, _, _, _, by decide, fun Q => l_feed_v (d := 48 + 100) eA, ?_, ?_, fun Q => by rw [hμ1]; exact eB Q, ?_, fun _ => ?_, ?_⟩
    · rw [hμ1]; exact f1 44 (by decide) (by decide)
    · rw [hμ1]; exact f1 45 (by decide) (by decide)
    · rw [oz 0 (by decide), mI1, if_pos rfl]
      rfl
    · show jL (kFeR ν (64 * (jA μ).length + 21) sz 20) 7647 0 = _
      unfold kFeR
      rw [mR3.1, (g1 7647 (by omega)).2.1, mI3, ← hμ1, mL1, if_pos rfl]
    · refine jGo_tp (sz' := sz + 20) hJ (fun a ha n1 n2 n3 n4 => ?_) ?_ ⟨?_, ?_, hs, fun i hi => ?_, fun i hi => if_neg (by omega)⟩ (fun a ha => ?_) ?_ ?_ ?_
      · rw [o a ha n3 n4, f1 a n1 n2]
      · rw [oz 3 (by decide), mI1, if_neg (by decide), f1 4490 (by decide) (by decide)]
      · rw [o 65 (by omega) (by decide) (by decide), i1]
        exact kApM_1
      · rw [mI1, if_pos rfl]
      · have e155 : jI (jsI (kFeR ν (64 * (jA μ).length + 21) sz 20) 4490 2 (iN (sz + 20))) 155 = jI (kFeC μ sz p0 p1 p2 p3 p4) 155 := by rw [o 155 (by omega) (by decide) (by decide), i1]
        unfold kBy
        rw [if_pos hi, e155, mI2 (by decide)]
        unfold kFeR
        rw [mR1]
        by_cases hlt : i < sz
        · rw [if_neg (by omega), (g1 4567 (by omega)).1, mI2 (by decide), f1 4567 (by decide) (by decide), z4 i hlt, kFeC_o hlt]
          unfold kBy
          rw [if_pos hlt]
        · rw [if_pos (by omega)]
          have e1 : i = sz + (4 * ((i - sz) / 4) + (i - sz) % 4) := by omega
          have e2 : (i - sz) / 4 < 5 := by omega
          have e3 : (i - sz) % 4 < 4 := by omega
          have e4 : jI (kFeC μ sz p0 p1 p2 p3 p4) 155 i = kB4 ([p0, p1, p2, p3, p4].getD ((i - sz) / 4) 0) ((i - sz) % 4) := by
            rw [← kFeC_n e3 e2, ← e1]
          rw [e4, kB4_a]
          unfold kF
          rw [hv _ e2]
      · show jQ (kFeR ν (64 * (jA μ).length + 21) sz 20) a = _
        unfold kFeR
        rw [mR3.2.1, (g1 a ha).2.2, mI4, q1]
      · rw [lq, a2]
        omega
      · unfold jnc
        rw [lq, lx, a2, g3, mI6, x1]
        omega
      · rw [jns_e lq lx]
        have := jns_e (μ := μ) (μ' := jsI μ1 4490 0 0) a1 x1
        omega
  · have eA := fun (Q : jO → jM → Prop) => c_feed_1 (d := 48 + 99) (Q := Q) (p0 := p0) (p1 := p1) (p2 := p2) (p3 := p3) (p4 := p4) hW z1 z3 hs
    have eB := fun (Q : jO → jM → Prop) => d_feed_1 (d := 48 + 100) (Q := Q) (μ := jthr μ) (p0 := p0) (p1 := p1) (p2 := p2) (p3 := p3) (p4 := p4) (jWd_c rfl hW) z2 z3 hs
    exact pair_no hJ (k := 1) (by decide) (by decide) (fun Q => l_feed_0 (d := 48 + 100) eA) eB
theorem jsw_no {l : List (Int32 × Nat)} {e : Nat} (h : ∀ q ∈ l, ¬ x = q.1) : jsw l e x = e := by
  induction l with
  | nil => rfl
  | cons q l ih =>
    obtain ⟨a, b⟩ := q
    show (if x = a then b else jsw l e x) = e
    rw [if_neg (h (a, b) (List.mem_cons_self ..)), ih fun q hq => h q (List.mem_cons_of_mem _ hq)]
/-- what count tells, class -/
def kCtA (μ : jM) (m n t nh w mk sz : Nat) : List Int32 := [jI μ 2567 2, iN m, iN n, iN t, iN nh, rsum (fun k => if jI μ 3024 k = 0 then 0 else 1) n, rsum (fun k => if jI μ 3024 k = 0 then 0 else if jI μ 2640 k = 5 then 1 else 0) n, iN w, iN mk, rsum (fun k => jI μ 2960 k) n, iN sz]
def kCtB (μ : jM) (m n t nh w mk sz : Nat) : List Int32 := [jI μ 5836 0, iN m, iN n, iN t, iN nh, rsum (fun k => jI μ 6288 k) n, rsum (fun k => if jI μ 5904 k = 5 then 1 else 0) n / 2, iN w, iN mk, rsum (fun k => jI μ 6096 k) 10, iN sz]
theorem c_count (hW : jWd μ) (hm : jI μ 1731 0 = iN m) (hn : jI μ 1731 1 = iN n) (h10 : n ≤ 10) (ht : jI μ 1731 2 = iN t) (hnh : jI μ 1731 3 = iN nh) (hw1 : jI μ 2567 16 = iN w) (hmk : jI μ 2567 3 = iN mk) (hz : jI μ 65 1 = iN sz) {k : Nat} (hk : k < 11) : Ex (d + 2) 138 0 [some (.ref 0), some (.int (iN k))] [] μ Q ↔ Q (.inl (some (.int ((kCtA μ m n t nh w mk sz).getD k 0)))) μ := by
  have hw := hW
  unfold jWd at hw
  have h139 := fun (d : Nat) (Q : jO → jM → Prop) => c_connn (d := d) (Q := Q) hW hn h10
  have h141 := fun (d : Nat) (Q : jO → jM → Prop) => c_talksn (d := d) (Q := Q) hW hn h10
  have h142 := fun (d : Nat) (Q : jO → jM → Prop) => c_paidn (d := d) (Q := Q) hW hn h10
  have hc : k = 0 ∨ k = 1 ∨ k = 2 ∨ k = 3 ∨ k = 4 ∨ k = 5 ∨ k = 6 ∨ k = 7 ∨ k = 8 ∨ k = 9 ∨ k = 10 := by omega
  rcases hc with rfl | rfl | rfl | rfl | rfl | rfl | rfl | rfl | rfl | rfl | rfl
  · have hs : jsw [(0, 60), (1, 68), (2, 76), (3, 84), (4, 92), (5, 100), (6, 108), (7, 116), (8, 124), (9, 132), (10, 140)] 148 ((0 : Int32)) = 60 := by decide
    simp only [x138_0, x138_1, x138_60, x138_61, x138_64, x138_67, mzi, mInc, mne, mlt9, mrk, mI1, mI2, mI3, mI4, mL1, mL2, mL3, mL4, mQ1, mQ2, mQ3, mQ4, mT1, mcat0, mcat1, mcat2, mcat3, mcat4, mrf1, jK_v, jK_n, JA, mz1, if_true, if_false, ite_true, ite_false, eq_self, not_false_eq_true, Nat.zero_le, true_and, and_true, and_self, Nat.reduceMod, Nat.reduceAdd, Nat.reduceLeDiff, Nat.reduceEqDiff, Nat.reduceLT, hs, hw, hm, hn, ht, hnh, hw1, hmk, hz, h139, h141, h142]
    rfl
  · have hs : jsw [(0, 60), (1, 68), (2, 76), (3, 84), (4, 92), (5, 100), (6, 108), (7, 116), (8, 124), (9, 132), (10, 140)] 148 (iN 1) = 68 := by decide
    simp only [x138_0, x138_1, x138_68, x138_69, x138_72, x138_75, mzi, mInc, mne, mlt9, mrk, mI1, mI2, mI3, mI4, mL1, mL2, mL3, mL4, mQ1, mQ2, mQ3, mQ4, mT1, mcat0, mcat1, mcat2, mcat3, mcat4, mrf1, jK_v, jK_n, JA, mz1, if_true, if_false, ite_true, ite_false, eq_self, not_false_eq_true, Nat.zero_le, true_and, and_true, and_self, Nat.reduceMod, Nat.reduceAdd, Nat.reduceLeDiff, Nat.reduceEqDiff, Nat.reduceLT, hs, hw, hm, hn, ht, hnh, hw1, hmk, hz, h139, h141, h142]
    rfl
  · have hs : jsw [(0, 60), (1, 68), (2, 76), (3, 84), (4, 92), (5, 100), (6, 108), (7, 116), (8, 124), (9, 132), (10, 140)] 148 (iN 2) = 76 := by decide
    simp only [x138_0, x138_1, x138_76, x138_77, x138_80, x138_83, mzi, mInc, mne, mlt9, mrk, mI1, mI2, mI3, mI4, mL1, mL2, mL3, mL4, mQ1, mQ2, mQ3, mQ4, mT1, mcat0, mcat1, mcat2, mcat3, mcat4, mrf1, jK_v, jK_n, JA, mz1, if_true, if_false, ite_true, ite_false, eq_self, not_false_eq_true, Nat.zero_le, true_and, and_true, and_self, Nat.reduceMod, Nat.reduceAdd, Nat.reduceLeDiff, Nat.reduceEqDiff, Nat.reduceLT, hs, hw, hm, hn, ht, hnh, hw1, hmk, hz, h139, h141, h142]
    rfl
  · have hs : jsw [(0, 60), (1, 68), (2, 76), (3, 84), (4, 92), (5, 100), (6, 108), (7, 116), (8, 124), (9, 132), (10, 140)] 148 (iN 3) = 84 := by decide
    simp only [x138_0, x138_1, x138_84, x138_85, x138_88, x138_91, mzi, mInc, mne, mlt9, mrk, mI1, mI2, mI3, mI4, mL1, mL2, mL3, mL4, mQ1, mQ2, mQ3, mQ4, mT1, mcat0, mcat1, mcat2, mcat3, mcat4, mrf1, jK_v, jK_n, JA, mz1, if_true, if_false, ite_true, ite_false, eq_self, not_false_eq_true, Nat.zero_le, true_and, and_true, and_self, Nat.reduceMod, Nat.reduceAdd, Nat.reduceLeDiff, Nat.reduceEqDiff, Nat.reduceLT, hs, hw, hm, hn, ht, hnh, hw1, hmk, hz, h139, h141, h142]
    rfl
  · have hs : jsw [(0, 60), (1, 68), (2, 76), (3, 84), (4, 92), (5, 100), (6, 108), (7, 116), (8, 124), (9, 132), (10, 140)] 148 (iN 4) = 92 := by decide
    simp only [x138_0, x138_1, x138_92, x138_93, x138_96, x138_99, mzi, mInc, mne, mlt9, mrk, mI1, mI2, mI3, mI4, mL1, mL2, mL3, mL4, mQ1, mQ2, mQ3, mQ4, mT1, mcat0, mcat1, mcat2, mcat3, mcat4, mrf1, jK_v, jK_n, JA, mz1, if_true, if_false, ite_true, ite_false, eq_self, not_false_eq_true, Nat.zero_le, true_and, and_true, and_self, Nat.reduceMod, Nat.reduceAdd, Nat.reduceLeDiff, Nat.reduceEqDiff, Nat.reduceLT, hs, hw, hm, hn, ht, hnh, hw1, hmk, hz, h139, h141, h142]
    rfl
  · have hs : jsw [(0, 60), (1, 68), (2, 76), (3, 84), (4, 92), (5, 100), (6, 108), (7, 116), (8, 124), (9, 132), (10, 140)] 148 (iN 5) = 100 := by decide
    simp only [x138_0, x138_1, x138_100, x138_101, x138_104, x138_107, mzi, mInc, mne, mlt9, mrk, mI1, mI2, mI3, mI4, mL1, mL2, mL3, mL4, mQ1, mQ2, mQ3, mQ4, mT1, mcat0, mcat1, mcat2, mcat3, mcat4, mrf1, jK_v, jK_n, JA, mz1, if_true, if_false, ite_true, ite_false, eq_self, not_false_eq_true, Nat.zero_le, true_and, and_true, and_self, Nat.reduceMod, Nat.reduceAdd, Nat.reduceLeDiff, Nat.reduceEqDiff, Nat.reduceLT, hs, hw, hm, hn, ht, hnh, hw1, hmk, hz, h139, h141, h142]
    rfl
  · have hs : jsw [(0, 60), (1, 68), (2, 76), (3, 84), (4, 92), (5, 100), (6, 108), (7, 116), (8, 124), (9, 132), (10, 140)] 148 (iN 6) = 108 := by decide
    simp only [x138_0, x138_1, x138_108, x138_109, x138_112, x138_115, mzi, mInc, mne, mlt9, mrk, mI1, mI2, mI3, mI4, mL1, mL2, mL3, mL4, mQ1, mQ2, mQ3, mQ4, mT1, mcat0, mcat1, mcat2, mcat3, mcat4, mrf1, jK_v, jK_n, JA, mz1, if_true, if_false, ite_true, ite_false, eq_self, not_false_eq_true, Nat.zero_le, true_and, and_true, and_self, Nat.reduceMod, Nat.reduceAdd, Nat.reduceLeDiff, Nat.reduceEqDiff, Nat.reduceLT, hs, hw, hm, hn, ht, hnh, hw1, hmk, hz, h139, h141, h142]
    rfl
  · have hs : jsw [(0, 60), (1, 68), (2, 76), (3, 84), (4, 92), (5, 100), (6, 108), (7, 116), (8, 124), (9, 132), (10, 140)] 148 (iN 7) = 116 := by decide
    simp only [x138_0, x138_1, x138_116, x138_117, x138_120, x138_123, mzi, mInc, mne, mlt9, mrk, mI1, mI2, mI3, mI4, mL1, mL2, mL3, mL4, mQ1, mQ2, mQ3, mQ4, mT1, mcat0, mcat1, mcat2, mcat3, mcat4, mrf1, jK_v, jK_n, JA, mz1, if_true, if_false, ite_true, ite_false, eq_self, not_false_eq_true, Nat.zero_le, true_and, and_true, and_self, Nat.reduceMod, Nat.reduceAdd, Nat.reduceLeDiff, Nat.reduceEqDiff, Nat.reduceLT, hs, hw, hm, hn, ht, hnh, hw1, hmk, hz, h139, h141, h142]
    rfl
  · have hs : jsw [(0, 60), (1, 68), (2, 76), (3, 84), (4, 92), (5, 100), (6, 108), (7, 116), (8, 124), (9, 132), (10, 140)] 148 (iN 8) = 124 := by decide
    simp only [x138_0, x138_1, x138_124, x138_125, x138_128, x138_131, mzi, mInc, mne, mlt9, mrk, mI1, mI2, mI3, mI4, mL1, mL2, mL3, mL4, mQ1, mQ2, mQ3, mQ4, mT1, mcat0, mcat1, mcat2, mcat3, mcat4, mrf1, jK_v, jK_n, JA, mz1, if_true, if_false, ite_true, ite_false, eq_self, not_false_eq_true, Nat.zero_le, true_and, and_true, and_self, Nat.reduceMod, Nat.reduceAdd, Nat.reduceLeDiff, Nat.reduceEqDiff, Nat.reduceLT, hs, hw, hm, hn, ht, hnh, hw1, hmk, hz, h139, h141, h142]
    rfl
  · have hs : jsw [(0, 60), (1, 68), (2, 76), (3, 84), (4, 92), (5, 100), (6, 108), (7, 116), (8, 124), (9, 132), (10, 140)] 148 (iN 9) = 132 := by decide
    simp only [x138_0, x138_1, x138_132, x138_133, x138_136, x138_139, mzi, mInc, mne, mlt9, mrk, mI1, mI2, mI3, mI4, mL1, mL2, mL3, mL4, mQ1, mQ2, mQ3, mQ4, mT1, mcat0, mcat1, mcat2, mcat3, mcat4, mrf1, jK_v, jK_n, JA, mz1, if_true, if_false, ite_true, ite_false, eq_self, not_false_eq_true, Nat.zero_le, true_and, and_true, and_self, Nat.reduceMod, Nat.reduceAdd, Nat.reduceLeDiff, Nat.reduceEqDiff, Nat.reduceLT, hs, hw, hm, hn, ht, hnh, hw1, hmk, hz, h139, h141, h142]
    rfl
  · have hs : jsw [(0, 60), (1, 68), (2, 76), (3, 84), (4, 92), (5, 100), (6, 108), (7, 116), (8, 124), (9, 132), (10, 140)] 148 (iN 10) = 140 := by decide
    simp only [x138_0, x138_1, x138_140, x138_141, x138_144, x138_147, mzi, mInc, mne, mlt9, mrk, mI1, mI2, mI3, mI4, mL1, mL2, mL3, mL4, mQ1, mQ2, mQ3, mQ4, mT1, mcat0, mcat1, mcat2, mcat3, mcat4, mrf1, jK_v, jK_n, JA, mz1, if_true, if_false, ite_true, ite_false, eq_self, not_false_eq_true, Nat.zero_le, true_and, and_true, and_self, Nat.reduceMod, Nat.reduceAdd, Nat.reduceLeDiff, Nat.reduceEqDiff, Nat.reduceLT, hs, hw, hm, hn, ht, hnh, hw1, hmk, hz, h139, h141, h142]
    rfl
theorem c_count_x (h : ¬ ∃ k, k < 11 ∧ x = iN k) : Ex d 138 0 [some (.ref 0), some (.int x)] [] μ Q ↔ Q (.inr 2) (jthr μ) := by
  have hs : jsw [(0, 60), (1, 68), (2, 76), (3, 84), (4, 92), (5, 100), (6, 108), (7, 116), (8, 124), (9, 132), (10, 140)] 148 x = 148 := by
    have ha : ∀ q ∈ [(0, 60), (1, 68), (2, 76), (3, 84), (4, 92), (5, 100), (6, 108), (7, 116), (8, 124), (9, 132), (10, 140)], ∃ k, k < 11 ∧ q.1 = iN k := by decide
    refine jsw_no fun q hq e => ?_
    obtain ⟨k, hk, he⟩ := ha q hq
    exact h ⟨k, hk, e.trans he⟩
  simp only [x138_0, x138_1, x138_60, x138_61, x138_64, x138_67, x138_68, x138_69, x138_72, x138_75, x138_76, x138_77, x138_80, x138_83, x138_84, x138_85, x138_88, x138_91, x138_92, x138_93, x138_96, x138_99, x138_100, x138_101, x138_104, x138_107, x138_108, x138_109, x138_112, x138_115, x138_116, x138_117, x138_120, x138_123, x138_124, x138_125, x138_128, x138_131, x138_132, x138_133, x138_136, x138_139, x138_140, x138_141, x138_144, x138_147, x138_148, mzi, mInc, mne, mlt9, mrk, mI1, mI2, mI3, mI4, mL1, mL2, mL3, mL4, mQ1, mQ2, mQ3, mQ4, mT1, mcat0, mcat1, mcat2, mcat3, mcat4, mrf1, jK_v, jK_n, JA, mz1, if_true, if_false, ite_true, ite_false, eq_self, not_false_eq_true, Nat.zero_le, true_and, and_true, and_self, Nat.reduceMod, Nat.reduceAdd, Nat.reduceLeDiff, Nat.reduceEqDiff, Nat.reduceLT, hs]
def kCtM (μ : jM) (a : Nat) (v0 v1 v2 v3 v4 v5 v6 v7 v8 v9 v10 : Int32) : jM := (jsI (jsI (jsI (jsI (jsI (jsI (jsI (jsI (jsI (jsI (jsI (jnew μ 17) a 0 v0) a 1 v1) a 2 v2) a 3 v3) a 4 v4) a 5 v5) a 6 v6) a 7 v7) a 8 v8) a 9 v9) a 10 v10)
theorem kCtM_v {a k : Nat} {v0 v1 v2 v3 v4 v5 v6 v7 v8 v9 v10 : Int32} (hk : k < 11) : jI (kCtM μ a v0 v1 v2 v3 v4 v5 v6 v7 v8 v9 v10) a k = [v0, v1, v2, v3, v4, v5, v6, v7, v8, v9, v10].getD k 0 := by
  unfold kCtM
  have hc : k = 0 ∨ k = 1 ∨ k = 2 ∨ k = 3 ∨ k = 4 ∨ k = 5 ∨ k = 6 ∨ k = 7 ∨ k = 8 ∨ k = 9 ∨ k = 10 := by omega
  rcases hc with rfl | rfl | rfl | rfl | rfl | rfl | rfl | rfl | rfl | rfl | rfl <;> simp [mI1]
theorem kCtM_b {v0 v1 v2 v3 v4 v5 v6 v7 v8 v9 v10 : Int32} (hr : r = (jA μ).length) : jGb r 1 11 μ (kCtM μ (64 * r + 17) v0 v1 v2 v3 v4 v5 v6 v7 v8 v9 v10) := by
  have h1 := jnew_b (μ := μ) (b := r) (c := 17) (s := 11) (Nat.le_of_eq hr) (by decide) (by decide)
  unfold kCtM
  exact jGb_t h1 (jGb_t (jGb_I (k := 0) (v := v0) (by omega)) (jGb_t (jGb_I (k := 1) (v := v1) (by omega)) (jGb_t (jGb_I (k := 2) (v := v2) (by omega)) (jGb_t (jGb_I (k := 3) (v := v3) (by omega)) (jGb_t (jGb_I (k := 4) (v := v4) (by omega)) (jGb_t (jGb_I (k := 5) (v := v5) (by omega)) (jGb_t (jGb_I (k := 6) (v := v6) (by omega)) (jGb_t (jGb_I (k := 7) (v := v7) (by omega)) (jGb_t (jGb_I (k := 8) (v := v8) (by omega)) (jGb_t (jGb_I (k := 9) (v := v9) (by omega)) (jGb_I (k := 10) (v := v10) (by omega))))))))))))
theorem jMp_I {a k : Nat} : jMp (jsI μ a k v) p = jMp μ p := by
  unfold jMp jMq jWd
  rw [mI4]
theorem jMp_n {c : Nat} (hl : 120 ≤ (jA μ).length) (hp : p + 14 ≤ (jA μ).length) (h : jMp μ p) : jMp (jnew μ c) p := by
  have hf := h.2.1
  have q : ∀ a, a < 64 * (jA μ).length → jQ (jnew μ c) a = jQ μ a := fun a ha => (jnew_r (by unfold jadr; omega)).2.2
  refine jMp_g (jWd_k (fun a ha _ _ _ _ => q a (by omega)) (fun k _ _ => by rw [q 4490 (by omega)]) h.1) (by rw [q 4490 (by omega)]) (q _ (by omega)) h
theorem d_counted (hr : r = (jA μ).length) (h120 : 120 ≤ r) (hp : p + 14 ≤ r) (hM : jMp μ p) (hm : jI μ (64 * p + 11) 0 = iN m) (hn : jI μ (64 * p + 11) 2 = iN n) (h10 : n ≤ 10) (ht : jI μ (64 * p + 11) 6 = iN t) (hnh : jI μ (64 * p + 11) 11 = iN nh) (hw1 : jI μ 5836 7 = iN w) (hmk : jI μ 5836 1 = iN mk) (hz : jI μ 4490 2 = iN sz) {k : Nat} (hk : k < 11) : Ex (d + 1) 144 0 [some (.ref 4490), some (.int (iN k)), none] [] μ Q ↔ Q (.inl (some (.int ((kCtB μ m n t nh w mk sz).getD k 0)))) (kCtM μ (64 * r + 17) (jI μ 5836 0) (iN m) (iN n) (iN t) (iN nh) (rsum (fun k => jI μ 6288 k) n) (rsum (fun k => if jI μ 5904 k = 5 then 1 else 0) n / 2) (iN w) (iN mk) (rsum (fun k => jI μ 6096 k) 10) (iN sz)) := by
  have hf := hM.2.1
  have hM0 : jMp (jnew μ 17) p := jMp_n (by omega) (by omega) hM
  have hW0 := hM0.1
  have hpl := hM0.2.2.1
  obtain ⟨j1, j2, j3, j4⟩ := JR17 r
  have jp1 := (JPm p).1
  have hadr : jadr μ 17 = 64 * r + 17 := by unfold jadr; rw [← hr]
  have g : ∀ a, a < 64 * r → jI (jnew μ 17) a = jI μ a ∧ jQ (jnew μ 17) a = jQ μ a := fun a ha => ⟨(jnew_r (by unfold jadr; omega)).1, (jnew_r (by unfold jadr; omega)).2.2⟩
  have n1 : ¬ 4490 = 64 * r + 17 := by omega
  have n2 : ¬ 5836 = 64 * r + 17 := by omega
  have n3 : ¬ 6288 = 64 * r + 17 := by omega
  have n4 : ¬ 5904 = 64 * r + 17 := by omega
  have n5 : ¬ 6096 = 64 * r + 17 := by omega
  have n6 : ¬ 64 * p + 11 = 64 * r + 17 := by omega
  have i1 := (g 4490 (by omega)).1
  have i2 := (g 5836 (by omega)).1
  have i3 := (g 6288 (by omega)).1
  have i4 := (g 5904 (by omega)).1
  have i5 := (g 6096 (by omega)).1
  have i6 := (g (64 * p + 11) (by omega)).1
  have h145 := fun (d : Nat) (ν : jM) (Q : jO → jM → Prop) (hM : jMp ν p) (hn : jI ν (64 * p + 11) 2 = iN n) => d_conns (d := d) (μ := ν) (Q := Q) hM hn h10
  have h146 := fun (d : Nat) (ν : jM) (Q : jO → jM → Prop) (hM : jMp ν p) (hn : jI ν (64 * p + 11) 2 = iN n) => d_doings (d := d) (μ := ν) (v := 5) (Q := Q) hM hn h10
  have h147 := fun (d : Nat) (ν : jM) (Q : jO → jM → Prop) (hM : jMp ν p) => d_paids (d := d) (μ := ν) (Q := Q) hM.1
  have b0 : jin (0 : Int32) 11 = true ∧ jin (1 : Int32) 11 = true ∧ jin (2 : Int32) 11 = true ∧ jin (3 : Int32) 11 = true ∧ jin (4 : Int32) 11 = true ∧ jin (5 : Int32) 11 = true ∧ jin (6 : Int32) 11 = true ∧ jin (7 : Int32) 11 = true ∧ jin (8 : Int32) 11 = true ∧ jin (9 : Int32) 11 = true ∧ jin (10 : Int32) 11 = true := by decide
  have b1 : (4 : Int32).toNatClampNeg = 4 ∧ (5 : Int32).toNatClampNeg = 5 ∧ (6 : Int32).toNatClampNeg = 6 ∧ (7 : Int32).toNatClampNeg = 7 ∧ (8 : Int32).toNatClampNeg = 8 ∧ (9 : Int32).toNatClampNeg = 9 ∧ (10 : Int32).toNatClampNeg = 10 := by decide
  have d2 : ¬ (2 : Int32) = 0 := by decide
  have hw := hW0
  unfold jWd at hw
  have h1 : Ex (d + 1) 144 0 [some (.ref 4490), some (.int (iN k)), none] [] μ Q ↔ Ex (d + 1) 144 122 [some (.ref 4490), some (.int (iN k)), some (.ref (64 * r + 17))] [.int (iN k), .ref (64 * r + 17)] (kCtM μ (64 * r + 17) (jI μ 5836 0) (iN m) (iN n) (iN t) (iN nh) (rsum (fun k => jI μ 6288 k) n) (rsum (fun k => if jI μ 5904 k = 5 then 1 else 0) n / 2) (iN w) (iN mk) (rsum (fun k => jI μ 6096 k) 10) (iN sz)) Q := by
    unfold kCtM
    simp only [x144_0, x144_2, x144_4a, x144_4b, x144_5, x144_6, x144_7, x144_10, x144_13, x144_14a, x144_14b, x144_15, x144_16, x144_17, x144_20, x144_23, x144_24a, x144_24b, x144_25, x144_26, x144_27, x144_30, x144_33, x144_34a, x144_34b, x144_35, x144_36, x144_37, x144_40, x144_43, x144_44a, x144_44b, x144_45, x144_46, x144_47, x144_50, x144_53, x144_54a, x144_54b, x144_55, x144_56, x144_57, x144_60, x144_63, x144_64a, x144_64b, x144_65, x144_67, x144_68, x144_71, x144_72, x144_75, x144_76, x144_77, x144_78a, x144_78b, x144_79, x144_81, x144_82, x144_85, x144_88, x144_89a, x144_89b, x144_90, x144_92, x144_93, x144_96, x144_99, x144_100a, x144_100b, x144_101, x144_103, x144_104, x144_107, x144_110, x144_111a, x144_111b, x144_112, x144_114, x144_115, x144_118, x144_119a, x144_119b, x144_119c, x144_120, x144_121, mzi, mInc, mne, mlt9, mrk, mI1, mI2, mI3, mI4, mL1, mL2, mL3, mL4, mQ1, mQ2, mQ3, mQ4, mT1, mcat0, mcat1, mcat2, mcat3, mcat4, mrf1, jK_v, jK_n, JA, mz1, if_true, if_false, ite_true, ite_false, eq_self, not_false_eq_true, Nat.zero_le, true_and, and_true, and_self, Nat.reduceMod, Nat.reduceAdd, Nat.reduceLeDiff, Nat.reduceEqDiff, Nat.reduceLT, hw, hpl, hadr, j1, j2, j3, j4, jp1, n1, n2, n3, n4, n5, n6, i1, i2, i3, i4, i5, i6, h145, h146, h147, jMp_I, hM0, b0, b1, d2, hm, hn, ht, hnh, hw1, hmk, hz]
  have kc : (iN k).toNatClampNeg = k := iN_cl (by omega)
  have kj : jin (iN k) 11 = true := iN_in hk (by omega)
  rw [h1, x144_122 j1 (by rw [j3]; exact kj), x144_123, j4, kc, kCtM_v hk]
  rfl
end COUNT
