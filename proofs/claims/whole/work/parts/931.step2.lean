/-! THE PURE PART: a token in class and reference, the others. -/
section MN2
variable {A0 B0 A B : jM} {r i k J N sz c : Nat} {kd : Nat → Nat} {b : Nat → Int32} {v : Int32} {l : Int64}
theorem c_en_o {d : Nat} {ν : jM} {Q : jO → jM → Prop} (hW : jWd ν) (hJ : J < 42) (hn : ¬ J = 0 ∧ ¬ J = 2 ∧ ¬ J = 5 ∧ ¬ J = 3 ∧ ¬ J = 6 ∧ ¬ J = 7 ∧ ¬ J = 15 ∧ ¬ (J = 10 ∨ J = 14) ∧ ¬ J = 16) : Ex (d + 5) 65 0 [some (.ref 1478), some (.ref (64 * J + 40))] [] ν Q ↔ Q (.inl (some (.int 0))) ν := by
  obtain ⟨n1, n2, n3, n4, n5, n6, n7, n8, n9⟩ := hn
  have hw := hW
  unfold jWd at hw
  rw [c_enp hW hJ, swN J hJ, if_neg n1, if_neg n2, if_neg n3, if_neg n4, if_neg n5, if_neg n6, if_neg n7, if_neg n8, if_neg n9]
  simp only [x65_96, x65_97, x65_100, x65_101, x65_102, x65_105, x65_106, x65_107, x65_110, x65_111, x65_112, x65_113, x65_116, x65_119, x65_120, x65_123, x65_126, x65_127, x65_128, x65_131, x65_132, x65_133, x65_134, x65_137, x65_140, x65_141, x65_144, x65_147, x65_148, x65_149, x65_152, x65_153, x65_154, x65_155, x65_158, x65_161, x65_162, x65_163, x65_166, x65_167, x65_168, x65_169, x65_172, x65_173, x65_176, x65_179, x65_182, x65_183, x65_184, x65_185, x65_188, x65_189, x65_192, x65_195, x65_198, x65_199, x65_200, x65_201, x65_204, x65_205, x65_208, x65_211, x65_214, x65_215, x65_216, mzi, mInc, mne, mlt9, mrk, mI1, mI2, mI3, mI4, mL1, mL2, mL3, mL4, mQ1, mQ2, mQ3, mQ4, mT1, mcat0, mcat1, mcat2, mcat3, mcat4, mrf1, jK_v, jK_n, JA, mz1, if_true, if_false, ite_true, ite_false, eq_self, not_false_eq_true, Nat.zero_le, true_and, and_true, and_self, Nat.reduceMod, Nat.reduceAdd, Nat.reduceLeDiff, Nat.reduceEqDiff, Nat.reduceLT, hw]
theorem st_at (hC : jC0 A0 kd N b sz) (hD : jSb B0 r kd N b sz) (h : jMn A0 B0 A B r kd b sz i) (hi : i < N - 1) (hr : kRole kd i = 9) (hdue : kDue kd i) : jStp A0 B0 A B r kd b sz i := by
  obtain ⟨hfA, hfB, hR⟩ := h
  have hR' := hR
  obtain ⟨f1, f2, f3, f4, f5, f6, f7, f8, f9, f10, f11, f12, f13, f14, f15, f16, f17, f18, f19, f20, f21, f22, f23⟩ := hR'
  have hSb := jSb_f hD hfB
  have hT := hD.1.2.1
  have hN2 := hT.2.1
  have hr2 := hD.1.2.2.1
  have hkl := hT.2.2.2.2 i
  have hW : jWd A := jWd_c hfA.2.2.2.1 hC.1
  have hW1 : jWd (jsI A 194 7 (iN i)) := jWd_c rfl hW
  have ht1 : jI (jsI A 194 7 (iN i)) 194 7 = iN i := by rw [mI1, if_pos rfl]
  have h4 : i < 400 := by omega
  have hk50 : ∀ (d : Nat) (Q : jO → jM → Prop), (Ex (d + 5) 50 0 [some (.ref 194), some (.int (iN i))] [] (jsI A 194 7 (iN i)) Q ↔ Q (.inl (some (.ref (64 * kd i + 40)))) (jsI A 194 7 (iN i))) := fun d Q => c_kindA hC (jCf_7 hfA) hN2 (by omega)
  have o579 : jI (jsI A 194 7 (iN i)) 579 = jI A 579 := mI2 (by decide)
  obtain ⟨i1, hK, hJ0⟩ := rinv_9 hr
  have hJ : kAh kd i = 3 := by unfold kAh; rw [if_neg (by omega)]; exact hJ0
  have hnm : jL (jsI A 194 7 (iN i)) 542 i = kNa b (kTs b sz i) (kTl b sz i) := by
    rw [mI3, hfA.2.2.2.2.1 542 (by decide) (by decide) (by decide)]
    exact (hC.2.2 i (by omega)).2.2.1 hK
  have hdu := hdue.2.1 hr
  have hb2 := f2.2.2
  obtain ⟨v, v1, v2⟩ := d_eo_at hSb hi hr (k := kCn kd 9 i) (by rw [f2.2.1, hdu]) (by omega)
  obtain ⟨q1, q2⟩ := fi_eq hSb hN2 hi hK (by decide) f5 v1
  have hen : ∀ (d : Nat) (Q : jO → jM → Prop), _ := fun d Q => c_en_home (d := d) (Q := Q) hW1 ht1 (by omega) (by rw [o579]; exact f1.1) f1.2.2 (by rw [o579, f2.1, hdu]) (by omega)
  simp only [hnm, mI3, q1] at hen
  by_cases g : v = -1
  · skip
    refine ⟨3, (jsI (jsI (jsI A 194 7 (iN i)) 473 i v) 720 (kCn kd 9 i) v), (jsI (jsI B 4889 i v) (64 * r + 144) (kCn kd 9 i) v), by decide, fun q => absurd q (by decide), fun _ => ⟨(jCf_r (jCf_r (jCf_7 hfA) (by unfold kCa; decide)) (by unfold kCa; decide)), (jDf_r (jDf_r hfB hr2 (by unfold kDa; omega)) hr2 (by unfold kDa; omega)), by rw [mI2 (by decide), mI2 (by decide), mI1, if_pos rfl]⟩, by rw [mI2 (by omega), mI2 (by omega)], fun d b4 Q => ?_, fun d Q => ?_⟩
    · rw [hJ]
      exact c_it_n hW hkl hK h4 (hk50 d) (fun Q => (hen d Q).trans (by rw [if_pos g]))
    · rw [v2, if_pos g]
      exact Iff.rfl
  · obtain ⟨u, hu1, hu2⟩ := q2.resolve_left g
    have e_cA : jI (jsI (jsI (jsI A 194 7 (iN i)) 473 i v) 720 (kCn kd 9 i) v) 579 = jI A 579 := by rw [mI2 (by decide), mI2 (by decide), mI2 (by decide)]
    have e_ba : jI (jsI (jsI (jsI A 194 7 (iN i)) 473 i v) 720 (kCn kd 9 i) v) 660 = jI A 660 := by rw [mI2 (by decide), mI2 (by decide), mI2 (by decide)]
    have e_ho : jI (jsI (jsI (jsI A 194 7 (iN i)) 473 i v) 720 (kCn kd 9 i) v) 720 = kSetr (jI A 720) ((kCn kd 9 i)) (v) := by rw [mIr, mI2 (by decide), mI2 (by decide)]
    have e_nu : jI (jsI (jsI (jsI A 194 7 (iN i)) 473 i v) 720 (kCn kd 9 i) v) 784 = jI A 784 := by rw [mI2 (by decide), mI2 (by decide), mI2 (by decide)]
    have e_di : jI (jsI (jsI (jsI A 194 7 (iN i)) 473 i v) 720 (kCn kd 9 i) v) 848 = jI A 848 := by rw [mI2 (by decide), mI2 (by decide), mI2 (by decide)]
    have e_fr : jI (jsI (jsI (jsI A 194 7 (iN i)) 473 i v) 720 (kCn kd 9 i) v) 912 = jI A 912 := by rw [mI2 (by decide), mI2 (by decide), mI2 (by decide)]
    have e_to : jI (jsI (jsI (jsI A 194 7 (iN i)) 473 i v) 720 (kCn kd 9 i) v) 976 = jI A 976 := by rw [mI2 (by decide), mI2 (by decide), mI2 (by decide)]
    have e_wi : jI (jsI (jsI (jsI A 194 7 (iN i)) 473 i v) 720 (kCn kd 9 i) v) 1040 = jI A 1040 := by rw [mI2 (by decide), mI2 (by decide), mI2 (by decide)]
    have e_co : jI (jsI (jsI (jsI A 194 7 (iN i)) 473 i v) 720 (kCn kd 9 i) v) 1104 = jI A 1104 := by rw [mI2 (by decide), mI2 (by decide), mI2 (by decide)]
    have e_mA : jI (jsI (jsI (jsI A 194 7 (iN i)) 473 i v) 720 (kCn kd 9 i) v) 473 = kSetr (jI A 473) (i) (v) := by rw [mI2 (by decide), mIr, mI2 (by decide)]
    have e_ns : jL (jsI (jsI (jsI A 194 7 (iN i)) 473 i v) 720 (kCn kd 9 i) v) 1565 = jL A 1565 := by rw [mI3, mI3, mI3]
    have e_nl : jL (jsI (jsI (jsI A 194 7 (iN i)) 473 i v) 720 (kCn kd 9 i) v) 1628 = jL A 1628 := by rw [mI3, mI3, mI3]
    have e_nt : jL (jsI (jsI (jsI A 194 7 (iN i)) 473 i v) 720 (kCn kd 9 i) v) 1692 = jL A 1692 := by rw [mI3, mI3, mI3]
    have e_cB : jI (jsI (jsI B 4889 i v) (64 * r + 144) (kCn kd 9 i) v) (64 * r + 11) = jI B (64 * r + 11) := by rw [mI2 (by omega), mI2 (by omega)]
    have e_bb : jI (jsI (jsI B 4889 i v) (64 * r + 144) (kCn kd 9 i) v) (64 * r + 84) = jI B (64 * r + 84) := by rw [mI2 (by omega), mI2 (by omega)]
    have e_hb : jI (jsI (jsI B 4889 i v) (64 * r + 144) (kCn kd 9 i) v) (64 * r + 144) = kSetr (jI B (64 * r + 144)) ((kCn kd 9 i)) (v) := by rw [mIr, mI2 (by omega)]
    have e_nb : jI (jsI (jsI B 4889 i v) (64 * r + 144) (kCn kd 9 i) v) (64 * r + 208) = jI B (64 * r + 208) := by rw [mI2 (by omega), mI2 (by omega)]
    have e_db : jI (jsI (jsI B 4889 i v) (64 * r + 144) (kCn kd 9 i) v) (64 * r + 272) = jI B (64 * r + 272) := by rw [mI2 (by omega), mI2 (by omega)]
    have e_fb : jI (jsI (jsI B 4889 i v) (64 * r + 144) (kCn kd 9 i) v) (64 * r + 336) = jI B (64 * r + 336) := by rw [mI2 (by omega), mI2 (by omega)]
    have e_tb : jI (jsI (jsI B 4889 i v) (64 * r + 144) (kCn kd 9 i) v) (64 * r + 400) = jI B (64 * r + 400) := by rw [mI2 (by omega), mI2 (by omega)]
    have e_wb : jI (jsI (jsI B 4889 i v) (64 * r + 144) (kCn kd 9 i) v) (64 * r + 464) = jI B (64 * r + 464) := by rw [mI2 (by omega), mI2 (by omega)]
    have e_cb : jI (jsI (jsI B 4889 i v) (64 * r + 144) (kCn kd 9 i) v) (64 * r + 528) = jI B (64 * r + 528) := by rw [mI2 (by omega), mI2 (by omega)]
    have e_sB : jI (jsI (jsI B 4889 i v) (64 * r + 144) (kCn kd 9 i) v) (64 * r + 594) = jI B (64 * r + 594) := by rw [mI2 (by omega), mI2 (by omega)]
    have e_mB : jI (jsI (jsI B 4889 i v) (64 * r + 144) (kCn kd 9 i) v) 4889 = kSetr (jI B 4889) (i) (v) := by rw [mI2 (by omega), mIr]
    refine ⟨0, (jsI (jsI (jsI A 194 7 (iN i)) 473 i v) 720 (kCn kd 9 i) v), (jsI (jsI B 4889 i v) (64 * r + 144) (kCn kd 9 i) v), by decide, fun _ => ⟨(jCf_r (jCf_r (jCf_7 hfA) (by unfold kCa; decide)) (by unfold kCa; decide)), (jDf_r (jDf_r hfB hr2 (by unfold kDa; omega)) hr2 (by unfold kDa; omega)), ?_⟩, fun q => absurd rfl q, by rw [mI2 (by omega), mI2 (by omega)], fun d b4 Q => ?_, fun d Q => ?_⟩
    · rw [e_cA, e_ba, e_ho, e_nu, e_di, e_fr, e_to, e_wi, e_co, e_mA, e_ns, e_nl, e_nt, e_cB, e_bb, e_hb, e_nb, e_db, e_fb, e_tb, e_wb, e_cb, e_sB, e_mB]
      exact rel_at hR hr hu1 hu2
    · rw [hJ]
      exact c_it_n hW hkl hK h4 (hk50 d) (fun Q => (hen d Q).trans (by rw [if_neg g]))
    · rw [v2, if_neg g]
      exact Iff.rfl
theorem st_from (hC : jC0 A0 kd N b sz) (hD : jSb B0 r kd N b sz) (h : jMn A0 B0 A B r kd b sz i) (hi : i < N - 1) (hr : kRole kd i = 10) (hdue : kDue kd i) : jStp A0 B0 A B r kd b sz i := by
  obtain ⟨hfA, hfB, hR⟩ := h
  have hR' := hR
  obtain ⟨f1, f2, f3, f4, f5, f6, f7, f8, f9, f10, f11, f12, f13, f14, f15, f16, f17, f18, f19, f20, f21, f22, f23⟩ := hR'
  have hSb := jSb_f hD hfB
  have hT := hD.1.2.1
  have hN2 := hT.2.1
  have hr2 := hD.1.2.2.1
  have hkl := hT.2.2.2.2 i
  have hW : jWd A := jWd_c hfA.2.2.2.1 hC.1
  have hW1 : jWd (jsI A 194 7 (iN i)) := jWd_c rfl hW
  have ht1 : jI (jsI A 194 7 (iN i)) 194 7 = iN i := by rw [mI1, if_pos rfl]
  have h4 : i < 400 := by omega
  have hk50 : ∀ (d : Nat) (Q : jO → jM → Prop), (Ex (d + 5) 50 0 [some (.ref 194), some (.int (iN i))] [] (jsI A 194 7 (iN i)) Q ↔ Q (.inl (some (.ref (64 * kd i + 40)))) (jsI A 194 7 (iN i))) := fun d Q => c_kindA hC (jCf_7 hfA) hN2 (by omega)
  have o579 : jI (jsI A 194 7 (iN i)) 579 = jI A 579 := mI2 (by decide)
  obtain ⟨i1, hK, hJ0⟩ := rinv_10 hr
  have hJ : kAh kd i = 6 := by unfold kAh; rw [if_neg (by omega)]; exact hJ0
  have hnm : jL (jsI A 194 7 (iN i)) 542 i = kNa b (kTs b sz i) (kTl b sz i) := by
    rw [mI3, hfA.2.2.2.2.1 542 (by decide) (by decide) (by decide)]
    exact (hC.2.2 i (by omega)).2.2.1 hK
  have hdu := hdue.2.2.2.1 hr
  have hb2 := f3.2.2
  obtain ⟨v, v1, v2⟩ := d_eo_from hSb hi hr (k := kCn kd 10 i) (by rw [f3.2.1, hdu]) (by omega)
  obtain ⟨q1, q2⟩ := fi_eq hSb hN2 hi hK (by decide) f5 v1
  have hen : ∀ (d : Nat) (Q : jO → jM → Prop), _ := fun d Q => c_en_from (d := d) (Q := Q) hW1 ht1 (by omega) (by rw [o579]; exact f1.1) f1.2.2 (by rw [o579, f3.1, hdu]) (by omega)
  simp only [hnm, mI3, q1] at hen
  by_cases g : v = -1
  · skip
    refine ⟨3, (jsI (jsI (jsI A 194 7 (iN i)) 473 i v) 912 (kCn kd 10 i) v), (jsI (jsI B 4889 i v) (64 * r + 336) (kCn kd 10 i) v), by decide, fun q => absurd q (by decide), fun _ => ⟨(jCf_r (jCf_r (jCf_7 hfA) (by unfold kCa; decide)) (by unfold kCa; decide)), (jDf_r (jDf_r hfB hr2 (by unfold kDa; omega)) hr2 (by unfold kDa; omega)), by rw [mI2 (by decide), mI2 (by decide), mI1, if_pos rfl]⟩, by rw [mI2 (by omega), mI2 (by omega)], fun d b4 Q => ?_, fun d Q => ?_⟩
    · rw [hJ]
      exact c_it_n hW hkl hK h4 (hk50 d) (fun Q => (hen d Q).trans (by rw [if_pos g]))
    · rw [v2, if_pos g]
      exact Iff.rfl
  · obtain ⟨u, hu1, hu2⟩ := q2.resolve_left g
    have e_cA : jI (jsI (jsI (jsI A 194 7 (iN i)) 473 i v) 912 (kCn kd 10 i) v) 579 = jI A 579 := by rw [mI2 (by decide), mI2 (by decide), mI2 (by decide)]
    have e_ba : jI (jsI (jsI (jsI A 194 7 (iN i)) 473 i v) 912 (kCn kd 10 i) v) 660 = jI A 660 := by rw [mI2 (by decide), mI2 (by decide), mI2 (by decide)]
    have e_ho : jI (jsI (jsI (jsI A 194 7 (iN i)) 473 i v) 912 (kCn kd 10 i) v) 720 = jI A 720 := by rw [mI2 (by decide), mI2 (by decide), mI2 (by decide)]
    have e_nu : jI (jsI (jsI (jsI A 194 7 (iN i)) 473 i v) 912 (kCn kd 10 i) v) 784 = jI A 784 := by rw [mI2 (by decide), mI2 (by decide), mI2 (by decide)]
    have e_di : jI (jsI (jsI (jsI A 194 7 (iN i)) 473 i v) 912 (kCn kd 10 i) v) 848 = jI A 848 := by rw [mI2 (by decide), mI2 (by decide), mI2 (by decide)]
    have e_fr : jI (jsI (jsI (jsI A 194 7 (iN i)) 473 i v) 912 (kCn kd 10 i) v) 912 = kSetr (jI A 912) ((kCn kd 10 i)) (v) := by rw [mIr, mI2 (by decide), mI2 (by decide)]
    have e_to : jI (jsI (jsI (jsI A 194 7 (iN i)) 473 i v) 912 (kCn kd 10 i) v) 976 = jI A 976 := by rw [mI2 (by decide), mI2 (by decide), mI2 (by decide)]
    have e_wi : jI (jsI (jsI (jsI A 194 7 (iN i)) 473 i v) 912 (kCn kd 10 i) v) 1040 = jI A 1040 := by rw [mI2 (by decide), mI2 (by decide), mI2 (by decide)]
    have e_co : jI (jsI (jsI (jsI A 194 7 (iN i)) 473 i v) 912 (kCn kd 10 i) v) 1104 = jI A 1104 := by rw [mI2 (by decide), mI2 (by decide), mI2 (by decide)]
    have e_mA : jI (jsI (jsI (jsI A 194 7 (iN i)) 473 i v) 912 (kCn kd 10 i) v) 473 = kSetr (jI A 473) (i) (v) := by rw [mI2 (by decide), mIr, mI2 (by decide)]
    have e_ns : jL (jsI (jsI (jsI A 194 7 (iN i)) 473 i v) 912 (kCn kd 10 i) v) 1565 = jL A 1565 := by rw [mI3, mI3, mI3]
    have e_nl : jL (jsI (jsI (jsI A 194 7 (iN i)) 473 i v) 912 (kCn kd 10 i) v) 1628 = jL A 1628 := by rw [mI3, mI3, mI3]
    have e_nt : jL (jsI (jsI (jsI A 194 7 (iN i)) 473 i v) 912 (kCn kd 10 i) v) 1692 = jL A 1692 := by rw [mI3, mI3, mI3]
    have e_cB : jI (jsI (jsI B 4889 i v) (64 * r + 336) (kCn kd 10 i) v) (64 * r + 11) = jI B (64 * r + 11) := by rw [mI2 (by omega), mI2 (by omega)]
    have e_bb : jI (jsI (jsI B 4889 i v) (64 * r + 336) (kCn kd 10 i) v) (64 * r + 84) = jI B (64 * r + 84) := by rw [mI2 (by omega), mI2 (by omega)]
    have e_hb : jI (jsI (jsI B 4889 i v) (64 * r + 336) (kCn kd 10 i) v) (64 * r + 144) = jI B (64 * r + 144) := by rw [mI2 (by omega), mI2 (by omega)]
    have e_nb : jI (jsI (jsI B 4889 i v) (64 * r + 336) (kCn kd 10 i) v) (64 * r + 208) = jI B (64 * r + 208) := by rw [mI2 (by omega), mI2 (by omega)]
    have e_db : jI (jsI (jsI B 4889 i v) (64 * r + 336) (kCn kd 10 i) v) (64 * r + 272) = jI B (64 * r + 272) := by rw [mI2 (by omega), mI2 (by omega)]
    have e_fb : jI (jsI (jsI B 4889 i v) (64 * r + 336) (kCn kd 10 i) v) (64 * r + 336) = kSetr (jI B (64 * r + 336)) ((kCn kd 10 i)) (v) := by rw [mIr, mI2 (by omega)]
    have e_tb : jI (jsI (jsI B 4889 i v) (64 * r + 336) (kCn kd 10 i) v) (64 * r + 400) = jI B (64 * r + 400) := by rw [mI2 (by omega), mI2 (by omega)]
    have e_wb : jI (jsI (jsI B 4889 i v) (64 * r + 336) (kCn kd 10 i) v) (64 * r + 464) = jI B (64 * r + 464) := by rw [mI2 (by omega), mI2 (by omega)]
    have e_cb : jI (jsI (jsI B 4889 i v) (64 * r + 336) (kCn kd 10 i) v) (64 * r + 528) = jI B (64 * r + 528) := by rw [mI2 (by omega), mI2 (by omega)]
    have e_sB : jI (jsI (jsI B 4889 i v) (64 * r + 336) (kCn kd 10 i) v) (64 * r + 594) = jI B (64 * r + 594) := by rw [mI2 (by omega), mI2 (by omega)]
    have e_mB : jI (jsI (jsI B 4889 i v) (64 * r + 336) (kCn kd 10 i) v) 4889 = kSetr (jI B 4889) (i) (v) := by rw [mI2 (by omega), mIr]
    refine ⟨0, (jsI (jsI (jsI A 194 7 (iN i)) 473 i v) 912 (kCn kd 10 i) v), (jsI (jsI B 4889 i v) (64 * r + 336) (kCn kd 10 i) v), by decide, fun _ => ⟨(jCf_r (jCf_r (jCf_7 hfA) (by unfold kCa; decide)) (by unfold kCa; decide)), (jDf_r (jDf_r hfB hr2 (by unfold kDa; omega)) hr2 (by unfold kDa; omega)), ?_⟩, fun q => absurd rfl q, by rw [mI2 (by omega), mI2 (by omega)], fun d b4 Q => ?_, fun d Q => ?_⟩
    · rw [e_cA, e_ba, e_ho, e_nu, e_di, e_fr, e_to, e_wi, e_co, e_mA, e_ns, e_nl, e_nt, e_cB, e_bb, e_hb, e_nb, e_db, e_fb, e_tb, e_wb, e_cb, e_sB, e_mB]
      exact rel_from hR hr hu1 hu2
    · rw [hJ]
      exact c_it_n hW hkl hK h4 (hk50 d) (fun Q => (hen d Q).trans (by rw [if_neg g]))
    · rw [v2, if_neg g]
      exact Iff.rfl
theorem st_to (hC : jC0 A0 kd N b sz) (hD : jSb B0 r kd N b sz) (h : jMn A0 B0 A B r kd b sz i) (hi : i < N - 1) (hr : kRole kd i = 11) (hdue : kDue kd i) : jStp A0 B0 A B r kd b sz i := by
  obtain ⟨hfA, hfB, hR⟩ := h
  have hR' := hR
  obtain ⟨f1, f2, f3, f4, f5, f6, f7, f8, f9, f10, f11, f12, f13, f14, f15, f16, f17, f18, f19, f20, f21, f22, f23⟩ := hR'
  have hSb := jSb_f hD hfB
  have hT := hD.1.2.1
  have hN2 := hT.2.1
  have hr2 := hD.1.2.2.1
  have hkl := hT.2.2.2.2 i
  have hW : jWd A := jWd_c hfA.2.2.2.1 hC.1
  have hW1 : jWd (jsI A 194 7 (iN i)) := jWd_c rfl hW
  have ht1 : jI (jsI A 194 7 (iN i)) 194 7 = iN i := by rw [mI1, if_pos rfl]
  have h4 : i < 400 := by omega
  have hk50 : ∀ (d : Nat) (Q : jO → jM → Prop), (Ex (d + 5) 50 0 [some (.ref 194), some (.int (iN i))] [] (jsI A 194 7 (iN i)) Q ↔ Q (.inl (some (.ref (64 * kd i + 40)))) (jsI A 194 7 (iN i))) := fun d Q => c_kindA hC (jCf_7 hfA) hN2 (by omega)
  have o579 : jI (jsI A 194 7 (iN i)) 579 = jI A 579 := mI2 (by decide)
  obtain ⟨i1, hK, hJ0⟩ := rinv_11 hr
  have hJ : kAh kd i = 7 := by unfold kAh; rw [if_neg (by omega)]; exact hJ0
  have hnm : jL (jsI A 194 7 (iN i)) 542 i = kNa b (kTs b sz i) (kTl b sz i) := by
    rw [mI3, hfA.2.2.2.2.1 542 (by decide) (by decide) (by decide)]
    exact (hC.2.2 i (by omega)).2.2.1 hK
  obtain ⟨hdu, hdu2⟩ := hdue.2.2.2.2.1 hr
  have hb2 := f3.2.2
  have hfr : jI A 912 (kCn kd 11 i) = jI B (64 * r + 336) (kCn kd 11 i) := (f13 _ (by omega)).1
  have o912 : jI (jsI A 194 7 (iN i)) 912 = jI A 912 := mI2 (by decide)
  obtain ⟨v, v1, v2⟩ := d_eo_to hSb hi hr (k := kCn kd 11 i) (by rw [f3.2.1, hdu]) (by omega)
  obtain ⟨q1, q2⟩ := fi_eq hSb hN2 hi hK (by decide) f5 v1
  have hen : ∀ (d : Nat) (Q : jO → jM → Prop), _ := fun d Q => c_en_to (d := d) (Q := Q) hW1 ht1 (by omega) (by rw [o579]; exact f1.1) f1.2.2 (by rw [o579, f3.1, hdu]) (by omega)
  simp only [hnm, mI3, q1] at hen
  rw [o912] at hen
  by_cases g : v = -1
  · skip
    refine ⟨3, (jsI (jsI (jsI A 194 7 (iN i)) 473 i v) 976 (kCn kd 11 i) v), (jsI (jsI B 4889 i v) (64 * r + 400) (kCn kd 11 i) v), by decide, fun q => absurd q (by decide), fun _ => ⟨(jCf_r (jCf_r (jCf_7 hfA) (by unfold kCa; decide)) (by unfold kCa; decide)), (jDf_r (jDf_r hfB hr2 (by unfold kDa; omega)) hr2 (by unfold kDa; omega)), by rw [mI2 (by decide), mI2 (by decide), mI1, if_pos rfl]⟩, by rw [mI2 (by omega), mI2 (by omega)], fun d b4 Q => ?_, fun d Q => ?_⟩
    · rw [hJ]
      exact c_it_n hW hkl hK h4 (hk50 d) (fun Q => (hen d Q).trans (by rw [if_pos g]))
    · rw [v2, if_pos g]
      exact Iff.rfl
  · obtain ⟨u, hu1, hu2⟩ := q2.resolve_left g
    by_cases g2 : v = jI A 912 (kCn kd 11 i)
    · skip
      refine ⟨7, (jsI (jsI (jsI A 194 7 (iN i)) 473 i v) 976 (kCn kd 11 i) v), (jsI (jsI B 4889 i v) (64 * r + 400) (kCn kd 11 i) v), by decide, fun q => absurd q (by decide), fun _ => ⟨(jCf_r (jCf_r (jCf_7 hfA) (by unfold kCa; decide)) (by unfold kCa; decide)), (jDf_r (jDf_r hfB hr2 (by unfold kDa; omega)) hr2 (by unfold kDa; omega)), by rw [mI2 (by decide), mI2 (by decide), mI1, if_pos rfl]⟩, by rw [mI2 (by omega), mI2 (by omega)], fun d b4 Q => ?_, fun d Q => ?_⟩
      · rw [hJ]
        exact c_it_n hW hkl hK h4 (hk50 d) (fun Q => (hen d Q).trans (by rw [if_neg g, if_pos g2]))
      · rw [v2, if_neg g, ← hfr, if_pos g2]
        exact Iff.rfl
    · skip
      have e_cA : jI (jsI (jsI (jsI A 194 7 (iN i)) 473 i v) 976 (kCn kd 11 i) v) 579 = jI A 579 := by rw [mI2 (by decide), mI2 (by decide), mI2 (by decide)]
      have e_ba : jI (jsI (jsI (jsI A 194 7 (iN i)) 473 i v) 976 (kCn kd 11 i) v) 660 = jI A 660 := by rw [mI2 (by decide), mI2 (by decide), mI2 (by decide)]
      have e_ho : jI (jsI (jsI (jsI A 194 7 (iN i)) 473 i v) 976 (kCn kd 11 i) v) 720 = jI A 720 := by rw [mI2 (by decide), mI2 (by decide), mI2 (by decide)]
      have e_nu : jI (jsI (jsI (jsI A 194 7 (iN i)) 473 i v) 976 (kCn kd 11 i) v) 784 = jI A 784 := by rw [mI2 (by decide), mI2 (by decide), mI2 (by decide)]
      have e_di : jI (jsI (jsI (jsI A 194 7 (iN i)) 473 i v) 976 (kCn kd 11 i) v) 848 = jI A 848 := by rw [mI2 (by decide), mI2 (by decide), mI2 (by decide)]
      have e_fr : jI (jsI (jsI (jsI A 194 7 (iN i)) 473 i v) 976 (kCn kd 11 i) v) 912 = jI A 912 := by rw [mI2 (by decide), mI2 (by decide), mI2 (by decide)]
      have e_to : jI (jsI (jsI (jsI A 194 7 (iN i)) 473 i v) 976 (kCn kd 11 i) v) 976 = kSetr (jI A 976) ((kCn kd 11 i)) (v) := by rw [mIr, mI2 (by decide), mI2 (by decide)]
      have e_wi : jI (jsI (jsI (jsI A 194 7 (iN i)) 473 i v) 976 (kCn kd 11 i) v) 1040 = jI A 1040 := by rw [mI2 (by decide), mI2 (by decide), mI2 (by decide)]
      have e_co : jI (jsI (jsI (jsI A 194 7 (iN i)) 473 i v) 976 (kCn kd 11 i) v) 1104 = jI A 1104 := by rw [mI2 (by decide), mI2 (by decide), mI2 (by decide)]
      have e_mA : jI (jsI (jsI (jsI A 194 7 (iN i)) 473 i v) 976 (kCn kd 11 i) v) 473 = kSetr (jI A 473) (i) (v) := by rw [mI2 (by decide), mIr, mI2 (by decide)]
      have e_ns : jL (jsI (jsI (jsI A 194 7 (iN i)) 473 i v) 976 (kCn kd 11 i) v) 1565 = jL A 1565 := by rw [mI3, mI3, mI3]
      have e_nl : jL (jsI (jsI (jsI A 194 7 (iN i)) 473 i v) 976 (kCn kd 11 i) v) 1628 = jL A 1628 := by rw [mI3, mI3, mI3]
      have e_nt : jL (jsI (jsI (jsI A 194 7 (iN i)) 473 i v) 976 (kCn kd 11 i) v) 1692 = jL A 1692 := by rw [mI3, mI3, mI3]
      have e_cB : jI (jsI (jsI B 4889 i v) (64 * r + 400) (kCn kd 11 i) v) (64 * r + 11) = jI B (64 * r + 11) := by rw [mI2 (by omega), mI2 (by omega)]
      have e_bb : jI (jsI (jsI B 4889 i v) (64 * r + 400) (kCn kd 11 i) v) (64 * r + 84) = jI B (64 * r + 84) := by rw [mI2 (by omega), mI2 (by omega)]
      have e_hb : jI (jsI (jsI B 4889 i v) (64 * r + 400) (kCn kd 11 i) v) (64 * r + 144) = jI B (64 * r + 144) := by rw [mI2 (by omega), mI2 (by omega)]
      have e_nb : jI (jsI (jsI B 4889 i v) (64 * r + 400) (kCn kd 11 i) v) (64 * r + 208) = jI B (64 * r + 208) := by rw [mI2 (by omega), mI2 (by omega)]
      have e_db : jI (jsI (jsI B 4889 i v) (64 * r + 400) (kCn kd 11 i) v) (64 * r + 272) = jI B (64 * r + 272) := by rw [mI2 (by omega), mI2 (by omega)]
      have e_fb : jI (jsI (jsI B 4889 i v) (64 * r + 400) (kCn kd 11 i) v) (64 * r + 336) = jI B (64 * r + 336) := by rw [mI2 (by omega), mI2 (by omega)]
      have e_tb : jI (jsI (jsI B 4889 i v) (64 * r + 400) (kCn kd 11 i) v) (64 * r + 400) = kSetr (jI B (64 * r + 400)) ((kCn kd 11 i)) (v) := by rw [mIr, mI2 (by omega)]
      have e_wb : jI (jsI (jsI B 4889 i v) (64 * r + 400) (kCn kd 11 i) v) (64 * r + 464) = jI B (64 * r + 464) := by rw [mI2 (by omega), mI2 (by omega)]
      have e_cb : jI (jsI (jsI B 4889 i v) (64 * r + 400) (kCn kd 11 i) v) (64 * r + 528) = jI B (64 * r + 528) := by rw [mI2 (by omega), mI2 (by omega)]
      have e_sB : jI (jsI (jsI B 4889 i v) (64 * r + 400) (kCn kd 11 i) v) (64 * r + 594) = jI B (64 * r + 594) := by rw [mI2 (by omega), mI2 (by omega)]
      have e_mB : jI (jsI (jsI B 4889 i v) (64 * r + 400) (kCn kd 11 i) v) 4889 = kSetr (jI B 4889) (i) (v) := by rw [mI2 (by omega), mIr]
      refine ⟨0, (jsI (jsI (jsI A 194 7 (iN i)) 473 i v) 976 (kCn kd 11 i) v), (jsI (jsI B 4889 i v) (64 * r + 400) (kCn kd 11 i) v), by decide, fun _ => ⟨(jCf_r (jCf_r (jCf_7 hfA) (by unfold kCa; decide)) (by unfold kCa; decide)), (jDf_r (jDf_r hfB hr2 (by unfold kDa; omega)) hr2 (by unfold kDa; omega)), ?_⟩, fun q => absurd rfl q, by rw [mI2 (by omega), mI2 (by omega)], fun d b4 Q => ?_, fun d Q => ?_⟩
      · rw [e_cA, e_ba, e_ho, e_nu, e_di, e_fr, e_to, e_wi, e_co, e_mA, e_ns, e_nl, e_nt, e_cB, e_bb, e_hb, e_nb, e_db, e_fb, e_tb, e_wb, e_cb, e_sB, e_mB]
        exact rel_to hR hr hu1 hu2 (fun q => g2 q.symm) (by omega)
      · rw [hJ]
        exact c_it_n hW hkl hK h4 (hk50 d) (fun Q => (hen d Q).trans (by rw [if_neg g, if_neg g2]))
      · rw [v2, if_neg g, ← hfr, if_neg g2]
        exact Iff.rfl
theorem st_shutname (hC : jC0 A0 kd N b sz) (hD : jSb B0 r kd N b sz) (h : jMn A0 B0 A B r kd b sz i) (hi : i < N - 1) (hr : kRole kd i = 12) (hdue : kDue kd i) : jStp A0 B0 A B r kd b sz i := by
  obtain ⟨hfA, hfB, hR⟩ := h
  have hR' := hR
  obtain ⟨f1, f2, f3, f4, f5, f6, f7, f8, f9, f10, f11, f12, f13, f14, f15, f16, f17, f18, f19, f20, f21, f22, f23⟩ := hR'
  have hSb := jSb_f hD hfB
  have hT := hD.1.2.1
  have hN2 := hT.2.1
  have hr2 := hD.1.2.2.1
  have hkl := hT.2.2.2.2 i
  have hW : jWd A := jWd_c hfA.2.2.2.1 hC.1
  have hW1 : jWd (jsI A 194 7 (iN i)) := jWd_c rfl hW
  have ht1 : jI (jsI A 194 7 (iN i)) 194 7 = iN i := by rw [mI1, if_pos rfl]
  have h4 : i < 400 := by omega
  have hk50 : ∀ (d : Nat) (Q : jO → jM → Prop), (Ex (d + 5) 50 0 [some (.ref 194), some (.int (iN i))] [] (jsI A 194 7 (iN i)) Q ↔ Q (.inl (some (.ref (64 * kd i + 40)))) (jsI A 194 7 (iN i))) := fun d Q => c_kindA hC (jCf_7 hfA) hN2 (by omega)
  have o579 : jI (jsI A 194 7 (iN i)) 579 = jI A 579 := mI2 (by decide)
  obtain ⟨i1, hK, hJ0⟩ := rinv_12 hr
  have hJ : kAh kd i = 10 := by unfold kAh; rw [if_neg (by omega)]; exact hJ0
  have hnm : jL (jsI A 194 7 (iN i)) 542 i = kNa b (kTs b sz i) (kTl b sz i) := by
    rw [mI3, hfA.2.2.2.2.1 542 (by decide) (by decide) (by decide)]
    exact (hC.2.2 i (by omega)).2.2.1 hK
  have hdu := hdue.2.2.2.2.2.2.2 hr
  have hb2 := f4.2.2
  obtain ⟨v, v1, v2⟩ := d_eo_shutname hSb hi hr (k := kCn kd 12 i) (by rw [f4.2.1, hdu]) (by omega)
  obtain ⟨q1, q2⟩ := fi_eq hSb hN2 hi hK (by decide) f7 v1
  have hen : ∀ (d : Nat) (Q : jO → jM → Prop), _ := fun d Q => c_en_shut (d := d) (Q := Q) hW1 ht1 (by omega) (by rw [o579]; exact f3.1) f3.2.2
  simp only [hnm, mI3, q1] at hen
  by_cases g : v = -1
  · skip
    refine ⟨3, (jsI (jsI A 194 7 (iN i)) 473 i v), (jsI (jsI B 4889 i v) (64 * r + 594) (kCn kd 12 i) v), by decide, fun q => absurd q (by decide), fun _ => ⟨(jCf_r (jCf_7 hfA) (by unfold kCa; decide)), (jDf_r (jDf_r hfB hr2 (by unfold kDa; omega)) hr2 (by unfold kDa; omega)), by rw [mI2 (by decide), mI1, if_pos rfl]⟩, by rw [mI2 (by omega), mI2 (by omega)], fun d b4 Q => ?_, fun d Q => ?_⟩
    · rw [hJ]
      exact c_it_n hW hkl hK h4 (hk50 d) (fun Q => (hen d Q).trans (by rw [if_pos g]))
    · rw [v2, if_pos g]
      exact Iff.rfl
  · obtain ⟨u, hu1, hu2⟩ := q2.resolve_left g
    have e_cA : jI (jsI (jsI A 194 7 (iN i)) 473 i v) 579 = jI A 579 := by rw [mI2 (by decide), mI2 (by decide)]
    have e_ba : jI (jsI (jsI A 194 7 (iN i)) 473 i v) 660 = jI A 660 := by rw [mI2 (by decide), mI2 (by decide)]
    have e_ho : jI (jsI (jsI A 194 7 (iN i)) 473 i v) 720 = jI A 720 := by rw [mI2 (by decide), mI2 (by decide)]
    have e_nu : jI (jsI (jsI A 194 7 (iN i)) 473 i v) 784 = jI A 784 := by rw [mI2 (by decide), mI2 (by decide)]
    have e_di : jI (jsI (jsI A 194 7 (iN i)) 473 i v) 848 = jI A 848 := by rw [mI2 (by decide), mI2 (by decide)]
    have e_fr : jI (jsI (jsI A 194 7 (iN i)) 473 i v) 912 = jI A 912 := by rw [mI2 (by decide), mI2 (by decide)]
    have e_to : jI (jsI (jsI A 194 7 (iN i)) 473 i v) 976 = jI A 976 := by rw [mI2 (by decide), mI2 (by decide)]
    have e_wi : jI (jsI (jsI A 194 7 (iN i)) 473 i v) 1040 = jI A 1040 := by rw [mI2 (by decide), mI2 (by decide)]
    have e_co : jI (jsI (jsI A 194 7 (iN i)) 473 i v) 1104 = jI A 1104 := by rw [mI2 (by decide), mI2 (by decide)]
    have e_mA : jI (jsI (jsI A 194 7 (iN i)) 473 i v) 473 = kSetr (jI A 473) (i) (v) := by rw [mIr, mI2 (by decide)]
    have e_ns : jL (jsI (jsI A 194 7 (iN i)) 473 i v) 1565 = jL A 1565 := by rw [mI3, mI3]
    have e_nl : jL (jsI (jsI A 194 7 (iN i)) 473 i v) 1628 = jL A 1628 := by rw [mI3, mI3]
    have e_nt : jL (jsI (jsI A 194 7 (iN i)) 473 i v) 1692 = jL A 1692 := by rw [mI3, mI3]
    have e_cB : jI (jsI (jsI B 4889 i v) (64 * r + 594) (kCn kd 12 i) v) (64 * r + 11) = jI B (64 * r + 11) := by rw [mI2 (by omega), mI2 (by omega)]
    have e_bb : jI (jsI (jsI B 4889 i v) (64 * r + 594) (kCn kd 12 i) v) (64 * r + 84) = jI B (64 * r + 84) := by rw [mI2 (by omega), mI2 (by omega)]
    have e_hb : jI (jsI (jsI B 4889 i v) (64 * r + 594) (kCn kd 12 i) v) (64 * r + 144) = jI B (64 * r + 144) := by rw [mI2 (by omega), mI2 (by omega)]
    have e_nb : jI (jsI (jsI B 4889 i v) (64 * r + 594) (kCn kd 12 i) v) (64 * r + 208) = jI B (64 * r + 208) := by rw [mI2 (by omega), mI2 (by omega)]
    have e_db : jI (jsI (jsI B 4889 i v) (64 * r + 594) (kCn kd 12 i) v) (64 * r + 272) = jI B (64 * r + 272) := by rw [mI2 (by omega), mI2 (by omega)]
    have e_fb : jI (jsI (jsI B 4889 i v) (64 * r + 594) (kCn kd 12 i) v) (64 * r + 336) = jI B (64 * r + 336) := by rw [mI2 (by omega), mI2 (by omega)]
    have e_tb : jI (jsI (jsI B 4889 i v) (64 * r + 594) (kCn kd 12 i) v) (64 * r + 400) = jI B (64 * r + 400) := by rw [mI2 (by omega), mI2 (by omega)]
    have e_wb : jI (jsI (jsI B 4889 i v) (64 * r + 594) (kCn kd 12 i) v) (64 * r + 464) = jI B (64 * r + 464) := by rw [mI2 (by omega), mI2 (by omega)]
    have e_cb : jI (jsI (jsI B 4889 i v) (64 * r + 594) (kCn kd 12 i) v) (64 * r + 528) = jI B (64 * r + 528) := by rw [mI2 (by omega), mI2 (by omega)]
    have e_sB : jI (jsI (jsI B 4889 i v) (64 * r + 594) (kCn kd 12 i) v) (64 * r + 594) = kSetr (jI B (64 * r + 594)) ((kCn kd 12 i)) (v) := by rw [mIr, mI2 (by omega)]
    have e_mB : jI (jsI (jsI B 4889 i v) (64 * r + 594) (kCn kd 12 i) v) 4889 = kSetr (jI B 4889) (i) (v) := by rw [mI2 (by omega), mIr]
    refine ⟨0, (jsI (jsI A 194 7 (iN i)) 473 i v), (jsI (jsI B 4889 i v) (64 * r + 594) (kCn kd 12 i) v), by decide, fun _ => ⟨(jCf_r (jCf_7 hfA) (by unfold kCa; decide)), (jDf_r (jDf_r hfB hr2 (by unfold kDa; omega)) hr2 (by unfold kDa; omega)), ?_⟩, fun q => absurd rfl q, by rw [mI2 (by omega), mI2 (by omega)], fun d b4 Q => ?_, fun d Q => ?_⟩
    · rw [e_cA, e_ba, e_ho, e_nu, e_di, e_fr, e_to, e_wi, e_co, e_mA, e_ns, e_nl, e_nt, e_cB, e_bb, e_hb, e_nb, e_db, e_fb, e_tb, e_wb, e_cb, e_sB, e_mB]
      exact rel_shutname hR hr hu1 hu2
    · rw [hJ]
      exact c_it_n hW hkl hK h4 (hk50 d) (fun Q => (hen d Q).trans (by rw [if_neg g]))
    · rw [v2, if_neg g]
      exact Iff.rfl
theorem st_load (hC : jC0 A0 kd N b sz) (hD : jSb B0 r kd N b sz) (h : jMn A0 B0 A B r kd b sz i) (hi : i < N - 1) (hr : kRole kd i = 13) (hdue : kDue kd i) : jStp A0 B0 A B r kd b sz i := by
  obtain ⟨hfA, hfB, hR⟩ := h
  have hR' := hR
  obtain ⟨f1, f2, f3, f4, f5, f6, f7, f8, f9, f10, f11, f12, f13, f14, f15, f16, f17, f18, f19, f20, f21, f22, f23⟩ := hR'
  have hSb := jSb_f hD hfB
  have hT := hD.1.2.1
  have hN2 := hT.2.1
  have hr2 := hD.1.2.2.1
  have hkl := hT.2.2.2.2 i
  have hW : jWd A := jWd_c hfA.2.2.2.1 hC.1
  have hW1 : jWd (jsI A 194 7 (iN i)) := jWd_c rfl hW
  have ht1 : jI (jsI A 194 7 (iN i)) 194 7 = iN i := by rw [mI1, if_pos rfl]
  have h4 : i < 400 := by omega
  have hk50 : ∀ (d : Nat) (Q : jO → jM → Prop), (Ex (d + 5) 50 0 [some (.ref 194), some (.int (iN i))] [] (jsI A 194 7 (iN i)) Q ↔ Q (.inl (some (.ref (64 * kd i + 40)))) (jsI A 194 7 (iN i))) := fun d Q => c_kindA hC (jCf_7 hfA) hN2 (by omega)
  have o579 : jI (jsI A 194 7 (iN i)) 579 = jI A 579 := mI2 (by decide)
  obtain ⟨i1, hK, hJ0⟩ := rinv_13 hr
  have hJ : kAh kd i = 15 := by unfold kAh; rw [if_neg (by omega)]; exact hJ0
  have hnm : jL (jsI A 194 7 (iN i)) 542 i = kNa b (kTs b sz i) (kTl b sz i) := by
    rw [mI3, hfA.2.2.2.2.1 542 (by decide) (by decide) (by decide)]
    exact (hC.2.2 i (by omega)).2.2.1 hK
  obtain ⟨v, v1, v2⟩ := d_eo_load hSb hi hr
  obtain ⟨q1, q2⟩ := fi_eq hSb hN2 hi hK (by decide) f5 v1
  have hen : ∀ (d : Nat) (Q : jO → jM → Prop), _ := fun d Q => c_en_load (d := d) (Q := Q) hW1 ht1 (by omega) (by rw [o579]; exact f1.1) f1.2.2
  simp only [hnm, mI3, q1] at hen
  by_cases g : v = -1
  · skip
    refine ⟨3, (jsI (jsI A 194 7 (iN i)) 473 i v), (jsI B 4889 i v), by decide, fun q => absurd q (by decide), fun _ => ⟨(jCf_r (jCf_7 hfA) (by unfold kCa; decide)), (jDf_r hfB hr2 (by unfold kDa; omega)), by rw [mI2 (by decide), mI1, if_pos rfl]⟩, by rw [mI2 (by omega)], fun d b4 Q => ?_, fun d Q => ?_⟩
    · rw [hJ]
      exact c_it_n hW hkl hK h4 (hk50 d) (fun Q => (hen d Q).trans (by rw [if_pos g]))
    · rw [v2, if_pos g]
      exact Iff.rfl
  · obtain ⟨u, hu1, hu2⟩ := q2.resolve_left g
    have e_cA : jI (jsI (jsI A 194 7 (iN i)) 473 i v) 579 = jI A 579 := by rw [mI2 (by decide), mI2 (by decide)]
    have e_ba : jI (jsI (jsI A 194 7 (iN i)) 473 i v) 660 = jI A 660 := by rw [mI2 (by decide), mI2 (by decide)]
    have e_ho : jI (jsI (jsI A 194 7 (iN i)) 473 i v) 720 = jI A 720 := by rw [mI2 (by decide), mI2 (by decide)]
    have e_nu : jI (jsI (jsI A 194 7 (iN i)) 473 i v) 784 = jI A 784 := by rw [mI2 (by decide), mI2 (by decide)]
    have e_di : jI (jsI (jsI A 194 7 (iN i)) 473 i v) 848 = jI A 848 := by rw [mI2 (by decide), mI2 (by decide)]
    have e_fr : jI (jsI (jsI A 194 7 (iN i)) 473 i v) 912 = jI A 912 := by rw [mI2 (by decide), mI2 (by decide)]
    have e_to : jI (jsI (jsI A 194 7 (iN i)) 473 i v) 976 = jI A 976 := by rw [mI2 (by decide), mI2 (by decide)]
    have e_wi : jI (jsI (jsI A 194 7 (iN i)) 473 i v) 1040 = jI A 1040 := by rw [mI2 (by decide), mI2 (by decide)]
    have e_co : jI (jsI (jsI A 194 7 (iN i)) 473 i v) 1104 = jI A 1104 := by rw [mI2 (by decide), mI2 (by decide)]
    have e_mA : jI (jsI (jsI A 194 7 (iN i)) 473 i v) 473 = kSetr (jI A 473) (i) (v) := by rw [mIr, mI2 (by decide)]
    have e_ns : jL (jsI (jsI A 194 7 (iN i)) 473 i v) 1565 = jL A 1565 := by rw [mI3, mI3]
    have e_nl : jL (jsI (jsI A 194 7 (iN i)) 473 i v) 1628 = jL A 1628 := by rw [mI3, mI3]
    have e_nt : jL (jsI (jsI A 194 7 (iN i)) 473 i v) 1692 = jL A 1692 := by rw [mI3, mI3]
    have e_cB : jI (jsI B 4889 i v) (64 * r + 11) = jI B (64 * r + 11) := by rw [mI2 (by omega)]
    have e_bb : jI (jsI B 4889 i v) (64 * r + 84) = jI B (64 * r + 84) := by rw [mI2 (by omega)]
    have e_hb : jI (jsI B 4889 i v) (64 * r + 144) = jI B (64 * r + 144) := by rw [mI2 (by omega)]
    have e_nb : jI (jsI B 4889 i v) (64 * r + 208) = jI B (64 * r + 208) := by rw [mI2 (by omega)]
    have e_db : jI (jsI B 4889 i v) (64 * r + 272) = jI B (64 * r + 272) := by rw [mI2 (by omega)]
    have e_fb : jI (jsI B 4889 i v) (64 * r + 336) = jI B (64 * r + 336) := by rw [mI2 (by omega)]
    have e_tb : jI (jsI B 4889 i v) (64 * r + 400) = jI B (64 * r + 400) := by rw [mI2 (by omega)]
    have e_wb : jI (jsI B 4889 i v) (64 * r + 464) = jI B (64 * r + 464) := by rw [mI2 (by omega)]
    have e_cb : jI (jsI B 4889 i v) (64 * r + 528) = jI B (64 * r + 528) := by rw [mI2 (by omega)]
    have e_sB : jI (jsI B 4889 i v) (64 * r + 594) = jI B (64 * r + 594) := by rw [mI2 (by omega)]
    have e_mB : jI (jsI B 4889 i v) 4889 = kSetr (jI B 4889) (i) (v) := by rw [mIr]
    refine ⟨0, (jsI (jsI A 194 7 (iN i)) 473 i v), (jsI B 4889 i v), by decide, fun _ => ⟨(jCf_r (jCf_7 hfA) (by unfold kCa; decide)), (jDf_r hfB hr2 (by unfold kDa; omega)), ?_⟩, fun q => absurd rfl q, by rw [mI2 (by omega)], fun d b4 Q => ?_, fun d Q => ?_⟩
    · rw [e_cA, e_ba, e_ho, e_nu, e_di, e_fr, e_to, e_wi, e_co, e_mA, e_ns, e_nl, e_nt, e_cB, e_bb, e_hb, e_nb, e_db, e_fb, e_tb, e_wb, e_cb, e_sB, e_mB]
      exact rel_load hR hr
    · rw [hJ]
      exact c_it_n hW hkl hK h4 (hk50 d) (fun Q => (hen d Q).trans (by rw [if_neg g]))
    · rw [v2, if_neg g]
      exact Iff.rfl
theorem st_free (hC : jC0 A0 kd N b sz) (hD : jSb B0 r kd N b sz) (h : jMn A0 B0 A B r kd b sz i) (hi : i < N - 1) (hr : kRole kd i = 14) (hdue : kDue kd i) : jStp A0 B0 A B r kd b sz i := by
  obtain ⟨hfA, hfB, hR⟩ := h
  have hR' := hR
  obtain ⟨f1, f2, f3, f4, f5, f6, f7, f8, f9, f10, f11, f12, f13, f14, f15, f16, f17, f18, f19, f20, f21, f22, f23⟩ := hR'
  have hSb := jSb_f hD hfB
  have hT := hD.1.2.1
  have hN2 := hT.2.1
  have hr2 := hD.1.2.2.1
  have hkl := hT.2.2.2.2 i
  have hW : jWd A := jWd_c hfA.2.2.2.1 hC.1
  have hW1 : jWd (jsI A 194 7 (iN i)) := jWd_c rfl hW
  have ht1 : jI (jsI A 194 7 (iN i)) 194 7 = iN i := by rw [mI1, if_pos rfl]
  have h4 : i < 400 := by omega
  have hk50 : ∀ (d : Nat) (Q : jO → jM → Prop), (Ex (d + 5) 50 0 [some (.ref 194), some (.int (iN i))] [] (jsI A 194 7 (iN i)) Q ↔ Q (.inl (some (.ref (64 * kd i + 40)))) (jsI A 194 7 (iN i))) := fun d Q => c_kindA hC (jCf_7 hfA) hN2 (by omega)
  have o579 : jI (jsI A 194 7 (iN i)) 579 = jI A 579 := mI2 (by decide)
  obtain ⟨i1, hK, hJ0⟩ := rinv_14 hr
  have hJ : kAh kd i = 14 := by unfold kAh; rw [if_neg (by omega)]; exact hJ0
  have hnm : jL (jsI A 194 7 (iN i)) 542 i = kNa b (kTs b sz i) (kTl b sz i) := by
    rw [mI3, hfA.2.2.2.2.1 542 (by decide) (by decide) (by decide)]
    exact (hC.2.2 i (by omega)).2.2.1 hK
  obtain ⟨v, v1, v2⟩ := d_eo_free hSb hi hr
  obtain ⟨q1, q2⟩ := fi_eq hSb hN2 hi hK (by decide) f7 v1
  have hen : ∀ (d : Nat) (Q : jO → jM → Prop), _ := fun d Q => c_en_free (d := d) (Q := Q) hW1 ht1 (by omega) (by rw [o579]; exact f3.1) f3.2.2
  simp only [hnm, mI3, q1] at hen
  by_cases g : v = -1
  · skip
    refine ⟨3, (jsI (jsI A 194 7 (iN i)) 473 i v), (jsI B 4889 i v), by decide, fun q => absurd q (by decide), fun _ => ⟨(jCf_r (jCf_7 hfA) (by unfold kCa; decide)), (jDf_r hfB hr2 (by unfold kDa; omega)), by rw [mI2 (by decide), mI1, if_pos rfl]⟩, by rw [mI2 (by omega)], fun d b4 Q => ?_, fun d Q => ?_⟩
    · rw [hJ]
      exact c_it_n hW hkl hK h4 (hk50 d) (fun Q => (hen d Q).trans (by rw [if_pos g]))
    · rw [v2, if_pos g]
      exact Iff.rfl
  · obtain ⟨u, hu1, hu2⟩ := q2.resolve_left g
    have e_cA : jI (jsI (jsI A 194 7 (iN i)) 473 i v) 579 = jI A 579 := by rw [mI2 (by decide), mI2 (by decide)]
    have e_ba : jI (jsI (jsI A 194 7 (iN i)) 473 i v) 660 = jI A 660 := by rw [mI2 (by decide), mI2 (by decide)]
    have e_ho : jI (jsI (jsI A 194 7 (iN i)) 473 i v) 720 = jI A 720 := by rw [mI2 (by decide), mI2 (by decide)]
    have e_nu : jI (jsI (jsI A 194 7 (iN i)) 473 i v) 784 = jI A 784 := by rw [mI2 (by decide), mI2 (by decide)]
    have e_di : jI (jsI (jsI A 194 7 (iN i)) 473 i v) 848 = jI A 848 := by rw [mI2 (by decide), mI2 (by decide)]
    have e_fr : jI (jsI (jsI A 194 7 (iN i)) 473 i v) 912 = jI A 912 := by rw [mI2 (by decide), mI2 (by decide)]
    have e_to : jI (jsI (jsI A 194 7 (iN i)) 473 i v) 976 = jI A 976 := by rw [mI2 (by decide), mI2 (by decide)]
    have e_wi : jI (jsI (jsI A 194 7 (iN i)) 473 i v) 1040 = jI A 1040 := by rw [mI2 (by decide), mI2 (by decide)]
    have e_co : jI (jsI (jsI A 194 7 (iN i)) 473 i v) 1104 = jI A 1104 := by rw [mI2 (by decide), mI2 (by decide)]
    have e_mA : jI (jsI (jsI A 194 7 (iN i)) 473 i v) 473 = kSetr (jI A 473) (i) (v) := by rw [mIr, mI2 (by decide)]
    have e_ns : jL (jsI (jsI A 194 7 (iN i)) 473 i v) 1565 = jL A 1565 := by rw [mI3, mI3]
    have e_nl : jL (jsI (jsI A 194 7 (iN i)) 473 i v) 1628 = jL A 1628 := by rw [mI3, mI3]
    have e_nt : jL (jsI (jsI A 194 7 (iN i)) 473 i v) 1692 = jL A 1692 := by rw [mI3, mI3]
    have e_cB : jI (jsI B 4889 i v) (64 * r + 11) = jI B (64 * r + 11) := by rw [mI2 (by omega)]
    have e_bb : jI (jsI B 4889 i v) (64 * r + 84) = jI B (64 * r + 84) := by rw [mI2 (by omega)]
    have e_hb : jI (jsI B 4889 i v) (64 * r + 144) = jI B (64 * r + 144) := by rw [mI2 (by omega)]
    have e_nb : jI (jsI B 4889 i v) (64 * r + 208) = jI B (64 * r + 208) := by rw [mI2 (by omega)]
    have e_db : jI (jsI B 4889 i v) (64 * r + 272) = jI B (64 * r + 272) := by rw [mI2 (by omega)]
    have e_fb : jI (jsI B 4889 i v) (64 * r + 336) = jI B (64 * r + 336) := by rw [mI2 (by omega)]
    have e_tb : jI (jsI B 4889 i v) (64 * r + 400) = jI B (64 * r + 400) := by rw [mI2 (by omega)]
    have e_wb : jI (jsI B 4889 i v) (64 * r + 464) = jI B (64 * r + 464) := by rw [mI2 (by omega)]
    have e_cb : jI (jsI B 4889 i v) (64 * r + 528) = jI B (64 * r + 528) := by rw [mI2 (by omega)]
    have e_sB : jI (jsI B 4889 i v) (64 * r + 594) = jI B (64 * r + 594) := by rw [mI2 (by omega)]
    have e_mB : jI (jsI B 4889 i v) 4889 = kSetr (jI B 4889) (i) (v) := by rw [mIr]
    refine ⟨0, (jsI (jsI A 194 7 (iN i)) 473 i v), (jsI B 4889 i v), by decide, fun _ => ⟨(jCf_r (jCf_7 hfA) (by unfold kCa; decide)), (jDf_r hfB hr2 (by unfold kDa; omega)), ?_⟩, fun q => absurd rfl q, by rw [mI2 (by omega)], fun d b4 Q => ?_, fun d Q => ?_⟩
    · rw [e_cA, e_ba, e_ho, e_nu, e_di, e_fr, e_to, e_wi, e_co, e_mA, e_ns, e_nl, e_nt, e_cB, e_bb, e_hb, e_nb, e_db, e_fb, e_tb, e_wb, e_cb, e_sB, e_mB]
      exact rel_free hR hr hu1 hu2
    · rw [hJ]
      exact c_it_n hW hkl hK h4 (hk50 d) (fun Q => (hen d Q).trans (by rw [if_neg g]))
    · rw [v2, if_neg g]
      exact Iff.rfl
theorem st_idle (hC : jC0 A0 kd N b sz) (hD : jSb B0 r kd N b sz) (h : jMn A0 B0 A B r kd b sz i) (hi : i < N - 1) (hr : kRole kd i = 15) (hdue : kDue kd i) : jStp A0 B0 A B r kd b sz i := by
  obtain ⟨hfA, hfB, hR⟩ := h
  have hR' := hR
  obtain ⟨f1, f2, f3, f4, f5, f6, f7, f8, f9, f10, f11, f12, f13, f14, f15, f16, f17, f18, f19, f20, f21, f22, f23⟩ := hR'
  have hSb := jSb_f hD hfB
  have hT := hD.1.2.1
  have hN2 := hT.2.1
  have hr2 := hD.1.2.2.1
  have hkl := hT.2.2.2.2 i
  have hW : jWd A := jWd_c hfA.2.2.2.1 hC.1
  have hW1 : jWd (jsI A 194 7 (iN i)) := jWd_c rfl hW
  have ht1 : jI (jsI A 194 7 (iN i)) 194 7 = iN i := by rw [mI1, if_pos rfl]
  have h4 : i < 400 := by omega
  have hk50 : ∀ (d : Nat) (Q : jO → jM → Prop), (Ex (d + 5) 50 0 [some (.ref 194), some (.int (iN i))] [] (jsI A 194 7 (iN i)) Q ↔ Q (.inl (some (.ref (64 * kd i + 40)))) (jsI A 194 7 (iN i))) := fun d Q => c_kindA hC (jCf_7 hfA) hN2 (by omega)
  have o579 : jI (jsI A 194 7 (iN i)) 579 = jI A 579 := mI2 (by decide)
  obtain ⟨i1, hK, hJ0⟩ := rinv_15 hr
  have hJ : kAh kd i = 16 := by unfold kAh; rw [if_neg (by omega)]; exact hJ0
  have hnm : jL (jsI A 194 7 (iN i)) 542 i = kNa b (kTs b sz i) (kTl b sz i) := by
    rw [mI3, hfA.2.2.2.2.1 542 (by decide) (by decide) (by decide)]
    exact (hC.2.2 i (by omega)).2.2.1 hK
  obtain ⟨v, v1, v2⟩ := d_eo_idle hSb hi hr
  obtain ⟨q1, q2⟩ := fi_eq hSb hN2 hi hK (by decide) f6 v1
  have hen : ∀ (d : Nat) (Q : jO → jM → Prop), _ := fun d Q => c_en_idle (d := d) (Q := Q) hW1 ht1 (by omega) (by rw [o579]; exact f2.1) f2.2.2
  simp only [hnm, mI3, q1] at hen
  by_cases g : v = -1
  · skip
    refine ⟨3, (jsI (jsI A 194 7 (iN i)) 473 i v), (jsI B 4889 i v), by decide, fun q => absurd q (by decide), fun _ => ⟨(jCf_r (jCf_7 hfA) (by unfold kCa; decide)), (jDf_r hfB hr2 (by unfold kDa; omega)), by rw [mI2 (by decide), mI1, if_pos rfl]⟩, by rw [mI2 (by omega)], fun d b4 Q => ?_, fun d Q => ?_⟩
    · rw [hJ]
      exact c_it_n hW hkl hK h4 (hk50 d) (fun Q => (hen d Q).trans (by rw [if_pos g]))
    · rw [v2, if_pos g]
      exact Iff.rfl
  · obtain ⟨u, hu1, hu2⟩ := q2.resolve_left g
    have e_cA : jI (jsI (jsI A 194 7 (iN i)) 473 i v) 579 = jI A 579 := by rw [mI2 (by decide), mI2 (by decide)]
    have e_ba : jI (jsI (jsI A 194 7 (iN i)) 473 i v) 660 = jI A 660 := by rw [mI2 (by decide), mI2 (by decide)]
    have e_ho : jI (jsI (jsI A 194 7 (iN i)) 473 i v) 720 = jI A 720 := by rw [mI2 (by decide), mI2 (by decide)]
    have e_nu : jI (jsI (jsI A 194 7 (iN i)) 473 i v) 784 = jI A 784 := by rw [mI2 (by decide), mI2 (by decide)]
    have e_di : jI (jsI (jsI A 194 7 (iN i)) 473 i v) 848 = jI A 848 := by rw [mI2 (by decide), mI2 (by decide)]
    have e_fr : jI (jsI (jsI A 194 7 (iN i)) 473 i v) 912 = jI A 912 := by rw [mI2 (by decide), mI2 (by decide)]
    have e_to : jI (jsI (jsI A 194 7 (iN i)) 473 i v) 976 = jI A 976 := by rw [mI2 (by decide), mI2 (by decide)]
    have e_wi : jI (jsI (jsI A 194 7 (iN i)) 473 i v) 1040 = jI A 1040 := by rw [mI2 (by decide), mI2 (by decide)]
    have e_co : jI (jsI (jsI A 194 7 (iN i)) 473 i v) 1104 = jI A 1104 := by rw [mI2 (by decide), mI2 (by decide)]
    have e_mA : jI (jsI (jsI A 194 7 (iN i)) 473 i v) 473 = kSetr (jI A 473) (i) (v) := by rw [mIr, mI2 (by decide)]
    have e_ns : jL (jsI (jsI A 194 7 (iN i)) 473 i v) 1565 = jL A 1565 := by rw [mI3, mI3]
    have e_nl : jL (jsI (jsI A 194 7 (iN i)) 473 i v) 1628 = jL A 1628 := by rw [mI3, mI3]
    have e_nt : jL (jsI (jsI A 194 7 (iN i)) 473 i v) 1692 = jL A 1692 := by rw [mI3, mI3]
    have e_cB : jI (jsI B 4889 i v) (64 * r + 11) = jI B (64 * r + 11) := by rw [mI2 (by omega)]
    have e_bb : jI (jsI B 4889 i v) (64 * r + 84) = jI B (64 * r + 84) := by rw [mI2 (by omega)]
    have e_hb : jI (jsI B 4889 i v) (64 * r + 144) = jI B (64 * r + 144) := by rw [mI2 (by omega)]
    have e_nb : jI (jsI B 4889 i v) (64 * r + 208) = jI B (64 * r + 208) := by rw [mI2 (by omega)]
    have e_db : jI (jsI B 4889 i v) (64 * r + 272) = jI B (64 * r + 272) := by rw [mI2 (by omega)]
    have e_fb : jI (jsI B 4889 i v) (64 * r + 336) = jI B (64 * r + 336) := by rw [mI2 (by omega)]
    have e_tb : jI (jsI B 4889 i v) (64 * r + 400) = jI B (64 * r + 400) := by rw [mI2 (by omega)]
    have e_wb : jI (jsI B 4889 i v) (64 * r + 464) = jI B (64 * r + 464) := by rw [mI2 (by omega)]
    have e_cb : jI (jsI B 4889 i v) (64 * r + 528) = jI B (64 * r + 528) := by rw [mI2 (by omega)]
    have e_sB : jI (jsI B 4889 i v) (64 * r + 594) = jI B (64 * r + 594) := by rw [mI2 (by omega)]
    have e_mB : jI (jsI B 4889 i v) 4889 = kSetr (jI B 4889) (i) (v) := by rw [mIr]
    refine ⟨0, (jsI (jsI A 194 7 (iN i)) 473 i v), (jsI B 4889 i v), by decide, fun _ => ⟨(jCf_r (jCf_7 hfA) (by unfold kCa; decide)), (jDf_r hfB hr2 (by unfold kDa; omega)), ?_⟩, fun q => absurd rfl q, by rw [mI2 (by omega)], fun d b4 Q => ?_, fun d Q => ?_⟩
    · rw [e_cA, e_ba, e_ho, e_nu, e_di, e_fr, e_to, e_wi, e_co, e_mA, e_ns, e_nl, e_nt, e_cB, e_bb, e_hb, e_nb, e_db, e_fb, e_tb, e_wb, e_cb, e_sB, e_mB]
      exact rel_idle hR hr hu1 hu2
    · rw [hJ]
      exact c_it_n hW hkl hK h4 (hk50 d) (fun Q => (hen d Q).trans (by rw [if_neg g]))
    · rw [v2, if_neg g]
      exact Iff.rfl
theorem st_bars (hC : jC0 A0 kd N b sz) (hD : jSb B0 r kd N b sz) (h : jMn A0 B0 A B r kd b sz i) (hi : i < N - 1) (hr : kRole kd i = 5) (hdue : kDue kd i) : jStp A0 B0 A B r kd b sz i := by
  obtain ⟨hfA, hfB, hR⟩ := h
  have hR' := hR
  obtain ⟨f1, f2, f3, f4, f5, f6, f7, f8, f9, f10, f11, f12, f13, f14, f15, f16, f17, f18, f19, f20, f21, f22, f23⟩ := hR'
  have hSb := jSb_f hD hfB
  have hT := hD.1.2.1
  have hN2 := hT.2.1
  have hr2 := hD.1.2.2.1
  have hkl := hT.2.2.2.2 i
  have hW : jWd A := jWd_c hfA.2.2.2.1 hC.1
  have hW1 : jWd (jsI A 194 7 (iN i)) := jWd_c rfl hW
  have ht1 : jI (jsI A 194 7 (iN i)) 194 7 = iN i := by rw [mI1, if_pos rfl]
  have h4 : i < 400 := by omega
  have hk50 : ∀ (d : Nat) (Q : jO → jM → Prop), (Ex (d + 5) 50 0 [some (.ref 194), some (.int (iN i))] [] (jsI A 194 7 (iN i)) Q ↔ Q (.inl (some (.ref (64 * kd i + 40)))) (jsI A 194 7 (iN i))) := fun d Q => c_kindA hC (jCf_7 hfA) hN2 (by omega)
  have o579 : jI (jsI A 194 7 (iN i)) 579 = jI A 579 := mI2 (by decide)
  obtain ⟨i1, hK, hJ0⟩ := rinv_5 hr
  have hJ : kAh kd i = 1 := by unfold kAh; rw [if_neg (by omega)]; exact hJ0
  have hx : jI (jsI A 194 7 (iN i)) 473 i = (kNm b (kTs b sz i) (kTl b sz i)) := by
    rw [mI2 (by decide), f23 i (by omega)]
    exact (hC.2.2 i (by omega)).2.2.2 hK
  have hdu := hdue.1 hr
  have hb2 := f1.2.2
  have v2 := d_eo_bars hSb hi hr (k := kCn kd 5 i) (by rw [f1.2.1, hdu]) (by omega)
  have hen : ∀ (d : Nat) (Q : jO → jM → Prop), _ := fun d Q => c_er_bars (d := d) (Q := Q) (k := kCn kd 5 i) hW1 ht1 (by omega) (by rw [o579, f1.1, hdu]) (by omega)
  rw [hx] at hen
  generalize hxx : (kNm b (kTs b sz i) (kTl b sz i)) = x at *
  by_cases g1 : x < 1
  · skip
    refine ⟨5, (jsI (jsI A 194 7 (iN i)) 660 (kCn kd 5 i) x), (jsI B (64 * r + 84) (kCn kd 5 i) x), by decide, fun q => absurd q (by decide), fun _ => ⟨(jCf_r (jCf_7 hfA) (by unfold kCa; decide)), (jDf_r hfB hr2 (by unfold kDa; omega)), by rw [mI2 (by decide), mI1, if_pos rfl]⟩, by rw [mI2 (by omega)], fun d b4 Q => ?_, fun d Q => ?_⟩
    · rw [hJ]
      exact c_it_q hW hkl hK h4 (hk50 d) (fun Q => (hen d Q).trans (by rw [if_pos g1]))
    · rw [v2, if_pos g1]
      exact Iff.rfl
  · by_cases g2 : (9 : Int32) < x
    · skip
      refine ⟨5, (jsI (jsI A 194 7 (iN i)) 660 (kCn kd 5 i) x), (jsI B (64 * r + 84) (kCn kd 5 i) x), by decide, fun q => absurd q (by decide), fun _ => ⟨(jCf_r (jCf_7 hfA) (by unfold kCa; decide)), (jDf_r hfB hr2 (by unfold kDa; omega)), by rw [mI2 (by decide), mI1, if_pos rfl]⟩, by rw [mI2 (by omega)], fun d b4 Q => ?_, fun d Q => ?_⟩
      · rw [hJ]
        exact c_it_q hW hkl hK h4 (hk50 d) (fun Q => (hen d Q).trans (by rw [if_neg g1, if_pos g2]))
      · rw [v2, if_neg g1, if_pos g2]
        exact Iff.rfl
    · obtain ⟨u, hu1, hu2, hu3⟩ := kRng (m := 9) (by decide) g1 g2
      have e_cA : jI (jsI (jsI A 194 7 (iN i)) 660 (kCn kd 5 i) x) 579 = jI A 579 := by rw [mI2 (by decide), mI2 (by decide)]
      have e_ba : jI (jsI (jsI A 194 7 (iN i)) 660 (kCn kd 5 i) x) 660 = kSetr (jI A 660) ((kCn kd 5 i)) (x) := by rw [mIr, mI2 (by decide)]
      have e_ho : jI (jsI (jsI A 194 7 (iN i)) 660 (kCn kd 5 i) x) 720 = jI A 720 := by rw [mI2 (by decide), mI2 (by decide)]
      have e_nu : jI (jsI (jsI A 194 7 (iN i)) 660 (kCn kd 5 i) x) 784 = jI A 784 := by rw [mI2 (by decide), mI2 (by decide)]
      have e_di : jI (jsI (jsI A 194 7 (iN i)) 660 (kCn kd 5 i) x) 848 = jI A 848 := by rw [mI2 (by decide), mI2 (by decide)]
      have e_fr : jI (jsI (jsI A 194 7 (iN i)) 660 (kCn kd 5 i) x) 912 = jI A 912 := by rw [mI2 (by decide), mI2 (by decide)]
      have e_to : jI (jsI (jsI A 194 7 (iN i)) 660 (kCn kd 5 i) x) 976 = jI A 976 := by rw [mI2 (by decide), mI2 (by decide)]
      have e_wi : jI (jsI (jsI A 194 7 (iN i)) 660 (kCn kd 5 i) x) 1040 = jI A 1040 := by rw [mI2 (by decide), mI2 (by decide)]
      have e_co : jI (jsI (jsI A 194 7 (iN i)) 660 (kCn kd 5 i) x) 1104 = jI A 1104 := by rw [mI2 (by decide), mI2 (by decide)]
      have e_mA : jI (jsI (jsI A 194 7 (iN i)) 660 (kCn kd 5 i) x) 473 = jI A 473 := by rw [mI2 (by decide), mI2 (by decide)]
      have e_ns : jL (jsI (jsI A 194 7 (iN i)) 660 (kCn kd 5 i) x) 1565 = jL A 1565 := by rw [mI3, mI3]
      have e_nl : jL (jsI (jsI A 194 7 (iN i)) 660 (kCn kd 5 i) x) 1628 = jL A 1628 := by rw [mI3, mI3]
      have e_nt : jL (jsI (jsI A 194 7 (iN i)) 660 (kCn kd 5 i) x) 1692 = jL A 1692 := by rw [mI3, mI3]
      have e_cB : jI (jsI B (64 * r + 84) (kCn kd 5 i) x) (64 * r + 11) = jI B (64 * r + 11) := by rw [mI2 (by omega)]
      have e_bb : jI (jsI B (64 * r + 84) (kCn kd 5 i) x) (64 * r + 84) = kSetr (jI B (64 * r + 84)) ((kCn kd 5 i)) (x) := by rw [mIr]
      have e_hb : jI (jsI B (64 * r + 84) (kCn kd 5 i) x) (64 * r + 144) = jI B (64 * r + 144) := by rw [mI2 (by omega)]
      have e_nb : jI (jsI B (64 * r + 84) (kCn kd 5 i) x) (64 * r + 208) = jI B (64 * r + 208) := by rw [mI2 (by omega)]
      have e_db : jI (jsI B (64 * r + 84) (kCn kd 5 i) x) (64 * r + 272) = jI B (64 * r + 272) := by rw [mI2 (by omega)]
      have e_fb : jI (jsI B (64 * r + 84) (kCn kd 5 i) x) (64 * r + 336) = jI B (64 * r + 336) := by rw [mI2 (by omega)]
      have e_tb : jI (jsI B (64 * r + 84) (kCn kd 5 i) x) (64 * r + 400) = jI B (64 * r + 400) := by rw [mI2 (by omega)]
      have e_wb : jI (jsI B (64 * r + 84) (kCn kd 5 i) x) (64 * r + 464) = jI B (64 * r + 464) := by rw [mI2 (by omega)]
      have e_cb : jI (jsI B (64 * r + 84) (kCn kd 5 i) x) (64 * r + 528) = jI B (64 * r + 528) := by rw [mI2 (by omega)]
      have e_sB : jI (jsI B (64 * r + 84) (kCn kd 5 i) x) (64 * r + 594) = jI B (64 * r + 594) := by rw [mI2 (by omega)]
      have e_mB : jI (jsI B (64 * r + 84) (kCn kd 5 i) x) 4889 = jI B 4889 := by rw [mI2 (by omega)]
      refine ⟨0, (jsI (jsI A 194 7 (iN i)) 660 (kCn kd 5 i) x), (jsI B (64 * r + 84) (kCn kd 5 i) x), by decide, fun _ => ⟨(jCf_r (jCf_7 hfA) (by unfold kCa; decide)), (jDf_r hfB hr2 (by unfold kDa; omega)), ?_⟩, fun q => absurd rfl q, by rw [mI2 (by omega)], fun d b4 Q => ?_, fun d Q => ?_⟩
      · rw [e_cA, e_ba, e_ho, e_nu, e_di, e_fr, e_to, e_wi, e_co, e_mA, e_ns, e_nl, e_nt, e_cB, e_bb, e_hb, e_nb, e_db, e_fb, e_tb, e_wb, e_cb, e_sB, e_mB]
        exact rel_bars hR hr hu1 hu2 hu3
      · rw [hJ]
        exact c_it_q hW hkl hK h4 (hk50 d) (fun Q => (hen d Q).trans (by rw [if_neg g1, if_neg g2]))
      · rw [v2, if_neg g1, if_neg g2]
        exact Iff.rfl
theorem st_wires (hC : jC0 A0 kd N b sz) (hD : jSb B0 r kd N b sz) (h : jMn A0 B0 A B r kd b sz i) (hi : i < N - 1) (hr : kRole kd i = 7) (hdue : kDue kd i) : jStp A0 B0 A B r kd b sz i := by
  obtain ⟨hfA, hfB, hR⟩ := h
  have hR' := hR
  obtain ⟨f1, f2, f3, f4, f5, f6, f7, f8, f9, f10, f11, f12, f13, f14, f15, f16, f17, f18, f19, f20, f21, f22, f23⟩ := hR'
  have hSb := jSb_f hD hfB
  have hT := hD.1.2.1
  have hN2 := hT.2.1
  have hr2 := hD.1.2.2.1
  have hkl := hT.2.2.2.2 i
  have hW : jWd A := jWd_c hfA.2.2.2.1 hC.1
  have hW1 : jWd (jsI A 194 7 (iN i)) := jWd_c rfl hW
  have ht1 : jI (jsI A 194 7 (iN i)) 194 7 = iN i := by rw [mI1, if_pos rfl]
  have h4 : i < 400 := by omega
  have hk50 : ∀ (d : Nat) (Q : jO → jM → Prop), (Ex (d + 5) 50 0 [some (.ref 194), some (.int (iN i))] [] (jsI A 194 7 (iN i)) Q ↔ Q (.inl (some (.ref (64 * kd i + 40)))) (jsI A 194 7 (iN i))) := fun d Q => c_kindA hC (jCf_7 hfA) hN2 (by omega)
  have o579 : jI (jsI A 194 7 (iN i)) 579 = jI A 579 := mI2 (by decide)
  obtain ⟨i1, hK, hJ0⟩ := rinv_7 hr
  have hJ : kAh kd i = 8 := by unfold kAh; rw [if_neg (by omega)]; exact hJ0
  have hx : jI (jsI A 194 7 (iN i)) 473 i = (kNm b (kTs b sz i) (kTl b sz i)) := by
    rw [mI2 (by decide), f23 i (by omega)]
    exact (hC.2.2 i (by omega)).2.2.2 hK
  have hdu := hdue.2.2.2.2.2.1 hr
  have hb2 := f3.2.2
  have v2 := d_eo_wires hSb hi hr (k := kCn kd 7 i) (by rw [f3.2.1, hdu]) (by omega)
  have hen : ∀ (d : Nat) (Q : jO → jM → Prop), _ := fun d Q => c_er_wires (d := d) (Q := Q) (k := kCn kd 7 i) hW1 ht1 (by omega) (by rw [o579, f3.1, hdu]) (by omega)
  rw [hx] at hen
  generalize hxx : (kNm b (kTs b sz i) (kTl b sz i)) = x at *
  by_cases g1 : x < 1
  · skip
    refine ⟨5, (jsI (jsI A 194 7 (iN i)) 1040 (kCn kd 7 i) x), (jsI B (64 * r + 464) (kCn kd 7 i) x), by decide, fun q => absurd q (by decide), fun _ => ⟨(jCf_r (jCf_7 hfA) (by unfold kCa; decide)), (jDf_r hfB hr2 (by unfold kDa; omega)), by rw [mI2 (by decide), mI1, if_pos rfl]⟩, by rw [mI2 (by omega)], fun d b4 Q => ?_, fun d Q => ?_⟩
    · rw [hJ]
      exact c_it_q hW hkl hK h4 (hk50 d) (fun Q => (hen d Q).trans (by rw [if_pos g1]))
    · rw [v2, if_pos g1]
      exact Iff.rfl
  · by_cases g2 : (9 : Int32) < x
    · skip
      refine ⟨5, (jsI (jsI A 194 7 (iN i)) 1040 (kCn kd 7 i) x), (jsI B (64 * r + 464) (kCn kd 7 i) x), by decide, fun q => absurd q (by decide), fun _ => ⟨(jCf_r (jCf_7 hfA) (by unfold kCa; decide)), (jDf_r hfB hr2 (by unfold kDa; omega)), by rw [mI2 (by decide), mI1, if_pos rfl]⟩, by rw [mI2 (by omega)], fun d b4 Q => ?_, fun d Q => ?_⟩
      · rw [hJ]
        exact c_it_q hW hkl hK h4 (hk50 d) (fun Q => (hen d Q).trans (by rw [if_neg g1, if_pos g2]))
      · rw [v2, if_neg g1, if_pos g2]
        exact Iff.rfl
    · obtain ⟨u, hu1, hu2, hu3⟩ := kRng (m := 9) (by decide) g1 g2
      have e_cA : jI (jsI (jsI A 194 7 (iN i)) 1040 (kCn kd 7 i) x) 579 = jI A 579 := by rw [mI2 (by decide), mI2 (by decide)]
      have e_ba : jI (jsI (jsI A 194 7 (iN i)) 1040 (kCn kd 7 i) x) 660 = jI A 660 := by rw [mI2 (by decide), mI2 (by decide)]
      have e_ho : jI (jsI (jsI A 194 7 (iN i)) 1040 (kCn kd 7 i) x) 720 = jI A 720 := by rw [mI2 (by decide), mI2 (by decide)]
      have e_nu : jI (jsI (jsI A 194 7 (iN i)) 1040 (kCn kd 7 i) x) 784 = jI A 784 := by rw [mI2 (by decide), mI2 (by decide)]
      have e_di : jI (jsI (jsI A 194 7 (iN i)) 1040 (kCn kd 7 i) x) 848 = jI A 848 := by rw [mI2 (by decide), mI2 (by decide)]
      have e_fr : jI (jsI (jsI A 194 7 (iN i)) 1040 (kCn kd 7 i) x) 912 = jI A 912 := by rw [mI2 (by decide), mI2 (by decide)]
      have e_to : jI (jsI (jsI A 194 7 (iN i)) 1040 (kCn kd 7 i) x) 976 = jI A 976 := by rw [mI2 (by decide), mI2 (by decide)]
      have e_wi : jI (jsI (jsI A 194 7 (iN i)) 1040 (kCn kd 7 i) x) 1040 = kSetr (jI A 1040) ((kCn kd 7 i)) (x) := by rw [mIr, mI2 (by decide)]
      have e_co : jI (jsI (jsI A 194 7 (iN i)) 1040 (kCn kd 7 i) x) 1104 = jI A 1104 := by rw [mI2 (by decide), mI2 (by decide)]
      have e_mA : jI (jsI (jsI A 194 7 (iN i)) 1040 (kCn kd 7 i) x) 473 = jI A 473 := by rw [mI2 (by decide), mI2 (by decide)]
      have e_ns : jL (jsI (jsI A 194 7 (iN i)) 1040 (kCn kd 7 i) x) 1565 = jL A 1565 := by rw [mI3, mI3]
      have e_nl : jL (jsI (jsI A 194 7 (iN i)) 1040 (kCn kd 7 i) x) 1628 = jL A 1628 := by rw [mI3, mI3]
      have e_nt : jL (jsI (jsI A 194 7 (iN i)) 1040 (kCn kd 7 i) x) 1692 = jL A 1692 := by rw [mI3, mI3]
      have e_cB : jI (jsI B (64 * r + 464) (kCn kd 7 i) x) (64 * r + 11) = jI B (64 * r + 11) := by rw [mI2 (by omega)]
      have e_bb : jI (jsI B (64 * r + 464) (kCn kd 7 i) x) (64 * r + 84) = jI B (64 * r + 84) := by rw [mI2 (by omega)]
      have e_hb : jI (jsI B (64 * r + 464) (kCn kd 7 i) x) (64 * r + 144) = jI B (64 * r + 144) := by rw [mI2 (by omega)]
      have e_nb : jI (jsI B (64 * r + 464) (kCn kd 7 i) x) (64 * r + 208) = jI B (64 * r + 208) := by rw [mI2 (by omega)]
      have e_db : jI (jsI B (64 * r + 464) (kCn kd 7 i) x) (64 * r + 272) = jI B (64 * r + 272) := by rw [mI2 (by omega)]
      have e_fb : jI (jsI B (64 * r + 464) (kCn kd 7 i) x) (64 * r + 336) = jI B (64 * r + 336) := by rw [mI2 (by omega)]
      have e_tb : jI (jsI B (64 * r + 464) (kCn kd 7 i) x) (64 * r + 400) = jI B (64 * r + 400) := by rw [mI2 (by omega)]
      have e_wb : jI (jsI B (64 * r + 464) (kCn kd 7 i) x) (64 * r + 464) = kSetr (jI B (64 * r + 464)) ((kCn kd 7 i)) (x) := by rw [mIr]
      have e_cb : jI (jsI B (64 * r + 464) (kCn kd 7 i) x) (64 * r + 528) = jI B (64 * r + 528) := by rw [mI2 (by omega)]
      have e_sB : jI (jsI B (64 * r + 464) (kCn kd 7 i) x) (64 * r + 594) = jI B (64 * r + 594) := by rw [mI2 (by omega)]
      have e_mB : jI (jsI B (64 * r + 464) (kCn kd 7 i) x) 4889 = jI B 4889 := by rw [mI2 (by omega)]
      refine ⟨0, (jsI (jsI A 194 7 (iN i)) 1040 (kCn kd 7 i) x), (jsI B (64 * r + 464) (kCn kd 7 i) x), by decide, fun _ => ⟨(jCf_r (jCf_7 hfA) (by unfold kCa; decide)), (jDf_r hfB hr2 (by unfold kDa; omega)), ?_⟩, fun q => absurd rfl q, by rw [mI2 (by omega)], fun d b4 Q => ?_, fun d Q => ?_⟩
      · rw [e_cA, e_ba, e_ho, e_nu, e_di, e_fr, e_to, e_wi, e_co, e_mA, e_ns, e_nl, e_nt, e_cB, e_bb, e_hb, e_nb, e_db, e_fb, e_tb, e_wb, e_cb, e_sB, e_mB]
        exact rel_wires hR hr hu1 hu2 hu3
      · rw [hJ]
        exact c_it_q hW hkl hK h4 (hk50 d) (fun Q => (hen d Q).trans (by rw [if_neg g1, if_neg g2]))
      · rw [v2, if_neg g1, if_neg g2]
        exact Iff.rfl
theorem st_cost (hC : jC0 A0 kd N b sz) (hD : jSb B0 r kd N b sz) (h : jMn A0 B0 A B r kd b sz i) (hi : i < N - 1) (hr : kRole kd i = 8) (hdue : kDue kd i) : jStp A0 B0 A B r kd b sz i := by
  obtain ⟨hfA, hfB, hR⟩ := h
  have hR' := hR
  obtain ⟨f1, f2, f3, f4, f5, f6, f7, f8, f9, f10, f11, f12, f13, f14, f15, f16, f17, f18, f19, f20, f21, f22, f23⟩ := hR'
  have hSb := jSb_f hD hfB
  have hT := hD.1.2.1
  have hN2 := hT.2.1
  have hr2 := hD.1.2.2.1
  have hkl := hT.2.2.2.2 i
  have hW : jWd A := jWd_c hfA.2.2.2.1 hC.1
  have hW1 : jWd (jsI A 194 7 (iN i)) := jWd_c rfl hW
  have ht1 : jI (jsI A 194 7 (iN i)) 194 7 = iN i := by rw [mI1, if_pos rfl]
  have h4 : i < 400 := by omega
  have hk50 : ∀ (d : Nat) (Q : jO → jM → Prop), (Ex (d + 5) 50 0 [some (.ref 194), some (.int (iN i))] [] (jsI A 194 7 (iN i)) Q ↔ Q (.inl (some (.ref (64 * kd i + 40)))) (jsI A 194 7 (iN i))) := fun d Q => c_kindA hC (jCf_7 hfA) hN2 (by omega)
  have o579 : jI (jsI A 194 7 (iN i)) 579 = jI A 579 := mI2 (by decide)
  obtain ⟨i1, hK, hJ0⟩ := rinv_8 hr
  have hJ : kAh kd i = 9 := by unfold kAh; rw [if_neg (by omega)]; exact hJ0
  have hx : jI (jsI A 194 7 (iN i)) 473 i = (kNm b (kTs b sz i) (kTl b sz i)) := by
    rw [mI2 (by decide), f23 i (by omega)]
    exact (hC.2.2 i (by omega)).2.2.2 hK
  have hdu := hdue.2.2.2.2.2.2.1 hr
  have hb2 := f3.2.2
  have v2 := d_eo_cost hSb hi hr (k := kCn kd 8 i) (by rw [f3.2.1, hdu]) (by omega)
  have hen : ∀ (d : Nat) (Q : jO → jM → Prop), _ := fun d Q => c_er_cost (d := d) (Q := Q) (k := kCn kd 8 i) hW1 ht1 (by omega) (by rw [o579, f3.1, hdu]) (by omega)
  rw [hx] at hen
  generalize hxx : (kNm b (kTs b sz i) (kTl b sz i)) = x at *
  by_cases g1 : x < 1
  · skip
    refine ⟨5, (jsI (jsI A 194 7 (iN i)) 1104 (kCn kd 8 i) x), (jsI B (64 * r + 528) (kCn kd 8 i) x), by decide, fun q => absurd q (by decide), fun _ => ⟨(jCf_r (jCf_7 hfA) (by unfold kCa; decide)), (jDf_r hfB hr2 (by unfold kDa; omega)), by rw [mI2 (by decide), mI1, if_pos rfl]⟩, by rw [mI2 (by omega)], fun d b4 Q => ?_, fun d Q => ?_⟩
    · rw [hJ]
      exact c_it_q hW hkl hK h4 (hk50 d) (fun Q => (hen d Q).trans (by rw [if_pos g1]))
    · rw [v2, if_pos g1]
      exact Iff.rfl
  · by_cases g2 : (99 : Int32) < x
    · skip
      refine ⟨5, (jsI (jsI A 194 7 (iN i)) 1104 (kCn kd 8 i) x), (jsI B (64 * r + 528) (kCn kd 8 i) x), by decide, fun q => absurd q (by decide), fun _ => ⟨(jCf_r (jCf_7 hfA) (by unfold kCa; decide)), (jDf_r hfB hr2 (by unfold kDa; omega)), by rw [mI2 (by decide), mI1, if_pos rfl]⟩, by rw [mI2 (by omega)], fun d b4 Q => ?_, fun d Q => ?_⟩
      · rw [hJ]
        exact c_it_q hW hkl hK h4 (hk50 d) (fun Q => (hen d Q).trans (by rw [if_neg g1, if_pos g2]))
      · rw [v2, if_neg g1, if_pos g2]
        exact Iff.rfl
    · obtain ⟨u, hu1, hu2, hu3⟩ := kRng (m := 99) (by decide) g1 g2
      have e_cA : jI (jsI (jsI A 194 7 (iN i)) 1104 (kCn kd 8 i) x) 579 = jI A 579 := by rw [mI2 (by decide), mI2 (by decide)]
      have e_ba : jI (jsI (jsI A 194 7 (iN i)) 1104 (kCn kd 8 i) x) 660 = jI A 660 := by rw [mI2 (by decide), mI2 (by decide)]
      have e_ho : jI (jsI (jsI A 194 7 (iN i)) 1104 (kCn kd 8 i) x) 720 = jI A 720 := by rw [mI2 (by decide), mI2 (by decide)]
      have e_nu : jI (jsI (jsI A 194 7 (iN i)) 1104 (kCn kd 8 i) x) 784 = jI A 784 := by rw [mI2 (by decide), mI2 (by decide)]
      have e_di : jI (jsI (jsI A 194 7 (iN i)) 1104 (kCn kd 8 i) x) 848 = jI A 848 := by rw [mI2 (by decide), mI2 (by decide)]
      have e_fr : jI (jsI (jsI A 194 7 (iN i)) 1104 (kCn kd 8 i) x) 912 = jI A 912 := by rw [mI2 (by decide), mI2 (by decide)]
      have e_to : jI (jsI (jsI A 194 7 (iN i)) 1104 (kCn kd 8 i) x) 976 = jI A 976 := by rw [mI2 (by decide), mI2 (by decide)]
      have e_wi : jI (jsI (jsI A 194 7 (iN i)) 1104 (kCn kd 8 i) x) 1040 = jI A 1040 := by rw [mI2 (by decide), mI2 (by decide)]
      have e_co : jI (jsI (jsI A 194 7 (iN i)) 1104 (kCn kd 8 i) x) 1104 = kSetr (jI A 1104) ((kCn kd 8 i)) (x) := by rw [mIr, mI2 (by decide)]
      have e_mA : jI (jsI (jsI A 194 7 (iN i)) 1104 (kCn kd 8 i) x) 473 = jI A 473 := by rw [mI2 (by decide), mI2 (by decide)]
      have e_ns : jL (jsI (jsI A 194 7 (iN i)) 1104 (kCn kd 8 i) x) 1565 = jL A 1565 := by rw [mI3, mI3]
      have e_nl : jL (jsI (jsI A 194 7 (iN i)) 1104 (kCn kd 8 i) x) 1628 = jL A 1628 := by rw [mI3, mI3]
      have e_nt : jL (jsI (jsI A 194 7 (iN i)) 1104 (kCn kd 8 i) x) 1692 = jL A 1692 := by rw [mI3, mI3]
      have e_cB : jI (jsI B (64 * r + 528) (kCn kd 8 i) x) (64 * r + 11) = jI B (64 * r + 11) := by rw [mI2 (by omega)]
      have e_bb : jI (jsI B (64 * r + 528) (kCn kd 8 i) x) (64 * r + 84) = jI B (64 * r + 84) := by rw [mI2 (by omega)]
      have e_hb : jI (jsI B (64 * r + 528) (kCn kd 8 i) x) (64 * r + 144) = jI B (64 * r + 144) := by rw [mI2 (by omega)]
      have e_nb : jI (jsI B (64 * r + 528) (kCn kd 8 i) x) (64 * r + 208) = jI B (64 * r + 208) := by rw [mI2 (by omega)]
      have e_db : jI (jsI B (64 * r + 528) (kCn kd 8 i) x) (64 * r + 272) = jI B (64 * r + 272) := by rw [mI2 (by omega)]
      have e_fb : jI (jsI B (64 * r + 528) (kCn kd 8 i) x) (64 * r + 336) = jI B (64 * r + 336) := by rw [mI2 (by omega)]
      have e_tb : jI (jsI B (64 * r + 528) (kCn kd 8 i) x) (64 * r + 400) = jI B (64 * r + 400) := by rw [mI2 (by omega)]
      have e_wb : jI (jsI B (64 * r + 528) (kCn kd 8 i) x) (64 * r + 464) = jI B (64 * r + 464) := by rw [mI2 (by omega)]
      have e_cb : jI (jsI B (64 * r + 528) (kCn kd 8 i) x) (64 * r + 528) = kSetr (jI B (64 * r + 528)) ((kCn kd 8 i)) (x) := by rw [mIr]
      have e_sB : jI (jsI B (64 * r + 528) (kCn kd 8 i) x) (64 * r + 594) = jI B (64 * r + 594) := by rw [mI2 (by omega)]
      have e_mB : jI (jsI B (64 * r + 528) (kCn kd 8 i) x) 4889 = jI B 4889 := by rw [mI2 (by omega)]
      refine ⟨0, (jsI (jsI A 194 7 (iN i)) 1104 (kCn kd 8 i) x), (jsI B (64 * r + 528) (kCn kd 8 i) x), by decide, fun _ => ⟨(jCf_r (jCf_7 hfA) (by unfold kCa; decide)), (jDf_r hfB hr2 (by unfold kDa; omega)), ?_⟩, fun q => absurd rfl q, by rw [mI2 (by omega)], fun d b4 Q => ?_, fun d Q => ?_⟩
      · rw [e_cA, e_ba, e_ho, e_nu, e_di, e_fr, e_to, e_wi, e_co, e_mA, e_ns, e_nl, e_nt, e_cB, e_bb, e_hb, e_nb, e_db, e_fb, e_tb, e_wb, e_cb, e_sB, e_mB]
        exact rel_cost hR hr hu1 hu2 hu3
      · rw [hJ]
        exact c_it_q hW hkl hK h4 (hk50 d) (fun Q => (hen d Q).trans (by rw [if_neg g1, if_neg g2]))
      · rw [v2, if_neg g1, if_neg g2]
        exact Iff.rfl
theorem st_dials (hC : jC0 A0 kd N b sz) (hD : jSb B0 r kd N b sz) (h : jMn A0 B0 A B r kd b sz i) (hi : i < N - 1) (hr : kRole kd i = 6) (hdue : kDue kd i) (hg1 : 1 ≤ kTl b sz i) (hg2 : kTl b sz i ≤ 6) : jStp A0 B0 A B r kd b sz i := by
  obtain ⟨hfA, hfB, hR⟩ := h
  have hR' := hR
  obtain ⟨f1, f2, f3, f4, f5, f6, f7, f8, f9, f10, f11, f12, f13, f14, f15, f16, f17, f18, f19, f20, f21, f22, f23⟩ := hR'
  have hSb := jSb_f hD hfB
  have hT := hD.1.2.1
  have hN2 := hT.2.1
  have hr2 := hD.1.2.2.1
  have hkl := hT.2.2.2.2 i
  have hW : jWd A := jWd_c hfA.2.2.2.1 hC.1
  have hW1 : jWd (jsI A 194 7 (iN i)) := jWd_c rfl hW
  have ht1 : jI (jsI A 194 7 (iN i)) 194 7 = iN i := by rw [mI1, if_pos rfl]
  have h4 : i < 400 := by omega
  have hk50 : ∀ (d : Nat) (Q : jO → jM → Prop), (Ex (d + 5) 50 0 [some (.ref 194), some (.int (iN i))] [] (jsI A 194 7 (iN i)) Q ↔ Q (.inl (some (.ref (64 * kd i + 40)))) (jsI A 194 7 (iN i))) := fun d Q => c_kindA hC (jCf_7 hfA) hN2 (by omega)
  have o579 : jI (jsI A 194 7 (iN i)) 579 = jI A 579 := mI2 (by decide)
  obtain ⟨i1, hK, hJ0⟩ := rinv_6 hr
  have hJ : kAh kd i = 4 := by unfold kAh; rw [if_neg (by omega)]; exact hJ0
  have hx : jI (jsI A 194 7 (iN i)) 473 i = (kNm b (kTs b sz i) (kTl b sz i)) := by
    rw [mI2 (by decide), f23 i (by omega)]
    exact (hC.2.2 i (by omega)).2.2.2 hK
  have hdu := hdue.2.2.1 hr
  have hb2 := f2.2.2
  have v2 := d_eo_dials hSb hi hr (k := kCn kd 6 i) (g := fun l => (jI B (64 * r + 272) l).toNatClampNeg) (by rw [f2.2.1, hdu]) (by omega) (fun l hl => by
    obtain ⟨e1, u, u1, u2, u3⟩ := f11 l hl
    rw [← e1, u3, iN_cl (by omega)]
    exact ⟨rfl, by omega⟩)
  have hen : ∀ (d : Nat) (Q : jO → jM → Prop), _ := fun d Q => c_er_dials (d := d) (Q := Q) (k := kCn kd 6 i) hW1 ht1 (by omega) (by rw [o579, f2.1, hdu]) (by omega)
  have hln : jI (jsI A 194 7 (iN i)) 409 i = iN (kTl b sz i) := by
    rw [mI2 (by decide), hfA.1 409 (by decide) (by decide) (by unfold kCa; decide)]
    exact (hC.2.2 i (by omega)).2.1
  have o784 : jI (jsI A 194 7 (iN i)) 784 = jI A 784 := mI2 (by decide)
  have o848 : jI (jsI A 194 7 (iN i)) 848 = jI A 848 := mI2 (by decide)
  rw [hx, hln, o784, o848] at hen
  generalize hxx : (kNm b (kTs b sz i) (kTl b sz i)) = x at *
  generalize hll : kTl b sz i = w at *
  have hcg : jfst (fun l => decide (kHp (jI B (64 * r + 208)) (jI B (64 * r + 272)) x (iN w) l)) 0 (kCn kd 6 i - 0) = jfst (fun l => decide (kHp (jI A 784) (jI A 848) x (iN w) l)) 0 (kCn kd 6 i - 0) := jfst_congr _ _ fun j _ hj => by
    have h1 := f10 j (by omega)
    have h2 := (f11 j (by omega)).1
    refine decide_eq_decide.mpr ?_
    unfold kHp
    rw [h1, h2]
  rw [hcg] at v2
  by_cases g : jfst (fun l => decide (kHp (jI A 784) (jI A 848) x (iN w) l)) 0 (kCn kd 6 i - 0) = -1
  · skip
    have e_cA : jI (jsI (jsI (jsI A 194 7 (iN i)) 784 (kCn kd 6 i) x) 848 (kCn kd 6 i) (iN w)) 579 = jI A 579 := by rw [mI2 (by decide), mI2 (by decide), mI2 (by decide)]
    have e_ba : jI (jsI (jsI (jsI A 194 7 (iN i)) 784 (kCn kd 6 i) x) 848 (kCn kd 6 i) (iN w)) 660 = jI A 660 := by rw [mI2 (by decide), mI2 (by decide), mI2 (by decide)]
    have e_ho : jI (jsI (jsI (jsI A 194 7 (iN i)) 784 (kCn kd 6 i) x) 848 (kCn kd 6 i) (iN w)) 720 = jI A 720 := by rw [mI2 (by decide), mI2 (by decide), mI2 (by decide)]
    have e_nu : jI (jsI (jsI (jsI A 194 7 (iN i)) 784 (kCn kd 6 i) x) 848 (kCn kd 6 i) (iN w)) 784 = kSetr (jI A 784) ((kCn kd 6 i)) (x) := by rw [mI2 (by decide), mIr, mI2 (by decide)]
    have e_di : jI (jsI (jsI (jsI A 194 7 (iN i)) 784 (kCn kd 6 i) x) 848 (kCn kd 6 i) (iN w)) 848 = kSetr (jI A 848) ((kCn kd 6 i)) ((iN w)) := by rw [mIr, mI2 (by decide), mI2 (by decide)]
    have e_fr : jI (jsI (jsI (jsI A 194 7 (iN i)) 784 (kCn kd 6 i) x) 848 (kCn kd 6 i) (iN w)) 912 = jI A 912 := by rw [mI2 (by decide), mI2 (by decide), mI2 (by decide)]
    have e_to : jI (jsI (jsI (jsI A 194 7 (iN i)) 784 (kCn kd 6 i) x) 848 (kCn kd 6 i) (iN w)) 976 = jI A 976 := by rw [mI2 (by decide), mI2 (by decide), mI2 (by decide)]
    have e_wi : jI (jsI (jsI (jsI A 194 7 (iN i)) 784 (kCn kd 6 i) x) 848 (kCn kd 6 i) (iN w)) 1040 = jI A 1040 := by rw [mI2 (by decide), mI2 (by decide), mI2 (by decide)]
    have e_co : jI (jsI (jsI (jsI A 194 7 (iN i)) 784 (kCn kd 6 i) x) 848 (kCn kd 6 i) (iN w)) 1104 = jI A 1104 := by rw [mI2 (by decide), mI2 (by decide), mI2 (by decide)]
    have e_mA : jI (jsI (jsI (jsI A 194 7 (iN i)) 784 (kCn kd 6 i) x) 848 (kCn kd 6 i) (iN w)) 473 = jI A 473 := by rw [mI2 (by decide), mI2 (by decide), mI2 (by decide)]
    have e_ns : jL (jsI (jsI (jsI A 194 7 (iN i)) 784 (kCn kd 6 i) x) 848 (kCn kd 6 i) (iN w)) 1565 = jL A 1565 := by rw [mI3, mI3, mI3]
    have e_nl : jL (jsI (jsI (jsI A 194 7 (iN i)) 784 (kCn kd 6 i) x) 848 (kCn kd 6 i) (iN w)) 1628 = jL A 1628 := by rw [mI3, mI3, mI3]
    have e_nt : jL (jsI (jsI (jsI A 194 7 (iN i)) 784 (kCn kd 6 i) x) 848 (kCn kd 6 i) (iN w)) 1692 = jL A 1692 := by rw [mI3, mI3, mI3]
    have e_cB : jI (jsI (jsI B (64 * r + 208) (kCn kd 6 i) x) (64 * r + 272) (kCn kd 6 i) (iN w)) (64 * r + 11) = jI B (64 * r + 11) := by rw [mI2 (by omega), mI2 (by omega)]
    have e_bb : jI (jsI (jsI B (64 * r + 208) (kCn kd 6 i) x) (64 * r + 272) (kCn kd 6 i) (iN w)) (64 * r + 84) = jI B (64 * r + 84) := by rw [mI2 (by omega), mI2 (by omega)]
    have e_hb : jI (jsI (jsI B (64 * r + 208) (kCn kd 6 i) x) (64 * r + 272) (kCn kd 6 i) (iN w)) (64 * r + 144) = jI B (64 * r + 144) := by rw [mI2 (by omega), mI2 (by omega)]
    have e_nb : jI (jsI (jsI B (64 * r + 208) (kCn kd 6 i) x) (64 * r + 272) (kCn kd 6 i) (iN w)) (64 * r + 208) = kSetr (jI B (64 * r + 208)) ((kCn kd 6 i)) (x) := by rw [mI2 (by omega), mIr]
    have e_db : jI (jsI (jsI B (64 * r + 208) (kCn kd 6 i) x) (64 * r + 272) (kCn kd 6 i) (iN w)) (64 * r + 272) = kSetr (jI B (64 * r + 272)) ((kCn kd 6 i)) ((iN w)) := by rw [mIr, mI2 (by omega)]
    have e_fb : jI (jsI (jsI B (64 * r + 208) (kCn kd 6 i) x) (64 * r + 272) (kCn kd 6 i) (iN w)) (64 * r + 336) = jI B (64 * r + 336) := by rw [mI2 (by omega), mI2 (by omega)]
    have e_tb : jI (jsI (jsI B (64 * r + 208) (kCn kd 6 i) x) (64 * r + 272) (kCn kd 6 i) (iN w)) (64 * r + 400) = jI B (64 * r + 400) := by rw [mI2 (by omega), mI2 (by omega)]
    have e_wb : jI (jsI (jsI B (64 * r + 208) (kCn kd 6 i) x) (64 * r + 272) (kCn kd 6 i) (iN w)) (64 * r + 464) = jI B (64 * r + 464) := by rw [mI2 (by omega), mI2 (by omega)]
    have e_cb : jI (jsI (jsI B (64 * r + 208) (kCn kd 6 i) x) (64 * r + 272) (kCn kd 6 i) (iN w)) (64 * r + 528) = jI B (64 * r + 528) := by rw [mI2 (by omega), mI2 (by omega)]
    have e_sB : jI (jsI (jsI B (64 * r + 208) (kCn kd 6 i) x) (64 * r + 272) (kCn kd 6 i) (iN w)) (64 * r + 594) = jI B (64 * r + 594) := by rw [mI2 (by omega), mI2 (by omega)]
    have e_mB : jI (jsI (jsI B (64 * r + 208) (kCn kd 6 i) x) (64 * r + 272) (kCn kd 6 i) (iN w)) 4889 = jI B 4889 := by rw [mI2 (by omega), mI2 (by omega)]
    refine ⟨0, (jsI (jsI (jsI A 194 7 (iN i)) 784 (kCn kd 6 i) x) 848 (kCn kd 6 i) (iN w)), (jsI (jsI B (64 * r + 208) (kCn kd 6 i) x) (64 * r + 272) (kCn kd 6 i) (iN w)), by decide, fun _ => ⟨(jCf_r (jCf_r (jCf_7 hfA) (by unfold kCa; decide)) (by unfold kCa; decide)), (jDf_r (jDf_r hfB hr2 (by unfold kDa; omega)) hr2 (by unfold kDa; omega)), ?_⟩, fun q => absurd rfl q, by rw [mI2 (by omega), mI2 (by omega)], fun d b4 Q => ?_, fun d Q => ?_⟩
    · rw [e_cA, e_ba, e_ho, e_nu, e_di, e_fr, e_to, e_wi, e_co, e_mA, e_ns, e_nl, e_nt, e_cB, e_bb, e_hb, e_nb, e_db, e_fb, e_tb, e_wb, e_cb, e_sB, e_mB]
      exact rel_dials hR hr hg1 hg2 rfl (fun l hl => of_decide_eq_false ((jfst_no (p := fun l => decide (kHp (jI A 784) (jI A 848) x (iN w) l)) _ _ (by omega)).mp g l (Nat.zero_le _) (by omega)))
    · rw [hJ]
      exact c_it_q hW hkl hK h4 (hk50 d) (fun Q => (hen d Q).trans (by rw [if_pos g]))
    · rw [v2, if_pos g]
      exact Iff.rfl
  · skip
    refine ⟨6, (jsI A 194 7 (iN i)), (jsI (jsI B (64 * r + 208) (kCn kd 6 i) x) (64 * r + 272) (kCn kd 6 i) (iN w)), by decide, fun q => absurd q (by decide), fun _ => ⟨(jCf_7 hfA), (jDf_r (jDf_r hfB hr2 (by unfold kDa; omega)) hr2 (by unfold kDa; omega)), by rw [mI1, if_pos rfl]⟩, by rw [mI2 (by omega), mI2 (by omega)], fun d b4 Q => ?_, fun d Q => ?_⟩
    · rw [hJ]
      exact c_it_q hW hkl hK h4 (hk50 d) (fun Q => (hen d Q).trans (by rw [if_neg g]))
    · rw [v2, if_neg g]
      exact Iff.rfl
theorem st_shut (hC : jC0 A0 kd N b sz) (hD : jSb B0 r kd N b sz) (h : jMn A0 B0 A B r kd b sz i) (hi : i < N - 1) (hr : kRole kd i = 4) (hdue : kDue kd i) : jStp A0 B0 A B r kd b sz i := by
  obtain ⟨hfA, hfB, hR⟩ := h
  have hR' := hR
  obtain ⟨f1, f2, f3, f4, f5, f6, f7, f8, f9, f10, f11, f12, f13, f14, f15, f16, f17, f18, f19, f20, f21, f22, f23⟩ := hR'
  have hSb := jSb_f hD hfB
  have hT := hD.1.2.1
  have hN2 := hT.2.1
  have hr2 := hD.1.2.2.1
  have hkl := hT.2.2.2.2 i
  have hW : jWd A := jWd_c hfA.2.2.2.1 hC.1
  have hW1 : jWd (jsI A 194 7 (iN i)) := jWd_c rfl hW
  have ht1 : jI (jsI A 194 7 (iN i)) 194 7 = iN i := by rw [mI1, if_pos rfl]
  have h4 : i < 400 := by omega
  have hk50 : ∀ (d : Nat) (Q : jO → jM → Prop), (Ex (d + 5) 50 0 [some (.ref 194), some (.int (iN i))] [] (jsI A 194 7 (iN i)) Q ↔ Q (.inl (some (.ref (64 * kd i + 40)))) (jsI A 194 7 (iN i))) := fun d Q => c_kindA hC (jCf_7 hfA) hN2 (by omega)
  have o579 : jI (jsI A 194 7 (iN i)) 579 = jI A 579 := mI2 (by decide)
  have hK : kd i = 10 := by
    unfold kRole at hr
    by_cases a : kd i = 37
    · rw [if_pos a] at hr
      repeat' split at hr
      all_goals first | exact absurd hr (by decide) | contradiction
    · rw [if_neg a] at hr
      by_cases a2 : kd i = 38
      · rw [if_pos a2] at hr
        repeat' split at hr
        all_goals first | exact absurd hr (by decide) | contradiction
      · rw [if_neg a2] at hr
        by_cases a3 : kd i = 10
        · exact a3
        · rw [if_neg a3] at hr
          exact absurd hr (by decide)
  obtain ⟨J, hJ⟩ : ∃ J, kAh kd i = J := ⟨_, rfl⟩
  have v2 := d_eo_shut hSb hi hr f4.2.1 f4.2.2
  have hen : ∀ (d : Nat) (Q : jO → jM → Prop), _ := fun d Q => c_eshut (d := d) (Q := Q) hW1 (by rw [o579]; exact f4.1) f4.2.2
  by_cases c : kCn kd 4 i < 12
  · skip
    have e_cA : jI (jsI (jsI A 194 7 (iN i)) 579 3 (iN (kCn kd 4 i + 1))) 579 = kSetr (jI A 579) (3) ((iN (kCn kd 4 i + 1))) := by rw [mIr, mI2 (by decide)]
    have e_ba : jI (jsI (jsI A 194 7 (iN i)) 579 3 (iN (kCn kd 4 i + 1))) 660 = jI A 660 := by rw [mI2 (by decide), mI2 (by decide)]
    have e_ho : jI (jsI (jsI A 194 7 (iN i)) 579 3 (iN (kCn kd 4 i + 1))) 720 = jI A 720 := by rw [mI2 (by decide), mI2 (by decide)]
    have e_nu : jI (jsI (jsI A 194 7 (iN i)) 579 3 (iN (kCn kd 4 i + 1))) 784 = jI A 784 := by rw [mI2 (by decide), mI2 (by decide)]
    have e_di : jI (jsI (jsI A 194 7 (iN i)) 579 3 (iN (kCn kd 4 i + 1))) 848 = jI A 848 := by rw [mI2 (by decide), mI2 (by decide)]
    have e_fr : jI (jsI (jsI A 194 7 (iN i)) 579 3 (iN (kCn kd 4 i + 1))) 912 = jI A 912 := by rw [mI2 (by decide), mI2 (by decide)]
    have e_to : jI (jsI (jsI A 194 7 (iN i)) 579 3 (iN (kCn kd 4 i + 1))) 976 = jI A 976 := by rw [mI2 (by decide), mI2 (by decide)]
    have e_wi : jI (jsI (jsI A 194 7 (iN i)) 579 3 (iN (kCn kd 4 i + 1))) 1040 = jI A 1040 := by rw [mI2 (by decide), mI2 (by decide)]
    have e_co : jI (jsI (jsI A 194 7 (iN i)) 579 3 (iN (kCn kd 4 i + 1))) 1104 = jI A 1104 := by rw [mI2 (by decide), mI2 (by decide)]
    have e_mA : jI (jsI (jsI A 194 7 (iN i)) 579 3 (iN (kCn kd 4 i + 1))) 473 = jI A 473 := by rw [mI2 (by decide), mI2 (by decide)]
    have e_ns : jL (jsI (jsI A 194 7 (iN i)) 579 3 (iN (kCn kd 4 i + 1))) 1565 = jL A 1565 := by rw [mI3, mI3]
    have e_nl : jL (jsI (jsI A 194 7 (iN i)) 579 3 (iN (kCn kd 4 i + 1))) 1628 = jL A 1628 := by rw [mI3, mI3]
    have e_nt : jL (jsI (jsI A 194 7 (iN i)) 579 3 (iN (kCn kd 4 i + 1))) 1692 = jL A 1692 := by rw [mI3, mI3]
    have e_cB : jI (jsI B (64 * r + 11) 11 (iN (kCn kd 4 i + 1))) (64 * r + 11) = kSetr (jI B (64 * r + 11)) (11) ((iN (kCn kd 4 i + 1))) := by rw [mIr]
    have e_bb : jI (jsI B (64 * r + 11) 11 (iN (kCn kd 4 i + 1))) (64 * r + 84) = jI B (64 * r + 84) := by rw [mI2 (by omega)]
    have e_hb : jI (jsI B (64 * r + 11) 11 (iN (kCn kd 4 i + 1))) (64 * r + 144) = jI B (64 * r + 144) := by rw [mI2 (by omega)]
    have e_nb : jI (jsI B (64 * r + 11) 11 (iN (kCn kd 4 i + 1))) (64 * r + 208) = jI B (64 * r + 208) := by rw [mI2 (by omega)]
    have e_db : jI (jsI B (64 * r + 11) 11 (iN (kCn kd 4 i + 1))) (64 * r + 272) = jI B (64 * r + 272) := by rw [mI2 (by omega)]
    have e_fb : jI (jsI B (64 * r + 11) 11 (iN (kCn kd 4 i + 1))) (64 * r + 336) = jI B (64 * r + 336) := by rw [mI2 (by omega)]
    have e_tb : jI (jsI B (64 * r + 11) 11 (iN (kCn kd 4 i + 1))) (64 * r + 400) = jI B (64 * r + 400) := by rw [mI2 (by omega)]
    have e_wb : jI (jsI B (64 * r + 11) 11 (iN (kCn kd 4 i + 1))) (64 * r + 464) = jI B (64 * r + 464) := by rw [mI2 (by omega)]
    have e_cb : jI (jsI B (64 * r + 11) 11 (iN (kCn kd 4 i + 1))) (64 * r + 528) = jI B (64 * r + 528) := by rw [mI2 (by omega)]
    have e_sB : jI (jsI B (64 * r + 11) 11 (iN (kCn kd 4 i + 1))) (64 * r + 594) = jI B (64 * r + 594) := by rw [mI2 (by omega)]
    have e_mB : jI (jsI B (64 * r + 11) 11 (iN (kCn kd 4 i + 1))) 4889 = jI B 4889 := by rw [mI2 (by omega)]
    refine ⟨0, (jsI (jsI A 194 7 (iN i)) 579 3 (iN (kCn kd 4 i + 1))), (jsI B (64 * r + 11) 11 (iN (kCn kd 4 i + 1))), by decide, fun _ => ⟨(jCf_c (jCf_7 hfA) (by decide)), (jDf_c hfB hr2 (by decide)), ?_⟩, fun q => absurd rfl q, by rw [mI2 (by omega)], fun d b4 Q => ?_, fun d Q => ?_⟩
    · rw [e_cA, e_ba, e_ho, e_nu, e_di, e_fr, e_to, e_wi, e_co, e_mA, e_ns, e_nl, e_nt, e_cB, e_bb, e_hb, e_nb, e_db, e_fb, e_tb, e_wb, e_cb, e_sB, e_mB]
      exact rel_shut hR hr c
    · rw [hJ]
      exact c_it_s hW hkl hK h4 (hk50 d) (fun Q => (hen (d + 5) Q).trans (by rw [if_pos c]))
    · rw [v2, if_pos c]
      exact Iff.rfl
  · skip
    refine ⟨4, (jsI A 194 7 (iN i)), B, by decide, fun q => absurd q (by decide), fun _ => ⟨(jCf_7 hfA), hfB, by rw [mI1, if_pos rfl]⟩, rfl, fun d b4 Q => ?_, fun d Q => ?_⟩
    · rw [hJ]
      exact c_it_s hW hkl hK h4 (hk50 d) (fun Q => (hen (d + 5) Q).trans (by rw [if_neg c]))
    · rw [v2, if_neg c]
      exact Iff.rfl
theorem st_none (hC : jC0 A0 kd N b sz) (hD : jSb B0 r kd N b sz) (h : jMn A0 B0 A B r kd b sz i) (hi : i < N - 1) (hr : kRole kd i = 0) (hdue : kDue kd i) : jStp A0 B0 A B r kd b sz i := by
  obtain ⟨hfA, hfB, hR⟩ := h
  have hR' := hR
  obtain ⟨f1, f2, f3, f4, f5, f6, f7, f8, f9, f10, f11, f12, f13, f14, f15, f16, f17, f18, f19, f20, f21, f22, f23⟩ := hR'
  have hSb := jSb_f hD hfB
  have hT := hD.1.2.1
  have hN2 := hT.2.1
  have hr2 := hD.1.2.2.1
  have hkl := hT.2.2.2.2 i
  have hW : jWd A := jWd_c hfA.2.2.2.1 hC.1
  have hW1 : jWd (jsI A 194 7 (iN i)) := jWd_c rfl hW
  have ht1 : jI (jsI A 194 7 (iN i)) 194 7 = iN i := by rw [mI1, if_pos rfl]
  have h4 : i < 400 := by omega
  have hk50 : ∀ (d : Nat) (Q : jO → jM → Prop), (Ex (d + 5) 50 0 [some (.ref 194), some (.int (iN i))] [] (jsI A 194 7 (iN i)) Q ↔ Q (.inl (some (.ref (64 * kd i + 40)))) (jsI A 194 7 (iN i))) := fun d Q => c_kindA hC (jCf_7 hfA) hN2 (by omega)
  have o579 : jI (jsI A 194 7 (iN i)) 579 = jI A 579 := mI2 (by decide)
  obtain ⟨J, hJ⟩ : ∃ J, kAh kd i = J := ⟨_, rfl⟩
  have hJ42 : J < 42 := by
    rw [← hJ]
    unfold kAh
    split
    · decide
    · exact hT.2.2.2.2 _
  have v2 := d_eo_none hSb hi hr
  by_cases hK : kd i = 37
  · have hJn : ¬ J = 0 ∧ ¬ J = 2 ∧ ¬ J = 5 ∧ ¬ J = 3 ∧ ¬ J = 6 ∧ ¬ J = 7 ∧ ¬ J = 15 ∧ ¬ (J = 10 ∨ J = 14) ∧ ¬ J = 16 := by
      rw [← hJ]
      unfold kAh
      by_cases z : i = 0
      · rw [if_pos z]
        decide
      · rw [if_neg z]
        have nn : ∀ K, (K = 0 ∨ K = 2 ∨ K = 5 ∨ K = 3 ∨ K = 6 ∨ K = 7 ∨ K = 10 ∨ K = 15 ∨ K = 14 ∨ K = 16) → ¬ kd (i - 1) = K := by
          intro K hh e
          unfold kRole at hr
          rw [if_pos hK, e] at hr
          rcases hh with q | q | q | q | q | q | q | q | q | q <;> rw [q] at hr <;> exact absurd hr (by decide)
        exact ⟨nn 0 (by decide), nn 2 (by decide), nn 5 (by decide), nn 3 (by decide), nn 6 (by decide), nn 7 (by decide), nn 15 (by decide), fun q => q.elim (nn 10 (by decide)) (nn 14 (by decide)), nn 16 (by decide)⟩
    have e_cA : jI (jsI A 194 7 (iN i)) 579 = jI A 579 := by rw [mI2 (by decide)]
    have e_ba : jI (jsI A 194 7 (iN i)) 660 = jI A 660 := by rw [mI2 (by decide)]
    have e_ho : jI (jsI A 194 7 (iN i)) 720 = jI A 720 := by rw [mI2 (by decide)]
    have e_nu : jI (jsI A 194 7 (iN i)) 784 = jI A 784 := by rw [mI2 (by decide)]
    have e_di : jI (jsI A 194 7 (iN i)) 848 = jI A 848 := by rw [mI2 (by decide)]
    have e_fr : jI (jsI A 194 7 (iN i)) 912 = jI A 912 := by rw [mI2 (by decide)]
    have e_to : jI (jsI A 194 7 (iN i)) 976 = jI A 976 := by rw [mI2 (by decide)]
    have e_wi : jI (jsI A 194 7 (iN i)) 1040 = jI A 1040 := by rw [mI2 (by decide)]
    have e_co : jI (jsI A 194 7 (iN i)) 1104 = jI A 1104 := by rw [mI2 (by decide)]
    have e_mA : jI (jsI A 194 7 (iN i)) 473 = jI A 473 := by rw [mI2 (by decide)]
    have e_ns : jL (jsI A 194 7 (iN i)) 1565 = jL A 1565 := by rw [mI3]
    have e_nl : jL (jsI A 194 7 (iN i)) 1628 = jL A 1628 := by rw [mI3]
    have e_nt : jL (jsI A 194 7 (iN i)) 1692 = jL A 1692 := by rw [mI3]
    refine ⟨0, (jsI A 194 7 (iN i)), B, by decide, fun _ => ⟨(jCf_7 hfA), hfB, ?_⟩, fun q => absurd rfl q, rfl, fun d b4 Q => ?_, fun d Q => ?_⟩
    · rw [e_cA, e_ba, e_ho, e_nu, e_di, e_fr, e_to, e_wi, e_co, e_mA, e_ns, e_nl, e_nt]
      exact rel_none hR hr
    · rw [hJ]
      exact c_it_n hW hkl hK h4 (hk50 d) (fun Q => c_en_o hW1 hJ42 hJn)
    · exact v2 d Q
  · by_cases hK : kd i = 38
    · have hJn : ¬ J = 1 ∧ ¬ J = 4 ∧ ¬ J = 8 ∧ ¬ J = 9 := by
        rw [← hJ]
        unfold kAh
        by_cases z : i = 0
        · rw [if_pos z]
          decide
        · rw [if_neg z]
          have nn : ∀ K, (K = 1 ∨ K = 4 ∨ K = 8 ∨ K = 9) → ¬ kd (i - 1) = K := by
            intro K hh e
            unfold kRole at hr
            rw [if_neg (by omega), if_pos hK, e] at hr
            rcases hh with q | q | q | q <;> rw [q] at hr <;> exact absurd hr (by decide)
          exact ⟨nn 1 (by decide), nn 4 (by decide), nn 8 (by decide), nn 9 (by decide)⟩
      have e_cA : jI (jsI A 194 7 (iN i)) 579 = jI A 579 := by rw [mI2 (by decide)]
      have e_ba : jI (jsI A 194 7 (iN i)) 660 = jI A 660 := by rw [mI2 (by decide)]
      have e_ho : jI (jsI A 194 7 (iN i)) 720 = jI A 720 := by rw [mI2 (by decide)]
      have e_nu : jI (jsI A 194 7 (iN i)) 784 = jI A 784 := by rw [mI2 (by decide)]
      have e_di : jI (jsI A 194 7 (iN i)) 848 = jI A 848 := by rw [mI2 (by decide)]
      have e_fr : jI (jsI A 194 7 (iN i)) 912 = jI A 912 := by rw [mI2 (by decide)]
      have e_to : jI (jsI A 194 7 (iN i)) 976 = jI A 976 := by rw [mI2 (by decide)]
      have e_wi : jI (jsI A 194 7 (iN i)) 1040 = jI A 1040 := by rw [mI2 (by decide)]
      have e_co : jI (jsI A 194 7 (iN i)) 1104 = jI A 1104 := by rw [mI2 (by decide)]
      have e_mA : jI (jsI A 194 7 (iN i)) 473 = jI A 473 := by rw [mI2 (by decide)]
      have e_ns : jL (jsI A 194 7 (iN i)) 1565 = jL A 1565 := by rw [mI3]
      have e_nl : jL (jsI A 194 7 (iN i)) 1628 = jL A 1628 := by rw [mI3]
      have e_nt : jL (jsI A 194 7 (iN i)) 1692 = jL A 1692 := by rw [mI3]
      refine ⟨0, (jsI A 194 7 (iN i)), B, by decide, fun _ => ⟨(jCf_7 hfA), hfB, ?_⟩, fun q => absurd rfl q, rfl, fun d b4 Q => ?_, fun d Q => ?_⟩
      · rw [e_cA, e_ba, e_ho, e_nu, e_di, e_fr, e_to, e_wi, e_co, e_mA, e_ns, e_nl, e_nt]
        exact rel_none hR hr
      · rw [hJ]
        exact c_it_q hW hkl hK h4 (hk50 d) (fun Q => c_er_other hW1 hJ42 hJn ht1 (by omega))
      · exact v2 d Q
    · have hK10 : ¬ kd i = 10 := fun e => by
        unfold kRole at hr
        rw [if_neg (by omega), if_neg (by omega), if_pos e] at hr
        exact absurd hr (by decide)
      have e_cA : jI (jsI A 194 7 (iN i)) 579 = jI A 579 := by rw [mI2 (by decide)]
      have e_ba : jI (jsI A 194 7 (iN i)) 660 = jI A 660 := by rw [mI2 (by decide)]
      have e_ho : jI (jsI A 194 7 (iN i)) 720 = jI A 720 := by rw [mI2 (by decide)]
      have e_nu : jI (jsI A 194 7 (iN i)) 784 = jI A 784 := by rw [mI2 (by decide)]
      have e_di : jI (jsI A 194 7 (iN i)) 848 = jI A 848 := by rw [mI2 (by decide)]
      have e_fr : jI (jsI A 194 7 (iN i)) 912 = jI A 912 := by rw [mI2 (by decide)]
      have e_to : jI (jsI A 194 7 (iN i)) 976 = jI A 976 := by rw [mI2 (by decide)]
      have e_wi : jI (jsI A 194 7 (iN i)) 1040 = jI A 1040 := by rw [mI2 (by decide)]
      have e_co : jI (jsI A 194 7 (iN i)) 1104 = jI A 1104 := by rw [mI2 (by decide)]
      have e_mA : jI (jsI A 194 7 (iN i)) 473 = jI A 473 := by rw [mI2 (by decide)]
      have e_ns : jL (jsI A 194 7 (iN i)) 1565 = jL A 1565 := by rw [mI3]
      have e_nl : jL (jsI A 194 7 (iN i)) 1628 = jL A 1628 := by rw [mI3]
      have e_nt : jL (jsI A 194 7 (iN i)) 1692 = jL A 1692 := by rw [mI3]
      refine ⟨0, (jsI A 194 7 (iN i)), B, by decide, fun _ => ⟨(jCf_7 hfA), hfB, ?_⟩, fun q => absurd rfl q, rfl, fun d b4 Q => ?_, fun d Q => ?_⟩
      · rw [e_cA, e_ba, e_ho, e_nu, e_di, e_fr, e_to, e_wi, e_co, e_mA, e_ns, e_nl, e_nt]
        exact rel_none hR hr
      · rw [hJ]
        exact (c_it_0 hW hkl ⟨hK10, by assumption, hK⟩ h4 (hk50 d)).trans (by rw [if_pos rfl])
      · exact v2 d Q
end MN2
