/-! THE PURE PART: count, mean; what is told is alike. -/
section EVAL
variable {d p m n t L nh w mk sz r : Nat} {μ μ2 A B : jM} {Q : jO → jM → Prop} {K : Nat → Nat} {T : Nat → List (Nat × Int32)} {x : Int32} {pn pd : Nat → Int32}
theorem i_shz {v : Int32} : (0 : Int32) >>> v &&& 1 = 0 := by
  rw [Int32.zero_shiftRight, Int32.zero_and]
theorem E_connn (h : jRXn A B n w mk pn pd) : rsum (fun k => if jI A 3024 k = 0 then 0 else 1) n = rsum (fun k => jI B 6288 k) n :=
  rsum_congr n fun k hk => (h.2.2.2.2.2.2.2.1 k hk).2.2.2.2.2.1.symm
theorem E_don {v : Int32} (h : jRXn A B n w mk pn pd) : rsum (fun k => if jI A 2640 k = v then 1 else 0) n = rsum (fun k => if jI B 5904 k = v then 1 else 0) n :=
  rsum_congr n fun k hk => by rw [(h.2.2.2.2.2.2.2.1 k hk).1]
theorem E_talkn (hn : n ≤ 10) (h : jRXn A B n w mk pn pd) : rsum (fun k => if jI A 3024 k = 0 then 0 else if jI A 2640 k = 5 then 1 else 0) n = rsum (fun k => if jI B 5904 k = 5 then 1 else 0) n / 2 := by
  rw [← E_don h]
  have hL := h.2.2.2.2.2.2.2.2.2.1
  refine kTalks (ot := jI A 2704) hn fun l hl h5 => ?_
  rcases hL l hl with ⟨_, _, _, _, a⟩ | ⟨j, a1, a2, a3, a4, a5⟩
  · exact absurd h5 a
  · rcases a5 with ⟨b1, b2, b3⟩ | ⟨b1, b2, b3⟩
    · rcases b3 with ⟨c1, c2⟩ | ⟨c1, c2⟩
      · rw [h5] at c1
        exact absurd c1 (by decide)
      · exact ⟨j, a1, c2, a3, a4, fun q => absurd q b1, fun q => absurd b2 q⟩
    · rcases b3 with ⟨c1, c2⟩ | ⟨c1, c2⟩
      · rw [h5] at c1
        exact absurd c1 (by decide)
      · exact ⟨j, a1, c2, a3, a4, fun _ => b2, fun _ => b1⟩
theorem E_paidn (hn : n ≤ 10) (h : jRXn A B n w mk pn pd) : rsum (fun k => jI A 2960 k) n = rsum (fun k => jI B 6096 k) 10 := by
  have hP := h.2.2.2.2.2.2.2.2.2.2.2
  have hz : ∀ j, n + j ≤ 10 → rsum (fun k => jI B 6096 k) (n + j) = rsum (fun k => jI B 6096 k) n := by
    intro j
    induction j with
    | zero => intro _; rfl
    | succ j ih =>
      intro hj
      rw [show n + (j + 1) = (n + j) + 1 by omega, rsum_succ, ih (by omega), (hP (n + j) (by omega) (by omega)).2, Int32.add_zero]
  have := hz (10 - n) (by omega)
  rw [show n + (10 - n) = 10 by omega] at this
  rw [this]
  exact rsum_congr n fun k hk => (h.2.2.2.2.2.2.2.1 k hk).2.2.2.1.symm
theorem E_loadn {v : Int32} (h : jRXn A B n w mk pn pd) : rsum (fun k => jI A 3024 k >>> (v &&& 31) &&& 1) n = rsum (fun k => if jI B 6288 k = 1 then jI B 6416 k >>> (v &&& 31) &&& 1 else 0) n :=
  rsum_congr n fun k hk => by
    obtain ⟨e1, e2, e3, e4, e5, e6, e7, e8⟩ := h.2.2.2.2.2.2.2.1 k hk
    by_cases g : jI A 3024 k = 0
    · rw [e6, if_pos g, if_neg (by decide), g, i_shz]
    · rw [e6, if_neg g, if_pos rfl, (e8 g).1]
theorem E_heldn {v : Int32} (h : jRXn A B n w mk pn pd) : rsum (fun k => jI A 3088 k >>> (v &&& 31) &&& 1) n = rsum (fun k => if jI B 6288 k = 1 then jI B 6352 k >>> (v &&& 31) &&& 1 else 0) n :=
  rsum_congr n fun k hk => by
    obtain ⟨e1, e2, e3, e4, e5, e6, e7, e8⟩ := h.2.2.2.2.2.2.2.1 k hk
    by_cases g : jI A 3024 k = 0
    · rw [e6, if_pos g, if_neg (by decide), (e7 g).1, i_shz]
    · rw [e6, if_neg g, if_pos rfl, (e8 g).2.1]
theorem E_placen {v : Int32} (h : jRXn A B n w mk pn pd) : jfst (fun k => decide (jI A 3344 k = v)) 0 (w - 0) = jfst (fun k => decide (jI B 6160 k = v)) 0 (w - 0) :=
  jfst_congr _ _ fun j _ hj => by rw [(h.2.2.2.2.2.2.2.2.2.2.1.1 j (by omega)).1]
theorem E_conna (h : jRXa A B n w mk pn pd) : rsum (fun k => if jI A 3920 k = 0 then 0 else 1) n = rsum (fun k => jI B 7184 k) n :=
  rsum_congr n fun k hk => (h.2.2.2.2.2.2.2.1 k hk).2.2.2.2.2.1.symm
theorem E_doa {v : Int32} (h : jRXa A B n w mk pn pd) : rsum (fun k => if jI A 3536 k = v then 1 else 0) n = rsum (fun k => if jI B 6800 k = v then 1 else 0) n :=
  rsum_congr n fun k hk => by rw [(h.2.2.2.2.2.2.2.1 k hk).1]
theorem E_talka (hn : n ≤ 10) (h : jRXa A B n w mk pn pd) : rsum (fun k => if jI A 3920 k = 0 then 0 else if jI A 3536 k = 5 then 1 else 0) n = rsum (fun k => if jI B 6800 k = 5 then 1 else 0) n / 2 := by
  rw [← E_doa h]
  have hL := h.2.2.2.2.2.2.2.2.2.1
  refine kTalks (ot := jI A 3600) hn fun l hl h5 => ?_
  rcases hL l hl with ⟨_, _, _, _, a⟩ | ⟨j, a1, a2, a3, a4, a5⟩
  · exact absurd h5 a
  · rcases a5 with ⟨b1, b2, b3⟩ | ⟨b1, b2, b3⟩
    · rcases b3 with ⟨c1, c2⟩ | ⟨c1, c2⟩
      · rw [h5] at c1
        exact absurd c1 (by decide)
      · exact ⟨j, a1, c2, a3, a4, fun q => absurd q b1, fun q => absurd b2 q⟩
    · rcases b3 with ⟨c1, c2⟩ | ⟨c1, c2⟩
      · rw [h5] at c1
        exact absurd c1 (by decide)
      · exact ⟨j, a1, c2, a3, a4, fun _ => b2, fun _ => b1⟩
theorem E_paida (hn : n ≤ 10) (h : jRXa A B n w mk pn pd) : rsum (fun k => jI A 3856 k) n = rsum (fun k => jI B 6992 k) 10 := by
  have hP := h.2.2.2.2.2.2.2.2.2.2.2
  have hz : ∀ j, n + j ≤ 10 → rsum (fun k => jI B 6992 k) (n + j) = rsum (fun k => jI B 6992 k) n := by
    intro j
    induction j with
    | zero => intro _; rfl
    | succ j ih =>
      intro hj
      rw [show n + (j + 1) = (n + j) + 1 by omega, rsum_succ, ih (by omega), (hP (n + j) (by omega) (by omega)).2, Int32.add_zero]
  have := hz (10 - n) (by omega)
  rw [show n + (10 - n) = 10 by omega] at this
  rw [this]
  exact rsum_congr n fun k hk => (h.2.2.2.2.2.2.2.1 k hk).2.2.2.1.symm
theorem E_loada {v : Int32} (h : jRXa A B n w mk pn pd) : rsum (fun k => jI A 3920 k >>> (v &&& 31) &&& 1) n = rsum (fun k => if jI B 7184 k = 1 then jI B 7312 k >>> (v &&& 31) &&& 1 else 0) n :=
  rsum_congr n fun k hk => by
    obtain ⟨e1, e2, e3, e4, e5, e6, e7, e8⟩ := h.2.2.2.2.2.2.2.1 k hk
    by_cases g : jI A 3920 k = 0
    · rw [e6, if_pos g, if_neg (by decide), g, i_shz]
    · rw [e6, if_neg g, if_pos rfl, (e8 g).1]
theorem E_helda {v : Int32} (h : jRXa A B n w mk pn pd) : rsum (fun k => jI A 3984 k >>> (v &&& 31) &&& 1) n = rsum (fun k => if jI B 7184 k = 1 then jI B 7248 k >>> (v &&& 31) &&& 1 else 0) n :=
  rsum_congr n fun k hk => by
    obtain ⟨e1, e2, e3, e4, e5, e6, e7, e8⟩ := h.2.2.2.2.2.2.2.1 k hk
    by_cases g : jI A 3920 k = 0
    · rw [e6, if_pos g, if_neg (by decide), (e7 g).1, i_shz]
    · rw [e6, if_neg g, if_pos rfl, (e8 g).2.1]
theorem E_placea {v : Int32} (h : jRXa A B n w mk pn pd) : jfst (fun k => decide (jI A 4240 k = v)) 0 (w - 0) = jfst (fun k => decide (jI B 7056 k = v)) 0 (w - 0) :=
  jfst_congr _ _ fun j _ hj => by rw [(h.2.2.2.2.2.2.2.2.2.2.1.1 j (by omega)).1]

theorem kCt_eq (hR : jRP A B p m n t L K nh T) (h : jRXn A B n w mk pn pd) : kCtA A m n t nh w mk sz = kCtB B m n t nh w mk sz := by
  have hn := hR.1.2.2.2.2.1
  unfold kCtA kCtB
  rw [h.1, E_connn h, E_talkn hn h, E_paidn hn h]
/-- objects are made: nothing else -/
theorem jSc_g {c s : Nat} (hr : r = (jA μ).length) (h : jGb r c s μ μ2) (h120 : 120 ≤ r) : jSc μ μ2 := by
  obtain ⟨g1, g2, g3, g4⟩ := h
  have q : ∀ a, a < 64 * (jA μ).length → jI μ2 a = jI μ a := fun a ha => (g1 a (by omega)).1
  exact ⟨fun a ha _ => q a ha, by rw [q 2308 (by omega)], fun k _ => by rw [q 4490 (by omega)], fun k _ => by rw [q 5836 (by omega)], fun a ha => (g1 a (by omega)).2.2, by omega⟩
theorem jSc_w (h : jSc μ μ2) (hW : jWd μ) (h120 : 120 ≤ (jA μ).length) : jWd μ2 := jWd_k (fun a ha _ _ _ _ => h.2.2.2.2.1 a (by omega)) (fun k _ _ => by rw [h.2.2.2.2.1 4490 (by omega)]) hW
theorem isIn10 (x : Int32) : (if x < 0 then (0 : Int32) else if (10 : Int32) < x then 0 else 1) = jhas x (iN 11) (iN 11) := kSz (n := 11) (m := 11) (by decide) (by decide)
theorem isIn6 (x : Int32) : (if x < 0 then (0 : Int32) else if (6 : Int32) < x then 0 else 1) = jhas x (iN 7) (iN 7) := kSz (n := 7) (m := 7) (by decide) (by decide)
theorem isIn5 (x : Int32) : (if x < 0 then (0 : Int32) else if (5 : Int32) < x then 0 else 1) = jhas x (iN 6) (iN 6) := kSz (n := 6) (m := 6) (by decide) (by decide)
theorem isIn3 (x : Int32) : (if x < 0 then (0 : Int32) else if (3 : Int32) < x then 0 else 1) = jhas x (iN 4) (iN 4) := kSz (n := 4) (m := 4) (by decide) (by decide)
theorem d_count (hr : r = (jA μ).length) (h120 : 120 ≤ r) (hp : p + 14 ≤ r) (hM : jMp μ p) (hm : jI μ (64 * p + 11) 0 = iN m) (hn : jI μ (64 * p + 11) 2 = iN n) (h10 : n ≤ 10) (ht : jI μ (64 * p + 11) 6 = iN t) (hnh : jI μ (64 * p + 11) 11 = iN nh) (hw1 : jI μ 5836 7 = iN w) (hmk : jI μ 5836 1 = iN mk) (hz : jI μ 4490 2 = iN sz) {k : Nat} (hk : k < 11) : Ex (d + 2) 143 0 [some (.ref 4490), some (.int (iN k))] [] μ Q ↔ Q (.inl (some (.int ((kCtB μ m n t nh w mk sz).getD k 0)))) (kCtM (jsI μ 4490 0 0) (64 * r + 17) (jI μ 5836 0) (iN m) (iN n) (iN t) (iN nh) (rsum (fun k => jI μ 6288 k) n) (rsum (fun k => if jI μ 5904 k = 5 then 1 else 0) n / 2) (iN w) (iN mk) (rsum (fun k => jI μ 6096 k) 10) (iN sz)) := by
  have hf := hM.2.1
  have e144 := fun (Q : jO → jM → Prop) => d_counted (d := d) (μ := jsI μ 4490 0 0) (Q := Q) (p := p) (m := m) (n := n) (t := t) (nh := nh) (w := w) (mk := mk) (sz := sz) (r := r) (by rw [mI5]; exact hr) h120 hp (by rw [jMp_I]; exact hM) (by rw [mI2 (by omega)]; exact hm) (by rw [mI2 (by omega)]; exact hn) h10 (by rw [mI2 (by omega)]; exact ht) (by rw [mI2 (by omega)]; exact hnh) (by rw [mI2 (by decide)]; exact hw1) (by rw [mI2 (by decide)]; exact hmk) (by rw [mI1, if_neg (by decide)]; exact hz) hk
  have e0 : kCtB (jsI μ 4490 0 0) m n t nh w mk sz = kCtB μ m n t nh w mk sz := by
    unfold kCtB
    rw [mI2 (by decide), mI2 (by decide), mI2 (by decide), mI2 (by decide)]
  rw [e0] at e144
  simp only [mI2, Nat.reduceEqDiff, not_false_eq_true] at e144
  have hin := fun (d : Nat) (μ : jM) (v lo hi : Int32) (Q : jO → jM → Prop) => d_isIn (d := d) (μ := μ) (v := v) (lo := lo) (hi := hi) (Q := Q)
  have hj : jhas (iN k) (iN 11) (iN 11) = 1 := jhas_in hk (by decide) (by decide)
  simp only [x143_0, x143_1, x143_2, x143_5, x143_6, x143_7, x143_9, x143_12, x143_15, x143_16, x143_17, x143_20, x143_23, x143_24, x143_25, x143_28, mzi, mInc, mne, mlt9, mrk, mI1, mI2, mI3, mI4, mL1, mL2, mL3, mL4, mQ1, mQ2, mQ3, mQ4, mT1, mcat0, mcat1, mcat2, mcat3, mcat4, mrf1, jK_v, jK_n, JA, mz1, if_true, if_false, ite_true, ite_false, eq_self, not_false_eq_true, Nat.zero_le, true_and, and_true, and_self, Nat.reduceMod, Nat.reduceAdd, Nat.reduceLeDiff, Nat.reduceEqDiff, Nat.reduceLT, hin, isIn10, hj, e144]
theorem d_count_x (h : ¬ ∃ k, k < 11 ∧ x = iN k) : Ex (d + 2) 143 0 [some (.ref 4490), some (.int x)] [] μ Q ↔ Q (.inl (some (.int 0))) (jsI (jsI μ 4490 0 0) 4490 0 1) := by
  have hin := fun (d : Nat) (μ : jM) (v lo hi : Int32) (Q : jO → jM → Prop) => d_isIn (d := d) (μ := μ) (v := v) (lo := lo) (hi := hi) (Q := Q)
  have hno := fun (d : Nat) (μ : jM) (k : Int32) (Q : jO → jM → Prop) => d_no (d := d) (μ := μ) (k := k) (Q := Q)
  have hj : jhas x (iN 11) (iN 11) = 0 := jhas_no h (by decide) (by decide)
  simp only [x143_0, x143_1, x143_2, x143_5, x143_6, x143_7, x143_9, x143_12, x143_15, x143_16, x143_17, x143_20, x143_23, x143_24, x143_25, x143_28, mzi, mInc, mne, mlt9, mrk, mI1, mI2, mI3, mI4, mL1, mL2, mL3, mL4, mQ1, mQ2, mQ3, mQ4, mT1, mcat0, mcat1, mcat2, mcat3, mcat4, mrf1, jK_v, jK_n, JA, mz1, if_true, if_false, ite_true, ite_false, eq_self, not_false_eq_true, Nat.zero_le, true_and, and_true, and_self, Nat.reduceMod, Nat.reduceAdd, Nat.reduceLeDiff, Nat.reduceEqDiff, Nat.reduceLT, hin, isIn10, hj, hno]
theorem op_count (x : Int32) (hJ : jJp μ p m n t L K nh T w mk sz) : jPair μ 137 143 [some (.ref 0), some (.int x), some (.ref 7647), none] [some (.ref 4490), some (.int x)] := by
  have hJ' := hJ
  obtain ⟨h09, ⟨z1, z2⟩, h120, hR, hX, hp⟩ := hJ'
  have hW : jWd μ := hR.1.1
  by_cases h : ∃ k, k < 11 ∧ x = iN k
  · obtain ⟨k, hk, rfl⟩ := h
    obtain ⟨P1, P2, P3, P4, P5, P6, P7, _⟩ := hR.1
    have eA := fun (Q : jO → jM → Prop) => c_count (d := 48 + 98) (Q := Q) (m := m) (n := n) (t := t) (nh := nh) (w := w) (mk := mk) (sz := sz) hW P2 P4 P5 P6 hR.2.2.2.2.2.2.1 hX.2.2.2.2.2.1 hX.2.1 z1 hk
    generalize hv : (kCtA μ m n t nh w mk sz).getD k 0 = v at eA
    have hM : jMp (jsL μ 7647 0 v.toInt64) p := jMp_c rfl hR.2.1
    have eB := fun (Q : jO → jM → Prop) => d_count (d := 48 + 99) (Q := Q) (μ := jsL μ 7647 0 v.toInt64) (p := p) (m := m) (n := n) (t := t) (nh := nh) (w := w) (mk := mk) (sz := sz) (r := (jA μ).length) rfl h120 hp hM hR.2.2.1 hR.2.2.2.1 P5 hR.2.2.2.2.1 hR.2.2.2.2.2.1.1 hX.2.2.2.2.2.2.1 hX.2.2.1 z2.1 hk
    have e1 : kCtB (jsL μ 7647 0 v.toInt64) m n t nh w mk sz = kCtB μ m n t nh w mk sz := rfl
    rw [e1, ← kCt_eq hR hX, hv] at eB
    refine ⟨0, v, _, _, by decide, fun Q => l_count_v (d := 48 + 100) eA, rfl, rfl, eB, ?_, fun _ => ?_, ?_⟩
    · rw [(kCtM_b (μ := jsI (jsL μ 7647 0 v.toInt64) 4490 0 0) (r := (jA μ).length) rfl).1 4490 (by omega) |>.1, mI1, if_pos rfl]
      rfl
    · rw [(kCtM_b (μ := jsI (jsL μ 7647 0 v.toInt64) 4490 0 0) (r := (jA μ).length) rfl).1 7647 (by omega) |>.2.1, mI3, mL1, if_pos rfl]
    · refine jGo_s (jSc_t jSc_L (jSc_t jSc_0 (jSc_g (r := (jA μ).length) rfl (kCtM_b (r := (jA μ).length) rfl) h120))) hJ ?_ ?_
      · unfold jnc
        rw [(kCtM_b (μ := jsI (jsL μ 7647 0 v.toInt64) 4490 0 0) (r := (jA μ).length) rfl).2.1, (kCtM_b (μ := jsI (jsL μ 7647 0 v.toInt64) 4490 0 0) (r := (jA μ).length) rfl).2.2.1]
        show (jA μ).length + 1 + jX μ ≤ (jA μ).length + jX μ + 400
        omega
      · refine Nat.le_trans (kCtM_b (μ := jsI (jsL μ 7647 0 v.toInt64) 4490 0 0) (r := (jA μ).length) rfl).2.2.2 ?_
        show jns μ + 11 ≤ _
        omega
  · have eA := fun (Q : jO → jM → Prop) => c_count_x (d := 48 + 100) (μ := μ) (Q := Q) h
    have eB := fun (Q : jO → jM → Prop) => d_count_x (d := 48 + 99) (μ := jthr μ) (Q := Q) h
    exact pair_no hJ (k := 1) (by decide) (by decide) (fun Q => l_count_2 (d := 48 + 100) eA) eB
theorem c_mean (hW : jWd μ) (hn : jI μ 1731 1 = iN n) (h10 : n ≤ 10) : Ex (d + 1) 271 0 [some (.ref 0)] [] μ Q ↔ Q (.inl (some (.double (if n = 0 then FP.dconst0 else FP.ddiv (FP.i2d (rsum (fun k => jI μ 2960 k) n)) (FP.i2d (iN n)))))) μ := by
  have hw := hW
  unfold jWd at hw
  have h142 := fun (d : Nat) (Q : jO → jM → Prop) => c_paidn (d := d) (Q := Q) hW hn h10
  by_cases h0 : n = 0
  · subst h0
    have g : ¬ (0 : Int32) < 0 := by decide
    simp only [x271_0, x271_1, x271_4, x271_7, x271_10, x271_11, x271_14, x271_17, x271_18, x271_19, x271_22, x271_25, x271_26, x271_27, x271_30, x271_31, mzi, mInc, mne, mlt9, mrk, mI1, mI2, mI3, mI4, mL1, mL2, mL3, mL4, mQ1, mQ2, mQ3, mQ4, mT1, mcat0, mcat1, mcat2, mcat3, mcat4, mrf1, jK_v, jK_n, JA, mz1, if_true, if_false, ite_true, ite_false, eq_self, not_false_eq_true, Nat.zero_le, true_and, and_true, and_self, Nat.reduceMod, Nat.reduceAdd, Nat.reduceLeDiff, Nat.reduceEqDiff, Nat.reduceLT, hw, hn, g]
  · have g : (0 : Int32) < iN n := (iN_lt (a := 0) (by omega) (by omega)).mpr (by omega)
    have hf := fp_mean (rsum (fun k => jI μ 2960 k) n) (n := n) (by omega) h0
    simp only [x271_0, x271_1, x271_4, x271_7, x271_10, x271_11, x271_14, x271_17, x271_18, x271_19, x271_22, x271_25, x271_26, x271_27, x271_30, x271_31, mzi, mInc, mne, mlt9, mrk, mI1, mI2, mI3, mI4, mL1, mL2, mL3, mL4, mQ1, mQ2, mQ3, mQ4, mT1, mcat0, mcat1, mcat2, mcat3, mcat4, mrf1, jK_v, jK_n, JA, mz1, if_true, if_false, ite_true, ite_false, eq_self, not_false_eq_true, Nat.zero_le, true_and, and_true, and_self, Nat.reduceMod, Nat.reduceAdd, Nat.reduceLeDiff, Nat.reduceEqDiff, Nat.reduceLT, hw, hn, g, h0, h142, hf]
theorem d_mean (hM : jMp μ p) (hn : jI μ (64 * p + 11) 2 = iN n) (h10 : n ≤ 10) : Ex (d + 1) 272 0 [some (.ref 4490)] [] μ Q ↔ Q (.inl (some (.double (if n = 0 then FP.dconst0 else FP.ddiv (FP.i2d (rsum (fun k => jI μ 6096 k) 10)) (FP.i2d (iN n)))))) (jsI μ 4490 0 0) := by
  have hM0 := hM
  obtain ⟨hW, hp2, hpl, hq⟩ := hM
  have hw := hW
  unfold jWd at hw
  have jp1 := (JPm p).1
  have n1 : ¬ 64 * p + 11 = 4490 := by omega
  have h147 := fun (d : Nat) (Q : jO → jM → Prop) => d_paids (d := d) (μ := jsI μ 4490 0 0) (Q := Q) (jWd_c rfl hW)
  by_cases h0 : n = 0
  · subst h0
    simp only [x272_0, x272_1, x272_2, x272_5, x272_6, x272_9, x272_12, x272_15, x272_16, x272_19, x272_20, x272_23, x272_26, x272_27, x272_28, x272_31, x272_34, x272_35, x272_36, mzi, mInc, mne, mlt9, mrk, mI1, mI2, mI3, mI4, mL1, mL2, mL3, mL4, mQ1, mQ2, mQ3, mQ4, mT1, mcat0, mcat1, mcat2, mcat3, mcat4, mrf1, jK_v, jK_n, JA, mz1, if_true, if_false, ite_true, ite_false, eq_self, not_false_eq_true, Nat.zero_le, true_and, and_true, and_self, Nat.reduceMod, Nat.reduceAdd, Nat.reduceLeDiff, Nat.reduceEqDiff, Nat.reduceLT, hw, hpl, hn, jp1, n1]
  · have g : ¬ iN n = 0 := fun q => h0 ((iN_eq (b := 0) (by omega) (by omega)).mp q)
    have hf := fp_mean (rsum (fun k => jI μ 6096 k) 10) (n := n) (by omega) h0
    simp only [x272_0, x272_1, x272_2, x272_5, x272_6, x272_9, x272_12, x272_15, x272_16, x272_19, x272_20, x272_23, x272_26, x272_27, x272_28, x272_31, x272_34, x272_35, x272_36, mzi, mInc, mne, mlt9, mrk, mI1, mI2, mI3, mI4, mL1, mL2, mL3, mL4, mQ1, mQ2, mQ3, mQ4, mT1, mcat0, mcat1, mcat2, mcat3, mcat4, mrf1, jK_v, jK_n, JA, mz1, if_true, if_false, ite_true, ite_false, eq_self, not_false_eq_true, Nat.zero_le, true_and, and_true, and_self, Nat.reduceMod, Nat.reduceAdd, Nat.reduceLeDiff, Nat.reduceEqDiff, Nat.reduceLT, hw, hpl, hn, jp1, n1, g, h0, h147, hf]
theorem op_mean (hJ : jJp μ p m n t L K nh T w mk sz) : ∃ (v : UInt64) (μ2 : jM), jGk μ μ2 ∧ (∀ (Q : jO → jM → Prop), (Ex (48 + 101) 271 0 [some (.ref 0)] [] μ Q ↔ Q (.inl (some (.double v))) μ)) ∧ (∀ (Q : jO → jM → Prop), (Ex (48 + 101) 272 0 [some (.ref 4490)] [] μ Q ↔ Q (.inl (some (.double v))) μ2)) := by
  have hJ' := hJ
  obtain ⟨h09, ⟨z1, z2⟩, h120, hR, hX, hp⟩ := hJ'
  have hW : jWd μ := hR.1.1
  have hn := hR.1.2.2.2.2.1
  refine ⟨_, jsI μ 4490 0 0, ?_, fun Q => c_mean (d := 48 + 100) hW hR.1.2.2.2.1 hn, fun Q => ?_⟩
  · exact jGo_s jSc_0 hJ (Nat.le_add_right _ _) (Nat.le_add_right _ _)
  · rw [E_paidn hn hX]
    exact d_mean (d := 48 + 100) hR.2.1 hR.2.2.2.1 hn
end EVAL
