/-! THE PURE PART: parts, way, through. -/
section PARTS
variable {d p m n t L nh w mk sz r l f k j q a b : Nat} {μ ν μ2 A B : jM} {Q : jO → jM → Prop} {K : Nat → Nat} {T : Nat → List (Nat × Int32)} {x y : Int32} {pn pd : Nat → Int32}
theorem kTog_congr {f g f' g' : Nat → Int32} {wo : Int32} (hf : ∀ k, k < n → f k = f' k ∧ g k = g' k) : kTog f g wo m n x = kTog f' g' wo m n x := by
  unfold kTog
  refine jfold_congr (n := m) (fun _ s _ => ?_) m 0 _ (by omega)
  unfold kTg
  refine jfold_congr (n := n) (fun k s hk => ?_) n 0 s (by omega)
  unfold kTg1
  rw [(hf k hk).1, (hf k hk).2]
theorem kPts_congr {f g h f' g' h' : Nat → Int32} {wo : Int32} (hf : ∀ k, k < n → f k = f' k ∧ g k = g' k) (hh : ∀ k, k < l → h k = h' k) : kPts f g h wo m n l = kPts f' g' h' wo m n l := by
  unfold kPts
  refine jfold_congr (n := l) (fun b s hb => ?_) l 0 0 (by omega)
  rw [kTog_congr hf, kTog_congr hf, hh b hb]
  unfold kPt1
  exact jfold_congr (n := b) (fun a s ha => by rw [hh a (by omega)]) b 0 s (by omega)
theorem kPa_eq (hR : jRP A B p m n t L K nh T) (hj : j < t) : kPart A m t n j = kPts (jI B (64 * p + 336)) (jI B (64 * p + 400)) (jI B (64 * p + 144)) (iN j) m t n := by
  have hr := hR.2.2.2.2.2.2.2.2.1
  have hs := hR.2.2.2.2.2.2.2.2.2.2.1
  rw [← kPts_congr (f := jI A 2064) (g := jI A 2128) (h := jI A 1872) (fun k hk => ⟨(hs k hk).1, (hs k hk).2.1⟩) fun k hk => (hr k hk).1]
  rw [kPts_part hR.1.2.2.1 (fun k hk => by
    obtain ⟨_, _, ⟨u, hu, e1⟩, ⟨v, hv, e2⟩, _⟩ := hs k hk
    exact ⟨u, v, hu, hv, e1, e2⟩) hR.1.2.2.2.2.2.2.1 hj hR.1.2.2.2.2.1 fun k hk => (hr k hk).2.1]
  rfl
theorem c_parts (hP : jPl μ m n t L K) (hm0 : 0 < m) (hl : j < t) : Ex (d + 3) 246 0 [some (.ref 0), some (.int (iN j))] [] μ Q ↔ Q (.inl (some (.int (kPart μ m t n j)))) μ := by
  obtain ⟨hW, hm, h6, hn, h10, ht, ht10, _⟩ := hP
  have hw := hW
  unfold jWd at hw
  have hnd := fun (d : Nat) (x : Int32) (Q : jO → jM → Prop) => c_needT (d := d) (x := x) (Q := Q) hW
  have hj : jhas (iN j) (iN t) 10 = 1 := jhas_in hl ht10 (by decide)
  have h247 := fun (d : Nat) (Q : jO → jM → Prop) => c_part (d := d) (Q := Q) hW hm hm0 h6 hn h10 ht ht10 hl
  simp only [x246_0, x246_1, x246_2, x246_5, x246_6, x246_9, x246_10, x246_13, mzi, mInc, mne, mlt9, mrk, mI1, mI2, mI3, mI4, mL1, mL2, mL3, mL4, mQ1, mQ2, mQ3, mQ4, mT1, mcat0, mcat1, mcat2, mcat3, mcat4, mrf1, jK_v, jK_n, JA, mz1, if_true, if_false, ite_true, ite_false, eq_self, not_false_eq_true, Nat.zero_le, true_and, and_true, and_self, Nat.reduceMod, Nat.reduceAdd, Nat.reduceLeDiff, Nat.reduceEqDiff, Nat.reduceLT, hw, hnd, ht, hj, h247]
theorem c_parts_x (hW : jWd μ) (ht : jI μ 1731 2 = iN t) (h10 : t ≤ 10) (h : ¬ ∃ l, l < t ∧ x = iN l) : Ex (d + 2) 246 0 [some (.ref 0), some (.int x)] [] μ Q ↔ Q (.inr 2) (jthr μ) := by
  have hnd := fun (d : Nat) (x : Int32) (Q : jO → jM → Prop) => c_needT (d := d) (x := x) (Q := Q) hW
  have hj : jhas x (iN t) 10 = 0 := jhas_no h h10 (by decide)
  have hx : jhs 246 = [] := rfl
  simp only [x246_0, x246_1, x246_2, x246_5, x246_6, x246_9, x246_10, x246_13, mzi, mInc, mne, mlt9, mrk, mI1, mI2, mI3, mI4, mL1, mL2, mL3, mL4, mQ1, mQ2, mQ3, mQ4, mT1, mcat0, mcat1, mcat2, mcat3, mcat4, mrf1, jK_v, jK_n, JA, mz1, if_true, if_false, ite_true, ite_false, eq_self, not_false_eq_true, Nat.zero_le, true_and, and_true, and_self, Nat.reduceMod, Nat.reduceAdd, Nat.reduceLeDiff, Nat.reduceEqDiff, Nat.reduceLT, hnd, ht, hj, hx, jK_x]
theorem d_partsQ (hM : jMp μ p) (hm : jI μ (64 * p + 11) 0 = iN m) (h6 : m ≤ 6) (ht : jI μ (64 * p + 11) 6 = iN t) (ht10 : t ≤ 10) (hn : jI μ (64 * p + 11) 2 = iN n) (h10 : n ≤ 10) (hl : j < t) : Ex (d + 2) 249 0 [some (.ref 4490), some (.int (iN j))] [] μ Q ↔ Q (.inl (some (.int (kPts (jI (jsI μ 4490 0 0) (64 * p + 336)) (jI (jsI μ 4490 0 0) (64 * p + 400)) (jI (jsI μ 4490 0 0) (64 * p + 144)) (iN j) m t n)))) (jsI μ 4490 0 0) := by
  have hf := hM.2.1
  have hM' : jMp (jsI μ 4490 0 0) p := by rw [jMp_I]; exact hM
  have ht' : jI (jsI μ 4490 0 0) (64 * p + 11) 6 = iN t := by rw [mI2 (by omega)]; exact ht
  have hL := fun (d : Nat) (x : Int32) (Q : jO → jM → Prop) => d_isT (d := d) (x := x) (Q := Q) hM' ht' ht10
  have hj : jhas (iN j) (iN t) 10 = 1 := jhas_in hl ht10 (by decide)
  have h250 := fun (d : Nat) (Q : jO → jM → Prop) => d_parts (d := d) (wo := iN j) (Q := Q) hM' (by rw [mI2 (by omega)]; exact hm) h6 ht' ht10 (by rw [mI2 (by omega)]; exact hn) h10
  simp only [x249_0, x249_1, x249_2, x249_5, x249_6, x249_7, x249_10, x249_13, x249_14, x249_15, x249_18, x249_21, x249_22, x249_23, x249_26, mzi, mInc, mne, mlt9, mrk, mI1, mI2, mI3, mI4, mL1, mL2, mL3, mL4, mQ1, mQ2, mQ3, mQ4, mT1, mcat0, mcat1, mcat2, mcat3, mcat4, mrf1, jK_v, jK_n, JA, mz1, if_true, if_false, ite_true, ite_false, eq_self, not_false_eq_true, Nat.zero_le, true_and, and_true, and_self, Nat.reduceMod, Nat.reduceAdd, Nat.reduceLeDiff, Nat.reduceEqDiff, Nat.reduceLT, hL, hj, h250]
theorem d_parts_x (hM : jMp μ p) (ht : jI μ (64 * p + 11) 6 = iN t) (ht10 : t ≤ 10) (h : ¬ ∃ l, l < t ∧ x = iN l) : Ex (d + 2) 249 0 [some (.ref 4490), some (.int x)] [] μ Q ↔ Q (.inl (some (.int 0))) (jsI (jsI μ 4490 0 0) 4490 0 1) := by
  have hf := hM.2.1
  have hM' : jMp (jsI μ 4490 0 0) p := by rw [jMp_I]; exact hM
  have ht' : jI (jsI μ 4490 0 0) (64 * p + 11) 6 = iN t := by rw [mI2 (by omega)]; exact ht
  have hL := fun (d : Nat) (x : Int32) (Q : jO → jM → Prop) => d_isT (d := d) (x := x) (Q := Q) hM' ht' ht10
  have hno := fun (d : Nat) (μ : jM) (k : Int32) (Q : jO → jM → Prop) => d_no (d := d) (μ := μ) (k := k) (Q := Q)
  have hj : jhas x (iN t) 10 = 0 := jhas_no h ht10 (by decide)
  simp only [x249_0, x249_1, x249_2, x249_5, x249_6, x249_7, x249_10, x249_13, x249_14, x249_15, x249_18, x249_21, x249_22, x249_23, x249_26, mzi, mInc, mne, mlt9, mrk, mI1, mI2, mI3, mI4, mL1, mL2, mL3, mL4, mQ1, mQ2, mQ3, mQ4, mT1, mcat0, mcat1, mcat2, mcat3, mcat4, mrf1, jK_v, jK_n, JA, mz1, if_true, if_false, ite_true, ite_false, eq_self, not_false_eq_true, Nat.zero_le, true_and, and_true, and_self, Nat.reduceMod, Nat.reduceAdd, Nat.reduceLeDiff, Nat.reduceEqDiff, Nat.reduceLT, hL, hj, hno]
theorem op_parts (x : Int32) (hJ : jJp μ p m n t L K nh T w mk sz) : jPair μ 245 249 [some (.ref 0), some (.int x), some (.ref 7647), none] [some (.ref 4490), some (.int x)] := by
  have hJ' := hJ
  obtain ⟨h09, ⟨z1, z2⟩, h120, hR, hX, hp⟩ := hJ'
  have hW : jWd μ := hR.1.1
  obtain ⟨P1, P2, P3, P4, P5, P6, P7, _⟩ := hR.1
  by_cases h1 : ∃ l, l < t ∧ x = iN l
  · obtain ⟨j, hl, rfl⟩ := h1
    obtain ⟨_, _, ⟨u, hu, _⟩, _⟩ := hR.2.2.2.2.2.2.2.2.2.2.1 j hl
    have eA := fun (Q : jO → jM → Prop) => c_parts (d := 48 + 97) (Q := Q) hR.1 (by omega) hl
    generalize hv : kPart μ m t n j = v at eA
    have s2 : jSc μ (jsI (jsL μ 7647 0 v.toInt64) 4490 0 0) := jSc_t jSc_L jSc_0
    obtain ⟨m3, m4⟩ := jJp_mix s2 hJ
    have eB := fun (Q : jO → jM → Prop) => d_partsQ (d := 48 + 99) (Q := Q) (μ := jsL μ 7647 0 v.toInt64) (jMp_c rfl hR.2.1) hR.2.2.1 P3 hR.2.2.2.2.1 P7 hR.2.2.2.1 P5 hl
    rw [← kPa_eq m3 hl, hv] at eB
    exact pair_1 hJ v (fun Q => l_parts_v (d := 48 + 100) eA) eB
  · have eA := fun (Q : jO → jM → Prop) => c_parts_x (d := 48 + 98) (μ := μ) (Q := Q) hW P6 P7 h1
    have eB := fun (Q : jO → jM → Prop) => d_parts_x (d := 48 + 99) (μ := jthr μ) (x := x) (Q := Q) (jMp_c rfl hR.2.1) hR.2.2.2.2.1 P7 h1
    exact pair_no hJ (k := 1) (by decide) (by decide) (fun Q => l_parts_2 (d := 48 + 100) eA) eB
end PARTS
section WAYS
variable {d p m n t L nh w mk sz r l f k j q a b : Nat} {μ ν μ2 A B : jM} {Q : jO → jM → Prop} {K : Nat → Nat} {T : Nat → List (Nat × Int32)} {x y : Int32} {pn pd : Nat → Int32}
def kWyA (μ : jM) (m n t L : Nat) (K : Nat → Nat) (a b k : Nat) : Int32 := kLook (jI μ 2064) (jI μ 2128) (jI μ 2256) t (jI μ 1872 a) (jI μ 1872 b) (kFreen μ n m) (kOpenn μ n t L K) (jI μ 3400) k
def kWyM (μ : jM) (m n t L : Nat) (K : Nat → Nat) (a b : Nat) : jM := jsR (kShMn μ n L K) 3400 (kLook (jI μ 2064) (jI μ 2128) (jI μ 2256) t (jI μ 1872 a) (jI μ 1872 b) (kFreen μ n m) (kOpenn μ n t L K) (jI μ 3400))
theorem jSc_wy : jSc μ (kWyM μ m n t L K a b) := jSc_t jSc_s (jSc_R (by omega))
theorem kWyM_q : jA (kWyM μ m n t L K a b) = jA μ ∧ jX (kWyM μ m n t L K a b) = jX μ := ⟨rfl, rfl⟩
theorem c_way_x (hW : jWd μ) (hn : jI μ 1731 1 = iN n) (h10 : n ≤ 10) (h : ¬ ((∃ l, l < n ∧ x = iN l) ∧ ∃ l, l < n ∧ y = iN l)) : Ex (d + 2) 220 0 [some (.ref 0), some (.int x), some (.int y)] [] μ Q ↔ Q (.inr 2) (jthr μ) := by
  have hnd := fun (d : Nat) (x : Int32) (Q : jO → jM → Prop) => c_needL (d := d) (x := x) (Q := Q) hW
  have hx : jhs 220 = [] := rfl
  by_cases h1 : ∃ l, l < n ∧ x = iN l
  · have hj2 : jhas y (iN n) 10 = 0 := jhas_no (fun q => h ⟨h1, q⟩) h10 (by decide)
    obtain ⟨l, hl, rfl⟩ := h1
    have hj : jhas (iN l) (iN n) 10 = 1 := jhas_in hl h10 (by decide)
    simp only [x220_0, x220_1, x220_2, x220_5, x220_6, x220_7, x220_10, x220_11, x220_14, x220_15, x220_16, x220_19, x220_20, x220_23, x220_26, x220_29, mzi, mInc, mne, mlt9, mrk, mI1, mI2, mI3, mI4, mL1, mL2, mL3, mL4, mQ1, mQ2, mQ3, mQ4, mT1, mcat0, mcat1, mcat2, mcat3, mcat4, mrf1, jK_v, jK_n, JA, mz1, if_true, if_false, ite_true, ite_false, eq_self, not_false_eq_true, Nat.zero_le, true_and, and_true, and_self, Nat.reduceMod, Nat.reduceAdd, Nat.reduceLeDiff, Nat.reduceEqDiff, Nat.reduceLT, hnd, hn, hj, hj2, hx, jK_x]
  · have hj : jhas x (iN n) 10 = 0 := jhas_no h1 h10 (by decide)
    simp only [x220_0, x220_1, x220_2, x220_5, x220_6, x220_7, x220_10, x220_11, x220_14, x220_15, x220_16, x220_19, x220_20, x220_23, x220_26, x220_29, mzi, mInc, mne, mlt9, mrk, mI1, mI2, mI3, mI4, mL1, mL2, mL3, mL4, mQ1, mQ2, mQ3, mQ4, mT1, mcat0, mcat1, mcat2, mcat3, mcat4, mrf1, jK_v, jK_n, JA, mz1, if_true, if_false, ite_true, ite_false, eq_self, not_false_eq_true, Nat.zero_le, true_and, and_true, and_self, Nat.reduceMod, Nat.reduceAdd, Nat.reduceLeDiff, Nat.reduceEqDiff, Nat.reduceLT, hnd, hn, hj, hx, jK_x]
theorem d_way_x (hM : jMp μ p) (hn : jI μ (64 * p + 11) 2 = iN n) (h10 : n ≤ 10) (h : ¬ ((∃ l, l < n ∧ x = iN l) ∧ ∃ l, l < n ∧ y = iN l)) : Ex (d + 2) 227 0 [some (.ref 4490), some (.int x), some (.int y)] [] μ Q ↔ Q (.inl (some (.int 0))) (jsI (jsI μ 4490 0 0) 4490 0 1) := by
  have hf := hM.2.1
  have hM' : jMp (jsI μ 4490 0 0) p := by rw [jMp_I]; exact hM
  have hn' : jI (jsI μ 4490 0 0) (64 * p + 11) 2 = iN n := by rw [mI2 (by omega)]; exact hn
  have hL := fun (d : Nat) (x : Int32) (Q : jO → jM → Prop) => d_isL (d := d) (x := x) (Q := Q) hM' hn' h10
  have hno := fun (d : Nat) (μ : jM) (k : Int32) (Q : jO → jM → Prop) => d_no (d := d) (μ := μ) (k := k) (Q := Q)
  by_cases h1 : ∃ l, l < n ∧ x = iN l
  · have hj2 : jhas y (iN n) 10 = 0 := jhas_no (fun q => h ⟨h1, q⟩) h10 (by decide)
    obtain ⟨l, hl, rfl⟩ := h1
    have hj : jhas (iN l) (iN n) 10 = 1 := jhas_in hl h10 (by decide)
    simp only [x227_0, x227_1, x227_2, x227_5, x227_6, x227_7, x227_10, x227_13, x227_14, x227_15, x227_18, x227_21, x227_22, x227_25, x227_26, x227_29, x227_32, x227_33, x227_34, x227_35, x227_38, x227_41, x227_42, x227_43, x227_46, x227_49, x227_50, x227_51, x227_54, mzi, mInc, mne, mlt9, mrk, mI1, mI2, mI3, mI4, mL1, mL2, mL3, mL4, mQ1, mQ2, mQ3, mQ4, mT1, mcat0, mcat1, mcat2, mcat3, mcat4, mrf1, jK_v, jK_n, JA, mz1, if_true, if_false, ite_true, ite_false, eq_self, not_false_eq_true, Nat.zero_le, true_and, and_true, and_self, Nat.reduceMod, Nat.reduceAdd, Nat.reduceLeDiff, Nat.reduceEqDiff, Nat.reduceLT, hL, hj, hj2, hno]
  · have hj : jhas x (iN n) 10 = 0 := jhas_no h1 h10 (by decide)
    simp only [x227_0, x227_1, x227_2, x227_5, x227_6, x227_7, x227_10, x227_13, x227_14, x227_15, x227_18, x227_21, x227_22, x227_25, x227_26, x227_29, x227_32, x227_33, x227_34, x227_35, x227_38, x227_41, x227_42, x227_43, x227_46, x227_49, x227_50, x227_51, x227_54, mzi, mInc, mne, mlt9, mrk, mI1, mI2, mI3, mI4, mL1, mL2, mL3, mL4, mQ1, mQ2, mQ3, mQ4, mT1, mcat0, mcat1, mcat2, mcat3, mcat4, mrf1, jK_v, jK_n, JA, mz1, if_true, if_false, ite_true, ite_false, eq_self, not_false_eq_true, Nat.zero_le, true_and, and_true, and_self, Nat.reduceMod, Nat.reduceAdd, Nat.reduceLeDiff, Nat.reduceEqDiff, Nat.reduceLT, hL, hj, hno]
theorem c_way (hP : jPl μ m n t L K) (ha : a < n) (hb : b < n) : Ex (d + 11) 220 0 [some (.ref 0), some (.int (iN a)), some (.int (iN b))] [] μ Q ↔ Q (.inl (some (.int (kWyA μ m n t L K a b 4)))) (kWyM μ m n t L K a b) := by
  have hlw := fun (d : Nat) (Q : jO → jM → Prop) => c_lookWn (d := d) (a := a) (b := b) (Q := Q) hP ha hb
  have hq : jQ (jsR (kShMn μ n L K) 3400 (kLook (jI μ 2064) (jI μ 2128) (jI μ 2256) t (jI μ 1872 a) (jI μ 1872 b) (kFreen μ n m) (kOpenn μ n t L K) (jI μ 3400))) = jQ μ := rfl
  have hr : jI (jsR (kShMn μ n L K) 3400 (kLook (jI μ 2064) (jI μ 2128) (jI μ 2256) t (jI μ 1872 a) (jI μ 1872 b) (kFreen μ n m) (kOpenn μ n t L K) (jI μ 3400))) 3400 = kLook (jI μ 2064) (jI μ 2128) (jI μ 2256) t (jI μ 1872 a) (jI μ 1872 b) (kFreen μ n m) (kOpenn μ n t L K) (jI μ 3400) := mR1
  obtain ⟨hW, P2, P3, hn, h10, _⟩ := hP
  have hw := hW
  unfold jWd at hw
  have hnd := fun (d : Nat) (x : Int32) (Q : jO → jM → Prop) => c_needL (d := d) (x := x) (Q := Q) hW
  have hj : jhas (iN a) (iN n) 10 = 1 := jhas_in ha h10 (by decide)
  have hj2 : jhas (iN b) (iN n) 10 = 1 := jhas_in hb h10 (by decide)
  simp only [x220_0, x220_1, x220_2, x220_5, x220_6, x220_7, x220_10, x220_11, x220_14, x220_15, x220_16, x220_19, x220_20, x220_23, x220_26, x220_29, mzi, mInc, mne, mlt9, mrk, mI1, mI2, mI3, mI4, mL1, mL2, mL3, mL4, mQ1, mQ2, mQ3, mQ4, mT1, mcat0, mcat1, mcat2, mcat3, mcat4, mrf1, jK_v, jK_n, JA, mz1, if_true, if_false, ite_true, ite_false, eq_self, not_false_eq_true, Nat.zero_le, true_and, and_true, and_self, Nat.reduceMod, Nat.reduceAdd, Nat.reduceLeDiff, Nat.reduceEqDiff, Nat.reduceLT, hw, hnd, hn, hj, hj2, hlw, hq, hr]
  rfl
theorem c_through_x (hW : jWd μ) (hn : jI μ 1731 1 = iN n) (h10 : n ≤ 10) (h : ¬ ((∃ l, l < n ∧ x = iN l) ∧ ∃ l, l < n ∧ y = iN l)) : Ex (d + 2) 231 0 [some (.ref 0), some (.int x), some (.int y)] [] μ Q ↔ Q (.inr 2) (jthr μ) := by
  have hnd := fun (d : Nat) (x : Int32) (Q : jO → jM → Prop) => c_needL (d := d) (x := x) (Q := Q) hW
  have hx : jhs 231 = [] := rfl
  by_cases h1 : ∃ l, l < n ∧ x = iN l
  · have hj2 : jhas y (iN n) 10 = 0 := jhas_no (fun q => h ⟨h1, q⟩) h10 (by decide)
    obtain ⟨l, hl, rfl⟩ := h1
    have hj : jhas (iN l) (iN n) 10 = 1 := jhas_in hl h10 (by decide)
    simp only [x231_0, x231_1, x231_2, x231_5, x231_6, x231_7, x231_10, x231_11, x231_14, x231_15, x231_16, x231_19, x231_20, x231_23, x231_26, x231_29, mzi, mInc, mne, mlt9, mrk, mI1, mI2, mI3, mI4, mL1, mL2, mL3, mL4, mQ1, mQ2, mQ3, mQ4, mT1, mcat0, mcat1, mcat2, mcat3, mcat4, mrf1, jK_v, jK_n, JA, mz1, if_true, if_false, ite_true, ite_false, eq_self, not_false_eq_true, Nat.zero_le, true_and, and_true, and_self, Nat.reduceMod, Nat.reduceAdd, Nat.reduceLeDiff, Nat.reduceEqDiff, Nat.reduceLT, hnd, hn, hj, hj2, hx, jK_x]
  · have hj : jhas x (iN n) 10 = 0 := jhas_no h1 h10 (by decide)
    simp only [x231_0, x231_1, x231_2, x231_5, x231_6, x231_7, x231_10, x231_11, x231_14, x231_15, x231_16, x231_19, x231_20, x231_23, x231_26, x231_29, mzi, mInc, mne, mlt9, mrk, mI1, mI2, mI3, mI4, mL1, mL2, mL3, mL4, mQ1, mQ2, mQ3, mQ4, mT1, mcat0, mcat1, mcat2, mcat3, mcat4, mrf1, jK_v, jK_n, JA, mz1, if_true, if_false, ite_true, ite_false, eq_self, not_false_eq_true, Nat.zero_le, true_and, and_true, and_self, Nat.reduceMod, Nat.reduceAdd, Nat.reduceLeDiff, Nat.reduceEqDiff, Nat.reduceLT, hnd, hn, hj, hx, jK_x]
theorem d_through_x (hM : jMp μ p) (hn : jI μ (64 * p + 11) 2 = iN n) (h10 : n ≤ 10) (h : ¬ ((∃ l, l < n ∧ x = iN l) ∧ ∃ l, l < n ∧ y = iN l)) : Ex (d + 2) 232 0 [some (.ref 4490), some (.int x), some (.int y)] [] μ Q ↔ Q (.inl (some (.int 0))) (jsI (jsI μ 4490 0 0) 4490 0 1) := by
  have hf := hM.2.1
  have hM' : jMp (jsI μ 4490 0 0) p := by rw [jMp_I]; exact hM
  have hn' : jI (jsI μ 4490 0 0) (64 * p + 11) 2 = iN n := by rw [mI2 (by omega)]; exact hn
  have hL := fun (d : Nat) (x : Int32) (Q : jO → jM → Prop) => d_isL (d := d) (x := x) (Q := Q) hM' hn' h10
  have hno := fun (d : Nat) (μ : jM) (k : Int32) (Q : jO → jM → Prop) => d_no (d := d) (μ := μ) (k := k) (Q := Q)
  by_cases h1 : ∃ l, l < n ∧ x = iN l
  · have hj2 : jhas y (iN n) 10 = 0 := jhas_no (fun q => h ⟨h1, q⟩) h10 (by decide)
    obtain ⟨l, hl, rfl⟩ := h1
    have hj : jhas (iN l) (iN n) 10 = 1 := jhas_in hl h10 (by decide)
    simp only [x232_0, x232_1, x232_2, x232_5, x232_6, x232_7, x232_10, x232_13, x232_14, x232_15, x232_18, x232_21, x232_22, x232_23, x232_26, x232_27, x232_28, x232_31, x232_32, x232_35, x232_38, x232_39, x232_40, x232_41, x232_44, x232_47, x232_48, x232_49, x232_52, x232_53, x232_56, x232_57, x232_60, x232_61, x232_64, x232_67, mzi, mInc, mne, mlt9, mrk, mI1, mI2, mI3, mI4, mL1, mL2, mL3, mL4, mQ1, mQ2, mQ3, mQ4, mT1, mcat0, mcat1, mcat2, mcat3, mcat4, mrf1, jK_v, jK_n, JA, mz1, if_true, if_false, ite_true, ite_false, eq_self, not_false_eq_true, Nat.zero_le, true_and, and_true, and_self, Nat.reduceMod, Nat.reduceAdd, Nat.reduceLeDiff, Nat.reduceEqDiff, Nat.reduceLT, hL, hj, hj2, hno]
  · have hj : jhas x (iN n) 10 = 0 := jhas_no h1 h10 (by decide)
    simp only [x232_0, x232_1, x232_2, x232_5, x232_6, x232_7, x232_10, x232_13, x232_14, x232_15, x232_18, x232_21, x232_22, x232_23, x232_26, x232_27, x232_28, x232_31, x232_32, x232_35, x232_38, x232_39, x232_40, x232_41, x232_44, x232_47, x232_48, x232_49, x232_52, x232_53, x232_56, x232_57, x232_60, x232_61, x232_64, x232_67, mzi, mInc, mne, mlt9, mrk, mI1, mI2, mI3, mI4, mL1, mL2, mL3, mL4, mQ1, mQ2, mQ3, mQ4, mT1, mcat0, mcat1, mcat2, mcat3, mcat4, mrf1, jK_v, jK_n, JA, mz1, if_true, if_false, ite_true, ite_false, eq_self, not_false_eq_true, Nat.zero_le, true_and, and_true, and_self, Nat.reduceMod, Nat.reduceAdd, Nat.reduceLeDiff, Nat.reduceEqDiff, Nat.reduceLT, hL, hj, hno]
theorem c_through (hP : jPl μ m n t L K) (ha : a < n) (hb : b < n) : Ex (d + 11) 231 0 [some (.ref 0), some (.int (iN a)), some (.int (iN b))] [] μ Q ↔ Q (.inl (some (.int (kWyA μ m n t L K a b 5)))) (kWyM μ m n t L K a b) := by
  have hlw := fun (d : Nat) (Q : jO → jM → Prop) => c_lookWn (d := d) (a := a) (b := b) (Q := Q) hP ha hb
  have hq : jQ (jsR (kShMn μ n L K) 3400 (kLook (jI μ 2064) (jI μ 2128) (jI μ 2256) t (jI μ 1872 a) (jI μ 1872 b) (kFreen μ n m) (kOpenn μ n t L K) (jI μ 3400))) = jQ μ := rfl
  have hr : jI (jsR (kShMn μ n L K) 3400 (kLook (jI μ 2064) (jI μ 2128) (jI μ 2256) t (jI μ 1872 a) (jI μ 1872 b) (kFreen μ n m) (kOpenn μ n t L K) (jI μ 3400))) 3400 = kLook (jI μ 2064) (jI μ 2128) (jI μ 2256) t (jI μ 1872 a) (jI μ 1872 b) (kFreen μ n m) (kOpenn μ n t L K) (jI μ 3400) := mR1
  obtain ⟨hW, P2, P3, hn, h10, _⟩ := hP
  have hw := hW
  unfold jWd at hw
  have hnd := fun (d : Nat) (x : Int32) (Q : jO → jM → Prop) => c_needL (d := d) (x := x) (Q := Q) hW
  have hj : jhas (iN a) (iN n) 10 = 1 := jhas_in ha h10 (by decide)
  have hj2 : jhas (iN b) (iN n) 10 = 1 := jhas_in hb h10 (by decide)
  simp only [x231_0, x231_1, x231_2, x231_5, x231_6, x231_7, x231_10, x231_11, x231_14, x231_15, x231_16, x231_19, x231_20, x231_23, x231_26, x231_29, mzi, mInc, mne, mlt9, mrk, mI1, mI2, mI3, mI4, mL1, mL2, mL3, mL4, mQ1, mQ2, mQ3, mQ4, mT1, mcat0, mcat1, mcat2, mcat3, mcat4, mrf1, jK_v, jK_n, JA, mz1, if_true, if_false, ite_true, ite_false, eq_self, not_false_eq_true, Nat.zero_le, true_and, and_true, and_self, Nat.reduceMod, Nat.reduceAdd, Nat.reduceLeDiff, Nat.reduceEqDiff, Nat.reduceLT, hw, hnd, hn, hj, hj2, hlw, hq, hr]
  rfl

def kWyN (ν : jM) (p n t nh : Nat) (T : Nat → List (Nat × Int32)) (u : Nat) (z : Int32) : jM := jsR (jsR ν 5836 (kWay_s ν p n t nh T u z).1) 6680 (kWay_s ν p n t nh T u z).2
theorem jSc_wn {u : Nat} {z : Int32} : jSc ν (kWyN ν p n t nh T u z) := by
  refine jSc_t (μ2 := jsR ν 5836 (kWay_s ν p n t nh T u z).1) ⟨fun c _ nn => mR2 (by unfold kScr at nn; omega), by rw [mR2 (by decide)], fun k _ => by rw [mR2 (by decide)], fun k hk => by rw [mR1, kWay_0s hk], fun _ _ => rfl, Nat.le_refl _⟩ (jSc_R (by omega))
theorem d_way {u : Nat} (hR : jRP A μ p m n t L K nh T) (ha : a < n) (hb : b < n) (hu : jI μ (64 * p + 144) a = iN u) (hum : u < m) : Ex (d + 14) 227 0 [some (.ref 4490), some (.int (iN a)), some (.int (iN b))] [] μ Q ↔ Q (.inl (some (.int ((kWay_s (jsI μ 4490 0 0) p n t nh T u (jI μ (64 * p + 144) b)).1 15)))) (kWyN (jsI μ 4490 0 0) p n t nh T u (jI μ (64 * p + 144) b)) := by
  have hM := hR.2.1
  have hf := hM.2.1
  have h10 := hR.1.2.2.2.2.1
  have h6 := hR.1.2.2.1
  have hM' : jMp (jsI μ 4490 0 0) p := by rw [jMp_I]; exact hM
  have hn' : jI (jsI μ 4490 0 0) (64 * p + 11) 2 = iN n := by rw [mI2 (by omega)]; exact hR.2.2.2.1
  have ht' : jI (jsI μ 4490 0 0) (64 * p + 11) 6 = iN t := by rw [mI2 (by omega)]; exact hR.2.2.2.2.1
  have hTt : jMt (jsI μ 4490 0 0) p nh T := by
    have hT := hR.2.2.2.2.2.1
    unfold jMt at hT ⊢
    rw [mI2 (by omega), mI2 (by omega), mI2 (by omega), mI2 (by omega)]
    exact hT
  have hs := hR.2.2.2.2.2.2.2.2.2.2.1
  have hway := fun (d : Nat) (Q : jO → jM → Prop) => d_ways (d := d) (u := u) (z := jI μ (64 * p + 144) b) (Q := Q) hM' hn' h10 ht' hR.1.2.2.2.2.2.2.1 hTt (fun k hk => by
    obtain ⟨e1, e2, ⟨v, hv, ev⟩, _⟩ := hs k hk
    rw [mI2 (by omega), ← e1]
    exact ⟨v, by omega, ev⟩) (fun k hk => by
    obtain ⟨e1, e2, _, ⟨v, hv, ev⟩, _⟩ := hs k hk
    rw [mI2 (by omega), ← e2]
    exact ⟨v, by omega, ev⟩) (show u < 6 by omega)
  have hL := fun (d : Nat) (x : Int32) (Q : jO → jM → Prop) => d_isL (d := d) (x := x) (Q := Q) hM' hn' h10
  have hj : jhas (iN a) (iN n) 10 = 1 := jhas_in ha h10 (by decide)
  have hj2 : jhas (iN b) (iN n) 10 = 1 := jhas_in hb h10 (by decide)
  obtain ⟨hW, hp2, hpl, hq⟩ := hM
  have hw := hW
  unfold jWd at hw
  unfold jMq at hq
  have jp := JP p
  have jpm := JPm p
  have n1 : ¬ 64 * p + 144 = 4490 := by omega
  have la : (iN a).toNatClampNeg = a := iN_cl (by omega)
  have lja : jin (iN a) 10 = true := iN_in (by omega) (by omega)
  have lb : (iN b).toNatClampNeg = b := iN_cl (by omega)
  have ljb : jin (iN b) 10 = true := iN_in (by omega) (by omega)
  simp only [x227_0, x227_1, x227_2, x227_5, x227_6, x227_7, x227_10, x227_13, x227_14, x227_15, x227_18, x227_21, x227_22, x227_25, x227_26, x227_29, x227_32, x227_33, x227_34, x227_35, x227_38, x227_41, x227_42, x227_43, x227_46, x227_49, x227_50, x227_51, x227_54, mzi, mInc, mne, mlt9, mrk, mI1, mI2, mI3, mI4, mL1, mL2, mL3, mL4, mQ1, mQ2, mQ3, mQ4, mT1, mcat0, mcat1, mcat2, mcat3, mcat4, mrf1, jK_v, jK_n, JA, mz1, if_true, if_false, ite_true, ite_false, eq_self, not_false_eq_true, Nat.zero_le, true_and, and_true, and_self, Nat.reduceMod, Nat.reduceAdd, Nat.reduceLeDiff, Nat.reduceEqDiff, Nat.reduceLT, hw, hpl, hq, jp, jpm, hL, hj, hj2, la, lja, lb, ljb, n1, hu, hway]
  rfl
theorem d_through {u : Nat} (hR : jRP A μ p m n t L K nh T) (ha : a < n) (hb : b < n) (hu : jI μ (64 * p + 144) a = iN u) (hum : u < m) : Ex (d + 14) 232 0 [some (.ref 4490), some (.int (iN a)), some (.int (iN b))] [] μ Q ↔ Q (.inl (some (.int (if (kWay_s (jsI μ 4490 0 0) p n t nh T u (jI μ (64 * p + 144) b)).1 15 = -1 then 0 else (kWay_s (jsI μ 4490 0 0) p n t nh T u (jI μ (64 * p + 144) b)).1 18)))) (kWyN (jsI μ 4490 0 0) p n t nh T u (jI μ (64 * p + 144) b)) := by
  have hM := hR.2.1
  have hf := hM.2.1
  have h10 := hR.1.2.2.2.2.1
  have h6 := hR.1.2.2.1
  have hM' : jMp (jsI μ 4490 0 0) p := by rw [jMp_I]; exact hM
  have hn' : jI (jsI μ 4490 0 0) (64 * p + 11) 2 = iN n := by rw [mI2 (by omega)]; exact hR.2.2.2.1
  have ht' : jI (jsI μ 4490 0 0) (64 * p + 11) 6 = iN t := by rw [mI2 (by omega)]; exact hR.2.2.2.2.1
  have hTt : jMt (jsI μ 4490 0 0) p nh T := by
    have hT := hR.2.2.2.2.2.1
    unfold jMt at hT ⊢
    rw [mI2 (by omega), mI2 (by omega), mI2 (by omega), mI2 (by omega)]
    exact hT
  have hs := hR.2.2.2.2.2.2.2.2.2.2.1
  have hway : ∀ (d : Nat) (Q : jO → jM → Prop), Ex (d + 13) 228 0 [some (.ref 5836), some (.int (iN u)), some (.int (jI μ (64 * p + 144) b))] [] (jsI μ 4490 0 0) Q ↔ Q (.inl (some (.int ((kWay_s (jsI μ 4490 0 0) p n t nh T u (jI μ (64 * p + 144) b)).1 15)))) (kWyN (jsI μ 4490 0 0) p n t nh T u (jI μ (64 * p + 144) b)) := fun d Q => d_ways (d := d) (u := u) (z := jI μ (64 * p + 144) b) (Q := Q) hM' hn' h10 ht' hR.1.2.2.2.2.2.2.1 hTt (fun k hk => by
    obtain ⟨e1, e2, ⟨v, hv, ev⟩, _⟩ := hs k hk
    rw [mI2 (by omega), ← e1]
    exact ⟨v, by omega, ev⟩) (fun k hk => by
    obtain ⟨e1, e2, _, ⟨v, hv, ev⟩, _⟩ := hs k hk
    rw [mI2 (by omega), ← e2]
    exact ⟨v, by omega, ev⟩) (show u < 6 by omega)
  have hL := fun (d : Nat) (x : Int32) (Q : jO → jM → Prop) => d_isL (d := d) (x := x) (Q := Q) hM' hn' h10
  have hj : jhas (iN a) (iN n) 10 = 1 := jhas_in ha h10 (by decide)
  have hj2 : jhas (iN b) (iN n) 10 = 1 := jhas_in hb h10 (by decide)
  have hqn : jQ (kWyN (jsI μ 4490 0 0) p n t nh T u (jI μ (64 * p + 144) b)) = jQ μ := rfl
  have h18 : jI (kWyN (jsI μ 4490 0 0) p n t nh T u (jI μ (64 * p + 144) b)) 5836 18 = (kWay_s (jsI μ 4490 0 0) p n t nh T u (jI μ (64 * p + 144) b)).1 18 := by
    unfold kWyN
    rw [mR2 (by decide), mR1]
  obtain ⟨hW, hp2, hpl, hq⟩ := hM
  have hw := hW
  unfold jWd at hw
  unfold jMq at hq
  have jp := JP p
  have jpm := JPm p
  have n1 : ¬ 64 * p + 144 = 4490 := by omega
  have la : (iN a).toNatClampNeg = a := iN_cl (by omega)
  have lja : jin (iN a) 10 = true := iN_in (by omega) (by omega)
  have lb : (iN b).toNatClampNeg = b := iN_cl (by omega)
  have ljb : jin (iN b) 10 = true := iN_in (by omega) (by omega)
  by_cases g : (kWay_s (jsI μ 4490 0 0) p n t nh T u (jI μ (64 * p + 144) b)).1 15 = -1
  · simp only [x232_0, x232_1, x232_2, x232_5, x232_6, x232_7, x232_10, x232_13, x232_14, x232_15, x232_18, x232_21, x232_22, x232_23, x232_26, x232_27, x232_28, x232_31, x232_32, x232_35, x232_38, x232_39, x232_40, x232_41, x232_44, x232_47, x232_48, x232_49, x232_52, x232_53, x232_56, x232_57, x232_60, x232_61, x232_64, x232_67, mzi, mInc, mne, mlt9, mrk, mI1, mI2, mI3, mI4, mL1, mL2, mL3, mL4, mQ1, mQ2, mQ3, mQ4, mT1, mcat0, mcat1, mcat2, mcat3, mcat4, mrf1, jK_v, jK_n, JA, mz1, if_true, if_false, ite_true, ite_false, eq_self, not_false_eq_true, Nat.zero_le, true_and, and_true, and_self, Nat.reduceMod, Nat.reduceAdd, Nat.reduceLeDiff, Nat.reduceEqDiff, Nat.reduceLT, hw, hpl, hq, jp, jpm, hL, hj, hj2, la, lja, lb, ljb, n1, hu, hway, g]
  · simp only [x232_0, x232_1, x232_2, x232_5, x232_6, x232_7, x232_10, x232_13, x232_14, x232_15, x232_18, x232_21, x232_22, x232_23, x232_26, x232_27, x232_28, x232_31, x232_32, x232_35, x232_38, x232_39, x232_40, x232_41, x232_44, x232_47, x232_48, x232_49, x232_52, x232_53, x232_56, x232_57, x232_60, x232_61, x232_64, x232_67, mzi, mInc, mne, mlt9, mrk, mI1, mI2, mI3, mI4, mL1, mL2, mL3, mL4, mQ1, mQ2, mQ3, mQ4, mT1, mcat0, mcat1, mcat2, mcat3, mcat4, mrf1, jK_v, jK_n, JA, mz1, if_true, if_false, ite_true, ite_false, eq_self, not_false_eq_true, Nat.zero_le, true_and, and_true, and_self, Nat.reduceMod, Nat.reduceAdd, Nat.reduceLeDiff, Nat.reduceEqDiff, Nat.reduceLT, hw, hpl, hq, jp, jpm, hL, hj, hj2, la, lja, lb, ljb, n1, hu, hway, g, hqn, h18]
theorem op_way (x y : Int32) (hJ : jJp μ p m n t L K nh T w mk sz) : jPair μ 219 227 [some (.ref 0), some (.int x), some (.int y), some (.ref 7647), none] [some (.ref 4490), some (.int x), some (.int y)] := by
  have hJ' := hJ
  obtain ⟨h09, ⟨z1, z2⟩, h120, hR, hX, hp⟩ := hJ'
  have hW : jWd μ := hR.1.1
  obtain ⟨P1, P2, P3, P4, P5, P6, P7, _⟩ := hR.1
  by_cases h1 : (∃ l, l < n ∧ x = iN l) ∧ ∃ l, l < n ∧ y = iN l
  · obtain ⟨⟨a, ha, rfl⟩, b, hb, rfl⟩ := h1
    have eA := fun (Q : jO → jM → Prop) => c_way (d := 48 + 89) (Q := Q) hR.1 ha hb
    generalize hv : kWyA μ m n t L K a b 4 = v at eA
    obtain ⟨m1, _⟩ := jJp_mix (ν := jsL (kWyM μ m n t L K a b) 7647 0 v.toInt64) (jSc_t jSc_wy jSc_L) hJ
    obtain ⟨m3, m4⟩ := jJp_mix (ν := jsI (jsL (kWyM μ m n t L K a b) 7647 0 v.toInt64) 4490 0 0) (jSc_t (jSc_t jSc_wy jSc_L) jSc_0) hJ
    have hr := m1.2.2.2.2.2.2.2.2.1
    obtain ⟨u, hu, eu⟩ := (hr a ha).2.1
    have eB := fun (Q : jO → jM → Prop) => d_way (d := 48 + 87) (Q := Q) m1 ha hb ((hr a ha).1.symm.trans eu) hu
    have hk := kWay_eqn m3 (seen_of m4) hu (z := jI μ 1872 b) (W := jI μ 3400)
    rw [← (hr b hb).1, ← hk.1, ← eu] at eB
    have hv2 : kLook (jI μ 2064) (jI μ 2128) (jI μ 2256) t (jI μ 1872 a) (jI μ 1872 b) (kFreen μ n m) (kOpenn μ n t L K) (jI μ 3400) 4 = v := hv
    rw [hv2] at eB
    refine pair_0 hJ v jSc_wy rfl rfl (fun Q => l_way_v (d := 48 + 100) eA) jSc_wn ?_ ?_ ?_ ?_ eB
    · unfold kWyN
      rw [mR2 (by decide), mR2 (by decide), mI1, if_pos rfl]
    · unfold kWyN
      rw [mR3.1, mR3.1, mI3, mL1, if_pos rfl]
    · exact Nat.le_add_right _ _
    · exact Nat.le_add_right _ _
  · have eA := fun (Q : jO → jM → Prop) => c_way_x (d := 48 + 98) (μ := μ) (Q := Q) hW P4 P5 h1
    have eB := fun (Q : jO → jM → Prop) => d_way_x (d := 48 + 99) (μ := jthr μ) (x := x) (y := y) (Q := Q) (jMp_c rfl hR.2.1) hR.2.2.2.1 P5 h1
    exact pair_no hJ (k := 1) (by decide) (by decide) (fun Q => l_way_2 (d := 48 + 100) eA) eB
theorem op_through (x y : Int32) (hJ : jJp μ p m n t L K nh T w mk sz) : jPair μ 230 232 [some (.ref 0), some (.int x), some (.int y), some (.ref 7647), none] [some (.ref 4490), some (.int x), some (.int y)] := by
  have hJ' := hJ
  obtain ⟨h09, ⟨z1, z2⟩, h120, hR, hX, hp⟩ := hJ'
  have hW : jWd μ := hR.1.1
  obtain ⟨P1, P2, P3, P4, P5, P6, P7, _⟩ := hR.1
  by_cases h1 : (∃ l, l < n ∧ x = iN l) ∧ ∃ l, l < n ∧ y = iN l
  · obtain ⟨⟨a, ha, rfl⟩, b, hb, rfl⟩ := h1
    have eA := fun (Q : jO → jM → Prop) => c_through (d := 48 + 89) (Q := Q) hR.1 ha hb
    generalize hv : kWyA μ m n t L K a b 5 = v at eA
    obtain ⟨m1, _⟩ := jJp_mix (ν := jsL (kWyM μ m n t L K a b) 7647 0 v.toInt64) (jSc_t jSc_wy jSc_L) hJ
    obtain ⟨m3, m4⟩ := jJp_mix (ν := jsI (jsL (kWyM μ m n t L K a b) 7647 0 v.toInt64) 4490 0 0) (jSc_t (jSc_t jSc_wy jSc_L) jSc_0) hJ
    have hr := m1.2.2.2.2.2.2.2.2.1
    obtain ⟨u, hu, eu⟩ := (hr a ha).2.1
    have eB := fun (Q : jO → jM → Prop) => d_through (d := 48 + 87) (Q := Q) m1 ha hb ((hr a ha).1.symm.trans eu) hu
    have hk := kWay_eqn m3 (seen_of m4) hu (z := jI μ 1872 b) (W := jI μ 3400)
    rw [← (hr b hb).1] at eB
    have hv2 : kLook (jI μ 2064) (jI μ 2128) (jI μ 2256) t (iN u) (jI μ 1872 b) (kFreen μ n m) (kOpenn μ n t L K) (jI μ 3400) 5 = v := by rw [← eu]; exact hv
    have hv3 : (if (kWay_s (jsI (jsL (kWyM μ m n t L K a b) 7647 0 v.toInt64) 4490 0 0) p n t nh T u (jI μ 1872 b)).1 15 = -1 then 0 else (kWay_s (jsI (jsL (kWyM μ m n t L K a b) 7647 0 v.toInt64) 4490 0 0) p n t nh T u (jI μ 1872 b)).1 18) = v := by
      obtain ⟨k1, k2⟩ := hk
      rcases k2 with ⟨q1, q2⟩ | ⟨⟨r, hr, q1⟩, _, q3, _⟩
      · rw [← k1, if_pos q1, ← q2, hv2]
      · rw [← k1, if_neg (by rw [q1]; exact fun g => iN_nn (k := r) (by omega) (by rw [g]; decide)), ← q3, hv2]
    rw [hv3] at eB
    refine pair_0 hJ v jSc_wy rfl rfl (fun Q => l_through_v (d := 48 + 100) eA) jSc_wn ?_ ?_ ?_ ?_ eB
    · unfold kWyN
      rw [mR2 (by decide), mR2 (by decide), mI1, if_pos rfl]
    · unfold kWyN
      rw [mR3.1, mR3.1, mI3, mL1, if_pos rfl]
    · exact Nat.le_add_right _ _
    · exact Nat.le_add_right _ _
  · have eA := fun (Q : jO → jM → Prop) => c_through_x (d := 48 + 98) (μ := μ) (Q := Q) hW P4 P5 h1
    have eB := fun (Q : jO → jM → Prop) => d_through_x (d := 48 + 99) (μ := jthr μ) (x := x) (y := y) (Q := Q) (jMp_c rfl hR.2.1) hR.2.2.2.1 P5 h1
    exact pair_no hJ (k := 1) (by decide) (by decide) (fun Q => l_through_2 (d := 48 + 100) eA) eB
end WAYS
section TWO
variable {d p m n t L nh w mk sz r l f k j q a b : Nat} {μ ν μ2 A B : jM} {Q : jO → jM → Prop} {K : Nat → Nat} {T : Nat → List (Nat × Int32)} {x y : Int32} {pn pd : Nat → Int32}
theorem c_most_x1 (hW : jWd μ) (hm : jI μ 1731 0 = iN m) (h6 : m ≤ 6) (h : ¬ ((∃ l, l < m ∧ x = iN l) ∧ ∃ l, l < m ∧ y = iN l)) : Ex (d + 3) 234 0 [some (.ref 0), some (.int x), some (.int y)] [] μ Q ↔ Q (.inr 2) (jthr μ) := by
  have hnd := fun (d : Nat) (x y : Int32) (Q : jO → jM → Prop) => c_need2 (d := d) (x := x) (y := y) (Q := Q) hW
  have hx : jhs 234 = [] := rfl
  by_cases h1 : ∃ l, l < m ∧ x = iN l
  · have hj2 : jhas y (iN m) 6 = 0 := jhas_no (fun q => h ⟨h1, q⟩) h6 (by decide)
    obtain ⟨l, hl, rfl⟩ := h1
    have hj : jhas (iN l) (iN m) 6 = 1 := jhas_in hl h6 (by decide)
    simp only [x234_0, x234_1, x234_2, x234_3, x234_6, x234_7, x234_10, x234_11, x234_12, x234_13, x234_16, mzi, mInc, mne, mlt9, mrk, mI1, mI2, mI3, mI4, mL1, mL2, mL3, mL4, mQ1, mQ2, mQ3, mQ4, mT1, mcat0, mcat1, mcat2, mcat3, mcat4, mrf1, jK_v, jK_n, JA, mz1, if_true, if_false, ite_true, ite_false, eq_self, not_false_eq_true, Nat.zero_le, true_and, and_true, and_self, Nat.reduceMod, Nat.reduceAdd, Nat.reduceLeDiff, Nat.reduceEqDiff, Nat.reduceLT, hnd, hm, hj, hj2, hx, jK_x]
  · have hj : jhas x (iN m) 6 = 0 := jhas_no h1 h6 (by decide)
    simp only [x234_0, x234_1, x234_2, x234_3, x234_6, x234_7, x234_10, x234_11, x234_12, x234_13, x234_16, mzi, mInc, mne, mlt9, mrk, mI1, mI2, mI3, mI4, mL1, mL2, mL3, mL4, mQ1, mQ2, mQ3, mQ4, mT1, mcat0, mcat1, mcat2, mcat3, mcat4, mrf1, jK_v, jK_n, JA, mz1, if_true, if_false, ite_true, ite_false, eq_self, not_false_eq_true, Nat.zero_le, true_and, and_true, and_self, Nat.reduceMod, Nat.reduceAdd, Nat.reduceLeDiff, Nat.reduceEqDiff, Nat.reduceLT, hnd, hm, hj, hx, jK_x]
theorem c_most_x2 (hW : jWd μ) (hm : jI μ 1731 0 = iN m) (h6 : m ≤ 6) (ha : a < m) : Ex (d + 3) 234 0 [some (.ref 0), some (.int (iN a)), some (.int (iN a))] [] μ Q ↔ Q (.inr 1) (jthr μ) := by
  have hnd := fun (d : Nat) (x y : Int32) (Q : jO → jM → Prop) => c_need2 (d := d) (x := x) (y := y) (Q := Q) hW
  have hx : jhs 234 = [] := rfl
  have hj : jhas (iN a) (iN m) 6 = 1 := jhas_in ha h6 (by decide)
  simp only [x234_0, x234_1, x234_2, x234_3, x234_6, x234_7, x234_10, x234_11, x234_12, x234_13, x234_16, mzi, mInc, mne, mlt9, mrk, mI1, mI2, mI3, mI4, mL1, mL2, mL3, mL4, mQ1, mQ2, mQ3, mQ4, mT1, mcat0, mcat1, mcat2, mcat3, mcat4, mrf1, jK_v, jK_n, JA, mz1, if_true, if_false, ite_true, ite_false, eq_self, not_false_eq_true, Nat.zero_le, true_and, and_true, and_self, Nat.reduceMod, Nat.reduceAdd, Nat.reduceLeDiff, Nat.reduceEqDiff, Nat.reduceLT, hnd, hm, hj, hx, jK_x]
theorem d_most_x1 (hM : jMp μ p) (hm : jI μ (64 * p + 11) 0 = iN m) (h6 : m ≤ 6) (h : ¬ ((∃ l, l < m ∧ x = iN l) ∧ ∃ l, l < m ∧ y = iN l)) : Ex (d + 2) 242 0 [some (.ref 4490), some (.int x), some (.int y)] [] μ Q ↔ Q (.inl (some (.int 0))) (jsI (jsI μ 4490 0 0) 4490 0 1) := by
  have hf := hM.2.1
  have hM' : jMp (jsI μ 4490 0 0) p := by rw [jMp_I]; exact hM
  have hm' : jI (jsI μ 4490 0 0) (64 * p + 11) 0 = iN m := by rw [mI2 (by omega)]; exact hm
  have hL := fun (d : Nat) (x : Int32) (Q : jO → jM → Prop) => d_isS (d := d) (x := x) (Q := Q) hM' hm' h6
  have hno := fun (d : Nat) (μ : jM) (k : Int32) (Q : jO → jM → Prop) => d_no (d := d) (μ := μ) (k := k) (Q := Q)
  by_cases h1 : ∃ l, l < m ∧ x = iN l
  · have hj2 : jhas y (iN m) 6 = 0 := jhas_no (fun q => h ⟨h1, q⟩) h6 (by decide)
    obtain ⟨l, hl, rfl⟩ := h1
    have hj : jhas (iN l) (iN m) 6 = 1 := jhas_in hl h6 (by decide)
    simp only [x242_0, x242_1, x242_2, x242_5, x242_6, x242_7, x242_10, x242_13, x242_14, x242_15, x242_18, x242_21, x242_22, x242_23, x242_26, x242_27, x242_28, x242_29, x242_32, x242_33, x242_34, x242_37, x242_40, x242_41, x242_42, x242_43, x242_44, x242_47, mzi, mInc, mne, mlt9, mrk, mI1, mI2, mI3, mI4, mL1, mL2, mL3, mL4, mQ1, mQ2, mQ3, mQ4, mT1, mcat0, mcat1, mcat2, mcat3, mcat4, mrf1, jK_v, jK_n, JA, mz1, if_true, if_false, ite_true, ite_false, eq_self, not_false_eq_true, Nat.zero_le, true_and, and_true, and_self, Nat.reduceMod, Nat.reduceAdd, Nat.reduceLeDiff, Nat.reduceEqDiff, Nat.reduceLT, hL, hj, hj2, hno]
  · have hj : jhas x (iN m) 6 = 0 := jhas_no h1 h6 (by decide)
    simp only [x242_0, x242_1, x242_2, x242_5, x242_6, x242_7, x242_10, x242_13, x242_14, x242_15, x242_18, x242_21, x242_22, x242_23, x242_26, x242_27, x242_28, x242_29, x242_32, x242_33, x242_34, x242_37, x242_40, x242_41, x242_42, x242_43, x242_44, x242_47, mzi, mInc, mne, mlt9, mrk, mI1, mI2, mI3, mI4, mL1, mL2, mL3, mL4, mQ1, mQ2, mQ3, mQ4, mT1, mcat0, mcat1, mcat2, mcat3, mcat4, mrf1, jK_v, jK_n, JA, mz1, if_true, if_false, ite_true, ite_false, eq_self, not_false_eq_true, Nat.zero_le, true_and, and_true, and_self, Nat.reduceMod, Nat.reduceAdd, Nat.reduceLeDiff, Nat.reduceEqDiff, Nat.reduceLT, hL, hj, hno]
theorem d_most_x2 (hM : jMp μ p) (hm : jI μ (64 * p + 11) 0 = iN m) (h6 : m ≤ 6) (ha : a < m) : Ex (d + 2) 242 0 [some (.ref 4490), some (.int (iN a)), some (.int (iN a))] [] μ Q ↔ Q (.inl (some (.int 0))) (jsI (jsI μ 4490 0 0) 4490 0 2) := by
  have hf := hM.2.1
  have hM' : jMp (jsI μ 4490 0 0) p := by rw [jMp_I]; exact hM
  have hm' : jI (jsI μ 4490 0 0) (64 * p + 11) 0 = iN m := by rw [mI2 (by omega)]; exact hm
  have hL := fun (d : Nat) (x : Int32) (Q : jO → jM → Prop) => d_isS (d := d) (x := x) (Q := Q) hM' hm' h6
  have hno := fun (d : Nat) (μ : jM) (k : Int32) (Q : jO → jM → Prop) => d_no (d := d) (μ := μ) (k := k) (Q := Q)
  have hj : jhas (iN a) (iN m) 6 = 1 := jhas_in ha h6 (by decide)
  simp only [x242_0, x242_1, x242_2, x242_5, x242_6, x242_7, x242_10, x242_13, x242_14, x242_15, x242_18, x242_21, x242_22, x242_23, x242_26, x242_27, x242_28, x242_29, x242_32, x242_33, x242_34, x242_37, x242_40, x242_41, x242_42, x242_43, x242_44, x242_47, mzi, mInc, mne, mlt9, mrk, mI1, mI2, mI3, mI4, mL1, mL2, mL3, mL4, mQ1, mQ2, mQ3, mQ4, mT1, mcat0, mcat1, mcat2, mcat3, mcat4, mrf1, jK_v, jK_n, JA, mz1, if_true, if_false, ite_true, ite_false, eq_self, not_false_eq_true, Nat.zero_le, true_and, and_true, and_self, Nat.reduceMod, Nat.reduceAdd, Nat.reduceLeDiff, Nat.reduceEqDiff, Nat.reduceLT, hL, hj, hno]
theorem c_advise_x1 (hW : jWd μ) (hm : jI μ 1731 0 = iN m) (h6 : m ≤ 6) (h : ¬ ((∃ l, l < m ∧ x = iN l) ∧ ∃ l, l < m ∧ y = iN l)) : Ex (d + 3) 253 0 [some (.ref 0), some (.int x), some (.int y), none, none] [] μ Q ↔ Q (.inr 2) (jthr μ) := by
  have hnd := fun (d : Nat) (x y : Int32) (Q : jO → jM → Prop) => c_need2 (d := d) (x := x) (y := y) (Q := Q) hW
  have hx : jhs 253 = [] := rfl
  by_cases h1 : ∃ l, l < m ∧ x = iN l
  · have hj2 : jhas y (iN m) 6 = 0 := jhas_no (fun q => h ⟨h1, q⟩) h6 (by decide)
    obtain ⟨l, hl, rfl⟩ := h1
    have hj : jhas (iN l) (iN m) 6 = 1 := jhas_in hl h6 (by decide)
    simp only [x253_0, x253_1, x253_2, x253_3, x253_6, x253_7, x253_10, x253_11, x253_12, x253_13, x253_16a, x253_16b, x253_16c, x253_17, x253_18a, x253_18b, x253_18c, x253_22, x253_23, x253_26, x253_29, x253_32, x253_33, x253_36, x253_37, x253_38, x253_40, x253_43, x253_44, x253_47, x253_49, x253_50a, x253_50b, x253_50c, x253_53, x253_56, x253_57, mzi, mInc, mne, mlt9, mrk, mI1, mI2, mI3, mI4, mL1, mL2, mL3, mL4, mQ1, mQ2, mQ3, mQ4, mT1, mcat0, mcat1, mcat2, mcat3, mcat4, mrf1, jK_v, jK_n, JA, mz1, if_true, if_false, ite_true, ite_false, eq_self, not_false_eq_true, Nat.zero_le, true_and, and_true, and_self, Nat.reduceMod, Nat.reduceAdd, Nat.reduceLeDiff, Nat.reduceEqDiff, Nat.reduceLT, hnd, hm, hj, hj2, hx, jK_x]
  · have hj : jhas x (iN m) 6 = 0 := jhas_no h1 h6 (by decide)
    simp only [x253_0, x253_1, x253_2, x253_3, x253_6, x253_7, x253_10, x253_11, x253_12, x253_13, x253_16a, x253_16b, x253_16c, x253_17, x253_18a, x253_18b, x253_18c, x253_22, x253_23, x253_26, x253_29, x253_32, x253_33, x253_36, x253_37, x253_38, x253_40, x253_43, x253_44, x253_47, x253_49, x253_50a, x253_50b, x253_50c, x253_53, x253_56, x253_57, mzi, mInc, mne, mlt9, mrk, mI1, mI2, mI3, mI4, mL1, mL2, mL3, mL4, mQ1, mQ2, mQ3, mQ4, mT1, mcat0, mcat1, mcat2, mcat3, mcat4, mrf1, jK_v, jK_n, JA, mz1, if_true, if_false, ite_true, ite_false, eq_self, not_false_eq_true, Nat.zero_le, true_and, and_true, and_self, Nat.reduceMod, Nat.reduceAdd, Nat.reduceLeDiff, Nat.reduceEqDiff, Nat.reduceLT, hnd, hm, hj, hx, jK_x]
theorem c_advise_x2 (hW : jWd μ) (hm : jI μ 1731 0 = iN m) (h6 : m ≤ 6) (ha : a < m) : Ex (d + 3) 253 0 [some (.ref 0), some (.int (iN a)), some (.int (iN a)), none, none] [] μ Q ↔ Q (.inr 1) (jthr μ) := by
  have hnd := fun (d : Nat) (x y : Int32) (Q : jO → jM → Prop) => c_need2 (d := d) (x := x) (y := y) (Q := Q) hW
  have hx : jhs 253 = [] := rfl
  have hj : jhas (iN a) (iN m) 6 = 1 := jhas_in ha h6 (by decide)
  simp only [x253_0, x253_1, x253_2, x253_3, x253_6, x253_7, x253_10, x253_11, x253_12, x253_13, x253_16a, x253_16b, x253_16c, x253_17, x253_18a, x253_18b, x253_18c, x253_22, x253_23, x253_26, x253_29, x253_32, x253_33, x253_36, x253_37, x253_38, x253_40, x253_43, x253_44, x253_47, x253_49, x253_50a, x253_50b, x253_50c, x253_53, x253_56, x253_57, mzi, mInc, mne, mlt9, mrk, mI1, mI2, mI3, mI4, mL1, mL2, mL3, mL4, mQ1, mQ2, mQ3, mQ4, mT1, mcat0, mcat1, mcat2, mcat3, mcat4, mrf1, jK_v, jK_n, JA, mz1, if_true, if_false, ite_true, ite_false, eq_self, not_false_eq_true, Nat.zero_le, true_and, and_true, and_self, Nat.reduceMod, Nat.reduceAdd, Nat.reduceLeDiff, Nat.reduceEqDiff, Nat.reduceLT, hnd, hm, hj, hx, jK_x]
theorem d_advise_x1 (hM : jMp μ p) (hm : jI μ (64 * p + 11) 0 = iN m) (h6 : m ≤ 6) (h : ¬ ((∃ l, l < m ∧ x = iN l) ∧ ∃ l, l < m ∧ y = iN l)) : Ex (d + 2) 254 0 [some (.ref 4490), some (.int x), some (.int y), none, none] [] μ Q ↔ Q (.inl (some (.int 0))) (jsI (jsI μ 4490 0 0) 4490 0 1) := by
  have hf := hM.2.1
  have hM' : jMp (jsI μ 4490 0 0) p := by rw [jMp_I]; exact hM
  have hm' : jI (jsI μ 4490 0 0) (64 * p + 11) 0 = iN m := by rw [mI2 (by omega)]; exact hm
  have hL := fun (d : Nat) (x : Int32) (Q : jO → jM → Prop) => d_isS (d := d) (x := x) (Q := Q) hM' hm' h6
  have hno := fun (d : Nat) (μ : jM) (k : Int32) (Q : jO → jM → Prop) => d_no (d := d) (μ := μ) (k := k) (Q := Q)
  by_cases h1 : ∃ l, l < m ∧ x = iN l
  · have hj2 : jhas y (iN m) 6 = 0 := jhas_no (fun q => h ⟨h1, q⟩) h6 (by decide)
    obtain ⟨l, hl, rfl⟩ := h1
    have hj : jhas (iN l) (iN m) 6 = 1 := jhas_in hl h6 (by decide)
    simp only [x254_0, x254_1, x254_2, x254_5, x254_6, x254_7, x254_10, x254_13, x254_14, x254_15, x254_18, x254_21, x254_22, x254_23, x254_26, x254_27, x254_28, x254_29, x254_32, x254_33, x254_34, x254_37, x254_38, x254_39, x254_40, x254_41, x254_42, x254_45a, x254_45b, x254_45c, x254_46, x254_47a, x254_47b, x254_47c, x254_51, x254_52, x254_55, x254_58, x254_61, x254_62, x254_63, x254_64, x254_66, x254_69, x254_70, x254_73, x254_75, x254_76a, x254_76b, x254_76c, x254_79, x254_82, x254_83, mzi, mInc, mne, mlt9, mrk, mI1, mI2, mI3, mI4, mL1, mL2, mL3, mL4, mQ1, mQ2, mQ3, mQ4, mT1, mcat0, mcat1, mcat2, mcat3, mcat4, mrf1, jK_v, jK_n, JA, mz1, if_true, if_false, ite_true, ite_false, eq_self, not_false_eq_true, Nat.zero_le, true_and, and_true, and_self, Nat.reduceMod, Nat.reduceAdd, Nat.reduceLeDiff, Nat.reduceEqDiff, Nat.reduceLT, hL, hj, hj2, hno]
  · have hj : jhas x (iN m) 6 = 0 := jhas_no h1 h6 (by decide)
    simp only [x254_0, x254_1, x254_2, x254_5, x254_6, x254_7, x254_10, x254_13, x254_14, x254_15, x254_18, x254_21, x254_22, x254_23, x254_26, x254_27, x254_28, x254_29, x254_32, x254_33, x254_34, x254_37, x254_38, x254_39, x254_40, x254_41, x254_42, x254_45a, x254_45b, x254_45c, x254_46, x254_47a, x254_47b, x254_47c, x254_51, x254_52, x254_55, x254_58, x254_61, x254_62, x254_63, x254_64, x254_66, x254_69, x254_70, x254_73, x254_75, x254_76a, x254_76b, x254_76c, x254_79, x254_82, x254_83, mzi, mInc, mne, mlt9, mrk, mI1, mI2, mI3, mI4, mL1, mL2, mL3, mL4, mQ1, mQ2, mQ3, mQ4, mT1, mcat0, mcat1, mcat2, mcat3, mcat4, mrf1, jK_v, jK_n, JA, mz1, if_true, if_false, ite_true, ite_false, eq_self, not_false_eq_true, Nat.zero_le, true_and, and_true, and_self, Nat.reduceMod, Nat.reduceAdd, Nat.reduceLeDiff, Nat.reduceEqDiff, Nat.reduceLT, hL, hj, hno]
theorem d_advise_x2 (hM : jMp μ p) (hm : jI μ (64 * p + 11) 0 = iN m) (h6 : m ≤ 6) (ha : a < m) : Ex (d + 2) 254 0 [some (.ref 4490), some (.int (iN a)), some (.int (iN a)), none, none] [] μ Q ↔ Q (.inl (some (.int 0))) (jsI (jsI μ 4490 0 0) 4490 0 2) := by
  have hf := hM.2.1
  have hM' : jMp (jsI μ 4490 0 0) p := by rw [jMp_I]; exact hM
  have hm' : jI (jsI μ 4490 0 0) (64 * p + 11) 0 = iN m := by rw [mI2 (by omega)]; exact hm
  have hL := fun (d : Nat) (x : Int32) (Q : jO → jM → Prop) => d_isS (d := d) (x := x) (Q := Q) hM' hm' h6
  have hno := fun (d : Nat) (μ : jM) (k : Int32) (Q : jO → jM → Prop) => d_no (d := d) (μ := μ) (k := k) (Q := Q)
  have hj : jhas (iN a) (iN m) 6 = 1 := jhas_in ha h6 (by decide)
  simp only [x254_0, x254_1, x254_2, x254_5, x254_6, x254_7, x254_10, x254_13, x254_14, x254_15, x254_18, x254_21, x254_22, x254_23, x254_26, x254_27, x254_28, x254_29, x254_32, x254_33, x254_34, x254_37, x254_38, x254_39, x254_40, x254_41, x254_42, x254_45a, x254_45b, x254_45c, x254_46, x254_47a, x254_47b, x254_47c, x254_51, x254_52, x254_55, x254_58, x254_61, x254_62, x254_63, x254_64, x254_66, x254_69, x254_70, x254_73, x254_75, x254_76a, x254_76b, x254_76c, x254_79, x254_82, x254_83, mzi, mInc, mne, mlt9, mrk, mI1, mI2, mI3, mI4, mL1, mL2, mL3, mL4, mQ1, mQ2, mQ3, mQ4, mT1, mcat0, mcat1, mcat2, mcat3, mcat4, mrf1, jK_v, jK_n, JA, mz1, if_true, if_false, ite_true, ite_false, eq_self, not_false_eq_true, Nat.zero_le, true_and, and_true, and_self, Nat.reduceMod, Nat.reduceAdd, Nat.reduceLeDiff, Nat.reduceEqDiff, Nat.reduceLT, hL, hj, hno]
end TWO
