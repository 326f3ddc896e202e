/-! THE PURE PART: what calls want; what stays. -/
section NEED
variable {d p : Nat} {μ μ2 : jM} {Q : jO → jM → Prop}
theorem d_isIn {v lo hi : Int32} : Ex d 25 0 [some (.int v), some (.int lo), some (.int hi)] [] μ Q ↔ Q (.inl (some (.int (if v < lo then 0 else if hi < v then 0 else 1)))) μ := by
  simp only [x25_0, x25_1, x25_2, x25_5, x25_6, x25_7, x25_10, x25_11, x25_14, x25_15, mrk]
  repeat' split
  all_goals rfl
theorem iN_sub1 {n : Nat} (h : 0 < n) : iN n - 1 = iN (n - 1) := by
  have e := mInc (k := n - 1)
  rw [show n - 1 + 1 = n by omega] at e
  rw [← e, Int32.add_sub_cancel]
theorem kSz {x : Int32} {n m : Nat} (hn : n ≤ m) (hm : m < 2 ^ 30) : (if x < 0 then (0 : Int32) else if iN n - 1 < x then 0 else 1) = jhas x (iN n) (iN m) := by
  by_cases h : ∃ k, k < n ∧ x = iN k
  · obtain ⟨k, hk, rfl⟩ := h
    rw [jhas_in hk hn (by omega), if_neg (iN_nn (by omega)), iN_sub1 (by omega), if_neg]
    rw [iN_lt (by omega) (by omega)]
    omega
  · rw [jhas_no h hn (by omega)]
    by_cases h0 : x < 0
    · rw [if_pos h0]
    · obtain ⟨k, hk, rfl⟩ := iN_pos h0
      have hnk : n ≤ k := Nat.le_of_not_lt fun q => h ⟨k, q, rfl⟩
      rw [if_neg h0, if_pos]
      by_cases hz : n = 0
      · subst hz
        rw [show (iN 0 - 1 : Int32) = -1 from rfl, Int32.lt_iff_toInt_lt, Int32.toInt_ofNat_of_lt hk]
        show (-1 : Int) < _
        omega
      · rw [iN_sub1 (by omega), iN_lt (by omega) hk]
        omega
theorem c_hasSw {x : Nat} {l : Int32} (h : x % 64 = 3) : Ex d 184 0 [some (.ref x), some (.int l)] [] μ Q ↔ Q (.inl (some (.int (jhas l (jI μ x 0) 6)))) μ := by
  simp only [x184_0, x184_1, x184_4, x184_5, x184_6, x184_9, x184_12, x184_13, x184_15, x184_18, x184_19, x184_22, x184_23, mrk, h]
  unfold jhas
  repeat' split
  all_goals rfl
theorem c_hasTr {x : Nat} {l : Int32} (h : x % 64 = 3) : Ex d 78 0 [some (.ref x), some (.int l)] [] μ Q ↔ Q (.inl (some (.int (jhas l (jI μ x 2) 10)))) μ := by
  simp only [x78_0, x78_1, x78_4, x78_5, x78_6, x78_9, x78_12, x78_13, x78_15, x78_18, x78_19, x78_22, x78_23, mrk, h]
  unfold jhas
  repeat' split
  all_goals rfl
theorem c_needL {x : Int32} (hW : jWd μ) : Ex (d + 1) 153 0 [some (.ref 0), some (.int x)] [] μ Q ↔ if jhas x (jI μ 1731 1) 10 = 0 then Q (.inr 2) (jthr μ) else Q (.inl none) μ := by
  have hw := hW
  unfold jWd at hw
  have hh := fun (d : Nat) (μ : jM) (l : Int32) (Q : jO → jM → Prop) => c_hasLine (d := d) (μ := μ) (x := 1731) (l := l) (Q := Q) (by decide)
  simp only [x153_0, x153_1, x153_4, x153_5, x153_8, x153_11, x153_22, mzi, mInc, mne, mlt9, mrk, mI1, mI2, mI3, mI4, mL1, mL2, mL3, mL4, mQ1, mQ2, mQ3, mQ4, mT1, mcat0, mcat1, mcat2, mcat3, mcat4, mrf1, jK_v, jK_n, JA, mz1, if_true, if_false, ite_true, ite_false, eq_self, not_false_eq_true, Nat.zero_le, true_and, and_true, and_self, Nat.reduceMod, Nat.reduceAdd, Nat.reduceLeDiff, Nat.reduceEqDiff, Nat.reduceLT, hw, hh]
theorem c_needS {x : Int32} (hW : jWd μ) : Ex (d + 1) 183 0 [some (.ref 0), some (.int x)] [] μ Q ↔ if jhas x (jI μ 1731 0) 6 = 0 then Q (.inr 2) (jthr μ) else Q (.inl none) μ := by
  have hw := hW
  unfold jWd at hw
  have hh := fun (d : Nat) (μ : jM) (l : Int32) (Q : jO → jM → Prop) => c_hasSw (d := d) (μ := μ) (x := 1731) (l := l) (Q := Q) (by decide)
  simp only [x183_0, x183_1, x183_4, x183_5, x183_8, x183_11, x183_22, mzi, mInc, mne, mlt9, mrk, mI1, mI2, mI3, mI4, mL1, mL2, mL3, mL4, mQ1, mQ2, mQ3, mQ4, mT1, mcat0, mcat1, mcat2, mcat3, mcat4, mrf1, jK_v, jK_n, JA, mz1, if_true, if_false, ite_true, ite_false, eq_self, not_false_eq_true, Nat.zero_le, true_and, and_true, and_self, Nat.reduceMod, Nat.reduceAdd, Nat.reduceLeDiff, Nat.reduceEqDiff, Nat.reduceLT, hw, hh]
theorem c_needT {x : Int32} (hW : jWd μ) : Ex (d + 1) 197 0 [some (.ref 0), some (.int x)] [] μ Q ↔ if jhas x (jI μ 1731 2) 10 = 0 then Q (.inr 2) (jthr μ) else Q (.inl none) μ := by
  have hw := hW
  unfold jWd at hw
  have hh := fun (d : Nat) (μ : jM) (l : Int32) (Q : jO → jM → Prop) => c_hasTr (d := d) (μ := μ) (x := 1731) (l := l) (Q := Q) (by decide)
  simp only [x197_0, x197_1, x197_4, x197_5, x197_8, x197_11, x197_22, mzi, mInc, mne, mlt9, mrk, mI1, mI2, mI3, mI4, mL1, mL2, mL3, mL4, mQ1, mQ2, mQ3, mQ4, mT1, mcat0, mcat1, mcat2, mcat3, mcat4, mrf1, jK_v, jK_n, JA, mz1, if_true, if_false, ite_true, ite_false, eq_self, not_false_eq_true, Nat.zero_le, true_and, and_true, and_self, Nat.reduceMod, Nat.reduceAdd, Nat.reduceLeDiff, Nat.reduceEqDiff, Nat.reduceLT, hw, hh]
theorem c_need2 {x y : Int32} (hW : jWd μ) : Ex (d + 2) 235 0 [some (.ref 0), some (.int x), some (.int y)] [] μ Q ↔ if jhas x (jI μ 1731 0) 6 = 0 then Q (.inr 2) (jthr μ) else if jhas y (jI μ 1731 0) 6 = 0 then Q (.inr 2) (jthr μ) else if x = y then Q (.inr 1) (jthr μ) else Q (.inl none) μ := by
  have hs := fun (d : Nat) (x : Int32) (Q : jO → jM → Prop) => c_needS (d := d) (μ := μ) (x := x) (Q := Q) hW
  have hx : jhs 235 = [] := rfl
  simp only [x235_0, x235_1, x235_2, x235_5, x235_6, x235_7, x235_10, x235_11, x235_12, x235_15, x235_26, mzi, mInc, mne, mlt9, mrk, mI1, mI2, mI3, mI4, mL1, mL2, mL3, mL4, mQ1, mQ2, mQ3, mQ4, mT1, mcat0, mcat1, mcat2, mcat3, mcat4, mrf1, jK_v, jK_n, JA, mz1, if_true, if_false, ite_true, ite_false, eq_self, not_false_eq_true, Nat.zero_le, true_and, and_true, and_self, Nat.reduceMod, Nat.reduceAdd, Nat.reduceLeDiff, Nat.reduceEqDiff, Nat.reduceLT, hs, hx, jK_x]
theorem c_needK {x : Int32} : Ex d 257 0 [some (.int x)] [] μ Q ↔ if x < 1 then Q (.inr 1) (jthr μ) else if 60 < x then Q (.inr 1) (jthr μ) else Q (.inl none) μ := by
  simp only [x257_0, x257_1, x257_2, x257_5, x257_6, x257_8, x257_11, x257_22, mzi, mInc, mne, mlt9, mrk, mI1, mI2, mI3, mI4, mL1, mL2, mL3, mL4, mQ1, mQ2, mQ3, mQ4, mT1, mcat0, mcat1, mcat2, mcat3, mcat4, mrf1, jK_v, jK_n, JA, mz1, if_true, if_false, ite_true, ite_false, eq_self, not_false_eq_true, Nat.zero_le, true_and, and_true, and_self, Nat.reduceMod, Nat.reduceAdd, Nat.reduceLeDiff, Nat.reduceEqDiff, Nat.reduceLT]
theorem d_isL {x : Int32} {n : Nat} (hM : jMp μ p) (hn : jI μ (64 * p + 11) 2 = iN n) (h10 : n ≤ 10) : Ex (d + 1) 156 0 [some (.ref 4490), some (.int x)] [] μ Q ↔ Q (.inl (some (.int (jhas x (iN n) 10)))) μ := by
  obtain ⟨hW, hp2, hpl, hq⟩ := hM
  have hw := hW
  unfold jWd at hw
  have jp1 := (JPm p).1
  have hh := fun (d : Nat) (μ : jM) (v lo hi : Int32) (Q : jO → jM → Prop) => d_isIn (d := d) (μ := μ) (v := v) (lo := lo) (hi := hi) (Q := Q)
  have hr : jrok 1 (if x < 0 then (0 : Int32) else if iN n - 1 < x then 0 else 1) = true := by
    repeat' split
    all_goals rfl
  simp only [x156_0, x156_1, x156_2, x156_3, x156_6, x156_9, x156_10, x156_11, x156_14, mzi, mInc, mne, mlt9, mrk, mI1, mI2, mI3, mI4, mL1, mL2, mL3, mL4, mQ1, mQ2, mQ3, mQ4, mT1, mcat0, mcat1, mcat2, mcat3, mcat4, mrf1, jK_v, jK_n, JA, mz1, if_true, if_false, ite_true, ite_false, eq_self, not_false_eq_true, Nat.zero_le, true_and, and_true, and_self, Nat.reduceMod, Nat.reduceAdd, Nat.reduceLeDiff, Nat.reduceEqDiff, Nat.reduceLT, hw, hpl, hn, jp1, hh, hr]
  rw [kSz (m := 10) (by omega) (by decide)]
  rfl
theorem d_isS {x : Int32} {n : Nat} (hM : jMp μ p) (hn : jI μ (64 * p + 11) 0 = iN n) (h10 : n ≤ 6) : Ex (d + 1) 192 0 [some (.ref 4490), some (.int x)] [] μ Q ↔ Q (.inl (some (.int (jhas x (iN n) 6)))) μ := by
  obtain ⟨hW, hp2, hpl, hq⟩ := hM
  have hw := hW
  unfold jWd at hw
  have jp1 := (JPm p).1
  have hh := fun (d : Nat) (μ : jM) (v lo hi : Int32) (Q : jO → jM → Prop) => d_isIn (d := d) (μ := μ) (v := v) (lo := lo) (hi := hi) (Q := Q)
  have hr : jrok 1 (if x < 0 then (0 : Int32) else if iN n - 1 < x then 0 else 1) = true := by
    repeat' split
    all_goals rfl
  simp only [x192_0, x192_1, x192_2, x192_3, x192_6, x192_9, x192_10, x192_11, x192_14, mzi, mInc, mne, mlt9, mrk, mI1, mI2, mI3, mI4, mL1, mL2, mL3, mL4, mQ1, mQ2, mQ3, mQ4, mT1, mcat0, mcat1, mcat2, mcat3, mcat4, mrf1, jK_v, jK_n, JA, mz1, if_true, if_false, ite_true, ite_false, eq_self, not_false_eq_true, Nat.zero_le, true_and, and_true, and_self, Nat.reduceMod, Nat.reduceAdd, Nat.reduceLeDiff, Nat.reduceEqDiff, Nat.reduceLT, hw, hpl, hn, jp1, hh, hr]
  rw [kSz (m := 6) (by omega) (by decide)]
  rfl
theorem d_isT {x : Int32} {n : Nat} (hM : jMp μ p) (hn : jI μ (64 * p + 11) 6 = iN n) (h10 : n ≤ 10) : Ex (d + 1) 206 0 [some (.ref 4490), some (.int x)] [] μ Q ↔ Q (.inl (some (.int (jhas x (iN n) 10)))) μ := by
  obtain ⟨hW, hp2, hpl, hq⟩ := hM
  have hw := hW
  unfold jWd at hw
  have jp1 := (JPm p).1
  have hh := fun (d : Nat) (μ : jM) (v lo hi : Int32) (Q : jO → jM → Prop) => d_isIn (d := d) (μ := μ) (v := v) (lo := lo) (hi := hi) (Q := Q)
  have hr : jrok 1 (if x < 0 then (0 : Int32) else if iN n - 1 < x then 0 else 1) = true := by
    repeat' split
    all_goals rfl
  simp only [x206_0, x206_1, x206_2, x206_3, x206_6, x206_9, x206_10, x206_11, x206_14, mzi, mInc, mne, mlt9, mrk, mI1, mI2, mI3, mI4, mL1, mL2, mL3, mL4, mQ1, mQ2, mQ3, mQ4, mT1, mcat0, mcat1, mcat2, mcat3, mcat4, mrf1, jK_v, jK_n, JA, mz1, if_true, if_false, ite_true, ite_false, eq_self, not_false_eq_true, Nat.zero_le, true_and, and_true, and_self, Nat.reduceMod, Nat.reduceAdd, Nat.reduceLeDiff, Nat.reduceEqDiff, Nat.reduceLT, hw, hpl, hn, jp1, hh, hr]
  rw [kSz (m := 10) (by omega) (by decide)]
  rfl
theorem d_no {k : Int32} : Ex d 20 0 [some (.ref 4490), some (.int k)] [] μ Q ↔ Q (.inl (some (.int 0))) (jsI μ 4490 0 k) := by
  simp only [x20_0, x20_1, x20_2, x20_5, x20_6, mzi, mInc, mne, mlt9, mrk, mI1, mI2, mI3, mI4, mL1, mL2, mL3, mL4, mQ1, mQ2, mQ3, mQ4, mT1, mcat0, mcat1, mcat2, mcat3, mcat4, mrf1, jK_v, jK_n, JA, mz1, if_true, if_false, ite_true, ite_false, eq_self, not_false_eq_true, Nat.zero_le, true_and, and_true, and_self, Nat.reduceMod, Nat.reduceAdd, Nat.reduceLeDiff, Nat.reduceEqDiff, Nat.reduceLT]
/-- what holds ahead of each call, with its numbers -/
def jJp (μ : jM) (p m n t L : Nat) (K : Nat → Nat) (nh : Nat) (T : Nat → List (Nat × Int32)) (w mk sz : Nat) : Prop := jI μ 0 9 = jI μ 4490 3 ∧ jTq μ sz ∧ 120 ≤ (jA μ).length ∧ jRP μ μ p m n t L K nh T ∧ jRXn μ μ n w mk (jI μ 1936) (jI μ 2000) ∧ p + 14 ≤ (jA μ).length
/-- rows that tell nothing from one call to the next -/
def kScr (a : Nat) : Prop := a = 2308 ∨ a = 2520 ∨ a = 3400 ∨ (3463 ≤ a ∧ a ≤ 4296) ∨ a = 4361 ∨ a = 4438 ∨ a = 4490 ∨ a = 5836 ∨ a = 6680 ∨ (6732 ≤ a ∧ a ≤ 7576)
def jSc (μ μ2 : jM) : Prop := (∀ a, a < 64 * (jA μ).length → ¬ kScr a → jI μ2 a = jI μ a) ∧ jI μ2 2308 3 = jI μ 2308 3 ∧ (∀ k, ¬ k = 0 → jI μ2 4490 k = jI μ 4490 k) ∧ (∀ k, k < 15 → jI μ2 5836 k = jI μ 5836 k) ∧ (∀ a, a < 64 * (jA μ).length → jQ μ2 a = jQ μ a) ∧ (jA μ).length ≤ (jA μ2).length
variable {m n t L nh w mk sz : Nat} {K : Nat → Nat} {T : Nat → List (Nat × Int32)}
theorem jJ_to (h : jJ μ) : ∃ (p m n t L : Nat) (K : Nat → Nat) (nh : Nat) (T : Nat → List (Nat × Int32)) (w mk sz : Nat), jJp μ p m n t L K nh T w mk sz := by
  obtain ⟨h1, ⟨sz, h2⟩, h3, p, m, n, t, L, K, nh, T, w, mk, h4, h5, h6⟩ := h
  exact ⟨p, m, n, t, L, K, nh, T, w, mk, sz, h1, h2, h3, h4, h5, h6⟩
theorem jJ_of (h : jJp μ p m n t L K nh T w mk sz) : jJ μ := by
  obtain ⟨h1, h2, h3, h4, h5, h6⟩ := h
  exact ⟨h1, ⟨sz, h2⟩, h3, p, m, n, t, L, K, nh, T, w, mk, h4, h5, h6⟩
theorem jSc_p (h : jSc μ μ2) (hJ : jJp μ p m n t L K nh T w mk sz) : jJp μ2 p m n t L K nh T w mk sz := by
  obtain ⟨s1, s2, s3, s4, s5, s6⟩ := h
  obtain ⟨h1, h2, h3, h4, h5, h6⟩ := hJ
  have q : ∀ a, a < 7680 → ¬ kScr a → jI μ2 a = jI μ a := fun a ha => s1 a (by omega)
  have hR : jRP μ2 μ2 p m n t L K nh T := jRP_k h4 h6 (fun a ha _ _ _ => s5 a ha) h3 (fun k _ => by rw [s5 4490 (by omega)]) (fun a ha => s1 a (by omega) (by unfold kScr; omega)) s2
  refine ⟨?_, ?_, by omega, hR, ?_, by omega⟩
  · rw [q 0 (by decide) (by unfold kScr; omega), s3 3 (by decide), h1]
  · exact jTq_g h2 (by rw [q 65 (by decide) (by unfold kScr; omega)]) (q 155 (by decide) (by unfold kScr; omega)) (s3 2 (by decide)) (q 4567 (by decide) (by unfold kScr; omega))
  · rw [q 1936 (by decide) (by unfold kScr; omega), q 2000 (by decide) (by unfold kScr; omega)]
    exact jRXn_g h5 (fun a g1 g2 => q a (by omega) (by unfold kScr; omega)) ⟨s4 0 (by decide), s4 1 (by decide), s4 7 (by decide)⟩ fun a g1 g2 => q a (by omega) (by unfold kScr; omega)
theorem jSc_r : jSc μ μ := ⟨fun _ _ _ => rfl, rfl, fun _ _ => rfl, fun _ _ => rfl, fun _ _ => rfl, Nat.le_refl _⟩
theorem jSc_t {μ3 : jM} (h : jSc μ μ2) (g : jSc μ2 μ3) : jSc μ μ3 := by
  obtain ⟨s1, s2, s3, s4, s5, s6⟩ := h
  obtain ⟨g1, g2, g3, g4, g5, g6⟩ := g
  exact ⟨fun a ha n => (g1 a (by omega) n).trans (s1 a ha n), g2.trans s2, fun k n => (g3 k n).trans (s3 k n), fun k n => (g4 k n).trans (s4 k n), fun a ha => (g5 a (by omega)).trans (s5 a ha), by omega⟩
theorem jSc_L {a k : Nat} {v : Int64} : jSc μ (jsL μ a k v) := ⟨fun _ _ _ => rfl, rfl, fun _ _ => rfl, fun _ _ => rfl, fun _ _ => rfl, Nat.le_refl _⟩
theorem jSc_T : jSc μ (jthr μ) := ⟨fun _ _ _ => rfl, rfl, fun _ _ => rfl, fun _ _ => rfl, fun _ _ => rfl, Nat.le_refl _⟩
theorem jSc_0 {v : Int32} : jSc μ (jsI μ 4490 0 v) := ⟨fun a _ n => mI2 (by unfold kScr at n; omega), by rw [mI2 (by decide)], fun k n => by rw [mI1, if_neg n], fun k _ => by rw [mI2 (by decide)], fun _ _ => rfl, Nat.le_refl _⟩
theorem jSc_R {a : Nat} {g : Nat → Int32} (h : a = 2520 ∨ a = 3400 ∨ (3463 ≤ a ∧ a ≤ 4296) ∨ a = 4438 ∨ a = 6680 ∨ (6732 ≤ a ∧ a ≤ 7576)) : jSc μ (jsR μ a g) := ⟨fun b _ n => mR2 (by unfold kScr at n; omega), by rw [mR2 (by omega)], fun k n => by rw [mR2 (by omega)], fun k _ => by rw [mR2 (by omega)], fun _ _ => rfl, Nat.le_refl _⟩
theorem jSc_I {a k : Nat} {v : Int32} (h : (a = 2308 ∧ ¬ k = 3) ∨ a = 2520 ∨ a = 3400 ∨ (3463 ≤ a ∧ a ≤ 4296) ∨ a = 4361 ∨ a = 4438 ∨ a = 6680 ∨ (6732 ≤ a ∧ a ≤ 7576)) : jSc μ (jsI μ a k v) := ⟨fun b _ n => mI2 (by unfold kScr at n; omega), by
  by_cases h3 : a = 2308
  · subst h3
    rw [mI1, if_neg (by omega)]
  · rw [mI2 (by omega)], fun k n => by rw [mI2 (by omega)], fun k _ => by rw [mI2 (by omega)], fun _ _ => rfl, Nat.le_refl _⟩
/-- what is told stays, and it costs so much -/
theorem jGo_s (h : jSc μ μ2) (hJ : jJp μ p m n t L K nh T w mk sz) (hc : jnc μ2 ≤ jnc μ + 400) (hs : jns μ2 ≤ jns μ + 5000) : jGk μ μ2 := by
  have h3 := hJ.2.2.1
  exact ⟨jJ_of (jSc_p h hJ), h.1 44 (by omega) (by unfold kScr; omega), h.1 45 (by omega) (by unfold kScr; omega), hc, hs⟩
/-- a call that throws in both -/
theorem jGo_no {v : Int32} (hJ : jJp μ p m n t L K nh T w mk sz) : jGk μ (jsI (jsI (jthr μ) 4490 0 0) 4490 0 v) := by
  refine jGo_s (jSc_t jSc_T (jSc_t jSc_0 jSc_0)) hJ ?_ ?_
  · show (jA μ).length + (jX μ + 1) ≤ _
    unfold jnc
    omega
  · show ((jA μ).map jsz).sum + 6 * (jX μ + 1) ≤ _
    unfold jns
    omega
end NEED
