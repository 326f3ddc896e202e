/-! THE PURE PART: a token in class and reference. -/
theorem mIr {μ : jM} {a k : Nat} {v : Int32} : jI (jsI μ a k v) a = kSetr (jI μ a) k v := funext fun _ => mI1
theorem mLr {μ : jM} {a k : Nat} {v : Int64} : jL (jsL μ a k v) a = kSetl (jL μ a) k v := funext fun _ => mL1
def kCa (a : Nat) : Prop := a = 473 ∨ a = 660 ∨ a = 720 ∨ a = 784 ∨ a = 848 ∨ a = 912 ∨ a = 976 ∨ a = 1040 ∨ a = 1104
def kDa (r a : Nat) : Prop := a = 4889 ∨ a = 64 * r + 84 ∨ a = 64 * r + 144 ∨ a = 64 * r + 208 ∨ a = 64 * r + 272 ∨ a = 64 * r + 336 ∨ a = 64 * r + 400 ∨ a = 64 * r + 464 ∨ a = 64 * r + 528 ∨ a = 64 * r + 594
/-- what the class leaves as it is while it holds names and numbers against each other -/
def jCf (A0 A : jM) : Prop := (∀ a, ¬ a = 194 → ¬ a = 579 → ¬ kCa a → jI A a = jI A0 a) ∧ (∀ k, ¬ k = 7 → jI A 194 k = jI A0 194 k) ∧ (∀ k, 4 ≤ k → jI A 579 k = jI A0 579 k) ∧ jQ A = jQ A0 ∧ (∀ a, ¬ a = 1565 → ¬ a = 1628 → ¬ a = 1692 → jL A a = jL A0 a) ∧ jA A = jA A0 ∧ jX A = jX A0
def jDf (r : Nat) (B0 B : jM) : Prop := (∀ a, ¬ a = 4490 → ¬ a = 64 * r + 11 → ¬ kDa r a → jI B a = jI B0 a) ∧ (∀ k, ¬ k = 9 → jI B 4490 k = jI B0 4490 k) ∧ (∀ k, ¬ k = 0 → ¬ k = 2 → ¬ k = 6 → ¬ k = 11 → jI B (64 * r + 11) k = jI B0 (64 * r + 11) k) ∧ jQ B = jQ B0 ∧ jL B = jL B0 ∧ jA B = jA B0 ∧ jX B = jX B0
def jC0 (A : jM) (kd : Nat → Nat) (N : Nat) (b : Nat → Int32) (sz : Nat) : Prop := jWd A ∧ jI A 194 6 = iN N ∧ ∀ k, k < N → jQ A 289 k = some (64 * kd k + 40) ∧ jI A 409 k = iN (kTl b sz k) ∧ (kd k = 37 → jL A 542 k = kNa b (kTs b sz k) (kTl b sz k)) ∧ (kd k = 38 → jI A 473 k = kNm b (kTs b sz k) (kTl b sz k))
def jMn (A0 B0 A B : jM) (r : Nat) (kd : Nat → Nat) (b : Nat → Int32) (sz i : Nat) : Prop := jCf A0 A ∧ jDf r B0 B ∧ kRel kd b sz (jI A0 473) i (jI A 579) (jI A 660) (jI A 720) (jI A 784) (jI A 848) (jI A 912) (jI A 976) (jI A 1040) (jI A 1104) (jI A 473) (jL A 1565) (jL A 1628) (jL A 1692) (jI B (64 * r + 11)) (jI B (64 * r + 84)) (jI B (64 * r + 144)) (jI B (64 * r + 208)) (jI B (64 * r + 272)) (jI B (64 * r + 336)) (jI B (64 * r + 400)) (jI B (64 * r + 464)) (jI B (64 * r + 528)) (jI B (64 * r + 594)) (jI B 4889)
def kAh (kd : Nat → Nat) (i : Nat) : Nat := if i = 0 then 39 else kd (i - 1)
/-- a token in class and reference: the same error, or alike behind it -/
def jStp (A0 B0 A B : jM) (r : Nat) (kd : Nat → Nat) (b : Nat → Int32) (sz i : Nat) : Prop := ∃ (e : Nat) (A' B' : jM), e ≤ 7 ∧ (e = 0 → jMn A0 B0 A' B' r kd b sz (i + 1)) ∧ (¬ e = 0 → jCf A0 A' ∧ jDf r B0 B' ∧ jI A' 194 7 = iN i) ∧ jI B' 4490 = jI B 4490 ∧
  (∀ (d : Nat) (b4 : Option Nat) (Q : jO → jM → Prop), (Ex (d + 6) 63 8 [some (.ref 1478), some (.ref (64 * kAh kd i + 40)), some (.int 0), some (.int (iN i)), b4.map .ref] [] A Q ↔ if e = 0 then Ex (d + 6) 63 8 [some (.ref 1478), some (.ref (64 * kd i + 40)), some (.int 0), some (.int (iN (i + 1))), some (.ref (64 * kd i + 40))] [] A' Q else Q (.inl (some (.int (iN e)))) A')) ∧
  ∀ (d : Nat) (Q : jO → jM → Prop), (Ex (d + 3) 128 0 [some (.ref 4490), some (.int (iN i)), none, none] [] B Q ↔ Q (.inl (some (.int (iN e)))) B')
section MN
variable {A0 B0 A B : jM} {r i k N sz c : Nat} {kd : Nat → Nat} {b : Nat → Int32} {v : Int32} {l : Int64}
theorem jCf_7 (h : jCf A0 A) : jCf A0 (jsI A 194 7 v) := by
  obtain ⟨a1, a2, a3, a4, a5, a6, a7⟩ := h
  exact ⟨fun a h1 h2 h3 => by rw [mI2 h1]; exact a1 a h1 h2 h3, fun k hk => by rw [mI1, if_neg hk]; exact a2 k hk, fun k hk => by rw [mI2 (by decide)]; exact a3 k hk, a4, a5, a6, a7⟩
theorem jCf_c (h : jCf A0 A) (hk : k < 4) : jCf A0 (jsI A 579 k v) := by
  obtain ⟨a1, a2, a3, a4, a5, a6, a7⟩ := h
  exact ⟨fun a h1 h2 h3 => by rw [mI2 h2]; exact a1 a h1 h2 h3, fun k hk => by rw [mI2 (by decide)]; exact a2 k hk, fun j hj => by rw [mI1, if_neg (by omega)]; exact a3 j hj, a4, a5, a6, a7⟩
theorem jCf_r {a : Nat} (h : jCf A0 A) (ha : kCa a) : jCf A0 (jsI A a k v) := by
  obtain ⟨a1, a2, a3, a4, a5, a6, a7⟩ := h
  have n1 : ¬ 194 = a := by unfold kCa at ha; omega
  have n2 : ¬ 579 = a := by unfold kCa at ha; omega
  exact ⟨fun c h1 h2 h3 => by rw [mI2 (fun e => h3 (by rw [e]; exact ha))]; exact a1 c h1 h2 h3, fun k hk => by rw [mI2 n1]; exact a2 k hk, fun j hj => by rw [mI2 n2]; exact a3 j hj, a4, a5, a6, a7⟩
theorem jCf_L {a : Nat} (h : jCf A0 A) (ha : a = 1565 ∨ a = 1628 ∨ a = 1692) : jCf A0 (jsL A a k l) := by
  obtain ⟨a1, a2, a3, a4, a5, a6, a7⟩ := h
  exact ⟨a1, a2, a3, a4, fun c h1 h2 h3 => by rw [mL2 (by omega)]; exact a5 c h1 h2 h3, a6, a7⟩
theorem jDf_c (h : jDf r B0 B) (hr : 120 ≤ r) (hk : k = 0 ∨ k = 2 ∨ k = 6 ∨ k = 11) : jDf r B0 (jsI B (64 * r + 11) k v) := by
  obtain ⟨a1, a2, a3, a4, a5, a6, a7⟩ := h
  exact ⟨fun a h1 h2 h3 => by rw [mI2 h2]; exact a1 a h1 h2 h3, fun k hk => by rw [mI2 (by omega)]; exact a2 k hk, fun j h1 h2 h3 h4 => by rw [mI1, if_neg (by omega)]; exact a3 j h1 h2 h3 h4, a4, a5, a6, a7⟩
theorem jDf_r {a : Nat} (h : jDf r B0 B) (hr : 120 ≤ r) (ha : kDa r a) : jDf r B0 (jsI B a k v) := by
  obtain ⟨a1, a2, a3, a4, a5, a6, a7⟩ := h
  have n1 : ¬ 4490 = a := by unfold kDa at ha; omega
  have n2 : ¬ 64 * r + 11 = a := by unfold kDa at ha; omega
  exact ⟨fun c h1 h2 h3 => by rw [mI2 (fun e => h3 (by rw [e]; exact ha))]; exact a1 c h1 h2 h3, fun k hk => by rw [mI2 n1]; exact a2 k hk, fun j h1 h2 h3 h4 => by rw [mI2 n2]; exact a3 j h1 h2 h3 h4, a4, a5, a6, a7⟩
theorem jSb_f (h : jSb B0 r kd N b sz) (hf : jDf r B0 B) : jSb B r kd N b sz := by
  obtain ⟨⟨a1, a2, a3, a4, a5, ⟨t1, t2, t3, t4⟩, a7⟩, h2, h3⟩ := h
  obtain ⟨g1, g2, g3, g4, g5, g6, g7⟩ := hf
  have n : ∀ a, a = 4567 ∨ a = 4633 ∨ a = 4697 ∨ a = 4761 ∨ a = 4825 → jI B a = jI B0 a := fun a ha => g1 a (by omega) (by omega) (by unfold kDa; omega)
  refine ⟨⟨jWd_c g4 a1, a2, a3, by rw [g4]; exact a4, by unfold jMq at a5 ⊢; rw [g4]; exact a5, ⟨by rw [g2 2 (by decide)]; exact t1, t2, fun j hj => by rw [n 4567 (by omega)]; exact t3 j hj, t4⟩, fun j hj => ?_⟩, fun j hj => by rw [n 4825 (by omega)]; exact h2 j hj, fun j hj hk => by rw [n 4761 (by omega)]; exact h3 j hj hk⟩
  rw [n 4633 (by omega), n 4697 (by omega), n 4761 (by omega)]
  exact a7 j hj
theorem c_kindA {d : Nat} {Q : jO → jM → Prop} (hC : jC0 A0 kd N b sz) (hf : jCf A0 A) (hN : N ≤ 401) (hi : i < N) : Ex d 50 0 [some (.ref 194), some (.int (iN i))] [] A Q ↔ Q (.inl (some (.ref (64 * kd i + 40)))) A := by
  have hw : jWd A := jWd_c hf.2.2.2.1 hC.1
  unfold jWd at hw
  have hc : jI A 194 6 = iN N := (hf.2.1 6 (by decide)).trans hC.2.1
  have j0 : ¬ iN i < 0 := iN_nn (by omega)
  have j1 : iN i < iN N := (iN_lt (by omega) (by omega)).mpr hi
  have j2 : iN i < iN 401 := (iN_lt (by omega) (by omega)).mpr (by omega)
  have jc : (iN i).toNatClampNeg = i := iN_cl (by omega)
  have jj : jin (iN i) 401 = true := iN_in (by omega) (by omega)
  have hq : jQ A 289 i = some (64 * kd i + 40) := by rw [hf.2.2.2.1]; exact (hC.2.2 i hi).1
  have b35 : (Nat.ble 3 3 && Nat.ble 3 5) = true := rfl
  simp only [x50_0, x50_1, x50_4, x50_5, x50_6, x50_9, x50_12, x50_13, x50_14, x50_17, x50_18, x50_21, x50_22, x50_25, x50_26, x50_27, x50_30, x50_33, mzi, mInc, mne, mlt9, mrk, mI1, mI2, mI3, mI4, mL1, mL2, mL3, mL4, mQ1, mQ2, mQ3, mQ4, mT1, mcat0, mcat1, mcat2, mcat3, mcat4, mrf1, jK_v, jK_n, JA, mz1, if_true, if_false, ite_true, ite_false, eq_self, not_false_eq_true, Nat.zero_le, true_and, and_true, and_self, Nat.reduceMod, Nat.reduceAdd, Nat.reduceLeDiff, Nat.reduceEqDiff, Nat.reduceLT, hw, hc, j0, j1, j2, jc, jj, hq, b35]
theorem kRng {x : Int32} {m : Nat} (hm : m < 2 ^ 31) (h1 : ¬ x < 1) (h2 : ¬ iN m < x) : ∃ u, 1 ≤ u ∧ u ≤ m ∧ x = iN u := by
  have h0 : ¬ x < 0 := fun h => h1 (Int32.lt_trans h (by decide))
  obtain ⟨u, hu, rfl⟩ := iN_pos h0
  exact ⟨u, by
    have := mt (iN_lt (a := u) (b := 1) hu (by decide)).mpr h1
    omega, by
    have := mt (iN_lt hm hu).mpr h2
    omega, rfl⟩
theorem rinv_1 (h : kRole kd i = 1) : 1 ≤ i ∧ kd i = 37 ∧ kd (i - 1) = 0 := by
  have hk : kd i = 37 := kRole_37 h (by decide)
  have hj : kd (i - 1) = 0 := by
    unfold kRole at h
    rw [if_pos hk] at h
    by_cases e : kd (i - 1) = 0
    · exact e
    · exfalso
      repeat' split at h
      all_goals first | exact absurd h (by decide) | contradiction
  refine ⟨?_, hk, hj⟩
  by_cases e : i = 0
  · rw [e] at hk hj
    have hj' : kd 0 = 0 := hj
    omega
  · omega
theorem rinv_2 (h : kRole kd i = 2) : 1 ≤ i ∧ kd i = 37 ∧ kd (i - 1) = 2 := by
  have hk : kd i = 37 := kRole_37 h (by decide)
  have hj : kd (i - 1) = 2 := by
    unfold kRole at h
    rw [if_pos hk] at h
    by_cases e : kd (i - 1) = 2
    · exact e
    · exfalso
      repeat' split at h
      all_goals first | exact absurd h (by decide) | contradiction
  refine ⟨?_, hk, hj⟩
  by_cases e : i = 0
  · rw [e] at hk hj
    have hj' : kd 0 = 2 := hj
    omega
  · omega
theorem rinv_3 (h : kRole kd i = 3) : 1 ≤ i ∧ kd i = 37 ∧ kd (i - 1) = 5 := by
  have hk : kd i = 37 := kRole_37 h (by decide)
  have hj : kd (i - 1) = 5 := by
    unfold kRole at h
    rw [if_pos hk] at h
    by_cases e : kd (i - 1) = 5
    · exact e
    · exfalso
      repeat' split at h
      all_goals first | exact absurd h (by decide) | contradiction
  refine ⟨?_, hk, hj⟩
  by_cases e : i = 0
  · rw [e] at hk hj
    have hj' : kd 0 = 5 := hj
    omega
  · omega
theorem rinv_9 (h : kRole kd i = 9) : 1 ≤ i ∧ kd i = 37 ∧ kd (i - 1) = 3 := by
  have hk : kd i = 37 := kRole_37 h (by decide)
  have hj : kd (i - 1) = 3 := by
    unfold kRole at h
    rw [if_pos hk] at h
    by_cases e : kd (i - 1) = 3
    · exact e
    · exfalso
      repeat' split at h
      all_goals first | exact absurd h (by decide) | contradiction
  refine ⟨?_, hk, hj⟩
  by_cases e : i = 0
  · rw [e] at hk hj
    have hj' : kd 0 = 3 := hj
    omega
  · omega
theorem rinv_10 (h : kRole kd i = 10) : 1 ≤ i ∧ kd i = 37 ∧ kd (i - 1) = 6 := by
  have hk : kd i = 37 := kRole_37 h (by decide)
  have hj : kd (i - 1) = 6 := by
    unfold kRole at h
    rw [if_pos hk] at h
    by_cases e : kd (i - 1) = 6
    · exact e
    · exfalso
      repeat' split at h
      all_goals first | exact absurd h (by decide) | contradiction
  refine ⟨?_, hk, hj⟩
  by_cases e : i = 0
  · rw [e] at hk hj
    have hj' : kd 0 = 6 := hj
    omega
  · omega
theorem rinv_11 (h : kRole kd i = 11) : 1 ≤ i ∧ kd i = 37 ∧ kd (i - 1) = 7 := by
  have hk : kd i = 37 := kRole_37 h (by decide)
  have hj : kd (i - 1) = 7 := by
    unfold kRole at h
    rw [if_pos hk] at h
    by_cases e : kd (i - 1) = 7
    · exact e
    · exfalso
      repeat' split at h
      all_goals first | exact absurd h (by decide) | contradiction
  refine ⟨?_, hk, hj⟩
  by_cases e : i = 0
  · rw [e] at hk hj
    have hj' : kd 0 = 7 := hj
    omega
  · omega
theorem rinv_12 (h : kRole kd i = 12) : 1 ≤ i ∧ kd i = 37 ∧ kd (i - 1) = 10 := by
  have hk : kd i = 37 := kRole_37 h (by decide)
  have hj : kd (i - 1) = 10 := by
    unfold kRole at h
    rw [if_pos hk] at h
    by_cases e : kd (i - 1) = 10
    · exact e
    · exfalso
      repeat' split at h
      all_goals first | exact absurd h (by decide) | contradiction
  refine ⟨?_, hk, hj⟩
  by_cases e : i = 0
  · rw [e] at hk hj
    have hj' : kd 0 = 10 := hj
    omega
  · omega
theorem rinv_13 (h : kRole kd i = 13) : 1 ≤ i ∧ kd i = 37 ∧ kd (i - 1) = 15 := by
  have hk : kd i = 37 := kRole_37 h (by decide)
  have hj : kd (i - 1) = 15 := by
    unfold kRole at h
    rw [if_pos hk] at h
    by_cases e : kd (i - 1) = 15
    · exact e
    · exfalso
      repeat' split at h
      all_goals first | exact absurd h (by decide) | contradiction
  refine ⟨?_, hk, hj⟩
  by_cases e : i = 0
  · rw [e] at hk hj
    have hj' : kd 0 = 15 := hj
    omega
  · omega
theorem rinv_14 (h : kRole kd i = 14) : 1 ≤ i ∧ kd i = 37 ∧ kd (i - 1) = 14 := by
  have hk : kd i = 37 := kRole_37 h (by decide)
  have hj : kd (i - 1) = 14 := by
    unfold kRole at h
    rw [if_pos hk] at h
    by_cases e : kd (i - 1) = 14
    · exact e
    · exfalso
      repeat' split at h
      all_goals first | exact absurd h (by decide) | contradiction
  refine ⟨?_, hk, hj⟩
  by_cases e : i = 0
  · rw [e] at hk hj
    have hj' : kd 0 = 14 := hj
    omega
  · omega
theorem rinv_15 (h : kRole kd i = 15) : 1 ≤ i ∧ kd i = 37 ∧ kd (i - 1) = 16 := by
  have hk : kd i = 37 := kRole_37 h (by decide)
  have hj : kd (i - 1) = 16 := by
    unfold kRole at h
    rw [if_pos hk] at h
    by_cases e : kd (i - 1) = 16
    · exact e
    · exfalso
      repeat' split at h
      all_goals first | exact absurd h (by decide) | contradiction
  refine ⟨?_, hk, hj⟩
  by_cases e : i = 0
  · rw [e] at hk hj
    have hj' : kd 0 = 16 := hj
    omega
  · omega
theorem rinv_5 (h : kRole kd i = 5) : 1 ≤ i ∧ kd i = 38 ∧ kd (i - 1) = 1 := by
  have hk : kd i = 38 := kRole_38 h (by decide)
  have hj : kd (i - 1) = 1 := by
    unfold kRole at h
    rw [if_neg (by omega), if_pos hk] at h
    by_cases e : kd (i - 1) = 1
    · exact e
    · exfalso
      repeat' split at h
      all_goals first | exact absurd h (by decide) | contradiction
  refine ⟨?_, hk, hj⟩
  by_cases e : i = 0
  · rw [e] at hk hj
    have hj' : kd 0 = 1 := hj
    omega
  · omega
theorem rinv_6 (h : kRole kd i = 6) : 1 ≤ i ∧ kd i = 38 ∧ kd (i - 1) = 4 := by
  have hk : kd i = 38 := kRole_38 h (by decide)
  have hj : kd (i - 1) = 4 := by
    unfold kRole at h
    rw [if_neg (by omega), if_pos hk] at h
    by_cases e : kd (i - 1) = 4
    · exact e
    · exfalso
      repeat' split at h
      all_goals first | exact absurd h (by decide) | contradiction
  refine ⟨?_, hk, hj⟩
  by_cases e : i = 0
  · rw [e] at hk hj
    have hj' : kd 0 = 4 := hj
    omega
  · omega
theorem rinv_7 (h : kRole kd i = 7) : 1 ≤ i ∧ kd i = 38 ∧ kd (i - 1) = 8 := by
  have hk : kd i = 38 := kRole_38 h (by decide)
  have hj : kd (i - 1) = 8 := by
    unfold kRole at h
    rw [if_neg (by omega), if_pos hk] at h
    by_cases e : kd (i - 1) = 8
    · exact e
    · exfalso
      repeat' split at h
      all_goals first | exact absurd h (by decide) | contradiction
  refine ⟨?_, hk, hj⟩
  by_cases e : i = 0
  · rw [e] at hk hj
    have hj' : kd 0 = 8 := hj
    omega
  · omega
theorem rinv_8 (h : kRole kd i = 8) : 1 ≤ i ∧ kd i = 38 ∧ kd (i - 1) = 9 := by
  have hk : kd i = 38 := kRole_38 h (by decide)
  have hj : kd (i - 1) = 9 := by
    unfold kRole at h
    rw [if_neg (by omega), if_pos hk] at h
    by_cases e : kd (i - 1) = 9
    · exact e
    · exfalso
      repeat' split at h
      all_goals first | exact absurd h (by decide) | contradiction
  refine ⟨?_, hk, hj⟩
  by_cases e : i = 0
  · rw [e] at hk hj
    have hj' : kd 0 = 9 := hj
    omega
  · omega
/-- both find the same -/
theorem fi_eq {nA : Nat → Int64} {v : Int32} (hD : jSb B r kd N b sz) (hN : N ≤ 401) (hi : i < N - 1) (hi7 : kd i = 37) (hc : c = 1 ∨ c = 2 ∨ c = 3) (hF : kFn kd b sz i c nA) (hv : kTv kd b sz c i v) : kFi nA (kNa b (kTs b sz i) (kTl b sz i)) (kCn kd c i) = v ∧ (v = -1 ∨ ∃ u, u < kCn kd c i ∧ v = iN u) :=
  kTv_fi hF (fun k hk hr => kNa_eq (hD.2.2 k (by omega) (kRole_37 hr (by omega))).2.1 (hD.2.2 i hi hi7).2.1) (by omega) hv
theorem st_switch (hC : jC0 A0 kd N b sz) (hD : jSb B0 r kd N b sz) (h : jMn A0 B0 A B r kd b sz i) (hi : i < N - 1) (hr : kRole kd i = 1) (hdue : kDue kd i) : jStp A0 B0 A B r kd b sz i := by
  obtain ⟨hfA, hfB, hR⟩ := h
  have hR' := hR
  obtain ⟨f1, f2, f3, f4, f5, f6, f7, f8, f9, f10, f11, f12, f13, f14, f15, f16, f17, f18, f19, f20, f21, f22, f23⟩ := hR'
  have hSb := jSb_f hD hfB
  have hT := hD.1.2.1
  have hN2 := hT.2.1
  have hr2 := hD.1.2.2.1
  have hkl := hT.2.2.2.2 i
  have hW : jWd A := jWd_c hfA.2.2.2.1 hC.1
  have hW1 : jWd (jsI A 194 7 (iN i)) := jWd_c rfl hW
  have ht1 : jI (jsI A 194 7 (iN i)) 194 7 = iN i := by rw [mI1, if_pos rfl]
  have h4 : i < 400 := by omega
  have hk50 : ∀ (d : Nat) (Q : jO → jM → Prop), (Ex (d + 5) 50 0 [some (.ref 194), some (.int (iN i))] [] (jsI A 194 7 (iN i)) Q ↔ Q (.inl (some (.ref (64 * kd i + 40)))) (jsI A 194 7 (iN i))) := fun d Q => c_kindA hC (jCf_7 hfA) hN2 (by omega)
  have o579 : jI (jsI A 194 7 (iN i)) 579 = jI A 579 := mI2 (by decide)
  obtain ⟨i1, hK, hJ0⟩ := rinv_1 hr
  have hJ : kAh kd i = 0 := by unfold kAh; rw [if_neg (by omega)]; exact hJ0
  have hnm : jL (jsI A 194 7 (iN i)) 542 i = kNa b (kTs b sz i) (kTl b sz i) := by
    rw [mI3, hfA.2.2.2.2.1 542 (by decide) (by decide) (by decide)]
    exact (hC.2.2 i (by omega)).2.2.1 hK
  obtain ⟨v, v1, v2⟩ := d_eo_switch hSb hi hr f1.2.1 f1.2.2
  obtain ⟨q1, q2⟩ := fi_eq hSb hN2 hi hK (by decide) f5 v1
  have hen : ∀ (d : Nat) (Q : jO → jM → Prop), _ := fun d Q => c_en_new_s (d := d) (Q := Q) hW1 ht1 (by omega) (by rw [o579]; exact f1.1) f1.2.2
  simp only [hnm, mI3, q1] at hen
  by_cases g : v = -1
  · by_cases c : kCn kd 1 i < 6
    · skip
      have e_cA : jI (jsI (jsL (jsI A 194 7 (iN i)) 1565 (kCn kd 1 i) (kNa b (kTs b sz i) (kTl b sz i))) 579 0 (iN (kCn kd 1 i + 1))) 579 = kSetr (jI A 579) (0) ((iN (kCn kd 1 i + 1))) := by rw [mIr, mL3, mI2 (by decide)]
      have e_ba : jI (jsI (jsL (jsI A 194 7 (iN i)) 1565 (kCn kd 1 i) (kNa b (kTs b sz i) (kTl b sz i))) 579 0 (iN (kCn kd 1 i + 1))) 660 = jI A 660 := by rw [mI2 (by decide), mL3, mI2 (by decide)]
      have e_ho : jI (jsI (jsL (jsI A 194 7 (iN i)) 1565 (kCn kd 1 i) (kNa b (kTs b sz i) (kTl b sz i))) 579 0 (iN (kCn kd 1 i + 1))) 720 = jI A 720 := by rw [mI2 (by decide), mL3, mI2 (by decide)]
      have e_nu : jI (jsI (jsL (jsI A 194 7 (iN i)) 1565 (kCn kd 1 i) (kNa b (kTs b sz i) (kTl b sz i))) 579 0 (iN (kCn kd 1 i + 1))) 784 = jI A 784 := by rw [mI2 (by decide), mL3, mI2 (by decide)]
      have e_di : jI (jsI (jsL (jsI A 194 7 (iN i)) 1565 (kCn kd 1 i) (kNa b (kTs b sz i) (kTl b sz i))) 579 0 (iN (kCn kd 1 i + 1))) 848 = jI A 848 := by rw [mI2 (by decide), mL3, mI2 (by decide)]
      have e_fr : jI (jsI (jsL (jsI A 194 7 (iN i)) 1565 (kCn kd 1 i) (kNa b (kTs b sz i) (kTl b sz i))) 579 0 (iN (kCn kd 1 i + 1))) 912 = jI A 912 := by rw [mI2 (by decide), mL3, mI2 (by decide)]
      have e_to : jI (jsI (jsL (jsI A 194 7 (iN i)) 1565 (kCn kd 1 i) (kNa b (kTs b sz i) (kTl b sz i))) 579 0 (iN (kCn kd 1 i + 1))) 976 = jI A 976 := by rw [mI2 (by decide), mL3, mI2 (by decide)]
      have e_wi : jI (jsI (jsL (jsI A 194 7 (iN i)) 1565 (kCn kd 1 i) (kNa b (kTs b sz i) (kTl b sz i))) 579 0 (iN (kCn kd 1 i + 1))) 1040 = jI A 1040 := by rw [mI2 (by decide), mL3, mI2 (by decide)]
      have e_co : jI (jsI (jsL (jsI A 194 7 (iN i)) 1565 (kCn kd 1 i) (kNa b (kTs b sz i) (kTl b sz i))) 579 0 (iN (kCn kd 1 i + 1))) 1104 = jI A 1104 := by rw [mI2 (by decide), mL3, mI2 (by decide)]
      have e_mA : jI (jsI (jsL (jsI A 194 7 (iN i)) 1565 (kCn kd 1 i) (kNa b (kTs b sz i) (kTl b sz i))) 579 0 (iN (kCn kd 1 i + 1))) 473 = jI A 473 := by rw [mI2 (by decide), mL3, mI2 (by decide)]
      have e_ns : jL (jsI (jsL (jsI A 194 7 (iN i)) 1565 (kCn kd 1 i) (kNa b (kTs b sz i) (kTl b sz i))) 579 0 (iN (kCn kd 1 i + 1))) 1565 = kSetl (jL A 1565) ((kCn kd 1 i)) ((kNa b (kTs b sz i) (kTl b sz i))) := by rw [mI3, mLr, mI3]
      have e_nl : jL (jsI (jsL (jsI A 194 7 (iN i)) 1565 (kCn kd 1 i) (kNa b (kTs b sz i) (kTl b sz i))) 579 0 (iN (kCn kd 1 i + 1))) 1628 = jL A 1628 := by rw [mI3, mL2 (by decide), mI3]
      have e_nt : jL (jsI (jsL (jsI A 194 7 (iN i)) 1565 (kCn kd 1 i) (kNa b (kTs b sz i) (kTl b sz i))) 579 0 (iN (kCn kd 1 i + 1))) 1692 = jL A 1692 := by rw [mI3, mL2 (by decide), mI3]
      have e_cB : jI (jsI B (64 * r + 11) 0 (iN (kCn kd 1 i + 1))) (64 * r + 11) = kSetr (jI B (64 * r + 11)) (0) ((iN (kCn kd 1 i + 1))) := by rw [mIr]
      have e_bb : jI (jsI B (64 * r + 11) 0 (iN (kCn kd 1 i + 1))) (64 * r + 84) = jI B (64 * r + 84) := by rw [mI2 (by omega)]
      have e_hb : jI (jsI B (64 * r + 11) 0 (iN (kCn kd 1 i + 1))) (64 * r + 144) = jI B (64 * r + 144) := by rw [mI2 (by omega)]
      have e_nb : jI (jsI B (64 * r + 11) 0 (iN (kCn kd 1 i + 1))) (64 * r + 208) = jI B (64 * r + 208) := by rw [mI2 (by omega)]
      have e_db : jI (jsI B (64 * r + 11) 0 (iN (kCn kd 1 i + 1))) (64 * r + 272) = jI B (64 * r + 272) := by rw [mI2 (by omega)]
      have e_fb : jI (jsI B (64 * r + 11) 0 (iN (kCn kd 1 i + 1))) (64 * r + 336) = jI B (64 * r + 336) := by rw [mI2 (by omega)]
      have e_tb : jI (jsI B (64 * r + 11) 0 (iN (kCn kd 1 i + 1))) (64 * r + 400) = jI B (64 * r + 400) := by rw [mI2 (by omega)]
      have e_wb : jI (jsI B (64 * r + 11) 0 (iN (kCn kd 1 i + 1))) (64 * r + 464) = jI B (64 * r + 464) := by rw [mI2 (by omega)]
      have e_cb : jI (jsI B (64 * r + 11) 0 (iN (kCn kd 1 i + 1))) (64 * r + 528) = jI B (64 * r + 528) := by rw [mI2 (by omega)]
      have e_sB : jI (jsI B (64 * r + 11) 0 (iN (kCn kd 1 i + 1))) (64 * r + 594) = jI B (64 * r + 594) := by rw [mI2 (by omega)]
      have e_mB : jI (jsI B (64 * r + 11) 0 (iN (kCn kd 1 i + 1))) 4889 = jI B 4889 := by rw [mI2 (by omega)]
      refine ⟨0, (jsI (jsL (jsI A 194 7 (iN i)) 1565 (kCn kd 1 i) (kNa b (kTs b sz i) (kTl b sz i))) 579 0 (iN (kCn kd 1 i + 1))), (jsI B (64 * r + 11) 0 (iN (kCn kd 1 i + 1))), by decide, fun _ => ⟨(jCf_c (jCf_L (jCf_7 hfA) (by omega)) (by decide)), (jDf_c hfB hr2 (by decide)), ?_⟩, fun q => absurd rfl q, by rw [mI2 (by omega)], fun d b4 Q => ?_, fun d Q => ?_⟩
      · rw [e_cA, e_ba, e_ho, e_nu, e_di, e_fr, e_to, e_wi, e_co, e_mA, e_ns, e_nl, e_nt, e_cB, e_bb, e_hb, e_nb, e_db, e_fb, e_tb, e_wb, e_cb, e_sB, e_mB]
        exact rel_switch hR hr c
      · rw [hJ]
        exact c_it_n hW hkl hK h4 (hk50 d) (fun Q => (hen d Q).trans (by rw [if_pos g, if_pos c]))
      · rw [v2, if_pos g, if_pos c]
        exact Iff.rfl
    · skip
      refine ⟨4, (jsI A 194 7 (iN i)), (jsI B (64 * r + 11) 0 (iN (kCn kd 1 i))), by decide, fun q => absurd q (by decide), fun _ => ⟨(jCf_7 hfA), (jDf_c hfB hr2 (by decide)), by rw [mI1, if_pos rfl]⟩, by rw [mI2 (by omega)], fun d b4 Q => ?_, fun d Q => ?_⟩
      · rw [hJ]
        exact c_it_n hW hkl hK h4 (hk50 d) (fun Q => (hen d Q).trans (by rw [if_pos g, if_neg c]))
      · rw [v2, if_pos g, if_neg c]
        exact Iff.rfl
  · skip
    refine ⟨2, (jsI A 194 7 (iN i)), (jsI B (64 * r + 11) 0 (iN (kCn kd 1 i))), by decide, fun q => absurd q (by decide), fun _ => ⟨(jCf_7 hfA), (jDf_c hfB hr2 (by decide)), by rw [mI1, if_pos rfl]⟩, by rw [mI2 (by omega)], fun d b4 Q => ?_, fun d Q => ?_⟩
    · rw [hJ]
      exact c_it_n hW hkl hK h4 (hk50 d) (fun Q => (hen d Q).trans (by rw [if_neg g]))
    · rw [v2, if_neg g]
      exact Iff.rfl
theorem st_line (hC : jC0 A0 kd N b sz) (hD : jSb B0 r kd N b sz) (h : jMn A0 B0 A B r kd b sz i) (hi : i < N - 1) (hr : kRole kd i = 2) (hdue : kDue kd i) : jStp A0 B0 A B r kd b sz i := by
  obtain ⟨hfA, hfB, hR⟩ := h
  have hR' := hR
  obtain ⟨f1, f2, f3, f4, f5, f6, f7, f8, f9, f10, f11, f12, f13, f14, f15, f16, f17, f18, f19, f20, f21, f22, f23⟩ := hR'
  have hSb := jSb_f hD hfB
  have hT := hD.1.2.1
  have hN2 := hT.2.1
  have hr2 := hD.1.2.2.1
  have hkl := hT.2.2.2.2 i
  have hW : jWd A := jWd_c hfA.2.2.2.1 hC.1
  have hW1 : jWd (jsI A 194 7 (iN i)) := jWd_c rfl hW
  have ht1 : jI (jsI A 194 7 (iN i)) 194 7 = iN i := by rw [mI1, if_pos rfl]
  have h4 : i < 400 := by omega
  have hk50 : ∀ (d : Nat) (Q : jO → jM → Prop), (Ex (d + 5) 50 0 [some (.ref 194), some (.int (iN i))] [] (jsI A 194 7 (iN i)) Q ↔ Q (.inl (some (.ref (64 * kd i + 40)))) (jsI A 194 7 (iN i))) := fun d Q => c_kindA hC (jCf_7 hfA) hN2 (by omega)
  have o579 : jI (jsI A 194 7 (iN i)) 579 = jI A 579 := mI2 (by decide)
  obtain ⟨i1, hK, hJ0⟩ := rinv_2 hr
  have hJ : kAh kd i = 2 := by unfold kAh; rw [if_neg (by omega)]; exact hJ0
  have hnm : jL (jsI A 194 7 (iN i)) 542 i = kNa b (kTs b sz i) (kTl b sz i) := by
    rw [mI3, hfA.2.2.2.2.1 542 (by decide) (by decide) (by decide)]
    exact (hC.2.2 i (by omega)).2.2.1 hK
  obtain ⟨v, v1, v2⟩ := d_eo_line hSb hi hr f2.2.1 f2.2.2
  obtain ⟨q1, q2⟩ := fi_eq hSb hN2 hi hK (by decide) f6 v1
  have hen : ∀ (d : Nat) (Q : jO → jM → Prop), _ := fun d Q => c_en_new_l (d := d) (Q := Q) hW1 ht1 (by omega) (by rw [o579]; exact f2.1) f2.2.2
  simp only [hnm, mI3, q1] at hen
  by_cases g : v = -1
  · by_cases c : kCn kd 2 i < 10
    · skip
      have e_cA : jI (jsI (jsL (jsI A 194 7 (iN i)) 1628 (kCn kd 2 i) (kNa b (kTs b sz i) (kTl b sz i))) 579 1 (iN (kCn kd 2 i + 1))) 579 = kSetr (jI A 579) (1) ((iN (kCn kd 2 i + 1))) := by rw [mIr, mL3, mI2 (by decide)]
      have e_ba : jI (jsI (jsL (jsI A 194 7 (iN i)) 1628 (kCn kd 2 i) (kNa b (kTs b sz i) (kTl b sz i))) 579 1 (iN (kCn kd 2 i + 1))) 660 = jI A 660 := by rw [mI2 (by decide), mL3, mI2 (by decide)]
      have e_ho : jI (jsI (jsL (jsI A 194 7 (iN i)) 1628 (kCn kd 2 i) (kNa b (kTs b sz i) (kTl b sz i))) 579 1 (iN (kCn kd 2 i + 1))) 720 = jI A 720 := by rw [mI2 (by decide), mL3, mI2 (by decide)]
      have e_nu : jI (jsI (jsL (jsI A 194 7 (iN i)) 1628 (kCn kd 2 i) (kNa b (kTs b sz i) (kTl b sz i))) 579 1 (iN (kCn kd 2 i + 1))) 784 = jI A 784 := by rw [mI2 (by decide), mL3, mI2 (by decide)]
      have e_di : jI (jsI (jsL (jsI A 194 7 (iN i)) 1628 (kCn kd 2 i) (kNa b (kTs b sz i) (kTl b sz i))) 579 1 (iN (kCn kd 2 i + 1))) 848 = jI A 848 := by rw [mI2 (by decide), mL3, mI2 (by decide)]
      have e_fr : jI (jsI (jsL (jsI A 194 7 (iN i)) 1628 (kCn kd 2 i) (kNa b (kTs b sz i) (kTl b sz i))) 579 1 (iN (kCn kd 2 i + 1))) 912 = jI A 912 := by rw [mI2 (by decide), mL3, mI2 (by decide)]
      have e_to : jI (jsI (jsL (jsI A 194 7 (iN i)) 1628 (kCn kd 2 i) (kNa b (kTs b sz i) (kTl b sz i))) 579 1 (iN (kCn kd 2 i + 1))) 976 = jI A 976 := by rw [mI2 (by decide), mL3, mI2 (by decide)]
      have e_wi : jI (jsI (jsL (jsI A 194 7 (iN i)) 1628 (kCn kd 2 i) (kNa b (kTs b sz i) (kTl b sz i))) 579 1 (iN (kCn kd 2 i + 1))) 1040 = jI A 1040 := by rw [mI2 (by decide), mL3, mI2 (by decide)]
      have e_co : jI (jsI (jsL (jsI A 194 7 (iN i)) 1628 (kCn kd 2 i) (kNa b (kTs b sz i) (kTl b sz i))) 579 1 (iN (kCn kd 2 i + 1))) 1104 = jI A 1104 := by rw [mI2 (by decide), mL3, mI2 (by decide)]
      have e_mA : jI (jsI (jsL (jsI A 194 7 (iN i)) 1628 (kCn kd 2 i) (kNa b (kTs b sz i) (kTl b sz i))) 579 1 (iN (kCn kd 2 i + 1))) 473 = jI A 473 := by rw [mI2 (by decide), mL3, mI2 (by decide)]
      have e_ns : jL (jsI (jsL (jsI A 194 7 (iN i)) 1628 (kCn kd 2 i) (kNa b (kTs b sz i) (kTl b sz i))) 579 1 (iN (kCn kd 2 i + 1))) 1565 = jL A 1565 := by rw [mI3, mL2 (by decide), mI3]
      have e_nl : jL (jsI (jsL (jsI A 194 7 (iN i)) 1628 (kCn kd 2 i) (kNa b (kTs b sz i) (kTl b sz i))) 579 1 (iN (kCn kd 2 i + 1))) 1628 = kSetl (jL A 1628) ((kCn kd 2 i)) ((kNa b (kTs b sz i) (kTl b sz i))) := by rw [mI3, mLr, mI3]
      have e_nt : jL (jsI (jsL (jsI A 194 7 (iN i)) 1628 (kCn kd 2 i) (kNa b (kTs b sz i) (kTl b sz i))) 579 1 (iN (kCn kd 2 i + 1))) 1692 = jL A 1692 := by rw [mI3, mL2 (by decide), mI3]
      have e_cB : jI (jsI B (64 * r + 11) 2 (iN (kCn kd 2 i + 1))) (64 * r + 11) = kSetr (jI B (64 * r + 11)) (2) ((iN (kCn kd 2 i + 1))) := by rw [mIr]
      have e_bb : jI (jsI B (64 * r + 11) 2 (iN (kCn kd 2 i + 1))) (64 * r + 84) = jI B (64 * r + 84) := by rw [mI2 (by omega)]
      have e_hb : jI (jsI B (64 * r + 11) 2 (iN (kCn kd 2 i + 1))) (64 * r + 144) = jI B (64 * r + 144) := by rw [mI2 (by omega)]
      have e_nb : jI (jsI B (64 * r + 11) 2 (iN (kCn kd 2 i + 1))) (64 * r + 208) = jI B (64 * r + 208) := by rw [mI2 (by omega)]
      have e_db : jI (jsI B (64 * r + 11) 2 (iN (kCn kd 2 i + 1))) (64 * r + 272) = jI B (64 * r + 272) := by rw [mI2 (by omega)]
      have e_fb : jI (jsI B (64 * r + 11) 2 (iN (kCn kd 2 i + 1))) (64 * r + 336) = jI B (64 * r + 336) := by rw [mI2 (by omega)]
      have e_tb : jI (jsI B (64 * r + 11) 2 (iN (kCn kd 2 i + 1))) (64 * r + 400) = jI B (64 * r + 400) := by rw [mI2 (by omega)]
      have e_wb : jI (jsI B (64 * r + 11) 2 (iN (kCn kd 2 i + 1))) (64 * r + 464) = jI B (64 * r + 464) := by rw [mI2 (by omega)]
      have e_cb : jI (jsI B (64 * r + 11) 2 (iN (kCn kd 2 i + 1))) (64 * r + 528) = jI B (64 * r + 528) := by rw [mI2 (by omega)]
      have e_sB : jI (jsI B (64 * r + 11) 2 (iN (kCn kd 2 i + 1))) (64 * r + 594) = jI B (64 * r + 594) := by rw [mI2 (by omega)]
      have e_mB : jI (jsI B (64 * r + 11) 2 (iN (kCn kd 2 i + 1))) 4889 = jI B 4889 := by rw [mI2 (by omega)]
      refine ⟨0, (jsI (jsL (jsI A 194 7 (iN i)) 1628 (kCn kd 2 i) (kNa b (kTs b sz i) (kTl b sz i))) 579 1 (iN (kCn kd 2 i + 1))), (jsI B (64 * r + 11) 2 (iN (kCn kd 2 i + 1))), by decide, fun _ => ⟨(jCf_c (jCf_L (jCf_7 hfA) (by omega)) (by decide)), (jDf_c hfB hr2 (by decide)), ?_⟩, fun q => absurd rfl q, by rw [mI2 (by omega)], fun d b4 Q => ?_, fun d Q => ?_⟩
      · rw [e_cA, e_ba, e_ho, e_nu, e_di, e_fr, e_to, e_wi, e_co, e_mA, e_ns, e_nl, e_nt, e_cB, e_bb, e_hb, e_nb, e_db, e_fb, e_tb, e_wb, e_cb, e_sB, e_mB]
        exact rel_line hR hr c
      · rw [hJ]
        exact c_it_n hW hkl hK h4 (hk50 d) (fun Q => (hen d Q).trans (by rw [if_pos g, if_pos c]))
      · rw [v2, if_pos g, if_pos c]
        exact Iff.rfl
    · skip
      refine ⟨4, (jsI A 194 7 (iN i)), (jsI B (64 * r + 11) 2 (iN (kCn kd 2 i))), by decide, fun q => absurd q (by decide), fun _ => ⟨(jCf_7 hfA), (jDf_c hfB hr2 (by decide)), by rw [mI1, if_pos rfl]⟩, by rw [mI2 (by omega)], fun d b4 Q => ?_, fun d Q => ?_⟩
      · rw [hJ]
        exact c_it_n hW hkl hK h4 (hk50 d) (fun Q => (hen d Q).trans (by rw [if_pos g, if_neg c]))
      · rw [v2, if_pos g, if_neg c]
        exact Iff.rfl
  · skip
    refine ⟨2, (jsI A 194 7 (iN i)), (jsI B (64 * r + 11) 2 (iN (kCn kd 2 i))), by decide, fun q => absurd q (by decide), fun _ => ⟨(jCf_7 hfA), (jDf_c hfB hr2 (by decide)), by rw [mI1, if_pos rfl]⟩, by rw [mI2 (by omega)], fun d b4 Q => ?_, fun d Q => ?_⟩
    · rw [hJ]
      exact c_it_n hW hkl hK h4 (hk50 d) (fun Q => (hen d Q).trans (by rw [if_neg g]))
    · rw [v2, if_neg g]
      exact Iff.rfl
theorem st_trunk (hC : jC0 A0 kd N b sz) (hD : jSb B0 r kd N b sz) (h : jMn A0 B0 A B r kd b sz i) (hi : i < N - 1) (hr : kRole kd i = 3) (hdue : kDue kd i) : jStp A0 B0 A B r kd b sz i := by
  obtain ⟨hfA, hfB, hR⟩ := h
  have hR' := hR
  obtain ⟨f1, f2, f3, f4, f5, f6, f7, f8, f9, f10, f11, f12, f13, f14, f15, f16, f17, f18, f19, f20, f21, f22, f23⟩ := hR'
  have hSb := jSb_f hD hfB
  have hT := hD.1.2.1
  have hN2 := hT.2.1
  have hr2 := hD.1.2.2.1
  have hkl := hT.2.2.2.2 i
  have hW : jWd A := jWd_c hfA.2.2.2.1 hC.1
  have hW1 : jWd (jsI A 194 7 (iN i)) := jWd_c rfl hW
  have ht1 : jI (jsI A 194 7 (iN i)) 194 7 = iN i := by rw [mI1, if_pos rfl]
  have h4 : i < 400 := by omega
  have hk50 : ∀ (d : Nat) (Q : jO → jM → Prop), (Ex (d + 5) 50 0 [some (.ref 194), some (.int (iN i))] [] (jsI A 194 7 (iN i)) Q ↔ Q (.inl (some (.ref (64 * kd i + 40)))) (jsI A 194 7 (iN i))) := fun d Q => c_kindA hC (jCf_7 hfA) hN2 (by omega)
  have o579 : jI (jsI A 194 7 (iN i)) 579 = jI A 579 := mI2 (by decide)
  obtain ⟨i1, hK, hJ0⟩ := rinv_3 hr
  have hJ : kAh kd i = 5 := by unfold kAh; rw [if_neg (by omega)]; exact hJ0
  have hnm : jL (jsI A 194 7 (iN i)) 542 i = kNa b (kTs b sz i) (kTl b sz i) := by
    rw [mI3, hfA.2.2.2.2.1 542 (by decide) (by decide) (by decide)]
    exact (hC.2.2 i (by omega)).2.2.1 hK
  obtain ⟨v, v1, v2⟩ := d_eo_trunk hSb hi hr f3.2.1 f3.2.2
  obtain ⟨q1, q2⟩ := fi_eq hSb hN2 hi hK (by decide) f7 v1
  have hen : ∀ (d : Nat) (Q : jO → jM → Prop), _ := fun d Q => c_en_new_t (d := d) (Q := Q) hW1 ht1 (by omega) (by rw [o579]; exact f3.1) f3.2.2
  simp only [hnm, mI3, q1] at hen
  by_cases g : v = -1
  · by_cases c : kCn kd 3 i < 10
    · skip
      have e_cA : jI (jsI (jsL (jsI A 194 7 (iN i)) 1692 (kCn kd 3 i) (kNa b (kTs b sz i) (kTl b sz i))) 579 2 (iN (kCn kd 3 i + 1))) 579 = kSetr (jI A 579) (2) ((iN (kCn kd 3 i + 1))) := by rw [mIr, mL3, mI2 (by decide)]
      have e_ba : jI (jsI (jsL (jsI A 194 7 (iN i)) 1692 (kCn kd 3 i) (kNa b (kTs b sz i) (kTl b sz i))) 579 2 (iN (kCn kd 3 i + 1))) 660 = jI A 660 := by rw [mI2 (by decide), mL3, mI2 (by decide)]
      have e_ho : jI (jsI (jsL (jsI A 194 7 (iN i)) 1692 (kCn kd 3 i) (kNa b (kTs b sz i) (kTl b sz i))) 579 2 (iN (kCn kd 3 i + 1))) 720 = jI A 720 := by rw [mI2 (by decide), mL3, mI2 (by decide)]
      have e_nu : jI (jsI (jsL (jsI A 194 7 (iN i)) 1692 (kCn kd 3 i) (kNa b (kTs b sz i) (kTl b sz i))) 579 2 (iN (kCn kd 3 i + 1))) 784 = jI A 784 := by rw [mI2 (by decide), mL3, mI2 (by decide)]
      have e_di : jI (jsI (jsL (jsI A 194 7 (iN i)) 1692 (kCn kd 3 i) (kNa b (kTs b sz i) (kTl b sz i))) 579 2 (iN (kCn kd 3 i + 1))) 848 = jI A 848 := by rw [mI2 (by decide), mL3, mI2 (by decide)]
      have e_fr : jI (jsI (jsL (jsI A 194 7 (iN i)) 1692 (kCn kd 3 i) (kNa b (kTs b sz i) (kTl b sz i))) 579 2 (iN (kCn kd 3 i + 1))) 912 = jI A 912 := by rw [mI2 (by decide), mL3, mI2 (by decide)]
      have e_to : jI (jsI (jsL (jsI A 194 7 (iN i)) 1692 (kCn kd 3 i) (kNa b (kTs b sz i) (kTl b sz i))) 579 2 (iN (kCn kd 3 i + 1))) 976 = jI A 976 := by rw [mI2 (by decide), mL3, mI2 (by decide)]
      have e_wi : jI (jsI (jsL (jsI A 194 7 (iN i)) 1692 (kCn kd 3 i) (kNa b (kTs b sz i) (kTl b sz i))) 579 2 (iN (kCn kd 3 i + 1))) 1040 = jI A 1040 := by rw [mI2 (by decide), mL3, mI2 (by decide)]
      have e_co : jI (jsI (jsL (jsI A 194 7 (iN i)) 1692 (kCn kd 3 i) (kNa b (kTs b sz i) (kTl b sz i))) 579 2 (iN (kCn kd 3 i + 1))) 1104 = jI A 1104 := by rw [mI2 (by decide), mL3, mI2 (by decide)]
      have e_mA : jI (jsI (jsL (jsI A 194 7 (iN i)) 1692 (kCn kd 3 i) (kNa b (kTs b sz i) (kTl b sz i))) 579 2 (iN (kCn kd 3 i + 1))) 473 = jI A 473 := by rw [mI2 (by decide), mL3, mI2 (by decide)]
      have e_ns : jL (jsI (jsL (jsI A 194 7 (iN i)) 1692 (kCn kd 3 i) (kNa b (kTs b sz i) (kTl b sz i))) 579 2 (iN (kCn kd 3 i + 1))) 1565 = jL A 1565 := by rw [mI3, mL2 (by decide), mI3]
      have e_nl : jL (jsI (jsL (jsI A 194 7 (iN i)) 1692 (kCn kd 3 i) (kNa b (kTs b sz i) (kTl b sz i))) 579 2 (iN (kCn kd 3 i + 1))) 1628 = jL A 1628 := by rw [mI3, mL2 (by decide), mI3]
      have e_nt : jL (jsI (jsL (jsI A 194 7 (iN i)) 1692 (kCn kd 3 i) (kNa b (kTs b sz i) (kTl b sz i))) 579 2 (iN (kCn kd 3 i + 1))) 1692 = kSetl (jL A 1692) ((kCn kd 3 i)) ((kNa b (kTs b sz i) (kTl b sz i))) := by rw [mI3, mLr, mI3]
      have e_cB : jI (jsI B (64 * r + 11) 6 (iN (kCn kd 3 i + 1))) (64 * r + 11) = kSetr (jI B (64 * r + 11)) (6) ((iN (kCn kd 3 i + 1))) := by rw [mIr]
      have e_bb : jI (jsI B (64 * r + 11) 6 (iN (kCn kd 3 i + 1))) (64 * r + 84) = jI B (64 * r + 84) := by rw [mI2 (by omega)]
      have e_hb : jI (jsI B (64 * r + 11) 6 (iN (kCn kd 3 i + 1))) (64 * r + 144) = jI B (64 * r + 144) := by rw [mI2 (by omega)]
      have e_nb : jI (jsI B (64 * r + 11) 6 (iN (kCn kd 3 i + 1))) (64 * r + 208) = jI B (64 * r + 208) := by rw [mI2 (by omega)]
      have e_db : jI (jsI B (64 * r + 11) 6 (iN (kCn kd 3 i + 1))) (64 * r + 272) = jI B (64 * r + 272) := by rw [mI2 (by omega)]
      have e_fb : jI (jsI B (64 * r + 11) 6 (iN (kCn kd 3 i + 1))) (64 * r + 336) = jI B (64 * r + 336) := by rw [mI2 (by omega)]
      have e_tb : jI (jsI B (64 * r + 11) 6 (iN (kCn kd 3 i + 1))) (64 * r + 400) = jI B (64 * r + 400) := by rw [mI2 (by omega)]
      have e_wb : jI (jsI B (64 * r + 11) 6 (iN (kCn kd 3 i + 1))) (64 * r + 464) = jI B (64 * r + 464) := by rw [mI2 (by omega)]
      have e_cb : jI (jsI B (64 * r + 11) 6 (iN (kCn kd 3 i + 1))) (64 * r + 528) = jI B (64 * r + 528) := by rw [mI2 (by omega)]
      have e_sB : jI (jsI B (64 * r + 11) 6 (iN (kCn kd 3 i + 1))) (64 * r + 594) = jI B (64 * r + 594) := by rw [mI2 (by omega)]
      have e_mB : jI (jsI B (64 * r + 11) 6 (iN (kCn kd 3 i + 1))) 4889 = jI B 4889 := by rw [mI2 (by omega)]
      refine ⟨0, (jsI (jsL (jsI A 194 7 (iN i)) 1692 (kCn kd 3 i) (kNa b (kTs b sz i) (kTl b sz i))) 579 2 (iN (kCn kd 3 i + 1))), (jsI B (64 * r + 11) 6 (iN (kCn kd 3 i + 1))), by decide, fun _ => ⟨(jCf_c (jCf_L (jCf_7 hfA) (by omega)) (by decide)), (jDf_c hfB hr2 (by decide)), ?_⟩, fun q => absurd rfl q, by rw [mI2 (by omega)], fun d b4 Q => ?_, fun d Q => ?_⟩
      · rw [e_cA, e_ba, e_ho, e_nu, e_di, e_fr, e_to, e_wi, e_co, e_mA, e_ns, e_nl, e_nt, e_cB, e_bb, e_hb, e_nb, e_db, e_fb, e_tb, e_wb, e_cb, e_sB, e_mB]
        exact rel_trunk hR hr c
      · rw [hJ]
        exact c_it_n hW hkl hK h4 (hk50 d) (fun Q => (hen d Q).trans (by rw [if_pos g, if_pos c]))
      · rw [v2, if_pos g, if_pos c]
        exact Iff.rfl
    · skip
      refine ⟨4, (jsI A 194 7 (iN i)), (jsI B (64 * r + 11) 6 (iN (kCn kd 3 i))), by decide, fun q => absurd q (by decide), fun _ => ⟨(jCf_7 hfA), (jDf_c hfB hr2 (by decide)), by rw [mI1, if_pos rfl]⟩, by rw [mI2 (by omega)], fun d b4 Q => ?_, fun d Q => ?_⟩
      · rw [hJ]
        exact c_it_n hW hkl hK h4 (hk50 d) (fun Q => (hen d Q).trans (by rw [if_pos g, if_neg c]))
      · rw [v2, if_pos g, if_neg c]
        exact Iff.rfl
  · skip
    refine ⟨2, (jsI A 194 7 (iN i)), (jsI B (64 * r + 11) 6 (iN (kCn kd 3 i))), by decide, fun q => absurd q (by decide), fun _ => ⟨(jCf_7 hfA), (jDf_c hfB hr2 (by decide)), by rw [mI1, if_pos rfl]⟩, by rw [mI2 (by omega)], fun d b4 Q => ?_, fun d Q => ?_⟩
    · rw [hJ]
      exact c_it_n hW hkl hK h4 (hk50 d) (fun Q => (hen d Q).trans (by rw [if_neg g]))
    · rw [v2, if_neg g]
      exact Iff.rfl
end MN
