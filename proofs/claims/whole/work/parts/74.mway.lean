/-! THE PURE PART: the cheapest way (reference). -/
theorem kCnt_6 {s : Int32} : kCnt s ≤ 6 := by
  unfold kCnt
  repeat' split
  all_goals omega
section C24
variable {d : Nat} {μ : jM} {Q : jO → jM → Prop} {n t p nh : Nat} {T : Nat → List (Nat × Int32)}
/-- the cheapest way from switch u to z: the state's row, the stack -/
def kWay_s (μ : jM) (p n t nh : Nat) (T : Nat → List (Nat × Int32)) (u : Nat) (z : Int32) : (Nat → Int32) × (Nat → Int32) := if rsum (fun q => if jI μ 6288 q = 1 then jI μ 6416 q >>> (iN u &&& 31) &&& 1 else 0) n < jI μ (64 * p + 84) u then kGo_s μ p n t nh T z 6 (iN u) (1 <<< (iN u &&& 31)) 0 0 0 (fun j => if j = 15 then -1 else jI μ 5836 j, jI μ 6680) else (fun j => if j = 15 then -1 else jI μ 5836 j, jI μ 6680)
theorem d_ways {u : Nat} {z : Int32} (hM : jMp μ p) (hn : jI μ (64 * p + 11) 2 = iN n) (h10 : n ≤ 10) (ht : jI μ (64 * p + 11) 6 = iN t) (ht10 : t ≤ 10) (hT : jMt μ p nh T) (ho : ∀ k, k < t → ∃ u, u < 6 ∧ jI μ (64 * p + 336) k = iN u) (ho2 : ∀ k, k < t → ∃ u, u < 6 ∧ jI μ (64 * p + 400) k = iN u) (hu : u < 6) : Ex (d + 13) 228 0 [some (.ref 5836), some (.int (iN u)), some (.int z)] [] μ Q ↔ Q (.inl (some (.int ((kWay_s μ p n t nh T u z).1 15)))) (jsR (jsR μ 5836 (kWay_s μ p n t nh T u z).1) 6680 (kWay_s μ p n t nh T u z).2) := by
  have hgo := fun (a : (Nat → Int32) × (Nat → Int32)) (Q : jO → jM → Prop) (ha : a.1 0 = jI μ 5836 0) => d_gos (z := z) hM hn h10 ht ht10 hT ho ho2 6 d (iN u) (1 <<< (iN u &&& 31)) 0 0 0 a Q kCnt_6 ha
  have hM0 := hM
  obtain ⟨hW, hp, hpl, hq⟩ := hM
  have hw := hW
  unfold jWd at hw
  unfold jMq at hq
  have jp := JP p
  have jpm := JPm p
  have hne := jPne hp
  have hI : ∀ a, ¬ a = 5836 → ¬ a = 6680 → ∀ W g, jI (jsR (jsR μ 5836 W) 6680 g) a = jI μ a := fun a h1 h2 W g => by rw [mR2 h2, mR2 h1]
  have hP : ∀ c, c < 900 → ∀ W g, jI (jsR (jsR μ 5836 W) 6680 g) (64 * p + c) = jI μ (64 * p + c) := fun c h W g => hI _ (hne c 5836 h (by decide) (by decide)) (hne c 6680 h (by decide) (by decide)) W g
  have hM1 : ∀ W g, jMp (jsR (jsR μ 5836 W) 6680 g) p := fun W g => jMp_c (by rw [mR3.2.1, mR3.2.1]) hM0
  have hld : ∀ (d : Nat) (v : Int32) (W g : Nat → Int32) (Q : jO → jM → Prop), Ex d 194 0 [some (.ref 5836), some (.int v), none, none] [] (jsR (jsR μ 5836 W) 6680 g) Q ↔ Q (.inl (some (.int (rsum (fun q => if jI μ 6288 q = 1 then jI μ 6416 q >>> (v &&& 31) &&& 1 else 0) n)))) (jsR (jsR μ 5836 W) 6680 g) := by
    intro d v W g Q
    have h := d_loads (d := d) (μ := jsR (jsR μ 5836 W) 6680 g) (Q := Q) (n := n) (v := v) (hM1 W g) (by rw [hP 11 (by decide)]; exact hn) h10
    rw [hI 6288 (by decide) (by decide), hI 6416 (by decide) (by decide)] at h
    exact h
  have uc : (iN u).toNatClampNeg = u := iN_cl (by omega)
  have uj : jin (iN u) 6 = true := iN_in (by omega) (by omega)
  have e : jsR (jsR μ 5836 (jI μ 5836)) 6680 (jI μ 6680) = μ := by
    rw [jsR_id (a := 5836) rfl, jsR_id rfl]
  have hg0 := fun Q => hgo (fun j => if j = 15 then -1 else jI μ 5836 j, jI μ 6680) Q rfl
  dsimp only at hg0
  have h0 : Ex (d + 13) 228 0 [some (.ref 5836), some (.int (iN u)), some (.int z)] [] μ Q ↔ Ex (d + 13) 228 0 [some (.ref 5836), some (.int (iN u)), some (.int z)] [] (jsR (jsR μ 5836 (jI μ 5836)) 6680 (jI μ 6680)) Q := by rw [e]
  rw [h0]
  unfold kWay_s
  by_cases g : rsum (fun q => if jI μ 6288 q = 1 then jI μ 6416 q >>> (iN u &&& 31) &&& 1 else 0) n < jI μ (64 * p + 84) u
  all_goals simp only [x228_0, x228_1, x228_2, x228_5, x228_6, x228_7, x228_10, x228_11, x228_14, x228_17, x228_20, x228_21, x228_22, x228_25, x228_26, x228_27, x228_28, x228_29, x228_30, x228_31, x228_32, x228_33, x228_34, x228_37, x228_38, x228_41, mzi, mInc, mne, mlt9, mrk, mI1, mI2, mI3, mI4, mL1, mL2, mL3, mL4, mQ1, mQ2, mQ3, mQ4, mT1, mcat0, mcat1, mcat2, mcat3, mcat4, mrf1, jK_v, jK_n, JA, mz1, if_true, if_false, ite_true, ite_false, eq_self, not_false_eq_true, Nat.zero_le, true_and, and_true, and_self, Nat.reduceMod, Nat.reduceAdd, Nat.reduceLeDiff, Nat.reduceEqDiff, Nat.reduceLT, mR1, mR2, mR3, mRI, mRIc, hw, hpl, hq, jp, jpm, hne, hI, hP, hld, uc, uj, g, hg0]
/-- the cheapest way from switch u to z: the state's row, the stack -/
def kWay_h (μ : jM) (p n t nh : Nat) (T : Nat → List (Nat × Int32)) (u : Nat) (z : Int32) : (Nat → Int32) × (Nat → Int32) := if rsum (fun q => if jI μ 7184 q = 1 then jI μ 7312 q >>> (iN u &&& 31) &&& 1 else 0) n < jI μ (64 * p + 84) u then kGo_h μ p n t nh T z 6 (iN u) (1 <<< (iN u &&& 31)) 0 0 0 (fun j => if j = 15 then -1 else jI μ 6732 j, jI μ 7576) else (fun j => if j = 15 then -1 else jI μ 6732 j, jI μ 7576)
theorem d_wayh {u : Nat} {z : Int32} (hM : jMp μ p) (hn : jI μ (64 * p + 11) 2 = iN n) (h10 : n ≤ 10) (ht : jI μ (64 * p + 11) 6 = iN t) (ht10 : t ≤ 10) (hT : jMt μ p nh T) (ho : ∀ k, k < t → ∃ u, u < 6 ∧ jI μ (64 * p + 336) k = iN u) (ho2 : ∀ k, k < t → ∃ u, u < 6 ∧ jI μ (64 * p + 400) k = iN u) (hu : u < 6) : Ex (d + 13) 228 0 [some (.ref 6732), some (.int (iN u)), some (.int z)] [] μ Q ↔ Q (.inl (some (.int ((kWay_h μ p n t nh T u z).1 15)))) (jsR (jsR μ 6732 (kWay_h μ p n t nh T u z).1) 7576 (kWay_h μ p n t nh T u z).2) := by
  have hgo := fun (a : (Nat → Int32) × (Nat → Int32)) (Q : jO → jM → Prop) (ha : a.1 0 = jI μ 6732 0) => d_goh (z := z) hM hn h10 ht ht10 hT ho ho2 6 d (iN u) (1 <<< (iN u &&& 31)) 0 0 0 a Q kCnt_6 ha
  have hM0 := hM
  obtain ⟨hW, hp, hpl, hq⟩ := hM
  have hw := hW
  unfold jWd at hw
  unfold jMq at hq
  have jp := JP p
  have jpm := JPm p
  have hne := jPne hp
  have hI : ∀ a, ¬ a = 6732 → ¬ a = 7576 → ∀ W g, jI (jsR (jsR μ 6732 W) 7576 g) a = jI μ a := fun a h1 h2 W g => by rw [mR2 h2, mR2 h1]
  have hP : ∀ c, c < 900 → ∀ W g, jI (jsR (jsR μ 6732 W) 7576 g) (64 * p + c) = jI μ (64 * p + c) := fun c h W g => hI _ (hne c 6732 h (by decide) (by decide)) (hne c 7576 h (by decide) (by decide)) W g
  have hM1 : ∀ W g, jMp (jsR (jsR μ 6732 W) 7576 g) p := fun W g => jMp_c (by rw [mR3.2.1, mR3.2.1]) hM0
  have hld : ∀ (d : Nat) (v : Int32) (W g : Nat → Int32) (Q : jO → jM → Prop), Ex d 194 0 [some (.ref 6732), some (.int v), none, none] [] (jsR (jsR μ 6732 W) 7576 g) Q ↔ Q (.inl (some (.int (rsum (fun q => if jI μ 7184 q = 1 then jI μ 7312 q >>> (v &&& 31) &&& 1 else 0) n)))) (jsR (jsR μ 6732 W) 7576 g) := by
    intro d v W g Q
    have h := d_loadh (d := d) (μ := jsR (jsR μ 6732 W) 7576 g) (Q := Q) (n := n) (v := v) (hM1 W g) (by rw [hP 11 (by decide)]; exact hn) h10
    rw [hI 7184 (by decide) (by decide), hI 7312 (by decide) (by decide)] at h
    exact h
  have uc : (iN u).toNatClampNeg = u := iN_cl (by omega)
  have uj : jin (iN u) 6 = true := iN_in (by omega) (by omega)
  have e : jsR (jsR μ 6732 (jI μ 6732)) 7576 (jI μ 7576) = μ := by
    rw [jsR_id (a := 6732) rfl, jsR_id rfl]
  have hg0 := fun Q => hgo (fun j => if j = 15 then -1 else jI μ 6732 j, jI μ 7576) Q rfl
  dsimp only at hg0
  have h0 : Ex (d + 13) 228 0 [some (.ref 6732), some (.int (iN u)), some (.int z)] [] μ Q ↔ Ex (d + 13) 228 0 [some (.ref 6732), some (.int (iN u)), some (.int z)] [] (jsR (jsR μ 6732 (jI μ 6732)) 7576 (jI μ 7576)) Q := by rw [e]
  rw [h0]
  unfold kWay_h
  by_cases g : rsum (fun q => if jI μ 7184 q = 1 then jI μ 7312 q >>> (iN u &&& 31) &&& 1 else 0) n < jI μ (64 * p + 84) u
  all_goals simp only [x228_0, x228_1, x228_2, x228_5, x228_6, x228_7, x228_10, x228_11, x228_14, x228_17, x228_20, x228_21, x228_22, x228_25, x228_26, x228_27, x228_28, x228_29, x228_30, x228_31, x228_32, x228_33, x228_34, x228_37, x228_38, x228_41, mzi, mInc, mne, mlt9, mrk, mI1, mI2, mI3, mI4, mL1, mL2, mL3, mL4, mQ1, mQ2, mQ3, mQ4, mT1, mcat0, mcat1, mcat2, mcat3, mcat4, mrf1, jK_v, jK_n, JA, mz1, if_true, if_false, ite_true, ite_false, eq_self, not_false_eq_true, Nat.zero_le, true_and, and_true, and_self, Nat.reduceMod, Nat.reduceAdd, Nat.reduceLeDiff, Nat.reduceEqDiff, Nat.reduceLT, mR1, mR2, mR3, mRI, mRIc, hw, hpl, hq, jp, jpm, hne, hI, hP, hld, uc, uj, g, hg0]
end C24
