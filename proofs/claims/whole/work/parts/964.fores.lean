/-! THE PURE PART: foresee. -/
section FORES
variable {d p m n t L nh w mk sz r l f k j q a b : Nat} {μ ν μ2 A B : jM} {Q : jO → jM → Prop} {K : Nat → Nat} {T : Nat → List (Nat × Int32)} {x y : Int32} {pn pd : Nat → Int32}
variable {A1 B1 : jM}
theorem R_copy (hn : n ≤ 10) (h : jRXn A B n w mk pn pd) : jRXa (kCopy A) (kBecome B) n w mk pn pd := by
  have hwn : w ≤ n := kQu_n h.2.2.2.2.2.2.2.2.2.2.1 (by omega)
  obtain ⟨h1, h2, h3, h4, h5, h6, h7, hE, hD, hL, hQ, hP⟩ := h
  have q0 : jI (kCopy A) 3463 2 = jI A 2567 2 ∧ jI (kCopy A) 3463 3 = jI A 2567 3 ∧ jI (kCopy A) 3463 16 = jI A 2567 16 := by
    unfold kCopy
    simp only [mR2, Nat.reduceEqDiff, not_false_eq_true]
    refine ⟨?_, ?_, ?_⟩ <;> simp [mI1]
  have q1 : jI (kBecome B) 6732 0 = jI B 5836 0 ∧ jI (kBecome B) 6732 1 = jI B 5836 1 ∧ jI (kBecome B) 6732 7 = jI B 5836 7 := by
    unfold kBecome
    simp only [mR2, Nat.reduceEqDiff, not_false_eq_true]
    refine ⟨?_, ?_, ?_⟩ <;> simp [mI1]
  have r2640 : jI (kCopy A) 3536 = fun j => if j < 10 then jI A 2640 j else jI A 3536 j := by unfold kCopy; simp only [mR1, mR2, Nat.reduceEqDiff, not_false_eq_true]
  have r2704 : jI (kCopy A) 3600 = fun j => if j < 10 then jI A 2704 j else jI A 3600 j := by unfold kCopy; simp only [mR1, mR2, Nat.reduceEqDiff, not_false_eq_true]
  have r2768 : jI (kCopy A) 3664 = fun j => if j < 10 then jI A 2768 j else jI A 3664 j := by unfold kCopy; simp only [mR1, mR2, Nat.reduceEqDiff, not_false_eq_true]
  have r2832 : jI (kCopy A) 3728 = fun j => if j < 10 then jI A 2832 j else jI A 3728 j := by unfold kCopy; simp only [mR1, mR2, Nat.reduceEqDiff, not_false_eq_true]
  have r2896 : jI (kCopy A) 3792 = fun j => if j < 10 then jI A 2896 j else jI A 3792 j := by unfold kCopy; simp only [mR1, mR2, Nat.reduceEqDiff, not_false_eq_true]
  have r2960 : jI (kCopy A) 3856 = fun j => if j < 10 then jI A 2960 j else jI A 3856 j := by unfold kCopy; simp only [mR1, mR2, Nat.reduceEqDiff, not_false_eq_true]
  have r3024 : jI (kCopy A) 3920 = fun j => if j < 10 then jI A 3024 j else jI A 3920 j := by unfold kCopy; simp only [mR1, mR2, Nat.reduceEqDiff, not_false_eq_true]
  have r3088 : jI (kCopy A) 3984 = fun j => if j < 10 then jI A 3088 j else jI A 3984 j := by unfold kCopy; simp only [mR1, mR2, Nat.reduceEqDiff, not_false_eq_true]
  have r3152 : jI (kCopy A) 4048 = fun j => if j < 10 then jI A 3152 j else jI A 4048 j := by unfold kCopy; simp only [mR1, mR2, Nat.reduceEqDiff, not_false_eq_true]
  have r3216 : jI (kCopy A) 4112 = fun j => if j < 10 then jI A 3216 j else jI A 4112 j := by unfold kCopy; simp only [mR1, mR2, Nat.reduceEqDiff, not_false_eq_true]
  have r3280 : jI (kCopy A) 4176 = fun j => if j < 10 then jI A 3280 j else jI A 4176 j := by unfold kCopy; simp only [mR1, mR2, Nat.reduceEqDiff, not_false_eq_true]
  have r3344 : jI (kCopy A) 4240 = fun j => if j < 10 then jI A 3344 j else jI A 4240 j := by unfold kCopy; simp only [mR1, mR2, Nat.reduceEqDiff, not_false_eq_true]
  have s5904 : jI (kBecome B) 6800 = fun j => if j < 10 then jI B 5904 j else jI B 6800 j := by unfold kBecome; simp only [mR1, mR2, Nat.reduceEqDiff, not_false_eq_true]
  have s5968 : jI (kBecome B) 6864 = fun j => if j < 10 then jI B 5968 j else jI B 6864 j := by unfold kBecome; simp only [mR1, mR2, Nat.reduceEqDiff, not_false_eq_true]
  have s6032 : jI (kBecome B) 6928 = fun j => if j < 10 then jI B 6032 j else jI B 6928 j := by unfold kBecome; simp only [mR1, mR2, Nat.reduceEqDiff, not_false_eq_true]
  have s6096 : jI (kBecome B) 6992 = fun j => if j < 10 then jI B 6096 j else jI B 6992 j := by unfold kBecome; simp only [mR1, mR2, Nat.reduceEqDiff, not_false_eq_true]
  have s6160 : jI (kBecome B) 7056 = fun j => if j < 10 then jI B 6160 j else jI B 7056 j := by unfold kBecome; simp only [mR1, mR2, Nat.reduceEqDiff, not_false_eq_true]
  have s6224 : jI (kBecome B) 7120 = fun j => if j < 10 then jI B 6224 j else jI B 7120 j := by unfold kBecome; simp only [mR1, mR2, Nat.reduceEqDiff, not_false_eq_true]
  have s6288 : jI (kBecome B) 7184 = fun j => if j < 10 then jI B 6288 j else jI B 7184 j := by unfold kBecome; simp only [mR1, mR2, Nat.reduceEqDiff, not_false_eq_true]
  have s6352 : jI (kBecome B) 7248 = fun j => if j < 10 then jI B 6352 j else jI B 7248 j := by unfold kBecome; simp only [mR1, mR2, Nat.reduceEqDiff, not_false_eq_true]
  have s6416 : jI (kBecome B) 7312 = fun j => if j < 10 then jI B 6416 j else jI B 7312 j := by unfold kBecome; simp only [mR1, mR2, Nat.reduceEqDiff, not_false_eq_true]
  have s6480 : jI (kBecome B) 7376 = fun j => if j < 10 then jI B 6480 j else jI B 7376 j := by unfold kBecome; simp only [mR1, mR2, Nat.reduceEqDiff, not_false_eq_true]
  have s6544 : jI (kBecome B) 7440 = fun j => if j < 10 then jI B 6544 j else jI B 7440 j := by unfold kBecome; simp only [mR1, mR2, Nat.reduceEqDiff, not_false_eq_true]
  have s6608 : jI (kBecome B) 7504 = fun j => if j < 10 then jI B 6608 j else jI B 7504 j := by unfold kBecome; simp only [mR1, mR2, Nat.reduceEqDiff, not_false_eq_true]
  unfold jRXa
  rw [q0.1, q0.2.1, q0.2.2, q1.1, q1.2.1, q1.2.2]
  refine ⟨h1, h2, h3, h4, h5, h6, h7, fun l hl => ?_, fun l hl => ?_, fun l hl => ?_, ⟨fun j hj => ?_, fun i j hij hj => ?_, fun l hl => ?_⟩, fun l hl1 hl2 => ?_⟩
  · have h10 : l < 10 := by omega
    have e := hE l hl
    rw [r2640, r2704, r2768, r2832, r2960, r3024, r3088, r3152, r3216, r3280, s5904, s5968, s6032, s6096, s6224, s6288, s6352, s6416, s6480, s6544, s6608]
    unfold kEq at e ⊢
    simp only [if_pos h10]
    exact e
  · have h10 : l < 10 := by omega
    have e := hD l hl
    rw [r2640, r2768, r2832, r2896]
    unfold kDg at e ⊢
    simp only [if_pos h10]
    exact e
  · have h10 : l < 10 := by omega
    rw [r2640, r2704, r3024]
    rcases hL l hl with a | ⟨j, a1, a2⟩
    · simp only [if_pos h10]
      exact Or.inl a
    · have j10 : j < 10 := by omega
      refine Or.inr ⟨j, a1, ?_⟩
      simp only [if_pos h10, if_pos j10]
      exact a2
  · have j10 : j < 10 := by omega
    obtain ⟨a1, q, a2, a3, a4⟩ := hQ.1 j hj
    have q10 : q < 10 := by omega
    rw [r2640, r3344, s6160]
    simp only [if_pos j10]
    refine ⟨a1, q, a2, a3, ?_⟩
    simp only [if_pos q10]
    exact a4
  · rw [r3344]
    simp only [if_pos (show i < 10 by omega), if_pos (show j < 10 by omega)]
    exact hQ.2.1 i j hij hj
  · rw [r2640, r3344]
    simp only [if_pos (show l < 10 by omega)]
    intro hd
    obtain ⟨j, a1, a2⟩ := hQ.2.2 l hl hd
    refine ⟨j, a1, ?_⟩
    simp only [if_pos (show j < 10 by omega)]
    exact a2
  · rw [r2960, s6096]
    simp only [if_pos hl2]
    exact hP l hl1 hl2
theorem kCopy_f {a : Nat} (h : a < 3463 ∨ 4240 < a) : jI (kCopy A) a = jI A a := by
  unfold kCopy
  rw [mR2 (by omega), mR2 (by omega), mR2 (by omega), mR2 (by omega), mR2 (by omega), mR2 (by omega), mR2 (by omega), mR2 (by omega), mR2 (by omega), mR2 (by omega), mR2 (by omega), mR2 (by omega), mI2 (by omega), mI2 (by omega), mI2 (by omega)]
theorem kBecome_f {a : Nat} (h : a < 6732 ∨ 7504 < a) : jI (kBecome A) a = jI A a := by
  unfold kBecome
  rw [mR2 (by omega), mR2 (by omega), mR2 (by omega), mR2 (by omega), mR2 (by omega), mR2 (by omega), mR2 (by omega), mR2 (by omega), mR2 (by omega), mR2 (by omega), mR2 (by omega), mR2 (by omega), mI2 (by omega), mI2 (by omega), mI2 (by omega)]
theorem kCopy_q : jQ (kCopy A) = jQ A ∧ jL (kCopy A) = jL A ∧ jA (kCopy A) = jA A ∧ jX (kCopy A) = jX A := by
  unfold kCopy
  simp only [mR3, mI3, mI4, mI5, mI6, and_self]
theorem kBecome_q : jQ (kBecome A) = jQ A ∧ jL (kBecome A) = jL A ∧ jA (kBecome A) = jA A ∧ jX (kBecome A) = jX A := by
  unfold kBecome
  simp only [mR3, mI3, mI4, mI5, mI6, and_self]
theorem jSc_cp : jSc μ (kCopy μ) := ⟨fun a _ n => kCopy_f (by unfold kScr at n; omega), by rw [kCopy_f (by decide)], fun k _ => by rw [kCopy_f (by decide)], fun k _ => by rw [kCopy_f (by decide)], fun a _ => by rw [kCopy_q.1], by rw [kCopy_q.2.2.1]; exact Nat.le_refl _⟩
theorem jSc_bc : jSc μ (kBecome μ) := ⟨fun a _ n => kBecome_f (by unfold kScr at n; omega), by rw [kBecome_f (by decide)], fun k _ => by rw [kBecome_f (by decide)], fun k _ => by rw [kBecome_f (by decide)], fun a _ => by rw [kBecome_q.1], by rw [kBecome_q.2.2.1]; exact Nat.le_refl _⟩
theorem jSc_sma (h : jSma μ ν) : jSc μ ν := by
  obtain ⟨s1, s2, s3, s4, s5, s6⟩ := h
  exact ⟨fun a _ n => s5 a (by unfold kScr at n; omega) (by unfold kScr at n; omega) (by unfold kScr at n; omega), s6, fun k _ => by rw [s5 4490 (by decide) (by decide) (by decide)], fun k _ => by rw [s5 5836 (by decide) (by decide) (by decide)], fun a _ => by rw [s1], by rw [s3]; exact Nat.le_refl _⟩
theorem jSc_fmh (h : jFmh μ ν) : jSc μ ν := by
  obtain ⟨s1, s2, s3, s4, s5⟩ := h
  exact ⟨fun a _ n => s5 a (by unfold kScr at n; omega), by rw [s5 2308 (by decide)], fun k _ => by rw [s5 4490 (by decide)], fun k _ => by rw [s5 5836 (by decide)], fun a _ => by rw [s1], by rw [s3]; exact Nat.le_refl _⟩
theorem kRla_0 (h1 : jRP A B p m n t L K nh T) (h2 : jRXn A B n w mk (jI A 1936) (jI A 2000)) : kRla (kCopy A) (kBecome B) p m n t L K nh T w mk := by
  have hf := jRP_f h1
  refine ⟨jRP_g h1 (jWd_c kCopy_q.1 h1.1.1) (by rw [kCopy_q.1]) (fun a ha => kCopy_f (by omega)) (by rw [kCopy_f (by decide)]) (jWd_c kBecome_q.1 h1.2.1.1) (by rw [kBecome_q.1]) (by rw [kBecome_q.1]) fun c hc => kBecome_f (by omega), ?_⟩
  rw [kCopy_f (by decide), kCopy_f (by decide)]
  exact R_copy h1.1.2.2.2.2.1 h2
def kFoA (A : jM) (n : Nat) (s : Int32) : List Int32 := [s, rsum (fun k => if jI A 3920 k = 0 then 0 else 1) n, rsum (fun k => if jI A 3536 k = 6 then 1 else 0) n + rsum (fun k => if jI A 3536 k = 7 then 1 else 0) n, rsum (fun k => jI A 3856 k) n - rsum (fun k => jI A 2960 k) n]
def kFoB (B : jM) (n : Nat) (s : Int32) : List Int32 := [s, rsum (fun k => jI B 7184 k) n, rsum (fun k => if jI B 6800 k = 6 then 1 else 0) n + rsum (fun k => if jI B 6800 k = 7 then 1 else 0) n, rsum (fun k => jI B 6992 k) 10 - rsum (fun k => jI B 6096 k) 10]
theorem kFo_eq {w2 mk2 : Nat} (hn : n ≤ 10) (h : jRXa A B n w mk pn pd) {pn2 pd2 : Nat → Int32} (h2 : jRXn A B n w2 mk2 pn2 pd2) {s : Int32} : kFoA A n s = kFoB B n s := by
  unfold kFoA kFoB
  rw [E_conna h, E_doa h, E_doa h, E_paida hn h, E_paidn hn h2]
theorem c_foreE (hW : jWd A) (hn1 : jI A 1731 1 = iN n) (h10 : n ≤ 10) {N : Nat} {s : Int32} (hN : N ≤ 60) (hk : k < 4) : Ex (d + 2) 265 40 [some (.ref 0), some (.int (iN N)), some (.int (iN k)), some (.int s), some (.int (iN N))] [] A Q ↔ Q (.inl (some (.int ((kFoA A n s).getD k 0)))) A := by
  have hw := hW
  unfold jWd at hw
  have hge : ¬ iN N < iN N := iN_irr (by omega)
  have h139 := fun (d : Nat) (Q : jO → jM → Prop) => c_conna (d := d) (Q := Q) hW hn1 h10
  have h267 := fun (d : Nat) (v : Int32) (Q : jO → jM → Prop) => c_linesDoa (d := d) (w := v) (Q := Q) hW hn1 h10
  have h142a := fun (d : Nat) (Q : jO → jM → Prop) => c_paida (d := d) (Q := Q) hW hn1 h10
  have h142n := fun (d : Nat) (Q : jO → jM → Prop) => c_paidn (d := d) (Q := Q) hW hn1 h10
  have hc : k = 0 ∨ k = 1 ∨ k = 2 ∨ k = 3 := by omega
  rcases hc with rfl | rfl | rfl | rfl
  · have hs : jsw [(0, 88), (1, 90), (2, 98)] 118 ((0 : Int32)) = 88 := by decide
    simp only [↓if_neg hge, x265_40, x265_42, x265_43, x265_46, x265_47, x265_48, x265_51, x265_54, x265_55a, x265_55b, x265_55c, x265_56a, x265_56b, x265_56c, x265_59, x265_62, x265_63, x265_88, x265_89, mzi, mInc, mne, mlt9, mrk, mI1, mI2, mI3, mI4, mL1, mL2, mL3, mL4, mQ1, mQ2, mQ3, mQ4, mT1, mcat0, mcat1, mcat2, mcat3, mcat4, mrf1, jK_v, jK_n, JA, mz1, if_true, if_false, ite_true, ite_false, eq_self, not_false_eq_true, Nat.zero_le, true_and, and_true, and_self, Nat.reduceMod, Nat.reduceAdd, Nat.reduceLeDiff, Nat.reduceEqDiff, Nat.reduceLT, hs, hge, hw, h139, h267, h142a, h142n]
    rfl
  · have hs : jsw [(0, 88), (1, 90), (2, 98)] 118 (iN 1) = 90 := by decide
    simp only [↓if_neg hge, x265_40, x265_42, x265_43, x265_46, x265_47, x265_48, x265_51, x265_54, x265_55a, x265_55b, x265_55c, x265_56a, x265_56b, x265_56c, x265_59, x265_62, x265_63, x265_90, x265_91, x265_94, x265_97, mzi, mInc, mne, mlt9, mrk, mI1, mI2, mI3, mI4, mL1, mL2, mL3, mL4, mQ1, mQ2, mQ3, mQ4, mT1, mcat0, mcat1, mcat2, mcat3, mcat4, mrf1, jK_v, jK_n, JA, mz1, if_true, if_false, ite_true, ite_false, eq_self, not_false_eq_true, Nat.zero_le, true_and, and_true, and_self, Nat.reduceMod, Nat.reduceAdd, Nat.reduceLeDiff, Nat.reduceEqDiff, Nat.reduceLT, hs, hge, hw, h139, h267, h142a, h142n]
    rfl
  · have hs : jsw [(0, 88), (1, 90), (2, 98)] 118 (iN 2) = 98 := by decide
    simp only [↓if_neg hge, x265_40, x265_42, x265_43, x265_46, x265_47, x265_48, x265_51, x265_54, x265_55a, x265_55b, x265_55c, x265_56a, x265_56b, x265_56c, x265_59, x265_62, x265_63, x265_98, x265_99, x265_102, x265_104, x265_107, x265_108, x265_111, x265_113, x265_116, x265_117, mzi, mInc, mne, mlt9, mrk, mI1, mI2, mI3, mI4, mL1, mL2, mL3, mL4, mQ1, mQ2, mQ3, mQ4, mT1, mcat0, mcat1, mcat2, mcat3, mcat4, mrf1, jK_v, jK_n, JA, mz1, if_true, if_false, ite_true, ite_false, eq_self, not_false_eq_true, Nat.zero_le, true_and, and_true, and_self, Nat.reduceMod, Nat.reduceAdd, Nat.reduceLeDiff, Nat.reduceEqDiff, Nat.reduceLT, hs, hge, hw, h139, h267, h142a, h142n]
    rfl
  · have hs : jsw [(0, 88), (1, 90), (2, 98)] 118 (iN 3) = 118 := by decide
    simp only [↓if_neg hge, x265_40, x265_42, x265_43, x265_46, x265_47, x265_48, x265_51, x265_54, x265_55a, x265_55b, x265_55c, x265_56a, x265_56b, x265_56c, x265_59, x265_62, x265_63, x265_118, x265_119, x265_122, x265_125, x265_126, x265_129, x265_132, x265_133, mzi, mInc, mne, mlt9, mrk, mI1, mI2, mI3, mI4, mL1, mL2, mL3, mL4, mQ1, mQ2, mQ3, mQ4, mT1, mcat0, mcat1, mcat2, mcat3, mcat4, mrf1, jK_v, jK_n, JA, mz1, if_true, if_false, ite_true, ite_false, eq_self, not_false_eq_true, Nat.zero_le, true_and, and_true, and_self, Nat.reduceMod, Nat.reduceAdd, Nat.reduceLeDiff, Nat.reduceEqDiff, Nat.reduceLT, hs, hge, hw, h139, h267, h142a, h142n]
    rfl

theorem d_foreE (hM : jMp B p) (hn1 : jI B (64 * p + 11) 2 = iN n) (h10 : n ≤ 10) {N : Nat} {s : Int32} (hN : N ≤ 60) (hk : k < 4) : Ex (d + 2) 268 52 [some (.ref 4490), some (.int (iN N)), some (.int (iN k)), some (.int s), some (.int (iN N))] [] B Q ↔ Q (.inl (some (.int ((kFoB B n s).getD k 0)))) B := by
  have hw := hM.1
  unfold jWd at hw
  have hge : ¬ iN N < iN N := iN_irr (by omega)
  have h145 := fun (d : Nat) (Q : jO → jM → Prop) => d_connh (d := d) (Q := Q) hM hn1 h10
  have h146 := fun (d : Nat) (v : Int32) (Q : jO → jM → Prop) => d_doingh (d := d) (v := v) (Q := Q) hM hn1 h10
  have h147h := fun (d : Nat) (Q : jO → jM → Prop) => d_paidh (d := d) (Q := Q) hM.1
  have h147s := fun (d : Nat) (Q : jO → jM → Prop) => d_paids (d := d) (Q := Q) hM.1
  have q0 : ¬ iN 2 = 0 ∧ ¬ iN 3 = 0 ∧ ¬ iN 1 = 0 ∧ ¬ iN 2 = 1 ∧ ¬ iN 3 = 1 ∧ ¬ iN 3 = 2 ∧ iN 1 = 1 ∧ iN 2 = 2 ∧ ¬ (2 : Int32) = 0 ∧ ¬ (2 : Int32) = 1 := by decide
  have hc : k = 0 ∨ k = 1 ∨ k = 2 ∨ k = 3 := by omega
  rcases hc with rfl | rfl | rfl | rfl
  · simp only [↓if_neg hge, x268_52, x268_0, x268_1, x268_2, x268_5, x268_6, x268_7, x268_9, x268_12, x268_15, x268_16, x268_17, x268_20, x268_21, x268_22, x268_23, x268_24, x268_27, x268_30, x268_31, x268_32, x268_35, x268_36, x268_37, x268_40, x268_41, x268_44, x268_47, x268_48a, x268_48b, x268_48c, x268_49, x268_50a, x268_50b, x268_50c, x268_54, x268_55, x268_58, x268_59, x268_60, x268_63, x268_66, x268_67a, x268_67b, x268_67c, x268_68a, x268_68b, x268_68c, x268_71, x268_74, x268_75, x268_78, x268_79, x268_82, x268_83, x268_84, x268_87, x268_88, x268_91, x268_94, x268_97, x268_98, x268_99, x268_102, x268_103, x268_106, x268_108, x268_111, x268_112, x268_115, x268_117, x268_120, x268_121, x268_124, x268_125, x268_128, x268_131, x268_132, x268_135, x268_138, x268_139, mzi, mInc, mne, mlt9, mrk, mI1, mI2, mI3, mI4, mL1, mL2, mL3, mL4, mQ1, mQ2, mQ3, mQ4, mT1, mcat0, mcat1, mcat2, mcat3, mcat4, mrf1, jK_v, jK_n, JA, mz1, if_true, if_false, ite_true, ite_false, eq_self, not_false_eq_true, Nat.zero_le, true_and, and_true, and_self, Nat.reduceMod, Nat.reduceAdd, Nat.reduceLeDiff, Nat.reduceEqDiff, Nat.reduceLT, hge, hw, h145, h146, h147h, h147s, q0]
    rfl
  · simp only [↓if_neg hge, x268_52, x268_0, x268_1, x268_2, x268_5, x268_6, x268_7, x268_9, x268_12, x268_15, x268_16, x268_17, x268_20, x268_21, x268_22, x268_23, x268_24, x268_27, x268_30, x268_31, x268_32, x268_35, x268_36, x268_37, x268_40, x268_41, x268_44, x268_47, x268_48a, x268_48b, x268_48c, x268_49, x268_50a, x268_50b, x268_50c, x268_54, x268_55, x268_58, x268_59, x268_60, x268_63, x268_66, x268_67a, x268_67b, x268_67c, x268_68a, x268_68b, x268_68c, x268_71, x268_74, x268_75, x268_78, x268_79, x268_82, x268_83, x268_84, x268_87, x268_88, x268_91, x268_94, x268_97, x268_98, x268_99, x268_102, x268_103, x268_106, x268_108, x268_111, x268_112, x268_115, x268_117, x268_120, x268_121, x268_124, x268_125, x268_128, x268_131, x268_132, x268_135, x268_138, x268_139, mzi, mInc, mne, mlt9, mrk, mI1, mI2, mI3, mI4, mL1, mL2, mL3, mL4, mQ1, mQ2, mQ3, mQ4, mT1, mcat0, mcat1, mcat2, mcat3, mcat4, mrf1, jK_v, jK_n, JA, mz1, if_true, if_false, ite_true, ite_false, eq_self, not_false_eq_true, Nat.zero_le, true_and, and_true, and_self, Nat.reduceMod, Nat.reduceAdd, Nat.reduceLeDiff, Nat.reduceEqDiff, Nat.reduceLT, hge, hw, h145, h146, h147h, h147s, q0]
    rfl
  · simp only [↓if_neg hge, x268_52, x268_0, x268_1, x268_2, x268_5, x268_6, x268_7, x268_9, x268_12, x268_15, x268_16, x268_17, x268_20, x268_21, x268_22, x268_23, x268_24, x268_27, x268_30, x268_31, x268_32, x268_35, x268_36, x268_37, x268_40, x268_41, x268_44, x268_47, x268_48a, x268_48b, x268_48c, x268_49, x268_50a, x268_50b, x268_50c, x268_54, x268_55, x268_58, x268_59, x268_60, x268_63, x268_66, x268_67a, x268_67b, x268_67c, x268_68a, x268_68b, x268_68c, x268_71, x268_74, x268_75, x268_78, x268_79, x268_82, x268_83, x268_84, x268_87, x268_88, x268_91, x268_94, x268_97, x268_98, x268_99, x268_102, x268_103, x268_106, x268_108, x268_111, x268_112, x268_115, x268_117, x268_120, x268_121, x268_124, x268_125, x268_128, x268_131, x268_132, x268_135, x268_138, x268_139, mzi, mInc, mne, mlt9, mrk, mI1, mI2, mI3, mI4, mL1, mL2, mL3, mL4, mQ1, mQ2, mQ3, mQ4, mT1, mcat0, mcat1, mcat2, mcat3, mcat4, mrf1, jK_v, jK_n, JA, mz1, if_true, if_false, ite_true, ite_false, eq_self, not_false_eq_true, Nat.zero_le, true_and, and_true, and_self, Nat.reduceMod, Nat.reduceAdd, Nat.reduceLeDiff, Nat.reduceEqDiff, Nat.reduceLT, hge, hw, h145, h146, h147h, h147s, q0]
    rfl
  · simp only [↓if_neg hge, x268_52, x268_0, x268_1, x268_2, x268_5, x268_6, x268_7, x268_9, x268_12, x268_15, x268_16, x268_17, x268_20, x268_21, x268_22, x268_23, x268_24, x268_27, x268_30, x268_31, x268_32, x268_35, x268_36, x268_37, x268_40, x268_41, x268_44, x268_47, x268_48a, x268_48b, x268_48c, x268_49, x268_50a, x268_50b, x268_50c, x268_54, x268_55, x268_58, x268_59, x268_60, x268_63, x268_66, x268_67a, x268_67b, x268_67c, x268_68a, x268_68b, x268_68c, x268_71, x268_74, x268_75, x268_78, x268_79, x268_82, x268_83, x268_84, x268_87, x268_88, x268_91, x268_94, x268_97, x268_98, x268_99, x268_102, x268_103, x268_106, x268_108, x268_111, x268_112, x268_115, x268_117, x268_120, x268_121, x268_124, x268_125, x268_128, x268_131, x268_132, x268_135, x268_138, x268_139, mzi, mInc, mne, mlt9, mrk, mI1, mI2, mI3, mI4, mL1, mL2, mL3, mL4, mQ1, mQ2, mQ3, mQ4, mT1, mcat0, mcat1, mcat2, mcat3, mcat4, mrf1, jK_v, jK_n, JA, mz1, if_true, if_false, ite_true, ite_false, eq_self, not_false_eq_true, Nat.zero_le, true_and, and_true, and_self, Nat.reduceMod, Nat.reduceAdd, Nat.reduceLeDiff, Nat.reduceEqDiff, Nat.reduceLT, hge, hw, h145, h146, h147h, h147s, q0]
    rfl
theorem c_fore_x (h : x < 1 ∨ 60 < x) : Ex (d + 1) 265 0 [some (.ref 0), some (.int x), some (.int y), none, none] [] μ Q ↔ Q (.inr 1) (jthr μ) := by
  have hnk := fun (d : Nat) (x : Int32) (Q : jO → jM → Prop) => c_needK (d := d) (μ := μ) (x := x) (Q := Q)
  have hx : jhs 265 = [] := rfl
  by_cases h1 : x < 1
  · simp only [x265_0, x265_1, x265_4, x265_5, x265_8, x265_9, x265_10, x265_13, x265_24, x265_25, x265_28, x265_29, x265_32, x265_35, x265_36a, x265_36b, x265_36c, x265_37, x265_38a, x265_38b, x265_38c, x265_42, x265_43, x265_46, x265_47, x265_48, x265_51, x265_54, x265_55a, x265_55b, x265_55c, x265_56a, x265_56b, x265_56c, x265_59, x265_62, x265_63, x265_88, x265_89, x265_90, x265_91, x265_94, x265_97, x265_98, x265_99, x265_102, x265_104, x265_107, x265_108, x265_111, x265_113, x265_116, x265_117, x265_118, x265_119, x265_122, x265_125, x265_126, x265_129, x265_132, x265_133, mzi, mInc, mne, mlt9, mrk, mI1, mI2, mI3, mI4, mL1, mL2, mL3, mL4, mQ1, mQ2, mQ3, mQ4, mT1, mcat0, mcat1, mcat2, mcat3, mcat4, mrf1, jK_v, jK_n, JA, mz1, if_true, if_false, ite_true, ite_false, eq_self, not_false_eq_true, Nat.zero_le, true_and, and_true, and_self, Nat.reduceMod, Nat.reduceAdd, Nat.reduceLeDiff, Nat.reduceEqDiff, Nat.reduceLT, hnk, h1, hx, jK_x]
  · have h2 := h.resolve_left h1
    simp only [x265_0, x265_1, x265_4, x265_5, x265_8, x265_9, x265_10, x265_13, x265_24, x265_25, x265_28, x265_29, x265_32, x265_35, x265_36a, x265_36b, x265_36c, x265_37, x265_38a, x265_38b, x265_38c, x265_42, x265_43, x265_46, x265_47, x265_48, x265_51, x265_54, x265_55a, x265_55b, x265_55c, x265_56a, x265_56b, x265_56c, x265_59, x265_62, x265_63, x265_88, x265_89, x265_90, x265_91, x265_94, x265_97, x265_98, x265_99, x265_102, x265_104, x265_107, x265_108, x265_111, x265_113, x265_116, x265_117, x265_118, x265_119, x265_122, x265_125, x265_126, x265_129, x265_132, x265_133, mzi, mInc, mne, mlt9, mrk, mI1, mI2, mI3, mI4, mL1, mL2, mL3, mL4, mQ1, mQ2, mQ3, mQ4, mT1, mcat0, mcat1, mcat2, mcat3, mcat4, mrf1, jK_v, jK_n, JA, mz1, if_true, if_false, ite_true, ite_false, eq_self, not_false_eq_true, Nat.zero_le, true_and, and_true, and_self, Nat.reduceMod, Nat.reduceAdd, Nat.reduceLeDiff, Nat.reduceEqDiff, Nat.reduceLT, hnk, h1, h2, hx, jK_x]
theorem c_fore_y (x1 : ¬ x < 1) (x2 : ¬ 60 < x) (h : y < 0 ∨ 3 < y) : Ex (d + 1) 265 0 [some (.ref 0), some (.int x), some (.int y), none, none] [] μ Q ↔ Q (.inr 2) (jthr μ) := by
  have hnk := fun (d : Nat) (x : Int32) (Q : jO → jM → Prop) => c_needK (d := d) (μ := μ) (x := x) (Q := Q)
  by_cases h1 : y < 0
  · simp only [x265_0, x265_1, x265_4, x265_5, x265_8, x265_9, x265_10, x265_13, x265_24, x265_25, x265_28, x265_29, x265_32, x265_35, x265_36a, x265_36b, x265_36c, x265_37, x265_38a, x265_38b, x265_38c, x265_42, x265_43, x265_46, x265_47, x265_48, x265_51, x265_54, x265_55a, x265_55b, x265_55c, x265_56a, x265_56b, x265_56c, x265_59, x265_62, x265_63, x265_88, x265_89, x265_90, x265_91, x265_94, x265_97, x265_98, x265_99, x265_102, x265_104, x265_107, x265_108, x265_111, x265_113, x265_116, x265_117, x265_118, x265_119, x265_122, x265_125, x265_126, x265_129, x265_132, x265_133, mzi, mInc, mne, mlt9, mrk, mI1, mI2, mI3, mI4, mL1, mL2, mL3, mL4, mQ1, mQ2, mQ3, mQ4, mT1, mcat0, mcat1, mcat2, mcat3, mcat4, mrf1, jK_v, jK_n, JA, mz1, if_true, if_false, ite_true, ite_false, eq_self, not_false_eq_true, Nat.zero_le, true_and, and_true, and_self, Nat.reduceMod, Nat.reduceAdd, Nat.reduceLeDiff, Nat.reduceEqDiff, Nat.reduceLT, hnk, x1, x2, h1]
  · have h2 := h.resolve_left h1
    simp only [x265_0, x265_1, x265_4, x265_5, x265_8, x265_9, x265_10, x265_13, x265_24, x265_25, x265_28, x265_29, x265_32, x265_35, x265_36a, x265_36b, x265_36c, x265_37, x265_38a, x265_38b, x265_38c, x265_42, x265_43, x265_46, x265_47, x265_48, x265_51, x265_54, x265_55a, x265_55b, x265_55c, x265_56a, x265_56b, x265_56c, x265_59, x265_62, x265_63, x265_88, x265_89, x265_90, x265_91, x265_94, x265_97, x265_98, x265_99, x265_102, x265_104, x265_107, x265_108, x265_111, x265_113, x265_116, x265_117, x265_118, x265_119, x265_122, x265_125, x265_126, x265_129, x265_132, x265_133, mzi, mInc, mne, mlt9, mrk, mI1, mI2, mI3, mI4, mL1, mL2, mL3, mL4, mQ1, mQ2, mQ3, mQ4, mT1, mcat0, mcat1, mcat2, mcat3, mcat4, mrf1, jK_v, jK_n, JA, mz1, if_true, if_false, ite_true, ite_false, eq_self, not_false_eq_true, Nat.zero_le, true_and, and_true, and_self, Nat.reduceMod, Nat.reduceAdd, Nat.reduceLeDiff, Nat.reduceEqDiff, Nat.reduceLT, hnk, x1, x2, h1, h2]
theorem d_fore_x (hW : jWd μ) (h : x < 1 ∨ 60 < x) : Ex (d + 2) 268 0 [some (.ref 4490), some (.int x), some (.int y), none, none] [] μ Q ↔ Q (.inl (some (.int 0))) (jsI (jsI μ 4490 0 0) 4490 0 1) := by
  have hw := hW
  unfold jWd at hw
  have hin := fun (d : Nat) (μ : jM) (v lo hi : Int32) (Q : jO → jM → Prop) => d_isIn (d := d) (μ := μ) (v := v) (lo := lo) (hi := hi) (Q := Q)
  have hno := fun (d : Nat) (μ : jM) (k : Int32) (Q : jO → jM → Prop) => d_no (d := d) (μ := μ) (k := k) (Q := Q)
  by_cases h1 : x < 1
  · simp only [x268_0, x268_1, x268_2, x268_5, x268_6, x268_7, x268_9, x268_12, x268_15, x268_16, x268_17, x268_20, x268_21, x268_22, x268_23, x268_24, x268_27, x268_30, x268_31, x268_32, x268_35, x268_36, x268_37, x268_40, x268_41, x268_44, x268_47, x268_48a, x268_48b, x268_48c, x268_49, x268_50a, x268_50b, x268_50c, x268_54, x268_55, x268_58, x268_59, x268_60, x268_63, x268_66, x268_67a, x268_67b, x268_67c, x268_68a, x268_68b, x268_68c, x268_71, x268_74, x268_75, x268_78, x268_79, x268_82, x268_83, x268_84, x268_87, x268_88, x268_91, x268_94, x268_97, x268_98, x268_99, x268_102, x268_103, x268_106, x268_108, x268_111, x268_112, x268_115, x268_117, x268_120, x268_121, x268_124, x268_125, x268_128, x268_131, x268_132, x268_135, x268_138, x268_139, mzi, mInc, mne, mlt9, mrk, mI1, mI2, mI3, mI4, mL1, mL2, mL3, mL4, mQ1, mQ2, mQ3, mQ4, mT1, mcat0, mcat1, mcat2, mcat3, mcat4, mrf1, jK_v, jK_n, JA, mz1, if_true, if_false, ite_true, ite_false, eq_self, not_false_eq_true, Nat.zero_le, true_and, and_true, and_self, Nat.reduceMod, Nat.reduceAdd, Nat.reduceLeDiff, Nat.reduceEqDiff, Nat.reduceLT, hw, hin, h1, hno]
  · have h2 := h.resolve_left h1
    simp only [x268_0, x268_1, x268_2, x268_5, x268_6, x268_7, x268_9, x268_12, x268_15, x268_16, x268_17, x268_20, x268_21, x268_22, x268_23, x268_24, x268_27, x268_30, x268_31, x268_32, x268_35, x268_36, x268_37, x268_40, x268_41, x268_44, x268_47, x268_48a, x268_48b, x268_48c, x268_49, x268_50a, x268_50b, x268_50c, x268_54, x268_55, x268_58, x268_59, x268_60, x268_63, x268_66, x268_67a, x268_67b, x268_67c, x268_68a, x268_68b, x268_68c, x268_71, x268_74, x268_75, x268_78, x268_79, x268_82, x268_83, x268_84, x268_87, x268_88, x268_91, x268_94, x268_97, x268_98, x268_99, x268_102, x268_103, x268_106, x268_108, x268_111, x268_112, x268_115, x268_117, x268_120, x268_121, x268_124, x268_125, x268_128, x268_131, x268_132, x268_135, x268_138, x268_139, mzi, mInc, mne, mlt9, mrk, mI1, mI2, mI3, mI4, mL1, mL2, mL3, mL4, mQ1, mQ2, mQ3, mQ4, mT1, mcat0, mcat1, mcat2, mcat3, mcat4, mrf1, jK_v, jK_n, JA, mz1, if_true, if_false, ite_true, ite_false, eq_self, not_false_eq_true, Nat.zero_le, true_and, and_true, and_self, Nat.reduceMod, Nat.reduceAdd, Nat.reduceLeDiff, Nat.reduceEqDiff, Nat.reduceLT, hw, hin, h1, h2, hno]
theorem d_fore_y (hW : jWd μ) (x1 : ¬ x < 1) (x2 : ¬ 60 < x) (h : y < 0 ∨ 3 < y) : Ex (d + 2) 268 0 [some (.ref 4490), some (.int x), some (.int y), none, none] [] μ Q ↔ Q (.inl (some (.int 0))) (jsI (jsI μ 4490 0 0) 4490 0 2) := by
  have hw := hW
  unfold jWd at hw
  have hin := fun (d : Nat) (μ : jM) (v lo hi : Int32) (Q : jO → jM → Prop) => d_isIn (d := d) (μ := μ) (v := v) (lo := lo) (hi := hi) (Q := Q)
  have hno := fun (d : Nat) (μ : jM) (k : Int32) (Q : jO → jM → Prop) => d_no (d := d) (μ := μ) (k := k) (Q := Q)
  by_cases h1 : y < 0
  · simp only [x268_0, x268_1, x268_2, x268_5, x268_6, x268_7, x268_9, x268_12, x268_15, x268_16, x268_17, x268_20, x268_21, x268_22, x268_23, x268_24, x268_27, x268_30, x268_31, x268_32, x268_35, x268_36, x268_37, x268_40, x268_41, x268_44, x268_47, x268_48a, x268_48b, x268_48c, x268_49, x268_50a, x268_50b, x268_50c, x268_54, x268_55, x268_58, x268_59, x268_60, x268_63, x268_66, x268_67a, x268_67b, x268_67c, x268_68a, x268_68b, x268_68c, x268_71, x268_74, x268_75, x268_78, x268_79, x268_82, x268_83, x268_84, x268_87, x268_88, x268_91, x268_94, x268_97, x268_98, x268_99, x268_102, x268_103, x268_106, x268_108, x268_111, x268_112, x268_115, x268_117, x268_120, x268_121, x268_124, x268_125, x268_128, x268_131, x268_132, x268_135, x268_138, x268_139, mzi, mInc, mne, mlt9, mrk, mI1, mI2, mI3, mI4, mL1, mL2, mL3, mL4, mQ1, mQ2, mQ3, mQ4, mT1, mcat0, mcat1, mcat2, mcat3, mcat4, mrf1, jK_v, jK_n, JA, mz1, if_true, if_false, ite_true, ite_false, eq_self, not_false_eq_true, Nat.zero_le, true_and, and_true, and_self, Nat.reduceMod, Nat.reduceAdd, Nat.reduceLeDiff, Nat.reduceEqDiff, Nat.reduceLT, hw, hin, x1, x2, h1, hno]
  · have h2 := h.resolve_left h1
    simp only [x268_0, x268_1, x268_2, x268_5, x268_6, x268_7, x268_9, x268_12, x268_15, x268_16, x268_17, x268_20, x268_21, x268_22, x268_23, x268_24, x268_27, x268_30, x268_31, x268_32, x268_35, x268_36, x268_37, x268_40, x268_41, x268_44, x268_47, x268_48a, x268_48b, x268_48c, x268_49, x268_50a, x268_50b, x268_50c, x268_54, x268_55, x268_58, x268_59, x268_60, x268_63, x268_66, x268_67a, x268_67b, x268_67c, x268_68a, x268_68b, x268_68c, x268_71, x268_74, x268_75, x268_78, x268_79, x268_82, x268_83, x268_84, x268_87, x268_88, x268_91, x268_94, x268_97, x268_98, x268_99, x268_102, x268_103, x268_106, x268_108, x268_111, x268_112, x268_115, x268_117, x268_120, x268_121, x268_124, x268_125, x268_128, x268_131, x268_132, x268_135, x268_138, x268_139, mzi, mInc, mne, mlt9, mrk, mI1, mI2, mI3, mI4, mL1, mL2, mL3, mL4, mQ1, mQ2, mQ3, mQ4, mT1, mcat0, mcat1, mcat2, mcat3, mcat4, mrf1, jK_v, jK_n, JA, mz1, if_true, if_false, ite_true, ite_false, eq_self, not_false_eq_true, Nat.zero_le, true_and, and_true, and_self, Nat.reduceMod, Nat.reduceAdd, Nat.reduceLeDiff, Nat.reduceEqDiff, Nat.reduceLT, hw, hin, x1, x2, h1, h2, hno]
theorem op_foresee (x y : Int32) (hJ : jJp μ p m n t L K nh T w mk sz) : jPair μ 264 268 [some (.ref 0), some (.int x), some (.int y), some (.ref 7647), none] [some (.ref 4490), some (.int x), some (.int y), none, none] := by
  have hJ' := hJ
  obtain ⟨h09, ⟨z1, z2⟩, h120, hR, hX, hp⟩ := hJ'
  have hW : jWd μ := hR.1.1
  have h10 : n ≤ 10 := hR.1.2.2.2.2.1
  by_cases hx : x < 1 ∨ 60 < x
  · have eA := fun (Q : jO → jM → Prop) => c_fore_x (d := 48 + 99) (μ := μ) (y := y) (Q := Q) hx
    have eB := fun (Q : jO → jM → Prop) => d_fore_x (d := 48 + 99) (μ := jthr μ) (y := y) (Q := Q) (jWd_c rfl hW) hx
    exact pair_no hJ (k := 1) (by decide) (by decide) (fun Q => l_foresee_1 (d := 48 + 100) eA) eB
  · have x1 : ¬ x < 1 := fun g => hx (Or.inl g)
    have x2 : ¬ 60 < x := fun g => hx (Or.inr g)
    by_cases hy : y < 0 ∨ 3 < y
    · have eA := fun (Q : jO → jM → Prop) => c_fore_y (d := 48 + 99) (μ := μ) (Q := Q) x1 x2 hy
      have eB := fun (Q : jO → jM → Prop) => d_fore_y (d := 48 + 99) (μ := jthr μ) (Q := Q) (jWd_c rfl hW) x1 x2 hy
      exact pair_no hJ (k := 2) (by decide) (by decide) (fun Q => l_foresee_2 (d := 48 + 100) eA) eB
    · have y1 : ¬ y < 0 := fun g => hy (Or.inl g)
      have y2 : ¬ 3 < y := fun g => hy (Or.inr g)
      obtain ⟨N, n1, n60, rfl⟩ := tk_ok x1 x2
      obtain ⟨k, hk, rfl⟩ : ∃ k, k < 4 ∧ y = iN k := by
        obtain ⟨j, hj, rfl⟩ := iN_pos y1
        rw [show (3 : Int32) = iN 3 from rfl, iN_lt (by decide) hj] at y2
        exact ⟨j, by omega, rfl⟩
      have hr0 : kRla (kCopy μ) (kBecome μ) p m n t L K nh T w mk := kRla_0 hR hX
      have lA := c_foreL (y := iN k) n60 N 0 0 w _ _ (by omega) hr0
      obtain ⟨ra, _⟩ := kRla_r N 0 w _ _ hr0
      have hsA : jSma (kCopy μ) (kPsAa m n t L K mk N (0, w, kCopy μ)).2.2 := kPsAa_f N (0, w, kCopy μ)
      generalize hA1 : (kPsAa m n t L K mk N (0, w, kCopy μ)).2.2 = A1 at *
      have sA : jSc μ A1 := jSc_t jSc_cp (jSc_sma hsA)
      have qA : jA A1 = jA μ ∧ jX A1 = jX μ := ⟨hsA.2.2.1.trans kCopy_q.2.2.1, hsA.2.2.2.1.trans kCopy_q.2.2.2⟩
      have eA : ∀ (Q : jO → jM → Prop), Ex (48 + 100) 265 0 [some (.ref 0), some (.int (iN N)), some (.int (iN k)), none, none] [] μ Q ↔ Q (.inl (some (.int ((kFoA A1 n (kPsAa m n t L K mk N (0, w, kCopy μ)).1).getD k 0)))) A1 := fun Q => by
        have hnk := fun (d : Nat) (x : Int32) (Q : jO → jM → Prop) => c_needK (d := d) (μ := μ) (x := x) (Q := Q)
        have h266 := fun (d : Nat) (Q : jO → jM → Prop) => c_copyX (d := d) (Q := Q) hW
        have hw := hW
        unfold jWd at hw
        have h1 : Ex (48 + 100) 265 0 [some (.ref 0), some (.int (iN N)), some (.int (iN k)), none, none] [] μ Q ↔ Ex (48 + 87 + 13) 265 40 [some (.ref 0), some (.int (iN N)), some (.int (iN k)), some (.int 0), some (.int (iN 0))] [] (kCopy μ) Q := by
          simp only [x265_0, x265_1, x265_4, x265_5, x265_8, x265_9, x265_10, x265_13, x265_24, x265_25, x265_28, x265_29, x265_32, x265_35, x265_36a, x265_36b, x265_36c, x265_37, x265_38a, x265_38b, x265_38c, x265_42, x265_43, x265_46, x265_47, x265_48, x265_51, x265_54, x265_55a, x265_55b, x265_55c, x265_56a, x265_56b, x265_56c, x265_59, x265_62, x265_63, x265_88, x265_89, x265_90, x265_91, x265_94, x265_97, x265_98, x265_99, x265_102, x265_104, x265_107, x265_108, x265_111, x265_113, x265_116, x265_117, x265_118, x265_119, x265_122, x265_125, x265_126, x265_129, x265_132, x265_133, mzi, mInc, mne, mlt9, mrk, mI1, mI2, mI3, mI4, mL1, mL2, mL3, mL4, mQ1, mQ2, mQ3, mQ4, mT1, mcat0, mcat1, mcat2, mcat3, mcat4, mrf1, jK_v, jK_n, JA, mz1, if_true, if_false, ite_true, ite_false, eq_self, not_false_eq_true, Nat.zero_le, true_and, and_true, and_self, Nat.reduceMod, Nat.reduceAdd, Nat.reduceLeDiff, Nat.reduceEqDiff, Nat.reduceLT, hnk, x1, x2, y1, y2, hw, h266]
        rw [h1, lA (48 + 87) Q]
        exact c_foreE (d := 48 + 98) ra.1.1.1 ra.1.1.2.2.2.1 h10 n60 hk
      generalize hv : (kFoA A1 n (kPsAa m n t L K mk N (0, w, kCopy μ)).1).getD k 0 = v at eA
      have s2 : jSc μ (jsI (jsL A1 7647 0 v.toInt64) 4490 0 0) := jSc_t sA (jSc_t jSc_L jSc_0)
      obtain ⟨m1, _⟩ := jJp_mix (ν := jsL A1 7647 0 v.toInt64) (jSc_t sA jSc_L) hJ
      obtain ⟨m2, m3⟩ := jJp_mix s2 hJ
      have hr2 : kRla (kCopy μ) (kBecome (jsI (jsL A1 7647 0 v.toInt64) 4490 0 0)) p m n t L K nh T w mk := kRla_0 m2 m3
      have lB := d_foreL (y := iN k) n60 N 0 0 w _ _ (by omega) hr2
      obtain ⟨r1, r2⟩ := kRla_r N 0 w _ _ hr2
      rw [hA1] at r1
      have hfB : jFmh (kBecome (jsI (jsL A1 7647 0 v.toInt64) 4490 0 0)) (kPsBa p n t nh T mk N (0, w, kBecome (jsI (jsL A1 7647 0 v.toInt64) 4490 0 0))).2.2 := kPsBa_f (p := p) (n := n) (t := t) (nh := nh) (T := T) (mk := mk) N (0, w, kBecome (jsI (jsL A1 7647 0 v.toInt64) 4490 0 0))
      generalize hB1 : (kPsBa p n t nh T mk N (0, w, kBecome (jsI (jsL A1 7647 0 v.toInt64) 4490 0 0))).2.2 = B1 at *
      have sB : jSc (jsI (jsL A1 7647 0 v.toInt64) 4490 0 0) B1 := jSc_t jSc_bc (jSc_fmh hfB)
      have sAB : jSc A1 B1 := jSc_t (jSc_t jSc_L jSc_0) sB
      obtain ⟨_, m5⟩ := jJp_mix sAB (jSc_p sA hJ)
      have hveq : (kFoB B1 n (kPsBa p n t nh T mk N (0, w, kBecome (jsI (jsL A1 7647 0 v.toInt64) 4490 0 0))).1).getD k 0 = v := by
        have e := kFo_eq (s := (kPsAa m n t L K mk N (0, w, kCopy μ)).1) h10 r1.2 m5
        rw [e, r2] at hv
        exact hv
      have eB : ∀ (Q : jO → jM → Prop), Ex (48 + 101) 268 0 [some (.ref 4490), some (.int (iN N)), some (.int (iN k)), none, none] [] (jsL A1 7647 0 v.toInt64) Q ↔ Q (.inl (some (.int v))) B1 := fun Q => by
        have hin := fun (d : Nat) (μ : jM) (v lo hi : Int32) (Q : jO → jM → Prop) => d_isIn (d := d) (μ := μ) (v := v) (lo := lo) (hi := hi) (Q := Q)
        have hw := m1.2.1.1
        have h269 := fun (d : Nat) (Q : jO → jM → Prop) => d_become (d := d) (μ := jsI (jsL A1 7647 0 v.toInt64) 4490 0 0) (Q := Q) m2.2.1.1
        unfold jWd at hw
        have h1 : Ex (48 + 101) 268 0 [some (.ref 4490), some (.int (iN N)), some (.int (iN k)), none, none] [] (jsL A1 7647 0 v.toInt64) Q ↔ Ex (48 + 85 + 16) 268 52 [some (.ref 4490), some (.int (iN N)), some (.int (iN k)), some (.int 0), some (.int (iN 0))] [] (kBecome (jsI (jsL A1 7647 0 v.toInt64) 4490 0 0)) Q := by
          rw [mL4] at hw
          simp only [x268_0, x268_1, x268_2, x268_5, x268_6, x268_7, x268_9, x268_12, x268_15, x268_16, x268_17, x268_20, x268_21, x268_22, x268_23, x268_24, x268_27, x268_30, x268_31, x268_32, x268_35, x268_36, x268_37, x268_40, x268_41, x268_44, x268_47, x268_48a, x268_48b, x268_48c, x268_49, x268_50a, x268_50b, x268_50c, x268_54, x268_55, x268_58, x268_59, x268_60, x268_63, x268_66, x268_67a, x268_67b, x268_67c, x268_68a, x268_68b, x268_68c, x268_71, x268_74, x268_75, x268_78, x268_79, x268_82, x268_83, x268_84, x268_87, x268_88, x268_91, x268_94, x268_97, x268_98, x268_99, x268_102, x268_103, x268_106, x268_108, x268_111, x268_112, x268_115, x268_117, x268_120, x268_121, x268_124, x268_125, x268_128, x268_131, x268_132, x268_135, x268_138, x268_139, mzi, mInc, mne, mlt9, mrk, mI1, mI2, mI3, mI4, mL1, mL2, mL3, mL4, mQ1, mQ2, mQ3, mQ4, mT1, mcat0, mcat1, mcat2, mcat3, mcat4, mrf1, jK_v, jK_n, JA, mz1, if_true, if_false, ite_true, ite_false, eq_self, not_false_eq_true, Nat.zero_le, true_and, and_true, and_self, Nat.reduceMod, Nat.reduceAdd, Nat.reduceLeDiff, Nat.reduceEqDiff, Nat.reduceLT, hin, x1, x2, y1, y2, hw, h269]
        rw [h1, lB (48 + 85) Q]
        have e := d_foreE (d := 48 + 99) (Q := Q) (s := (kPsBa p n t nh T mk N (0, w, kBecome (jsI (jsL A1 7647 0 v.toInt64) 4490 0 0))).1) r1.1.2.1 r1.1.2.2.2.1 h10 n60 hk
        rw [hveq] at e
        exact e
      have lA2 : jA B1 = jA μ := by rw [hfB.2.2.1, kBecome_q.2.2.1, mI5, mL5]; exact qA.1
      have lX2 : jX B1 = jX μ := by rw [hfB.2.2.2.1, kBecome_q.2.2.2, mI6, mL6]; exact qA.2
      refine pair_0 hJ v sA qA.1 qA.2 (fun Q => l_foresee_v (d := 48 + 100) eA) sB ?_ ?_ ?_ ?_ eB
      · rw [hfB.2.2.2.2 4490 (by decide), kBecome_f (by decide), mI1, if_pos rfl]
      · rw [hfB.2.1, kBecome_q.2.1, mI3, mL1, if_pos rfl]
      · unfold jnc
        rw [lA2, lX2]
        omega
      · rw [jns_e lA2 lX2]
        omega
end FORES
