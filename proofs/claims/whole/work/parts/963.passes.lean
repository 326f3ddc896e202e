/-! THE PURE PART: pass. -/
section PASSES
variable {d p m n t L nh w mk sz r l f k j q a b : Nat} {μ ν μ2 A B : jM} {Q : jO → jM → Prop} {K : Nat → Nat} {T : Nat → List (Nat × Int32)} {x y : Int32} {pn pd : Nat → Int32}
def kPsAn (m n t L : Nat) (K : Nat → Nat) (mk : Nat) : Nat → Int32 × Nat × jM → Int32 × Nat × jM
  | 0, a => a
  | r + 1, a => kPsAn m n t L K mk r (a.1 + (kMarksn a.2.2 m n t L K a.2.1 mk).1, a.2.1 - min mk a.2.1, kGon a.2.2 m n t L K a.2.1 mk)
def kPsBn (p n t nh : Nat) (T : Nat → List (Nat × Int32)) (mk : Nat) : Nat → Int32 × Nat × jM → Int32 × Nat × jM
  | 0, a => a
  | r + 1, a => kPsBn p n t nh T mk r (a.1 + (kGoTs p n t nh T a.2.1 mk a.2.2).1, a.2.1 - min mk a.2.1, (kGoTs p n t nh T a.2.1 mk a.2.2).2)
theorem kPsAn_f : ∀ (r : Nat) (a : Int32 × Nat × jM), jSmn a.2.2 (kPsAn m n t L K mk r a).2.2
  | 0, _ => jSmn_r
  | r + 1, a => jSmn_t jSmn_go (kPsAn_f r _)
theorem kPsBn_f : ∀ (r : Nat) (a : Int32 × Nat × jM), jFms a.2.2 (kPsBn p n t nh T mk r a).2.2
  | 0, _ => jFms_r
  | r + 1, a => jFms_t jFms_go (kPsBn_f r _)
def kRln (A B : jM) (p m n t L : Nat) (K : Nat → Nat) (nh : Nat) (T : Nat → List (Nat × Int32)) (w mk : Nat) : Prop := jRP A B p m n t L K nh T ∧ jRXn A B n w mk (jI A 1936) (jI A 2000)
theorem kRln_1 (h : kRln A B p m n t L K nh T w mk) : kRln (kGon A m n t L K w mk) (kGoTs p n t nh T w mk B).2 p m n t L K nh T (w - min mk w) mk ∧ (kMarksn A m n t L K w mk).1 = (kGoTs p n t nh T w mk B).1 := by
  obtain ⟨h1, h2⟩ := h
  obtain ⟨g1, g2, g3⟩ := R_gon h1 h2
  have hs := jSmn_go (A := A) (m := m) (n := n) (t := t) (L := L) (K := K) (w := w) (mk := mk)
  refine ⟨⟨g1, ?_⟩, g3⟩
  rw [hs.2.2.2.2.1 1936 (by decide) (by decide) (by decide), hs.2.2.2.2.1 2000 (by decide) (by decide) (by decide)]
  exact g2
theorem kRln_r : ∀ (r : Nat) (s : Int32) (w : Nat) (A B : jM), kRln A B p m n t L K nh T w mk → kRln (kPsAn m n t L K mk r (s, w, A)).2.2 (kPsBn p n t nh T mk r (s, w, B)).2.2 p m n t L K nh T (kPsAn m n t L K mk r (s, w, A)).2.1 mk ∧ (kPsAn m n t L K mk r (s, w, A)).1 = (kPsBn p n t nh T mk r (s, w, B)).1
  | 0, s, w, A, B, h => ⟨h, rfl⟩
  | r + 1, s, w, A, B, h => by
    obtain ⟨h1, h2⟩ := kRln_1 h
    have ih := kRln_r r (s + (kMarksn A m n t L K w mk).1) (w - min mk w) _ _ h1
    have e : kPsBn p n t nh T mk (r + 1) (s, w, B) = kPsBn p n t nh T mk r (s + (kMarksn A m n t L K w mk).1, w - min mk w, (kGoTs p n t nh T w mk B).2) := by
      rw [h2]
      rfl
    rw [e]
    exact ih
def kPsAa (m n t L : Nat) (K : Nat → Nat) (mk : Nat) : Nat → Int32 × Nat × jM → Int32 × Nat × jM
  | 0, a => a
  | r + 1, a => kPsAa m n t L K mk r (a.1 + (kMarksa a.2.2 m n t L K a.2.1 mk).1, a.2.1 - min mk a.2.1, kGoa a.2.2 m n t L K a.2.1 mk)
def kPsBa (p n t nh : Nat) (T : Nat → List (Nat × Int32)) (mk : Nat) : Nat → Int32 × Nat × jM → Int32 × Nat × jM
  | 0, a => a
  | r + 1, a => kPsBa p n t nh T mk r (a.1 + (kGoTh p n t nh T a.2.1 mk a.2.2).1, a.2.1 - min mk a.2.1, (kGoTh p n t nh T a.2.1 mk a.2.2).2)
theorem kPsAa_f : ∀ (r : Nat) (a : Int32 × Nat × jM), jSma a.2.2 (kPsAa m n t L K mk r a).2.2
  | 0, _ => jSma_r
  | r + 1, a => jSma_t jSma_go (kPsAa_f r _)
theorem kPsBa_f : ∀ (r : Nat) (a : Int32 × Nat × jM), jFmh a.2.2 (kPsBa p n t nh T mk r a).2.2
  | 0, _ => jFmh_r
  | r + 1, a => jFmh_t jFmh_go (kPsBa_f r _)
def kRla (A B : jM) (p m n t L : Nat) (K : Nat → Nat) (nh : Nat) (T : Nat → List (Nat × Int32)) (w mk : Nat) : Prop := jRP A B p m n t L K nh T ∧ jRXa A B n w mk (jI A 1936) (jI A 2000)
theorem kRla_1 (h : kRla A B p m n t L K nh T w mk) : kRla (kGoa A m n t L K w mk) (kGoTh p n t nh T w mk B).2 p m n t L K nh T (w - min mk w) mk ∧ (kMarksa A m n t L K w mk).1 = (kGoTh p n t nh T w mk B).1 := by
  obtain ⟨h1, h2⟩ := h
  obtain ⟨g1, g2, g3⟩ := R_goa h1 h2
  have hs := jSma_go (A := A) (m := m) (n := n) (t := t) (L := L) (K := K) (w := w) (mk := mk)
  refine ⟨⟨g1, ?_⟩, g3⟩
  rw [hs.2.2.2.2.1 1936 (by decide) (by decide) (by decide), hs.2.2.2.2.1 2000 (by decide) (by decide) (by decide)]
  exact g2
theorem kRla_r : ∀ (r : Nat) (s : Int32) (w : Nat) (A B : jM), kRla A B p m n t L K nh T w mk → kRla (kPsAa m n t L K mk r (s, w, A)).2.2 (kPsBa p n t nh T mk r (s, w, B)).2.2 p m n t L K nh T (kPsAa m n t L K mk r (s, w, A)).2.1 mk ∧ (kPsAa m n t L K mk r (s, w, A)).1 = (kPsBa p n t nh T mk r (s, w, B)).1
  | 0, s, w, A, B, h => ⟨h, rfl⟩
  | r + 1, s, w, A, B, h => by
    obtain ⟨h1, h2⟩ := kRla_1 h
    have ih := kRla_r r (s + (kMarksa A m n t L K w mk).1) (w - min mk w) _ _ h1
    have e : kPsBa p n t nh T mk (r + 1) (s, w, B) = kPsBa p n t nh T mk r (s + (kMarksa A m n t L K w mk).1, w - min mk w, (kGoTh p n t nh T w mk B).2) := by
      rw [h2]
      rfl
    rw [e]
    exact ih
theorem c_passL {N : Nat} (hN : N ≤ 60) : ∀ (r k : Nat) (s : Int32) (w : Nat) (A B : jM), k + r = N → kRln A B p m n t L K nh T w mk → ∀ (d : Nat) (Q : jO → jM → Prop), (Ex (d + 13) 256 8 [some (.ref 0), some (.int (iN N)), some (.int s), some (.int (iN k))] [] A Q ↔ Ex (d + 13) 256 8 [some (.ref 0), some (.int (iN N)), some (.int (kPsAn m n t L K mk r (s, w, A)).1), some (.int (iN N))] [] (kPsAn m n t L K mk r (s, w, A)).2.2 Q)
  | 0, k, s, w, A, B, e, h => fun d Q => by
    have e' : k = N := e
    subst e'
    exact Iff.rfl
  | r + 1, k, s, w, A, B, e, h => fun d Q => by
    obtain ⟨h1, h2⟩ := kRln_1 h
    obtain ⟨hR, hX⟩ := h
    have hw10 : w ≤ n := kQu_n hX.2.2.2.2.2.2.2.2.2.2.1 (by have := hR.1.2.2.2.2.1; omega)
    have h10 := hR.1.2.2.2.2.1
    have hm4 := hX.2.2.2.2.1
    have h258 := fun (d : Nat) (Q : jO → jM → Prop) => c_gon (d := d) (Q := Q) hR.1 hX.2.2.2.2.2.1 (by omega) hX.2.1 (by omega)
    have hw := hR.1.1
    unfold jWd at hw
    have hlt : iN k < iN N := (iN_lt (by omega) (by omega)).mpr (by omega)
    have ih := c_passL hN r (k + 1) (s + (kMarksn A m n t L K w mk).1) (w - min mk w) _ _ (by omega) h1 d Q
    refine Iff.trans ?_ ih
    rw [x256_8]
    simp only [x256_0, x256_1, x256_4, x256_5a, x256_5b, x256_5c, x256_6, x256_7a, x256_7b, x256_7c, x256_9, x256_10, x256_13, x256_14, x256_15, x256_18, x256_21, x256_22a, x256_22b, x256_22c, x256_23a, x256_23b, x256_23c, x256_26, x256_29, x256_30, mzi, mInc, mne, mlt9, mrk, mI1, mI2, mI3, mI4, mL1, mL2, mL3, mL4, mQ1, mQ2, mQ3, mQ4, mT1, mcat0, mcat1, mcat2, mcat3, mcat4, mrf1, jK_v, jK_n, JA, mz1, if_true, if_false, ite_true, ite_false, eq_self, not_false_eq_true, Nat.zero_le, true_and, and_true, and_self, Nat.reduceMod, Nat.reduceAdd, Nat.reduceLeDiff, Nat.reduceEqDiff, Nat.reduceLT, hw, hlt, h258]
theorem d_passL {N : Nat} (hN : N ≤ 60) : ∀ (r k : Nat) (s : Int32) (w : Nat) (A B : jM), k + r = N → kRln A B p m n t L K nh T w mk → ∀ (d : Nat) (Q : jO → jM → Prop), (Ex (d + 16) 261 25 [some (.ref 4490), some (.int (iN N)), some (.int s), some (.int (iN k))] [] B Q ↔ Ex (d + 16) 261 25 [some (.ref 4490), some (.int (iN N)), some (.int (kPsBn p n t nh T mk r (s, w, B)).1), some (.int (iN N))] [] (kPsBn p n t nh T mk r (s, w, B)).2.2 Q)
  | 0, k, s, w, A, B, e, h => fun d Q => by
    have e' : k = N := e
    subst e'
    exact Iff.rfl
  | r + 1, k, s, w, A, B, e, h => fun d Q => by
    obtain ⟨h1, h2⟩ := kRln_1 h
    obtain ⟨hR, hX⟩ := h
    have h262 := fun (d : Nat) (Q : jO → jM → Prop) => d_passs (d := d) (Q := Q) hR hX
    have hw := hR.2.1.1
    unfold jWd at hw
    have hlt : iN k < iN N := (iN_lt (by omega) (by omega)).mpr (by omega)
    have ih := d_passL hN r (k + 1) (s + (kGoTs p n t nh T w mk B).1) (w - min mk w) _ _ (by omega) h1 d Q
    refine Iff.trans ?_ ih
    rw [x261_25]
    simp only [x261_0, x261_1, x261_2, x261_5, x261_6, x261_7, x261_9, x261_12, x261_15, x261_16, x261_17, x261_20, x261_21, x261_22a, x261_22b, x261_22c, x261_23, x261_24a, x261_24b, x261_24c, x261_26, x261_27, x261_30, x261_31, x261_32, x261_35, x261_38, x261_39a, x261_39b, x261_39c, x261_40a, x261_40b, x261_40c, x261_43, x261_46, x261_47, mzi, mInc, mne, mlt9, mrk, mI1, mI2, mI3, mI4, mL1, mL2, mL3, mL4, mQ1, mQ2, mQ3, mQ4, mT1, mcat0, mcat1, mcat2, mcat3, mcat4, mrf1, jK_v, jK_n, JA, mz1, if_true, if_false, ite_true, ite_false, eq_self, not_false_eq_true, Nat.zero_le, true_and, and_true, and_self, Nat.reduceMod, Nat.reduceAdd, Nat.reduceLeDiff, Nat.reduceEqDiff, Nat.reduceLT, hw, hlt, h262]
theorem c_foreL {N : Nat} (hN : N ≤ 60) : ∀ (r k : Nat) (s : Int32) (w : Nat) (A B : jM), k + r = N → kRla A B p m n t L K nh T w mk → ∀ (d : Nat) (Q : jO → jM → Prop), (Ex (d + 13) 265 40 [some (.ref 0), some (.int (iN N)), some (.int y), some (.int s), some (.int (iN k))] [] A Q ↔ Ex (d + 13) 265 40 [some (.ref 0), some (.int (iN N)), some (.int y), some (.int (kPsAa m n t L K mk r (s, w, A)).1), some (.int (iN N))] [] (kPsAa m n t L K mk r (s, w, A)).2.2 Q)
  | 0, k, s, w, A, B, e, h => fun d Q => by
    have e' : k = N := e
    subst e'
    exact Iff.rfl
  | r + 1, k, s, w, A, B, e, h => fun d Q => by
    obtain ⟨h1, h2⟩ := kRla_1 h
    obtain ⟨hR, hX⟩ := h
    have hw10 : w ≤ n := kQu_n hX.2.2.2.2.2.2.2.2.2.2.1 (by have := hR.1.2.2.2.2.1; omega)
    have h10 := hR.1.2.2.2.2.1
    have hm4 := hX.2.2.2.2.1
    have h258 := fun (d : Nat) (Q : jO → jM → Prop) => c_goa (d := d) (Q := Q) hR.1 hX.2.2.2.2.2.1 (by omega) hX.2.1 (by omega)
    have hw := hR.1.1
    unfold jWd at hw
    have hlt : iN k < iN N := (iN_lt (by omega) (by omega)).mpr (by omega)
    have ih := c_foreL hN r (k + 1) (s + (kMarksa A m n t L K w mk).1) (w - min mk w) _ _ (by omega) h1 d Q
    refine Iff.trans ?_ ih
    rw [x265_40]
    simp only [x265_0, x265_1, x265_4, x265_5, x265_8, x265_9, x265_10, x265_13, x265_24, x265_25, x265_28, x265_29, x265_32, x265_35, x265_36a, x265_36b, x265_36c, x265_37, x265_38a, x265_38b, x265_38c, x265_42, x265_43, x265_46, x265_47, x265_48, x265_51, x265_54, x265_55a, x265_55b, x265_55c, x265_56a, x265_56b, x265_56c, x265_59, x265_62, x265_63, x265_88, x265_89, x265_90, x265_91, x265_94, x265_97, x265_98, x265_99, x265_102, x265_104, x265_107, x265_108, x265_111, x265_113, x265_116, x265_117, x265_118, x265_119, x265_122, x265_125, x265_126, x265_129, x265_132, x265_133, mzi, mInc, mne, mlt9, mrk, mI1, mI2, mI3, mI4, mL1, mL2, mL3, mL4, mQ1, mQ2, mQ3, mQ4, mT1, mcat0, mcat1, mcat2, mcat3, mcat4, mrf1, jK_v, jK_n, JA, mz1, if_true, if_false, ite_true, ite_false, eq_self, not_false_eq_true, Nat.zero_le, true_and, and_true, and_self, Nat.reduceMod, Nat.reduceAdd, Nat.reduceLeDiff, Nat.reduceEqDiff, Nat.reduceLT, hw, hlt, h258]
theorem d_foreL {N : Nat} (hN : N ≤ 60) : ∀ (r k : Nat) (s : Int32) (w : Nat) (A B : jM), k + r = N → kRla A B p m n t L K nh T w mk → ∀ (d : Nat) (Q : jO → jM → Prop), (Ex (d + 16) 268 52 [some (.ref 4490), some (.int (iN N)), some (.int y), some (.int s), some (.int (iN k))] [] B Q ↔ Ex (d + 16) 268 52 [some (.ref 4490), some (.int (iN N)), some (.int y), some (.int (kPsBa p n t nh T mk r (s, w, B)).1), some (.int (iN N))] [] (kPsBa p n t nh T mk r (s, w, B)).2.2 Q)
  | 0, k, s, w, A, B, e, h => fun d Q => by
    have e' : k = N := e
    subst e'
    exact Iff.rfl
  | r + 1, k, s, w, A, B, e, h => fun d Q => by
    obtain ⟨h1, h2⟩ := kRla_1 h
    obtain ⟨hR, hX⟩ := h
    have h262 := fun (d : Nat) (Q : jO → jM → Prop) => d_passh (d := d) (Q := Q) hR hX
    have hw := hR.2.1.1
    unfold jWd at hw
    have hlt : iN k < iN N := (iN_lt (by omega) (by omega)).mpr (by omega)
    have ih := d_foreL hN r (k + 1) (s + (kGoTh p n t nh T w mk B).1) (w - min mk w) _ _ (by omega) h1 d Q
    refine Iff.trans ?_ ih
    rw [x268_52]
    simp only [x268_0, x268_1, x268_2, x268_5, x268_6, x268_7, x268_9, x268_12, x268_15, x268_16, x268_17, x268_20, x268_21, x268_22, x268_23, x268_24, x268_27, x268_30, x268_31, x268_32, x268_35, x268_36, x268_37, x268_40, x268_41, x268_44, x268_47, x268_48a, x268_48b, x268_48c, x268_49, x268_50a, x268_50b, x268_50c, x268_54, x268_55, x268_58, x268_59, x268_60, x268_63, x268_66, x268_67a, x268_67b, x268_67c, x268_68a, x268_68b, x268_68c, x268_71, x268_74, x268_75, x268_78, x268_79, x268_82, x268_83, x268_84, x268_87, x268_88, x268_91, x268_94, x268_97, x268_98, x268_99, x268_102, x268_103, x268_106, x268_108, x268_111, x268_112, x268_115, x268_117, x268_120, x268_121, x268_124, x268_125, x268_128, x268_131, x268_132, x268_135, x268_138, x268_139, mzi, mInc, mne, mlt9, mrk, mI1, mI2, mI3, mI4, mL1, mL2, mL3, mL4, mQ1, mQ2, mQ3, mQ4, mT1, mcat0, mcat1, mcat2, mcat3, mcat4, mrf1, jK_v, jK_n, JA, mz1, if_true, if_false, ite_true, ite_false, eq_self, not_false_eq_true, Nat.zero_le, true_and, and_true, and_self, Nat.reduceMod, Nat.reduceAdd, Nat.reduceLeDiff, Nat.reduceEqDiff, Nat.reduceLT, hw, hlt, h262]
theorem tk_ok (h1 : ¬ x < 1) (h2 : ¬ 60 < x) : ∃ N, 1 ≤ N ∧ N ≤ 60 ∧ x = iN N := by
  have h0 : ¬ x < 0 := fun q => h1 (Int32.lt_trans q (by decide))
  obtain ⟨j, hj, rfl⟩ := iN_pos h0
  rw [show (1 : Int32) = iN 1 from rfl, iN_lt hj (by decide)] at h1
  rw [show (60 : Int32) = iN 60 from rfl, iN_lt (by decide) hj] at h2
  exact ⟨j, by omega, by omega, rfl⟩
theorem c_pass_x (h : x < 1 ∨ 60 < x) : Ex (d + 1) 256 0 [some (.ref 0), some (.int x), none, none] [] μ Q ↔ Q (.inr 1) (jthr μ) := by
  have hnk := fun (d : Nat) (x : Int32) (Q : jO → jM → Prop) => c_needK (d := d) (μ := μ) (x := x) (Q := Q)
  have hx : jhs 256 = [] := rfl
  by_cases h1 : x < 1
  · simp only [x256_0, x256_1, x256_4, x256_5a, x256_5b, x256_5c, x256_6, x256_7a, x256_7b, x256_7c, x256_9, x256_10, x256_13, x256_14, x256_15, x256_18, x256_21, x256_22a, x256_22b, x256_22c, x256_23a, x256_23b, x256_23c, x256_26, x256_29, x256_30, mzi, mInc, mne, mlt9, mrk, mI1, mI2, mI3, mI4, mL1, mL2, mL3, mL4, mQ1, mQ2, mQ3, mQ4, mT1, mcat0, mcat1, mcat2, mcat3, mcat4, mrf1, jK_v, jK_n, JA, mz1, if_true, if_false, ite_true, ite_false, eq_self, not_false_eq_true, Nat.zero_le, true_and, and_true, and_self, Nat.reduceMod, Nat.reduceAdd, Nat.reduceLeDiff, Nat.reduceEqDiff, Nat.reduceLT, hnk, h1, hx, jK_x]
  · have h2 := h.resolve_left h1
    simp only [x256_0, x256_1, x256_4, x256_5a, x256_5b, x256_5c, x256_6, x256_7a, x256_7b, x256_7c, x256_9, x256_10, x256_13, x256_14, x256_15, x256_18, x256_21, x256_22a, x256_22b, x256_22c, x256_23a, x256_23b, x256_23c, x256_26, x256_29, x256_30, mzi, mInc, mne, mlt9, mrk, mI1, mI2, mI3, mI4, mL1, mL2, mL3, mL4, mQ1, mQ2, mQ3, mQ4, mT1, mcat0, mcat1, mcat2, mcat3, mcat4, mrf1, jK_v, jK_n, JA, mz1, if_true, if_false, ite_true, ite_false, eq_self, not_false_eq_true, Nat.zero_le, true_and, and_true, and_self, Nat.reduceMod, Nat.reduceAdd, Nat.reduceLeDiff, Nat.reduceEqDiff, Nat.reduceLT, hnk, h1, h2, hx, jK_x]
theorem d_pass_x (hW : jWd μ) (h : x < 1 ∨ 60 < x) : Ex (d + 2) 261 0 [some (.ref 4490), some (.int x), none, none] [] μ Q ↔ Q (.inl (some (.int 0))) (jsI (jsI μ 4490 0 0) 4490 0 1) := by
  have hw := hW
  unfold jWd at hw
  have hin := fun (d : Nat) (μ : jM) (v lo hi : Int32) (Q : jO → jM → Prop) => d_isIn (d := d) (μ := μ) (v := v) (lo := lo) (hi := hi) (Q := Q)
  have hno := fun (d : Nat) (μ : jM) (k : Int32) (Q : jO → jM → Prop) => d_no (d := d) (μ := μ) (k := k) (Q := Q)
  by_cases h1 : x < 1
  · simp only [x261_0, x261_1, x261_2, x261_5, x261_6, x261_7, x261_9, x261_12, x261_15, x261_16, x261_17, x261_20, x261_21, x261_22a, x261_22b, x261_22c, x261_23, x261_24a, x261_24b, x261_24c, x261_26, x261_27, x261_30, x261_31, x261_32, x261_35, x261_38, x261_39a, x261_39b, x261_39c, x261_40a, x261_40b, x261_40c, x261_43, x261_46, x261_47, mzi, mInc, mne, mlt9, mrk, mI1, mI2, mI3, mI4, mL1, mL2, mL3, mL4, mQ1, mQ2, mQ3, mQ4, mT1, mcat0, mcat1, mcat2, mcat3, mcat4, mrf1, jK_v, jK_n, JA, mz1, if_true, if_false, ite_true, ite_false, eq_self, not_false_eq_true, Nat.zero_le, true_and, and_true, and_self, Nat.reduceMod, Nat.reduceAdd, Nat.reduceLeDiff, Nat.reduceEqDiff, Nat.reduceLT, hw, hin, h1, hno]
  · have h2 := h.resolve_left h1
    simp only [x261_0, x261_1, x261_2, x261_5, x261_6, x261_7, x261_9, x261_12, x261_15, x261_16, x261_17, x261_20, x261_21, x261_22a, x261_22b, x261_22c, x261_23, x261_24a, x261_24b, x261_24c, x261_26, x261_27, x261_30, x261_31, x261_32, x261_35, x261_38, x261_39a, x261_39b, x261_39c, x261_40a, x261_40b, x261_40c, x261_43, x261_46, x261_47, mzi, mInc, mne, mlt9, mrk, mI1, mI2, mI3, mI4, mL1, mL2, mL3, mL4, mQ1, mQ2, mQ3, mQ4, mT1, mcat0, mcat1, mcat2, mcat3, mcat4, mrf1, jK_v, jK_n, JA, mz1, if_true, if_false, ite_true, ite_false, eq_self, not_false_eq_true, Nat.zero_le, true_and, and_true, and_self, Nat.reduceMod, Nat.reduceAdd, Nat.reduceLeDiff, Nat.reduceEqDiff, Nat.reduceLT, hw, hin, h1, h2, hno]
theorem op_pass (x : Int32) (hJ : jJp μ p m n t L K nh T w mk sz) : jPair μ 255 261 [some (.ref 0), some (.int x), some (.ref 7647), none] [some (.ref 4490), some (.int x), none, none] := by
  have hJ' := hJ
  obtain ⟨h09, ⟨z1, z2⟩, h120, hR, hX, hp⟩ := hJ'
  have hW : jWd μ := hR.1.1
  by_cases hx : x < 1 ∨ 60 < x
  · have eA := fun (Q : jO → jM → Prop) => c_pass_x (d := 48 + 99) (μ := μ) (Q := Q) hx
    have eB := fun (Q : jO → jM → Prop) => d_pass_x (d := 48 + 99) (μ := jthr μ) (Q := Q) (jWd_c rfl hW) hx
    exact pair_no hJ (k := 1) (by decide) (by decide) (fun Q => l_pass_1 (d := 48 + 100) eA) eB
  · have x1 : ¬ x < 1 := fun g => hx (Or.inl g)
    have x2 : ¬ 60 < x := fun g => hx (Or.inr g)
    obtain ⟨N, n1, n60, rfl⟩ := tk_ok x1 x2
    have hr0 : kRln μ μ p m n t L K nh T w mk := ⟨hR, hX⟩
    have hge : ¬ iN N < iN N := iN_irr (by omega)
    have lA := c_passL n60 N 0 0 w μ μ (by omega) hr0
    have hsA : jSmn μ (kPsAn m n t L K mk N (0, w, μ)).2.2 := kPsAn_f N (0, w, μ)
    have eA : ∀ (Q : jO → jM → Prop), Ex (48 + 100) 256 0 [some (.ref 0), some (.int (iN N)), none, none] [] μ Q ↔ Q (.inl (some (.int (kPsAn m n t L K mk N (0, w, μ)).1))) (kPsAn m n t L K mk N (0, w, μ)).2.2 := fun Q => by
      have hnk := fun (d : Nat) (x : Int32) (Q : jO → jM → Prop) => c_needK (d := d) (μ := μ) (x := x) (Q := Q)
      have h1 : Ex (48 + 100) 256 0 [some (.ref 0), some (.int (iN N)), none, none] [] μ Q ↔ Ex (48 + 87 + 13) 256 8 [some (.ref 0), some (.int (iN N)), some (.int 0), some (.int (iN 0))] [] μ Q := by
        simp only [x256_0, x256_1, x256_4, x256_5a, x256_5b, x256_5c, x256_6, x256_7a, x256_7b, x256_7c, x256_9, x256_10, x256_13, x256_14, x256_15, x256_18, x256_21, x256_22a, x256_22b, x256_22c, x256_23a, x256_23b, x256_23c, x256_26, x256_29, x256_30, mzi, mInc, mne, mlt9, mrk, mI1, mI2, mI3, mI4, mL1, mL2, mL3, mL4, mQ1, mQ2, mQ3, mQ4, mT1, mcat0, mcat1, mcat2, mcat3, mcat4, mrf1, jK_v, jK_n, JA, mz1, if_true, if_false, ite_true, ite_false, eq_self, not_false_eq_true, Nat.zero_le, true_and, and_true, and_self, Nat.reduceMod, Nat.reduceAdd, Nat.reduceLeDiff, Nat.reduceEqDiff, Nat.reduceLT, hnk, x1, x2]
      rw [h1, lA (48 + 87) Q]
      simp only [↓if_neg hge, x256_8, x256_0, x256_1, x256_4, x256_5a, x256_5b, x256_5c, x256_6, x256_7a, x256_7b, x256_7c, x256_9, x256_10, x256_13, x256_14, x256_15, x256_18, x256_21, x256_22a, x256_22b, x256_22c, x256_23a, x256_23b, x256_23c, x256_26, x256_29, x256_30, mzi, mInc, mne, mlt9, mrk, mI1, mI2, mI3, mI4, mL1, mL2, mL3, mL4, mQ1, mQ2, mQ3, mQ4, mT1, mcat0, mcat1, mcat2, mcat3, mcat4, mrf1, jK_v, jK_n, JA, mz1, if_true, if_false, ite_true, ite_false, eq_self, not_false_eq_true, Nat.zero_le, true_and, and_true, and_self, Nat.reduceMod, Nat.reduceAdd, Nat.reduceLeDiff, Nat.reduceEqDiff, Nat.reduceLT, hge]
    obtain ⟨m1, m2, m3⟩ := mix_x (z := (kPsAn m n t L K mk N (0, w, μ)).1.toInt64) hsA hJ
    have hr2 : kRln μ (jsI (jsL (kPsAn m n t L K mk N (0, w, μ)).2.2 7647 0 (kPsAn m n t L K mk N (0, w, μ)).1.toInt64) 4490 0 0) p m n t L K nh T w mk := ⟨m2, m3⟩
    have lB := d_passL n60 N 0 0 w μ _ (by omega) hr2
    obtain ⟨r1, r2⟩ := kRln_r N 0 w _ _ hr2
    have hfB := kPsBn_f (p := p) (n := n) (t := t) (nh := nh) (T := T) (mk := mk) N (0, w, jsI (jsL (kPsAn m n t L K mk N (0, w, μ)).2.2 7647 0 (kPsAn m n t L K mk N (0, w, μ)).1.toInt64) 4490 0 0)
    have eB : ∀ (Q : jO → jM → Prop), Ex (48 + 101) 261 0 [some (.ref 4490), some (.int (iN N)), none, none] [] (jsL (kPsAn m n t L K mk N (0, w, μ)).2.2 7647 0 (kPsAn m n t L K mk N (0, w, μ)).1.toInt64) Q ↔ Q (.inl (some (.int (kPsBn p n t nh T mk N (0, w, jsI (jsL (kPsAn m n t L K mk N (0, w, μ)).2.2 7647 0 (kPsAn m n t L K mk N (0, w, μ)).1.toInt64) 4490 0 0)).1))) (kPsBn p n t nh T mk N (0, w, jsI (jsL (kPsAn m n t L K mk N (0, w, μ)).2.2 7647 0 (kPsAn m n t L K mk N (0, w, μ)).1.toInt64) 4490 0 0)).2.2 := fun Q => by
      have hin := fun (d : Nat) (μ : jM) (v lo hi : Int32) (Q : jO → jM → Prop) => d_isIn (d := d) (μ := μ) (v := v) (lo := lo) (hi := hi) (Q := Q)
      have hw := hW
      unfold jWd at hw
      have h1 : Ex (48 + 101) 261 0 [some (.ref 4490), some (.int (iN N)), none, none] [] (jsL (kPsAn m n t L K mk N (0, w, μ)).2.2 7647 0 (kPsAn m n t L K mk N (0, w, μ)).1.toInt64) Q ↔ Ex (48 + 85 + 16) 261 25 [some (.ref 4490), some (.int (iN N)), some (.int 0), some (.int (iN 0))] [] (jsI (jsL (kPsAn m n t L K mk N (0, w, μ)).2.2 7647 0 (kPsAn m n t L K mk N (0, w, μ)).1.toInt64) 4490 0 0) Q := by
        simp only [x261_0, x261_1, x261_2, x261_5, x261_6, x261_7, x261_9, x261_12, x261_15, x261_16, x261_17, x261_20, x261_21, x261_22a, x261_22b, x261_22c, x261_23, x261_24a, x261_24b, x261_24c, x261_26, x261_27, x261_30, x261_31, x261_32, x261_35, x261_38, x261_39a, x261_39b, x261_39c, x261_40a, x261_40b, x261_40c, x261_43, x261_46, x261_47, mzi, mInc, mne, mlt9, mrk, mI1, mI2, mI3, mI4, mL1, mL2, mL3, mL4, mQ1, mQ2, mQ3, mQ4, mT1, mcat0, mcat1, mcat2, mcat3, mcat4, mrf1, jK_v, jK_n, JA, mz1, if_true, if_false, ite_true, ite_false, eq_self, not_false_eq_true, Nat.zero_le, true_and, and_true, and_self, Nat.reduceMod, Nat.reduceAdd, Nat.reduceLeDiff, Nat.reduceEqDiff, Nat.reduceLT, hin, x1, x2]
      rw [h1, lB (48 + 85) Q]
      simp only [↓if_neg hge, x261_25, x261_0, x261_1, x261_2, x261_5, x261_6, x261_7, x261_9, x261_12, x261_15, x261_16, x261_17, x261_20, x261_21, x261_22a, x261_22b, x261_22c, x261_23, x261_24a, x261_24b, x261_24c, x261_26, x261_27, x261_30, x261_31, x261_32, x261_35, x261_38, x261_39a, x261_39b, x261_39c, x261_40a, x261_40b, x261_40c, x261_43, x261_46, x261_47, mzi, mInc, mne, mlt9, mrk, mI1, mI2, mI3, mI4, mL1, mL2, mL3, mL4, mQ1, mQ2, mQ3, mQ4, mT1, mcat0, mcat1, mcat2, mcat3, mcat4, mrf1, jK_v, jK_n, JA, mz1, if_true, if_false, ite_true, ite_false, eq_self, not_false_eq_true, Nat.zero_le, true_and, and_true, and_self, Nat.reduceMod, Nat.reduceAdd, Nat.reduceLeDiff, Nat.reduceEqDiff, Nat.reduceLT, hge]
    rw [← r2] at eB
    have hX3 : jRXn (kPsAn m n t L K mk N (0, w, μ)).2.2 (kPsBn p n t nh T mk N (0, w, jsI (jsL (kPsAn m n t L K mk N (0, w, μ)).2.2 7647 0 (kPsAn m n t L K mk N (0, w, μ)).1.toInt64) 4490 0 0)).2.2 n (kPsAn m n t L K mk N (0, w, μ)).2.1 mk (jI μ 1936) (jI μ 2000) := by
      have := r1.2
      rw [hsA.2.2.2.2.1 1936 (by decide) (by decide) (by decide), hsA.2.2.2.2.1 2000 (by decide) (by decide) (by decide)] at this
      exact this
    exact pair_x hJ _ hsA (fun Q => l_pass_v (d := 48 + 100) eA) hfB eB hX3
end PASSES
