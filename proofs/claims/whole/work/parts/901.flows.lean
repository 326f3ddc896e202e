/-! THE PURE PART: the flow of class and reference. -/
section FLOW2
variable {μ : jM} {p m n a b : Nat} {bb P Q2 ww : Nat → Nat} {wo : Int32}
theorem d_whl {q : Nat} {r0 : Nat → Nat → Nat} (ha : a < 6) (hb : b < 6) : ∀ (c : Nat) (ν : jM) (r : Nat → Nat → Nat) (sum : Nat), kMxM ν q r → q + 13 ≤ (jA ν).length → kCut r (fun x => decide (x = 2 * a)) ≤ c → sum + c < 1000 → (∀ S : Nat → Bool, S (2 * a) = true → S (2 * b + 1) = false → kCut r S + sum = kCut r0 S) →
    ∃ ν' f k, k ≤ c + 1 ∧ jGb q (2 * k) (24 * k) ν ν' ∧ (∀ S : Nat → Bool, S (2 * a) = true → S (2 * b + 1) = false → f ≤ kCut r0 S) ∧ (∃ S : Nat → Bool, S (2 * a) = true ∧ S (2 * b + 1) = false ∧ kCut r0 S = f) ∧ ∀ (x6 : Option Value) (d : Nat) (Q : jO → jM → Prop), (Ex (d + 1) 243 173 [some (.ref 4490), some (.int (iN a)), some (.int (iN b)), some (.int wo), some (.ref (64 * q + 34)), some (.int (iN sum)), x6] [] ν Q ↔ Q (.inl (some (.int (iN f)))) ν') := by
  have a2 : 2 * iN a = iN (2 * a) := iN_two
  have b2 : 2 * iN b = iN (2 * b) := iN_two
  intro c
  induction c with
  | zero =>
    intro ν r sum hM hL hc hs hS
    obtain ⟨ν', ok, r', g1, g2, g3, g4, g5⟩ := d_pushes (s := 2 * a) (z := 2 * b + 1) hL hM (by omega) (by omega) (by omega)
    cases ok with
    | true =>
      have h1 := g3 rfl (fun x => decide (x = 2 * a))
      rw [decide_eq_false (show ¬ 2 * b + 1 = 2 * a by omega), decide_eq_true (rfl : 2 * a = 2 * a)] at h1
      simp at h1
      omega
    | false =>
      obtain ⟨S, s1, s2, s3⟩ := g4 rfl
      refine ⟨ν', sum, 1, by omega, g1, fun S h1 h2 => by have := hS S h1 h2; omega, ⟨S, s1, s2, by have := hS S s1 s2; omega⟩, fun x6 d Q => ?_⟩
      rw [x243_173]
      simp only [x243_0, x243_2, x243_4, x243_8a, x243_8b, x243_8c, x243_10, x243_11a, x243_11b, x243_11c, x243_15, x243_16, x243_19, x243_22, x243_25, x243_27, x243_28, x243_30, x243_31, x243_32, x243_33, x243_35, x243_36, x243_37, x243_38, x243_39, x243_42, x243_45, x243_47, x243_48, x243_49a, x243_49b, x243_49c, x243_52, x243_55, x243_56a, x243_56b, x243_56c, x243_60, x243_61, x243_64, x243_67, x243_70, x243_71, x243_74, x243_77, x243_79, x243_80, x243_82, x243_83, x243_86, x243_87, x243_90, x243_91, x243_92a, x243_92b, x243_92c, x243_94, x243_96, x243_97, x243_98, x243_101, x243_104, x243_106, x243_107, x243_108, x243_109, x243_110, x243_111, x243_112, x243_113, x243_116, x243_119, x243_121, x243_122, x243_123a, x243_123b, x243_124, x243_125, x243_127, x243_128, x243_129, x243_131, x243_132, x243_133, x243_136, x243_139, x243_141, x243_142, x243_143, x243_144, x243_145, x243_146, x243_147, x243_148, x243_151, x243_154, x243_156, x243_157, x243_158a, x243_158b, x243_159, x243_160, x243_162, x243_163, x243_164a, x243_164b, x243_164c, x243_167, x243_170, x243_171a, x243_171b, x243_171c, x243_175, x243_176, x243_177, x243_178, x243_179, x243_180, x243_181, x243_182, x243_183, x243_186, x243_189a, x243_189b, x243_189c, x243_192, x243_195, x243_197, mzi, mInc, mne, mlt9, mrk, mI1, mI2, mI3, mI4, mL1, mL2, mL3, mL4, mQ1, mQ2, mQ3, mQ4, mT1, mcat0, mcat1, mcat2, mcat3, mcat4, mrf1, jK_v, jK_n, JA, mz1, if_true, if_false, ite_true, ite_false, eq_self, not_false_eq_true, Nat.zero_le, true_and, and_true, and_self, Nat.reduceMod, Nat.reduceAdd, Nat.reduceLeDiff, Nat.reduceEqDiff, Nat.reduceLT, a2, b2, g5, cond_false]
  | succ c ih =>
    intro ν r sum hM hL hc hs hS
    obtain ⟨ν', ok, r', g1, g2, g3, g4, g5⟩ := d_pushes (s := 2 * a) (z := 2 * b + 1) hL hM (by omega) (by omega) (by omega)
    cases ok with
    | true =>
      have h1 := g3 rfl (fun x => decide (x = 2 * a))
      rw [decide_eq_false (show ¬ 2 * b + 1 = 2 * a by omega), decide_eq_true (rfl : 2 * a = 2 * a)] at h1
      simp at h1
      obtain ⟨ν2, f, k, i1, i2, i3, i4, i5⟩ := ih ν' r' (sum + 1) g2 (by rw [g1.2.1]; omega) (by omega) (by omega) (fun S h2 h3 => by
        have e1 := g3 rfl S
        have e2 := hS S h2 h3
        rw [h2, h3] at e1
        simp at e1
        omega)
      have e3 : 2 + 2 * k = 2 * (k + 1) := by omega
      have e4 : 24 + 24 * k = 24 * (k + 1) := by omega
      have i6 := jGb_t g1 i2
      rw [e3, e4] at i6
      refine ⟨ν2, f, k + 1, by omega, i6, i3, i4, fun x6 d Q => ?_⟩
      refine Iff.trans ?_ (i5 x6 d Q)
      rw [x243_173]
      simp only [x243_0, x243_2, x243_4, x243_8a, x243_8b, x243_8c, x243_10, x243_11a, x243_11b, x243_11c, x243_15, x243_16, x243_19, x243_22, x243_25, x243_27, x243_28, x243_30, x243_31, x243_32, x243_33, x243_35, x243_36, x243_37, x243_38, x243_39, x243_42, x243_45, x243_47, x243_48, x243_49a, x243_49b, x243_49c, x243_52, x243_55, x243_56a, x243_56b, x243_56c, x243_60, x243_61, x243_64, x243_67, x243_70, x243_71, x243_74, x243_77, x243_79, x243_80, x243_82, x243_83, x243_86, x243_87, x243_90, x243_91, x243_92a, x243_92b, x243_92c, x243_94, x243_96, x243_97, x243_98, x243_101, x243_104, x243_106, x243_107, x243_108, x243_109, x243_110, x243_111, x243_112, x243_113, x243_116, x243_119, x243_121, x243_122, x243_123a, x243_123b, x243_124, x243_125, x243_127, x243_128, x243_129, x243_131, x243_132, x243_133, x243_136, x243_139, x243_141, x243_142, x243_143, x243_144, x243_145, x243_146, x243_147, x243_148, x243_151, x243_154, x243_156, x243_157, x243_158a, x243_158b, x243_159, x243_160, x243_162, x243_163, x243_164a, x243_164b, x243_164c, x243_167, x243_170, x243_171a, x243_171b, x243_171c, x243_175, x243_176, x243_177, x243_178, x243_179, x243_180, x243_181, x243_182, x243_183, x243_186, x243_189a, x243_189b, x243_189c, x243_192, x243_195, x243_197, mzi, mInc, mne, mlt9, mrk, mI1, mI2, mI3, mI4, mL1, mL2, mL3, mL4, mQ1, mQ2, mQ3, mQ4, mT1, mcat0, mcat1, mcat2, mcat3, mcat4, mrf1, jK_v, jK_n, JA, mz1, if_true, if_false, ite_true, ite_false, eq_self, not_false_eq_true, Nat.zero_le, true_and, and_true, and_self, Nat.reduceMod, Nat.reduceAdd, Nat.reduceLeDiff, Nat.reduceEqDiff, Nat.reduceLT, a2, b2, g5, cond_true]
    | false =>
      obtain ⟨S, s1, s2, s3⟩ := g4 rfl
      refine ⟨ν', sum, 1, by omega, g1, fun S h1 h2 => by have := hS S h1 h2; omega, ⟨S, s1, s2, by have := hS S s1 s2; omega⟩, fun x6 d Q => ?_⟩
      rw [x243_173]
      simp only [x243_0, x243_2, x243_4, x243_8a, x243_8b, x243_8c, x243_10, x243_11a, x243_11b, x243_11c, x243_15, x243_16, x243_19, x243_22, x243_25, x243_27, x243_28, x243_30, x243_31, x243_32, x243_33, x243_35, x243_36, x243_37, x243_38, x243_39, x243_42, x243_45, x243_47, x243_48, x243_49a, x243_49b, x243_49c, x243_52, x243_55, x243_56a, x243_56b, x243_56c, x243_60, x243_61, x243_64, x243_67, x243_70, x243_71, x243_74, x243_77, x243_79, x243_80, x243_82, x243_83, x243_86, x243_87, x243_90, x243_91, x243_92a, x243_92b, x243_92c, x243_94, x243_96, x243_97, x243_98, x243_101, x243_104, x243_106, x243_107, x243_108, x243_109, x243_110, x243_111, x243_112, x243_113, x243_116, x243_119, x243_121, x243_122, x243_123a, x243_123b, x243_124, x243_125, x243_127, x243_128, x243_129, x243_131, x243_132, x243_133, x243_136, x243_139, x243_141, x243_142, x243_143, x243_144, x243_145, x243_146, x243_147, x243_148, x243_151, x243_154, x243_156, x243_157, x243_158a, x243_158b, x243_159, x243_160, x243_162, x243_163, x243_164a, x243_164b, x243_164c, x243_167, x243_170, x243_171a, x243_171b, x243_171c, x243_175, x243_176, x243_177, x243_178, x243_179, x243_180, x243_181, x243_182, x243_183, x243_186, x243_189a, x243_189b, x243_189c, x243_192, x243_195, x243_197, mzi, mInc, mne, mlt9, mrk, mI1, mI2, mI3, mI4, mL1, mL2, mL3, mL4, mQ1, mQ2, mQ3, mQ4, mT1, mcat0, mcat1, mcat2, mcat3, mcat4, mrf1, jK_v, jK_n, JA, mz1, if_true, if_false, ite_true, ite_false, eq_self, not_false_eq_true, Nat.zero_le, true_and, and_true, and_self, Nat.reduceMod, Nat.reduceAdd, Nat.reduceLeDiff, Nat.reduceEqDiff, Nat.reduceLT, a2, b2, g5, cond_false]
theorem kW1_le {t : Nat} (h : ww t ≤ 9) : kW1 ww wo t ≤ 10 := by
  unfold kW1
  split <;> omega
theorem d_flow {q : Nat} (hq0 : (jA μ).length = q) (hq : 120 ≤ q) (hp : p + 14 ≤ q) (hP : kPlF μ p m n bb P Q2 ww) (ha : a < m) (hb : b < m) (hab : ¬ a = b) : ∃ μ' f c s, c ≤ 33 ∧ s ≤ 400 ∧ jGb q c s μ μ' ∧ (∀ S : Nat → Bool, S (2 * a) = true → S (2 * b + 1) = false → f ≤ kCut (kR0 bb P Q2 (kW1 ww wo) m n) S) ∧ (∃ S : Nat → Bool, S (2 * a) = true ∧ S (2 * b + 1) = false ∧ kCut (kR0 bb P Q2 (kW1 ww wo) m n) S = f) ∧ ∀ (d : Nat) (Q : jO → jM → Prop), (Ex (d + 1) 243 0 [some (.ref 4490), some (.int (iN a)), some (.int (iN b)), some (.int wo), none, none, none] [] μ Q ↔ Q (.inl (some (.int (iN f)))) μ') := by
  have hA : jadr μ 34 = 64 * q + 34 := by unfold jadr; rw [hq0]
  have hl1 : (jA (jnew μ 34)).length = q + 1 := by
    show (jA μ ++ [jadr μ 34]).length = _
    simp [hq0]
  obtain ⟨r1, r2, r3, r4, r5, r6⟩ := jrows_c (o := 64 * q + 34) (c := 18) (by decide) 12 0 (jnew μ 34) (by rw [hl1]; omega)
  rw [hl1] at r1 r4 r6
  have g0 : jGb q 1 12 μ (jnew μ 34) := jnew_b (by omega) (by decide) (by decide +kernel)
  have g1 : jGb q 13 156 μ (jrows (64 * q + 34) 18 12 0 (jnew μ 34)) := by
    refine ⟨fun x hx => ?_, by rw [r1]; omega, r2, ?_⟩
    · obtain ⟨c1, c2, c3⟩ := r4 x (by omega)
      obtain ⟨d1, d2, d3⟩ := g0.1 x hx
      exact ⟨c1.trans d1, c2.trans d2, (c3 (by omega)).trans d3⟩
    · have h1 : jsz 18 = 12 := by decide +kernel
      have h2 := g0.2.2.2
      rw [r3, h1]
      omega
  have v0 : kMV (jrows (64 * q + 34) 18 12 0 (jnew μ 34)) q (fun _ _ => 0) := by
    intro u hu
    obtain ⟨c1, c2⟩ := r6 u hu
    rw [Nat.zero_add] at c1
    exact ⟨c1, fun v hv => by rw [c2]; rfl⟩
  have P1 := jGb_p hq hp g1 hP
  obtain ⟨μ1, s1, s2, s3⟩ := d_fill1 (a := a) (b := b) (wo := wo) hq hp m (Nat.le_refl _) _ P1 v0
  have P2 := jGb_p hq hp s1 P1
  obtain ⟨μ2, x6, t1, t2, t3⟩ := d_fill2 (a := a) (b := b) (wo := wo) hq hp n (Nat.le_refl _) _ P2 (kMV_c s2 fun x y _ _ => rfl)
  have P3 := jGb_p hq hp t1 P2
  have g2 := jGb_t (jGb_t g1 s1) t1
  have hm6 : m ≤ 6 := hP.2.2.1
  have hn10 : n ≤ 10 := hP.2.2.2.2.1
  have hbb : ∀ s, s < m → bb s ≤ 9 := fun s hs => (hP.2.2.2.2.2.1 s hs).2
  have hww : ∀ t, t < n → kW1 ww wo t ≤ 10 := fun t ht => kW1_le (hP.2.2.2.2.2.2 t ht).2.2.2.2.2.1
  have hM : kMxM μ2 q (kR0 bb P Q2 (kW1 ww wo) m n) := fun u hu => ⟨(t2 u hu).1, fun v hv => ⟨(t2 u hu).2 v hv, by
    have e1 := kR0_le (p := P) (q := Q2) (u := u) (v := v) hm6 hn10 hbb hww
    have e2 := kR0_le (p := P) (q := Q2) (u := v) (v := u) hm6 hn10 hbb hww
    omega⟩⟩
  have hcut := kR0_cut (b := bb) (p := P) (q := Q2) (c := kW1 ww wo) (n := n) ha hm6
  obtain ⟨μ3, f, k, w1, w2, w3, w4, w5⟩ := d_whl (a := a) (b := b) (wo := wo) (q := q) (r0 := kR0 bb P Q2 (kW1 ww wo) m n) (by omega) (by omega) 9 μ2 _ 0 hM (by rw [g2.2.1, hq0]; omega) (by rw [hcut]; exact hbb a ha) (by omega) (fun S _ _ => rfl)
  refine ⟨μ3, f, _, _, ?_, ?_, jGb_t g2 w2, w3, w4, fun d Q => ?_⟩
  · omega
  · omega
  · refine Iff.trans ?_ (w5 x6 d Q)
    have hz : (0 : Int32) = iN 0 := rfl
    have i12 : (12 : Int32) = 12 := rfl
    have e1 : Ex (d + 1) 243 0 [some (.ref 4490), some (.int (iN a)), some (.int (iN b)), some (.int wo), none, none, none] [] μ Q ↔ Ex (d + 1) 243 13 [some (.ref 4490), some (.int (iN a)), some (.int (iN b)), some (.int wo), some (.ref (64 * q + 34)), some (.int (iN 0)), none] [] (jrows (64 * q + 34) 18 12 0 (jnew μ 34)) Q := by
      simp only [x243_0, x243_2, x243_4, x243_8a, x243_8b, x243_8c, x243_10, x243_11a, x243_11b, x243_11c, x243_15, x243_16, x243_19, x243_22, x243_25, x243_27, x243_28, x243_30, x243_31, x243_32, x243_33, x243_35, x243_36, x243_37, x243_38, x243_39, x243_42, x243_45, x243_47, x243_48, x243_49a, x243_49b, x243_49c, x243_52, x243_55, x243_56a, x243_56b, x243_56c, x243_60, x243_61, x243_64, x243_67, x243_70, x243_71, x243_74, x243_77, x243_79, x243_80, x243_82, x243_83, x243_86, x243_87, x243_90, x243_91, x243_92a, x243_92b, x243_92c, x243_94, x243_96, x243_97, x243_98, x243_101, x243_104, x243_106, x243_107, x243_108, x243_109, x243_110, x243_111, x243_112, x243_113, x243_116, x243_119, x243_121, x243_122, x243_123a, x243_123b, x243_124, x243_125, x243_127, x243_128, x243_129, x243_131, x243_132, x243_133, x243_136, x243_139, x243_141, x243_142, x243_143, x243_144, x243_145, x243_146, x243_147, x243_148, x243_151, x243_154, x243_156, x243_157, x243_158a, x243_158b, x243_159, x243_160, x243_162, x243_163, x243_164a, x243_164b, x243_164c, x243_167, x243_170, x243_171a, x243_171b, x243_171c, x243_175, x243_176, x243_177, x243_178, x243_179, x243_180, x243_181, x243_182, x243_183, x243_186, x243_189a, x243_189b, x243_189c, x243_192, x243_195, x243_197, mzi, mInc, mne, mlt9, mrk, mI1, mI2, mI3, mI4, mL1, mL2, mL3, mL4, mQ1, mQ2, mQ3, mQ4, mT1, mcat0, mcat1, mcat2, mcat3, mcat4, mrf1, jK_v, jK_n, JA, mz1, if_true, if_false, ite_true, ite_false, eq_self, not_false_eq_true, Nat.zero_le, true_and, and_true, and_self, Nat.reduceMod, Nat.reduceAdd, Nat.reduceLeDiff, Nat.reduceEqDiff, Nat.reduceLT, hA]
    refine e1.trans ((s3 (d + 1) Q).trans ?_)
    have hw1 := P2.1.1
    unfold jWd at hw1
    obtain ⟨_, _, hpl, hq2⟩ := P2.1
    unfold jMq at hq2
    have jp := JP p
    have jpm := JPm p
    have hge : ¬ iN m < iN m := iN_irr (by omega)
    have hm1 := P2.2.1
    have e2 : Ex (d + 1) 243 13 [some (.ref 4490), some (.int (iN a)), some (.int (iN b)), some (.int wo), some (.ref (64 * q + 34)), some (.int (iN m)), none] [] μ1 Q ↔ Ex (d + 1) 243 58 [some (.ref 4490), some (.int (iN a)), some (.int (iN b)), some (.int wo), some (.ref (64 * q + 34)), some (.int (iN 0)), none] [] μ1 Q := by
      rw [x243_13]
      simp only [x243_0, x243_2, x243_4, x243_8a, x243_8b, x243_8c, x243_10, x243_11a, x243_11b, x243_11c, x243_15, x243_16, x243_19, x243_22, x243_25, x243_27, x243_28, x243_30, x243_31, x243_32, x243_33, x243_35, x243_36, x243_37, x243_38, x243_39, x243_42, x243_45, x243_47, x243_48, x243_49a, x243_49b, x243_49c, x243_52, x243_55, x243_56a, x243_56b, x243_56c, x243_60, x243_61, x243_64, x243_67, x243_70, x243_71, x243_74, x243_77, x243_79, x243_80, x243_82, x243_83, x243_86, x243_87, x243_90, x243_91, x243_92a, x243_92b, x243_92c, x243_94, x243_96, x243_97, x243_98, x243_101, x243_104, x243_106, x243_107, x243_108, x243_109, x243_110, x243_111, x243_112, x243_113, x243_116, x243_119, x243_121, x243_122, x243_123a, x243_123b, x243_124, x243_125, x243_127, x243_128, x243_129, x243_131, x243_132, x243_133, x243_136, x243_139, x243_141, x243_142, x243_143, x243_144, x243_145, x243_146, x243_147, x243_148, x243_151, x243_154, x243_156, x243_157, x243_158a, x243_158b, x243_159, x243_160, x243_162, x243_163, x243_164a, x243_164b, x243_164c, x243_167, x243_170, x243_171a, x243_171b, x243_171c, x243_175, x243_176, x243_177, x243_178, x243_179, x243_180, x243_181, x243_182, x243_183, x243_186, x243_189a, x243_189b, x243_189c, x243_192, x243_195, x243_197, mzi, mInc, mne, mlt9, mrk, mI1, mI2, mI3, mI4, mL1, mL2, mL3, mL4, mQ1, mQ2, mQ3, mQ4, mT1, mcat0, mcat1, mcat2, mcat3, mcat4, mrf1, jK_v, jK_n, JA, mz1, if_true, if_false, ite_true, ite_false, eq_self, not_false_eq_true, Nat.zero_le, true_and, and_true, and_self, Nat.reduceMod, Nat.reduceAdd, Nat.reduceLeDiff, Nat.reduceEqDiff, Nat.reduceLT, hw1, hpl, hq2, jp, jpm, hm1, hge]
    refine e2.trans ((t3 (d + 1) Q).trans ?_)
    have hw2 := P3.1.1
    unfold jWd at hw2
    obtain ⟨_, _, hpl2, hq3⟩ := P3.1
    unfold jMq at hq3
    have hge2 : ¬ iN n < iN n := iN_irr (by omega)
    have hn1 := P3.2.2.2.1
    rw [x243_58]
    simp only [x243_0, x243_2, x243_4, x243_8a, x243_8b, x243_8c, x243_10, x243_11a, x243_11b, x243_11c, x243_15, x243_16, x243_19, x243_22, x243_25, x243_27, x243_28, x243_30, x243_31, x243_32, x243_33, x243_35, x243_36, x243_37, x243_38, x243_39, x243_42, x243_45, x243_47, x243_48, x243_49a, x243_49b, x243_49c, x243_52, x243_55, x243_56a, x243_56b, x243_56c, x243_60, x243_61, x243_64, x243_67, x243_70, x243_71, x243_74, x243_77, x243_79, x243_80, x243_82, x243_83, x243_86, x243_87, x243_90, x243_91, x243_92a, x243_92b, x243_92c, x243_94, x243_96, x243_97, x243_98, x243_101, x243_104, x243_106, x243_107, x243_108, x243_109, x243_110, x243_111, x243_112, x243_113, x243_116, x243_119, x243_121, x243_122, x243_123a, x243_123b, x243_124, x243_125, x243_127, x243_128, x243_129, x243_131, x243_132, x243_133, x243_136, x243_139, x243_141, x243_142, x243_143, x243_144, x243_145, x243_146, x243_147, x243_148, x243_151, x243_154, x243_156, x243_157, x243_158a, x243_158b, x243_159, x243_160, x243_162, x243_163, x243_164a, x243_164b, x243_164c, x243_167, x243_170, x243_171a, x243_171b, x243_171c, x243_175, x243_176, x243_177, x243_178, x243_179, x243_180, x243_181, x243_182, x243_183, x243_186, x243_189a, x243_189b, x243_189c, x243_192, x243_195, x243_197, mzi, mInc, mne, mlt9, mrk, mI1, mI2, mI3, mI4, mL1, mL2, mL3, mL4, mQ1, mQ2, mQ3, mQ4, mT1, mcat0, mcat1, mcat2, mcat3, mcat4, mrf1, jK_v, jK_n, JA, mz1, if_true, if_false, ite_true, ite_false, eq_self, not_false_eq_true, Nat.zero_le, true_and, and_true, and_self, Nat.reduceMod, Nat.reduceAdd, Nat.reduceLeDiff, Nat.reduceEqDiff, Nat.reduceLT, hw2, hpl2, hq3, jp, jpm, hn1, hge2]
/-- class and reference reckon the same flow -/
theorem kFlow_eq {bars wires : Nat → Int32} {g : Nat → Int32} {f : Nat} (hm : m ≤ 6) (hn : n ≤ 10) (ha : a < m) (hb : b < m) (hab : ¬ a = b) (hbb : ∀ s, s < m → bars s = iN (bb s) ∧ bb s ≤ 9) (hw : ∀ t, t < n → wires t = iN (ww t) ∧ ww t ≤ 9) (hP : ∀ t, t < n → P t < 6) (hQ : ∀ t, t < n → Q2 t < 6) (h1 : ∀ S : Nat → Bool, S (2 * a) = true → S (2 * b + 1) = false → f ≤ kCut (kR0 bb P Q2 (kW1 ww wo) m n) S) (h2 : ∃ S : Nat → Bool, S (2 * a) = true ∧ S (2 * b + 1) = false ∧ kCut (kR0 bb P Q2 (kW1 ww wo) m n) S = f) : (kGr (2 * a) (2 * b + 1) 9 0 (kFill bars P Q2 wires wo m n g)).1 = f := by
  have hmx : kMx (kFill bars P Q2 wires wo m n g) (kR0 bb P Q2 (kW1 ww wo) m n) := kFill_mx hm hn hbb (fun t ht => ⟨by
    unfold kW1
    rw [(hw t ht).1, ← iN_add]
    split <;> rfl, kW1_le (hw t ht).2⟩) hP hQ
  obtain ⟨c1, c2⟩ := kGr_c (r0 := kR0 bb P Q2 (kW1 ww wo) m n) (s := 2 * a) (z := 2 * b + 1) (by omega) (by omega) (by omega) 9 0 _ _ hmx (fun S _ _ => rfl)
  obtain ⟨S, s1, s2, s3⟩ := h2
  have d1 := c1 S s1 s2
  have d2 := h1 (fun x => decide (x = 2 * a)) (decide_eq_true rfl) (decide_eq_false (by omega))
  rw [kR0_cut ha hm] at d2
  have d3 := (hbb a ha).2
  rcases c2 with c2 | ⟨S2, e1, e2, e3⟩
  · omega
  · have d4 := h1 S2 e1 e2
    omega
end FLOW2
