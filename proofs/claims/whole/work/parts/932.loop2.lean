/-! THE PURE PART: all tokens in class and reference. -/
section LOOP2
variable {A0 B0 A B : jM} {r i k N sz c e : Nat} {kd : Nat → Nat} {b : Nat → Int32} {v : Int32}
theorem kRole_z (h1 : ¬ kd i = 37) (h2 : ¬ kd i = 38) (h3 : ¬ kd i = 10) : kRole kd i = 0 := kRole_0 h1 h2 h3
theorem st_all (hC : jC0 A0 kd N b sz) (hD : jSb B0 r kd N b sz) (hdg : ∀ k, k < N - 1 → kd k = 38 → 1 ≤ kTl b sz k ∧ kTl b sz k ≤ 6) (h : jMn A0 B0 A B r kd b sz i) (hi : i < N - 1) (hdue : kDue kd i) : jStp A0 B0 A B r kd b sz i := by
  have hl := kRole_lt kd i
  have hh : kRole kd i = 0 ∨ kRole kd i = 1 ∨ kRole kd i = 2 ∨ kRole kd i = 3 ∨ kRole kd i = 4 ∨ kRole kd i = 5 ∨ kRole kd i = 6 ∨ kRole kd i = 7 ∨ kRole kd i = 8 ∨ kRole kd i = 9 ∨ kRole kd i = 10 ∨ kRole kd i = 11 ∨ kRole kd i = 12 ∨ kRole kd i = 13 ∨ kRole kd i = 14 ∨ kRole kd i = 15 := by omega
  rcases hh with q | q | q | q | q | q | q | q | q | q | q | q | q | q | q | q
  · exact st_none hC hD h hi q hdue
  · exact st_switch hC hD h hi q hdue
  · exact st_line hC hD h hi q hdue
  · exact st_trunk hC hD h hi q hdue
  · exact st_shut hC hD h hi q hdue
  · exact st_bars hC hD h hi q hdue
  · exact st_dials hC hD h hi q hdue (hdg i hi (rinv_6 q).2.1).1 (hdg i hi (rinv_6 q).2.1).2
  · exact st_wires hC hD h hi q hdue
  · exact st_cost hC hD h hi q hdue
  · exact st_at hC hD h hi q hdue
  · exact st_from hC hD h hi q hdue
  · exact st_to hC hD h hi q hdue
  · exact st_shutname hC hD h hi q hdue
  · exact st_load hC hD h hi q hdue
  · exact st_free hC hD h hi q hdue
  · exact st_idle hC hD h hi q hdue
theorem jDf_9 (h : jDf r B0 B) (hr : 120 ≤ r) : jDf r B0 (jsI B 4490 9 v) := by
  obtain ⟨a1, a2, a3, a4, a5, a6, a7⟩ := h
  exact ⟨fun a h1 h2 h3 => by rw [mI2 h1]; exact a1 a h1 h2 h3, fun k hk => by rw [mI1, if_neg hk]; exact a2 k hk, fun j h1 h2 h3 h4 => by rw [mI2 (by omega)]; exact a3 j h1 h2 h3 h4, a4, a5, a6, a7⟩
theorem jMn_9 (h : jMn A0 B0 A B r kd b sz i) (hr : 120 ≤ r) : jMn A0 B0 A (jsI B 4490 9 v) r kd b sz i := by
  obtain ⟨h1, h2, h3⟩ := h
  refine ⟨h1, jDf_9 h2 hr, ?_⟩
  rw [mI2 (show ¬ 64 * r + 11 = 4490 by omega), mI2 (show ¬ 64 * r + 84 = 4490 by omega), mI2 (show ¬ 64 * r + 144 = 4490 by omega), mI2 (show ¬ 64 * r + 208 = 4490 by omega), mI2 (show ¬ 64 * r + 272 = 4490 by omega), mI2 (show ¬ 64 * r + 336 = 4490 by omega), mI2 (show ¬ 64 * r + 400 = 4490 by omega), mI2 (show ¬ 64 * r + 464 = 4490 by omega), mI2 (show ¬ 64 * r + 528 = 4490 by omega), mI2 (show ¬ 64 * r + 594 = 4490 by omega), mI2 (show ¬ 4889 = 4490 by omega)]
  exact h3
theorem jMn_7 (h : jMn A0 B0 A B r kd b sz i) : jMn A0 B0 (jsI A 194 7 v) B r kd b sz i := by
  obtain ⟨h1, h2, h3⟩ := h
  refine ⟨jCf_7 h1, h2, ?_⟩
  rw [mI3, mI2 (show ¬ 579 = 194 by decide), mI2 (show ¬ 660 = 194 by decide), mI2 (show ¬ 720 = 194 by decide), mI2 (show ¬ 784 = 194 by decide), mI2 (show ¬ 848 = 194 by decide), mI2 (show ¬ 912 = 194 by decide), mI2 (show ¬ 976 = 194 by decide), mI2 (show ¬ 1040 = 194 by decide), mI2 (show ¬ 1104 = 194 by decide), mI2 (show ¬ 473 = 194 by decide)]
  exact h3
theorem d_it {B' : jM} {d m : Nat} {b2 : Option Int32} {Q : jO → jM → Prop} (hW : jWd B) (hW' : jWd B') (ht : jI B 4490 9 = iN i) (ht' : jI B' 4490 = jI B 4490) (hi : i < m) (hm : m < 401) (hc : c ≤ 7) (he : ∀ (Q : jO → jM → Prop), (Ex (d + 3) 128 0 [some (.ref 4490), some (.int (iN i)), none, none] [] B Q ↔ Q (.inl (some (.int (iN c)))) B')) : Ex (d + 4) 96 57 [some (.ref 4490), some (.int (iN m)), b2.map .int] [] B Q ↔ if c = 0 then Ex (d + 4) 96 57 [some (.ref 4490), some (.int (iN m)), some (.int 0)] [] (jsI B' 4490 9 (iN (i + 1))) Q else Q (.inl (some (.int (iN c)))) (jsI B' 4490 3 (jI B' 4697 i)) := by
  have hw := hW
  unfold jWd at hw
  have hw' := hW'
  unfold jWd at hw'
  have t1 : jI B' 4490 9 = iN i := by rw [ht']; exact ht
  have lt : iN i < iN m := (iN_lt (by omega) (by omega)).mpr hi
  have ic : (iN i).toNatClampNeg = i := iN_cl (by omega)
  have ij : jin (iN i) 401 = true := iN_in (by omega) (by omega)
  rw [x96_57]
  by_cases g : c = 0
  · subst g
    have he : ∀ (Q : jO → jM → Prop), (Ex (d + 3) 128 0 [some (.ref 4490), some (.int (iN i)), none, none] [] B Q ↔ Q (.inl (some (.int 0))) B') := he
    cases b2 <;> simp only [Option.map_some, Option.map_none, x96_0, x96_1, x96_4a, x96_4b, x96_5, x96_8, x96_11, x96_12, x96_15, x96_16, x96_17, x96_20, x96_21, x96_22, x96_25, x96_26, x96_29, x96_32, x96_33, x96_34, x96_37, x96_38, x96_41, x96_42, x96_45, x96_46, x96_47, x96_48, x96_51a, x96_51b, x96_51c, x96_52, x96_53, x96_54, x96_58, x96_61, x96_62, x96_65, x96_66, x96_67, x96_70, x96_73a, x96_73b, x96_73c, x96_74, x96_75, x96_78, x96_81, x96_82, x96_83, x96_86, x96_87, x96_90, x96_91, x96_94, x96_95, x96_96, x96_97a, x96_97b, x96_98, x96_101, x96_102, x96_103, x96_106, x96_109, x96_110a, x96_110b, x96_110c, x96_112, x96_113, x96_116, x96_119, x96_122, x96_123, x96_126, x96_129, x96_130, x96_133, x96_136, x96_137, x96_138, x96_139, x96_142, x96_143, x96_146, x96_149, x96_150, x96_153, x96_156, x96_157, x96_158, x96_159, x96_160, x96_161a, x96_161b, x96_161c, x96_164, x96_167, x96_168, mzi, mInc, mne, mlt9, mrk, mI1, mI2, mI3, mI4, mL1, mL2, mL3, mL4, mQ1, mQ2, mQ3, mQ4, mT1, mcat0, mcat1, mcat2, mcat3, mcat4, mrf1, jK_v, jK_n, JA, mz1, if_true, if_false, ite_true, ite_false, eq_self, not_false_eq_true, Nat.zero_le, true_and, and_true, and_self, Nat.reduceMod, Nat.reduceAdd, Nat.reduceLeDiff, Nat.reduceEqDiff, Nat.reduceLT, hw, hw', ht, t1, lt, he]
  · have g2 : (iN c = 0) = False := eq_false fun q => g ((iN_eq (b := 0) (by omega) (by omega)).mp q)
    cases b2 <;> simp only [Option.map_some, Option.map_none, x96_0, x96_1, x96_4a, x96_4b, x96_5, x96_8, x96_11, x96_12, x96_15, x96_16, x96_17, x96_20, x96_21, x96_22, x96_25, x96_26, x96_29, x96_32, x96_33, x96_34, x96_37, x96_38, x96_41, x96_42, x96_45, x96_46, x96_47, x96_48, x96_51a, x96_51b, x96_51c, x96_52, x96_53, x96_54, x96_58, x96_61, x96_62, x96_65, x96_66, x96_67, x96_70, x96_73a, x96_73b, x96_73c, x96_74, x96_75, x96_78, x96_81, x96_82, x96_83, x96_86, x96_87, x96_90, x96_91, x96_94, x96_95, x96_96, x96_97a, x96_97b, x96_98, x96_101, x96_102, x96_103, x96_106, x96_109, x96_110a, x96_110b, x96_110c, x96_112, x96_113, x96_116, x96_119, x96_122, x96_123, x96_126, x96_129, x96_130, x96_133, x96_136, x96_137, x96_138, x96_139, x96_142, x96_143, x96_146, x96_149, x96_150, x96_153, x96_156, x96_157, x96_158, x96_159, x96_160, x96_161a, x96_161b, x96_161c, x96_164, x96_167, x96_168, mzi, mInc, mne, mlt9, mrk, mI1, mI2, mI3, mI4, mL1, mL2, mL3, mL4, mQ1, mQ2, mQ3, mQ4, mT1, mcat0, mcat1, mcat2, mcat3, mcat4, mrf1, jK_v, jK_n, JA, mz1, if_true, if_false, ite_true, ite_false, eq_self, not_false_eq_true, Nat.zero_le, true_and, and_true, and_self, Nat.reduceMod, Nat.reduceAdd, Nat.reduceLeDiff, Nat.reduceEqDiff, Nat.reduceLT, hw, hw', ht, t1, lt, ic, ij, he, g, g2]
theorem loop2 (hC : jC0 A0 kd N b sz) (hD : jSb B0 r kd N b sz) (hdg : ∀ k, k < N - 1 → kd k = 38 → 1 ≤ kTl b sz k ∧ kTl b sz k ≤ 6) (hdue : ∀ k, k < N - 1 → kDue kd k) : ∀ (m i : Nat) (A B : jM), i + m = N - 1 → jMn A0 B0 A B r kd b sz i → jI B 4490 9 = iN i →
    ∃ (e j : Nat) (A' B' : jM), e ≤ 7 ∧ (e = 0 → jMn A0 B0 A' B' r kd b sz (N - 1) ∧ jI B' 4490 9 = iN (N - 1)) ∧ (¬ e = 0 → j < N - 1 ∧ jCf A0 A' ∧ jDf r B0 B' ∧ jI A' 194 7 = iN j) ∧
      (∀ (d : Nat) (b4 : Option Nat) (Q : jO → jM → Prop), ∃ b4' : Option Nat, (Ex (d + 6) 63 8 [some (.ref 1478), some (.ref (64 * kAh kd i + 40)), some (.int 0), some (.int (iN i)), b4.map .ref] [] A Q ↔ if e = 0 then Ex (d + 6) 63 8 [some (.ref 1478), some (.ref (64 * kAh kd (N - 1) + 40)), some (.int 0), some (.int (iN (N - 1))), b4'.map .ref] [] A' Q else Q (.inl (some (.int (iN e)))) A')) ∧
      ∀ (d : Nat) (b2 : Option Int32) (Q : jO → jM → Prop), ∃ b2' : Option Int32, (Ex (d + 4) 96 57 [some (.ref 4490), some (.int (iN (N - 1))), b2.map .int] [] B Q ↔ if e = 0 then Ex (d + 4) 96 57 [some (.ref 4490), some (.int (iN (N - 1))), b2'.map .int] [] B' Q else Q (.inl (some (.int (iN e)))) (jsI B' 4490 3 (iN (kTs b sz j)))) := by
  have hr2 := hD.1.2.2.1
  have hN2 := hD.1.2.1.2.1
  intro m
  induction m with
  | zero =>
    intro i A B hm h ht
    have e : i = N - 1 := by omega
    subst e
    exact ⟨0, 0, A, B, by decide, fun _ => ⟨h, ht⟩, fun q => absurd rfl q, fun d b4 Q => ⟨b4, by rw [if_pos rfl]⟩, fun d b2 Q => ⟨b2, by rw [if_pos rfl]⟩⟩
  | succ m ih =>
    intro i A B hm h ht
    obtain ⟨e, A1, B1, e7, s1, s2, s3, s4, s5⟩ := st_all hC hD hdg h (show i < N - 1 by omega) (hdue i (by omega))
    have hWB : jWd B := jWd_c h.2.1.2.2.2.1 hD.1.1
    by_cases g : e = 0
    · have hM := s1 g
      have hWB1 : jWd B1 := jWd_c hM.2.1.2.2.2.1 hD.1.1
      obtain ⟨e', j, A2, B2, t1, t2, t3, t4, t5⟩ := ih (i + 1) A1 (jsI B1 4490 9 (iN (i + 1))) (by omega) (jMn_9 hM hr2) (by rw [mI1, if_pos rfl])
      refine ⟨e', j, A2, B2, t1, t2, t3, fun d b4 Q => ?_, fun d b2 Q => ?_⟩
      · obtain ⟨b4', q⟩ := t4 d (some (64 * kd i + 40)) Q
        refine ⟨b4', ?_⟩
        rw [s4 d b4 Q, if_pos g, ← q]
        unfold kAh
        rw [if_neg (by omega), Nat.add_sub_cancel]
        exact Iff.rfl
      · obtain ⟨b2', q⟩ := t5 d (some 0) Q
        refine ⟨b2', ?_⟩
        rw [d_it hWB hWB1 ht s3 (show i < N - 1 by omega) (by omega) e7 (s5 d), if_pos g, ← q]
        exact Iff.rfl
    · obtain ⟨u1, u2, u3⟩ := s2 g
      have hWB1 : jWd B1 := jWd_c u2.2.2.2.1 hD.1.1
      have hfr : jI B1 4697 i = iN (kTs b sz i) := by
        rw [u2.1 4697 (by decide) (by omega) (by unfold kDa; omega)]
        exact (hD.1.2.2.2.2.2.2 i (by omega)).2.1
      refine ⟨e, i, A1, B1, e7, fun q => absurd q g, fun _ => ⟨by omega, u1, u2, u3⟩, fun d b4 Q => ⟨none, ?_⟩, fun d b2 Q => ⟨none, ?_⟩⟩
      · rw [s4 d b4 Q, if_neg g, if_neg g]
      · rw [d_it hWB hWB1 ht s3 (show i < N - 1 by omega) (by omega) e7 (s5 d), if_neg g, if_neg g, hfr]
/-- behind the last token the class goes on to the end -/
theorem tail2 (hC : jC0 A0 kd N b sz) (hN : 1 ≤ N ∧ N ≤ 401) (hE : kd (N - 1) = 39) : ∀ (m i J : Nat) (A : jM), i + m = 400 → N - 1 ≤ i → jCf A0 A → (i = N - 1 → True) → ∃ A', (A' = A ∨ ∃ x, A' = jsI A 194 7 x) ∧ ∀ (d : Nat) (b4 : Option Nat) (Q : jO → jM → Prop), ∃ (J' : Nat) (b4' : Option Nat), (Ex (d + 6) 63 8 [some (.ref 1478), some (.ref (64 * J + 40)), some (.int 0), some (.int (iN i)), b4.map .ref] [] A Q ↔ Ex (d + 6) 63 8 [some (.ref 1478), some (.ref (64 * J' + 40)), some (.int 0), some (.int (iN 400)), b4'.map .ref] [] A' Q) := by
  intro m
  induction m with
  | zero =>
    intro i J A hm _ _ _
    have e : i = 400 := by omega
    subst e
    exact ⟨A, Or.inl rfl, fun d b4 Q => ⟨J, b4, Iff.rfl⟩⟩
  | succ m ih =>
    intro i J A hm hi hf _
    have hW : jWd A := jWd_c hf.2.2.2.1 hC.1
    have hf1 : jCf A0 (jsI A 194 7 (iN i)) := jCf_7 hf
    have hk : ∃ K, K < 42 ∧ (¬ K = 10 ∧ ¬ K = 37 ∧ ¬ K = 38) ∧ ∀ (d : Nat) (Q : jO → jM → Prop), (Ex (d + 5) 50 0 [some (.ref 194), some (.int (iN i))] [] (jsI A 194 7 (iN i)) Q ↔ Q (.inl (some (.ref (64 * K + 40)))) (jsI A 194 7 (iN i))) := by
      by_cases q : i < N
      · have e : i = N - 1 := by omega
        refine ⟨39, by decide, by decide, fun d Q => ?_⟩
        rw [c_kindA hC hf1 hN.2 q, e, hE]
      · refine ⟨40, by decide, by decide, fun d Q => ?_⟩
        exact c_kindE (N := N) (jWd_c rfl hW) ((hf1.2.1 6 (by decide)).trans hC.2.1) hN.2 (by omega) (by omega)
    obtain ⟨K, k1, k2, k3⟩ := hk
    obtain ⟨A', a1, a2⟩ := ih (i + 1) K (jsI A 194 7 (iN i)) (by omega) (by omega) hf1 (fun _ => trivial)
    refine ⟨A', ?_, fun d b4 Q => ?_⟩
    · rcases a1 with e | ⟨x, e⟩
      · exact Or.inr ⟨_, e⟩
      · by_cases z : True
        · exact Or.inr ⟨x, by rw [e, mII]⟩
        · exact absurd trivial z
    · obtain ⟨J', b4', q⟩ := a2 d (some (64 * K + 40)) Q
      refine ⟨J', b4', ?_⟩
      rw [c_it_0 hW k1 k2 (by omega) (k3 d)]
      exact q
end LOOP2
