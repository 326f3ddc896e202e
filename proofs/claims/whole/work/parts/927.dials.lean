/-! THE PURE PART: what a line dials, reference. -/
theorem jR0_I {B : jM} {r : Nat} {kd : Nat → Nat} {N sz a k : Nat} {b : Nat → Int32} {v : Int32} (h : jR0 B r kd N b sz) (ha : 7000 < a ∨ a = 4889) : jR0 (jsI B a k v) r kd N b sz := by
  obtain ⟨a1, a2, a3, a4, a5, ⟨t1, t2, t3, t4⟩, a7⟩ := h
  refine ⟨jWd_c rfl a1, a2, a3, a4, a5, ⟨by rw [mI2 (by omega)]; exact t1, t2, fun j hj => by rw [mI2 (by omega)]; exact t3 j hj, t4⟩, fun j hj => ?_⟩
  rw [mI2 (by omega), mI2 (by omega), mI2 (by omega)]
  exact a7 j hj
theorem jSb_I {B : jM} {r : Nat} {kd : Nat → Nat} {N sz a k : Nat} {b : Nat → Int32} {v : Int32} (h : jSb B r kd N b sz) (ha : 7000 < a ∨ a = 4889) : jSb (jsI B a k v) r kd N b sz := ⟨jR0_I h.1 ha, fun j hj => by rw [mI2 (by omega)]; exact h.2.1 j hj, fun j hj hk => by rw [mI2 (by omega)]; exact h.2.2 j hj hk⟩
theorem jcut_le {x : Int32} {a e : Nat} (h : e ≤ a) (ha : a < 2 ^ 31) : jcut x (iN e - iN a) = x := by
  by_cases g : e = a
  · subst g
    exact jcut_0
  · unfold jcut
    rw [if_pos]
    rw [Int32.lt_iff_toInt_lt, Int32.toInt_sub, Int32.toInt_ofNat_of_lt (by omega), Int32.toInt_ofNat_of_lt (by omega), Int.bmod_eq_of_le (by omega) (by omega)]
    show (e : Int) - a < 0
    omega
theorem kHp_c {g dg : Nat → Int32} {x : Int32} {l a e : Nat} (h : dg l = iN a) (ha : a < 2 ^ 31) (he : e < 2 ^ 31) : kHp g dg x (iN e) l ↔ (if a ≤ e then jcut x (iN e - iN a) = g l else x = jcut (g l) (iN a - iN e)) := by
  unfold kHp
  rw [h]
  have e1 : iN a < iN e ↔ a < e := iN_lt ha he
  have e2 : iN e < iN a ↔ e < a := iN_lt he ha
  rw [e1, e2]
  by_cases q : a ≤ e
  · rw [if_pos q]
    constructor
    · rintro (⟨q1, q2⟩ | ⟨_, q2⟩)
      · have q3 : a = e := by omega
        subst q3
        rw [jcut_0] at q2 ⊢
        exact q2.symm
      · exact q2
    · exact fun q2 => Or.inr ⟨by omega, q2⟩
  · rw [if_neg q]
    constructor
    · rintro (⟨_, q2⟩ | ⟨q1, _⟩)
      · exact q2.symm
      · exact absurd q1 (by omega)
    · exact fun q2 => Or.inl ⟨by omega, q2.symm⟩
section DIALS
variable {μ : jM} {kd : Nat → Nat} {N r sz k t : Nat} {b : Nat → Int32}
theorem d_dials {g : Nat → Nat} (h0 : jR0 μ r kd N b sz) (ht : t < N - 1) (hk8 : kd t = 38) (hk10 : k < 10) (hl : jI μ (64 * r + 11) 2 = iN (k + 1)) (hg : ∀ l, l < k → jI μ (64 * r + 272) l = iN (g l) ∧ g l ≤ 400) (d : Nat) (Q : jO → jM → Prop) : Ex (d + 1) 133 0 [some (.ref 4490), some (.int (iN t)), none, none, none, none, none, none] [] μ Q ↔ if jfst (fun l => decide (kHp (jI μ (64 * r + 208)) (jI μ (64 * r + 272)) (kNm b (kTs b sz t) (kTl b sz t)) (iN (kTl b sz t)) l)) 0 (k - 0) = -1 then Q (.inl (some (.int 0))) (jsI (jsI μ (64 * r + 208) k (kNm b (kTs b sz t) (kTl b sz t))) (64 * r + 272) k (iN (kTl b sz t))) else Q (.inl (some (.int 6))) (jsI (jsI μ (64 * r + 208) k (kNm b (kTs b sz t) (kTl b sz t))) (64 * r + 272) k (iN (kTl b sz t))) := by
  have hr := h0.2.2.1
  have hN2 := h0.2.1.2.1
  have hsz := h0.2.2.2.2.2.1.2.1
  have hnum := fun d Q => d_numberAt (d := d) (Q := Q) h0 jRf_refl (show t ≤ N - 1 by omega) hk8
  obtain ⟨_, _, f3⟩ := h0.2.2.2.2.2.2 t (by omega)
  obtain ⟨f4, f5⟩ := f3 hk8
  have hw := h0.1
  unfold jWd at hw
  have hq := h0.2.2.2.2.1
  unfold jMq at hq
  have hrd := h0.2.2.2.1
  have he : kTl b sz t < 2 ^ 31 := by omega
  generalize kNm b (kTs b sz t) (kTl b sz t) = x at *
  generalize kTl b sz t = e at *
  have tc : (iN t).toNatClampNeg = t := iN_cl (by omega)
  have tj : jin (iN t) 401 = true := iN_in (by omega) (by omega)
  have kc : (iN k).toNatClampNeg = k := iN_cl (by omega)
  have kj : jin (iN k) 10 = true := iN_in (by omega) (by omega)
  have hp : iN (k + 1) - 1 = iN k := by rw [iN_pred (by omega)]; rfl
  have e1 : ¬ 64 * r + 208 = 64 * r + 272 := by omega
  have e2 : ¬ 64 * r + 272 = 64 * r + 208 := by omega
  have e3 : ¬ 4761 = 64 * r + 208 := by omega
  have hn1 : jI (jsI (jsI μ (64 * r + 208) k x) (64 * r + 272) k (iN e)) (64 * r + 208) k = x := by rw [mI2 e1, mI1, if_pos rfl]
  have hn2 : ∀ l, l < k → jI (jsI (jsI μ (64 * r + 208) k x) (64 * r + 272) k (iN e)) (64 * r + 208) l = jI μ (64 * r + 208) l := fun l hl => by rw [mI2 e1, mI1, if_neg (by omega)]
  have hd1 : jI (jsI (jsI μ (64 * r + 208) k x) (64 * r + 272) k (iN e)) (64 * r + 272) k = iN e := by rw [mI1, if_pos rfl]
  have hd2 : ∀ l, l < k → jI (jsI (jsI μ (64 * r + 208) k x) (64 * r + 272) k (iN e)) (64 * r + 272) l = iN (g l) := fun l hl => by rw [mI1, if_neg (by omega), mI2 e2]; exact (hg l hl).1
  have jp := JP r
  have jpm := JPm r
  have h1 : Ex (d + 1) 133 0 [some (.ref 4490), some (.int (iN t)), none, none, none, none, none, none] [] μ Q ↔ Ex (d + 1) 133 38 [some (.ref 4490), some (.int (iN t)), some (.ref (64 * r + 11)), some (.int (iN k)), some (.int (iN 0)), none, none, none] [] (jsI (jsI μ (64 * r + 208) k x) (64 * r + 272) k (iN e)) Q := by
    simp only [x133_0, x133_1, x133_4a, x133_4b, x133_4c, x133_5, x133_6, x133_9, x133_10, x133_11a, x133_11b, x133_11c, x133_12, x133_13, x133_16, x133_17, x133_18, x133_19, x133_22, x133_23, x133_24, x133_27, x133_28, x133_29, x133_32, x133_33, x133_34, x133_35, x133_36a, x133_36b, x133_36c, x133_40, x133_41, x133_44, x133_45, x133_48, x133_49, x133_50a, x133_50b, x133_50c, x133_52, x133_53, x133_56, x133_58, x133_59a, x133_59b, x133_59c, x133_61, x133_62, x133_65, x133_67, x133_68a, x133_68b, x133_68c, x133_72, x133_73, x133_76, x133_77, x133_78, x133_81, x133_83, x133_85, x133_86a, x133_86b, x133_86c, x133_88a, x133_88b, x133_88c, x133_91, x133_94, x133_95, x133_98, x133_99, x133_100a, x133_100b, x133_100c, x133_104, x133_105, x133_108, x133_110, x133_111, x133_114, x133_116, x133_118, x133_119a, x133_119b, x133_119c, x133_121a, x133_121b, x133_121c, x133_124, x133_127, x133_129, x133_131, x133_134, x133_136, x133_137a, x133_137b, x133_137c, x133_140, x133_143, x133_144, mzi, mInc, mne, mlt9, mrk, mI1, mI2, mI3, mI4, mL1, mL2, mL3, mL4, mQ1, mQ2, mQ3, mQ4, mT1, mcat0, mcat1, mcat2, mcat3, mcat4, mrf1, jK_v, jK_n, JA, mz1, if_true, if_false, ite_true, ite_false, eq_self, not_false_eq_true, Nat.zero_le, true_and, and_true, and_self, Nat.reduceMod, Nat.reduceAdd, Nat.reduceLeDiff, Nat.reduceEqDiff, Nat.reduceLT, hw, hq, hrd, jp, jpm, hl, hp, hnum, kc, kj, tc, tj, mI2 e3, f4]
  rw [h1]
  obtain ⟨μ1, hμ1⟩ : ∃ m, m = jsI (jsI μ (64 * r + 208) k x) (64 * r + 272) k (iN e) := ⟨_, rfl⟩
  have hw1 : jWd μ1 := by rw [hμ1]; exact jWd_c rfl h0.1
  unfold jWd at hw1
  have hq1 : jMq μ1 r := by rw [hμ1]; exact h0.2.2.2.2.1
  unfold jMq at hq1
  rw [← hμ1] at hn1 hn2 hd1 hd2 ⊢
  have step : ∀ l, l < k → ∀ b5 b6 b7 : Option Int32, ∃ c5 c6 c7 : Int32, (kHp (jI μ (64 * r + 208)) (jI μ (64 * r + 272)) x (iN e) l → (Ex (d + 1) 133 38 [some (.ref 4490), some (.int (iN t)), some (.ref (64 * r + 11)), some (.int (iN k)), some (.int (iN l)), b5.map .int, b6.map .int, b7.map .int] [] μ1 Q ↔ Q (.inl (some (.int 6))) μ1)) ∧ (¬ kHp (jI μ (64 * r + 208)) (jI μ (64 * r + 272)) x (iN e) l → (Ex (d + 1) 133 38 [some (.ref 4490), some (.int (iN t)), some (.ref (64 * r + 11)), some (.int (iN k)), some (.int (iN l)), b5.map .int, b6.map .int, b7.map .int] [] μ1 Q ↔ Ex (d + 1) 133 38 [some (.ref 4490), some (.int (iN t)), some (.ref (64 * r + 11)), some (.int (iN k)), some (.int (iN (l + 1))), some (.int c5), some (.int c6), some (.int c7)] [] μ1 Q)) := by
    intro l hlk b5 b6 b7
    have hlt : iN l < iN k := (iN_lt (by omega) (by omega)).mpr hlk
    have lc : (iN l).toNatClampNeg = l := iN_cl (by omega)
    have lj : jin (iN l) 10 = true := iN_in (by omega) (by omega)
    have n2 := hn2 l hlk
    have d2 := hd2 l hlk
    have ga := (hg l hlk).2
    have hh := kHp_c (g := jI μ (64 * r + 208)) (dg := jI μ (64 * r + 272)) (x := x) (e := e) (hg l hlk).1 (by omega) he
    rw [hh]
    have hat70 : Ex (d + 1) 133 38 [some (.ref 4490), some (.int (iN t)), some (.ref (64 * r + 11)), some (.int (iN k)), some (.int (iN l)), b5.map .int, b6.map .int, b7.map .int] [] μ1 Q ↔ Ex (d + 1) 133 70 [some (.ref 4490), some (.int (iN t)), some (.ref (64 * r + 11)), some (.int (iN k)), some (.int (iN l)), some (.int x), some (.int (jI μ (64 * r + 208) l)), some (.int (iN (g l)))] [] μ1 Q := by
      rw [x133_38]
      cases b5 <;> cases b6 <;> cases b7 <;> simp only [Option.map_some, Option.map_none, x133_0, x133_1, x133_4a, x133_4b, x133_4c, x133_5, x133_6, x133_9, x133_10, x133_11a, x133_11b, x133_11c, x133_12, x133_13, x133_16, x133_17, x133_18, x133_19, x133_22, x133_23, x133_24, x133_27, x133_28, x133_29, x133_32, x133_33, x133_34, x133_35, x133_36a, x133_36b, x133_36c, x133_40, x133_41, x133_44, x133_45, x133_48, x133_49, x133_50a, x133_50b, x133_50c, x133_52, x133_53, x133_56, x133_58, x133_59a, x133_59b, x133_59c, x133_61, x133_62, x133_65, x133_67, x133_68a, x133_68b, x133_68c, x133_72, x133_73, x133_76, x133_77, x133_78, x133_81, x133_83, x133_85, x133_86a, x133_86b, x133_86c, x133_88a, x133_88b, x133_88c, x133_91, x133_94, x133_95, x133_98, x133_99, x133_100a, x133_100b, x133_100c, x133_104, x133_105, x133_108, x133_110, x133_111, x133_114, x133_116, x133_118, x133_119a, x133_119b, x133_119c, x133_121a, x133_121b, x133_121c, x133_124, x133_127, x133_129, x133_131, x133_134, x133_136, x133_137a, x133_137b, x133_137c, x133_140, x133_143, x133_144, mzi, mInc, mne, mlt9, mrk, mI1, mI2, mI3, mI4, mL1, mL2, mL3, mL4, mQ1, mQ2, mQ3, mQ4, mT1, mcat0, mcat1, mcat2, mcat3, mcat4, mrf1, jK_v, jK_n, JA, mz1, if_true, if_false, ite_true, ite_false, eq_self, not_false_eq_true, Nat.zero_le, true_and, and_true, and_self, Nat.reduceMod, Nat.reduceAdd, Nat.reduceLeDiff, Nat.reduceEqDiff, Nat.reduceLT, hw1, hq1, jp, jpm, hlt, lc, lj, kc, kj, hn1, n2, d2]
    generalize jI μ (64 * r + 208) l = y at *
    generalize g l = a at *
    by_cases q : a ≤ e
    · rw [if_pos q]
      have loop : ∀ (i : Nat) (u : Int32), i < e → (Ex (d + 1) 133 70 [some (.ref 4490), some (.int (iN t)), some (.ref (64 * r + 11)), some (.int (iN k)), some (.int (iN l)), some (.int u), some (.int y), some (.int (iN i))] [] μ1 Q ↔ Ex (d + 1) 133 70 [some (.ref 4490), some (.int (iN t)), some (.ref (64 * r + 11)), some (.int (iN k)), some (.int (iN l)), some (.int (u / 10)), some (.int y), some (.int (iN (i + 1)))] [] μ1 Q) := by
        intro i u hi
        have hlt2 : iN i < iN e := (iN_lt (by omega) (by omega)).mpr hi
        rw [x133_70]
        simp only [x133_0, x133_1, x133_4a, x133_4b, x133_4c, x133_5, x133_6, x133_9, x133_10, x133_11a, x133_11b, x133_11c, x133_12, x133_13, x133_16, x133_17, x133_18, x133_19, x133_22, x133_23, x133_24, x133_27, x133_28, x133_29, x133_32, x133_33, x133_34, x133_35, x133_36a, x133_36b, x133_36c, x133_40, x133_41, x133_44, x133_45, x133_48, x133_49, x133_50a, x133_50b, x133_50c, x133_52, x133_53, x133_56, x133_58, x133_59a, x133_59b, x133_59c, x133_61, x133_62, x133_65, x133_67, x133_68a, x133_68b, x133_68c, x133_72, x133_73, x133_76, x133_77, x133_78, x133_81, x133_83, x133_85, x133_86a, x133_86b, x133_86c, x133_88a, x133_88b, x133_88c, x133_91, x133_94, x133_95, x133_98, x133_99, x133_100a, x133_100b, x133_100c, x133_104, x133_105, x133_108, x133_110, x133_111, x133_114, x133_116, x133_118, x133_119a, x133_119b, x133_119c, x133_121a, x133_121b, x133_121c, x133_124, x133_127, x133_129, x133_131, x133_134, x133_136, x133_137a, x133_137b, x133_137c, x133_140, x133_143, x133_144, mzi, mInc, mne, mlt9, mrk, mI1, mI2, mI3, mI4, mL1, mL2, mL3, mL4, mQ1, mQ2, mQ3, mQ4, mT1, mcat0, mcat1, mcat2, mcat3, mcat4, mrf1, jK_v, jK_n, JA, mz1, if_true, if_false, ite_true, ite_false, eq_self, not_false_eq_true, Nat.zero_le, true_and, and_true, and_self, Nat.reduceMod, Nat.reduceAdd, Nat.reduceLeDiff, Nat.reduceEqDiff, Nat.reduceLT, hw1, hq1, jp, jpm, kc, kj, hd1, hlt2, m10]
      have hloop := jfold_loop (P := fun i u => Ex (d + 1) 133 70 [some (.ref 4490), some (.int (iN t)), some (.ref (64 * r + 11)), some (.int (iN k)), some (.int (iN l)), some (.int u), some (.int y), some (.int (iN i))] [] μ1 Q) loop (e - a) a x (by omega)
      rw [jcut_n q he] at hloop
      have hge : ¬ iN e < iN e := iN_irr (by omega)
      have hge2 : ¬ iN e < iN a := fun h => by have := (iN_lt (by omega) (by omega)).mp h; omega
      refine ⟨jcut x (iN e - iN a), y, iN e, fun hp => ?_, fun hp => ?_⟩
      · have hp' := eq_true hp
        rw [hat70, hloop, x133_70]
        simp only [x133_0, x133_1, x133_4a, x133_4b, x133_4c, x133_5, x133_6, x133_9, x133_10, x133_11a, x133_11b, x133_11c, x133_12, x133_13, x133_16, x133_17, x133_18, x133_19, x133_22, x133_23, x133_24, x133_27, x133_28, x133_29, x133_32, x133_33, x133_34, x133_35, x133_36a, x133_36b, x133_36c, x133_40, x133_41, x133_44, x133_45, x133_48, x133_49, x133_50a, x133_50b, x133_50c, x133_52, x133_53, x133_56, x133_58, x133_59a, x133_59b, x133_59c, x133_61, x133_62, x133_65, x133_67, x133_68a, x133_68b, x133_68c, x133_72, x133_73, x133_76, x133_77, x133_78, x133_81, x133_83, x133_85, x133_86a, x133_86b, x133_86c, x133_88a, x133_88b, x133_88c, x133_91, x133_94, x133_95, x133_98, x133_99, x133_100a, x133_100b, x133_100c, x133_104, x133_105, x133_108, x133_110, x133_111, x133_114, x133_116, x133_118, x133_119a, x133_119b, x133_119c, x133_121a, x133_121b, x133_121c, x133_124, x133_127, x133_129, x133_131, x133_134, x133_136, x133_137a, x133_137b, x133_137c, x133_140, x133_143, x133_144, mzi, mInc, mne, mlt9, mrk, mI1, mI2, mI3, mI4, mL1, mL2, mL3, mL4, mQ1, mQ2, mQ3, mQ4, mT1, mcat0, mcat1, mcat2, mcat3, mcat4, mrf1, jK_v, jK_n, JA, mz1, if_true, if_false, ite_true, ite_false, eq_self, not_false_eq_true, Nat.zero_le, true_and, and_true, and_self, Nat.reduceMod, Nat.reduceAdd, Nat.reduceLeDiff, Nat.reduceEqDiff, Nat.reduceLT, hw1, hq1, jp, jpm, kc, kj, lc, lj, hd1, hge]
        rw [x133_102]
        simp only [x133_0, x133_1, x133_4a, x133_4b, x133_4c, x133_5, x133_6, x133_9, x133_10, x133_11a, x133_11b, x133_11c, x133_12, x133_13, x133_16, x133_17, x133_18, x133_19, x133_22, x133_23, x133_24, x133_27, x133_28, x133_29, x133_32, x133_33, x133_34, x133_35, x133_36a, x133_36b, x133_36c, x133_40, x133_41, x133_44, x133_45, x133_48, x133_49, x133_50a, x133_50b, x133_50c, x133_52, x133_53, x133_56, x133_58, x133_59a, x133_59b, x133_59c, x133_61, x133_62, x133_65, x133_67, x133_68a, x133_68b, x133_68c, x133_72, x133_73, x133_76, x133_77, x133_78, x133_81, x133_83, x133_85, x133_86a, x133_86b, x133_86c, x133_88a, x133_88b, x133_88c, x133_91, x133_94, x133_95, x133_98, x133_99, x133_100a, x133_100b, x133_100c, x133_104, x133_105, x133_108, x133_110, x133_111, x133_114, x133_116, x133_118, x133_119a, x133_119b, x133_119c, x133_121a, x133_121b, x133_121c, x133_124, x133_127, x133_129, x133_131, x133_134, x133_136, x133_137a, x133_137b, x133_137c, x133_140, x133_143, x133_144, mzi, mInc, mne, mlt9, mrk, mI1, mI2, mI3, mI4, mL1, mL2, mL3, mL4, mQ1, mQ2, mQ3, mQ4, mT1, mcat0, mcat1, mcat2, mcat3, mcat4, mrf1, jK_v, jK_n, JA, mz1, if_true, if_false, ite_true, ite_false, eq_self, not_false_eq_true, Nat.zero_le, true_and, and_true, and_self, Nat.reduceMod, Nat.reduceAdd, Nat.reduceLeDiff, Nat.reduceEqDiff, Nat.reduceLT, hw1, hq1, jp, jpm, kc, kj, lc, lj, d2, hge2, hp']
      · have hp' := eq_false hp
        rw [hat70, hloop, x133_70]
        simp only [x133_0, x133_1, x133_4a, x133_4b, x133_4c, x133_5, x133_6, x133_9, x133_10, x133_11a, x133_11b, x133_11c, x133_12, x133_13, x133_16, x133_17, x133_18, x133_19, x133_22, x133_23, x133_24, x133_27, x133_28, x133_29, x133_32, x133_33, x133_34, x133_35, x133_36a, x133_36b, x133_36c, x133_40, x133_41, x133_44, x133_45, x133_48, x133_49, x133_50a, x133_50b, x133_50c, x133_52, x133_53, x133_56, x133_58, x133_59a, x133_59b, x133_59c, x133_61, x133_62, x133_65, x133_67, x133_68a, x133_68b, x133_68c, x133_72, x133_73, x133_76, x133_77, x133_78, x133_81, x133_83, x133_85, x133_86a, x133_86b, x133_86c, x133_88a, x133_88b, x133_88c, x133_91, x133_94, x133_95, x133_98, x133_99, x133_100a, x133_100b, x133_100c, x133_104, x133_105, x133_108, x133_110, x133_111, x133_114, x133_116, x133_118, x133_119a, x133_119b, x133_119c, x133_121a, x133_121b, x133_121c, x133_124, x133_127, x133_129, x133_131, x133_134, x133_136, x133_137a, x133_137b, x133_137c, x133_140, x133_143, x133_144, mzi, mInc, mne, mlt9, mrk, mI1, mI2, mI3, mI4, mL1, mL2, mL3, mL4, mQ1, mQ2, mQ3, mQ4, mT1, mcat0, mcat1, mcat2, mcat3, mcat4, mrf1, jK_v, jK_n, JA, mz1, if_true, if_false, ite_true, ite_false, eq_self, not_false_eq_true, Nat.zero_le, true_and, and_true, and_self, Nat.reduceMod, Nat.reduceAdd, Nat.reduceLeDiff, Nat.reduceEqDiff, Nat.reduceLT, hw1, hq1, jp, jpm, kc, kj, lc, lj, hd1, hge]
        rw [x133_102]
        simp only [x133_0, x133_1, x133_4a, x133_4b, x133_4c, x133_5, x133_6, x133_9, x133_10, x133_11a, x133_11b, x133_11c, x133_12, x133_13, x133_16, x133_17, x133_18, x133_19, x133_22, x133_23, x133_24, x133_27, x133_28, x133_29, x133_32, x133_33, x133_34, x133_35, x133_36a, x133_36b, x133_36c, x133_40, x133_41, x133_44, x133_45, x133_48, x133_49, x133_50a, x133_50b, x133_50c, x133_52, x133_53, x133_56, x133_58, x133_59a, x133_59b, x133_59c, x133_61, x133_62, x133_65, x133_67, x133_68a, x133_68b, x133_68c, x133_72, x133_73, x133_76, x133_77, x133_78, x133_81, x133_83, x133_85, x133_86a, x133_86b, x133_86c, x133_88a, x133_88b, x133_88c, x133_91, x133_94, x133_95, x133_98, x133_99, x133_100a, x133_100b, x133_100c, x133_104, x133_105, x133_108, x133_110, x133_111, x133_114, x133_116, x133_118, x133_119a, x133_119b, x133_119c, x133_121a, x133_121b, x133_121c, x133_124, x133_127, x133_129, x133_131, x133_134, x133_136, x133_137a, x133_137b, x133_137c, x133_140, x133_143, x133_144, mzi, mInc, mne, mlt9, mrk, mI1, mI2, mI3, mI4, mL1, mL2, mL3, mL4, mQ1, mQ2, mQ3, mQ4, mT1, mcat0, mcat1, mcat2, mcat3, mcat4, mrf1, jK_v, jK_n, JA, mz1, if_true, if_false, ite_true, ite_false, eq_self, not_false_eq_true, Nat.zero_le, true_and, and_true, and_self, Nat.reduceMod, Nat.reduceAdd, Nat.reduceLeDiff, Nat.reduceEqDiff, Nat.reduceLT, hw1, hq1, jp, jpm, kc, kj, lc, lj, d2, hge2, hp']
    · rw [if_neg q]
      have loop : ∀ (i : Nat) (y : Int32), i < a → (Ex (d + 1) 133 102 [some (.ref 4490), some (.int (iN t)), some (.ref (64 * r + 11)), some (.int (iN k)), some (.int (iN l)), some (.int x), some (.int y), some (.int (iN i))] [] μ1 Q ↔ Ex (d + 1) 133 102 [some (.ref 4490), some (.int (iN t)), some (.ref (64 * r + 11)), some (.int (iN k)), some (.int (iN l)), some (.int x), some (.int (y / 10)), some (.int (iN (i + 1)))] [] μ1 Q) := by
        intro i y hi
        have hlt2 : iN i < iN a := (iN_lt (by omega) (by omega)).mpr hi
        rw [x133_102]
        simp only [x133_0, x133_1, x133_4a, x133_4b, x133_4c, x133_5, x133_6, x133_9, x133_10, x133_11a, x133_11b, x133_11c, x133_12, x133_13, x133_16, x133_17, x133_18, x133_19, x133_22, x133_23, x133_24, x133_27, x133_28, x133_29, x133_32, x133_33, x133_34, x133_35, x133_36a, x133_36b, x133_36c, x133_40, x133_41, x133_44, x133_45, x133_48, x133_49, x133_50a, x133_50b, x133_50c, x133_52, x133_53, x133_56, x133_58, x133_59a, x133_59b, x133_59c, x133_61, x133_62, x133_65, x133_67, x133_68a, x133_68b, x133_68c, x133_72, x133_73, x133_76, x133_77, x133_78, x133_81, x133_83, x133_85, x133_86a, x133_86b, x133_86c, x133_88a, x133_88b, x133_88c, x133_91, x133_94, x133_95, x133_98, x133_99, x133_100a, x133_100b, x133_100c, x133_104, x133_105, x133_108, x133_110, x133_111, x133_114, x133_116, x133_118, x133_119a, x133_119b, x133_119c, x133_121a, x133_121b, x133_121c, x133_124, x133_127, x133_129, x133_131, x133_134, x133_136, x133_137a, x133_137b, x133_137c, x133_140, x133_143, x133_144, mzi, mInc, mne, mlt9, mrk, mI1, mI2, mI3, mI4, mL1, mL2, mL3, mL4, mQ1, mQ2, mQ3, mQ4, mT1, mcat0, mcat1, mcat2, mcat3, mcat4, mrf1, jK_v, jK_n, JA, mz1, if_true, if_false, ite_true, ite_false, eq_self, not_false_eq_true, Nat.zero_le, true_and, and_true, and_self, Nat.reduceMod, Nat.reduceAdd, Nat.reduceLeDiff, Nat.reduceEqDiff, Nat.reduceLT, hw1, hq1, jp, jpm, lc, lj, d2, hlt2, m10]
      have hloop := jfold_loop (P := fun i y => Ex (d + 1) 133 102 [some (.ref 4490), some (.int (iN t)), some (.ref (64 * r + 11)), some (.int (iN k)), some (.int (iN l)), some (.int x), some (.int y), some (.int (iN i))] [] μ1 Q) loop (a - e) e y (by omega)
      rw [jcut_n (show e ≤ a by omega) (by omega)] at hloop
      have hge : ¬ iN a < iN e := fun h => by have := (iN_lt (by omega) (by omega)).mp h; omega
      have hge2 : ¬ iN a < iN a := iN_irr (by omega)
      refine ⟨x, jcut y (iN a - iN e), iN a, fun hp => ?_, fun hp => ?_⟩
      · have hp' := eq_true hp
        rw [hat70, x133_70]
        simp only [x133_0, x133_1, x133_4a, x133_4b, x133_4c, x133_5, x133_6, x133_9, x133_10, x133_11a, x133_11b, x133_11c, x133_12, x133_13, x133_16, x133_17, x133_18, x133_19, x133_22, x133_23, x133_24, x133_27, x133_28, x133_29, x133_32, x133_33, x133_34, x133_35, x133_36a, x133_36b, x133_36c, x133_40, x133_41, x133_44, x133_45, x133_48, x133_49, x133_50a, x133_50b, x133_50c, x133_52, x133_53, x133_56, x133_58, x133_59a, x133_59b, x133_59c, x133_61, x133_62, x133_65, x133_67, x133_68a, x133_68b, x133_68c, x133_72, x133_73, x133_76, x133_77, x133_78, x133_81, x133_83, x133_85, x133_86a, x133_86b, x133_86c, x133_88a, x133_88b, x133_88c, x133_91, x133_94, x133_95, x133_98, x133_99, x133_100a, x133_100b, x133_100c, x133_104, x133_105, x133_108, x133_110, x133_111, x133_114, x133_116, x133_118, x133_119a, x133_119b, x133_119c, x133_121a, x133_121b, x133_121c, x133_124, x133_127, x133_129, x133_131, x133_134, x133_136, x133_137a, x133_137b, x133_137c, x133_140, x133_143, x133_144, mzi, mInc, mne, mlt9, mrk, mI1, mI2, mI3, mI4, mL1, mL2, mL3, mL4, mQ1, mQ2, mQ3, mQ4, mT1, mcat0, mcat1, mcat2, mcat3, mcat4, mrf1, jK_v, jK_n, JA, mz1, if_true, if_false, ite_true, ite_false, eq_self, not_false_eq_true, Nat.zero_le, true_and, and_true, and_self, Nat.reduceMod, Nat.reduceAdd, Nat.reduceLeDiff, Nat.reduceEqDiff, Nat.reduceLT, hw1, hq1, jp, jpm, kc, kj, lc, lj, hd1, hge]
        rw [hloop, x133_102]
        simp only [x133_0, x133_1, x133_4a, x133_4b, x133_4c, x133_5, x133_6, x133_9, x133_10, x133_11a, x133_11b, x133_11c, x133_12, x133_13, x133_16, x133_17, x133_18, x133_19, x133_22, x133_23, x133_24, x133_27, x133_28, x133_29, x133_32, x133_33, x133_34, x133_35, x133_36a, x133_36b, x133_36c, x133_40, x133_41, x133_44, x133_45, x133_48, x133_49, x133_50a, x133_50b, x133_50c, x133_52, x133_53, x133_56, x133_58, x133_59a, x133_59b, x133_59c, x133_61, x133_62, x133_65, x133_67, x133_68a, x133_68b, x133_68c, x133_72, x133_73, x133_76, x133_77, x133_78, x133_81, x133_83, x133_85, x133_86a, x133_86b, x133_86c, x133_88a, x133_88b, x133_88c, x133_91, x133_94, x133_95, x133_98, x133_99, x133_100a, x133_100b, x133_100c, x133_104, x133_105, x133_108, x133_110, x133_111, x133_114, x133_116, x133_118, x133_119a, x133_119b, x133_119c, x133_121a, x133_121b, x133_121c, x133_124, x133_127, x133_129, x133_131, x133_134, x133_136, x133_137a, x133_137b, x133_137c, x133_140, x133_143, x133_144, mzi, mInc, mne, mlt9, mrk, mI1, mI2, mI3, mI4, mL1, mL2, mL3, mL4, mQ1, mQ2, mQ3, mQ4, mT1, mcat0, mcat1, mcat2, mcat3, mcat4, mrf1, jK_v, jK_n, JA, mz1, if_true, if_false, ite_true, ite_false, eq_self, not_false_eq_true, Nat.zero_le, true_and, and_true, and_self, Nat.reduceMod, Nat.reduceAdd, Nat.reduceLeDiff, Nat.reduceEqDiff, Nat.reduceLT, hw1, hq1, jp, jpm, kc, kj, lc, lj, d2, hge2, hp']
      · have hp' := eq_false hp
        rw [hat70, x133_70]
        simp only [x133_0, x133_1, x133_4a, x133_4b, x133_4c, x133_5, x133_6, x133_9, x133_10, x133_11a, x133_11b, x133_11c, x133_12, x133_13, x133_16, x133_17, x133_18, x133_19, x133_22, x133_23, x133_24, x133_27, x133_28, x133_29, x133_32, x133_33, x133_34, x133_35, x133_36a, x133_36b, x133_36c, x133_40, x133_41, x133_44, x133_45, x133_48, x133_49, x133_50a, x133_50b, x133_50c, x133_52, x133_53, x133_56, x133_58, x133_59a, x133_59b, x133_59c, x133_61, x133_62, x133_65, x133_67, x133_68a, x133_68b, x133_68c, x133_72, x133_73, x133_76, x133_77, x133_78, x133_81, x133_83, x133_85, x133_86a, x133_86b, x133_86c, x133_88a, x133_88b, x133_88c, x133_91, x133_94, x133_95, x133_98, x133_99, x133_100a, x133_100b, x133_100c, x133_104, x133_105, x133_108, x133_110, x133_111, x133_114, x133_116, x133_118, x133_119a, x133_119b, x133_119c, x133_121a, x133_121b, x133_121c, x133_124, x133_127, x133_129, x133_131, x133_134, x133_136, x133_137a, x133_137b, x133_137c, x133_140, x133_143, x133_144, mzi, mInc, mne, mlt9, mrk, mI1, mI2, mI3, mI4, mL1, mL2, mL3, mL4, mQ1, mQ2, mQ3, mQ4, mT1, mcat0, mcat1, mcat2, mcat3, mcat4, mrf1, jK_v, jK_n, JA, mz1, if_true, if_false, ite_true, ite_false, eq_self, not_false_eq_true, Nat.zero_le, true_and, and_true, and_self, Nat.reduceMod, Nat.reduceAdd, Nat.reduceLeDiff, Nat.reduceEqDiff, Nat.reduceLT, hw1, hq1, jp, jpm, kc, kj, lc, lj, hd1, hge]
        rw [hloop, x133_102]
        simp only [x133_0, x133_1, x133_4a, x133_4b, x133_4c, x133_5, x133_6, x133_9, x133_10, x133_11a, x133_11b, x133_11c, x133_12, x133_13, x133_16, x133_17, x133_18, x133_19, x133_22, x133_23, x133_24, x133_27, x133_28, x133_29, x133_32, x133_33, x133_34, x133_35, x133_36a, x133_36b, x133_36c, x133_40, x133_41, x133_44, x133_45, x133_48, x133_49, x133_50a, x133_50b, x133_50c, x133_52, x133_53, x133_56, x133_58, x133_59a, x133_59b, x133_59c, x133_61, x133_62, x133_65, x133_67, x133_68a, x133_68b, x133_68c, x133_72, x133_73, x133_76, x133_77, x133_78, x133_81, x133_83, x133_85, x133_86a, x133_86b, x133_86c, x133_88a, x133_88b, x133_88c, x133_91, x133_94, x133_95, x133_98, x133_99, x133_100a, x133_100b, x133_100c, x133_104, x133_105, x133_108, x133_110, x133_111, x133_114, x133_116, x133_118, x133_119a, x133_119b, x133_119c, x133_121a, x133_121b, x133_121c, x133_124, x133_127, x133_129, x133_131, x133_134, x133_136, x133_137a, x133_137b, x133_137c, x133_140, x133_143, x133_144, mzi, mInc, mne, mlt9, mrk, mI1, mI2, mI3, mI4, mL1, mL2, mL3, mL4, mQ1, mQ2, mQ3, mQ4, mT1, mcat0, mcat1, mcat2, mcat3, mcat4, mrf1, jK_v, jK_n, JA, mz1, if_true, if_false, ite_true, ite_false, eq_self, not_false_eq_true, Nat.zero_le, true_and, and_true, and_self, Nat.reduceMod, Nat.reduceAdd, Nat.reduceLeDiff, Nat.reduceEqDiff, Nat.reduceLT, hw1, hq1, jp, jpm, kc, kj, lc, lj, d2, hge2, hp']
  have hrun : ∀ m l, l + m = k → ∀ b5 b6 b7 : Option Int32, (Ex (d + 1) 133 38 [some (.ref 4490), some (.int (iN t)), some (.ref (64 * r + 11)), some (.int (iN k)), some (.int (iN l)), b5.map .int, b6.map .int, b7.map .int] [] μ1 Q ↔ if jfst (fun l => decide (kHp (jI μ (64 * r + 208)) (jI μ (64 * r + 272)) x (iN e) l)) l m = -1 then Q (.inl (some (.int 0))) μ1 else Q (.inl (some (.int 6))) μ1) := by
    intro m
    induction m with
    | zero =>
      intro l hlk b5 b6 b7
      have e : l = k := by omega
      subst e
      have hge : ¬ iN l < iN l := iN_irr (by omega)
      rw [show jfst (fun l => decide (kHp (jI μ (64 * r + 208)) (jI μ (64 * r + 272)) x (iN _) l)) l 0 = -1 from rfl, if_pos rfl, x133_38]
      cases b5 <;> cases b6 <;> cases b7 <;> simp only [Option.map_some, Option.map_none, x133_0, x133_1, x133_4a, x133_4b, x133_4c, x133_5, x133_6, x133_9, x133_10, x133_11a, x133_11b, x133_11c, x133_12, x133_13, x133_16, x133_17, x133_18, x133_19, x133_22, x133_23, x133_24, x133_27, x133_28, x133_29, x133_32, x133_33, x133_34, x133_35, x133_36a, x133_36b, x133_36c, x133_40, x133_41, x133_44, x133_45, x133_48, x133_49, x133_50a, x133_50b, x133_50c, x133_52, x133_53, x133_56, x133_58, x133_59a, x133_59b, x133_59c, x133_61, x133_62, x133_65, x133_67, x133_68a, x133_68b, x133_68c, x133_72, x133_73, x133_76, x133_77, x133_78, x133_81, x133_83, x133_85, x133_86a, x133_86b, x133_86c, x133_88a, x133_88b, x133_88c, x133_91, x133_94, x133_95, x133_98, x133_99, x133_100a, x133_100b, x133_100c, x133_104, x133_105, x133_108, x133_110, x133_111, x133_114, x133_116, x133_118, x133_119a, x133_119b, x133_119c, x133_121a, x133_121b, x133_121c, x133_124, x133_127, x133_129, x133_131, x133_134, x133_136, x133_137a, x133_137b, x133_137c, x133_140, x133_143, x133_144, mzi, mInc, mne, mlt9, mrk, mI1, mI2, mI3, mI4, mL1, mL2, mL3, mL4, mQ1, mQ2, mQ3, mQ4, mT1, mcat0, mcat1, mcat2, mcat3, mcat4, mrf1, jK_v, jK_n, JA, mz1, if_true, if_false, ite_true, ite_false, eq_self, not_false_eq_true, Nat.zero_le, true_and, and_true, and_self, Nat.reduceMod, Nat.reduceAdd, Nat.reduceLeDiff, Nat.reduceEqDiff, Nat.reduceLT, hge]
    | succ m ih =>
      intro l hlk b5 b6 b7
      obtain ⟨c5, c6, c7, s1, s2⟩ := step l (by omega) b5 b6 b7
      by_cases q : kHp (jI μ (64 * r + 208)) (jI μ (64 * r + 272)) x (iN e) l
      · have ej : jfst (fun l => decide (kHp (jI μ (64 * r + 208)) (jI μ (64 * r + 272)) x (iN e) l)) l (m + 1) = iN l := jfst_is (by omega) (Nat.le_refl _) (by omega) (decide_eq_true q) (fun j h1 h2 => absurd h1 (by omega))
        rw [ej, if_neg (iN_n1 (by omega))]
        exact s1 q
      · have ej : jfst (fun l => decide (kHp (jI μ (64 * r + 208)) (jI μ (64 * r + 272)) x (iN e) l)) l (m + 1) = jfst (fun l => decide (kHp (jI μ (64 * r + 208)) (jI μ (64 * r + 272)) x (iN e) l)) (l + 1) m := by
          show (bif decide (kHp (jI μ (64 * r + 208)) (jI μ (64 * r + 272)) x (iN e) l) then _ else _) = _
          rw [decide_eq_false q]
          rfl
        rw [ej, s2 q]
        exact ih (l + 1) (by omega) (some c5) (some c6) (some c7)
  exact hrun (k - 0) 0 (by omega) none none none
end DIALS
