/-! THE PURE PART: names in tests (reference). -/
section GRM2
variable {μ ν : jM} {r : Nat} {kd : Nat → Nat} {num : Nat → Int32} {N f sz i j D K : Nat} {E l : List (Nat × Nat)} {b : Nat → Int32}
/-- a name behind free, load or idle -/
def kN0M (ν : jM) (r w n i K : Nat) : jM := kPutM (jsI (jsI (jsI (kPutM ν r w (iN K)) 4490 9 (iN (i + 1))) (64 * r + 856) n (iN (w + 1))) (64 * r + 11) 19 (iN (n + 1))) r (w + 1) (iN (i + 1))
def kNaM (ν : jM) (r w n i K : Nat) (x : Int32) : jM := jsI (kN0M ν r w n i K) 4825 (i + 1) x
theorem kNaM_c {w n : Nat} {x : Int32} (hr : 120 ≤ r) : (∀ k, jI (kNaM ν r w n i K x) (64 * r + 794) k = if k = w + 1 then iN (i + 1) else if k = w then iN K else jI ν (64 * r + 794) k) ∧ (∀ k, jI (kNaM ν r w n i K x) (64 * r + 856) k = if k = n then iN (w + 1) else jI ν (64 * r + 856) k) ∧ (∀ k, jI (kNaM ν r w n i K x) (64 * r + 11) k = if k = 17 then iN (w + 1 + 1) else if k = 19 then iN (n + 1) else jI ν (64 * r + 11) k) ∧ (∀ k, jI (kNaM ν r w n i K x) 4490 k = if k = 9 then iN (i + 1) else jI ν 4490 k) ∧ (∀ k, jI (kNaM ν r w n i K x) 4825 k = if k = i + 1 then x else jI ν 4825 k) ∧ (∀ a, ¬ a = 4490 → ¬ a = 4825 → ¬ a = 64 * r + 11 → ¬ a = 64 * r + 794 → ¬ a = 64 * r + 856 → jI (kNaM ν r w n i K x) a = jI ν a) := by
  have e1 : ¬ 64 * r + 794 = 4825 := by omega
  have e2 : ¬ 64 * r + 856 = 4825 := by omega
  have e3 : ¬ 64 * r + 11 = 4825 := by omega
  have e4 : ¬ 64 * r + 794 = 4490 := by omega
  have e5 : ¬ 64 * r + 856 = 4490 := by omega
  have e6 : ¬ 64 * r + 11 = 4490 := by omega
  have e7 : ¬ 64 * r + 794 = 64 * r + 11 := by omega
  have e8 : ¬ 64 * r + 856 = 64 * r + 11 := by omega
  have e9 : ¬ 64 * r + 856 = 64 * r + 794 := by omega
  have e10 : ¬ 64 * r + 794 = 64 * r + 856 := by omega
  have e11 : ¬ 64 * r + 11 = 64 * r + 856 := by omega
  have e12 : ¬ 64 * r + 11 = 64 * r + 794 := by omega
  have e13 : ¬ 4490 = 64 * r + 11 := by omega
  have e14 : ¬ 4490 = 64 * r + 794 := by omega
  have e15 : ¬ 4490 = 64 * r + 856 := by omega
  have e16 : ¬ 4825 = 64 * r + 11 := by omega
  have e17 : ¬ 4825 = 64 * r + 794 := by omega
  have e18 : ¬ 4825 = 64 * r + 856 := by omega
  unfold kNaM kN0M kPutM
  refine ⟨fun k => ?_, fun k => ?_, fun k => ?_, fun k => ?_, fun k => ?_, fun a n1 n2 n3 n4 n5 => ?_⟩
  · simp only [mI1, mI2, e1, e4, e7, e10, not_false_eq_true]
  · simp only [mI1, mI2, e2, e5, e8, e9, not_false_eq_true]
  · simp only [mI1, mI2, e3, e6, e11, e12, not_false_eq_true]
    by_cases g : k = 17
    · rw [if_pos g, if_pos g]
    · rw [if_neg g, if_neg g, if_neg g]
  · simp only [mI1, mI2, e13, e14, e15, not_false_eq_true, Nat.reduceEqDiff]
  · simp only [mI1, mI2, e16, e17, e18, not_false_eq_true, Nat.reduceEqDiff]
  · simp only [mI2, n1, n2, n3, n4, n5, not_false_eq_true]
theorem jRr_name {x : Nat} (h : jRr μ ν r kd num N i D E) (hr : 120 ≤ r) (hK : K = 14 ∨ K = 15 ∨ K = 16) (h0 : kRole kd i = 0) (h1 : kRole kd (i + 1) = x) (hi : i + 1 < N) : jRr μ (jsI (kNaM ν r (kWds E) (kNs E) i K (iN x)) 4490 9 (iN (i + 2))) r kd num N (i + 2) D (E ++ [(K, i + 1)]) := by
  obtain ⟨f1, f2, f3, f4, f5, f6, f7, f8, f9⟩ := h
  obtain ⟨c1, c2, c3, c4, c5, c6⟩ := kNaM_c (ν := ν) (r := r) (i := i) (K := K) (w := kWds E) (n := kNs E) (x := iN x) hr
  obtain ⟨a1, a2⟩ := kWds_app E [(K, i + 1)]
  have hw : kWds [(K, i + 1)] = 2 := by rcases hK with e | e | e <;> rw [e] <;> rfl
  have hn : kNs [(K, i + 1)] = 1 := by rcases hK with e | e | e <;> rw [e] <;> rfl
  have ht : kTwo K = true := by rcases hK with e | e | e <;> rw [e] <;> rfl
  have hc : kCd K = K := by rcases hK with e | e | e <;> rw [e] <;> rfl
  have h38 : ¬ K = 38 := by omega
  rw [hw] at a1
  rw [hn] at a2
  obtain ⟨q1, q2, q3, q4, q5, q6, q7⟩ := f1
  refine ⟨⟨fun a n1 n2 n3 n4 n5 => by rw [mI2 n1, c6 a n1 n2 n3 n4 n5]; exact q1 a n1 n2 n3 n4 n5, fun k n1 n2 => by rw [mI1, if_neg n1, c4, if_neg n1]; exact q2 k n1 n2, fun k n1 n2 => by rw [mI2 (by omega), c3, if_neg n1, if_neg n2]; exact q3 k n1 n2, q4, q5, q6, q7⟩, by rw [mI1, if_pos rfl], by rw [mI1, if_neg (by decide), c4, if_neg (by decide)]; exact f3, by rw [mI2 (by omega), c3, if_pos rfl, a1], ?_, by rw [mI2 (by omega), c3, if_neg (by decide), if_pos rfl, a2], ?_, fun t ht => ?_, fun t ht hN => ?_⟩
  · rw [mI2 (by omega), kLm_app, Nat.zero_add]
    refine ⟨kLm_congr E 0 (fun j _ hj => by rw [c1, if_neg (by omega), if_neg (by omega)]) f5, ?_, ?_⟩
    · rw [c1, if_neg (by omega), if_pos rfl, hc]
    · rw [ht, cond_true]
      refine ⟨?_, trivial⟩
      rw [c1, if_pos rfl]
      unfold kCw
      rw [if_neg h38]
  · rw [mI2 (by omega), kOp_app, Nat.zero_add, Nat.zero_add]
    refine ⟨kOp_congr E 0 0 (fun j _ hj => by rw [c2, if_neg (by omega)]) f7, ?_⟩
    show (if K = 14 ∨ K = 15 ∨ K = 16 then _ ∧ True else _)
    rw [if_pos hK, c2, if_pos rfl]
    exact ⟨rfl, trivial⟩
  · rw [mI2 (by decide), c5]
    by_cases e : t = i + 1
    · rw [if_pos e, e, h1]
    · rw [if_neg e]
      by_cases e2 : t = i
      · rw [e2, h0]
        exact f9 i (Nat.le_refl _) (by omega)
      · exact f8 t (by omega)
  · rw [mI2 (by decide), c5, if_neg (by omega)]
    exact f9 t (by omega) hN
theorem d_named {x : Nat} (h0 : jR0 μ r kd N b sz) (hG : jRr μ ν r kd num N i D E) (hK : kd i = K) (hK3 : K = 14 ∨ K = 15 ∨ K = 16) (hi : i ≤ N - 1) (hE : E.length ≤ i) (hx : kd (i + 1) = 37 → kRole kd (i + 1) = x) : ∃ ν', mPost μ r kd num N D E (if kd (i + 1) = 37 then (true, i + 2, [(K, i + 1)]) else kNo (i + 1)) ν' ∧ ∀ (d : Nat) (Q : jO → jM → Prop), (Ex (d + 3) 123 0 [some (.ref 4490), some (.int (iN x))] [] ν Q ↔ Q (.inl (some (.int (bif (if kd (i + 1) = 37 then (true, i + 2, [(K, i + 1)]) else kNo (i + 1) : kR).1 then 1 else 0)))) ν') := by
  have hT := h0.2.1
  have hr := h0.2.2.1
  have hN1 := hT.1
  have hN2 := hT.2.1
  have i1 := kTok_lt hT hi (by omega)
  have hw := jRf_w h0 hG.1
  unfold jWd at hw
  have hq := h0.2.2.2.2.1
  unfold jMq at hq
  rw [← hG.1.2.2.2.1] at hq
  have hrd : jQ ν 4490 12 = some (64 * r + 11) := by rw [hG.1.2.2.2.1]; exact h0.2.2.2.1
  have ht := hG.2.1
  have hk := jR_kind h0 hG.1 hi
  have hkk : iN (kMd (kd i)) = iN K := by
    rw [hK]
    rcases hK3 with e | e | e <;> rw [e] <;> rfl
  rw [hkk] at hk
  have hwE := kW_lt (i := i + 1) hT (show E.length < i + 1 by omega) i1
  have hnE := (kWds_le E).2
  have ic : (iN i).toNatClampNeg = i := iN_cl (by omega)
  have ij : jin (iN i) 401 = true := iN_in (by omega) (by omega)
  have nc : (iN (kNs E)).toNatClampNeg = kNs E := iN_cl (by omega)
  have nj : jin (iN (kNs E)) 400 = true := iN_in (by omega) (by omega)
  have wc : (iN (kWds E)).toNatClampNeg = kWds E := iN_cl (by omega)
  have wj : jin (iN (kWds E)) 800 = true := iN_in (by omega) (by omega)
  have vc : (iN (kWds E + 1)).toNatClampNeg = kWds E + 1 := iN_cl (by omega)
  have vj : jin (iN (kWds E + 1)) 800 = true := iN_in (by omega) (by omega)
  have e4 : ¬ 64 * r + 794 = 4490 := by omega
  have e5 : ¬ 64 * r + 856 = 4490 := by omega
  have e6 : ¬ 64 * r + 11 = 4490 := by omega
  have e7 : ¬ 64 * r + 794 = 64 * r + 11 := by omega
  have e8 : ¬ 64 * r + 856 = 64 * r + 11 := by omega
  have e11 : ¬ 64 * r + 11 = 64 * r + 856 := by omega
  have e12 : ¬ 64 * r + 11 = 64 * r + 794 := by omega
  have e13 : ¬ 4490 = 64 * r + 11 := by omega
  have e14 : ¬ 4490 = 64 * r + 794 := by omega
  have e15 : ¬ 4490 = 64 * r + 856 := by omega
  have f17 := hG.2.2.2.1
  have f19 := hG.2.2.2.2.2.1
  have n1719 : ¬ (17 : Nat) = 19 := by decide
  have n1917 : ¬ (19 : Nat) = 17 := by decide
  -- the memory before the name is taken
  have hFm : jRf r μ (kN0M ν r (kWds E) (kNs E) i K) := by
    have h1 := jRf_I (v := iN (i + 1)) (jRf_P (n := kWds E) (x := iN K) hG.1 hr) hr (Or.inl rfl)
    have h2 : jRf r μ (jsI (jsI (jsI (kPutM ν r (kWds E) (iN K)) 4490 9 (iN (i + 1))) (64 * r + 856) (kNs E) (iN (kWds E + 1))) (64 * r + 11) 19 (iN (kNs E + 1))) := by
      generalize jsI (kPutM ν r (kWds E) (iN K)) 4490 9 (iN (i + 1)) = ν1 at h1
      obtain ⟨a1, a2, a3, a4, a5, a6, a7⟩ := h1
      exact ⟨fun a n1 n2 n3 n4 n5 => by rw [mI2 n3, mI2 n5]; exact a1 a n1 n2 n3 n4 n5, fun k n1 n2 => by rw [mI2 e13, mI2 e15]; exact a2 k n1 n2, fun k n1 n2 => by rw [mI1, if_neg n2, mI2 e11]; exact a3 k n1 n2, a4, a5, a6, a7⟩
    exact jRf_P h2 hr
  have hTm : jI (kN0M ν r (kWds E) (kNs E) i K) 4490 9 = iN (i + 1) := by
    have := (kNaM_c (ν := ν) (r := r) (i := i) (K := K) (w := kWds E) (n := kNs E) (x := 0) hr).2.2.2.1 9
    unfold kNaM at this
    rw [mI2 (by decide), if_pos rfl] at this
    exact this
  have heat : ∀ (d : Nat) (Q : jO → jM → Prop), Ex (d + 2) 111 0 [some (.ref 4490), some (.int 40), some (.int (iN x))] [] (kN0M ν r (kWds E) (kNs E) i K) Q ↔ if kd (i + 1) = 37 then Q (.inl (some (.int 1))) (jsI (kNaM ν r (kWds E) (kNs E) i K (iN x)) 4490 9 (iN (i + 1 + 1))) else Q (.inl (some (.int 0))) (kNaM ν r (kWds E) (kNs E) i K (iN x)) := fun d Q => d_eatAs (K := 37) h0 hFm hTm i1 (by decide)
  have hpre : ∀ (d : Nat) (Q : jO → jM → Prop), Ex (d + 3) 123 0 [some (.ref 4490), some (.int (iN x))] [] ν Q ↔ Ex (d + 3) 123 66 [some (.ref 4490), some (.int (iN x))] [] (kN0M ν r (kWds E) (kNs E) i K) Q := by
    intro d Q
    have jp := JP r
    have jpm := JPm r
    unfold kN0M kPutM
    simp only [x123_0, x123_1, x123_2, x123_5, x123_6, x123_9, x123_10, x123_13, x123_14a, x123_14b, x123_15, x123_18, x123_19, x123_20, x123_23, x123_24, x123_27, x123_30, x123_31, x123_34, x123_37, x123_38, x123_41, x123_44, x123_45, x123_46, x123_49a, x123_49b, x123_50, x123_53, x123_54, x123_55, x123_58, x123_59, x123_60, x123_63, x120_0, x120_1, x120_4, x120_7, x120_8, x120_11, x120_14, x120_15, x120_16, x120_17, x120_20a, x120_20b, x120_21, x120_24, x120_25, x120_26, x120_29, mzi, mInc, mne, mlt9, mrk, mI1, mI2, mI3, mI4, mL1, mL2, mL3, mL4, mQ1, mQ2, mQ3, mQ4, mT1, mcat0, mcat1, mcat2, mcat3, mcat4, mrf1, jK_v, jK_n, JA, mz1, if_true, if_false, ite_true, ite_false, eq_self, not_false_eq_true, Nat.zero_le, true_and, and_true, and_self, Nat.reduceMod, Nat.reduceAdd, Nat.reduceLeDiff, Nat.reduceEqDiff, Nat.reduceLT, hw, hq, hrd, jp, jpm, ht, hk, ic, ij, nc, nj, wc, wj, vc, vj, e4, e5, e6, e7, e8, e11, e12, e13, e14, e15, f17, f19, n1719, n1917]
  have hwm := jRf_w h0 hFm
  unfold jWd at hwm
  generalize hgm : kN0M ν r (kWds E) (kNs E) i K = νm at hFm hTm heat hpre hwm
  by_cases g : kd (i + 1) = 37
  · have g' := eq_true g
    rw [if_pos g]
    have hG2 := jRr_name hG hr hK3 (kRole_0 (by omega) (by omega) (by omega)) (hx g) (by omega)
    refine ⟨_, mPost_1 hG2 (kBef_s (by omega)), fun d Q => ?_⟩
    rw [hpre]
    simp only [x123_66, x123_67, x123_69, x123_70, x123_73, mzi, mInc, mne, mlt9, mrk, mI1, mI2, mI3, mI4, mL1, mL2, mL3, mL4, mQ1, mQ2, mQ3, mQ4, mT1, mcat0, mcat1, mcat2, mcat3, mcat4, mrf1, jK_v, jK_n, JA, mz1, if_true, if_false, ite_true, ite_false, eq_self, not_false_eq_true, Nat.zero_le, true_and, and_true, and_self, Nat.reduceMod, Nat.reduceAdd, Nat.reduceLeDiff, Nat.reduceEqDiff, Nat.reduceLT, hwm, heat, g', cond_true]
  · have g' := eq_false g
    rw [if_neg g]
    refine ⟨kNaM ν r (kWds E) (kNs E) i K (iN x), mPost_z ?_, fun d Q => ?_⟩
    · unfold kNaM
      rw [hgm]
      exact ⟨jRf_L hFm, by rw [mI2 (by decide)]; exact hTm⟩
    · rw [hpre]
      simp only [x123_66, x123_67, x123_69, x123_70, x123_73, mzi, mInc, mne, mlt9, mrk, mI1, mI2, mI3, mI4, mL1, mL2, mL3, mL4, mQ1, mQ2, mQ3, mQ4, mT1, mcat0, mcat1, mcat2, mcat3, mcat4, mrf1, jK_v, jK_n, JA, mz1, if_true, if_false, ite_true, ite_false, eq_self, not_false_eq_true, Nat.zero_le, true_and, and_true, and_self, Nat.reduceMod, Nat.reduceAdd, Nat.reduceLeDiff, Nat.reduceEqDiff, Nat.reduceLT, hwm, heat, g']
      rfl
end GRM2
