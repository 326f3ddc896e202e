/-! THE PURE PART: teach. -/
section TEC
variable {A B A' B' μ : jM} {n mk sz : Nat} {b pn pd : Nat → Int32}
theorem kBegn_f {a : Nat} (h : a < 2567 ∨ 3280 < a) : jI (kBegn A 10) a = jI A a := by
  unfold kBegn
  rw [mR2 (by omega), mR2 (by omega), mR2 (by omega), mR2 (by omega), mR2 (by omega), mR2 (by omega), mR2 (by omega), mR2 (by omega), mR2 (by omega), mR2 (by omega), mR2 (by omega), mI2 (by omega)]
theorem kBegMs_f {a : Nat} (h : a < 5836 ∨ 6288 < a) : jI (kBegMs A 10) a = jI A a := by
  unfold kBegMs
  rw [mR2 (by omega), mR2 (by omega), mR2 (by omega), mR2 (by omega), mR2 (by omega), mR2 (by omega), mI2 (by omega)]
/-- both begin anew -/
theorem R_begn (h1 : jI A 2567 2 = jI B 5836 0) (h2 : jI A 2567 3 = iN mk) (h3 : jI B 5836 1 = iN mk) (hm : 1 ≤ mk) (hm4 : mk ≤ 4) (hn : n ≤ 10) : jRXn (kBegn A 10) (kBegMs B 10) n 0 mk pn pd := by
  have q0 : ∀ k, jI (kBegn A 10) 2567 k = if k = 16 then 0 else jI A 2567 k := fun k => by
    unfold kBegn
    simp only [mR2, Nat.reduceEqDiff, not_false_eq_true]
    exact mI1
  have q1 : ∀ k, jI (kBegMs B 10) 5836 k = if k = 7 then 0 else jI B 5836 k := fun k => by
    unfold kBegMs
    simp only [mR2, Nat.reduceEqDiff, not_false_eq_true]
    exact mI1
  have r2640 : jI (kBegn A 10) 2640 = fun j => if j < 10 then 0 else jI A 2640 j := by unfold kBegn; simp only [mR1, mR2, Nat.reduceEqDiff, not_false_eq_true]
  have r2704 : jI (kBegn A 10) 2704 = fun j => if j < 10 then -1 else jI A 2704 j := by unfold kBegn; simp only [mR1, mR2, Nat.reduceEqDiff, not_false_eq_true]
  have r2960 : jI (kBegn A 10) 2960 = fun j => if j < 10 then 0 else jI A 2960 j := by unfold kBegn; simp only [mR1, mR2, Nat.reduceEqDiff, not_false_eq_true]
  have r2768 : jI (kBegn A 10) 2768 = fun j => if j < 10 then 0 else jI A 2768 j := by unfold kBegn; simp only [mR1, mR2, Nat.reduceEqDiff, not_false_eq_true]
  have r2832 : jI (kBegn A 10) 2832 = fun j => if j < 10 then 0 else jI A 2832 j := by unfold kBegn; simp only [mR1, mR2, Nat.reduceEqDiff, not_false_eq_true]
  have r2896 : jI (kBegn A 10) 2896 = fun j => if j < 10 then -1 else jI A 2896 j := by unfold kBegn; simp only [mR1, mR2, Nat.reduceEqDiff, not_false_eq_true]
  have r3024 : jI (kBegn A 10) 3024 = fun j => if j < 10 then 0 else jI A 3024 j := by unfold kBegn; simp only [mR1, mR2, Nat.reduceEqDiff, not_false_eq_true]
  have r3088 : jI (kBegn A 10) 3088 = fun j => if j < 10 then 0 else jI A 3088 j := by unfold kBegn; simp only [mR1, mR2, Nat.reduceEqDiff, not_false_eq_true]
  have r3152 : jI (kBegn A 10) 3152 = fun j => if j < 10 then 0 else jI A 3152 j := by unfold kBegn; simp only [mR1, mR2, Nat.reduceEqDiff, not_false_eq_true]
  have r3216 : jI (kBegn A 10) 3216 = fun j => if j < 10 then 0 else jI A 3216 j := by unfold kBegn; simp only [mR1, mR2, Nat.reduceEqDiff, not_false_eq_true]
  have r3280 : jI (kBegn A 10) 3280 = fun j => if j < 10 then 0 else jI A 3280 j := by unfold kBegn; simp only [mR1, mR2, Nat.reduceEqDiff, not_false_eq_true]
  have s5904 : jI (kBegMs B 10) 5904 = fun j => if j < 10 then 0 else jI B 5904 j := by unfold kBegMs; simp only [mR1, mR2, Nat.reduceEqDiff, not_false_eq_true]
  have s6032 : jI (kBegMs B 10) 6032 = fun j => if j < 10 then 0 else jI B 6032 j := by unfold kBegMs; simp only [mR1, mR2, Nat.reduceEqDiff, not_false_eq_true]
  have s5968 : jI (kBegMs B 10) 5968 = fun j => if j < 10 then 0 else jI B 5968 j := by unfold kBegMs; simp only [mR1, mR2, Nat.reduceEqDiff, not_false_eq_true]
  have s6096 : jI (kBegMs B 10) 6096 = fun j => if j < 10 then 0 else jI B 6096 j := by unfold kBegMs; simp only [mR1, mR2, Nat.reduceEqDiff, not_false_eq_true]
  have s6224 : jI (kBegMs B 10) 6224 = fun j => if j < 10 then -1 else jI B 6224 j := by unfold kBegMs; simp only [mR1, mR2, Nat.reduceEqDiff, not_false_eq_true]
  have s6288 : jI (kBegMs B 10) 6288 = fun j => if j < 10 then 0 else jI B 6288 j := by unfold kBegMs; simp only [mR1, mR2, Nat.reduceEqDiff, not_false_eq_true]
  unfold jRXn
  rw [q0 2, q0 3, q0 16, q1 0, q1 1, q1 7, if_neg (by decide), if_neg (by decide), if_pos rfl, if_neg (by decide), if_neg (by decide), if_pos rfl]
  refine ⟨h1, h2, h3, hm, hm4, rfl, rfl, fun l hl => ?_, fun l hl => ?_, fun l hl => ?_, ⟨fun j hj => absurd hj (by omega), fun i j _ hj => absurd hj (by omega), fun l hl h => ?_⟩, fun l _ hl => ?_⟩
  · rw [r2640, r2704, r2960, r2768, r2832, r3024, r3088, r3152, r3216, r3280, s5904, s6032, s5968, s6096, s6224, s6288]
    unfold kEq
    simp [show l < 10 by omega]
  · have h10 : l < 10 := by omega
    rw [r2640, r2768, r2832, r2896]
    unfold kDg
    simp only [if_pos h10]
    refine ⟨fun _ => ⟨trivial, trivial⟩, (kFind_0 (by omega)).symm, fun h => absurd h (by decide), fun h => absurd h (by decide)⟩
  · have h10 : l < 10 := by omega
    rw [r2640, r2704, r3024]
    simp only [if_pos h10]
    exact Or.inl ⟨trivial, trivial, by decide, by decide, by decide⟩
  · have h10 : l < 10 := by omega
    rw [r2640] at h
    simp only [if_pos h10] at h
    exact absurd h (by decide)
  · rw [r2960, s6096]
    exact ⟨if_pos hl, if_pos hl⟩
theorem te_all (hb : b = kBy (jI A 155) sz) (hWA : jWd A) (hz : jI A 65 1 = iN sz) (h2 : sz ≤ 2000) (h120 : 120 ≤ (jA B).length) (hWB : jWd B) (hT : kTp B b sz) :
    ∃ (e : Nat) (A' B' : jM), e ≤ 7 ∧ (∀ (Q : jO → jM → Prop), (Ex (48 + 101) 26 0 [some (.ref 0), none] [] A Q ↔ Q (.inl (some (.int (iN e)))) A')) ∧ (∀ (Q : jO → jM → Prop), (Ex (48 + 101) 95 0 [some (.ref 4490), none] [] B Q ↔ Q (.inl (some (.int (iN e)))) B')) ∧
      (¬ e = 0 → kEc A A' ∧ kEd B B' ∧ jI A' 65 1 = 0 ∧ jI B' 4490 2 = 0 ∧ jI A' 0 9 = jI B' 4490 3) ∧ (e = 0 → kTaught A B A' B') := by
  obtain ⟨N, hN⟩ := kTN_ex b sz
  cases hq : (kPlan (kTk b sz) (8 * 402) 402 0).1 with
  | true => exact te_pl hb hWA hz h2 hN h120 hWB hT hq
  | false =>
    have hB : ∀ i, i < sz → ∃ v, v < 256 ∧ b i = iN v := by rw [hb]; exact kBy_ok
    obtain ⟨A', a1, a2, a3, a4⟩ := tc_bad hb hWA hz h2 hN hq
    obtain ⟨B', _, b1, b2, b3, b4⟩ := td_bad h120 hWB hT hB hN hq
    exact ⟨1, A', B', by omega, a4, b4, fun _ => ⟨a1, b1, a2, b2, a3.trans b3.symm⟩, fun h => absurd h (by decide)⟩
/-- a run has one end -/
theorem jdet {P : (jO → jM → Prop) → Prop} {o1 o2 : jO} {μ1 μ2 : jM} (h1 : ∀ Q, (P Q ↔ Q o1 μ1)) (h2 : ∀ Q, (P Q ↔ Q o2 μ2)) : o2 = o1 ∧ μ2 = μ1 := (h2 (fun o μ => o = o1 ∧ μ = μ1)).mp ((h1 _).mpr ⟨rfl, rfl⟩)
/-- what the class leaves alone -/
def jFa (μ μ' : jM) : Prop := jWd μ' ∧ (∀ a, 4490 ≤ a ∨ a = 44 ∨ a = 45 → jI μ' a = jI μ a) ∧ (∀ a, 4490 ≤ a → jL μ' a = jL μ a ∧ jQ μ' a = jQ μ a) ∧ jA μ' = jA μ ∧ jX μ' = jX μ
theorem jFa_e (hW : jWd A) (h : kEc A A') : jFa A A' := ⟨jWd_a (fun a n m _ => h.2.1 a n m) hW, fun a ha => h.1 a (by omega), fun a ha => ⟨h.2.2.1 a ha, h.2.1 a (by omega) (by omega)⟩, h.2.2.2.1, h.2.2.2.2⟩
theorem jFa_t (h : kTaught A B A' B') : jFa A A' := by
  obtain ⟨A5, B4, m', n', t', L', K', nh', T', hA', _, _, _, _, _, _, hW5, hf, hg, hA, hX⟩ := h
  have hW6 : jWd A' := by
    rw [hA']
    exact jWd_c mI4 (jWd_c kBegn_q.1 hW5)
  refine ⟨hW6, fun a ha => ?_, fun a ha => ⟨?_, ?_⟩, ?_, ?_⟩
  · rw [hA', mI2 (by omega), kBegn_f (by omega), hf a (by omega)]
  · rw [hA', mI3, kBegn_q.2.1, (hg a ha).1]
  · rw [hA', mI4, kBegn_q.1, (hg a ha).2]
  · rw [hA', mI5, kBegn_q.2.2.1, hA]
  · rw [hA', mI6, kBegn_q.2.2.2, hX]
theorem jTq_0 (h1 : jI μ 65 1 = 0) (h2 : jI μ 4490 2 = 0) : jTq μ 0 := ⟨h1, h2, by omega, fun i hi => absurd hi (by omega), fun i _ => if_neg (by omega)⟩
theorem op_teach (hJ : jJ μ) : ∃ (e : Nat) (μ1 μ2 : jM), e ≤ 7 ∧ jGk μ μ2 ∧ (∀ (Q : jO → jM → Prop), (Ex (48 + 101) 26 0 [some (.ref 0), none] [] μ Q ↔ Q (.inl (some (.int (iN e)))) μ1)) ∧ (∀ (Q : jO → jM → Prop), (Ex (48 + 101) 95 0 [some (.ref 4490), none] [] μ1 Q ↔ Q (.inl (some (.int (iN e)))) μ2)) := by
  have hJ' := hJ
  obtain ⟨h09, ⟨sz, hz, hT⟩, h120, p, m, n, t, L, K, nh, T, w, mk, hR, hX, hp⟩ := hJ
  have hW := hR.1.1
  obtain ⟨e1, A1, B1, _, eA1, _, hne1, heq1⟩ := te_all (A := μ) (B := μ) rfl hW hz hT.2.1 h120 hW hT
  have hF : jFa μ A1 := by
    by_cases h : e1 = 0
    · exact jFa_t (heq1 h)
    · exact jFa_e hW (hne1 h).1
  obtain ⟨hWA, fI, fQ, fA, fX⟩ := hF
  have hTA : kTp A1 (kBy (jI μ 155) sz) sz := by
    unfold kTp at hT ⊢
    rw [fI 4490 (by omega), fI 4567 (by omega)]
    exact hT
  obtain ⟨e, A', B', he7, eA, eB, hne, heq⟩ := te_all (A := μ) (B := A1) rfl hW hz hT.2.1 (by rw [fA]; exact h120) hWA hTA
  obtain ⟨-, rfl⟩ := jdet eA1 eA
  refine ⟨e, A', B', he7, ?_, eA, eB⟩
  by_cases he : e = 0
  · obtain ⟨A5, B4, m', n', t', L', K', nh', T', hA', hB', hRP, hEd, hWB4, h43, h59, hW5, hf, hg, hA, hX5⟩ := heq he
    obtain ⟨d1, d2, d3, d4, d5, d6, d7, d8⟩ := hEd
    have hl : (jA A').length = (jA μ).length := by rw [fA]
    have hW' : jWd (jsQ (jsI B4 4490 2 0) 4490 11 (some (64 * (jA A').length + 11))) := jWd_p (jWd_c rfl hWB4) (Or.inl rfl)
    have hWB' : jWd B' := by rw [hB']; exact jWd_c kBegMs_q.1 hW'
    have cI : ∀ a, a < 4490 → jI B' a = jI A' a := fun a ha => by
      rw [hB', kBegMs_f (by omega), mQ3, mI2 (by omega), d1 a (by omega) (by omega) (by omega) (by omega) (by omega) (by omega) (by omega)]
    have cA : ∀ a, ¬ a = 65 → jI A' a = jI (kBegn A5 10) a := fun a ha => by rw [hA', mI2 ha]
    have c5 : ∀ a, a < 4490 → ¬ a = 65 → (a < 2567 ∨ 3280 < a) → jI B' a = jI A5 a := fun a h1 h2 h3 => by rw [cI a h1, cA a h2, kBegn_f h3]
    have hR' : jRP B' B' (jA A').length m' n' t' L' K' nh' T' := by
      refine jRP_g hRP hWB' ?_ (fun a ha => c5 a (by omega) (by omega) (by omega)) (by rw [c5 2308 (by decide) (by decide) (by decide)]) hWB' ?_ ?_ fun c hc => ?_
      · rw [hB', kBegMs_q.1, mQ2 (by decide), mI4, d3 2400 (by omega) (by decide), hA', mI4, kBegn_q.1]
      · rw [hB', kBegMs_q.1, mQ1, if_pos rfl, mQ1, if_pos rfl]
      · rw [hB', kBegMs_q.1, mQ2 (by omega), mQ2 (by omega), mI4]
      · rw [hB', kBegMs_f (by omega), mQ3, mQ3, mI2 (by omega)]
    have hX' : jRXn B' B' n' 0 mk (jI B' 1936) (jI B' 2000) := by
      have h5 : jI (jsQ (jsI B4 4490 2 0) 4490 11 (some (64 * (jA A').length + 11))) 5836 = jI μ 5836 := by
        rw [mQ3, mI2 (by decide), d1 5836 (by omega) (by decide) (by decide) (by decide) (by decide) (by decide) (by decide), fI 5836 (by omega)]
      have h6 := R_begn (A := A5) (B := jsQ (jsI B4 4490 2 0) 4490 11 (some (64 * (jA A').length + 11))) (n := n') (pn := jI B' 1936) (pd := jI B' 2000) (by rw [hf 2567 (by omega), h5]; exact hX.1) (by rw [hf 2567 (by omega)]; exact hX.2.1) (by rw [h5]; exact hX.2.2.1) hX.2.2.2.1 hX.2.2.2.2.1 hRP.1.2.2.2.2.1
      rw [← hB'] at h6
      exact jRXn_g h6 (fun a h1 h2 => by rw [cI a (by omega), cA a (by omega)]) ⟨rfl, rfl, rfl⟩ fun _ _ _ => rfl
    have hlB : (jA B').length = (jA μ).length + 14 := by rw [hB', kBegMs_q.2.2.1, mQ5, mI5, d6, hl]
    have hxB : jX B' = jX μ := by rw [hB', kBegMs_q.2.2.2, mQ6, mI6, d7, fX]
    have hnB : jns B' ≤ jns μ + 2000 := by
      have e1 : jns B' = jns B4 := jns_e (by rw [hB', kBegMs_q.2.2.1, mQ5, mI5]) (by rw [hB', kBegMs_q.2.2.2, mQ6, mI6])
      have e2 : jns A' = jns μ := jns_e fA fX
      omega
    refine ⟨⟨?_, ⟨0, jTq_0 ?_ ?_⟩, by omega, (jA A').length, m', n', t', L', K', nh', T', 0, mk, hR', hX', by omega⟩, ?_, ?_, ?_, by omega⟩
    · rw [c5 0 (by decide) (by decide) (by decide), h59, hB', kBegMs_f (by decide), mQ3, mI1, if_neg (by decide), h43]
    · rw [cI 65 (by decide), hA', mI1, if_pos rfl]
    · rw [hB', kBegMs_f (by decide), mQ3, mI1, if_pos rfl]
    · rw [cI 44 (by decide), fI 44 (by omega)]
    · rw [cI 45 (by decide), fI 45 (by omega)]
    · unfold jnc
      rw [hlB, hxB]
      omega
  · obtain ⟨hE, hEd, h65, h42, h93⟩ := hne he
    obtain ⟨c1, c2, c3, c4, c5⟩ := hE
    obtain ⟨d1, d2, d3, d4, d5, d6, d7, d8⟩ := hEd
    have hl : (jA A').length = (jA μ).length := by rw [fA]
    have g : ∀ a, a < 64 * (jA μ).length → ¬ a = 4490 → ¬ a = 4633 → ¬ a = 4697 → ¬ a = 4761 → ¬ a = 4825 → ¬ a = 4889 → jI B' a = jI A' a := fun a ha => d1 a (by omega)
    have k : ∀ a, (1731 ≤ a ∧ a < 64 * (jA μ).length ∨ a = 44 ∨ a = 45) → ¬ a = 4490 → ¬ a = 4633 → ¬ a = 4697 → ¬ a = 4761 → ¬ a = 4825 → ¬ a = 4889 → jI B' a = jI μ a := fun a ha n1 n2 n3 n4 n5 n6 => by rw [g a (by omega) n1 n2 n3 n4 n5 n6, c1 a (by omega)]
    have e2 : jns A' = jns μ := jns_e fA fX
    refine ⟨jJ_k hJ' (fun a ha n1 n2 n3 => ?_) (fun j n => ?_) (fun a ha => ?_) ?_ ?_ ⟨?_, ?_, ?_⟩ ⟨0, jTq_0 ?_ h42⟩ (by omega), ?_, ?_, ?_, by omega⟩
    · rw [d3 a (by omega) n3, c2 a n1 n2]
    · rw [d4 j n, c2 4490 (by decide) (by decide)]
    · exact k a (by omega) (by omega) (by omega) (by omega) (by omega) (by omega) (by omega)
    · rw [g 0 (by omega) (by decide) (by decide) (by decide) (by decide) (by decide) (by decide), h93]
    · rw [k 2308 (by omega) (by decide) (by decide) (by decide) (by decide) (by decide) (by decide)]
    · rw [k 5836 (by omega) (by decide) (by decide) (by decide) (by decide) (by decide) (by decide)]
    · rw [k 5836 (by omega) (by decide) (by decide) (by decide) (by decide) (by decide) (by decide)]
    · rw [k 5836 (by omega) (by decide) (by decide) (by decide) (by decide) (by decide) (by decide)]
    · rw [g 65 (by omega) (by decide) (by decide) (by decide) (by decide) (by decide) (by decide), h65]
    · exact k 44 (by omega) (by decide) (by decide) (by decide) (by decide) (by decide) (by decide)
    · exact k 45 (by omega) (by decide) (by decide) (by decide) (by decide) (by decide) (by decide)
    · unfold jnc
      rw [d6, d7, hl, fX]
      omega
end TEC
