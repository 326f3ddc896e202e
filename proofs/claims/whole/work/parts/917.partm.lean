/-! THE PURE PART: parts of a plan (reference). -/
def kCat : List (List (Nat × Nat) × Nat) → List (Nat × Nat)
  | [] => []
  | (T, _) :: r => T ++ kCat r
def kFl : List (List (Nat × Nat) × Nat) → List (Nat × Nat)
  | [] => []
  | (T, t) :: r => T ++ (10, t) :: kFl r
theorem kCat_app : ∀ L M, kCat (L ++ M) = kCat L ++ kCat M
  | [], _ => rfl
  | (T, t) :: r, M => by
    show T ++ kCat (r ++ M) = (T ++ kCat r) ++ kCat M
    rw [kCat_app r M, List.append_assoc]
theorem kFl_app : ∀ L M, kFl (L ++ M) = kFl L ++ kFl M
  | [], _ => rfl
  | (T, t) :: r, M => by
    show T ++ (10, t) :: kFl (r ++ M) = (T ++ (10, t) :: kFl r) ++ kFl M
    rw [kFl_app r M, List.append_assoc]
    rfl
theorem kFl_len : ∀ L, (kCat L).length + L.length = (kFl L).length
  | [] => rfl
  | (T, t) :: r => by
    show (T ++ kCat r).length + (r.length + 1) = (T ++ (10, t) :: kFl r).length
    rw [List.length_append, List.length_append, List.length_cons, ← kFl_len r]
    omega
/-- while the reference reads a plan, its parts and all -/
def jRg (r : Nat) (μ ν : jM) : Prop := (∀ a, ¬ a = 4490 → ¬ a = 4825 → ¬ a = 64 * r + 11 → ¬ a = 64 * r + 659 → ¬ a = 64 * r + 723 → ¬ a = 64 * r + 794 → ¬ a = 64 * r + 856 → jI ν a = jI μ a) ∧ (∀ k, ¬ k = 9 → ¬ k = 10 → jI ν 4490 k = jI μ 4490 k) ∧ (∀ k, ¬ k = 13 → ¬ k = 17 → ¬ k = 19 → jI ν (64 * r + 11) k = jI μ (64 * r + 11) k) ∧ jQ ν = jQ μ ∧ jL ν = jL μ ∧ jA ν = jA μ ∧ jX ν = jX μ
theorem jRg_refl {r : Nat} {μ : jM} : jRg r μ μ := ⟨fun _ _ _ _ _ _ _ _ => rfl, fun _ _ _ => rfl, fun _ _ _ _ => rfl, rfl, rfl, rfl, rfl⟩
theorem jRf_refl {r : Nat} {μ : jM} : jRf r μ μ := ⟨fun _ _ _ _ _ _ => rfl, fun _ _ _ => rfl, fun _ _ _ => rfl, rfl, rfl, rfl, rfl⟩
theorem jRg_trans {r : Nat} {μ ν κ : jM} (h1 : jRg r μ ν) (h2 : jRg r ν κ) : jRg r μ κ := by
  obtain ⟨a1, a2, a3, a4, a5, a6, a7⟩ := h1
  obtain ⟨b1, b2, b3, b4, b5, b6, b7⟩ := h2
  exact ⟨fun a n1 n2 n3 n4 n5 n6 n7 => (b1 a n1 n2 n3 n4 n5 n6 n7).trans (a1 a n1 n2 n3 n4 n5 n6 n7), fun k h1 h2 => (b2 k h1 h2).trans (a2 k h1 h2), fun k h1 h2 h3 => (b3 k h1 h2 h3).trans (a3 k h1 h2 h3), b4.trans a4, b5.trans a5, b6.trans a6, b7.trans a7⟩
theorem jRg_f {r : Nat} {μ ν : jM} (h : jRf r μ ν) : jRg r μ ν := ⟨fun a n1 n2 n3 n4 n5 n6 n7 => h.1 a n1 n2 n3 n6 n7, h.2.1, fun k h1 h2 h3 => h.2.2.1 k h2 h3, h.2.2.2⟩
theorem jRg_I {r : Nat} {μ : jM} {a k : Nat} {v : Int32} (hr : 120 ≤ r) (h : (a = 4490 ∧ (k = 9 ∨ k = 10)) ∨ a = 4825 ∨ (a = 64 * r + 11 ∧ (k = 13 ∨ k = 17 ∨ k = 19)) ∨ a = 64 * r + 659 ∨ a = 64 * r + 723) : jRg r μ (jsI μ a k v) := by
  refine ⟨fun b n1 n2 n3 n4 n5 n6 n7 => mI2 (by omega), fun j h1 h2 => ?_, fun j h1 h2 h3 => ?_, rfl, rfl, rfl, rfl⟩
  · by_cases e : a = 4490
    · rw [e, mI1, if_neg (by omega)]
    · rw [mI2 (by omega)]
  · by_cases e : a = 64 * r + 11
    · rw [e, mI1, if_neg (by omega)]
    · rw [mI2 (by omega)]
section PARTM
variable {μ ν ν0 : jM} {r : Nat} {kd : Nat → Nat} {num : Nat → Int32} {N f sz i D : Nat} {E : List (Nat × Nat)} {b : Nat → Int32} {Ls : List (List (Nat × Nat) × Nat)}
theorem jR0_g (h0 : jR0 μ r kd N b sz) (h : jRg r μ ν) : jR0 ν r kd N b sz := by
  obtain ⟨a1, a2, a3, a4, a5, a6, a7⟩ := h0
  obtain ⟨g1, g2, g3, g4, g5, g6, g7⟩ := h
  obtain ⟨t1, t2, t3, t4⟩ := a6
  refine ⟨jWd_c g4 a1, a2, a3, by rw [g4]; exact a4, by unfold jMq at a5 ⊢; rw [g4]; exact a5, ⟨by rw [g2 2 (by decide) (by decide)]; exact t1, t2, fun j hj => by rw [g1 4567 (by decide) (by decide) (by omega) (by omega) (by omega) (by omega) (by omega)]; exact t3 j hj, t4⟩, fun k hk => ?_⟩
  rw [g1 4633 (by decide) (by decide) (by omega) (by omega) (by omega) (by omega) (by omega), g1 4697 (by decide) (by decide) (by omega) (by omega) (by omega) (by omega) (by omega), g1 4761 (by decide) (by decide) (by omega) (by omega) (by omega) (by omega) (by omega)]
  exact a7 k hk
theorem jRr_self (h : jRr μ ν r kd num N i D E) : jRr ν ν r kd num N i D E := ⟨jRf_refl, h.2⟩
theorem jRr_role {x : Nat} (h : jRr μ ν r kd num N i D E) (hr : 120 ≤ r) (hk : kRole kd i = x) (hi : i < N) : jRr μ (jsI (jsI ν 4825 i (iN x)) 4490 9 (iN (i + 1))) r kd num N (i + 1) D E := by
  obtain ⟨f1, f2, f3, f4, f5, f6, f7, f8, f9⟩ := h
  refine ⟨jRf_I (jRf_L f1) hr (Or.inl rfl), by rw [mI1, if_pos rfl], by rw [mI1, if_neg (by decide), mI2 (by decide)]; exact f3, by rw [mI2 (by omega), mI2 (by omega)]; exact f4, by rw [mI2 (by omega), mI2 (by omega)]; exact f5, by rw [mI2 (by omega), mI2 (by omega)]; exact f6, by rw [mI2 (by omega), mI2 (by omega)]; exact f7, fun t ht => ?_, fun t ht hN => ?_⟩
  · rw [mI2 (by decide), mI1]
    by_cases e : t = i
    · rw [if_pos e, e, hk]
    · rw [if_neg e]
      exact f8 t (by omega)
  · rw [mI2 (by decide), mI1, if_neg (by omega)]
    exact f9 t (by omega) hN
theorem jRr_rz {x : Int32} (h : jRr μ ν r kd num N i D E) : jRz μ (jsI ν 4825 i x) r i := ⟨jRf_L h.1, by rw [mI2 (by decide)]; exact h.2.1⟩
theorem d_pSwitch (h0 : jR0 μ r kd N b sz) (hG : jRr μ ν r kd num N i 0 E) (hk : kd i = 0) (hi : i ≤ N - 1) : ∃ ν', mPost μ r kd num N 0 E (kTks kd [37, 1, 38] (i + 1)) ν' ∧ ∀ (d : Nat) (Q : jO → jM → Prop), (Ex (d + 6) 110 0 [some (.ref 4490)] [] ν Q ↔ Q (.inl (some (.int (bif (kTks kd [37, 1, 38] (i + 1)).1 then 1 else 0)))) ν') := by
  have hT := h0.2.1
  have hr := h0.2.2.1
  have hN1 := hT.1
  have hN2 := hT.2.1
  have hw := jRf_w h0 hG.1
  unfold jWd at hw
  have ht := hG.2.1
  have i1 := kTok_lt hT hi (by omega)
  have hG1 := jRr_take hG hr (kRole_0 (by omega) (by omega) (by omega)) (by omega)
  simp only [kTks]
  have hc1 : ∀ (d : Nat) (Q : jO → jM → Prop), (Ex (d + 5) 111 0 [some (.ref 4490), some (.int 40), some (.int 1)] [] (jsI ν 4490 9 (iN (i + 1))) Q ↔ if kd (i + 1) = 37 then Q (.inl (some (.int 1))) (jsI (jsI (jsI ν 4490 9 (iN (i + 1))) 4825 (i + 1) 1) 4490 9 (iN (i + 1 + 1))) else Q (.inl (some (.int 0))) (jsI (jsI ν 4490 9 (iN (i + 1))) 4825 (i + 1) 1)) := fun d Q => d_eatAs (d := d + 3) (K := 37) (x := 1) h0 hG1.1 hG1.2.1 i1 (by decide)
  by_cases q1 : kd (i + 1) = 37
  · have q1' := eq_true q1
    rw [if_pos q1]
    have i1a := kTok_lt hT i1 (by omega)
    have G1 := jRr_role (x := 1) hG1 hr (by unfold kRole; rw [if_pos q1, Nat.add_sub_cancel, hk]; rfl) (by omega)
    have hc2 : ∀ (d : Nat) (Q : jO → jM → Prop), (Ex (d + 5) 112 0 [some (.ref 4490), some (.int 1)] [] (jsI (jsI (jsI ν 4490 9 (iN (i + 1))) 4825 (i + 1) 1) 4490 9 (iN (i + 1 + 1))) Q ↔ if kd (i + 1 + 1) = 1 then Q (.inl (some (.int 1))) (jsI (jsI (jsI (jsI ν 4490 9 (iN (i + 1))) 4825 (i + 1) 1) 4490 9 (iN (i + 1 + 1))) 4490 9 (iN (i + 1 + 1 + 1))) else Q (.inl (some (.int 0))) (jsI (jsI (jsI ν 4490 9 (iN (i + 1))) 4825 (i + 1) 1) 4490 9 (iN (i + 1 + 1)))) := fun d Q => d_eat (d := d + 4) (K := 1) h0 G1.1 G1.2.1 i1a (by decide)
    by_cases q2 : kd (i + 1 + 1) = 1
    · have q2' := eq_true q2
      rw [if_pos q2]
      have i2a := kTok_lt hT i1a (by omega)
      have G2 := jRr_take G1 hr (kRole_0 (by omega) (by omega) (by omega)) (by omega)
      have hc3 : ∀ (d : Nat) (Q : jO → jM → Prop), (Ex (d + 5) 111 0 [some (.ref 4490), some (.int 41), some (.int 5)] [] (jsI (jsI (jsI (jsI ν 4490 9 (iN (i + 1))) 4825 (i + 1) 1) 4490 9 (iN (i + 1 + 1))) 4490 9 (iN (i + 1 + 1 + 1))) Q ↔ if kd (i + 1 + 1 + 1) = 38 then Q (.inl (some (.int 1))) (jsI (jsI (jsI (jsI (jsI (jsI ν 4490 9 (iN (i + 1))) 4825 (i + 1) 1) 4490 9 (iN (i + 1 + 1))) 4490 9 (iN (i + 1 + 1 + 1))) 4825 (i + 1 + 1 + 1) 5) 4490 9 (iN (i + 1 + 1 + 1 + 1))) else Q (.inl (some (.int 0))) (jsI (jsI (jsI (jsI (jsI ν 4490 9 (iN (i + 1))) 4825 (i + 1) 1) 4490 9 (iN (i + 1 + 1))) 4490 9 (iN (i + 1 + 1 + 1))) 4825 (i + 1 + 1 + 1) 5)) := fun d Q => d_eatAs (d := d + 3) (K := 38) (x := 5) h0 G2.1 G2.2.1 i2a (by decide)
      by_cases q3 : kd (i + 1 + 1 + 1) = 38
      · have q3' := eq_true q3
        rw [if_pos q3]
        have i3a := kTok_lt hT i2a (by omega)
        have G3 := jRr_role (x := 5) G2 hr (by unfold kRole; rw [if_neg (by omega), if_pos q3, Nat.add_sub_cancel, q2]; rfl) (by omega)
        refine ⟨_, mPost_1 (by rw [List.append_nil]; exact G3) (kBef_s (i := i + 1 + 1 + 1) (by omega)), fun d Q => ?_⟩
        simp only [x110_0, x110_1a, x110_1b, x110_2, x110_5, x110_6, x110_7, x110_10, x110_11, x110_13, x110_14, x110_17, x110_20, x110_21, x110_22, x110_25, x110_28, x110_29, x110_31, x110_32, x110_35, x110_38, x110_39, x110_42, x110_43, mzi, mInc, mne, mlt9, mrk, mI1, mI2, mI3, mI4, mL1, mL2, mL3, mL4, mQ1, mQ2, mQ3, mQ4, mT1, mcat0, mcat1, mcat2, mcat3, mcat4, mrf1, jK_v, jK_n, JA, mz1, if_true, if_false, ite_true, ite_false, eq_self, not_false_eq_true, Nat.zero_le, true_and, and_true, and_self, Nat.reduceMod, Nat.reduceAdd, Nat.reduceLeDiff, Nat.reduceEqDiff, Nat.reduceLT, hw, ht, hc1, q1', hc2, q2', hc3, q3', cond_true]
        rfl
      · have q3' := eq_false q3
        rw [if_neg q3]
        refine ⟨_, mPost_z (jRr_rz (x := 5) G2), fun d Q => ?_⟩
        simp only [x110_0, x110_1a, x110_1b, x110_2, x110_5, x110_6, x110_7, x110_10, x110_11, x110_13, x110_14, x110_17, x110_20, x110_21, x110_22, x110_25, x110_28, x110_29, x110_31, x110_32, x110_35, x110_38, x110_39, x110_42, x110_43, mzi, mInc, mne, mlt9, mrk, mI1, mI2, mI3, mI4, mL1, mL2, mL3, mL4, mQ1, mQ2, mQ3, mQ4, mT1, mcat0, mcat1, mcat2, mcat3, mcat4, mrf1, jK_v, jK_n, JA, mz1, if_true, if_false, ite_true, ite_false, eq_self, not_false_eq_true, Nat.zero_le, true_and, and_true, and_self, Nat.reduceMod, Nat.reduceAdd, Nat.reduceLeDiff, Nat.reduceEqDiff, Nat.reduceLT, hw, ht, hc1, q1', hc2, q2', hc3, q3']
        rfl
    · have q2' := eq_false q2
      rw [if_neg q2]
      refine ⟨_, mPost_z (jRr_z G1), fun d Q => ?_⟩
      simp only [x110_0, x110_1a, x110_1b, x110_2, x110_5, x110_6, x110_7, x110_10, x110_11, x110_13, x110_14, x110_17, x110_20, x110_21, x110_22, x110_25, x110_28, x110_29, x110_31, x110_32, x110_35, x110_38, x110_39, x110_42, x110_43, mzi, mInc, mne, mlt9, mrk, mI1, mI2, mI3, mI4, mL1, mL2, mL3, mL4, mQ1, mQ2, mQ3, mQ4, mT1, mcat0, mcat1, mcat2, mcat3, mcat4, mrf1, jK_v, jK_n, JA, mz1, if_true, if_false, ite_true, ite_false, eq_self, not_false_eq_true, Nat.zero_le, true_and, and_true, and_self, Nat.reduceMod, Nat.reduceAdd, Nat.reduceLeDiff, Nat.reduceEqDiff, Nat.reduceLT, hw, ht, hc1, q1', hc2, q2']
      rfl
  · have q1' := eq_false q1
    rw [if_neg q1]
    refine ⟨_, mPost_z (jRr_rz (x := 1) hG1), fun d Q => ?_⟩
    simp only [x110_0, x110_1a, x110_1b, x110_2, x110_5, x110_6, x110_7, x110_10, x110_11, x110_13, x110_14, x110_17, x110_20, x110_21, x110_22, x110_25, x110_28, x110_29, x110_31, x110_32, x110_35, x110_38, x110_39, x110_42, x110_43, mzi, mInc, mne, mlt9, mrk, mI1, mI2, mI3, mI4, mL1, mL2, mL3, mL4, mQ1, mQ2, mQ3, mQ4, mT1, mcat0, mcat1, mcat2, mcat3, mcat4, mrf1, jK_v, jK_n, JA, mz1, if_true, if_false, ite_true, ite_false, eq_self, not_false_eq_true, Nat.zero_le, true_and, and_true, and_self, Nat.reduceMod, Nat.reduceAdd, Nat.reduceLeDiff, Nat.reduceEqDiff, Nat.reduceLT, hw, ht, hc1, q1']
    rfl
theorem d_pLine (h0 : jR0 μ r kd N b sz) (hG : jRr μ ν r kd num N i 0 E) (hk : kd i = 2) (hi : i ≤ N - 1) : ∃ ν', mPost μ r kd num N 0 E (kTks kd [37, 3, 37, 4, 38] (i + 1)) ν' ∧ ∀ (d : Nat) (Q : jO → jM → Prop), (Ex (d + 6) 113 0 [some (.ref 4490)] [] ν Q ↔ Q (.inl (some (.int (bif (kTks kd [37, 3, 37, 4, 38] (i + 1)).1 then 1 else 0)))) ν') := by
  have hT := h0.2.1
  have hr := h0.2.2.1
  have hN1 := hT.1
  have hN2 := hT.2.1
  have hw := jRf_w h0 hG.1
  unfold jWd at hw
  have ht := hG.2.1
  have i1 := kTok_lt hT hi (by omega)
  have hG1 := jRr_take hG hr (kRole_0 (by omega) (by omega) (by omega)) (by omega)
  simp only [kTks]
  have hc1 : ∀ (d : Nat) (Q : jO → jM → Prop), (Ex (d + 5) 111 0 [some (.ref 4490), some (.int 40), some (.int 2)] [] (jsI ν 4490 9 (iN (i + 1))) Q ↔ if kd (i + 1) = 37 then Q (.inl (some (.int 1))) (jsI (jsI (jsI ν 4490 9 (iN (i + 1))) 4825 (i + 1) 2) 4490 9 (iN (i + 1 + 1))) else Q (.inl (some (.int 0))) (jsI (jsI ν 4490 9 (iN (i + 1))) 4825 (i + 1) 2)) := fun d Q => d_eatAs (d := d + 3) (K := 37) (x := 2) h0 hG1.1 hG1.2.1 i1 (by decide)
  by_cases q1 : kd (i + 1) = 37
  · have q1' := eq_true q1
    rw [if_pos q1]
    have i1a := kTok_lt hT i1 (by omega)
    have G1 := jRr_role (x := 2) hG1 hr (by unfold kRole; rw [if_pos q1, Nat.add_sub_cancel, hk]; rfl) (by omega)
    have hc2 : ∀ (d : Nat) (Q : jO → jM → Prop), (Ex (d + 5) 112 0 [some (.ref 4490), some (.int 3)] [] (jsI (jsI (jsI ν 4490 9 (iN (i + 1))) 4825 (i + 1) 2) 4490 9 (iN (i + 1 + 1))) Q ↔ if kd (i + 1 + 1) = 3 then Q (.inl (some (.int 1))) (jsI (jsI (jsI (jsI ν 4490 9 (iN (i + 1))) 4825 (i + 1) 2) 4490 9 (iN (i + 1 + 1))) 4490 9 (iN (i + 1 + 1 + 1))) else Q (.inl (some (.int 0))) (jsI (jsI (jsI ν 4490 9 (iN (i + 1))) 4825 (i + 1) 2) 4490 9 (iN (i + 1 + 1)))) := fun d Q => d_eat (d := d + 4) (K := 3) h0 G1.1 G1.2.1 i1a (by decide)
    by_cases q2 : kd (i + 1 + 1) = 3
    · have q2' := eq_true q2
      rw [if_pos q2]
      have i2a := kTok_lt hT i1a (by omega)
      have G2 := jRr_take G1 hr (kRole_0 (by omega) (by omega) (by omega)) (by omega)
      have hc3 : ∀ (d : Nat) (Q : jO → jM → Prop), (Ex (d + 5) 111 0 [some (.ref 4490), some (.int 40), some (.int 9)] [] (jsI (jsI (jsI (jsI ν 4490 9 (iN (i + 1))) 4825 (i + 1) 2) 4490 9 (iN (i + 1 + 1))) 4490 9 (iN (i + 1 + 1 + 1))) Q ↔ if kd (i + 1 + 1 + 1) = 37 then Q (.inl (some (.int 1))) (jsI (jsI (jsI (jsI (jsI (jsI ν 4490 9 (iN (i + 1))) 4825 (i + 1) 2) 4490 9 (iN (i + 1 + 1))) 4490 9 (iN (i + 1 + 1 + 1))) 4825 (i + 1 + 1 + 1) 9) 4490 9 (iN (i + 1 + 1 + 1 + 1))) else Q (.inl (some (.int 0))) (jsI (jsI (jsI (jsI (jsI ν 4490 9 (iN (i + 1))) 4825 (i + 1) 2) 4490 9 (iN (i + 1 + 1))) 4490 9 (iN (i + 1 + 1 + 1))) 4825 (i + 1 + 1 + 1) 9)) := fun d Q => d_eatAs (d := d + 3) (K := 37) (x := 9) h0 G2.1 G2.2.1 i2a (by decide)
      by_cases q3 : kd (i + 1 + 1 + 1) = 37
      · have q3' := eq_true q3
        rw [if_pos q3]
        have i3a := kTok_lt hT i2a (by omega)
        have G3 := jRr_role (x := 9) G2 hr (by unfold kRole; rw [if_pos q3, Nat.add_sub_cancel, q2]; rfl) (by omega)
        have hc4 : ∀ (d : Nat) (Q : jO → jM → Prop), (Ex (d + 5) 112 0 [some (.ref 4490), some (.int 4)] [] (jsI (jsI (jsI (jsI (jsI (jsI ν 4490 9 (iN (i + 1))) 4825 (i + 1) 2) 4490 9 (iN (i + 1 + 1))) 4490 9 (iN (i + 1 + 1 + 1))) 4825 (i + 1 + 1 + 1) 9) 4490 9 (iN (i + 1 + 1 + 1 + 1))) Q ↔ if kd (i + 1 + 1 + 1 + 1) = 4 then Q (.inl (some (.int 1))) (jsI (jsI (jsI (jsI (jsI (jsI (jsI ν 4490 9 (iN (i + 1))) 4825 (i + 1) 2) 4490 9 (iN (i + 1 + 1))) 4490 9 (iN (i + 1 + 1 + 1))) 4825 (i + 1 + 1 + 1) 9) 4490 9 (iN (i + 1 + 1 + 1 + 1))) 4490 9 (iN (i + 1 + 1 + 1 + 1 + 1))) else Q (.inl (some (.int 0))) (jsI (jsI (jsI (jsI (jsI (jsI ν 4490 9 (iN (i + 1))) 4825 (i + 1) 2) 4490 9 (iN (i + 1 + 1))) 4490 9 (iN (i + 1 + 1 + 1))) 4825 (i + 1 + 1 + 1) 9) 4490 9 (iN (i + 1 + 1 + 1 + 1)))) := fun d Q => d_eat (d := d + 4) (K := 4) h0 G3.1 G3.2.1 i3a (by decide)
        by_cases q4 : kd (i + 1 + 1 + 1 + 1) = 4
        · have q4' := eq_true q4
          rw [if_pos q4]
          have i4a := kTok_lt hT i3a (by omega)
          have G4 := jRr_take G3 hr (kRole_0 (by omega) (by omega) (by omega)) (by omega)
          have hc5 : ∀ (d : Nat) (Q : jO → jM → Prop), (Ex (d + 5) 111 0 [some (.ref 4490), some (.int 41), some (.int 6)] [] (jsI (jsI (jsI (jsI (jsI (jsI (jsI ν 4490 9 (iN (i + 1))) 4825 (i + 1) 2) 4490 9 (iN (i + 1 + 1))) 4490 9 (iN (i + 1 + 1 + 1))) 4825 (i + 1 + 1 + 1) 9) 4490 9 (iN (i + 1 + 1 + 1 + 1))) 4490 9 (iN (i + 1 + 1 + 1 + 1 + 1))) Q ↔ if kd (i + 1 + 1 + 1 + 1 + 1) = 38 then Q (.inl (some (.int 1))) (jsI (jsI (jsI (jsI (jsI (jsI (jsI (jsI (jsI ν 4490 9 (iN (i + 1))) 4825 (i + 1) 2) 4490 9 (iN (i + 1 + 1))) 4490 9 (iN (i + 1 + 1 + 1))) 4825 (i + 1 + 1 + 1) 9) 4490 9 (iN (i + 1 + 1 + 1 + 1))) 4490 9 (iN (i + 1 + 1 + 1 + 1 + 1))) 4825 (i + 1 + 1 + 1 + 1 + 1) 6) 4490 9 (iN (i + 1 + 1 + 1 + 1 + 1 + 1))) else Q (.inl (some (.int 0))) (jsI (jsI (jsI (jsI (jsI (jsI (jsI (jsI ν 4490 9 (iN (i + 1))) 4825 (i + 1) 2) 4490 9 (iN (i + 1 + 1))) 4490 9 (iN (i + 1 + 1 + 1))) 4825 (i + 1 + 1 + 1) 9) 4490 9 (iN (i + 1 + 1 + 1 + 1))) 4490 9 (iN (i + 1 + 1 + 1 + 1 + 1))) 4825 (i + 1 + 1 + 1 + 1 + 1) 6)) := fun d Q => d_eatAs (d := d + 3) (K := 38) (x := 6) h0 G4.1 G4.2.1 i4a (by decide)
          by_cases q5 : kd (i + 1 + 1 + 1 + 1 + 1) = 38
          · have q5' := eq_true q5
            rw [if_pos q5]
            have i5a := kTok_lt hT i4a (by omega)
            have G5 := jRr_role (x := 6) G4 hr (by unfold kRole; rw [if_neg (by omega), if_pos q5, Nat.add_sub_cancel, q4]; rfl) (by omega)
            refine ⟨_, mPost_1 (by rw [List.append_nil]; exact G5) (kBef_s (i := i + 1 + 1 + 1 + 1 + 1) (by omega)), fun d Q => ?_⟩
            simp only [x113_0, x113_1a, x113_1b, x113_2, x113_5, x113_6, x113_7, x113_10, x113_11, x113_13, x113_14, x113_17, x113_20, x113_21, x113_22, x113_25, x113_28, x113_29, x113_31, x113_33, x113_36, x113_39, x113_40, x113_41, x113_44, x113_47, x113_48, x113_50, x113_52, x113_55, x113_58, x113_59, x113_62, x113_63, mzi, mInc, mne, mlt9, mrk, mI1, mI2, mI3, mI4, mL1, mL2, mL3, mL4, mQ1, mQ2, mQ3, mQ4, mT1, mcat0, mcat1, mcat2, mcat3, mcat4, mrf1, jK_v, jK_n, JA, mz1, if_true, if_false, ite_true, ite_false, eq_self, not_false_eq_true, Nat.zero_le, true_and, and_true, and_self, Nat.reduceMod, Nat.reduceAdd, Nat.reduceLeDiff, Nat.reduceEqDiff, Nat.reduceLT, hw, ht, hc1, q1', hc2, q2', hc3, q3', hc4, q4', hc5, q5', cond_true]
            rfl
          · have q5' := eq_false q5
            rw [if_neg q5]
            refine ⟨_, mPost_z (jRr_rz (x := 6) G4), fun d Q => ?_⟩
            simp only [x113_0, x113_1a, x113_1b, x113_2, x113_5, x113_6, x113_7, x113_10, x113_11, x113_13, x113_14, x113_17, x113_20, x113_21, x113_22, x113_25, x113_28, x113_29, x113_31, x113_33, x113_36, x113_39, x113_40, x113_41, x113_44, x113_47, x113_48, x113_50, x113_52, x113_55, x113_58, x113_59, x113_62, x113_63, mzi, mInc, mne, mlt9, mrk, mI1, mI2, mI3, mI4, mL1, mL2, mL3, mL4, mQ1, mQ2, mQ3, mQ4, mT1, mcat0, mcat1, mcat2, mcat3, mcat4, mrf1, jK_v, jK_n, JA, mz1, if_true, if_false, ite_true, ite_false, eq_self, not_false_eq_true, Nat.zero_le, true_and, and_true, and_self, Nat.reduceMod, Nat.reduceAdd, Nat.reduceLeDiff, Nat.reduceEqDiff, Nat.reduceLT, hw, ht, hc1, q1', hc2, q2', hc3, q3', hc4, q4', hc5, q5']
            rfl
        · have q4' := eq_false q4
          rw [if_neg q4]
          refine ⟨_, mPost_z (jRr_z G3), fun d Q => ?_⟩
          simp only [x113_0, x113_1a, x113_1b, x113_2, x113_5, x113_6, x113_7, x113_10, x113_11, x113_13, x113_14, x113_17, x113_20, x113_21, x113_22, x113_25, x113_28, x113_29, x113_31, x113_33, x113_36, x113_39, x113_40, x113_41, x113_44, x113_47, x113_48, x113_50, x113_52, x113_55, x113_58, x113_59, x113_62, x113_63, mzi, mInc, mne, mlt9, mrk, mI1, mI2, mI3, mI4, mL1, mL2, mL3, mL4, mQ1, mQ2, mQ3, mQ4, mT1, mcat0, mcat1, mcat2, mcat3, mcat4, mrf1, jK_v, jK_n, JA, mz1, if_true, if_false, ite_true, ite_false, eq_self, not_false_eq_true, Nat.zero_le, true_and, and_true, and_self, Nat.reduceMod, Nat.reduceAdd, Nat.reduceLeDiff, Nat.reduceEqDiff, Nat.reduceLT, hw, ht, hc1, q1', hc2, q2', hc3, q3', hc4, q4']
          rfl
      · have q3' := eq_false q3
        rw [if_neg q3]
        refine ⟨_, mPost_z (jRr_rz (x := 9) G2), fun d Q => ?_⟩
        simp only [x113_0, x113_1a, x113_1b, x113_2, x113_5, x113_6, x113_7, x113_10, x113_11, x113_13, x113_14, x113_17, x113_20, x113_21, x113_22, x113_25, x113_28, x113_29, x113_31, x113_33, x113_36, x113_39, x113_40, x113_41, x113_44, x113_47, x113_48, x113_50, x113_52, x113_55, x113_58, x113_59, x113_62, x113_63, mzi, mInc, mne, mlt9, mrk, mI1, mI2, mI3, mI4, mL1, mL2, mL3, mL4, mQ1, mQ2, mQ3, mQ4, mT1, mcat0, mcat1, mcat2, mcat3, mcat4, mrf1, jK_v, jK_n, JA, mz1, if_true, if_false, ite_true, ite_false, eq_self, not_false_eq_true, Nat.zero_le, true_and, and_true, and_self, Nat.reduceMod, Nat.reduceAdd, Nat.reduceLeDiff, Nat.reduceEqDiff, Nat.reduceLT, hw, ht, hc1, q1', hc2, q2', hc3, q3']
        rfl
    · have q2' := eq_false q2
      rw [if_neg q2]
      refine ⟨_, mPost_z (jRr_z G1), fun d Q => ?_⟩
      simp only [x113_0, x113_1a, x113_1b, x113_2, x113_5, x113_6, x113_7, x113_10, x113_11, x113_13, x113_14, x113_17, x113_20, x113_21, x113_22, x113_25, x113_28, x113_29, x113_31, x113_33, x113_36, x113_39, x113_40, x113_41, x113_44, x113_47, x113_48, x113_50, x113_52, x113_55, x113_58, x113_59, x113_62, x113_63, mzi, mInc, mne, mlt9, mrk, mI1, mI2, mI3, mI4, mL1, mL2, mL3, mL4, mQ1, mQ2, mQ3, mQ4, mT1, mcat0, mcat1, mcat2, mcat3, mcat4, mrf1, jK_v, jK_n, JA, mz1, if_true, if_false, ite_true, ite_false, eq_self, not_false_eq_true, Nat.zero_le, true_and, and_true, and_self, Nat.reduceMod, Nat.reduceAdd, Nat.reduceLeDiff, Nat.reduceEqDiff, Nat.reduceLT, hw, ht, hc1, q1', hc2, q2']
      rfl
  · have q1' := eq_false q1
    rw [if_neg q1]
    refine ⟨_, mPost_z (jRr_rz (x := 2) hG1), fun d Q => ?_⟩
    simp only [x113_0, x113_1a, x113_1b, x113_2, x113_5, x113_6, x113_7, x113_10, x113_11, x113_13, x113_14, x113_17, x113_20, x113_21, x113_22, x113_25, x113_28, x113_29, x113_31, x113_33, x113_36, x113_39, x113_40, x113_41, x113_44, x113_47, x113_48, x113_50, x113_52, x113_55, x113_58, x113_59, x113_62, x113_63, mzi, mInc, mne, mlt9, mrk, mI1, mI2, mI3, mI4, mL1, mL2, mL3, mL4, mQ1, mQ2, mQ3, mQ4, mT1, mcat0, mcat1, mcat2, mcat3, mcat4, mrf1, jK_v, jK_n, JA, mz1, if_true, if_false, ite_true, ite_false, eq_self, not_false_eq_true, Nat.zero_le, true_and, and_true, and_self, Nat.reduceMod, Nat.reduceAdd, Nat.reduceLeDiff, Nat.reduceEqDiff, Nat.reduceLT, hw, ht, hc1, q1']
    rfl
theorem d_pTrunk (h0 : jR0 μ r kd N b sz) (hG : jRr μ ν r kd num N i 0 E) (hk : kd i = 5) (hi : i ≤ N - 1) : ∃ ν', mPost μ r kd num N 0 E (kTks kd [37, 6, 37, 7, 37, 8, 38, 9, 38] (i + 1)) ν' ∧ ∀ (d : Nat) (Q : jO → jM → Prop), (Ex (d + 6) 114 0 [some (.ref 4490)] [] ν Q ↔ Q (.inl (some (.int (bif (kTks kd [37, 6, 37, 7, 37, 8, 38, 9, 38] (i + 1)).1 then 1 else 0)))) ν') := by
  have hT := h0.2.1
  have hr := h0.2.2.1
  have hN1 := hT.1
  have hN2 := hT.2.1
  have hw := jRf_w h0 hG.1
  unfold jWd at hw
  have ht := hG.2.1
  have i1 := kTok_lt hT hi (by omega)
  have hG1 := jRr_take hG hr (kRole_0 (by omega) (by omega) (by omega)) (by omega)
  simp only [kTks]
  have hc1 : ∀ (d : Nat) (Q : jO → jM → Prop), (Ex (d + 5) 111 0 [some (.ref 4490), some (.int 40), some (.int 3)] [] (jsI ν 4490 9 (iN (i + 1))) Q ↔ if kd (i + 1) = 37 then Q (.inl (some (.int 1))) (jsI (jsI (jsI ν 4490 9 (iN (i + 1))) 4825 (i + 1) 3) 4490 9 (iN (i + 1 + 1))) else Q (.inl (some (.int 0))) (jsI (jsI ν 4490 9 (iN (i + 1))) 4825 (i + 1) 3)) := fun d Q => d_eatAs (d := d + 3) (K := 37) (x := 3) h0 hG1.1 hG1.2.1 i1 (by decide)
  by_cases q1 : kd (i + 1) = 37
  · have q1' := eq_true q1
    rw [if_pos q1]
    have i1a := kTok_lt hT i1 (by omega)
    have G1 := jRr_role (x := 3) hG1 hr (by unfold kRole; rw [if_pos q1, Nat.add_sub_cancel, hk]; rfl) (by omega)
    have hc2 : ∀ (d : Nat) (Q : jO → jM → Prop), (Ex (d + 5) 112 0 [some (.ref 4490), some (.int 6)] [] (jsI (jsI (jsI ν 4490 9 (iN (i + 1))) 4825 (i + 1) 3) 4490 9 (iN (i + 1 + 1))) Q ↔ if kd (i + 1 + 1) = 6 then Q (.inl (some (.int 1))) (jsI (jsI (jsI (jsI ν 4490 9 (iN (i + 1))) 4825 (i + 1) 3) 4490 9 (iN (i + 1 + 1))) 4490 9 (iN (i + 1 + 1 + 1))) else Q (.inl (some (.int 0))) (jsI (jsI (jsI ν 4490 9 (iN (i + 1))) 4825 (i + 1) 3) 4490 9 (iN (i + 1 + 1)))) := fun d Q => d_eat (d := d + 4) (K := 6) h0 G1.1 G1.2.1 i1a (by decide)
    by_cases q2 : kd (i + 1 + 1) = 6
    · have q2' := eq_true q2
      rw [if_pos q2]
      have i2a := kTok_lt hT i1a (by omega)
      have G2 := jRr_take G1 hr (kRole_0 (by omega) (by omega) (by omega)) (by omega)
      have hc3 : ∀ (d : Nat) (Q : jO → jM → Prop), (Ex (d + 5) 111 0 [some (.ref 4490), some (.int 40), some (.int 10)] [] (jsI (jsI (jsI (jsI ν 4490 9 (iN (i + 1))) 4825 (i + 1) 3) 4490 9 (iN (i + 1 + 1))) 4490 9 (iN (i + 1 + 1 + 1))) Q ↔ if kd (i + 1 + 1 + 1) = 37 then Q (.inl (some (.int 1))) (jsI (jsI (jsI (jsI (jsI (jsI ν 4490 9 (iN (i + 1))) 4825 (i + 1) 3) 4490 9 (iN (i + 1 + 1))) 4490 9 (iN (i + 1 + 1 + 1))) 4825 (i + 1 + 1 + 1) 10) 4490 9 (iN (i + 1 + 1 + 1 + 1))) else Q (.inl (some (.int 0))) (jsI (jsI (jsI (jsI (jsI ν 4490 9 (iN (i + 1))) 4825 (i + 1) 3) 4490 9 (iN (i + 1 + 1))) 4490 9 (iN (i + 1 + 1 + 1))) 4825 (i + 1 + 1 + 1) 10)) := fun d Q => d_eatAs (d := d + 3) (K := 37) (x := 10) h0 G2.1 G2.2.1 i2a (by decide)
      by_cases q3 : kd (i + 1 + 1 + 1) = 37
      · have q3' := eq_true q3
        rw [if_pos q3]
        have i3a := kTok_lt hT i2a (by omega)
        have G3 := jRr_role (x := 10) G2 hr (by unfold kRole; rw [if_pos q3, Nat.add_sub_cancel, q2]; rfl) (by omega)
        have hc4 : ∀ (d : Nat) (Q : jO → jM → Prop), (Ex (d + 5) 112 0 [some (.ref 4490), some (.int 7)] [] (jsI (jsI (jsI (jsI (jsI (jsI ν 4490 9 (iN (i + 1))) 4825 (i + 1) 3) 4490 9 (iN (i + 1 + 1))) 4490 9 (iN (i + 1 + 1 + 1))) 4825 (i + 1 + 1 + 1) 10) 4490 9 (iN (i + 1 + 1 + 1 + 1))) Q ↔ if kd (i + 1 + 1 + 1 + 1) = 7 then Q (.inl (some (.int 1))) (jsI (jsI (jsI (jsI (jsI (jsI (jsI ν 4490 9 (iN (i + 1))) 4825 (i + 1) 3) 4490 9 (iN (i + 1 + 1))) 4490 9 (iN (i + 1 + 1 + 1))) 4825 (i + 1 + 1 + 1) 10) 4490 9 (iN (i + 1 + 1 + 1 + 1))) 4490 9 (iN (i + 1 + 1 + 1 + 1 + 1))) else Q (.inl (some (.int 0))) (jsI (jsI (jsI (jsI (jsI (jsI ν 4490 9 (iN (i + 1))) 4825 (i + 1) 3) 4490 9 (iN (i + 1 + 1))) 4490 9 (iN (i + 1 + 1 + 1))) 4825 (i + 1 + 1 + 1) 10) 4490 9 (iN (i + 1 + 1 + 1 + 1)))) := fun d Q => d_eat (d := d + 4) (K := 7) h0 G3.1 G3.2.1 i3a (by decide)
        by_cases q4 : kd (i + 1 + 1 + 1 + 1) = 7
        · have q4' := eq_true q4
          rw [if_pos q4]
          have i4a := kTok_lt hT i3a (by omega)
          have G4 := jRr_take G3 hr (kRole_0 (by omega) (by omega) (by omega)) (by omega)
          have hc5 : ∀ (d : Nat) (Q : jO → jM → Prop), (Ex (d + 5) 111 0 [some (.ref 4490), some (.int 40), some (.int 11)] [] (jsI (jsI (jsI (jsI (jsI (jsI (jsI ν 4490 9 (iN (i + 1))) 4825 (i + 1) 3) 4490 9 (iN (i + 1 + 1))) 4490 9 (iN (i + 1 + 1 + 1))) 4825 (i + 1 + 1 + 1) 10) 4490 9 (iN (i + 1 + 1 + 1 + 1))) 4490 9 (iN (i + 1 + 1 + 1 + 1 + 1))) Q ↔ if kd (i + 1 + 1 + 1 + 1 + 1) = 37 then Q (.inl (some (.int 1))) (jsI (jsI (jsI (jsI (jsI (jsI (jsI (jsI (jsI ν 4490 9 (iN (i + 1))) 4825 (i + 1) 3) 4490 9 (iN (i + 1 + 1))) 4490 9 (iN (i + 1 + 1 + 1))) 4825 (i + 1 + 1 + 1) 10) 4490 9 (iN (i + 1 + 1 + 1 + 1))) 4490 9 (iN (i + 1 + 1 + 1 + 1 + 1))) 4825 (i + 1 + 1 + 1 + 1 + 1) 11) 4490 9 (iN (i + 1 + 1 + 1 + 1 + 1 + 1))) else Q (.inl (some (.int 0))) (jsI (jsI (jsI (jsI (jsI (jsI (jsI (jsI ν 4490 9 (iN (i + 1))) 4825 (i + 1) 3) 4490 9 (iN (i + 1 + 1))) 4490 9 (iN (i + 1 + 1 + 1))) 4825 (i + 1 + 1 + 1) 10) 4490 9 (iN (i + 1 + 1 + 1 + 1))) 4490 9 (iN (i + 1 + 1 + 1 + 1 + 1))) 4825 (i + 1 + 1 + 1 + 1 + 1) 11)) := fun d Q => d_eatAs (d := d + 3) (K := 37) (x := 11) h0 G4.1 G4.2.1 i4a (by decide)
          by_cases q5 : kd (i + 1 + 1 + 1 + 1 + 1) = 37
          · have q5' := eq_true q5
            rw [if_pos q5]
            have i5a := kTok_lt hT i4a (by omega)
            have G5 := jRr_role (x := 11) G4 hr (by unfold kRole; rw [if_pos q5, Nat.add_sub_cancel, q4]; rfl) (by omega)
            have hc6 : ∀ (d : Nat) (Q : jO → jM → Prop), (Ex (d + 5) 112 0 [some (.ref 4490), some (.int 8)] [] (jsI (jsI (jsI (jsI (jsI (jsI (jsI (jsI (jsI ν 4490 9 (iN (i + 1))) 4825 (i + 1) 3) 4490 9 (iN (i + 1 + 1))) 4490 9 (iN (i + 1 + 1 + 1))) 4825 (i + 1 + 1 + 1) 10) 4490 9 (iN (i + 1 + 1 + 1 + 1))) 4490 9 (iN (i + 1 + 1 + 1 + 1 + 1))) 4825 (i + 1 + 1 + 1 + 1 + 1) 11) 4490 9 (iN (i + 1 + 1 + 1 + 1 + 1 + 1))) Q ↔ if kd (i + 1 + 1 + 1 + 1 + 1 + 1) = 8 then Q (.inl (some (.int 1))) (jsI (jsI (jsI (jsI (jsI (jsI (jsI (jsI (jsI (jsI ν 4490 9 (iN (i + 1))) 4825 (i + 1) 3) 4490 9 (iN (i + 1 + 1))) 4490 9 (iN (i + 1 + 1 + 1))) 4825 (i + 1 + 1 + 1) 10) 4490 9 (iN (i + 1 + 1 + 1 + 1))) 4490 9 (iN (i + 1 + 1 + 1 + 1 + 1))) 4825 (i + 1 + 1 + 1 + 1 + 1) 11) 4490 9 (iN (i + 1 + 1 + 1 + 1 + 1 + 1))) 4490 9 (iN (i + 1 + 1 + 1 + 1 + 1 + 1 + 1))) else Q (.inl (some (.int 0))) (jsI (jsI (jsI (jsI (jsI (jsI (jsI (jsI (jsI ν 4490 9 (iN (i + 1))) 4825 (i + 1) 3) 4490 9 (iN (i + 1 + 1))) 4490 9 (iN (i + 1 + 1 + 1))) 4825 (i + 1 + 1 + 1) 10) 4490 9 (iN (i + 1 + 1 + 1 + 1))) 4490 9 (iN (i + 1 + 1 + 1 + 1 + 1))) 4825 (i + 1 + 1 + 1 + 1 + 1) 11) 4490 9 (iN (i + 1 + 1 + 1 + 1 + 1 + 1)))) := fun d Q => d_eat (d := d + 4) (K := 8) h0 G5.1 G5.2.1 i5a (by decide)
            by_cases q6 : kd (i + 1 + 1 + 1 + 1 + 1 + 1) = 8
            · have q6' := eq_true q6
              rw [if_pos q6]
              have i6a := kTok_lt hT i5a (by omega)
              have G6 := jRr_take G5 hr (kRole_0 (by omega) (by omega) (by omega)) (by omega)
              have hc7 : ∀ (d : Nat) (Q : jO → jM → Prop), (Ex (d + 5) 111 0 [some (.ref 4490), some (.int 41), some (.int 7)] [] (jsI (jsI (jsI (jsI (jsI (jsI (jsI (jsI (jsI (jsI ν 4490 9 (iN (i + 1))) 4825 (i + 1) 3) 4490 9 (iN (i + 1 + 1))) 4490 9 (iN (i + 1 + 1 + 1))) 4825 (i + 1 + 1 + 1) 10) 4490 9 (iN (i + 1 + 1 + 1 + 1))) 4490 9 (iN (i + 1 + 1 + 1 + 1 + 1))) 4825 (i + 1 + 1 + 1 + 1 + 1) 11) 4490 9 (iN (i + 1 + 1 + 1 + 1 + 1 + 1))) 4490 9 (iN (i + 1 + 1 + 1 + 1 + 1 + 1 + 1))) Q ↔ if kd (i + 1 + 1 + 1 + 1 + 1 + 1 + 1) = 38 then Q (.inl (some (.int 1))) (jsI (jsI (jsI (jsI (jsI (jsI (jsI (jsI (jsI (jsI (jsI (jsI ν 4490 9 (iN (i + 1))) 4825 (i + 1) 3) 4490 9 (iN (i + 1 + 1))) 4490 9 (iN (i + 1 + 1 + 1))) 4825 (i + 1 + 1 + 1) 10) 4490 9 (iN (i + 1 + 1 + 1 + 1))) 4490 9 (iN (i + 1 + 1 + 1 + 1 + 1))) 4825 (i + 1 + 1 + 1 + 1 + 1) 11) 4490 9 (iN (i + 1 + 1 + 1 + 1 + 1 + 1))) 4490 9 (iN (i + 1 + 1 + 1 + 1 + 1 + 1 + 1))) 4825 (i + 1 + 1 + 1 + 1 + 1 + 1 + 1) 7) 4490 9 (iN (i + 1 + 1 + 1 + 1 + 1 + 1 + 1 + 1))) else Q (.inl (some (.int 0))) (jsI (jsI (jsI (jsI (jsI (jsI (jsI (jsI (jsI (jsI (jsI ν 4490 9 (iN (i + 1))) 4825 (i + 1) 3) 4490 9 (iN (i + 1 + 1))) 4490 9 (iN (i + 1 + 1 + 1))) 4825 (i + 1 + 1 + 1) 10) 4490 9 (iN (i + 1 + 1 + 1 + 1))) 4490 9 (iN (i + 1 + 1 + 1 + 1 + 1))) 4825 (i + 1 + 1 + 1 + 1 + 1) 11) 4490 9 (iN (i + 1 + 1 + 1 + 1 + 1 + 1))) 4490 9 (iN (i + 1 + 1 + 1 + 1 + 1 + 1 + 1))) 4825 (i + 1 + 1 + 1 + 1 + 1 + 1 + 1) 7)) := fun d Q => d_eatAs (d := d + 3) (K := 38) (x := 7) h0 G6.1 G6.2.1 i6a (by decide)
              by_cases q7 : kd (i + 1 + 1 + 1 + 1 + 1 + 1 + 1) = 38
              · have q7' := eq_true q7
                rw [if_pos q7]
                have i7a := kTok_lt hT i6a (by omega)
                have G7 := jRr_role (x := 7) G6 hr (by unfold kRole; rw [if_neg (by omega), if_pos q7, Nat.add_sub_cancel, q6]; rfl) (by omega)
                have hc8 : ∀ (d : Nat) (Q : jO → jM → Prop), (Ex (d + 5) 112 0 [some (.ref 4490), some (.int 9)] [] (jsI (jsI (jsI (jsI (jsI (jsI (jsI (jsI (jsI (jsI (jsI (jsI ν 4490 9 (iN (i + 1))) 4825 (i + 1) 3) 4490 9 (iN (i + 1 + 1))) 4490 9 (iN (i + 1 + 1 + 1))) 4825 (i + 1 + 1 + 1) 10) 4490 9 (iN (i + 1 + 1 + 1 + 1))) 4490 9 (iN (i + 1 + 1 + 1 + 1 + 1))) 4825 (i + 1 + 1 + 1 + 1 + 1) 11) 4490 9 (iN (i + 1 + 1 + 1 + 1 + 1 + 1))) 4490 9 (iN (i + 1 + 1 + 1 + 1 + 1 + 1 + 1))) 4825 (i + 1 + 1 + 1 + 1 + 1 + 1 + 1) 7) 4490 9 (iN (i + 1 + 1 + 1 + 1 + 1 + 1 + 1 + 1))) Q ↔ if kd (i + 1 + 1 + 1 + 1 + 1 + 1 + 1 + 1) = 9 then Q (.inl (some (.int 1))) (jsI (jsI (jsI (jsI (jsI (jsI (jsI (jsI (jsI (jsI (jsI (jsI (jsI ν 4490 9 (iN (i + 1))) 4825 (i + 1) 3) 4490 9 (iN (i + 1 + 1))) 4490 9 (iN (i + 1 + 1 + 1))) 4825 (i + 1 + 1 + 1) 10) 4490 9 (iN (i + 1 + 1 + 1 + 1))) 4490 9 (iN (i + 1 + 1 + 1 + 1 + 1))) 4825 (i + 1 + 1 + 1 + 1 + 1) 11) 4490 9 (iN (i + 1 + 1 + 1 + 1 + 1 + 1))) 4490 9 (iN (i + 1 + 1 + 1 + 1 + 1 + 1 + 1))) 4825 (i + 1 + 1 + 1 + 1 + 1 + 1 + 1) 7) 4490 9 (iN (i + 1 + 1 + 1 + 1 + 1 + 1 + 1 + 1))) 4490 9 (iN (i + 1 + 1 + 1 + 1 + 1 + 1 + 1 + 1 + 1))) else Q (.inl (some (.int 0))) (jsI (jsI (jsI (jsI (jsI (jsI (jsI (jsI (jsI (jsI (jsI (jsI ν 4490 9 (iN (i + 1))) 4825 (i + 1) 3) 4490 9 (iN (i + 1 + 1))) 4490 9 (iN (i + 1 + 1 + 1))) 4825 (i + 1 + 1 + 1) 10) 4490 9 (iN (i + 1 + 1 + 1 + 1))) 4490 9 (iN (i + 1 + 1 + 1 + 1 + 1))) 4825 (i + 1 + 1 + 1 + 1 + 1) 11) 4490 9 (iN (i + 1 + 1 + 1 + 1 + 1 + 1))) 4490 9 (iN (i + 1 + 1 + 1 + 1 + 1 + 1 + 1))) 4825 (i + 1 + 1 + 1 + 1 + 1 + 1 + 1) 7) 4490 9 (iN (i + 1 + 1 + 1 + 1 + 1 + 1 + 1 + 1)))) := fun d Q => d_eat (d := d + 4) (K := 9) h0 G7.1 G7.2.1 i7a (by decide)
                by_cases q8 : kd (i + 1 + 1 + 1 + 1 + 1 + 1 + 1 + 1) = 9
                · have q8' := eq_true q8
                  rw [if_pos q8]
                  have i8a := kTok_lt hT i7a (by omega)
                  have G8 := jRr_take G7 hr (kRole_0 (by omega) (by omega) (by omega)) (by omega)
                  have hc9 : ∀ (d : Nat) (Q : jO → jM → Prop), (Ex (d + 5) 111 0 [some (.ref 4490), some (.int 41), some (.int 8)] [] (jsI (jsI (jsI (jsI (jsI (jsI (jsI (jsI (jsI (jsI (jsI (jsI (jsI ν 4490 9 (iN (i + 1))) 4825 (i + 1) 3) 4490 9 (iN (i + 1 + 1))) 4490 9 (iN (i + 1 + 1 + 1))) 4825 (i + 1 + 1 + 1) 10) 4490 9 (iN (i + 1 + 1 + 1 + 1))) 4490 9 (iN (i + 1 + 1 + 1 + 1 + 1))) 4825 (i + 1 + 1 + 1 + 1 + 1) 11) 4490 9 (iN (i + 1 + 1 + 1 + 1 + 1 + 1))) 4490 9 (iN (i + 1 + 1 + 1 + 1 + 1 + 1 + 1))) 4825 (i + 1 + 1 + 1 + 1 + 1 + 1 + 1) 7) 4490 9 (iN (i + 1 + 1 + 1 + 1 + 1 + 1 + 1 + 1))) 4490 9 (iN (i + 1 + 1 + 1 + 1 + 1 + 1 + 1 + 1 + 1))) Q ↔ if kd (i + 1 + 1 + 1 + 1 + 1 + 1 + 1 + 1 + 1) = 38 then Q (.inl (some (.int 1))) (jsI (jsI (jsI (jsI (jsI (jsI (jsI (jsI (jsI (jsI (jsI (jsI (jsI (jsI (jsI ν 4490 9 (iN (i + 1))) 4825 (i + 1) 3) 4490 9 (iN (i + 1 + 1))) 4490 9 (iN (i + 1 + 1 + 1))) 4825 (i + 1 + 1 + 1) 10) 4490 9 (iN (i + 1 + 1 + 1 + 1))) 4490 9 (iN (i + 1 + 1 + 1 + 1 + 1))) 4825 (i + 1 + 1 + 1 + 1 + 1) 11) 4490 9 (iN (i + 1 + 1 + 1 + 1 + 1 + 1))) 4490 9 (iN (i + 1 + 1 + 1 + 1 + 1 + 1 + 1))) 4825 (i + 1 + 1 + 1 + 1 + 1 + 1 + 1) 7) 4490 9 (iN (i + 1 + 1 + 1 + 1 + 1 + 1 + 1 + 1))) 4490 9 (iN (i + 1 + 1 + 1 + 1 + 1 + 1 + 1 + 1 + 1))) 4825 (i + 1 + 1 + 1 + 1 + 1 + 1 + 1 + 1 + 1) 8) 4490 9 (iN (i + 1 + 1 + 1 + 1 + 1 + 1 + 1 + 1 + 1 + 1))) else Q (.inl (some (.int 0))) (jsI (jsI (jsI (jsI (jsI (jsI (jsI (jsI (jsI (jsI (jsI (jsI (jsI (jsI ν 4490 9 (iN (i + 1))) 4825 (i + 1) 3) 4490 9 (iN (i + 1 + 1))) 4490 9 (iN (i + 1 + 1 + 1))) 4825 (i + 1 + 1 + 1) 10) 4490 9 (iN (i + 1 + 1 + 1 + 1))) 4490 9 (iN (i + 1 + 1 + 1 + 1 + 1))) 4825 (i + 1 + 1 + 1 + 1 + 1) 11) 4490 9 (iN (i + 1 + 1 + 1 + 1 + 1 + 1))) 4490 9 (iN (i + 1 + 1 + 1 + 1 + 1 + 1 + 1))) 4825 (i + 1 + 1 + 1 + 1 + 1 + 1 + 1) 7) 4490 9 (iN (i + 1 + 1 + 1 + 1 + 1 + 1 + 1 + 1))) 4490 9 (iN (i + 1 + 1 + 1 + 1 + 1 + 1 + 1 + 1 + 1))) 4825 (i + 1 + 1 + 1 + 1 + 1 + 1 + 1 + 1 + 1) 8)) := fun d Q => d_eatAs (d := d + 3) (K := 38) (x := 8) h0 G8.1 G8.2.1 i8a (by decide)
                  by_cases q9 : kd (i + 1 + 1 + 1 + 1 + 1 + 1 + 1 + 1 + 1) = 38
                  · have q9' := eq_true q9
                    rw [if_pos q9]
                    have i9a := kTok_lt hT i8a (by omega)
                    have G9 := jRr_role (x := 8) G8 hr (by unfold kRole; rw [if_neg (by omega), if_pos q9, Nat.add_sub_cancel, q8]; rfl) (by omega)
                    refine ⟨_, mPost_1 (by rw [List.append_nil]; exact G9) (kBef_s (i := i + 1 + 1 + 1 + 1 + 1 + 1 + 1 + 1 + 1) (by omega)), fun d Q => ?_⟩
                    simp only [x114_0, x114_1a, x114_1b, x114_2, x114_5, x114_6, x114_7, x114_10, x114_11, x114_13, x114_14, x114_17, x114_20, x114_21, x114_23, x114_26, x114_29, x114_30, x114_32, x114_34, x114_37, x114_40, x114_41, x114_43, x114_46, x114_49, x114_50, x114_52, x114_54, x114_57, x114_60, x114_61, x114_63, x114_66, x114_69, x114_70, x114_72, x114_74, x114_77, x114_80, x114_81, x114_83, x114_86, x114_89, x114_90, x114_92, x114_94, x114_97, x114_100, x114_101, x114_104, x114_105, mzi, mInc, mne, mlt9, mrk, mI1, mI2, mI3, mI4, mL1, mL2, mL3, mL4, mQ1, mQ2, mQ3, mQ4, mT1, mcat0, mcat1, mcat2, mcat3, mcat4, mrf1, jK_v, jK_n, JA, mz1, if_true, if_false, ite_true, ite_false, eq_self, not_false_eq_true, Nat.zero_le, true_and, and_true, and_self, Nat.reduceMod, Nat.reduceAdd, Nat.reduceLeDiff, Nat.reduceEqDiff, Nat.reduceLT, hw, ht, hc1, q1', hc2, q2', hc3, q3', hc4, q4', hc5, q5', hc6, q6', hc7, q7', hc8, q8', hc9, q9', cond_true]
                    rfl
                  · have q9' := eq_false q9
                    rw [if_neg q9]
                    refine ⟨_, mPost_z (jRr_rz (x := 8) G8), fun d Q => ?_⟩
                    simp only [x114_0, x114_1a, x114_1b, x114_2, x114_5, x114_6, x114_7, x114_10, x114_11, x114_13, x114_14, x114_17, x114_20, x114_21, x114_23, x114_26, x114_29, x114_30, x114_32, x114_34, x114_37, x114_40, x114_41, x114_43, x114_46, x114_49, x114_50, x114_52, x114_54, x114_57, x114_60, x114_61, x114_63, x114_66, x114_69, x114_70, x114_72, x114_74, x114_77, x114_80, x114_81, x114_83, x114_86, x114_89, x114_90, x114_92, x114_94, x114_97, x114_100, x114_101, x114_104, x114_105, mzi, mInc, mne, mlt9, mrk, mI1, mI2, mI3, mI4, mL1, mL2, mL3, mL4, mQ1, mQ2, mQ3, mQ4, mT1, mcat0, mcat1, mcat2, mcat3, mcat4, mrf1, jK_v, jK_n, JA, mz1, if_true, if_false, ite_true, ite_false, eq_self, not_false_eq_true, Nat.zero_le, true_and, and_true, and_self, Nat.reduceMod, Nat.reduceAdd, Nat.reduceLeDiff, Nat.reduceEqDiff, Nat.reduceLT, hw, ht, hc1, q1', hc2, q2', hc3, q3', hc4, q4', hc5, q5', hc6, q6', hc7, q7', hc8, q8', hc9, q9']
                    rfl
                · have q8' := eq_false q8
                  rw [if_neg q8]
                  refine ⟨_, mPost_z (jRr_z G7), fun d Q => ?_⟩
                  simp only [x114_0, x114_1a, x114_1b, x114_2, x114_5, x114_6, x114_7, x114_10, x114_11, x114_13, x114_14, x114_17, x114_20, x114_21, x114_23, x114_26, x114_29, x114_30, x114_32, x114_34, x114_37, x114_40, x114_41, x114_43, x114_46, x114_49, x114_50, x114_52, x114_54, x114_57, x114_60, x114_61, x114_63, x114_66, x114_69, x114_70, x114_72, x114_74, x114_77, x114_80, x114_81, x114_83, x114_86, x114_89, x114_90, x114_92, x114_94, x114_97, x114_100, x114_101, x114_104, x114_105, mzi, mInc, mne, mlt9, mrk, mI1, mI2, mI3, mI4, mL1, mL2, mL3, mL4, mQ1, mQ2, mQ3, mQ4, mT1, mcat0, mcat1, mcat2, mcat3, mcat4, mrf1, jK_v, jK_n, JA, mz1, if_true, if_false, ite_true, ite_false, eq_self, not_false_eq_true, Nat.zero_le, true_and, and_true, and_self, Nat.reduceMod, Nat.reduceAdd, Nat.reduceLeDiff, Nat.reduceEqDiff, Nat.reduceLT, hw, ht, hc1, q1', hc2, q2', hc3, q3', hc4, q4', hc5, q5', hc6, q6', hc7, q7', hc8, q8']
                  rfl
              · have q7' := eq_false q7
                rw [if_neg q7]
                refine ⟨_, mPost_z (jRr_rz (x := 7) G6), fun d Q => ?_⟩
                simp only [x114_0, x114_1a, x114_1b, x114_2, x114_5, x114_6, x114_7, x114_10, x114_11, x114_13, x114_14, x114_17, x114_20, x114_21, x114_23, x114_26, x114_29, x114_30, x114_32, x114_34, x114_37, x114_40, x114_41, x114_43, x114_46, x114_49, x114_50, x114_52, x114_54, x114_57, x114_60, x114_61, x114_63, x114_66, x114_69, x114_70, x114_72, x114_74, x114_77, x114_80, x114_81, x114_83, x114_86, x114_89, x114_90, x114_92, x114_94, x114_97, x114_100, x114_101, x114_104, x114_105, mzi, mInc, mne, mlt9, mrk, mI1, mI2, mI3, mI4, mL1, mL2, mL3, mL4, mQ1, mQ2, mQ3, mQ4, mT1, mcat0, mcat1, mcat2, mcat3, mcat4, mrf1, jK_v, jK_n, JA, mz1, if_true, if_false, ite_true, ite_false, eq_self, not_false_eq_true, Nat.zero_le, true_and, and_true, and_self, Nat.reduceMod, Nat.reduceAdd, Nat.reduceLeDiff, Nat.reduceEqDiff, Nat.reduceLT, hw, ht, hc1, q1', hc2, q2', hc3, q3', hc4, q4', hc5, q5', hc6, q6', hc7, q7']
                rfl
            · have q6' := eq_false q6
              rw [if_neg q6]
              refine ⟨_, mPost_z (jRr_z G5), fun d Q => ?_⟩
              simp only [x114_0, x114_1a, x114_1b, x114_2, x114_5, x114_6, x114_7, x114_10, x114_11, x114_13, x114_14, x114_17, x114_20, x114_21, x114_23, x114_26, x114_29, x114_30, x114_32, x114_34, x114_37, x114_40, x114_41, x114_43, x114_46, x114_49, x114_50, x114_52, x114_54, x114_57, x114_60, x114_61, x114_63, x114_66, x114_69, x114_70, x114_72, x114_74, x114_77, x114_80, x114_81, x114_83, x114_86, x114_89, x114_90, x114_92, x114_94, x114_97, x114_100, x114_101, x114_104, x114_105, mzi, mInc, mne, mlt9, mrk, mI1, mI2, mI3, mI4, mL1, mL2, mL3, mL4, mQ1, mQ2, mQ3, mQ4, mT1, mcat0, mcat1, mcat2, mcat3, mcat4, mrf1, jK_v, jK_n, JA, mz1, if_true, if_false, ite_true, ite_false, eq_self, not_false_eq_true, Nat.zero_le, true_and, and_true, and_self, Nat.reduceMod, Nat.reduceAdd, Nat.reduceLeDiff, Nat.reduceEqDiff, Nat.reduceLT, hw, ht, hc1, q1', hc2, q2', hc3, q3', hc4, q4', hc5, q5', hc6, q6']
              rfl
          · have q5' := eq_false q5
            rw [if_neg q5]
            refine ⟨_, mPost_z (jRr_rz (x := 11) G4), fun d Q => ?_⟩
            simp only [x114_0, x114_1a, x114_1b, x114_2, x114_5, x114_6, x114_7, x114_10, x114_11, x114_13, x114_14, x114_17, x114_20, x114_21, x114_23, x114_26, x114_29, x114_30, x114_32, x114_34, x114_37, x114_40, x114_41, x114_43, x114_46, x114_49, x114_50, x114_52, x114_54, x114_57, x114_60, x114_61, x114_63, x114_66, x114_69, x114_70, x114_72, x114_74, x114_77, x114_80, x114_81, x114_83, x114_86, x114_89, x114_90, x114_92, x114_94, x114_97, x114_100, x114_101, x114_104, x114_105, mzi, mInc, mne, mlt9, mrk, mI1, mI2, mI3, mI4, mL1, mL2, mL3, mL4, mQ1, mQ2, mQ3, mQ4, mT1, mcat0, mcat1, mcat2, mcat3, mcat4, mrf1, jK_v, jK_n, JA, mz1, if_true, if_false, ite_true, ite_false, eq_self, not_false_eq_true, Nat.zero_le, true_and, and_true, and_self, Nat.reduceMod, Nat.reduceAdd, Nat.reduceLeDiff, Nat.reduceEqDiff, Nat.reduceLT, hw, ht, hc1, q1', hc2, q2', hc3, q3', hc4, q4', hc5, q5']
            rfl
        · have q4' := eq_false q4
          rw [if_neg q4]
          refine ⟨_, mPost_z (jRr_z G3), fun d Q => ?_⟩
          simp only [x114_0, x114_1a, x114_1b, x114_2, x114_5, x114_6, x114_7, x114_10, x114_11, x114_13, x114_14, x114_17, x114_20, x114_21, x114_23, x114_26, x114_29, x114_30, x114_32, x114_34, x114_37, x114_40, x114_41, x114_43, x114_46, x114_49, x114_50, x114_52, x114_54, x114_57, x114_60, x114_61, x114_63, x114_66, x114_69, x114_70, x114_72, x114_74, x114_77, x114_80, x114_81, x114_83, x114_86, x114_89, x114_90, x114_92, x114_94, x114_97, x114_100, x114_101, x114_104, x114_105, mzi, mInc, mne, mlt9, mrk, mI1, mI2, mI3, mI4, mL1, mL2, mL3, mL4, mQ1, mQ2, mQ3, mQ4, mT1, mcat0, mcat1, mcat2, mcat3, mcat4, mrf1, jK_v, jK_n, JA, mz1, if_true, if_false, ite_true, ite_false, eq_self, not_false_eq_true, Nat.zero_le, true_and, and_true, and_self, Nat.reduceMod, Nat.reduceAdd, Nat.reduceLeDiff, Nat.reduceEqDiff, Nat.reduceLT, hw, ht, hc1, q1', hc2, q2', hc3, q3', hc4, q4']
          rfl
      · have q3' := eq_false q3
        rw [if_neg q3]
        refine ⟨_, mPost_z (jRr_rz (x := 10) G2), fun d Q => ?_⟩
        simp only [x114_0, x114_1a, x114_1b, x114_2, x114_5, x114_6, x114_7, x114_10, x114_11, x114_13, x114_14, x114_17, x114_20, x114_21, x114_23, x114_26, x114_29, x114_30, x114_32, x114_34, x114_37, x114_40, x114_41, x114_43, x114_46, x114_49, x114_50, x114_52, x114_54, x114_57, x114_60, x114_61, x114_63, x114_66, x114_69, x114_70, x114_72, x114_74, x114_77, x114_80, x114_81, x114_83, x114_86, x114_89, x114_90, x114_92, x114_94, x114_97, x114_100, x114_101, x114_104, x114_105, mzi, mInc, mne, mlt9, mrk, mI1, mI2, mI3, mI4, mL1, mL2, mL3, mL4, mQ1, mQ2, mQ3, mQ4, mT1, mcat0, mcat1, mcat2, mcat3, mcat4, mrf1, jK_v, jK_n, JA, mz1, if_true, if_false, ite_true, ite_false, eq_self, not_false_eq_true, Nat.zero_le, true_and, and_true, and_self, Nat.reduceMod, Nat.reduceAdd, Nat.reduceLeDiff, Nat.reduceEqDiff, Nat.reduceLT, hw, ht, hc1, q1', hc2, q2', hc3, q3']
        rfl
    · have q2' := eq_false q2
      rw [if_neg q2]
      refine ⟨_, mPost_z (jRr_z G1), fun d Q => ?_⟩
      simp only [x114_0, x114_1a, x114_1b, x114_2, x114_5, x114_6, x114_7, x114_10, x114_11, x114_13, x114_14, x114_17, x114_20, x114_21, x114_23, x114_26, x114_29, x114_30, x114_32, x114_34, x114_37, x114_40, x114_41, x114_43, x114_46, x114_49, x114_50, x114_52, x114_54, x114_57, x114_60, x114_61, x114_63, x114_66, x114_69, x114_70, x114_72, x114_74, x114_77, x114_80, x114_81, x114_83, x114_86, x114_89, x114_90, x114_92, x114_94, x114_97, x114_100, x114_101, x114_104, x114_105, mzi, mInc, mne, mlt9, mrk, mI1, mI2, mI3, mI4, mL1, mL2, mL3, mL4, mQ1, mQ2, mQ3, mQ4, mT1, mcat0, mcat1, mcat2, mcat3, mcat4, mrf1, jK_v, jK_n, JA, mz1, if_true, if_false, ite_true, ite_false, eq_self, not_false_eq_true, Nat.zero_le, true_and, and_true, and_self, Nat.reduceMod, Nat.reduceAdd, Nat.reduceLeDiff, Nat.reduceEqDiff, Nat.reduceLT, hw, ht, hc1, q1', hc2, q2']
      rfl
  · have q1' := eq_false q1
    rw [if_neg q1]
    refine ⟨_, mPost_z (jRr_rz (x := 3) hG1), fun d Q => ?_⟩
    simp only [x114_0, x114_1a, x114_1b, x114_2, x114_5, x114_6, x114_7, x114_10, x114_11, x114_13, x114_14, x114_17, x114_20, x114_21, x114_23, x114_26, x114_29, x114_30, x114_32, x114_34, x114_37, x114_40, x114_41, x114_43, x114_46, x114_49, x114_50, x114_52, x114_54, x114_57, x114_60, x114_61, x114_63, x114_66, x114_69, x114_70, x114_72, x114_74, x114_77, x114_80, x114_81, x114_83, x114_86, x114_89, x114_90, x114_92, x114_94, x114_97, x114_100, x114_101, x114_104, x114_105, mzi, mInc, mne, mlt9, mrk, mI1, mI2, mI3, mI4, mL1, mL2, mL3, mL4, mQ1, mQ2, mQ3, mQ4, mT1, mcat0, mcat1, mcat2, mcat3, mcat4, mrf1, jK_v, jK_n, JA, mz1, if_true, if_false, ite_true, ite_false, eq_self, not_false_eq_true, Nat.zero_le, true_and, and_true, and_self, Nat.reduceMod, Nat.reduceAdd, Nat.reduceLeDiff, Nat.reduceEqDiff, Nat.reduceLT, hw, ht, hc1, q1']
    rfl
end PARTM
