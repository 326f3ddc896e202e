/-! THE PURE PART: the draft becomes the plan. -/
section PLCOPY
variable {μ : jM} {L : Nat}
def kTcM (μ : jM) : jM := jsR (jsI μ 2308 3 (jI μ 1156 3)) 2456 (fun j => if j < 400 then jI μ 1304 j else jI μ 2456 j)
theorem c_tcopy {x : Nat → Nat} (hW : jWd μ) (hL : jI μ 1156 3 = iN L) (hL4 : L ≤ 400) (hx : ∀ k, k < L → jQ μ 1248 k = some (x k) ∧ x k % 64 = 40) : ∃ ν, jI ν = jI (kTcM μ) ∧ (∀ a, ¬ a = 2400 → jQ ν a = jQ μ a) ∧ (∀ k, k < L → jQ ν 2400 k = some (x k)) ∧ jL ν = jL μ ∧ jA ν = jA μ ∧ jX ν = jX μ ∧ ∀ (d : Nat) (Q : jO → jM → Prop), (Ex (d + 1) 90 0 [some (.ref 2308), some (.ref 1156), none] [] μ Q ↔ Q (.inl none) ν) := by
  have hw := hW
  unfold jWd at hw
  have hWd : ∀ ν, (∀ a, ¬ a = 2400 → jQ ν a = jQ μ a) → jWd ν := fun ν h => jWd_a (fun a _ _ n => h a n) hW
  have hLk : jI (kTcM μ) 2308 3 = iN L := by
    unfold kTcM
    rw [mR2 (by decide), mI1, if_pos rfl]
    exact hL
  have hclimb : ∀ i, i ≤ L → ∃ ν, jI ν = jI (kTcM μ) ∧ (∀ a, ¬ a = 2400 → jQ ν a = jQ μ a) ∧ (∀ k, k < i → jQ ν 2400 k = some (x k)) ∧ jL ν = jL μ ∧ jA ν = jA μ ∧ jX ν = jX μ ∧ ∀ (d : Nat) (Q : jO → jM → Prop), (Ex (d + 1) 90 0 [some (.ref 2308), some (.ref 1156), none] [] μ Q ↔ Ex (d + 1) 90 21 [some (.ref 2308), some (.ref 1156), some (.int (iN i))] [] ν Q) := by
    intro i
    induction i with
    | zero =>
      intro _
      refine ⟨kTcM μ, rfl, fun _ _ => by unfold kTcM; rw [mR3.2.1, mI4], fun k hk => absurd hk (by omega), by unfold kTcM; rw [mR3.1, mI3], by unfold kTcM; rw [mR3.2.2.1, mI5], by unfold kTcM; rw [mR3.2.2.2, mI6], fun d Q => ?_⟩
      unfold kTcM
      have hc := fun (μ : jM) (Q : jO → jM → Prop) => c_copy (d := d) (μ := μ) (Q := Q) (a := 1304) (b := 2456) (n := 400) rfl rfl rfl rfl rfl rfl (by decide)
      simp only [x90_0, x90_1, x90_2, x90_5, x90_8, x90_9, x90_12, x90_13, x90_16, x90_19, x90_20a, x90_20b, x90_20c, x90_22, x90_23, x90_26, x90_29, x90_30, x90_31, x90_34, x90_35, x90_38, x90_39, x90_42, x90_43, x90_44, x90_47, x90_48, x90_49, x90_50a, x90_50b, x90_50c, x90_53, x90_56, mzi, mInc, mne, mlt9, mrk, mI1, mI2, mI3, mI4, mL1, mL2, mL3, mL4, mQ1, mQ2, mQ3, mQ4, mT1, mcat0, mcat1, mcat2, mcat3, mcat4, mrf1, jK_v, jK_n, JA, mz1, if_true, if_false, ite_true, ite_false, eq_self, not_false_eq_true, Nat.zero_le, true_and, and_true, and_self, Nat.reduceMod, Nat.reduceAdd, Nat.reduceLeDiff, Nat.reduceEqDiff, Nat.reduceLT, hw, hc]
    | succ i ih =>
      intro hi
      obtain ⟨ν, f1, f2, f3, f4, f5, f6, e1⟩ := ih (by omega)
      have hw' := hWd ν f2
      unfold jWd at hw'
      have hL' : jI ν 2308 3 = iN L := by rw [f1]; exact hLk
      have hq : jQ ν 1248 i = some (x i) := by rw [f2 1248 (by decide)]; exact (hx i (by omega)).1
      have hm := (hx i (by omega)).2
      have i1 : iN i < iN L := (iN_lt (by omega) (by omega)).mpr (by omega)
      have i2 : iN i < iN 400 := (iN_lt (by omega) (by omega)).mpr (by omega)
      have ic : (iN i).toNatClampNeg = i := iN_cl (by omega)
      have ij : jin (iN i) 400 = true := iN_in (by omega) (by omega)
      refine ⟨jsQ ν 2400 i (some (x i)), f1, fun a ha => by rw [mQ2 ha]; exact f2 a ha, fun k hk => ?_, f4, f5, f6, fun d Q => ?_⟩
      · rw [mQ1]
        by_cases q : k = i
        · rw [if_pos q, q]
        · rw [if_neg q]
          exact f3 k (by omega)
      · rw [e1, x90_21]
        have b35 : (Nat.ble 3 3 && Nat.ble 3 5) = true := rfl
        simp only [x90_0, x90_1, x90_2, x90_5, x90_8, x90_9, x90_12, x90_13, x90_16, x90_19, x90_20a, x90_20b, x90_20c, x90_22, x90_23, x90_26, x90_29, x90_30, x90_31, x90_34, x90_35, x90_38, x90_39, x90_42, x90_43, x90_44, x90_47, x90_48, x90_49, x90_50a, x90_50b, x90_50c, x90_53, x90_56, mzi, mInc, mne, mlt9, mrk, mI1, mI2, mI3, mI4, mL1, mL2, mL3, mL4, mQ1, mQ2, mQ3, mQ4, mT1, mcat0, mcat1, mcat2, mcat3, mcat4, mrf1, jK_v, jK_n, JA, mz1, if_true, if_false, ite_true, ite_false, eq_self, not_false_eq_true, Nat.zero_le, true_and, and_true, and_self, Nat.reduceMod, Nat.reduceAdd, Nat.reduceLeDiff, Nat.reduceEqDiff, Nat.reduceLT, hw', hL', hq, hm, i1, i2, ic, ij, b35]
  obtain ⟨ν, f1, f2, f3, f4, f5, f6, e1⟩ := hclimb L (Nat.le_refl _)
  have hw' := hWd ν f2
  unfold jWd at hw'
  have hL' : jI ν 2308 3 = iN L := by rw [f1]; exact hLk
  have hge : ¬ iN L < iN L := iN_irr (by omega)
  refine ⟨ν, f1, f2, f3, f4, f5, f6, fun d Q => ?_⟩
  rw [e1, x90_21]
  simp only [x90_0, x90_1, x90_2, x90_5, x90_8, x90_9, x90_12, x90_13, x90_16, x90_19, x90_20a, x90_20b, x90_20c, x90_22, x90_23, x90_26, x90_29, x90_30, x90_31, x90_34, x90_35, x90_38, x90_39, x90_42, x90_43, x90_44, x90_47, x90_48, x90_49, x90_50a, x90_50b, x90_50c, x90_53, x90_56, mzi, mInc, mne, mlt9, mrk, mI1, mI2, mI3, mI4, mL1, mL2, mL3, mL4, mQ1, mQ2, mQ3, mQ4, mT1, mcat0, mcat1, mcat2, mcat3, mcat4, mrf1, jK_v, jK_n, JA, mz1, if_true, if_false, ite_true, ite_false, eq_self, not_false_eq_true, Nat.zero_le, true_and, and_true, and_self, Nat.reduceMod, Nat.reduceAdd, Nat.reduceLeDiff, Nat.reduceEqDiff, Nat.reduceLT, hw', hL', hge]
/-- the plan as it was drafted, but for the tests -/
def kPcM (μ : jM) : jM := (jsR (jsR (jsR (jsR (jsR (jsR (jsR (jsR (jsI (jsI (jsI (jsI μ 1731 0 (jI μ 579 0)) 1731 1 (jI μ 579 1)) 1731 2 (jI μ 579 2)) 1731 3 (jI μ 579 3)) 1812 (fun j => if j < 6 then jI μ 660 j else jI μ 1812 j)) 1872 (fun j => if j < 10 then jI μ 720 j else jI μ 1872 j)) 1936 (fun j => if j < 10 then jI μ 784 j else jI μ 1936 j)) 2000 (fun j => if j < 10 then jI μ 848 j else jI μ 2000 j)) 2064 (fun j => if j < 10 then jI μ 912 j else jI μ 2064 j)) 2128 (fun j => if j < 10 then jI μ 976 j else jI μ 2128 j)) 2192 (fun j => if j < 10 then jI μ 1040 j else jI μ 2192 j)) 2256 (fun j => if j < 10 then jI μ 1104 j else jI μ 2256 j))
theorem c_pcopy {ν : jM} (hW : jWd μ) (ht : ∀ (d : Nat) (Q : jO → jM → Prop), (Ex (d + 1) 90 0 [some (.ref 2308), some (.ref 1156), none] [] (kPcM μ) Q ↔ Q (.inl none) ν)) (d : Nat) (Q : jO → jM → Prop) : Ex (d + 2) 88 0 [some (.ref 1731), some (.ref 579)] [] μ Q ↔ Q (.inl none) ν := by
  have hw := hW
  unfold jWd at hw
  have hc660 := fun (d : Nat) (μ : jM) (Q : jO → jM → Prop) => c_copy (d := d) (μ := μ) (Q := Q) (a := 660) (b := 1812) (n := 6) rfl rfl rfl rfl rfl rfl (by decide)
  have hc720 := fun (d : Nat) (μ : jM) (Q : jO → jM → Prop) => c_copy (d := d) (μ := μ) (Q := Q) (a := 720) (b := 1872) (n := 10) rfl rfl rfl rfl rfl rfl (by decide)
  have hc784 := fun (d : Nat) (μ : jM) (Q : jO → jM → Prop) => c_copy (d := d) (μ := μ) (Q := Q) (a := 784) (b := 1936) (n := 10) rfl rfl rfl rfl rfl rfl (by decide)
  have hc848 := fun (d : Nat) (μ : jM) (Q : jO → jM → Prop) => c_copy (d := d) (μ := μ) (Q := Q) (a := 848) (b := 2000) (n := 10) rfl rfl rfl rfl rfl rfl (by decide)
  have hc912 := fun (d : Nat) (μ : jM) (Q : jO → jM → Prop) => c_copy (d := d) (μ := μ) (Q := Q) (a := 912) (b := 2064) (n := 10) rfl rfl rfl rfl rfl rfl (by decide)
  have hc976 := fun (d : Nat) (μ : jM) (Q : jO → jM → Prop) => c_copy (d := d) (μ := μ) (Q := Q) (a := 976) (b := 2128) (n := 10) rfl rfl rfl rfl rfl rfl (by decide)
  have hc1040 := fun (d : Nat) (μ : jM) (Q : jO → jM → Prop) => c_copy (d := d) (μ := μ) (Q := Q) (a := 1040) (b := 2192) (n := 10) rfl rfl rfl rfl rfl rfl (by decide)
  have hc1104 := fun (d : Nat) (μ : jM) (Q : jO → jM → Prop) => c_copy (d := d) (μ := μ) (Q := Q) (a := 1104) (b := 2256) (n := 10) rfl rfl rfl rfl rfl rfl (by decide)
  have ht' := ht d
  unfold kPcM at ht'
  simp only [x88_0, x88_1, x88_2, x88_5, x88_8, x88_9, x88_10, x88_13, x88_16, x88_17, x88_18, x88_21, x88_24, x88_25, x88_26, x88_29, x88_32, x88_33, x88_36, x88_37, x88_40, x88_43, x88_44, x88_47, x88_48, x88_51, x88_54, x88_55, x88_58, x88_59, x88_62, x88_65, x88_66, x88_69, x88_70, x88_73, x88_76, x88_77, x88_80, x88_81, x88_84, x88_87, x88_88, x88_91, x88_92, x88_95, x88_98, x88_99, x88_102, x88_103, x88_106, x88_109, x88_110, x88_113, x88_114, x88_117, x88_120, x88_121, x88_124, x88_125, x88_128, x88_131, mzi, mInc, mne, mlt9, mrk, mI1, mI2, mI3, mI4, mL1, mL2, mL3, mL4, mQ1, mQ2, mQ3, mQ4, mT1, mcat0, mcat1, mcat2, mcat3, mcat4, mrf1, jK_v, jK_n, JA, mz1, if_true, if_false, ite_true, ite_false, eq_self, not_false_eq_true, Nat.zero_le, true_and, and_true, and_self, Nat.reduceMod, Nat.reduceAdd, Nat.reduceLeDiff, Nat.reduceEqDiff, Nat.reduceLT, mR1, mR2, mR3, hw, hc660, hc720, hc784, hc848, hc912, hc976, hc1040, hc1104, ht']
end PLCOPY
