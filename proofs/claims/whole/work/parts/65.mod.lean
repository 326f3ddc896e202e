/-! THE PURE PART: what a state of the reference tells. -/
/-- the arrays of a plan of the reference at 64 * p + 11 -/
theorem JP (p : Nat) : (jty (64 * p + 84) = 0 ∧ jmade (64 * p + 84) = true ∧ (∀ μ, jln (64 * p + 84) μ = 6) ∧ ∀ i μ, jrdI (64 * p + 84) i μ = jI μ (64 * p + 84) i) ∧ (jty (64 * p + 144) = 0 ∧ jmade (64 * p + 144) = true ∧ (∀ μ, jln (64 * p + 144) μ = 10) ∧ ∀ i μ, jrdI (64 * p + 144) i μ = jI μ (64 * p + 144) i) ∧ (jty (64 * p + 208) = 0 ∧ jmade (64 * p + 208) = true ∧ (∀ μ, jln (64 * p + 208) μ = 10) ∧ ∀ i μ, jrdI (64 * p + 208) i μ = jI μ (64 * p + 208) i) ∧ (jty (64 * p + 272) = 0 ∧ jmade (64 * p + 272) = true ∧ (∀ μ, jln (64 * p + 272) μ = 10) ∧ ∀ i μ, jrdI (64 * p + 272) i μ = jI μ (64 * p + 272) i) ∧ (jty (64 * p + 336) = 0 ∧ jmade (64 * p + 336) = true ∧ (∀ μ, jln (64 * p + 336) μ = 10) ∧ ∀ i μ, jrdI (64 * p + 336) i μ = jI μ (64 * p + 336) i) ∧ (jty (64 * p + 400) = 0 ∧ jmade (64 * p + 400) = true ∧ (∀ μ, jln (64 * p + 400) μ = 10) ∧ ∀ i μ, jrdI (64 * p + 400) i μ = jI μ (64 * p + 400) i) ∧ (jty (64 * p + 464) = 0 ∧ jmade (64 * p + 464) = true ∧ (∀ μ, jln (64 * p + 464) μ = 10) ∧ ∀ i μ, jrdI (64 * p + 464) i μ = jI μ (64 * p + 464) i) ∧ (jty (64 * p + 528) = 0 ∧ jmade (64 * p + 528) = true ∧ (∀ μ, jln (64 * p + 528) μ = 10) ∧ ∀ i μ, jrdI (64 * p + 528) i μ = jI μ (64 * p + 528) i) ∧ (jty (64 * p + 594) = 0 ∧ jmade (64 * p + 594) = true ∧ (∀ μ, jln (64 * p + 594) μ = 12) ∧ ∀ i μ, jrdI (64 * p + 594) i μ = jI μ (64 * p + 594) i) ∧ (jty (64 * p + 659) = 0 ∧ jmade (64 * p + 659) = true ∧ (∀ μ, jln (64 * p + 659) μ = 13) ∧ ∀ i μ, jrdI (64 * p + 659) i μ = jI μ (64 * p + 659) i) ∧ (jty (64 * p + 723) = 0 ∧ jmade (64 * p + 723) = true ∧ (∀ μ, jln (64 * p + 723) μ = 13) ∧ ∀ i μ, jrdI (64 * p + 723) i μ = jI μ (64 * p + 723) i) ∧ (jty (64 * p + 794) = 0 ∧ jmade (64 * p + 794) = true ∧ (∀ μ, jln (64 * p + 794) μ = 800) ∧ ∀ i μ, jrdI (64 * p + 794) i μ = jI μ (64 * p + 794) i) ∧ (jty (64 * p + 856) = 0 ∧ jmade (64 * p + 856) = true ∧ (∀ μ, jln (64 * p + 856) μ = 400) ∧ ∀ i μ, jrdI (64 * p + 856) i μ = jI μ (64 * p + 856) i) := by
  have e1 : (64 * p + 84) % 64 = 20 := by omega
  have f1 : (jty (64 * p + 84) = 0 ∧ jmade (64 * p + 84) = true ∧ (∀ μ, jln (64 * p + 84) μ = 6) ∧ ∀ i μ, jrdI (64 * p + 84) i μ = jI μ (64 * p + 84) i) := by
    refine ⟨?_, ?_, fun μ => ?_, fun i μ => ?_⟩
    · unfold jty
      rw [e1]
      rfl
    · unfold jmade
      rw [e1]
      rfl
    · unfold jln
      rw [e1]
      rfl
    · unfold jrdI
      rw [e1]
      rfl
  have e3 : (64 * p + 144) % 64 = 16 := by omega
  have f3 : (jty (64 * p + 144) = 0 ∧ jmade (64 * p + 144) = true ∧ (∀ μ, jln (64 * p + 144) μ = 10) ∧ ∀ i μ, jrdI (64 * p + 144) i μ = jI μ (64 * p + 144) i) := by
    refine ⟨?_, ?_, fun μ => ?_, fun i μ => ?_⟩
    · unfold jty
      rw [e3]
      rfl
    · unfold jmade
      rw [e3]
      rfl
    · unfold jln
      rw [e3]
      rfl
    · unfold jrdI
      rw [e3]
      rfl
  have e4 : (64 * p + 208) % 64 = 16 := by omega
  have f4 : (jty (64 * p + 208) = 0 ∧ jmade (64 * p + 208) = true ∧ (∀ μ, jln (64 * p + 208) μ = 10) ∧ ∀ i μ, jrdI (64 * p + 208) i μ = jI μ (64 * p + 208) i) := by
    refine ⟨?_, ?_, fun μ => ?_, fun i μ => ?_⟩
    · unfold jty
      rw [e4]
      rfl
    · unfold jmade
      rw [e4]
      rfl
    · unfold jln
      rw [e4]
      rfl
    · unfold jrdI
      rw [e4]
      rfl
  have e5 : (64 * p + 272) % 64 = 16 := by omega
  have f5 : (jty (64 * p + 272) = 0 ∧ jmade (64 * p + 272) = true ∧ (∀ μ, jln (64 * p + 272) μ = 10) ∧ ∀ i μ, jrdI (64 * p + 272) i μ = jI μ (64 * p + 272) i) := by
    refine ⟨?_, ?_, fun μ => ?_, fun i μ => ?_⟩
    · unfold jty
      rw [e5]
      rfl
    · unfold jmade
      rw [e5]
      rfl
    · unfold jln
      rw [e5]
      rfl
    · unfold jrdI
      rw [e5]
      rfl
  have e7 : (64 * p + 336) % 64 = 16 := by omega
  have f7 : (jty (64 * p + 336) = 0 ∧ jmade (64 * p + 336) = true ∧ (∀ μ, jln (64 * p + 336) μ = 10) ∧ ∀ i μ, jrdI (64 * p + 336) i μ = jI μ (64 * p + 336) i) := by
    refine ⟨?_, ?_, fun μ => ?_, fun i μ => ?_⟩
    · unfold jty
      rw [e7]
      rfl
    · unfold jmade
      rw [e7]
      rfl
    · unfold jln
      rw [e7]
      rfl
    · unfold jrdI
      rw [e7]
      rfl
  have e8 : (64 * p + 400) % 64 = 16 := by omega
  have f8 : (jty (64 * p + 400) = 0 ∧ jmade (64 * p + 400) = true ∧ (∀ μ, jln (64 * p + 400) μ = 10) ∧ ∀ i μ, jrdI (64 * p + 400) i μ = jI μ (64 * p + 400) i) := by
    refine ⟨?_, ?_, fun μ => ?_, fun i μ => ?_⟩
    · unfold jty
      rw [e8]
      rfl
    · unfold jmade
      rw [e8]
      rfl
    · unfold jln
      rw [e8]
      rfl
    · unfold jrdI
      rw [e8]
      rfl
  have e9 : (64 * p + 464) % 64 = 16 := by omega
  have f9 : (jty (64 * p + 464) = 0 ∧ jmade (64 * p + 464) = true ∧ (∀ μ, jln (64 * p + 464) μ = 10) ∧ ∀ i μ, jrdI (64 * p + 464) i μ = jI μ (64 * p + 464) i) := by
    refine ⟨?_, ?_, fun μ => ?_, fun i μ => ?_⟩
    · unfold jty
      rw [e9]
      rfl
    · unfold jmade
      rw [e9]
      rfl
    · unfold jln
      rw [e9]
      rfl
    · unfold jrdI
      rw [e9]
      rfl
  have e10 : (64 * p + 528) % 64 = 16 := by omega
  have f10 : (jty (64 * p + 528) = 0 ∧ jmade (64 * p + 528) = true ∧ (∀ μ, jln (64 * p + 528) μ = 10) ∧ ∀ i μ, jrdI (64 * p + 528) i μ = jI μ (64 * p + 528) i) := by
    refine ⟨?_, ?_, fun μ => ?_, fun i μ => ?_⟩
    · unfold jty
      rw [e10]
      rfl
    · unfold jmade
      rw [e10]
      rfl
    · unfold jln
      rw [e10]
      rfl
    · unfold jrdI
      rw [e10]
      rfl
  have e12 : (64 * p + 594) % 64 = 18 := by omega
  have f12 : (jty (64 * p + 594) = 0 ∧ jmade (64 * p + 594) = true ∧ (∀ μ, jln (64 * p + 594) μ = 12) ∧ ∀ i μ, jrdI (64 * p + 594) i μ = jI μ (64 * p + 594) i) := by
    refine ⟨?_, ?_, fun μ => ?_, fun i μ => ?_⟩
    · unfold jty
      rw [e12]
      rfl
    · unfold jmade
      rw [e12]
      rfl
    · unfold jln
      rw [e12]
      rfl
    · unfold jrdI
      rw [e12]
      rfl
  have e14 : (64 * p + 659) % 64 = 19 := by omega
  have f14 : (jty (64 * p + 659) = 0 ∧ jmade (64 * p + 659) = true ∧ (∀ μ, jln (64 * p + 659) μ = 13) ∧ ∀ i μ, jrdI (64 * p + 659) i μ = jI μ (64 * p + 659) i) := by
    refine ⟨?_, ?_, fun μ => ?_, fun i μ => ?_⟩
    · unfold jty
      rw [e14]
      rfl
    · unfold jmade
      rw [e14]
      rfl
    · unfold jln
      rw [e14]
      rfl
    · unfold jrdI
      rw [e14]
      rfl
  have e15 : (64 * p + 723) % 64 = 19 := by omega
  have f15 : (jty (64 * p + 723) = 0 ∧ jmade (64 * p + 723) = true ∧ (∀ μ, jln (64 * p + 723) μ = 13) ∧ ∀ i μ, jrdI (64 * p + 723) i μ = jI μ (64 * p + 723) i) := by
    refine ⟨?_, ?_, fun μ => ?_, fun i μ => ?_⟩
    · unfold jty
      rw [e15]
      rfl
    · unfold jmade
      rw [e15]
      rfl
    · unfold jln
      rw [e15]
      rfl
    · unfold jrdI
      rw [e15]
      rfl
  have e16 : (64 * p + 794) % 64 = 26 := by omega
  have f16 : (jty (64 * p + 794) = 0 ∧ jmade (64 * p + 794) = true ∧ (∀ μ, jln (64 * p + 794) μ = 800) ∧ ∀ i μ, jrdI (64 * p + 794) i μ = jI μ (64 * p + 794) i) := by
    refine ⟨?_, ?_, fun μ => ?_, fun i μ => ?_⟩
    · unfold jty
      rw [e16]
      rfl
    · unfold jmade
      rw [e16]
      rfl
    · unfold jln
      rw [e16]
      rfl
    · unfold jrdI
      rw [e16]
      rfl
  have e18 : (64 * p + 856) % 64 = 24 := by omega
  have f18 : (jty (64 * p + 856) = 0 ∧ jmade (64 * p + 856) = true ∧ (∀ μ, jln (64 * p + 856) μ = 400) ∧ ∀ i μ, jrdI (64 * p + 856) i μ = jI μ (64 * p + 856) i) := by
    refine ⟨?_, ?_, fun μ => ?_, fun i μ => ?_⟩
    · unfold jty
      rw [e18]
      rfl
    · unfold jmade
      rw [e18]
      rfl
    · unfold jln
      rw [e18]
      rfl
    · unfold jrdI
      rw [e18]
      rfl
  exact ⟨f1, f3, f4, f5, f7, f8, f9, f10, f12, f14, f15, f16, f18⟩
theorem JPm (p : Nat) : (64 * p + 11) % 64 = 11 ∧ (64 * p + 84) % 64 = 20 ∧ (64 * p + 144) % 64 = 16 ∧ (64 * p + 208) % 64 = 16 ∧ (64 * p + 272) % 64 = 16 ∧ (64 * p + 336) % 64 = 16 ∧ (64 * p + 400) % 64 = 16 ∧ (64 * p + 464) % 64 = 16 ∧ (64 * p + 528) % 64 = 16 ∧ (64 * p + 594) % 64 = 18 ∧ (64 * p + 659) % 64 = 19 ∧ (64 * p + 723) % 64 = 19 ∧ (64 * p + 794) % 64 = 26 ∧ (64 * p + 856) % 64 = 24 := ⟨by omega, by omega, by omega, by omega, by omega, by omega, by omega, by omega, by omega, by omega, by omega, by omega, by omega, by omega⟩
/-- the references of a plan of the reference; the plan that stands -/
def jMq (μ : jM) (p : Nat) : Prop := jQ μ (64 * p + 11) 1 = some (64 * p + 84) ∧ jQ μ (64 * p + 11) 3 = some (64 * p + 144) ∧ jQ μ (64 * p + 11) 4 = some (64 * p + 208) ∧ jQ μ (64 * p + 11) 5 = some (64 * p + 272) ∧ jQ μ (64 * p + 11) 7 = some (64 * p + 336) ∧ jQ μ (64 * p + 11) 8 = some (64 * p + 400) ∧ jQ μ (64 * p + 11) 9 = some (64 * p + 464) ∧ jQ μ (64 * p + 11) 10 = some (64 * p + 528) ∧ jQ μ (64 * p + 11) 12 = some (64 * p + 594) ∧ jQ μ (64 * p + 11) 14 = some (64 * p + 659) ∧ jQ μ (64 * p + 11) 15 = some (64 * p + 723) ∧ jQ μ (64 * p + 11) 16 = some (64 * p + 794) ∧ jQ μ (64 * p + 11) 18 = some (64 * p + 856)
def jMp (μ : jM) (p : Nat) : Prop := jWd μ ∧ (p = 77 ∨ 120 ≤ p) ∧ jQ μ 4490 11 = some (64 * p + 11) ∧ jMq μ p
/-- fixed objects of the reference's states are no part of a plan -/
theorem jPne {p : Nat} (h : p = 77 ∨ 120 ≤ p) : ∀ c a, c < 900 → 5836 ≤ a → a < 7680 → ¬ 64 * p + c = a := by
  intro c a h1 h2 h3 h4
  omega
theorem jPne' {p : Nat} (h : p = 77 ∨ 120 ≤ p) : ∀ c a, c < 900 → 5836 ≤ a → a < 7680 → ¬ a = 64 * p + c := by
  intro c a h1 h2 h3 h4
  omega
theorem jMp_c {μ μ' : jM} {p : Nat} (h : jQ μ' = jQ μ) (hM : jMp μ p) : jMp μ' p := by
  unfold jMp jMq at *
  rw [h]
  exact ⟨jWd_c h hM.1, hM.2⟩
section C15
variable {d : Nat} {μ : jM} {Q : jO → jM → Prop} {n m t w p : Nat}
theorem d_loads {v : Int32} (hM : jMp μ p) (hn : jI μ (64 * p + 11) 2 = iN n) (h10 : n ≤ 10) : Ex (d) 194 0 [some (.ref 5836), some (.int v), none, none] [] μ Q ↔ Q (.inl (some (.int (rsum (fun k => if jI μ 6288 k = 1 then jI μ 6416 k >>> (v &&& 31) &&& 1 else 0) n)))) μ := by
  obtain ⟨hW, hp, hpl, hq⟩ := hM
  have hw := hW
  unfold jWd at hw
  unfold jMq at hq
  have jp := JP p
  have jpm := JPm p
  have loop : ∀ (k : Nat) (a : Int32), k < n → (Ex (d) 194 4 [some (.ref 5836), some (.int v), some (.int a), some (.int (iN k))] [] μ Q ↔ Ex (d) 194 4 [some (.ref 5836), some (.int v), some (.int (a + (if jI μ 6288 k = 1 then jI μ 6416 k >>> (v &&& 31) &&& 1 else 0))), some (.int (iN (k + 1)))] [] μ Q) := by
    intro k a hk
    have hlt : iN k < iN n := (iN_lt (by omega) (by omega)).mpr hk
    have hkc : (iN k).toNatClampNeg = k := iN_cl (by omega)
    have hkj : jin (iN k) 10 = true := iN_in (by omega) (by omega)
    all_goals rw [x194_4]
    all_goals by_cases g : jI μ 6288 k = 1
    all_goals simp only [x194_0, x194_1a, x194_1b, x194_1c, x194_2, x194_3a, x194_3b, x194_3c, x194_5, x194_6, x194_9, x194_12, x194_15, x194_18, x194_19, x194_22, x194_23, x194_24, x194_25, x194_28, x194_29, x194_30, x194_33, x194_34, x194_35, x194_36, x194_37, x194_38, x194_39, x194_40a, x194_40b, x194_40c, x194_41a, x194_41b, x194_41c, x194_44, x194_47, x194_48, mzi, mInc, mne, mlt9, mrk, mI1, mI2, mI3, mI4, mL1, mL2, mL3, mL4, mQ1, mQ2, mQ3, mQ4, mT1, mcat0, mcat1, mcat2, mcat3, mcat4, mrf1, jK_v, jK_n, JA, mz1, if_true, if_false, ite_true, ite_false, eq_self, not_false_eq_true, Nat.zero_le, true_and, and_true, and_self, Nat.reduceMod, Nat.reduceAdd, Nat.reduceLeDiff, Nat.reduceEqDiff, Nat.reduceLT, hlt, hkc, hkj, hw, hpl, hq, jp, jpm, hn, Int32.add_zero, g]
  have h0 := jfold_loop (P := fun k a => Ex (d) 194 4 [some (.ref 5836), some (.int v), some (.int a), some (.int (iN k))] [] μ Q) loop n 0 0 (by omega)
  have hge : ¬ iN n < iN n := iN_irr (by omega)
  have h1 : Ex (d) 194 0 [some (.ref 5836), some (.int v), none, none] [] μ Q ↔ Ex (d) 194 4 [some (.ref 5836), some (.int v), some (.int 0), some (.int (iN 0))] [] μ Q := by
    simp only [x194_0, x194_1a, x194_1b, x194_1c, x194_2, x194_3a, x194_3b, x194_3c, x194_5, x194_6, x194_9, x194_12, x194_15, x194_18, x194_19, x194_22, x194_23, x194_24, x194_25, x194_28, x194_29, x194_30, x194_33, x194_34, x194_35, x194_36, x194_37, x194_38, x194_39, x194_40a, x194_40b, x194_40c, x194_41a, x194_41b, x194_41c, x194_44, x194_47, x194_48, mzi, mInc, mne, mlt9, mrk, mI1, mI2, mI3, mI4, mL1, mL2, mL3, mL4, mQ1, mQ2, mQ3, mQ4, mT1, mcat0, mcat1, mcat2, mcat3, mcat4, mrf1, jK_v, jK_n, JA, mz1, if_true, if_false, ite_true, ite_false, eq_self, not_false_eq_true, Nat.zero_le, true_and, and_true, and_self, Nat.reduceMod, Nat.reduceAdd, Nat.reduceLeDiff, Nat.reduceEqDiff, Nat.reduceLT, hw, hpl, hq, jp, jpm, hn, Int32.add_zero]
  rw [h1, h0]
  simp only [x194_4, x194_0, x194_1a, x194_1b, x194_1c, x194_2, x194_3a, x194_3b, x194_3c, x194_5, x194_6, x194_9, x194_12, x194_15, x194_18, x194_19, x194_22, x194_23, x194_24, x194_25, x194_28, x194_29, x194_30, x194_33, x194_34, x194_35, x194_36, x194_37, x194_38, x194_39, x194_40a, x194_40b, x194_40c, x194_41a, x194_41b, x194_41c, x194_44, x194_47, x194_48, mzi, mInc, mne, mlt9, mrk, mI1, mI2, mI3, mI4, mL1, mL2, mL3, mL4, mQ1, mQ2, mQ3, mQ4, mT1, mcat0, mcat1, mcat2, mcat3, mcat4, mrf1, jK_v, jK_n, JA, mz1, if_true, if_false, ite_true, ite_false, eq_self, not_false_eq_true, Nat.zero_le, true_and, and_true, and_self, Nat.reduceMod, Nat.reduceAdd, Nat.reduceLeDiff, Nat.reduceEqDiff, Nat.reduceLT, hge, hw, hpl, hq, jp, jpm, hn, Int32.add_zero]
  rfl
theorem d_helds {v : Int32} (hM : jMp μ p) (hn : jI μ (64 * p + 11) 2 = iN n) (h10 : n ≤ 10) : Ex (d) 208 0 [some (.ref 5836), some (.int v), none, none] [] μ Q ↔ Q (.inl (some (.int (rsum (fun k => if jI μ 6288 k = 1 then jI μ 6352 k >>> (v &&& 31) &&& 1 else 0) n)))) μ := by
  obtain ⟨hW, hp, hpl, hq⟩ := hM
  have hw := hW
  unfold jWd at hw
  unfold jMq at hq
  have jp := JP p
  have jpm := JPm p
  have loop : ∀ (k : Nat) (a : Int32), k < n → (Ex (d) 208 4 [some (.ref 5836), some (.int v), some (.int a), some (.int (iN k))] [] μ Q ↔ Ex (d) 208 4 [some (.ref 5836), some (.int v), some (.int (a + (if jI μ 6288 k = 1 then jI μ 6352 k >>> (v &&& 31) &&& 1 else 0))), some (.int (iN (k + 1)))] [] μ Q) := by
    intro k a hk
    have hlt : iN k < iN n := (iN_lt (by omega) (by omega)).mpr hk
    have hkc : (iN k).toNatClampNeg = k := iN_cl (by omega)
    have hkj : jin (iN k) 10 = true := iN_in (by omega) (by omega)
    all_goals rw [x208_4]
    all_goals by_cases g : jI μ 6288 k = 1
    all_goals simp only [x208_0, x208_1a, x208_1b, x208_1c, x208_2, x208_3a, x208_3b, x208_3c, x208_5, x208_6, x208_9, x208_12, x208_15, x208_18, x208_19, x208_22, x208_23, x208_24, x208_25, x208_28, x208_29, x208_30, x208_33, x208_34, x208_35, x208_36, x208_37, x208_38, x208_39, x208_40a, x208_40b, x208_40c, x208_41a, x208_41b, x208_41c, x208_44, x208_47, x208_48, mzi, mInc, mne, mlt9, mrk, mI1, mI2, mI3, mI4, mL1, mL2, mL3, mL4, mQ1, mQ2, mQ3, mQ4, mT1, mcat0, mcat1, mcat2, mcat3, mcat4, mrf1, jK_v, jK_n, JA, mz1, if_true, if_false, ite_true, ite_false, eq_self, not_false_eq_true, Nat.zero_le, true_and, and_true, and_self, Nat.reduceMod, Nat.reduceAdd, Nat.reduceLeDiff, Nat.reduceEqDiff, Nat.reduceLT, hlt, hkc, hkj, hw, hpl, hq, jp, jpm, hn, Int32.add_zero, g]
  have h0 := jfold_loop (P := fun k a => Ex (d) 208 4 [some (.ref 5836), some (.int v), some (.int a), some (.int (iN k))] [] μ Q) loop n 0 0 (by omega)
  have hge : ¬ iN n < iN n := iN_irr (by omega)
  have h1 : Ex (d) 208 0 [some (.ref 5836), some (.int v), none, none] [] μ Q ↔ Ex (d) 208 4 [some (.ref 5836), some (.int v), some (.int 0), some (.int (iN 0))] [] μ Q := by
    simp only [x208_0, x208_1a, x208_1b, x208_1c, x208_2, x208_3a, x208_3b, x208_3c, x208_5, x208_6, x208_9, x208_12, x208_15, x208_18, x208_19, x208_22, x208_23, x208_24, x208_25, x208_28, x208_29, x208_30, x208_33, x208_34, x208_35, x208_36, x208_37, x208_38, x208_39, x208_40a, x208_40b, x208_40c, x208_41a, x208_41b, x208_41c, x208_44, x208_47, x208_48, mzi, mInc, mne, mlt9, mrk, mI1, mI2, mI3, mI4, mL1, mL2, mL3, mL4, mQ1, mQ2, mQ3, mQ4, mT1, mcat0, mcat1, mcat2, mcat3, mcat4, mrf1, jK_v, jK_n, JA, mz1, if_true, if_false, ite_true, ite_false, eq_self, not_false_eq_true, Nat.zero_le, true_and, and_true, and_self, Nat.reduceMod, Nat.reduceAdd, Nat.reduceLeDiff, Nat.reduceEqDiff, Nat.reduceLT, hw, hpl, hq, jp, jpm, hn, Int32.add_zero]
  rw [h1, h0]
  simp only [x208_4, x208_0, x208_1a, x208_1b, x208_1c, x208_2, x208_3a, x208_3b, x208_3c, x208_5, x208_6, x208_9, x208_12, x208_15, x208_18, x208_19, x208_22, x208_23, x208_24, x208_25, x208_28, x208_29, x208_30, x208_33, x208_34, x208_35, x208_36, x208_37, x208_38, x208_39, x208_40a, x208_40b, x208_40c, x208_41a, x208_41b, x208_41c, x208_44, x208_47, x208_48, mzi, mInc, mne, mlt9, mrk, mI1, mI2, mI3, mI4, mL1, mL2, mL3, mL4, mQ1, mQ2, mQ3, mQ4, mT1, mcat0, mcat1, mcat2, mcat3, mcat4, mrf1, jK_v, jK_n, JA, mz1, if_true, if_false, ite_true, ite_false, eq_self, not_false_eq_true, Nat.zero_le, true_and, and_true, and_self, Nat.reduceMod, Nat.reduceAdd, Nat.reduceLeDiff, Nat.reduceEqDiff, Nat.reduceLT, hge, hw, hpl, hq, jp, jpm, hn, Int32.add_zero]
  rfl
theorem d_conns (hM : jMp μ p) (hn : jI μ (64 * p + 11) 2 = iN n) (h10 : n ≤ 10) : Ex (d) 145 0 [some (.ref 5836), none, none] [] μ Q ↔ Q (.inl (some (.int (rsum (fun k => jI μ 6288 k) n)))) μ := by
  obtain ⟨hW, hp, hpl, hq⟩ := hM
  have hw := hW
  unfold jWd at hw
  unfold jMq at hq
  have jp := JP p
  have jpm := JPm p
  have loop : ∀ (k : Nat) (a : Int32), k < n → (Ex (d) 145 4 [some (.ref 5836), some (.int a), some (.int (iN k))] [] μ Q ↔ Ex (d) 145 4 [some (.ref 5836), some (.int (a + jI μ 6288 k)), some (.int (iN (k + 1)))] [] μ Q) := by
    intro k a hk
    have hlt : iN k < iN n := (iN_lt (by omega) (by omega)).mpr hk
    have hkc : (iN k).toNatClampNeg = k := iN_cl (by omega)
    have hkj : jin (iN k) 10 = true := iN_in (by omega) (by omega)
    all_goals rw [x145_4]
    all_goals simp only [x145_0, x145_1a, x145_1b, x145_1c, x145_2, x145_3a, x145_3b, x145_3c, x145_5, x145_6, x145_9, x145_12, x145_15, x145_18, x145_19, x145_20, x145_23, x145_24, x145_25, x145_26a, x145_26b, x145_26c, x145_27a, x145_27b, x145_27c, x145_30, x145_33, x145_34, mzi, mInc, mne, mlt9, mrk, mI1, mI2, mI3, mI4, mL1, mL2, mL3, mL4, mQ1, mQ2, mQ3, mQ4, mT1, mcat0, mcat1, mcat2, mcat3, mcat4, mrf1, jK_v, jK_n, JA, mz1, if_true, if_false, ite_true, ite_false, eq_self, not_false_eq_true, Nat.zero_le, true_and, and_true, and_self, Nat.reduceMod, Nat.reduceAdd, Nat.reduceLeDiff, Nat.reduceEqDiff, Nat.reduceLT, hlt, hkc, hkj, hw, hpl, hq, jp, jpm, hn]
  have h0 := jfold_loop (P := fun k a => Ex (d) 145 4 [some (.ref 5836), some (.int a), some (.int (iN k))] [] μ Q) loop n 0 0 (by omega)
  have hge : ¬ iN n < iN n := iN_irr (by omega)
  have h1 : Ex (d) 145 0 [some (.ref 5836), none, none] [] μ Q ↔ Ex (d) 145 4 [some (.ref 5836), some (.int 0), some (.int (iN 0))] [] μ Q := by
    simp only [x145_0, x145_1a, x145_1b, x145_1c, x145_2, x145_3a, x145_3b, x145_3c, x145_5, x145_6, x145_9, x145_12, x145_15, x145_18, x145_19, x145_20, x145_23, x145_24, x145_25, x145_26a, x145_26b, x145_26c, x145_27a, x145_27b, x145_27c, x145_30, x145_33, x145_34, mzi, mInc, mne, mlt9, mrk, mI1, mI2, mI3, mI4, mL1, mL2, mL3, mL4, mQ1, mQ2, mQ3, mQ4, mT1, mcat0, mcat1, mcat2, mcat3, mcat4, mrf1, jK_v, jK_n, JA, mz1, if_true, if_false, ite_true, ite_false, eq_self, not_false_eq_true, Nat.zero_le, true_and, and_true, and_self, Nat.reduceMod, Nat.reduceAdd, Nat.reduceLeDiff, Nat.reduceEqDiff, Nat.reduceLT, hw, hpl, hq, jp, jpm, hn]
  rw [h1, h0]
  simp only [x145_4, x145_0, x145_1a, x145_1b, x145_1c, x145_2, x145_3a, x145_3b, x145_3c, x145_5, x145_6, x145_9, x145_12, x145_15, x145_18, x145_19, x145_20, x145_23, x145_24, x145_25, x145_26a, x145_26b, x145_26c, x145_27a, x145_27b, x145_27c, x145_30, x145_33, x145_34, mzi, mInc, mne, mlt9, mrk, mI1, mI2, mI3, mI4, mL1, mL2, mL3, mL4, mQ1, mQ2, mQ3, mQ4, mT1, mcat0, mcat1, mcat2, mcat3, mcat4, mrf1, jK_v, jK_n, JA, mz1, if_true, if_false, ite_true, ite_false, eq_self, not_false_eq_true, Nat.zero_le, true_and, and_true, and_self, Nat.reduceMod, Nat.reduceAdd, Nat.reduceLeDiff, Nat.reduceEqDiff, Nat.reduceLT, hge, hw, hpl, hq, jp, jpm, hn]
  rfl
theorem d_doings {v : Int32} (hM : jMp μ p) (hn : jI μ (64 * p + 11) 2 = iN n) (h10 : n ≤ 10) : Ex (d) 146 0 [some (.ref 5836), some (.int v), none, none] [] μ Q ↔ Q (.inl (some (.int (rsum (fun k => if jI μ 5904 k = v then 1 else 0) n)))) μ := by
  obtain ⟨hW, hp, hpl, hq⟩ := hM
  have hw := hW
  unfold jWd at hw
  unfold jMq at hq
  have jp := JP p
  have jpm := JPm p
  have loop : ∀ (k : Nat) (a : Int32), k < n → (Ex (d) 146 4 [some (.ref 5836), some (.int v), some (.int a), some (.int (iN k))] [] μ Q ↔ Ex (d) 146 4 [some (.ref 5836), some (.int v), some (.int (a + (if jI μ 5904 k = v then 1 else 0))), some (.int (iN (k + 1)))] [] μ Q) := by
    intro k a hk
    have hlt : iN k < iN n := (iN_lt (by omega) (by omega)).mpr hk
    have hkc : (iN k).toNatClampNeg = k := iN_cl (by omega)
    have hkj : jin (iN k) 10 = true := iN_in (by omega) (by omega)
    all_goals rw [x146_4]
    all_goals by_cases g : jI μ 5904 k = v
    all_goals simp only [x146_0, x146_1a, x146_1b, x146_1c, x146_2, x146_3a, x146_3b, x146_3c, x146_5, x146_6, x146_9, x146_12, x146_15, x146_18, x146_19, x146_20, x146_23, x146_24, x146_25, x146_26, x146_29, x146_30, x146_33, x146_34, x146_35a, x146_35b, x146_35c, x146_36a, x146_36b, x146_36c, x146_39, x146_42, x146_43, mzi, mInc, mne, mlt9, mrk, mI1, mI2, mI3, mI4, mL1, mL2, mL3, mL4, mQ1, mQ2, mQ3, mQ4, mT1, mcat0, mcat1, mcat2, mcat3, mcat4, mrf1, jK_v, jK_n, JA, mz1, if_true, if_false, ite_true, ite_false, eq_self, not_false_eq_true, Nat.zero_le, true_and, and_true, and_self, Nat.reduceMod, Nat.reduceAdd, Nat.reduceLeDiff, Nat.reduceEqDiff, Nat.reduceLT, hlt, hkc, hkj, hw, hpl, hq, jp, jpm, hn, g]
  have h0 := jfold_loop (P := fun k a => Ex (d) 146 4 [some (.ref 5836), some (.int v), some (.int a), some (.int (iN k))] [] μ Q) loop n 0 0 (by omega)
  have hge : ¬ iN n < iN n := iN_irr (by omega)
  have h1 : Ex (d) 146 0 [some (.ref 5836), some (.int v), none, none] [] μ Q ↔ Ex (d) 146 4 [some (.ref 5836), some (.int v), some (.int 0), some (.int (iN 0))] [] μ Q := by
    simp only [x146_0, x146_1a, x146_1b, x146_1c, x146_2, x146_3a, x146_3b, x146_3c, x146_5, x146_6, x146_9, x146_12, x146_15, x146_18, x146_19, x146_20, x146_23, x146_24, x146_25, x146_26, x146_29, x146_30, x146_33, x146_34, x146_35a, x146_35b, x146_35c, x146_36a, x146_36b, x146_36c, x146_39, x146_42, x146_43, mzi, mInc, mne, mlt9, mrk, mI1, mI2, mI3, mI4, mL1, mL2, mL3, mL4, mQ1, mQ2, mQ3, mQ4, mT1, mcat0, mcat1, mcat2, mcat3, mcat4, mrf1, jK_v, jK_n, JA, mz1, if_true, if_false, ite_true, ite_false, eq_self, not_false_eq_true, Nat.zero_le, true_and, and_true, and_self, Nat.reduceMod, Nat.reduceAdd, Nat.reduceLeDiff, Nat.reduceEqDiff, Nat.reduceLT, hw, hpl, hq, jp, jpm, hn]
  rw [h1, h0]
  simp only [x146_4, x146_0, x146_1a, x146_1b, x146_1c, x146_2, x146_3a, x146_3b, x146_3c, x146_5, x146_6, x146_9, x146_12, x146_15, x146_18, x146_19, x146_20, x146_23, x146_24, x146_25, x146_26, x146_29, x146_30, x146_33, x146_34, x146_35a, x146_35b, x146_35c, x146_36a, x146_36b, x146_36c, x146_39, x146_42, x146_43, mzi, mInc, mne, mlt9, mrk, mI1, mI2, mI3, mI4, mL1, mL2, mL3, mL4, mQ1, mQ2, mQ3, mQ4, mT1, mcat0, mcat1, mcat2, mcat3, mcat4, mrf1, jK_v, jK_n, JA, mz1, if_true, if_false, ite_true, ite_false, eq_self, not_false_eq_true, Nat.zero_le, true_and, and_true, and_self, Nat.reduceMod, Nat.reduceAdd, Nat.reduceLeDiff, Nat.reduceEqDiff, Nat.reduceLT, hge, hw, hpl, hq, jp, jpm, hn]
  rfl
theorem d_places {v : Int32} (hW : jWd μ) (hw1 : jI μ 5836 7 = iN w) (hw2 : w ≤ 10) : Ex (d) 174 0 [some (.ref 5836), some (.int v), none] [] μ Q ↔ Q (.inl (some (.int (jfst (fun k => decide (jI μ 6160 k = v)) 0 (w - 0))))) μ := by
  have hw := hW
  unfold jWd at hw
  have hyes : ∀ k, 0 ≤ k → k < w → (jI μ 6160 k = v) → (Ex (d) 174 2 [some (.ref 5836), some (.int v), some (.int (iN k))] [] μ Q ↔ Q (.inl (some (.int (iN k)))) μ) := by
    intro k hlo hk hp
    have hlt : iN k < iN w := (iN_lt (by omega) (by omega)).mpr hk
    have hkc : (iN k).toNatClampNeg = k := iN_cl (by omega)
    have hkj : jin (iN k) 10 = true := iN_in (by omega) (by omega)
    rw [x174_2]
    simp only [x174_0, x174_1a, x174_1b, x174_1c, x174_3, x174_4, x174_7, x174_10, x174_11, x174_14, x174_15, x174_16, x174_17, x174_20, x174_21, x174_22a, x174_22b, x174_22c, x174_25, x174_28, x174_29, mzi, mInc, mne, mlt9, mrk, mI1, mI2, mI3, mI4, mL1, mL2, mL3, mL4, mQ1, mQ2, mQ3, mQ4, mT1, mcat0, mcat1, mcat2, mcat3, mcat4, mrf1, jK_v, jK_n, JA, mz1, if_true, if_false, ite_true, ite_false, eq_self, not_false_eq_true, Nat.zero_le, true_and, and_true, and_self, Nat.reduceMod, Nat.reduceAdd, Nat.reduceLeDiff, Nat.reduceEqDiff, Nat.reduceLT, hlt, hkc, hkj, hp, hw, hw1]
  have hno : ∀ k, 0 ≤ k → k < w → ¬ (jI μ 6160 k = v) → (Ex (d) 174 2 [some (.ref 5836), some (.int v), some (.int (iN k))] [] μ Q ↔ Ex (d) 174 2 [some (.ref 5836), some (.int v), some (.int (iN (k + 1)))] [] μ Q) := by
    intro k hlo hk hp
    have hlt : iN k < iN w := (iN_lt (by omega) (by omega)).mpr hk
    have hkc : (iN k).toNatClampNeg = k := iN_cl (by omega)
    have hkj : jin (iN k) 10 = true := iN_in (by omega) (by omega)
    rw [x174_2]
    simp only [x174_0, x174_1a, x174_1b, x174_1c, x174_3, x174_4, x174_7, x174_10, x174_11, x174_14, x174_15, x174_16, x174_17, x174_20, x174_21, x174_22a, x174_22b, x174_22c, x174_25, x174_28, x174_29, mzi, mInc, mne, mlt9, mrk, mI1, mI2, mI3, mI4, mL1, mL2, mL3, mL4, mQ1, mQ2, mQ3, mQ4, mT1, mcat0, mcat1, mcat2, mcat3, mcat4, mrf1, jK_v, jK_n, JA, mz1, if_true, if_false, ite_true, ite_false, eq_self, not_false_eq_true, Nat.zero_le, true_and, and_true, and_self, Nat.reduceMod, Nat.reduceAdd, Nat.reduceLeDiff, Nat.reduceEqDiff, Nat.reduceLT, hlt, hkc, hkj, hp, hw, hw1]
  have hge : ¬ iN w < iN w := iN_irr (by omega)
  have hend : Ex (d) 174 2 [some (.ref 5836), some (.int v), some (.int (iN (w)))] [] μ Q ↔ Q (.inl (some (.int (-1)))) μ := by
    simp only [↓if_neg hge, x174_2, x174_0, x174_1a, x174_1b, x174_1c, x174_3, x174_4, x174_7, x174_10, x174_11, x174_14, x174_15, x174_16, x174_17, x174_20, x174_21, x174_22a, x174_22b, x174_22c, x174_25, x174_28, x174_29, mzi, mInc, mne, mlt9, mrk, mI1, mI2, mI3, mI4, mL1, mL2, mL3, mL4, mQ1, mQ2, mQ3, mQ4, mT1, mcat0, mcat1, mcat2, mcat3, mcat4, mrf1, jK_v, jK_n, JA, mz1, if_true, if_false, ite_true, ite_false, eq_self, not_false_eq_true, Nat.zero_le, true_and, and_true, and_self, Nat.reduceMod, Nat.reduceAdd, Nat.reduceLeDiff, Nat.reduceEqDiff, Nat.reduceLT, hge, hw, hw1]
  have h1 : Ex (d) 174 0 [some (.ref 5836), some (.int v), none] [] μ Q ↔ Ex (d) 174 2 [some (.ref 5836), some (.int v), some (.int (iN 0))] [] μ Q := by
    simp only [x174_0, x174_1a, x174_1b, x174_1c, x174_3, x174_4, x174_7, x174_10, x174_11, x174_14, x174_15, x174_16, x174_17, x174_20, x174_21, x174_22a, x174_22b, x174_22c, x174_25, x174_28, x174_29, mzi, mInc, mne, mlt9, mrk, mI1, mI2, mI3, mI4, mL1, mL2, mL3, mL4, mQ1, mQ2, mQ3, mQ4, mT1, mcat0, mcat1, mcat2, mcat3, mcat4, mrf1, jK_v, jK_n, JA, mz1, if_true, if_false, ite_true, ite_false, eq_self, not_false_eq_true, Nat.zero_le, true_and, and_true, and_self, Nat.reduceMod, Nat.reduceAdd, Nat.reduceLeDiff, Nat.reduceEqDiff, Nat.reduceLT, hw, hw1]
  rw [h1]
  exact jfst_loop (P := fun k => Ex (d) 174 2 [some (.ref 5836), some (.int v), some (.int (iN k))] [] μ Q) (R := fun x => Q (.inl (some (.int x))) μ) hyes hno hend (by omega)
theorem d_calleds {l : Nat} (hl : l < 10) (hM : jMp μ p) (hn : jI μ (64 * p + 11) 2 = iN n) (h10 : n ≤ 10) : Ex (d) 164 0 [some (.ref 5836), some (.int (iN l)), none] [] μ Q ↔ Q (.inl (some (.int (jfst (fun k => decide (0 < jI μ 6032 l ∧ jI μ (64 * p + 272) k = jI μ 6032 l ∧ jI μ (64 * p + 208) k = jI μ 5968 l)) 0 (n - 0))))) μ := by
  obtain ⟨hW, hp, hpl, hq⟩ := hM
  have hw := hW
  unfold jWd at hw
  unfold jMq at hq
  have jp := JP p
  have jpm := JPm p
  have lc : (iN l).toNatClampNeg = l := iN_cl (by omega)
  have lj : jin (iN l) 10 = true := iN_in (by omega) (by omega)
  have hyes : ∀ k, 0 ≤ k → k < n → (0 < jI μ 6032 l ∧ jI μ (64 * p + 272) k = jI μ 6032 l ∧ jI μ (64 * p + 208) k = jI μ 5968 l) → (Ex (d) 164 2 [some (.ref 5836), some (.int (iN l)), some (.int (iN k))] [] μ Q ↔ Q (.inl (some (.int (iN k)))) μ) := by
    intro k hlo hk hp
    have hlt : iN k < iN n := (iN_lt (by omega) (by omega)).mpr hk
    have hkc : (iN k).toNatClampNeg = k := iN_cl (by omega)
    have hkj : jin (iN k) 10 = true := iN_in (by omega) (by omega)
    rw [x164_2]
    simp only [x164_0, x164_1a, x164_1b, x164_1c, x164_3, x164_4, x164_7, x164_10, x164_13, x164_16, x164_17, x164_20, x164_21, x164_22, x164_25, x164_26, x164_29, x164_32, x164_35, x164_36, x164_37, x164_38, x164_41, x164_42, x164_43, x164_46, x164_47, x164_50, x164_53, x164_56, x164_57, x164_58, x164_59, x164_62, x164_63, x164_64, x164_67, x164_68, x164_69a, x164_69b, x164_69c, x164_72, x164_75, x164_76, mzi, mInc, mne, mlt9, mrk, mI1, mI2, mI3, mI4, mL1, mL2, mL3, mL4, mQ1, mQ2, mQ3, mQ4, mT1, mcat0, mcat1, mcat2, mcat3, mcat4, mrf1, jK_v, jK_n, JA, mz1, if_true, if_false, ite_true, ite_false, eq_self, not_false_eq_true, Nat.zero_le, true_and, and_true, and_self, Nat.reduceMod, Nat.reduceAdd, Nat.reduceLeDiff, Nat.reduceEqDiff, Nat.reduceLT, hlt, hkc, hkj, hp, hw, hpl, hq, jp, jpm, hn, lc, lj]
  have hno : ∀ k, 0 ≤ k → k < n → ¬ (0 < jI μ 6032 l ∧ jI μ (64 * p + 272) k = jI μ 6032 l ∧ jI μ (64 * p + 208) k = jI μ 5968 l) → (Ex (d) 164 2 [some (.ref 5836), some (.int (iN l)), some (.int (iN k))] [] μ Q ↔ Ex (d) 164 2 [some (.ref 5836), some (.int (iN l)), some (.int (iN (k + 1)))] [] μ Q) := by
    intro k hlo hk hp
    have hlt : iN k < iN n := (iN_lt (by omega) (by omega)).mpr hk
    have hkc : (iN k).toNatClampNeg = k := iN_cl (by omega)
    have hkj : jin (iN k) 10 = true := iN_in (by omega) (by omega)
    rw [x164_2]
    simp only [x164_0, x164_1a, x164_1b, x164_1c, x164_3, x164_4, x164_7, x164_10, x164_13, x164_16, x164_17, x164_20, x164_21, x164_22, x164_25, x164_26, x164_29, x164_32, x164_35, x164_36, x164_37, x164_38, x164_41, x164_42, x164_43, x164_46, x164_47, x164_50, x164_53, x164_56, x164_57, x164_58, x164_59, x164_62, x164_63, x164_64, x164_67, x164_68, x164_69a, x164_69b, x164_69c, x164_72, x164_75, x164_76, mzi, mInc, mne, mlt9, mrk, mI1, mI2, mI3, mI4, mL1, mL2, mL3, mL4, mQ1, mQ2, mQ3, mQ4, mT1, mcat0, mcat1, mcat2, mcat3, mcat4, mrf1, jK_v, jK_n, JA, mz1, if_true, if_false, ite_true, ite_false, eq_self, not_false_eq_true, Nat.zero_le, true_and, and_true, and_self, Nat.reduceMod, Nat.reduceAdd, Nat.reduceLeDiff, Nat.reduceEqDiff, Nat.reduceLT, hlt, hkc, hkj, hp, hw, hpl, hq, jp, jpm, hn, lc, lj]
    repeat' split
    all_goals first | exact Iff.rfl | exact absurd ⟨‹_›, ‹_›, ‹_›⟩ hp
  have hge : ¬ iN n < iN n := iN_irr (by omega)
  have hend : Ex (d) 164 2 [some (.ref 5836), some (.int (iN l)), some (.int (iN (n)))] [] μ Q ↔ Q (.inl (some (.int (-1)))) μ := by
    simp only [↓if_neg hge, x164_2, x164_0, x164_1a, x164_1b, x164_1c, x164_3, x164_4, x164_7, x164_10, x164_13, x164_16, x164_17, x164_20, x164_21, x164_22, x164_25, x164_26, x164_29, x164_32, x164_35, x164_36, x164_37, x164_38, x164_41, x164_42, x164_43, x164_46, x164_47, x164_50, x164_53, x164_56, x164_57, x164_58, x164_59, x164_62, x164_63, x164_64, x164_67, x164_68, x164_69a, x164_69b, x164_69c, x164_72, x164_75, x164_76, mzi, mInc, mne, mlt9, mrk, mI1, mI2, mI3, mI4, mL1, mL2, mL3, mL4, mQ1, mQ2, mQ3, mQ4, mT1, mcat0, mcat1, mcat2, mcat3, mcat4, mrf1, jK_v, jK_n, JA, mz1, if_true, if_false, ite_true, ite_false, eq_self, not_false_eq_true, Nat.zero_le, true_and, and_true, and_self, Nat.reduceMod, Nat.reduceAdd, Nat.reduceLeDiff, Nat.reduceEqDiff, Nat.reduceLT, hge, hw, hpl, hq, jp, jpm, hn, lc, lj]
  have h1 : Ex (d) 164 0 [some (.ref 5836), some (.int (iN l)), none] [] μ Q ↔ Ex (d) 164 2 [some (.ref 5836), some (.int (iN l)), some (.int (iN 0))] [] μ Q := by
    simp only [x164_0, x164_1a, x164_1b, x164_1c, x164_3, x164_4, x164_7, x164_10, x164_13, x164_16, x164_17, x164_20, x164_21, x164_22, x164_25, x164_26, x164_29, x164_32, x164_35, x164_36, x164_37, x164_38, x164_41, x164_42, x164_43, x164_46, x164_47, x164_50, x164_53, x164_56, x164_57, x164_58, x164_59, x164_62, x164_63, x164_64, x164_67, x164_68, x164_69a, x164_69b, x164_69c, x164_72, x164_75, x164_76, mzi, mInc, mne, mlt9, mrk, mI1, mI2, mI3, mI4, mL1, mL2, mL3, mL4, mQ1, mQ2, mQ3, mQ4, mT1, mcat0, mcat1, mcat2, mcat3, mcat4, mrf1, jK_v, jK_n, JA, mz1, if_true, if_false, ite_true, ite_false, eq_self, not_false_eq_true, Nat.zero_le, true_and, and_true, and_self, Nat.reduceMod, Nat.reduceAdd, Nat.reduceLeDiff, Nat.reduceEqDiff, Nat.reduceLT, hw, hpl, hq, jp, jpm, hn, lc, lj]
  rw [h1]
  exact jfst_loop (P := fun k => Ex (d) 164 2 [some (.ref 5836), some (.int (iN l)), some (.int (iN k))] [] μ Q) (R := fun x => Q (.inl (some (.int x))) μ) hyes hno hend (by omega)
theorem d_loadh {v : Int32} (hM : jMp μ p) (hn : jI μ (64 * p + 11) 2 = iN n) (h10 : n ≤ 10) : Ex (d) 194 0 [some (.ref 6732), some (.int v), none, none] [] μ Q ↔ Q (.inl (some (.int (rsum (fun k => if jI μ 7184 k = 1 then jI μ 7312 k >>> (v &&& 31) &&& 1 else 0) n)))) μ := by
  obtain ⟨hW, hp, hpl, hq⟩ := hM
  have hw := hW
  unfold jWd at hw
  unfold jMq at hq
  have jp := JP p
  have jpm := JPm p
  have loop : ∀ (k : Nat) (a : Int32), k < n → (Ex (d) 194 4 [some (.ref 6732), some (.int v), some (.int a), some (.int (iN k))] [] μ Q ↔ Ex (d) 194 4 [some (.ref 6732), some (.int v), some (.int (a + (if jI μ 7184 k = 1 then jI μ 7312 k >>> (v &&& 31) &&& 1 else 0))), some (.int (iN (k + 1)))] [] μ Q) := by
    intro k a hk
    have hlt : iN k < iN n := (iN_lt (by omega) (by omega)).mpr hk
    have hkc : (iN k).toNatClampNeg = k := iN_cl (by omega)
    have hkj : jin (iN k) 10 = true := iN_in (by omega) (by omega)
    all_goals rw [x194_4]
    all_goals by_cases g : jI μ 7184 k = 1
    all_goals simp only [x194_0, x194_1a, x194_1b, x194_1c, x194_2, x194_3a, x194_3b, x194_3c, x194_5, x194_6, x194_9, x194_12, x194_15, x194_18, x194_19, x194_22, x194_23, x194_24, x194_25, x194_28, x194_29, x194_30, x194_33, x194_34, x194_35, x194_36, x194_37, x194_38, x194_39, x194_40a, x194_40b, x194_40c, x194_41a, x194_41b, x194_41c, x194_44, x194_47, x194_48, mzi, mInc, mne, mlt9, mrk, mI1, mI2, mI3, mI4, mL1, mL2, mL3, mL4, mQ1, mQ2, mQ3, mQ4, mT1, mcat0, mcat1, mcat2, mcat3, mcat4, mrf1, jK_v, jK_n, JA, mz1, if_true, if_false, ite_true, ite_false, eq_self, not_false_eq_true, Nat.zero_le, true_and, and_true, and_self, Nat.reduceMod, Nat.reduceAdd, Nat.reduceLeDiff, Nat.reduceEqDiff, Nat.reduceLT, hlt, hkc, hkj, hw, hpl, hq, jp, jpm, hn, Int32.add_zero, g]
  have h0 := jfold_loop (P := fun k a => Ex (d) 194 4 [some (.ref 6732), some (.int v), some (.int a), some (.int (iN k))] [] μ Q) loop n 0 0 (by omega)
  have hge : ¬ iN n < iN n := iN_irr (by omega)
  have h1 : Ex (d) 194 0 [some (.ref 6732), some (.int v), none, none] [] μ Q ↔ Ex (d) 194 4 [some (.ref 6732), some (.int v), some (.int 0), some (.int (iN 0))] [] μ Q := by
    simp only [x194_0, x194_1a, x194_1b, x194_1c, x194_2, x194_3a, x194_3b, x194_3c, x194_5, x194_6, x194_9, x194_12, x194_15, x194_18, x194_19, x194_22, x194_23, x194_24, x194_25, x194_28, x194_29, x194_30, x194_33, x194_34, x194_35, x194_36, x194_37, x194_38, x194_39, x194_40a, x194_40b, x194_40c, x194_41a, x194_41b, x194_41c, x194_44, x194_47, x194_48, mzi, mInc, mne, mlt9, mrk, mI1, mI2, mI3, mI4, mL1, mL2, mL3, mL4, mQ1, mQ2, mQ3, mQ4, mT1, mcat0, mcat1, mcat2, mcat3, mcat4, mrf1, jK_v, jK_n, JA, mz1, if_true, if_false, ite_true, ite_false, eq_self, not_false_eq_true, Nat.zero_le, true_and, and_true, and_self, Nat.reduceMod, Nat.reduceAdd, Nat.reduceLeDiff, Nat.reduceEqDiff, Nat.reduceLT, hw, hpl, hq, jp, jpm, hn, Int32.add_zero]
  rw [h1, h0]
  simp only [x194_4, x194_0, x194_1a, x194_1b, x194_1c, x194_2, x194_3a, x194_3b, x194_3c, x194_5, x194_6, x194_9, x194_12, x194_15, x194_18, x194_19, x194_22, x194_23, x194_24, x194_25, x194_28, x194_29, x194_30, x194_33, x194_34, x194_35, x194_36, x194_37, x194_38, x194_39, x194_40a, x194_40b, x194_40c, x194_41a, x194_41b, x194_41c, x194_44, x194_47, x194_48, mzi, mInc, mne, mlt9, mrk, mI1, mI2, mI3, mI4, mL1, mL2, mL3, mL4, mQ1, mQ2, mQ3, mQ4, mT1, mcat0, mcat1, mcat2, mcat3, mcat4, mrf1, jK_v, jK_n, JA, mz1, if_true, if_false, ite_true, ite_false, eq_self, not_false_eq_true, Nat.zero_le, true_and, and_true, and_self, Nat.reduceMod, Nat.reduceAdd, Nat.reduceLeDiff, Nat.reduceEqDiff, Nat.reduceLT, hge, hw, hpl, hq, jp, jpm, hn, Int32.add_zero]
  rfl
theorem d_heldh {v : Int32} (hM : jMp μ p) (hn : jI μ (64 * p + 11) 2 = iN n) (h10 : n ≤ 10) : Ex (d) 208 0 [some (.ref 6732), some (.int v), none, none] [] μ Q ↔ Q (.inl (some (.int (rsum (fun k => if jI μ 7184 k = 1 then jI μ 7248 k >>> (v &&& 31) &&& 1 else 0) n)))) μ := by
  obtain ⟨hW, hp, hpl, hq⟩ := hM
  have hw := hW
  unfold jWd at hw
  unfold jMq at hq
  have jp := JP p
  have jpm := JPm p
  have loop : ∀ (k : Nat) (a : Int32), k < n → (Ex (d) 208 4 [some (.ref 6732), some (.int v), some (.int a), some (.int (iN k))] [] μ Q ↔ Ex (d) 208 4 [some (.ref 6732), some (.int v), some (.int (a + (if jI μ 7184 k = 1 then jI μ 7248 k >>> (v &&& 31) &&& 1 else 0))), some (.int (iN (k + 1)))] [] μ Q) := by
    intro k a hk
    have hlt : iN k < iN n := (iN_lt (by omega) (by omega)).mpr hk
    have hkc : (iN k).toNatClampNeg = k := iN_cl (by omega)
    have hkj : jin (iN k) 10 = true := iN_in (by omega) (by omega)
    all_goals rw [x208_4]
    all_goals by_cases g : jI μ 7184 k = 1
    all_goals simp only [x208_0, x208_1a, x208_1b, x208_1c, x208_2, x208_3a, x208_3b, x208_3c, x208_5, x208_6, x208_9, x208_12, x208_15, x208_18, x208_19, x208_22, x208_23, x208_24, x208_25, x208_28, x208_29, x208_30, x208_33, x208_34, x208_35, x208_36, x208_37, x208_38, x208_39, x208_40a, x208_40b, x208_40c, x208_41a, x208_41b, x208_41c, x208_44, x208_47, x208_48, mzi, mInc, mne, mlt9, mrk, mI1, mI2, mI3, mI4, mL1, mL2, mL3, mL4, mQ1, mQ2, mQ3, mQ4, mT1, mcat0, mcat1, mcat2, mcat3, mcat4, mrf1, jK_v, jK_n, JA, mz1, if_true, if_false, ite_true, ite_false, eq_self, not_false_eq_true, Nat.zero_le, true_and, and_true, and_self, Nat.reduceMod, Nat.reduceAdd, Nat.reduceLeDiff, Nat.reduceEqDiff, Nat.reduceLT, hlt, hkc, hkj, hw, hpl, hq, jp, jpm, hn, Int32.add_zero, g]
  have h0 := jfold_loop (P := fun k a => Ex (d) 208 4 [some (.ref 6732), some (.int v), some (.int a), some (.int (iN k))] [] μ Q) loop n 0 0 (by omega)
  have hge : ¬ iN n < iN n := iN_irr (by omega)
  have h1 : Ex (d) 208 0 [some (.ref 6732), some (.int v), none, none] [] μ Q ↔ Ex (d) 208 4 [some (.ref 6732), some (.int v), some (.int 0), some (.int (iN 0))] [] μ Q := by
    simp only [x208_0, x208_1a, x208_1b, x208_1c, x208_2, x208_3a, x208_3b, x208_3c, x208_5, x208_6, x208_9, x208_12, x208_15, x208_18, x208_19, x208_22, x208_23, x208_24, x208_25, x208_28, x208_29, x208_30, x208_33, x208_34, x208_35, x208_36, x208_37, x208_38, x208_39, x208_40a, x208_40b, x208_40c, x208_41a, x208_41b, x208_41c, x208_44, x208_47, x208_48, mzi, mInc, mne, mlt9, mrk, mI1, mI2, mI3, mI4, mL1, mL2, mL3, mL4, mQ1, mQ2, mQ3, mQ4, mT1, mcat0, mcat1, mcat2, mcat3, mcat4, mrf1, jK_v, jK_n, JA, mz1, if_true, if_false, ite_true, ite_false, eq_self, not_false_eq_true, Nat.zero_le, true_and, and_true, and_self, Nat.reduceMod, Nat.reduceAdd, Nat.reduceLeDiff, Nat.reduceEqDiff, Nat.reduceLT, hw, hpl, hq, jp, jpm, hn, Int32.add_zero]
  rw [h1, h0]
  simp only [x208_4, x208_0, x208_1a, x208_1b, x208_1c, x208_2, x208_3a, x208_3b, x208_3c, x208_5, x208_6, x208_9, x208_12, x208_15, x208_18, x208_19, x208_22, x208_23, x208_24, x208_25, x208_28, x208_29, x208_30, x208_33, x208_34, x208_35, x208_36, x208_37, x208_38, x208_39, x208_40a, x208_40b, x208_40c, x208_41a, x208_41b, x208_41c, x208_44, x208_47, x208_48, mzi, mInc, mne, mlt9, mrk, mI1, mI2, mI3, mI4, mL1, mL2, mL3, mL4, mQ1, mQ2, mQ3, mQ4, mT1, mcat0, mcat1, mcat2, mcat3, mcat4, mrf1, jK_v, jK_n, JA, mz1, if_true, if_false, ite_true, ite_false, eq_self, not_false_eq_true, Nat.zero_le, true_and, and_true, and_self, Nat.reduceMod, Nat.reduceAdd, Nat.reduceLeDiff, Nat.reduceEqDiff, Nat.reduceLT, hge, hw, hpl, hq, jp, jpm, hn, Int32.add_zero]
  rfl
theorem d_connh (hM : jMp μ p) (hn : jI μ (64 * p + 11) 2 = iN n) (h10 : n ≤ 10) : Ex (d) 145 0 [some (.ref 6732), none, none] [] μ Q ↔ Q (.inl (some (.int (rsum (fun k => jI μ 7184 k) n)))) μ := by
  obtain ⟨hW, hp, hpl, hq⟩ := hM
  have hw := hW
  unfold jWd at hw
  unfold jMq at hq
  have jp := JP p
  have jpm := JPm p
  have loop : ∀ (k : Nat) (a : Int32), k < n → (Ex (d) 145 4 [some (.ref 6732), some (.int a), some (.int (iN k))] [] μ Q ↔ Ex (d) 145 4 [some (.ref 6732), some (.int (a + jI μ 7184 k)), some (.int (iN (k + 1)))] [] μ Q) := by
    intro k a hk
    have hlt : iN k < iN n := (iN_lt (by omega) (by omega)).mpr hk
    have hkc : (iN k).toNatClampNeg = k := iN_cl (by omega)
    have hkj : jin (iN k) 10 = true := iN_in (by omega) (by omega)
    all_goals rw [x145_4]
    all_goals simp only [x145_0, x145_1a, x145_1b, x145_1c, x145_2, x145_3a, x145_3b, x145_3c, x145_5, x145_6, x145_9, x145_12, x145_15, x145_18, x145_19, x145_20, x145_23, x145_24, x145_25, x145_26a, x145_26b, x145_26c, x145_27a, x145_27b, x145_27c, x145_30, x145_33, x145_34, mzi, mInc, mne, mlt9, mrk, mI1, mI2, mI3, mI4, mL1, mL2, mL3, mL4, mQ1, mQ2, mQ3, mQ4, mT1, mcat0, mcat1, mcat2, mcat3, mcat4, mrf1, jK_v, jK_n, JA, mz1, if_true, if_false, ite_true, ite_false, eq_self, not_false_eq_true, Nat.zero_le, true_and, and_true, and_self, Nat.reduceMod, Nat.reduceAdd, Nat.reduceLeDiff, Nat.reduceEqDiff, Nat.reduceLT, hlt, hkc, hkj, hw, hpl, hq, jp, jpm, hn]
  have h0 := jfold_loop (P := fun k a => Ex (d) 145 4 [some (.ref 6732), some (.int a), some (.int (iN k))] [] μ Q) loop n 0 0 (by omega)
  have hge : ¬ iN n < iN n := iN_irr (by omega)
  have h1 : Ex (d) 145 0 [some (.ref 6732), none, none] [] μ Q ↔ Ex (d) 145 4 [some (.ref 6732), some (.int 0), some (.int (iN 0))] [] μ Q := by
    simp only [x145_0, x145_1a, x145_1b, x145_1c, x145_2, x145_3a, x145_3b, x145_3c, x145_5, x145_6, x145_9, x145_12, x145_15, x145_18, x145_19, x145_20, x145_23, x145_24, x145_25, x145_26a, x145_26b, x145_26c, x145_27a, x145_27b, x145_27c, x145_30, x145_33, x145_34, mzi, mInc, mne, mlt9, mrk, mI1, mI2, mI3, mI4, mL1, mL2, mL3, mL4, mQ1, mQ2, mQ3, mQ4, mT1, mcat0, mcat1, mcat2, mcat3, mcat4, mrf1, jK_v, jK_n, JA, mz1, if_true, if_false, ite_true, ite_false, eq_self, not_false_eq_true, Nat.zero_le, true_and, and_true, and_self, Nat.reduceMod, Nat.reduceAdd, Nat.reduceLeDiff, Nat.reduceEqDiff, Nat.reduceLT, hw, hpl, hq, jp, jpm, hn]
  rw [h1, h0]
  simp only [x145_4, x145_0, x145_1a, x145_1b, x145_1c, x145_2, x145_3a, x145_3b, x145_3c, x145_5, x145_6, x145_9, x145_12, x145_15, x145_18, x145_19, x145_20, x145_23, x145_24, x145_25, x145_26a, x145_26b, x145_26c, x145_27a, x145_27b, x145_27c, x145_30, x145_33, x145_34, mzi, mInc, mne, mlt9, mrk, mI1, mI2, mI3, mI4, mL1, mL2, mL3, mL4, mQ1, mQ2, mQ3, mQ4, mT1, mcat0, mcat1, mcat2, mcat3, mcat4, mrf1, jK_v, jK_n, JA, mz1, if_true, if_false, ite_true, ite_false, eq_self, not_false_eq_true, Nat.zero_le, true_and, and_true, and_self, Nat.reduceMod, Nat.reduceAdd, Nat.reduceLeDiff, Nat.reduceEqDiff, Nat.reduceLT, hge, hw, hpl, hq, jp, jpm, hn]
  rfl
theorem d_doingh {v : Int32} (hM : jMp μ p) (hn : jI μ (64 * p + 11) 2 = iN n) (h10 : n ≤ 10) : Ex (d) 146 0 [some (.ref 6732), some (.int v), none, none] [] μ Q ↔ Q (.inl (some (.int (rsum (fun k => if jI μ 6800 k = v then 1 else 0) n)))) μ := by
  obtain ⟨hW, hp, hpl, hq⟩ := hM
  have hw := hW
  unfold jWd at hw
  unfold jMq at hq
  have jp := JP p
  have jpm := JPm p
  have loop : ∀ (k : Nat) (a : Int32), k < n → (Ex (d) 146 4 [some (.ref 6732), some (.int v), some (.int a), some (.int (iN k))] [] μ Q ↔ Ex (d) 146 4 [some (.ref 6732), some (.int v), some (.int (a + (if jI μ 6800 k = v then 1 else 0))), some (.int (iN (k + 1)))] [] μ Q) := by
    intro k a hk
    have hlt : iN k < iN n := (iN_lt (by omega) (by omega)).mpr hk
    have hkc : (iN k).toNatClampNeg = k := iN_cl (by omega)
    have hkj : jin (iN k) 10 = true := iN_in (by omega) (by omega)
    all_goals rw [x146_4]
    all_goals by_cases g : jI μ 6800 k = v
    all_goals simp only [x146_0, x146_1a, x146_1b, x146_1c, x146_2, x146_3a, x146_3b, x146_3c, x146_5, x146_6, x146_9, x146_12, x146_15, x146_18, x146_19, x146_20, x146_23, x146_24, x146_25, x146_26, x146_29, x146_30, x146_33, x146_34, x146_35a, x146_35b, x146_35c, x146_36a, x146_36b, x146_36c, x146_39, x146_42, x146_43, mzi, mInc, mne, mlt9, mrk, mI1, mI2, mI3, mI4, mL1, mL2, mL3, mL4, mQ1, mQ2, mQ3, mQ4, mT1, mcat0, mcat1, mcat2, mcat3, mcat4, mrf1, jK_v, jK_n, JA, mz1, if_true, if_false, ite_true, ite_false, eq_self, not_false_eq_true, Nat.zero_le, true_and, and_true, and_self, Nat.reduceMod, Nat.reduceAdd, Nat.reduceLeDiff, Nat.reduceEqDiff, Nat.reduceLT, hlt, hkc, hkj, hw, hpl, hq, jp, jpm, hn, g]
  have h0 := jfold_loop (P := fun k a => Ex (d) 146 4 [some (.ref 6732), some (.int v), some (.int a), some (.int (iN k))] [] μ Q) loop n 0 0 (by omega)
  have hge : ¬ iN n < iN n := iN_irr (by omega)
  have h1 : Ex (d) 146 0 [some (.ref 6732), some (.int v), none, none] [] μ Q ↔ Ex (d) 146 4 [some (.ref 6732), some (.int v), some (.int 0), some (.int (iN 0))] [] μ Q := by
    simp only [x146_0, x146_1a, x146_1b, x146_1c, x146_2, x146_3a, x146_3b, x146_3c, x146_5, x146_6, x146_9, x146_12, x146_15, x146_18, x146_19, x146_20, x146_23, x146_24, x146_25, x146_26, x146_29, x146_30, x146_33, x146_34, x146_35a, x146_35b, x146_35c, x146_36a, x146_36b, x146_36c, x146_39, x146_42, x146_43, mzi, mInc, mne, mlt9, mrk, mI1, mI2, mI3, mI4, mL1, mL2, mL3, mL4, mQ1, mQ2, mQ3, mQ4, mT1, mcat0, mcat1, mcat2, mcat3, mcat4, mrf1, jK_v, jK_n, JA, mz1, if_true, if_false, ite_true, ite_false, eq_self, not_false_eq_true, Nat.zero_le, true_and, and_true, and_self, Nat.reduceMod, Nat.reduceAdd, Nat.reduceLeDiff, Nat.reduceEqDiff, Nat.reduceLT, hw, hpl, hq, jp, jpm, hn]
  rw [h1, h0]
  simp only [x146_4, x146_0, x146_1a, x146_1b, x146_1c, x146_2, x146_3a, x146_3b, x146_3c, x146_5, x146_6, x146_9, x146_12, x146_15, x146_18, x146_19, x146_20, x146_23, x146_24, x146_25, x146_26, x146_29, x146_30, x146_33, x146_34, x146_35a, x146_35b, x146_35c, x146_36a, x146_36b, x146_36c, x146_39, x146_42, x146_43, mzi, mInc, mne, mlt9, mrk, mI1, mI2, mI3, mI4, mL1, mL2, mL3, mL4, mQ1, mQ2, mQ3, mQ4, mT1, mcat0, mcat1, mcat2, mcat3, mcat4, mrf1, jK_v, jK_n, JA, mz1, if_true, if_false, ite_true, ite_false, eq_self, not_false_eq_true, Nat.zero_le, true_and, and_true, and_self, Nat.reduceMod, Nat.reduceAdd, Nat.reduceLeDiff, Nat.reduceEqDiff, Nat.reduceLT, hge, hw, hpl, hq, jp, jpm, hn]
  rfl
theorem d_placeh {v : Int32} (hW : jWd μ) (hw1 : jI μ 6732 7 = iN w) (hw2 : w ≤ 10) : Ex (d) 174 0 [some (.ref 6732), some (.int v), none] [] μ Q ↔ Q (.inl (some (.int (jfst (fun k => decide (jI μ 7056 k = v)) 0 (w - 0))))) μ := by
  have hw := hW
  unfold jWd at hw
  have hyes : ∀ k, 0 ≤ k → k < w → (jI μ 7056 k = v) → (Ex (d) 174 2 [some (.ref 6732), some (.int v), some (.int (iN k))] [] μ Q ↔ Q (.inl (some (.int (iN k)))) μ) := by
    intro k hlo hk hp
    have hlt : iN k < iN w := (iN_lt (by omega) (by omega)).mpr hk
    have hkc : (iN k).toNatClampNeg = k := iN_cl (by omega)
    have hkj : jin (iN k) 10 = true := iN_in (by omega) (by omega)
    rw [x174_2]
    simp only [x174_0, x174_1a, x174_1b, x174_1c, x174_3, x174_4, x174_7, x174_10, x174_11, x174_14, x174_15, x174_16, x174_17, x174_20, x174_21, x174_22a, x174_22b, x174_22c, x174_25, x174_28, x174_29, mzi, mInc, mne, mlt9, mrk, mI1, mI2, mI3, mI4, mL1, mL2, mL3, mL4, mQ1, mQ2, mQ3, mQ4, mT1, mcat0, mcat1, mcat2, mcat3, mcat4, mrf1, jK_v, jK_n, JA, mz1, if_true, if_false, ite_true, ite_false, eq_self, not_false_eq_true, Nat.zero_le, true_and, and_true, and_self, Nat.reduceMod, Nat.reduceAdd, Nat.reduceLeDiff, Nat.reduceEqDiff, Nat.reduceLT, hlt, hkc, hkj, hp, hw, hw1]
  have hno : ∀ k, 0 ≤ k → k < w → ¬ (jI μ 7056 k = v) → (Ex (d) 174 2 [some (.ref 6732), some (.int v), some (.int (iN k))] [] μ Q ↔ Ex (d) 174 2 [some (.ref 6732), some (.int v), some (.int (iN (k + 1)))] [] μ Q) := by
    intro k hlo hk hp
    have hlt : iN k < iN w := (iN_lt (by omega) (by omega)).mpr hk
    have hkc : (iN k).toNatClampNeg = k := iN_cl (by omega)
    have hkj : jin (iN k) 10 = true := iN_in (by omega) (by omega)
    rw [x174_2]
    simp only [x174_0, x174_1a, x174_1b, x174_1c, x174_3, x174_4, x174_7, x174_10, x174_11, x174_14, x174_15, x174_16, x174_17, x174_20, x174_21, x174_22a, x174_22b, x174_22c, x174_25, x174_28, x174_29, mzi, mInc, mne, mlt9, mrk, mI1, mI2, mI3, mI4, mL1, mL2, mL3, mL4, mQ1, mQ2, mQ3, mQ4, mT1, mcat0, mcat1, mcat2, mcat3, mcat4, mrf1, jK_v, jK_n, JA, mz1, if_true, if_false, ite_true, ite_false, eq_self, not_false_eq_true, Nat.zero_le, true_and, and_true, and_self, Nat.reduceMod, Nat.reduceAdd, Nat.reduceLeDiff, Nat.reduceEqDiff, Nat.reduceLT, hlt, hkc, hkj, hp, hw, hw1]
  have hge : ¬ iN w < iN w := iN_irr (by omega)
  have hend : Ex (d) 174 2 [some (.ref 6732), some (.int v), some (.int (iN (w)))] [] μ Q ↔ Q (.inl (some (.int (-1)))) μ := by
    simp only [↓if_neg hge, x174_2, x174_0, x174_1a, x174_1b, x174_1c, x174_3, x174_4, x174_7, x174_10, x174_11, x174_14, x174_15, x174_16, x174_17, x174_20, x174_21, x174_22a, x174_22b, x174_22c, x174_25, x174_28, x174_29, mzi, mInc, mne, mlt9, mrk, mI1, mI2, mI3, mI4, mL1, mL2, mL3, mL4, mQ1, mQ2, mQ3, mQ4, mT1, mcat0, mcat1, mcat2, mcat3, mcat4, mrf1, jK_v, jK_n, JA, mz1, if_true, if_false, ite_true, ite_false, eq_self, not_false_eq_true, Nat.zero_le, true_and, and_true, and_self, Nat.reduceMod, Nat.reduceAdd, Nat.reduceLeDiff, Nat.reduceEqDiff, Nat.reduceLT, hge, hw, hw1]
  have h1 : Ex (d) 174 0 [some (.ref 6732), some (.int v), none] [] μ Q ↔ Ex (d) 174 2 [some (.ref 6732), some (.int v), some (.int (iN 0))] [] μ Q := by
    simp only [x174_0, x174_1a, x174_1b, x174_1c, x174_3, x174_4, x174_7, x174_10, x174_11, x174_14, x174_15, x174_16, x174_17, x174_20, x174_21, x174_22a, x174_22b, x174_22c, x174_25, x174_28, x174_29, mzi, mInc, mne, mlt9, mrk, mI1, mI2, mI3, mI4, mL1, mL2, mL3, mL4, mQ1, mQ2, mQ3, mQ4, mT1, mcat0, mcat1, mcat2, mcat3, mcat4, mrf1, jK_v, jK_n, JA, mz1, if_true, if_false, ite_true, ite_false, eq_self, not_false_eq_true, Nat.zero_le, true_and, and_true, and_self, Nat.reduceMod, Nat.reduceAdd, Nat.reduceLeDiff, Nat.reduceEqDiff, Nat.reduceLT, hw, hw1]
  rw [h1]
  exact jfst_loop (P := fun k => Ex (d) 174 2 [some (.ref 6732), some (.int v), some (.int (iN k))] [] μ Q) (R := fun x => Q (.inl (some (.int x))) μ) hyes hno hend (by omega)
theorem d_calledh {l : Nat} (hl : l < 10) (hM : jMp μ p) (hn : jI μ (64 * p + 11) 2 = iN n) (h10 : n ≤ 10) : Ex (d) 164 0 [some (.ref 6732), some (.int (iN l)), none] [] μ Q ↔ Q (.inl (some (.int (jfst (fun k => decide (0 < jI μ 6928 l ∧ jI μ (64 * p + 272) k = jI μ 6928 l ∧ jI μ (64 * p + 208) k = jI μ 6864 l)) 0 (n - 0))))) μ := by
  obtain ⟨hW, hp, hpl, hq⟩ := hM
  have hw := hW
  unfold jWd at hw
  unfold jMq at hq
  have jp := JP p
  have jpm := JPm p
  have lc : (iN l).toNatClampNeg = l := iN_cl (by omega)
  have lj : jin (iN l) 10 = true := iN_in (by omega) (by omega)
  have hyes : ∀ k, 0 ≤ k → k < n → (0 < jI μ 6928 l ∧ jI μ (64 * p + 272) k = jI μ 6928 l ∧ jI μ (64 * p + 208) k = jI μ 6864 l) → (Ex (d) 164 2 [some (.ref 6732), some (.int (iN l)), some (.int (iN k))] [] μ Q ↔ Q (.inl (some (.int (iN k)))) μ) := by
    intro k hlo hk hp
    have hlt : iN k < iN n := (iN_lt (by omega) (by omega)).mpr hk
    have hkc : (iN k).toNatClampNeg = k := iN_cl (by omega)
    have hkj : jin (iN k) 10 = true := iN_in (by omega) (by omega)
    rw [x164_2]
    simp only [x164_0, x164_1a, x164_1b, x164_1c, x164_3, x164_4, x164_7, x164_10, x164_13, x164_16, x164_17, x164_20, x164_21, x164_22, x164_25, x164_26, x164_29, x164_32, x164_35, x164_36, x164_37, x164_38, x164_41, x164_42, x164_43, x164_46, x164_47, x164_50, x164_53, x164_56, x164_57, x164_58, x164_59, x164_62, x164_63, x164_64, x164_67, x164_68, x164_69a, x164_69b, x164_69c, x164_72, x164_75, x164_76, mzi, mInc, mne, mlt9, mrk, mI1, mI2, mI3, mI4, mL1, mL2, mL3, mL4, mQ1, mQ2, mQ3, mQ4, mT1, mcat0, mcat1, mcat2, mcat3, mcat4, mrf1, jK_v, jK_n, JA, mz1, if_true, if_false, ite_true, ite_false, eq_self, not_false_eq_true, Nat.zero_le, true_and, and_true, and_self, Nat.reduceMod, Nat.reduceAdd, Nat.reduceLeDiff, Nat.reduceEqDiff, Nat.reduceLT, hlt, hkc, hkj, hp, hw, hpl, hq, jp, jpm, hn, lc, lj]
  have hno : ∀ k, 0 ≤ k → k < n → ¬ (0 < jI μ 6928 l ∧ jI μ (64 * p + 272) k = jI μ 6928 l ∧ jI μ (64 * p + 208) k = jI μ 6864 l) → (Ex (d) 164 2 [some (.ref 6732), some (.int (iN l)), some (.int (iN k))] [] μ Q ↔ Ex (d) 164 2 [some (.ref 6732), some (.int (iN l)), some (.int (iN (k + 1)))] [] μ Q) := by
    intro k hlo hk hp
    have hlt : iN k < iN n := (iN_lt (by omega) (by omega)).mpr hk
    have hkc : (iN k).toNatClampNeg = k := iN_cl (by omega)
    have hkj : jin (iN k) 10 = true := iN_in (by omega) (by omega)
    rw [x164_2]
    simp only [x164_0, x164_1a, x164_1b, x164_1c, x164_3, x164_4, x164_7, x164_10, x164_13, x164_16, x164_17, x164_20, x164_21, x164_22, x164_25, x164_26, x164_29, x164_32, x164_35, x164_36, x164_37, x164_38, x164_41, x164_42, x164_43, x164_46, x164_47, x164_50, x164_53, x164_56, x164_57, x164_58, x164_59, x164_62, x164_63, x164_64, x164_67, x164_68, x164_69a, x164_69b, x164_69c, x164_72, x164_75, x164_76, mzi, mInc, mne, mlt9, mrk, mI1, mI2, mI3, mI4, mL1, mL2, mL3, mL4, mQ1, mQ2, mQ3, mQ4, mT1, mcat0, mcat1, mcat2, mcat3, mcat4, mrf1, jK_v, jK_n, JA, mz1, if_true, if_false, ite_true, ite_false, eq_self, not_false_eq_true, Nat.zero_le, true_and, and_true, and_self, Nat.reduceMod, Nat.reduceAdd, Nat.reduceLeDiff, Nat.reduceEqDiff, Nat.reduceLT, hlt, hkc, hkj, hp, hw, hpl, hq, jp, jpm, hn, lc, lj]
    repeat' split
    all_goals first | exact Iff.rfl | exact absurd ⟨‹_›, ‹_›, ‹_›⟩ hp
  have hge : ¬ iN n < iN n := iN_irr (by omega)
  have hend : Ex (d) 164 2 [some (.ref 6732), some (.int (iN l)), some (.int (iN (n)))] [] μ Q ↔ Q (.inl (some (.int (-1)))) μ := by
    simp only [↓if_neg hge, x164_2, x164_0, x164_1a, x164_1b, x164_1c, x164_3, x164_4, x164_7, x164_10, x164_13, x164_16, x164_17, x164_20, x164_21, x164_22, x164_25, x164_26, x164_29, x164_32, x164_35, x164_36, x164_37, x164_38, x164_41, x164_42, x164_43, x164_46, x164_47, x164_50, x164_53, x164_56, x164_57, x164_58, x164_59, x164_62, x164_63, x164_64, x164_67, x164_68, x164_69a, x164_69b, x164_69c, x164_72, x164_75, x164_76, mzi, mInc, mne, mlt9, mrk, mI1, mI2, mI3, mI4, mL1, mL2, mL3, mL4, mQ1, mQ2, mQ3, mQ4, mT1, mcat0, mcat1, mcat2, mcat3, mcat4, mrf1, jK_v, jK_n, JA, mz1, if_true, if_false, ite_true, ite_false, eq_self, not_false_eq_true, Nat.zero_le, true_and, and_true, and_self, Nat.reduceMod, Nat.reduceAdd, Nat.reduceLeDiff, Nat.reduceEqDiff, Nat.reduceLT, hge, hw, hpl, hq, jp, jpm, hn, lc, lj]
  have h1 : Ex (d) 164 0 [some (.ref 6732), some (.int (iN l)), none] [] μ Q ↔ Ex (d) 164 2 [some (.ref 6732), some (.int (iN l)), some (.int (iN 0))] [] μ Q := by
    simp only [x164_0, x164_1a, x164_1b, x164_1c, x164_3, x164_4, x164_7, x164_10, x164_13, x164_16, x164_17, x164_20, x164_21, x164_22, x164_25, x164_26, x164_29, x164_32, x164_35, x164_36, x164_37, x164_38, x164_41, x164_42, x164_43, x164_46, x164_47, x164_50, x164_53, x164_56, x164_57, x164_58, x164_59, x164_62, x164_63, x164_64, x164_67, x164_68, x164_69a, x164_69b, x164_69c, x164_72, x164_75, x164_76, mzi, mInc, mne, mlt9, mrk, mI1, mI2, mI3, mI4, mL1, mL2, mL3, mL4, mQ1, mQ2, mQ3, mQ4, mT1, mcat0, mcat1, mcat2, mcat3, mcat4, mrf1, jK_v, jK_n, JA, mz1, if_true, if_false, ite_true, ite_false, eq_self, not_false_eq_true, Nat.zero_le, true_and, and_true, and_self, Nat.reduceMod, Nat.reduceAdd, Nat.reduceLeDiff, Nat.reduceEqDiff, Nat.reduceLT, hw, hpl, hq, jp, jpm, hn, lc, lj]
  rw [h1]
  exact jfst_loop (P := fun k => Ex (d) 164 2 [some (.ref 6732), some (.int (iN l)), some (.int (iN k))] [] μ Q) (R := fun x => Q (.inl (some (.int x))) μ) hyes hno hend (by omega)
end C15
