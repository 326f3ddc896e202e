/-! THE PURE PART: before the first token. -/
section INIT
variable {A B : jM} {r N sz t : Nat} {kd : Nat → Nat} {b : Nat → Int32}
def kClM (μ : jM) : jM := jsI (jsI (jsI (jsI (jsI μ 579 0 0) 579 1 0) 579 2 0) 579 3 0) 1156 3 0
theorem c_clear {d : Nat} {μ : jM} {Q : jO → jM → Prop} (hW : jWd μ) : Ex (d + 1) 46 0 [some (.ref 579)] [] μ Q ↔ Q (.inl none) (kClM μ) := by
  have hw := hW
  unfold jWd at hw
  unfold kClM
  simp only [x46_0, x46_1, x46_2, x46_5, x46_6, x46_7, x46_10, x46_11, x46_12, x46_15, x46_16, x46_17, x46_20, x46_21, x46_24, x46_27, x47_0, x47_1, x47_2, x47_5, mzi, mInc, mne, mlt9, mrk, mI1, mI2, mI3, mI4, mL1, mL2, mL3, mL4, mQ1, mQ2, mQ3, mQ4, mT1, mcat0, mcat1, mcat2, mcat3, mcat4, mrf1, jK_v, jK_n, JA, mz1, if_true, if_false, ite_true, ite_false, eq_self, not_false_eq_true, Nat.zero_le, true_and, and_true, and_self, Nat.reduceMod, Nat.reduceAdd, Nat.reduceLeDiff, Nat.reduceEqDiff, Nat.reduceLT, hw]
theorem kClM_0 {μ : jM} : (∀ k, k < 4 → jI (kClM μ) 579 k = 0) ∧ jI (kClM μ) 1156 3 = 0 ∧ (∀ a, ¬ a = 579 → ¬ a = 1156 → jI (kClM μ) a = jI μ a) ∧ (∀ k, ¬ k = 3 → jI (kClM μ) 1156 k = jI μ 1156 k) ∧ jQ (kClM μ) = jQ μ ∧ jL (kClM μ) = jL μ ∧ jA (kClM μ) = jA μ ∧ jX (kClM μ) = jX μ := by
  unfold kClM
  refine ⟨fun k hk => ?_, by rw [mI1, if_pos rfl], fun a h1 h2 => by rw [mI2 h2, mI2 h1, mI2 h1, mI2 h1, mI2 h1], fun k hk => by rw [mI1, if_neg hk, mI2 (by decide), mI2 (by decide), mI2 (by decide), mI2 (by decide)], rfl, rfl, rfl, rfl⟩
  rw [mI2 (by decide), mI1, mI1, mI1, mI1]
  repeat' split
  all_goals first | rfl | omega
/-- before the first token -/
theorem jMn_0 (h1 : jI A 579 0 = 0 ∧ jI A 579 1 = 0 ∧ jI A 579 2 = 0 ∧ jI A 579 3 = 0) (h2 : jI B (64 * r + 11) 0 = 0 ∧ jI B (64 * r + 11) 2 = 0 ∧ jI B (64 * r + 11) 6 = 0 ∧ jI B (64 * r + 11) 11 = 0) : jMn A B A B r kd b sz 0 := by
  obtain ⟨a1, a2, a3, a4⟩ := h1
  obtain ⟨b1, b2, b3, b4⟩ := h2
  refine ⟨⟨fun _ _ _ _ => rfl, fun _ _ => rfl, fun _ _ => rfl, rfl, fun _ _ _ _ => rfl, rfl, rfl⟩, ⟨fun _ _ _ _ => rfl, fun _ _ => rfl, fun _ _ _ _ _ => rfl, rfl, rfl, rfl, rfl⟩, ⟨a1, b1, Nat.zero_le _⟩, ⟨a2, b2, Nat.zero_le _⟩, ⟨a3, b3, Nat.zero_le _⟩, ⟨a4, b4, Nat.zero_le _⟩, fun k hk => absurd hk (by omega), fun k hk => absurd hk (by omega), fun k hk => absurd hk (by omega), fun k hk => absurd hk (Nat.not_lt_zero _), fun k hk => absurd hk (Nat.not_lt_zero _), fun k hk => absurd hk (Nat.not_lt_zero _), fun k hk => absurd hk (Nat.not_lt_zero _), fun k j hk => absurd hk (Nat.not_lt_zero _), fun k hk => absurd hk (Nat.not_lt_zero _), fun k hk => absurd hk (Nat.not_lt_zero _), fun k hk => absurd hk (Nat.not_lt_zero _), fun k hk => absurd hk (Nat.not_lt_zero _), fun k hk => absurd hk (Nat.not_lt_zero _), fun k hk => absurd hk (by omega), fun k hk => absurd hk (by omega), fun k hk => absurd hk (by omega), fun k hk => absurd hk (by omega), Nat.le_refl _, fun t _ => rfl⟩
/-- how many figures a number has -/
theorem kDig_t (hk : kTk b sz t = 38) : 1 ≤ kTl b sz t ∧ kTl b sz t ≤ 6 := by
  unfold kTk at hk
  split at hk
  · exact absurd hk (by decide)
  · unfold kKd at hk
    by_cases g1 : kTs b sz t < sz
    rotate_left
    · rw [if_pos g1] at hk
      exact absurd hk (by decide)
    rw [if_neg (by omega)] at hk
    by_cases g2 : kDgt (b (kTs b sz t)) = true
    · rw [if_pos g2] at hk
      by_cases g3 : kTl b sz t ≤ 6
      · refine ⟨?_, g3⟩
        have hl : kLet (b (kTs b sz t)) = false := by
          unfold kDgt at g2
          unfold kLet
          have g2' := of_decide_eq_true g2
          refine decide_eq_false fun q => q.1 ?_
          have h1 := Int32.not_lt.mp g2'.2
          exact Int32.lt_of_le_of_lt h1 (by decide)
        unfold kTl kLn
        rw [if_neg (by rw [hl]; decide), if_pos g2]
        obtain ⟨f, hf⟩ : ∃ f, sz - kTs b sz t = f + 1 := ⟨sz - kTs b sz t - 1, by omega⟩
        rw [hf]
        unfold kSk
        rw [if_pos ⟨g1, g2⟩]
        have := (kSk_le (p := kDgt) (b := b) (sz := sz) f (kTs b sz t + 1)).1
        omega
      · rw [if_neg g3] at hk
        exact absurd hk (by decide)
    · rw [if_neg g2] at hk
      by_cases g3 : kLet (b (kTs b sz t)) = true
      · rw [if_pos g3] at hk
        by_cases g4 : kTl b sz t ≤ 10
        · rw [if_pos g4] at hk
          rcases kFk_lt (p := kTxt b (kTs b sz t) (kTl b sz t)) (o := 37) 42 0 with ⟨a1, _⟩ | ⟨_, _, a3, _⟩
          · rw [a1] at hk
            exact absurd hk (by decide)
          · rw [hk] at a3
            have a4 := (of_decide_eq_true a3).1
            have a5 : (jstr (kTn 38)).length = 0 := by decide +kernel
            have a6 : 1 ≤ kTl b sz t := by
              unfold kTl kLn
              rw [if_pos g3]
              obtain ⟨f, hf⟩ : ∃ f, sz - kTs b sz t = f + 1 := ⟨sz - kTs b sz t - 1, by omega⟩
              rw [hf]
              unfold kSk
              rw [if_pos ⟨g1, by show (kLet (b (kTs b sz t)) || kDgt (b (kTs b sz t))) = true; rw [g3]; rfl⟩]
              have := (kSk_le (p := fun x => kLet x || kDgt x) (b := b) (sz := sz) f (kTs b sz t + 1)).1
              omega
            omega
        · rw [if_neg g4] at hk
          exact absurd hk (by decide)
      · rw [if_neg g3] at hk
        rcases kFk_lt (p := kTxt b (kTs b sz t) (kTl b sz t)) (o := 40) 42 0 with ⟨a1, _⟩ | ⟨_, _, a3, _⟩
        · rw [a1] at hk
          exact absurd hk (by decide)
        · rw [hk] at a3
          have a4 := (of_decide_eq_true a3).1
          have a5 : (jstr (kTn 38)).length = 0 := by decide +kernel
          have a6 : 1 ≤ kTl b sz t := by
            unfold kTl kLn
            rw [if_neg g3, if_neg g2]
            split <;> omega
          omega
end INIT
