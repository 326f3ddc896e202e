/-! THE PURE PART: a plan to be read, reference. -/
section FRONTD
variable {μ : jM} {N sz r : Nat} {b : Nat → Int32}
theorem kEnd_t {t : Nat} (hk : kTk b sz t = 38) : kTs b sz t + kTl b sz t ≤ sz ∧ kTs b sz t < sz := by
  have hd := kDig_t hk
  unfold kTk at hk
  split at hk
  · exact absurd hk (by decide)
  · unfold kKd at hk
    by_cases g1 : kTs b sz t < sz
    rotate_left
    · rw [if_pos g1] at hk
      exact absurd hk (by decide)
    rw [if_neg (by omega)] at hk
    refine ⟨?_, g1⟩
    have h1 := kSk_le (p := fun x => kLet x || kDgt x) (b := b) (sz := sz) (sz - kTs b sz t) (kTs b sz t)
    have h2 := kSk_le (p := kDgt) (b := b) (sz := sz) (sz - kTs b sz t) (kTs b sz t)
    by_cases g3 : kLet (b (kTs b sz t)) = true
    · have el : kTl b sz t = kSk (fun x => kLet x || kDgt x) b sz (sz - kTs b sz t) (kTs b sz t) - kTs b sz t := by
        unfold kTl kLn
        rw [if_pos g3]
      omega
    · by_cases g2 : kDgt (b (kTs b sz t)) = true
      · have el : kTl b sz t = kSk kDgt b sz (sz - kTs b sz t) (kTs b sz t) - kTs b sz t := by
          unfold kTl kLn
          rw [if_neg g3, if_pos g2]
        omega
      · exfalso
        rw [if_neg g2, if_neg g3] at hk
        rcases kFk_lt (p := kTxt b (kTs b sz t) (kTl b sz t)) (o := 40) 42 0 with ⟨a1, _⟩ | ⟨_, _, a3, _⟩
        · rw [a1] at hk
          exact absurd hk (by decide)
        · rw [hk] at a3
          have a4 := (of_decide_eq_true a3).1
          have a5 : (jstr (kTn 38)).length = 0 := by decide +kernel
          omega
/-- the memory with a new plan in it -/
def kNwM (μ : jM) : jM := jsQ (jmk (64 * (jA μ).length + 11) kPlFs (jnew μ 11)) 4490 12 (some (64 * (jA μ).length + 11))
theorem kNwM_f (hr : r = (jA μ).length) (h120 : 120 ≤ r) : jMq (kNwM μ) r ∧ jQ (kNwM μ) 4490 12 = some (64 * r + 11) ∧ (∀ a, a < 64 * r → jI (kNwM μ) a = jI μ a ∧ jL (kNwM μ) a = jL μ a ∧ (¬ a = 4490 → jQ (kNwM μ) a = jQ μ a)) ∧ (∀ k, ¬ k = 12 → jQ (kNwM μ) 4490 k = jQ μ 4490 k) ∧ jI (kNwM μ) (64 * r + 11) = (fun _ => 0) ∧ (jA (kNwM μ)).length = r + 14 ∧ jX (kNwM μ) = jX μ := by
  have hl : (jA (jnew μ 11)).length = r + 1 := by
    show (jA μ ++ [jadr μ 11]).length = _
    rw [List.length_append, hr]
    rfl
  unfold kNwM
  rw [← hr]
  have hx : 64 * r + 11 < 64 * (jA (jnew μ 11)).length := by rw [hl]; omega
  have hc : ∀ y ∈ kPlFs, y.2 < 64 := by decide
  obtain ⟨k1, k2⟩ := jmk_keep (x := 64 * r + 11) kPlFs (jnew μ 11) hx hc
  have hn : ∀ a, a < 64 * r → ¬ a = jadr μ 11 := fun a ha => by unfold jadr; omega
  have hlen := jmk_len (x := 64 * r + 11) kPlFs (jnew μ 11)
  have hgb := jmk_gb (x := 64 * r + 11) (b := r) (by omega) kPlFs (jnew μ 11) (by omega) hc
  refine ⟨?_, by rw [mQ1, if_pos rfl], fun a ha => ?_, fun k hk => ?_, ?_, ?_, ?_⟩
  · unfold jMq
    rw [mQ2 (by omega)]
    have n0 := (jmk_new (x := 64 * r + 11) kPlFs (jnew μ 11) hx hc (by decide) 0 (by decide)).1
    have n1 := (jmk_new (x := 64 * r + 11) kPlFs (jnew μ 11) hx hc (by decide) 1 (by decide)).1
    have n2 := (jmk_new (x := 64 * r + 11) kPlFs (jnew μ 11) hx hc (by decide) 2 (by decide)).1
    have n3 := (jmk_new (x := 64 * r + 11) kPlFs (jnew μ 11) hx hc (by decide) 3 (by decide)).1
    have n4 := (jmk_new (x := 64 * r + 11) kPlFs (jnew μ 11) hx hc (by decide) 4 (by decide)).1
    have n5 := (jmk_new (x := 64 * r + 11) kPlFs (jnew μ 11) hx hc (by decide) 5 (by decide)).1
    have n6 := (jmk_new (x := 64 * r + 11) kPlFs (jnew μ 11) hx hc (by decide) 6 (by decide)).1
    have n7 := (jmk_new (x := 64 * r + 11) kPlFs (jnew μ 11) hx hc (by decide) 7 (by decide)).1
    have n8 := (jmk_new (x := 64 * r + 11) kPlFs (jnew μ 11) hx hc (by decide) 8 (by decide)).1
    have n9 := (jmk_new (x := 64 * r + 11) kPlFs (jnew μ 11) hx hc (by decide) 9 (by decide)).1
    have n10 := (jmk_new (x := 64 * r + 11) kPlFs (jnew μ 11) hx hc (by decide) 10 (by decide)).1
    have n11 := (jmk_new (x := 64 * r + 11) kPlFs (jnew μ 11) hx hc (by decide) 11 (by decide)).1
    have n12 := (jmk_new (x := 64 * r + 11) kPlFs (jnew μ 11) hx hc (by decide) 12 (by decide)).1
    rw [hl] at n0 n1 n2 n3 n4 n5 n6 n7 n8 n9 n10 n11 n12
    exact ⟨n0.trans (congrArg some (by show 64 * (r + 1 + 0) + 20 = 64 * r + 84; omega)), n1.trans (congrArg some (by show 64 * (r + 1 + 1) + 16 = 64 * r + 144; omega)), n2.trans (congrArg some (by show 64 * (r + 1 + 2) + 16 = 64 * r + 208; omega)), n3.trans (congrArg some (by show 64 * (r + 1 + 3) + 16 = 64 * r + 272; omega)), n4.trans (congrArg some (by show 64 * (r + 1 + 4) + 16 = 64 * r + 336; omega)), n5.trans (congrArg some (by show 64 * (r + 1 + 5) + 16 = 64 * r + 400; omega)), n6.trans (congrArg some (by show 64 * (r + 1 + 6) + 16 = 64 * r + 464; omega)), n7.trans (congrArg some (by show 64 * (r + 1 + 7) + 16 = 64 * r + 528; omega)), n8.trans (congrArg some (by show 64 * (r + 1 + 8) + 18 = 64 * r + 594; omega)), n9.trans (congrArg some (by show 64 * (r + 1 + 9) + 19 = 64 * r + 659; omega)), n10.trans (congrArg some (by show 64 * (r + 1 + 10) + 19 = 64 * r + 723; omega)), n11.trans (congrArg some (by show 64 * (r + 1 + 11) + 26 = 64 * r + 794; omega)), n12.trans (congrArg some (by show 64 * (r + 1 + 12) + 24 = 64 * r + 856; omega))⟩
  · obtain ⟨g1, g2, g3⟩ := k1 a (by omega)
    obtain ⟨r1, r2, r3⟩ := jnew_r (μ := μ) (c := 11) (hn a ha)
    exact ⟨by rw [mQ3]; exact g1.trans r1, by rw [mQ4]; exact g2.trans r2, fun h => by rw [mQ2 h, g3 (by omega), r3]⟩
  · rw [mQ1, if_neg hk, (k1 4490 (by omega)).2.2 (by omega)]
    rw [(jnew_r (μ := μ) (c := 11) (hn 4490 (by omega))).2.2]
  · rw [mQ3, (k1 (64 * r + 11) (by omega)).1, hr]
    exact jnew_z (μ := μ) (c := 11)
  · rw [mQ5, hlen, hl]
    rfl
  · rw [mQ6]
    exact hgb.2.2.1
end FRONTD
