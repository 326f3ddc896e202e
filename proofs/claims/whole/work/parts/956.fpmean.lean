/-! THE PURE PART: a mean is a number. -/
section FPMEAN
theorem fp_enc {c : Nat} {q : Int} {s : Bool} (hc : c < 9007199254740992) (hq : q ≤ 971) : Jvm.FP.Core.encode Jvm.FP.Core.b64 (.fin s c q) % 9223372036854775808 ≤ 9218868437227405312 := by
  have ht : Jvm.FP.Core.Fmt.tails Jvm.FP.Core.b64 = 4503599627370496 := by decide
  have he : Jvm.FP.Core.Fmt.exps Jvm.FP.Core.b64 = 2048 := by decide
  have hm : Jvm.FP.Core.Fmt.qmin Jvm.FP.Core.b64 = -1074 := by decide
  unfold Jvm.FP.Core.encode Jvm.FP.Core.assemble
  simp only [ht, he, hm]
  cases s
  · show (if c < 4503599627370496 then (0 * 2048 + 0) * 4503599627370496 + c else (0 * 2048 + ((q - -1074).toNat + 1)) * 4503599627370496 + (c - 4503599627370496)) % _ ≤ _
    split <;> omega
  · show (if c < 4503599627370496 then (1 * 2048 + 0) * 4503599627370496 + c else (1 * 2048 + ((q - -1074).toNat + 1)) * 4503599627370496 + (c - 4503599627370496)) % _ ≤ _
    split <;> omega
theorem fp_inf {s : Bool} : Jvm.FP.Core.encode Jvm.FP.Core.b64 (.inf s) % 9223372036854775808 ≤ 9218868437227405312 := by
  cases s <;> decide +kernel
theorem fp_bd {c : Nat} {q : Int} {s : Bool} (hc : c < 9007199254740992) : Jvm.FP.Core.encode Jvm.FP.Core.b64 (Jvm.FP.Core.bound Jvm.FP.Core.b64 s c q) % 9223372036854775808 ≤ 9218868437227405312 := by
  have hm : Jvm.FP.Core.Fmt.qmax Jvm.FP.Core.b64 = 971 := by decide
  unfold Jvm.FP.Core.bound
  rw [hm]
  split
  · next h => exact fp_enc hc h
  · exact fp_inf
theorem fp_rr {s : Bool} {num den : Nat} {e : Int} : Jvm.FP.Core.encode Jvm.FP.Core.b64 (Jvm.FP.Core.roundRatio Jvm.FP.Core.b64 s num den e) % 9223372036854775808 ≤ 9218868437227405312 := by
  have ht : Jvm.FP.Core.Fmt.tails Jvm.FP.Core.b64 = 4503599627370496 := by decide
  have hm : Jvm.FP.Core.Fmt.qmin Jvm.FP.Core.b64 = -1074 := by decide
  have hp : 2 ^ Jvm.FP.Core.Fmt.p Jvm.FP.Core.b64 = 9007199254740992 := by decide
  unfold Jvm.FP.Core.roundRatio
  split
  · rw [hm]
    exact fp_enc (by decide) (by decide)
  · unfold Jvm.FP.Core.roundAt Jvm.FP.Core.settle
    rw [hp, ht]
    split
    · next h => exact fp_bd h
    · exact fp_bd (by decide)
theorem fp_nn {n : Nat} (h : n % 9223372036854775808 ≤ 9218868437227405312) : ¬ Jvm.FP.Core.decode Jvm.FP.Core.b64 n = .nan := by
  have ht : Jvm.FP.Core.Fmt.tails Jvm.FP.Core.b64 = 4503599627370496 := by decide
  have he : Jvm.FP.Core.Fmt.exps Jvm.FP.Core.b64 = 2048 := by decide
  unfold Jvm.FP.Core.decode Jvm.FP.Core.fieldE Jvm.FP.Core.fieldT
  rw [ht, he]
  split
  · split
    · intro q; cases q
    · intro _; omega
  · split
    · intro q; cases q
    · intro q; cases q
theorem fp_y : ∀ n, n < 11 → ¬ n = 0 → ∃ s c q, Jvm.FP.Core.decode Jvm.FP.Core.b64 (FP.i2d (iN n)).toNat = .fin s c q ∧ ¬ c = 0 := by
  intro n hn h0
  have h : ∀ n, n < 11 → ¬ n = 0 → (match Jvm.FP.Core.decode Jvm.FP.Core.b64 (FP.i2d (iN n)).toNat with | .fin _ c _ => decide (¬ c = 0) | _ => false) = true := by decide +kernel
  have h2 := h n hn h0
  cases hd : Jvm.FP.Core.decode Jvm.FP.Core.b64 (FP.i2d (iN n)).toNat with
  | nan => rw [hd] at h2; cases h2
  | inf s => rw [hd] at h2; cases h2
  | fin s c q =>
    rw [hd] at h2
    exact ⟨s, c, q, rfl, of_decide_eq_true h2⟩
theorem fp_x (a : Int32) : ¬ Jvm.FP.Core.decode Jvm.FP.Core.b64 (FP.i2d a).toNat = .nan := by
  have e : (FP.i2d a).toNat = Jvm.FP.Core.encode Jvm.FP.Core.b64 (Jvm.FP.Core.roundRatio Jvm.FP.Core.b64 (decide (a.toInt < 0)) a.toInt.natAbs 1 0) % 18446744073709551616 := rfl
  refine fp_nn ?_
  rw [e]
  have := fp_rr (s := decide (a.toInt < 0)) (num := a.toInt.natAbs) (den := 1) (e := 0)
  omega
/-- the mean is a number -/
theorem fp_mean (a : Int32) {n : Nat} (hn : n < 11) (h0 : ¬ n = 0) : FP.ddiv (FP.i2d a) (FP.i2d (iN n)) &&& 0x7fffffffffffffff ≤ 0x7ff0000000000000 := by
  obtain ⟨t, d, r, hy, hd⟩ := fp_y n hn h0
  have hx := fp_x a
  have hq : Jvm.FP.Core.encode Jvm.FP.Core.b64 (Jvm.FP.Core.quotient Jvm.FP.Core.b64 (Jvm.FP.Core.decode Jvm.FP.Core.b64 (FP.i2d a).toNat) (Jvm.FP.Core.decode Jvm.FP.Core.b64 (FP.i2d (iN n)).toNat)) % 9223372036854775808 ≤ 9218868437227405312 := by
    rw [hy]
    cases hc : Jvm.FP.Core.decode Jvm.FP.Core.b64 (FP.i2d a).toNat with
    | nan => exact absurd hc hx
    | inf s => exact fp_inf
    | fin s c q =>
      show Jvm.FP.Core.encode Jvm.FP.Core.b64 (if d = 0 then _ else _) % _ ≤ _
      rw [if_neg hd]
      exact fp_rr
  rw [UInt64.le_iff_toNat_le, UInt64.toNat_and]
  have e : (FP.ddiv (FP.i2d a) (FP.i2d (iN n))).toNat = Jvm.FP.Core.encode Jvm.FP.Core.b64 (Jvm.FP.Core.quotient Jvm.FP.Core.b64 (Jvm.FP.Core.decode Jvm.FP.Core.b64 (FP.i2d a).toNat) (Jvm.FP.Core.decode Jvm.FP.Core.b64 (FP.i2d (iN n)).toNat)) % 18446744073709551616 := rfl
  rw [e, show (0x7fffffffffffffff : UInt64).toNat = 2 ^ 63 - 1 from rfl, Nat.and_two_pow_sub_one_eq_mod]
  show _ ≤ 9218868437227405312
  generalize Jvm.FP.Core.encode Jvm.FP.Core.b64 (Jvm.FP.Core.quotient Jvm.FP.Core.b64 (Jvm.FP.Core.decode Jvm.FP.Core.b64 (FP.i2d a).toNat) (Jvm.FP.Core.decode Jvm.FP.Core.b64 (FP.i2d (iN n)).toNat)) = z at hq ⊢
  omega
end FPMEAN
