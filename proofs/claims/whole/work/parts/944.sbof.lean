/-! THE PURE PART: between the two walks, reference. -/
section SBOF
variable {ν : jM} {N sz r : Nat} {b : Nat → Int32} {num : Nat → Int32} {E : List (Nat × Nat)} {v : Int32}
/-- what the reference has read, as the second walk wants it -/
theorem sb_of (h0 : jR0 ν r (kTk b sz) N b sz) (hP : jRr ν ν r (kTk b sz) num N (N - 1) 0 E) (hrow : ∀ k, k < N → kTs b sz k < sz → jI ν 4761 k = iN (kTl b sz k)) (hB : ∀ i, i < sz → ∃ v, v < 256 ∧ b i = iN v) : jSb ν r (kTk b sz) N b sz := by
  obtain ⟨_, _, _, _, _, _, _, f8, _⟩ := hP
  refine ⟨h0, f8, fun k hk h37 => ?_⟩
  obtain ⟨g1, g2, g3⟩ := kGoo_t hB h37
  exact ⟨hrow k (by omega) g3, g1, g2⟩
theorem jDf_0 : jDf r ν ν := ⟨fun _ _ _ _ => rfl, fun _ _ => rfl, fun _ _ _ _ _ => rfl, rfl, rfl, rfl, rfl⟩
theorem sb_9 (h : jSb ν r (kTk b sz) N b sz) : jSb (jsI ν 4490 9 v) r (kTk b sz) N b sz := jSb_f h (jDf_9 jDf_0 h.1.2.2.1)
end SBOF
