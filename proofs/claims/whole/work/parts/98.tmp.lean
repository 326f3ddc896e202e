def jinit (L : Nat) (xs : Nat → Int32) : jM := (fun a k => if a = 44 then xs k else if a = 45 then Int32.ofNat L else 0, fun _ _ => 0, fun _ _ => none, [], 0)
theorem jmk_ok : ∀ i, i < 276 → jmchk i = true := sorry
theorem jck_ok : ∀ i pc E, i < 276 → jcode i pc = some E → jchk i pc E = true := sorry
theorem jpure (L : Nat) (xs : Nat → Int32) (hL : L ≤ 3072) : ∃ (n : Nat) (μ' : jM), jev n 150 0 0 (jent 0 [.ref 44]) [] (jinit L xs) = some (.inl (some (.int 1)), μ') ∧ jnc μ' ≤ 601024 ∧ jns μ' ≤ 7293034 := sorry
