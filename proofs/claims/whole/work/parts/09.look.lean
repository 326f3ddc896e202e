theorem look_1 : jcode m_Exchange_placeInQueue 0 = some (.iconst 0, 1, 0, 0, 0, []) := rfl
theorem look_2 (x : Nat) (l : Int32) (μ : jM) : jrun 2 m_Exchange_placeInQueue 0 [some (.ref x), some (.int l), none] [] μ = some (2, [some (.ref x), some (.int l), some (.int 0)], [], μ) := rfl
