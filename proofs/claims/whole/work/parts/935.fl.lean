/-! THE PURE PART: tests as lists. -/
theorem kSq_get {K : Nat → Option Nat} {S : Nat → Int32} : ∀ (L : List (Nat × Nat)) (k : Nat), kSq K S k L → ∀ j, j < L.length → K (k + j) = some (64 * (L.getD j (0, 0)).1 + 40) ∧ S (k + j) = iN (L.getD j (0, 0)).2
  | [], _, _, j, hj => absurd hj (by show ¬ j < 0; omega)
  | (c, t) :: q, k, h, j, hj => by
    obtain ⟨h1, h2, h3⟩ := h
    cases j with
    | zero => exact ⟨h1, h2⟩
    | succ j =>
      have := kSq_get q (k + 1) h3 j (by have : j + 1 < q.length + 1 := hj; omega)
      rw [show k + (j + 1) = k + 1 + j by omega]
      exact this
theorem kSeq_of {K : Nat → Nat} {S : Nat → Int32} : ∀ (L : List (Nat × Int32)) (k : Nat), (∀ j, j < L.length → K (k + j) = (L.getD j (0, 0)).1 ∧ S (k + j) = (L.getD j (0, 0)).2) → kSeq K S k L
  | [], _, _ => trivial
  | (c, s) :: q, k, h => by
    have h0 := h 0 (by show 0 < q.length + 1; omega)
    refine ⟨h0.1, h0.2, kSeq_of q (k + 1) fun j hj => ?_⟩
    have := h (j + 1) (by show j + 1 < q.length + 1; omega)
    rw [show k + 1 + j = k + (j + 1) by omega]
    exact this
theorem kVs_len {mean : Nat → Int32} {L : List (Nat × Nat)} : (kVs mean L).length = L.length := List.length_map _
theorem kVs_get {mean : Nat → Int32} : ∀ (L : List (Nat × Nat)) (j : Nat), j < L.length → (kVs mean L).getD j (0, 0) = ((L.getD j (0, 0)).1, mean (L.getD j (0, 0)).2)
  | [], j, hj => absurd hj (by show ¬ j < 0; omega)
  | (c, t) :: q, j, hj => by
    cases j with
    | zero => rfl
    | succ j => exact kVs_get q j (by have : j + 1 < q.length + 1 := hj; omega)
/-- the tests and what they shut, as one list -/
theorem kAll_fl {mean : Nat → Int32} {T : Nat → List (Nat × Int32)} {sh : Nat → Int32} : ∀ (Ls : List (List (Nat × Nat) × Nat)) (k : Nat), (∀ j, j < Ls.length → T (k + j) = kVs mean (Ls.getD j ([], 0)).1 ∧ sh (k + j) = mean (Ls.getD j ([], 0)).2) → kVs mean (kFl Ls) = kAll T sh k Ls.length
  | [], _, _ => rfl
  | (U, t) :: q, k, h => by
    have h0 := h 0 (by show 0 < q.length + 1; omega)
    have e1 : T k = kVs mean U := h0.1
    have e2 : sh k = mean t := h0.2
    have ih := kAll_fl (mean := mean) (T := T) (sh := sh) q (k + 1) fun j hj => by
      have := h (j + 1) (by show j + 1 < q.length + 1; omega)
      rw [show k + 1 + j = k + (j + 1) by omega]
      exact this
    show kVs mean (U ++ (10, t) :: kFl q) = T k ++ (10, sh k) :: kAll T sh (k + 1) q.length
    rw [kVs_app, e1, e2, ← ih]
    rfl
theorem kLns_get {kd : Nat → Nat} {N : Nat} {mean : Nat → Int32} : ∀ (Ls : List (List (Nat × Nat) × Nat)) (k : Nat), kLns kd N mean k Ls → ∀ j, j < Ls.length → kRole kd (Ls.getD j ([], 0)).2 = 12 ∧ (Ls.getD j ([], 0)).2 < N - 1 ∧ kCn kd 12 (Ls.getD j ([], 0)).2 = k + j ∧ (Ls.getD j ([], 0)).1.length < 398 ∧ (∀ x ∈ (Ls.getD j ([], 0)).1, kMem kd N x) ∧ ∀ E : Nat → Int32 → Int32, (∀ s, E 16 s = 0 ∨ E 16 s = 1) → kEf E false true 0 (kVs mean (Ls.getD j ([], 0)).1)
  | [], _, _, j, hj => absurd hj (by show ¬ j < 0; omega)
  | (U, t) :: q, k, h, j, hj => by
    obtain ⟨h1, h2, h3, h0, h4, h5, h6⟩ := h
    cases j with
    | zero => exact ⟨h1, h2, h3, h0, h4, h5⟩
    | succ j =>
      have := kLns_get q (k + 1) h6 j (by have : j + 1 < q.length + 1 := hj; omega)
      rw [show k + (j + 1) = k + 1 + j by omega]
      exact this
/-- a test is one value, true or false, and names what is there -/
theorem kTest_ok {kd : Nat → Nat} {N t n : Nat} {mean : Nat → Int32} {U : List (Nat × Nat)} (hm : ∀ x ∈ U, kMem kd N x) (he : ∀ E : Nat → Int32 → Int32, (∀ s, E 16 s = 0 ∨ E 16 s = 1) → kEf E false true 0 (kVs mean U)) (h14 : ∀ i, i < N - 1 → kRole kd i = 14 → ∃ u, u < t ∧ mean i = iN u) (h15 : ∀ i, i < N - 1 → kRole kd i = 15 → ∃ u, u < n ∧ mean i = iN u) : kVal 0 (kVs mean U) ∧ kBoo (kVs mean U) ∧ kIn t n (kVs mean U) ∧ ∀ x ∈ U, kOk x.1 := by
  have h0 := he (fun _ _ => 0) (fun _ => Or.inl rfl) 0 (fun _ => 0) (Nat.zero_le _) (fun hh => Bool.noConfusion hh)
  have hv : kVl 0 (kVs mean U) 1 := h0.1
  refine ⟨kVl_val _ _ hv, fun E hE => ?_, fun K s hx => ?_, fun x hx => ?_⟩
  · have h1 := he E hE 0 (fun _ => 0) (Nat.zero_le _) (fun hh => Bool.noConfusion hh)
    exact h1.2.2.2 rfl
  · obtain ⟨y, hy, hxy⟩ := List.mem_map.mp hx
    have e1 : y.1 = K := congrArg Prod.fst hxy
    have e2 : mean y.2 = s := congrArg Prod.snd hxy
    have hmy := hm y hy
    constructor
    · intro hK
      obtain ⟨a1, a2, a3, a4⟩ := hmy.1 (by omega)
      rw [← e2]
      exact h14 y.2 a4 (by unfold kRole; rw [if_pos a1, a3, e1, hK]; rfl)
    · intro hK
      obtain ⟨a1, a2, a3, a4⟩ := hmy.1 (by omega)
      rw [← e2]
      exact h15 y.2 a4 (by unfold kRole; rw [if_pos a1, a3, e1, hK]; rfl)
  · obtain ⟨h, hh⟩ := kVl_ok _ _ _ hv (x.1, mean x.2) (List.mem_map.mpr ⟨x, hx, rfl⟩)
    have h' : ∀ (K : Nat) (s : Int32), kOpOk K s h → kOk K := fun K s ho => by
      unfold kOpOk at ho
      unfold kOk
      rcases ho with q | ⟨q, _⟩ | ⟨q, _⟩ | ⟨q, _⟩ <;> omega
    exact h' _ _ hh
