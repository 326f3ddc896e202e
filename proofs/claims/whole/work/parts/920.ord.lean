/-! THE PURE PART: the order of what is told. -/
/-- how many tokens below i have the role x -/
def kCn (kd : Nat → Nat) (x : Nat) : Nat → Nat
  | 0 => 0
  | i + 1 => kCn kd x i + if kRole kd i = x then 1 else 0
/-- what is told when a token comes -/
def kDue (kd : Nat → Nat) (t : Nat) : Prop := (kRole kd t = 5 → kCn kd 1 t = kCn kd 5 t + 1) ∧ (kRole kd t = 9 → kCn kd 2 t = kCn kd 9 t + 1) ∧ (kRole kd t = 6 → kCn kd 2 t = kCn kd 6 t + 1) ∧ (kRole kd t = 10 → kCn kd 3 t = kCn kd 10 t + 1) ∧ (kRole kd t = 11 → kCn kd 3 t = kCn kd 11 t + 1 ∧ kCn kd 10 t = kCn kd 3 t) ∧ (kRole kd t = 7 → kCn kd 3 t = kCn kd 7 t + 1) ∧ (kRole kd t = 8 → kCn kd 3 t = kCn kd 8 t + 1) ∧ (kRole kd t = 12 → kCn kd 4 t = kCn kd 12 t + 1)
def kEven (kd : Nat → Nat) (i : Nat) : Prop := kCn kd 5 i = kCn kd 1 i ∧ kCn kd 9 i = kCn kd 2 i ∧ kCn kd 6 i = kCn kd 2 i ∧ kCn kd 10 i = kCn kd 3 i ∧ kCn kd 11 i = kCn kd 3 i ∧ kCn kd 7 i = kCn kd 3 i ∧ kCn kd 8 i = kCn kd 3 i ∧ kCn kd 12 i = kCn kd 4 i
section ORD
variable {kd : Nat → Nat} {N f i j t : Nat}
theorem kCn_s (kd : Nat → Nat) (x i : Nat) : kCn kd x (i + 1) = kCn kd x i + if kRole kd i = x then 1 else 0 := rfl
theorem kDue_0 (h : kRole kd t = 0 ∨ kRole kd t = 1 ∨ kRole kd t = 2 ∨ kRole kd t = 3 ∨ kRole kd t = 4 ∨ kRole kd t = 13 ∨ kRole kd t = 14 ∨ kRole kd t = 15) : kDue kd t := ⟨fun e => by omega, fun e => by omega, fun e => by omega, fun e => by omega, fun e => by omega, fun e => by omega, fun e => by omega, fun e => by omega⟩
theorem kTst_r (h : kTst kd t) : kRole kd t = 0 ∨ kRole kd t = 13 ∨ kRole kd t = 14 ∨ kRole kd t = 15 := by
  obtain ⟨h1, h2, h3⟩ := h
  unfold kRole
  by_cases a : kd t = 37
  · have := h2 a
    rw [if_pos a, if_neg (by omega), if_neg (by omega), if_neg (by omega), if_neg (by omega), if_neg (by omega), if_neg (by omega), if_neg (by omega)]
    repeat' split
    all_goals omega
  · rw [if_neg a]
    by_cases c : kd t = 38
    · have := h3 c
      rw [if_pos c, if_neg this.1, if_neg this.2.1, if_neg this.2.2.1, if_neg this.2.2.2]
      exact Or.inl rfl
    · rw [if_neg c, if_neg h1]
      exact Or.inl rfl
/-- over a test nothing is counted -/
theorem kCn_tst : ∀ m, (∀ t, i ≤ t → t < i + m → kTst kd t) → ∀ x, 1 ≤ x → x ≤ 12 → kCn kd x (i + m) = kCn kd x i
  | 0, _, _, _, _ => rfl
  | m + 1, h, x, h1, h2 => by
    show kCn kd x (i + m) + (if kRole kd (i + m) = x then 1 else 0) = _
    rw [if_neg (by have := kTst_r (h (i + m) (by omega) (by omega)); omega), Nat.add_zero]
    exact kCn_tst m (fun t a b => h t a (by omega)) x h1 h2
theorem kEven_1 (h : kEven kd i) (hr : kRole kd i = 0) : kEven kd (i + 1) := by
  unfold kEven at *
  simp only [kCn_s, hr, Nat.reduceEqDiff, if_false, Nat.add_zero]
  exact h
theorem kRole_x (h1 : ¬ kd i = 37) (h2 : ¬ kd i = 38) (h3 : ¬ kd i = 10) : kRole kd i = 0 := kRole_0 h1 h2 h3
theorem o_switch (hk : kd i = 0) (hE : kEven kd i) (ho : (kTks kd [37, 1, 38] (i + 1)).1 = true) : (∀ t, i ≤ t → t < (kTks kd [37, 1, 38] (i + 1)).2.1 → kDue kd t) ∧ kEven kd (kTks kd [37, 1, 38] (i + 1)).2.1 ∧ kCn kd 12 (kTks kd [37, 1, 38] (i + 1)).2.1 = kCn kd 12 i := by
  simp only [kTks] at ho ⊢
  have r0 : kRole kd i = 0 := kRole_0 (by omega) (by omega) (by omega)
  by_cases q0 : kd (i + 1) = 37
  rotate_left
  · rw [if_neg q0] at ho
    exact Bool.noConfusion (show false = true from ho)
  rw [if_pos q0] at ho ⊢
  have r1 : kRole kd (i + 1) = 1 := by unfold kRole; rw [if_pos q0, Nat.add_sub_cancel, hk]; rfl
  by_cases q1 : kd (i + 1 + 1) = 1
  rotate_left
  · rw [if_neg q1] at ho
    exact Bool.noConfusion (show false = true from ho)
  rw [if_pos q1] at ho ⊢
  have r2 : kRole kd (i + 1 + 1) = 0 := kRole_0 (by omega) (by omega) (by omega)
  by_cases q2 : kd (i + 1 + 1 + 1) = 38
  rotate_left
  · rw [if_neg q2] at ho
    exact Bool.noConfusion (show false = true from ho)
  rw [if_pos q2] at ho ⊢
  have r3 : kRole kd (i + 1 + 1 + 1) = 5 := by unfold kRole; rw [if_neg (by omega), if_pos q2, Nat.add_sub_cancel, q1]; rfl
  unfold kEven at hE
  obtain ⟨e1, e2, e3, e4, e5, e6, e7, e8⟩ := hE
  refine ⟨fun t h1 h2 => ?_, ?_, ?_⟩
  · have h2' : t < i + 1 + 1 + 1 + 1 := h2
    by_cases c0 : t = i
    · rw [c0]
      exact kDue_0 (by omega)
    · skip
      by_cases c1 : t = i + 1
      · rw [c1]
        exact kDue_0 (by omega)
      · skip
        by_cases c2 : t = i + 1 + 1
        · rw [c2]
          exact kDue_0 (by omega)
        · skip
          have c3 : t = i + 1 + 1 + 1 := by omega
          rw [c3]
          unfold kDue
          simp only [kCn_s, r0, r1, r2, r3, Nat.reduceEqDiff, if_false, if_true, Nat.add_zero, false_implies, true_implies, forall_const, true_and, and_true]
          omega
  · unfold kEven
    simp only [kCn_s, r0, r1, r2, r3, Nat.reduceEqDiff, if_false, if_true, Nat.add_zero]
    omega
  · simp only [kCn_s, r0, r1, r2, r3, Nat.reduceEqDiff, if_false, if_true, Nat.add_zero]
theorem o_line (hk : kd i = 2) (hE : kEven kd i) (ho : (kTks kd [37, 3, 37, 4, 38] (i + 1)).1 = true) : (∀ t, i ≤ t → t < (kTks kd [37, 3, 37, 4, 38] (i + 1)).2.1 → kDue kd t) ∧ kEven kd (kTks kd [37, 3, 37, 4, 38] (i + 1)).2.1 ∧ kCn kd 12 (kTks kd [37, 3, 37, 4, 38] (i + 1)).2.1 = kCn kd 12 i := by
  simp only [kTks] at ho ⊢
  have r0 : kRole kd i = 0 := kRole_0 (by omega) (by omega) (by omega)
  by_cases q0 : kd (i + 1) = 37
  rotate_left
  · rw [if_neg q0] at ho
    exact Bool.noConfusion (show false = true from ho)
  rw [if_pos q0] at ho ⊢
  have r1 : kRole kd (i + 1) = 2 := by unfold kRole; rw [if_pos q0, Nat.add_sub_cancel, hk]; rfl
  by_cases q1 : kd (i + 1 + 1) = 3
  rotate_left
  · rw [if_neg q1] at ho
    exact Bool.noConfusion (show false = true from ho)
  rw [if_pos q1] at ho ⊢
  have r2 : kRole kd (i + 1 + 1) = 0 := kRole_0 (by omega) (by omega) (by omega)
  by_cases q2 : kd (i + 1 + 1 + 1) = 37
  rotate_left
  · rw [if_neg q2] at ho
    exact Bool.noConfusion (show false = true from ho)
  rw [if_pos q2] at ho ⊢
  have r3 : kRole kd (i + 1 + 1 + 1) = 9 := by unfold kRole; rw [if_pos q2, Nat.add_sub_cancel, q1]; rfl
  by_cases q3 : kd (i + 1 + 1 + 1 + 1) = 4
  rotate_left
  · rw [if_neg q3] at ho
    exact Bool.noConfusion (show false = true from ho)
  rw [if_pos q3] at ho ⊢
  have r4 : kRole kd (i + 1 + 1 + 1 + 1) = 0 := kRole_0 (by omega) (by omega) (by omega)
  by_cases q4 : kd (i + 1 + 1 + 1 + 1 + 1) = 38
  rotate_left
  · rw [if_neg q4] at ho
    exact Bool.noConfusion (show false = true from ho)
  rw [if_pos q4] at ho ⊢
  have r5 : kRole kd (i + 1 + 1 + 1 + 1 + 1) = 6 := by unfold kRole; rw [if_neg (by omega), if_pos q4, Nat.add_sub_cancel, q3]; rfl
  unfold kEven at hE
  obtain ⟨e1, e2, e3, e4, e5, e6, e7, e8⟩ := hE
  refine ⟨fun t h1 h2 => ?_, ?_, ?_⟩
  · have h2' : t < i + 1 + 1 + 1 + 1 + 1 + 1 := h2
    by_cases c0 : t = i
    · rw [c0]
      exact kDue_0 (by omega)
    · skip
      by_cases c1 : t = i + 1
      · rw [c1]
        exact kDue_0 (by omega)
      · skip
        by_cases c2 : t = i + 1 + 1
        · rw [c2]
          exact kDue_0 (by omega)
        · skip
          by_cases c3 : t = i + 1 + 1 + 1
          · rw [c3]
            unfold kDue
            simp only [kCn_s, r0, r1, r2, r3, r4, r5, Nat.reduceEqDiff, if_false, if_true, Nat.add_zero, false_implies, true_implies, forall_const, true_and, and_true]
            omega
          · skip
            by_cases c4 : t = i + 1 + 1 + 1 + 1
            · rw [c4]
              exact kDue_0 (by omega)
            · skip
              have c5 : t = i + 1 + 1 + 1 + 1 + 1 := by omega
              rw [c5]
              unfold kDue
              simp only [kCn_s, r0, r1, r2, r3, r4, r5, Nat.reduceEqDiff, if_false, if_true, Nat.add_zero, false_implies, true_implies, forall_const, true_and, and_true]
              omega
  · unfold kEven
    simp only [kCn_s, r0, r1, r2, r3, r4, r5, Nat.reduceEqDiff, if_false, if_true, Nat.add_zero]
    omega
  · simp only [kCn_s, r0, r1, r2, r3, r4, r5, Nat.reduceEqDiff, if_false, if_true, Nat.add_zero]
theorem o_trunk (hk : kd i = 5) (hE : kEven kd i) (ho : (kTks kd [37, 6, 37, 7, 37, 8, 38, 9, 38] (i + 1)).1 = true) : (∀ t, i ≤ t → t < (kTks kd [37, 6, 37, 7, 37, 8, 38, 9, 38] (i + 1)).2.1 → kDue kd t) ∧ kEven kd (kTks kd [37, 6, 37, 7, 37, 8, 38, 9, 38] (i + 1)).2.1 ∧ kCn kd 12 (kTks kd [37, 6, 37, 7, 37, 8, 38, 9, 38] (i + 1)).2.1 = kCn kd 12 i := by
  simp only [kTks] at ho ⊢
  have r0 : kRole kd i = 0 := kRole_0 (by omega) (by omega) (by omega)
  by_cases q0 : kd (i + 1) = 37
  rotate_left
  · rw [if_neg q0] at ho
    exact Bool.noConfusion (show false = true from ho)
  rw [if_pos q0] at ho ⊢
  have r1 : kRole kd (i + 1) = 3 := by unfold kRole; rw [if_pos q0, Nat.add_sub_cancel, hk]; rfl
  by_cases q1 : kd (i + 1 + 1) = 6
  rotate_left
  · rw [if_neg q1] at ho
    exact Bool.noConfusion (show false = true from ho)
  rw [if_pos q1] at ho ⊢
  have r2 : kRole kd (i + 1 + 1) = 0 := kRole_0 (by omega) (by omega) (by omega)
  by_cases q2 : kd (i + 1 + 1 + 1) = 37
  rotate_left
  · rw [if_neg q2] at ho
    exact Bool.noConfusion (show false = true from ho)
  rw [if_pos q2] at ho ⊢
  have r3 : kRole kd (i + 1 + 1 + 1) = 10 := by unfold kRole; rw [if_pos q2, Nat.add_sub_cancel, q1]; rfl
  by_cases q3 : kd (i + 1 + 1 + 1 + 1) = 7
  rotate_left
  · rw [if_neg q3] at ho
    exact Bool.noConfusion (show false = true from ho)
  rw [if_pos q3] at ho ⊢
  have r4 : kRole kd (i + 1 + 1 + 1 + 1) = 0 := kRole_0 (by omega) (by omega) (by omega)
  by_cases q4 : kd (i + 1 + 1 + 1 + 1 + 1) = 37
  rotate_left
  · rw [if_neg q4] at ho
    exact Bool.noConfusion (show false = true from ho)
  rw [if_pos q4] at ho ⊢
  have r5 : kRole kd (i + 1 + 1 + 1 + 1 + 1) = 11 := by unfold kRole; rw [if_pos q4, Nat.add_sub_cancel, q3]; rfl
  by_cases q5 : kd (i + 1 + 1 + 1 + 1 + 1 + 1) = 8
  rotate_left
  · rw [if_neg q5] at ho
    exact Bool.noConfusion (show false = true from ho)
  rw [if_pos q5] at ho ⊢
  have r6 : kRole kd (i + 1 + 1 + 1 + 1 + 1 + 1) = 0 := kRole_0 (by omega) (by omega) (by omega)
  by_cases q6 : kd (i + 1 + 1 + 1 + 1 + 1 + 1 + 1) = 38
  rotate_left
  · rw [if_neg q6] at ho
    exact Bool.noConfusion (show false = true from ho)
  rw [if_pos q6] at ho ⊢
  have r7 : kRole kd (i + 1 + 1 + 1 + 1 + 1 + 1 + 1) = 7 := by unfold kRole; rw [if_neg (by omega), if_pos q6, Nat.add_sub_cancel, q5]; rfl
  by_cases q7 : kd (i + 1 + 1 + 1 + 1 + 1 + 1 + 1 + 1) = 9
  rotate_left
  · rw [if_neg q7] at ho
    exact Bool.noConfusion (show false = true from ho)
  rw [if_pos q7] at ho ⊢
  have r8 : kRole kd (i + 1 + 1 + 1 + 1 + 1 + 1 + 1 + 1) = 0 := kRole_0 (by omega) (by omega) (by omega)
  by_cases q8 : kd (i + 1 + 1 + 1 + 1 + 1 + 1 + 1 + 1 + 1) = 38
  rotate_left
  · rw [if_neg q8] at ho
    exact Bool.noConfusion (show false = true from ho)
  rw [if_pos q8] at ho ⊢
  have r9 : kRole kd (i + 1 + 1 + 1 + 1 + 1 + 1 + 1 + 1 + 1) = 8 := by unfold kRole; rw [if_neg (by omega), if_pos q8, Nat.add_sub_cancel, q7]; rfl
  unfold kEven at hE
  obtain ⟨e1, e2, e3, e4, e5, e6, e7, e8⟩ := hE
  refine ⟨fun t h1 h2 => ?_, ?_, ?_⟩
  · have h2' : t < i + 1 + 1 + 1 + 1 + 1 + 1 + 1 + 1 + 1 + 1 := h2
    by_cases c0 : t = i
    · rw [c0]
      exact kDue_0 (by omega)
    · skip
      by_cases c1 : t = i + 1
      · rw [c1]
        exact kDue_0 (by omega)
      · skip
        by_cases c2 : t = i + 1 + 1
        · rw [c2]
          exact kDue_0 (by omega)
        · skip
          by_cases c3 : t = i + 1 + 1 + 1
          · rw [c3]
            unfold kDue
            simp only [kCn_s, r0, r1, r2, r3, r4, r5, r6, r7, r8, r9, Nat.reduceEqDiff, if_false, if_true, Nat.add_zero, false_implies, true_implies, forall_const, true_and, and_true]
            omega
          · skip
            by_cases c4 : t = i + 1 + 1 + 1 + 1
            · rw [c4]
              exact kDue_0 (by omega)
            · skip
              by_cases c5 : t = i + 1 + 1 + 1 + 1 + 1
              · rw [c5]
                unfold kDue
                simp only [kCn_s, r0, r1, r2, r3, r4, r5, r6, r7, r8, r9, Nat.reduceEqDiff, if_false, if_true, Nat.add_zero, false_implies, true_implies, forall_const, true_and, and_true]
                omega
              · skip
                by_cases c6 : t = i + 1 + 1 + 1 + 1 + 1 + 1
                · rw [c6]
                  exact kDue_0 (by omega)
                · skip
                  by_cases c7 : t = i + 1 + 1 + 1 + 1 + 1 + 1 + 1
                  · rw [c7]
                    unfold kDue
                    simp only [kCn_s, r0, r1, r2, r3, r4, r5, r6, r7, r8, r9, Nat.reduceEqDiff, if_false, if_true, Nat.add_zero, false_implies, true_implies, forall_const, true_and, and_true]
                    omega
                  · skip
                    by_cases c8 : t = i + 1 + 1 + 1 + 1 + 1 + 1 + 1 + 1
                    · rw [c8]
                      exact kDue_0 (by omega)
                    · skip
                      have c9 : t = i + 1 + 1 + 1 + 1 + 1 + 1 + 1 + 1 + 1 := by omega
                      rw [c9]
                      unfold kDue
                      simp only [kCn_s, r0, r1, r2, r3, r4, r5, r6, r7, r8, r9, Nat.reduceEqDiff, if_false, if_true, Nat.add_zero, false_implies, true_implies, forall_const, true_and, and_true]
                      omega
  · unfold kEven
    simp only [kCn_s, r0, r1, r2, r3, r4, r5, r6, r7, r8, r9, Nat.reduceEqDiff, if_false, if_true, Nat.add_zero]
    omega
  · simp only [kCn_s, r0, r1, r2, r3, r4, r5, r6, r7, r8, r9, Nat.reduceEqDiff, if_false, if_true, Nat.add_zero]
/-- the tests told, one behind the other -/
def kLns (kd : Nat → Nat) (N : Nat) (mean : Nat → Int32) : Nat → List (List (Nat × Nat) × Nat) → Prop
  | _, [] => True
  | k, (T, t) :: r => kRole kd t = 12 ∧ t < N - 1 ∧ kCn kd 12 t = k ∧ T.length < 398 ∧ (∀ x ∈ T, kMem kd N x) ∧ (∀ E : Nat → Int32 → Int32, (∀ s, E 16 s = 0 ∨ E 16 s = 1) → kEf E false true 0 (kVs mean T)) ∧ kLns kd N mean (k + 1) r
theorem kLns_app {mean : Nat → Int32} : ∀ (L M : List (List (Nat × Nat) × Nat)) (k : Nat), kLns kd N mean k L → kLns kd N mean (k + L.length) M → kLns kd N mean k (L ++ M)
  | [], _, _, _, h => h
  | (T, t) :: r, M, k, ⟨a1, a2, a3, a0, a4, a5, a6⟩, h => ⟨a1, a2, a3, a0, a4, a5, kLns_app r M (k + 1) a6 (by rw [show k + 1 + r.length = k + (r.length + 1) by omega]; exact h)⟩
variable {mean : Nat → Int32}
theorem o_shut (hT : kTok kd N) (hM : kNam kd N mean) (hi : i ≤ N - 1) (hk : kd i = 10) (hE : kEven kd i) (ho : (kBd (kBd (kTks kd [37, 11] (i + 1)) (kP kd f 9 0)) (kEm 10 (i + 1))).1 = true) : ((∀ t, i ≤ t → t < (kBd (kBd (kTks kd [37, 11] (i + 1)) (kP kd f 9 0)) (kEm 10 (i + 1))).2.1 → kDue kd t) ∧ kEven kd (kBd (kBd (kTks kd [37, 11] (i + 1)) (kP kd f 9 0)) (kEm 10 (i + 1))).2.1) ∧ kLns kd N mean (kCn kd 12 i) (kShs kd f i) ∧ kCn kd 12 (kBd (kBd (kTks kd [37, 11] (i + 1)) (kP kd f 9 0)) (kEm 10 (i + 1))).2.1 = kCn kd 12 i + 1 := by
  have i1 := kTok_lt hT hi (by omega)
  simp only [kTks] at ho ⊢
  have r0 : kRole kd i = 4 := by unfold kRole; rw [if_neg (by omega), if_neg (by omega), if_pos hk]
  by_cases q0 : kd (i + 1) = 37
  rotate_left
  · rw [if_neg q0, kBd_f (r := kBd (kNo (i + 1)) (kP kd f 9 0)) rfl, kBd_f (r := kNo (i + 1)) rfl] at ho
    exact Bool.noConfusion (show false = true from ho)
  rw [if_pos q0] at ho ⊢
  have i2 := kTok_lt hT i1 (by omega)
  have r1 : kRole kd (i + 1) = 12 := by unfold kRole; rw [if_pos q0, Nat.add_sub_cancel, hk]; rfl
  by_cases q1 : kd (i + 1 + 1) = 11
  rotate_left
  · rw [if_neg q1, kBd_f (r := kBd (kNo (i + 1 + 1)) (kP kd f 9 0)) rfl, kBd_f (r := kNo (i + 1 + 1)) rfl] at ho
    exact Bool.noConfusion (show false = true from ho)
  rw [if_pos q1] at ho ⊢
  have i3 := kTok_lt hT i2 (by omega)
  have r2 : kRole kd (i + 1 + 1) = 0 := kRole_0 (by omega) (by omega) (by omega)
  have ev : kBd (true, i + 1 + 1 + 1, []) (kP kd f 9 0) = kP kd f 9 0 (i + 1 + 1 + 1) := rfl
  have g := kP_g hT hM f 9 0 (i + 1 + 1 + 1) i3 (kBef_s (i := i + 1 + 1) (by omega))
  have bs := kP_b hT f 9 0 (i + 1 + 1 + 1) i3
  rw [if_neg (by decide)] at bs g
  rw [ev] at ho ⊢
  unfold kShs
  rw [if_pos hk]
  generalize kP kd f 9 0 (i + 1 + 1 + 1) = q at ho g bs ⊢
  obtain ⟨ok, j, l⟩ := q
  cases ok with
  | false =>
    rw [kBd_f (r := (false, j, l)) rfl] at ho
    exact Bool.noConfusion (show false = true from ho)
  | true =>
    obtain ⟨g1, g2, g3, g4⟩ := g rfl
    obtain ⟨bs1, bs2⟩ := bs
    obtain ⟨bs3, bs4⟩ := bs2 rfl
    dsimp only at g1 g2 g3 g4 bs1 bs3 bs4
    have hT2 := hT.2.1
    have ev2 : (kBd (true, j, l) (kEm 10 (i + 1))).2.1 = j := rfl
    rw [ev2]
    obtain ⟨m, hm⟩ : ∃ m, j = i + 1 + 1 + 1 + m := ⟨j - (i + 1 + 1 + 1), by omega⟩
    have hc := kCn_tst (kd := kd) (i := i + 1 + 1 + 1) m (fun t a b => g1 t a (by omega))
    unfold kEven at hE
    obtain ⟨e1, e2, e3, e4, e5, e6, e7, e8⟩ := hE
    have c12 : kCn kd 12 (i + 1) = kCn kd 12 i := by rw [kCn_s, r0]; rfl
    refine ⟨⟨fun t h1 h2 => ?_, ?_⟩, ⟨r1, by omega, c12, (show l.length < 398 by omega), g3, g4, trivial⟩, ?_⟩
    · by_cases c0 : t = i
      · rw [c0]
        exact kDue_0 (by omega)
      · by_cases c1 : t = i + 1
        · rw [c1]
          unfold kDue
          simp only [kCn_s, r0, r1, Nat.reduceEqDiff, if_false, if_true, Nat.add_zero, false_implies, true_implies, forall_const, true_and, and_true]
          omega
        · by_cases c2 : t = i + 1 + 1
          · rw [c2]
            exact kDue_0 (by omega)
          · have := kTst_r (g1 t (by omega) h2)
            exact kDue_0 (by omega)
    · unfold kEven
      rw [hm]
      rw [hc 1 (by decide) (by decide), hc 2 (by decide) (by decide), hc 3 (by decide) (by decide), hc 4 (by decide) (by decide), hc 5 (by decide) (by decide), hc 6 (by decide) (by decide), hc 7 (by decide) (by decide), hc 8 (by decide) (by decide), hc 9 (by decide) (by decide), hc 10 (by decide) (by decide), hc 11 (by decide) (by decide), hc 12 (by decide) (by decide)]
      simp only [kCn_s, r0, r1, r2, Nat.reduceEqDiff, if_false, if_true, Nat.add_zero]
      omega
    · rw [hm, hc 12 (by decide) (by decide)]
      simp only [kCn_s, r0, r1, r2, Nat.reduceEqDiff, if_false, if_true, Nat.add_zero]
theorem o_piece (hT : kTok kd N) (hM : kNam kd N mean) (hi : i ≤ N - 1) (hE : kEven kd i) (ho : (kPiece kd f i).1 = true) : ((∀ t, i ≤ t → t < (kPiece kd f i).2.1 → kDue kd t) ∧ kEven kd (kPiece kd f i).2.1) ∧ kLns kd N mean (kCn kd 12 i) (kShs kd f i) ∧ kCn kd 12 (kPiece kd f i).2.1 = kCn kd 12 i + (kShs kd f i).length := by
  unfold kPiece at ho ⊢
  by_cases a0 : kd i = 0
  · rw [if_pos a0] at ho ⊢
    obtain ⟨h1, h2, h3⟩ := o_switch a0 hE ho
    unfold kShs
    rw [if_neg (by omega)]
    exact ⟨⟨h1, h2⟩, trivial, h3⟩
  · rw [if_neg a0] at ho ⊢
    by_cases a2 : kd i = 2
    · rw [if_pos a2] at ho ⊢
      obtain ⟨h1, h2, h3⟩ := o_line a2 hE ho
      unfold kShs
      rw [if_neg (by omega)]
      exact ⟨⟨h1, h2⟩, trivial, h3⟩
    · rw [if_neg a2] at ho ⊢
      by_cases a5 : kd i = 5
      · rw [if_pos a5] at ho ⊢
        obtain ⟨h1, h2, h3⟩ := o_trunk a5 hE ho
        unfold kShs
        rw [if_neg (by omega)]
        exact ⟨⟨h1, h2⟩, trivial, h3⟩
      · rw [if_neg a5] at ho ⊢
        by_cases a10 : kd i = 10
        · rw [if_pos a10] at ho ⊢
          obtain ⟨h1, h2, h3⟩ := o_shut hT hM hi a10 hE ho
          refine ⟨h1, h2, h3.trans ?_⟩
          unfold kShs
          rw [if_pos a10]
          rfl
        · rw [if_neg a10] at ho
          exact Bool.noConfusion (show false = true from ho)
theorem o_plan (hT : kTok kd N) (hM : kNam kd N mean) : ∀ g i, i ≤ N - 1 → kEven kd i → (kPlan kd f g i).1 = true → (kPlan kd f g i).2.1 = N - 1 ∧ kd (N - 1) = 39 ∧ (∀ t, i ≤ t → t < N - 1 → kDue kd t) ∧ kEven kd (N - 1) ∧ kLns kd N mean (kCn kd 12 i) (kPls kd f g i) ∧ kCn kd 12 (N - 1) = kCn kd 12 i + (kPls kd f g i).length
  | 0, _, _, _, ho => Bool.noConfusion (show false = true from ho)
  | g + 1, i, hi, hE, ho => by
    unfold kPlan kPls at *
    by_cases a : kd i = 39
    · rw [if_pos a] at ho ⊢
      rw [if_pos a]
      have e : i = N - 1 := by
        by_cases q : i < N - 1
        · have := hT.2.2.2.1 i q
          omega
        · omega
      refine ⟨e, by rw [← e]; exact a, fun t h1 h2 => absurd h1 (by omega), by rw [← e]; exact hE, trivial, by rw [← e]; rfl⟩
    · rw [if_neg a] at ho ⊢
      rw [if_neg a]
      have bs := kPiece_b hT (f := f) hi
      by_cases o1 : (kPiece kd f i).1 = true
      rotate_left
      · rw [kBd_f (r := kBd (kPiece kd f i) (kT1 kd 26)) (by rw [kBd_f (Bool.eq_false_iff.mpr o1)]; exact Bool.eq_false_iff.mpr o1), kBd_f (Bool.eq_false_iff.mpr o1)] at ho
        exact absurd ho o1
      obtain ⟨⟨p1, p2⟩, p3, p4⟩ := o_piece hT hM hi hE o1
      generalize kPiece kd f i = q at *
      obtain ⟨ok, j, l⟩ := q
      have o1' : ok = true := o1
      subst o1'
      dsimp only at p1 p2 p4
      obtain ⟨bs1, bs2⟩ := bs
      obtain ⟨bs3, _⟩ := bs2 rfl
      dsimp only at bs1 bs3
      have ev : kBd (true, j, l) (kT1 kd 26) = if kd j = 26 then (true, j + 1, l) else (false, j, l) := by
        unfold kT1 kBd
        by_cases q : kd j = 26
        · simp only [if_true, if_pos q, List.append_nil]
        · simp only [if_true, if_neg q, List.append_nil]
      rw [ev] at ho ⊢
      by_cases q : kd j = 26
      rotate_left
      · rw [if_neg q, kBd_f (r := (false, j, l)) rfl] at ho
        exact Bool.noConfusion (show false = true from ho)
      rw [if_pos q] at ho ⊢
      have j1 := kTok_lt hT bs1 (by omega)
      have r26 : kRole kd j = 0 := kRole_0 (by omega) (by omega) (by omega)
      have ev2 : kBd (true, j + 1, l) (kPlan kd f g) = ((kPlan kd f g (j + 1)).1, (kPlan kd f g (j + 1)).2.1, l ++ (kPlan kd f g (j + 1)).2.2) := rfl
      rw [ev2] at ho ⊢
      obtain ⟨t1, t2, t3, t4, t5, t6⟩ := o_plan hT hM g (j + 1) j1 (kEven_1 p2 r26) ho
      have c12 : kCn kd 12 (j + 1) = kCn kd 12 i + (kShs kd f i).length := by
        rw [kCn_s, r26, p4]
        rfl
      refine ⟨t1, t2, fun t h1 h2 => ?_, t4, kLns_app _ _ _ p3 (by rw [← c12]; exact t5), by rw [t6, c12, List.length_append, Nat.add_assoc]⟩
      by_cases c : t < j
      · exact p1 t h1 c
      · by_cases c2 : t = j
        · rw [c2]
          exact kDue_0 (Or.inl r26)
        · exact t3 t (by omega) h2
end ORD
