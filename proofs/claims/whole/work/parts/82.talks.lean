/-! THE PURE PART: talks by pairs. -/
theorem jfold_snoc {α : Type} {f : Nat → α → α} : ∀ (m k : Nat) (a : α), jfold f k (m + 1) a = f (k + m) (jfold f k m a)
  | 0, _, _ => rfl
  | m + 1, k, a => by
    show jfold f (k + 1) (m + 1) (f k a) = f (k + (m + 1)) (jfold f (k + 1) m (f k a))
    rw [jfold_snoc m (k + 1) (f k a), show k + 1 + m = k + (m + 1) by omega]
theorem rsum_succ {f : Nat → Int32} {n : Nat} : rsum f (n + 1) = rsum f n + f n := by
  unfold rsum
  rw [jfold_snoc, Nat.zero_add]
theorem rsum_congr {f g : Nat → Int32} : ∀ n, (∀ k, k < n → f k = g k) → rsum f n = rsum g n
  | 0, _ => rfl
  | n + 1, h => by rw [rsum_succ, rsum_succ, rsum_congr n fun k hk => h k (by omega), h n (by omega)]
def kS (f : Nat → Nat) : Nat → Nat
  | 0 => 0
  | n + 1 => kS f n + f n
theorem kS_congr {f g : Nat → Nat} : ∀ n, (∀ k, k < n → f k = g k) → kS f n = kS g n
  | 0, _ => rfl
  | n + 1, h => by
    show kS f n + f n = kS g n + g n
    rw [kS_congr n fun k hk => h k (by omega), h n (by omega)]
theorem kS_zero : ∀ n, kS (fun _ => 0) n = 0
  | 0 => rfl
  | n + 1 => by
    show kS (fun _ => 0) n + 0 = 0
    rw [kS_zero n]
theorem kS_add {f g : Nat → Nat} : ∀ n, kS (fun k => f k + g k) n = kS f n + kS g n
  | 0 => rfl
  | n + 1 => by
    show kS (fun k => f k + g k) n + (f n + g n) = kS f n + f n + (kS g n + g n)
    rw [kS_add n]
    omega
theorem kS_swap {f : Nat → Nat → Nat} (m : Nat) : ∀ n, kS (fun k => kS (fun j => f k j) m) n = kS (fun j => kS (fun k => f k j) n) m
  | 0 => (kS_zero m).symm
  | n + 1 => by
    show kS (fun k => kS (fun j => f k j) m) n + kS (fun j => f n j) m = kS (fun j => kS (fun k => f k j) n + f n j) m
    rw [kS_swap m n, kS_add]
theorem kS_one {c a : Nat} : ∀ n, kS (fun j => if j = a then c else 0) n = if a < n then c else 0
  | 0 => rfl
  | n + 1 => by
    show kS (fun j => if j = a then c else 0) n + (if n = a then c else 0) = _
    rw [kS_one n]
    by_cases h : n = a
    · rw [if_pos h, if_neg (by omega), if_pos (by omega)]
      omega
    · rw [if_neg h]
      by_cases h2 : a < n
      · rw [if_pos h2, if_pos (by omega)]
        omega
      · rw [if_neg h2, if_neg (by omega)]
theorem kS_le {f : Nat → Nat} : ∀ n, (∀ k, k < n → f k ≤ 1) → kS f n ≤ n
  | 0, _ => Nat.le_refl _
  | n + 1, h => by
    have h1 := kS_le n fun k hk => h k (by omega)
    have h2 := h n (by omega)
    show kS f n + f n ≤ n + 1
    omega
theorem rsum_kS {f : Nat → Nat} : ∀ n, rsum (fun k => iN (f k)) n = iN (kS f n)
  | 0 => rfl
  | n + 1 => by
    rw [rsum_succ, rsum_kS n, iN_add]
    rfl
theorem kS_pair {p q : Nat → Bool} {σ : Nat → Nat} {n : Nat} (h1 : ∀ k, k < n → p k = true → σ k < n ∧ q (σ k) = true ∧ σ (σ k) = k) (h2 : ∀ k, k < n → q k = true → σ k < n ∧ p (σ k) = true ∧ σ (σ k) = k) : kS (fun k => if p k then 1 else 0) n = kS (fun k => if q k then 1 else 0) n := by
  have e1 : kS (fun k => if p k then 1 else 0) n = kS (fun k => kS (fun j => if p k = true ∧ q j = true ∧ j = σ k then 1 else 0) n) n := by
    refine kS_congr n fun k hk => ?_
    cases hp : p k with
    | false =>
      have h : (fun j => if false = true ∧ q j = true ∧ j = σ k then 1 else 0) = fun _ => 0 := by
        funext j
        rw [if_neg (by rintro ⟨h, _⟩; exact Bool.noConfusion h)]
      rw [h, kS_zero]
      rfl
    | true =>
      obtain ⟨a1, a2, a3⟩ := h1 k hk hp
      have h : (fun j => if true = true ∧ q j = true ∧ j = σ k then 1 else 0) = fun j => if j = σ k then 1 else 0 := by
        funext j
        by_cases e : j = σ k
        · rw [if_pos e, if_pos ⟨rfl, by rw [e]; exact a2, e⟩]
        · rw [if_neg e, if_neg (by rintro ⟨_, _, h⟩; exact e h)]
      rw [h, kS_one, if_pos a1]
      rfl
  have e2 : kS (fun k => if q k then 1 else 0) n = kS (fun j => kS (fun k => if p k = true ∧ q j = true ∧ j = σ k then 1 else 0) n) n := by
    refine kS_congr n fun j hj => ?_
    cases hq : q j with
    | false =>
      have h : (fun k => if p k = true ∧ false = true ∧ j = σ k then 1 else 0) = fun _ => 0 := by
        funext k
        rw [if_neg (by rintro ⟨_, h, _⟩; exact Bool.noConfusion h)]
      rw [h, kS_zero]
      rfl
    | true =>
      obtain ⟨a1, a2, a3⟩ := h2 j hj hq
      have h : kS (fun k => if p k = true ∧ true = true ∧ j = σ k then 1 else 0) n = kS (fun k => if k = σ j then 1 else 0) n := by
        refine kS_congr n fun k hk => ?_
        by_cases e : k = σ j
        · rw [if_pos e, if_pos ⟨by rw [e]; exact a2, rfl, by rw [e]; exact a3.symm⟩]
        · rw [if_neg e, if_neg]
          rintro ⟨b1, _, b2⟩
          exact e (by rw [b2]; exact (h1 k hk b1).2.2.symm)
      rw [h, kS_one, if_pos a1]
      rfl
  rw [e1, e2, kS_swap]
theorem i2div : ∀ m, m < 11 → iN (2 * m) / 2 = iN m := by decide +kernel
theorem kTalks {ws dw ot : Nat → Int32} {n : Nat} (hn : n ≤ 10) (h : ∀ l, l < n → dw l = 5 → ∃ j, j < n ∧ dw j = 5 ∧ ot l = iN j ∧ ot j = iN l ∧ (ws l = 0 ↔ ¬ ws j = 0)) : rsum (fun k => if ws k = 0 then 0 else if dw k = 5 then 1 else 0) n = rsum (fun k => if dw k = 5 then 1 else 0) n / 2 := by
  have e1 : rsum (fun k => if ws k = 0 then 0 else if dw k = 5 then 1 else 0) n = rsum (fun k => iN (if decide (¬ ws k = 0 ∧ dw k = 5) then 1 else 0)) n := by
    refine rsum_congr n fun k _ => ?_
    by_cases a : ws k = 0 <;> by_cases b : dw k = 5 <;> simp [a, b] <;> rfl
  have e2 : rsum (fun k => if dw k = 5 then 1 else 0) n = rsum (fun k => iN ((if decide (¬ ws k = 0 ∧ dw k = 5) then 1 else 0) + (if decide (ws k = 0 ∧ dw k = 5) then 1 else 0))) n := by
    refine rsum_congr n fun k _ => ?_
    by_cases a : ws k = 0 <;> by_cases b : dw k = 5 <;> simp [a, b] <;> rfl
  have e3 : kS (fun k => if decide (¬ ws k = 0 ∧ dw k = 5) then 1 else 0) n = kS (fun k => if decide (ws k = 0 ∧ dw k = 5) then 1 else 0) n := by
    refine kS_pair (σ := fun l => (ot l).toNatClampNeg) ?_ ?_
    · intro k hk hp
      obtain ⟨a1, a2⟩ := of_decide_eq_true hp
      obtain ⟨j, b1, b2, b3, b4, b5⟩ := h k hk a2
      have c1 : (ot k).toNatClampNeg = j := by rw [b3, iN_cl (by omega)]
      refine ⟨by show (ot k).toNatClampNeg < n; rw [c1]; exact b1, ?_, ?_⟩
      · show decide (ws (ot k).toNatClampNeg = 0 ∧ dw (ot k).toNatClampNeg = 5) = true
        rw [c1]
        refine decide_eq_true ⟨Classical.byContradiction fun c => a1 (b5.mpr c), b2⟩
      · show (ot (ot k).toNatClampNeg).toNatClampNeg = k
        rw [c1, b4, iN_cl (by omega)]
    · intro k hk hp
      obtain ⟨a1, a2⟩ := of_decide_eq_true hp
      obtain ⟨j, b1, b2, b3, b4, b5⟩ := h k hk a2
      have c1 : (ot k).toNatClampNeg = j := by rw [b3, iN_cl (by omega)]
      refine ⟨by show (ot k).toNatClampNeg < n; rw [c1]; exact b1, ?_, ?_⟩
      · show decide (¬ ws (ot k).toNatClampNeg = 0 ∧ dw (ot k).toNatClampNeg = 5) = true
        rw [c1]
        exact decide_eq_true ⟨b5.mp a1, b2⟩
      · show (ot (ot k).toNatClampNeg).toNatClampNeg = k
        rw [c1, b4, iN_cl (by omega)]
  have hle : kS (fun k => if decide (¬ ws k = 0 ∧ dw k = 5) then 1 else 0) n ≤ n := kS_le n fun k _ => by split <;> omega
  rw [e1, e2, rsum_kS, rsum_kS, kS_add, ← e3, ← Nat.two_mul, i2div _ (by omega)]
