/-! THE PURE PART: memories as lists of steps. -/
/-- steps: 0 a new object; 1 a reference told; 2 the number 1; 3 the number -1; else a row of references filled -/
def jfR (μ : jM) (a n w : Nat) : jM := (jI μ, jL μ, fun b j => if b = a then (if j < n then some w else jQ μ b j) else jQ μ b j, jA μ, jX μ)
def oS (o : Nat × Nat × Nat × Nat) (μ : jM) : jM := bif Nat.beq o.1 0 then jnew μ o.2.1 else bif Nat.beq o.1 1 then jsQ μ o.2.1 o.2.2.1 (some o.2.2.2) else bif Nat.beq o.1 2 then jsI μ o.2.1 o.2.2.1 1 else bif Nat.beq o.1 3 then jsI μ o.2.1 o.2.2.1 (-1) else jfR μ o.2.1 o.2.2.1 o.2.2.2
def oR : List (Nat × Nat × Nat × Nat) → jM → jM
  | [], μ => μ
  | o :: l, μ => oR l (oS o μ)
section STEPS
variable {μ : jM} {a b c k n w : Nat} {l m : List (Nat × Nat × Nat × Nat)} {o : Nat × Nat × Nat × Nat}
theorem oR_n : oR [] μ = μ := id rfl
theorem oR_c : oR (o :: l) μ = oR l (oS o μ) := id rfl
theorem oR_a : ∀ (l : List (Nat × Nat × Nat × Nat)) (μ : jM), oR (l ++ m) μ = oR m (oR l μ)
  | [], _ => rfl
  | o :: l, μ => oR_a l (oS o μ)
theorem oS0 : oS (0, c, a, b) μ = jnew μ c := id rfl
theorem oS1 : oS (1, c, a, b) μ = jsQ μ c a (some b) := id rfl
theorem oS2 : oS (2, c, a, b) μ = jsI μ c a 1 := id rfl
theorem oS3 : oS (3, c, a, b) μ = jsI μ c a (-1) := id rfl
theorem oS4 : oS (4, c, a, b) μ = jfR μ c a b := id rfl
theorem jfR_0 : jfR μ a 0 w = μ := by
  have h : (fun b j => if b = a then (if j < 0 then some w else jQ μ b j) else jQ μ b j) = jQ μ := by
    funext b j
    by_cases h : b = a
    · rw [if_pos h, if_neg (Nat.not_lt_zero _)]
    · rw [if_neg h]
  unfold jfR
  rw [h]
  rfl
theorem jfR_s : jsQ (jfR μ a k w) a k (some w) = jfR μ a (k + 1) w := by
  have h : j2 (jQ (jfR μ a k w)) a k (some w) = (fun b j => if b = a then (if j < k + 1 then some w else jQ μ b j) else jQ μ b j) := by
    funext b j
    unfold j2
    show (if b = a then (if j = k then some w else (if b = a then (if j < k then some w else jQ μ b j) else jQ μ b j)) else (if b = a then (if j < k then some w else jQ μ b j) else jQ μ b j)) = _
    by_cases h : b = a
    · rw [if_pos h, if_pos h, if_pos h]
      by_cases h1 : j = k
      · rw [if_pos h1, if_pos (by omega)]
      · rw [if_neg h1]
        by_cases h2 : j < k
        · rw [if_pos h2, if_pos (by omega)]
        · rw [if_neg h2, if_neg (by omega)]
    · rw [if_neg h, if_neg h, if_neg h]
  unfold jsQ
  rw [h]
  rfl
theorem jfR_q (h : ¬ b = a) : jQ (jfR μ a n w) b = jQ μ b := by
  funext j
  exact if_neg h
theorem jfR_i : jI (jfR μ a n w) = jI μ := id rfl
theorem jfR_a : jA (jfR μ a n w) = jA μ := id rfl
theorem jl_new : (jA (jnew μ c)).length = (jA μ).length + 1 := by
  show (jA μ ++ [jadr μ c]).length = _
  rw [List.length_append]
  rfl
theorem jnq (h : ¬ b = 64 * (jA μ).length + c) : jQ (jnew μ c) b = jQ μ b := (jnew_r (μ := μ) (c := c) h).2.2
/-- what is read behind them -/
def oW (o : Nat × Nat × Nat × Nat) : Nat := bif Nat.beq o.1 0 then 1 else 0
def oV (o : Nat × Nat × Nat × Nat) (N a k : Nat) (v : Option Nat) : Option Nat := bif Nat.beq o.1 0 then (bif Nat.beq a (64 * N + o.2.1) then none else v) else bif Nat.beq o.1 1 then (bif Nat.beq a o.2.1 then (bif Nat.beq k o.2.2.1 then some o.2.2.2 else v) else v) else bif Nat.beq o.1 2 then v else bif Nat.beq o.1 3 then v else (bif Nat.beq a o.2.1 then (bif Nat.blt k o.2.2.1 then some o.2.2.2 else v) else v)
def oU (o : Nat × Nat × Nat × Nat) (N a k : Nat) (v : Int32) : Int32 := bif Nat.beq o.1 0 then (bif Nat.beq a (64 * N + o.2.1) then 0 else v) else bif Nat.beq o.1 1 then v else bif Nat.beq o.1 2 then (bif Nat.beq a o.2.1 then (bif Nat.beq k o.2.2.1 then 1 else v) else v) else bif Nat.beq o.1 3 then (bif Nat.beq a o.2.1 then (bif Nat.beq k o.2.2.1 then -1 else v) else v) else v
def oQ : List (Nat × Nat × Nat × Nat) → Nat → Nat → Nat → Option Nat → Option Nat
  | [], _, _, _, v => v
  | o :: l, N, a, k, v => oQ l (N + oW o) a k (oV o N a k v)
def oI : List (Nat × Nat × Nat × Nat) → Nat → Nat → Nat → Int32 → Int32
  | [], _, _, _, v => v
  | o :: l, N, a, k, v => oI l (N + oW o) a k (oU o N a k v)
def oL : List (Nat × Nat × Nat × Nat) → Nat → List Nat
  | [], _ => []
  | o :: l, N => (bif Nat.beq o.1 0 then [64 * N + o.2.1] else []) ++ oL l (N + oW o)
theorem bif_eq {α : Type} {x y : Nat} {p q : α} : (bif Nat.beq x y then p else q) = if x = y then p else q := by
  cases h : Nat.beq x y with
  | true => rw [if_pos (Nat.eq_of_beq_eq_true h)]; rfl
  | false => rw [if_neg (Nat.ne_of_beq_eq_false h)]; rfl
theorem bif_lt {α : Type} {x y : Nat} {p q : α} : (bif Nat.blt x y then p else q) = if x < y then p else q := by
  cases h : Nat.blt x y with
  | true => rw [if_pos (by have := Nat.le_of_ble_eq_true h; omega)]; rfl
  | false => rw [if_neg (fun h2 => by have h3 : Nat.blt x y = true := Nat.ble_eq_true_of_le h2; rw [h] at h3; exact absurd h3 (by decide))]; rfl
theorem j2_e {α : Type} {f : Nat → Nat → α} {x j : Nat} {v : α} : j2 f x j v a k = if a = x then (if k = j then v else f a k) else f a k := by
  unfold j2
  rfl
theorem jrow_e {α : Type} {f : Nat → Nat → α} {x : Nat} {g : Nat → α} : jrow f x g a k = if a = x then g k else f a k := by
  unfold jrow
  by_cases h : a = x
  · rw [if_pos h, if_pos h]
  · rw [if_neg h, if_neg h]
theorem oS_l : (jA (oS o μ)).length = (jA μ).length + oW o := by
  unfold oS oW
  cases h0 : Nat.beq o.1 0 with
  | true => exact jl_new
  | false =>
    cases h1 : Nat.beq o.1 1 with
    | true => rfl
    | false =>
      cases h2 : Nat.beq o.1 2 with
      | true => rfl
      | false =>
        cases h3 : Nat.beq o.1 3 with
        | true => rfl
        | false => rfl
theorem oS_q : jQ (oS o μ) a k = oV o (jA μ).length a k (jQ μ a k) := by
  unfold oS oV
  cases h0 : Nat.beq o.1 0 with
  | true =>
    show jrow (jQ μ) (jadr μ o.2.1) (fun _ => none) a k = bif Nat.beq a (64 * (jA μ).length + o.2.1) then none else jQ μ a k
    rw [bif_eq, jrow_e]
    rfl
  | false =>
    cases h1 : Nat.beq o.1 1 with
    | true =>
      show j2 (jQ μ) o.2.1 o.2.2.1 (some o.2.2.2) a k = (bif Nat.beq a o.2.1 then (bif Nat.beq k o.2.2.1 then some o.2.2.2 else jQ μ a k) else jQ μ a k)
      rw [bif_eq, bif_eq, j2_e]
    | false =>
      cases h2 : Nat.beq o.1 2 with
      | true => rfl
      | false =>
        cases h3 : Nat.beq o.1 3 with
        | true => rfl
        | false =>
          show (if a = o.2.1 then (if k < o.2.2.1 then some o.2.2.2 else jQ μ a k) else jQ μ a k) = (bif Nat.beq a o.2.1 then (bif Nat.blt k o.2.2.1 then some o.2.2.2 else jQ μ a k) else jQ μ a k)
          rw [bif_eq, bif_lt]
theorem oS_i : jI (oS o μ) a k = oU o (jA μ).length a k (jI μ a k) := by
  unfold oS oU
  cases h0 : Nat.beq o.1 0 with
  | true =>
    show jrow (jI μ) (jadr μ o.2.1) (fun _ => 0) a k = bif Nat.beq a (64 * (jA μ).length + o.2.1) then 0 else jI μ a k
    rw [bif_eq, jrow_e]
    rfl
  | false =>
    cases h1 : Nat.beq o.1 1 with
    | true => rfl
    | false =>
      cases h2 : Nat.beq o.1 2 with
      | true =>
        show j2 (jI μ) o.2.1 o.2.2.1 1 a k = (bif Nat.beq a o.2.1 then (bif Nat.beq k o.2.2.1 then 1 else jI μ a k) else jI μ a k)
        rw [bif_eq, bif_eq, j2_e]
      | false =>
        cases h3 : Nat.beq o.1 3 with
        | true =>
          show j2 (jI μ) o.2.1 o.2.2.1 (-1) a k = (bif Nat.beq a o.2.1 then (bif Nat.beq k o.2.2.1 then -1 else jI μ a k) else jI μ a k)
          rw [bif_eq, bif_eq, j2_e]
        | false => rfl
theorem oR_q : ∀ (l : List (Nat × Nat × Nat × Nat)) (μ : jM) (a k : Nat), jQ (oR l μ) a k = oQ l (jA μ).length a k (jQ μ a k)
  | [], _, _, _ => rfl
  | o :: l, μ, a, k => by
    show jQ (oR l (oS o μ)) a k = oQ l ((jA μ).length + oW o) a k (oV o (jA μ).length a k (jQ μ a k))
    rw [oR_q l (oS o μ) a k, oS_l, oS_q]
theorem oR_i : ∀ (l : List (Nat × Nat × Nat × Nat)) (μ : jM) (a k : Nat), jI (oR l μ) a k = oI l (jA μ).length a k (jI μ a k)
  | [], _, _, _ => rfl
  | o :: l, μ, a, k => by
    show jI (oR l (oS o μ)) a k = oI l ((jA μ).length + oW o) a k (oU o (jA μ).length a k (jI μ a k))
    rw [oR_i l (oS o μ) a k, oS_l, oS_i]
theorem oS_A : jA (oS o μ) = jA μ ++ (bif Nat.beq o.1 0 then [64 * (jA μ).length + o.2.1] else []) := by
  unfold oS
  cases h0 : Nat.beq o.1 0 with
  | true => rfl
  | false =>
    cases h1 : Nat.beq o.1 1 with
    | true => exact (List.append_nil _).symm
    | false =>
      cases h2 : Nat.beq o.1 2 with
      | true => exact (List.append_nil _).symm
      | false =>
        cases h3 : Nat.beq o.1 3 with
        | true => exact (List.append_nil _).symm
        | false => exact (List.append_nil _).symm
theorem oR_A : ∀ (l : List (Nat × Nat × Nat × Nat)) (μ : jM), jA (oR l μ) = jA μ ++ oL l (jA μ).length
  | [], _ => (List.append_nil _).symm
  | o :: l, μ => by
    show jA (oR l (oS o μ)) = jA μ ++ ((bif Nat.beq o.1 0 then [64 * (jA μ).length + o.2.1] else []) ++ oL l ((jA μ).length + oW o))
    rw [oR_A l (oS o μ), oS_A, ← oS_l, oS_A, List.append_assoc]
theorem oS_X : jX (oS o μ) = jX μ := by
  unfold oS
  cases h0 : Nat.beq o.1 0 with
  | true => rfl
  | false =>
    cases h1 : Nat.beq o.1 1 with
    | true => rfl
    | false =>
      cases h2 : Nat.beq o.1 2 with
      | true => rfl
      | false =>
        cases h3 : Nat.beq o.1 3 with
        | true => rfl
        | false => rfl
theorem oR_X : ∀ (l : List (Nat × Nat × Nat × Nat)) (μ : jM), jX (oR l μ) = jX μ
  | [], _ => rfl
  | o :: l, μ => (oR_X l (oS o μ)).trans oS_X
def oN : List (Nat × Nat × Nat × Nat) → Nat
  | [] => 0
  | o :: l => oW o + oN l
theorem oR_l : ∀ (l : List (Nat × Nat × Nat × Nat)) (μ : jM), (jA (oR l μ)).length = (jA μ).length + oN l
  | [], _ => rfl
  | o :: l, μ => by
    show (jA (oR l (oS o μ))).length = (jA μ).length + (oW o + oN l)
    rw [oR_l l (oS o μ), oS_l, Nat.add_assoc]
/-- a row that they leave alone -/
def oT : List (Nat × Nat × Nat × Nat) → Nat → Nat → Bool
  | [], _, _ => true
  | o :: l, N, a => (bif Nat.beq o.1 0 then !(Nat.beq a (64 * N + o.2.1)) else !(Nat.beq a o.2.1)) && oT l (N + oW o) a
theorem oR_k : ∀ (l : List (Nat × Nat × Nat × Nat)) (μ : jM) (N a : Nat), (jA μ).length = N → oT l N a = true → jQ (oR l μ) a = jQ μ a
  | [], _, _, _, _, _ => rfl
  | o :: l, μ, N, a, hN, h => by
    have h' : ((bif Nat.beq o.1 0 then !(Nat.beq a (64 * N + o.2.1)) else !(Nat.beq a o.2.1)) && oT l (N + oW o) a) = true := h
    rw [Bool.and_eq_true] at h'
    show jQ (oR l (oS o μ)) a = jQ μ a
    rw [oR_k l (oS o μ) (N + oW o) a (by rw [oS_l, hN]) h'.2]
    funext k
    rw [oS_q, hN]
    unfold oV
    have h1 := h'.1
    cases h0 : Nat.beq o.1 0 with
    | true =>
      rw [h0] at h1
      have h2 : Nat.beq a (64 * N + o.2.1) = false := by
        cases h3 : Nat.beq a (64 * N + o.2.1) with
        | false => rfl
        | true => rw [h3] at h1; exact absurd h1 (show ¬ false = true from Bool.false_ne_true)
      rw [h2]
      rfl
    | false =>
      rw [h0] at h1
      have h2 : Nat.beq a o.2.1 = false := by
        cases h3 : Nat.beq a o.2.1 with
        | false => rfl
        | true => rw [h3] at h1; exact absurd h1 (show ¬ false = true from Bool.false_ne_true)
      rw [h2]
      cases Nat.beq o.1 1 <;> cases Nat.beq o.1 2 <;> cases Nat.beq o.1 3 <;> rfl
end STEPS
