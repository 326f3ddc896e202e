/-! THE PURE PART: names. -/
/-- a name's letters as figures -/
def kCh (c : Int32) : Nat := (if kDgt c = true then c - 48 + 1 else c - 97 + 11).toNatClampNeg
theorem kCh_ok : ∀ v, v < 256 → (kLet (iN v) || kDgt (iN v)) = true → 1 ≤ kCh (iN v) ∧ kCh (iN v) ≤ 36 ∧ (if kDgt (iN v) = true then iN v - 48 + 1 else iN v - 97 + 11).toInt64 = Int64.ofNat (kCh (iN v)) ∧ iN v = (if kCh (iN v) ≤ 10 then iN (kCh (iN v) + 47) else iN (kCh (iN v) + 86)) := by decide +kernel
def kNn (b : Nat → Int32) (a : Nat) : Nat → Nat
  | 0 => 0
  | m + 1 => kNn b a m * 37 + kCh (b (a + m))
theorem kNn_lt {b : Nat → Int32} {a : Nat} : ∀ m, (∀ i, i < m → kCh (b (a + i)) ≤ 36) → kNn b a m < 37 ^ m
  | 0, _ => Nat.lt_succ_self 0
  | m + 1, h => by
    have h1 := kNn_lt m (fun i hi => h i (by omega))
    have h2 := h m (by omega)
    show kNn b a m * 37 + kCh (b (a + m)) < 37 ^ (m + 1)
    rw [Nat.pow_succ]
    omega
theorem kNa_n {b : Nat → Int32} {a : Nat} : ∀ m, (∀ i, i < m → ∃ v, v < 256 ∧ b (a + i) = iN v ∧ (kLet (iN v) || kDgt (iN v)) = true) → kNa b a m = Int64.ofNat (kNn b a m)
  | 0, _ => rfl
  | m + 1, h => by
    have h1 := kNa_n m (fun i hi => h i (by omega))
    obtain ⟨v, h2, h3, h4⟩ := h m (by omega)
    unfold kNa at h1 ⊢
    rw [jfold_snoc, h1, h3, (kCh_ok v h2 h4).2.2.1, ← Int64.ofNat_mul, ← Int64.ofNat_add]
    show _ = Int64.ofNat (kNn b a m * 37 + kCh (b (a + m)))
    rw [h3]
theorem kNn_inj {b : Nat → Int32} {a c : Nat} : ∀ m n, (∀ i, i < m → 1 ≤ kCh (b (a + i)) ∧ kCh (b (a + i)) ≤ 36) → (∀ i, i < n → 1 ≤ kCh (b (c + i)) ∧ kCh (b (c + i)) ≤ 36) → kNn b a m = kNn b c n → m = n ∧ ∀ i, i < m → kCh (b (a + i)) = kCh (b (c + i))
  | 0, 0, _, _, _ => ⟨rfl, fun i hi => absurd hi (by omega)⟩
  | 0, n + 1, _, h2, e => by
    have := h2 n (by omega)
    have e' : 0 = kNn b c n * 37 + kCh (b (c + n)) := e
    omega
  | m + 1, 0, h1, _, e => by
    have := h1 m (by omega)
    have e' : kNn b a m * 37 + kCh (b (a + m)) = 0 := e
    omega
  | m + 1, n + 1, h1, h2, e => by
    have g1 := h1 m (by omega)
    have g2 := h2 n (by omega)
    have e' : kNn b a m * 37 + kCh (b (a + m)) = kNn b c n * 37 + kCh (b (c + n)) := e
    obtain ⟨i1, i2⟩ := kNn_inj m n (fun i hi => h1 i (by omega)) (fun i hi => h2 i (by omega)) (by omega)
    subst i1
    refine ⟨rfl, fun i hi => ?_⟩
    by_cases q : i = m
    · rw [q]
      omega
    · exact i2 i (by omega)
theorem i64_inj {m n : Nat} (hm : m < 2 ^ 63) (hn : n < 2 ^ 63) (h : Int64.ofNat m = Int64.ofNat n) : m = n := by
  have h1 : (Int64.ofNat m).toInt = (Int64.ofNat n).toInt := by rw [h]
  rw [Int64.toInt_ofNat_of_lt hm, Int64.toInt_ofNat_of_lt hn] at h1
  omega
/-- a name's letters -/
def kGoo (b : Nat → Int32) (a len : Nat) : Prop := len ≤ 10 ∧ ∀ i, i < len → ∃ v, v < 256 ∧ b (a + i) = iN v ∧ (kLet (iN v) || kDgt (iN v)) = true
/-- two names are one if their numbers are -/
theorem kNa_eq {b : Nat → Int32} {a c m n : Nat} (h1 : kGoo b a m) (h2 : kGoo b c n) : (m = n ∧ ∀ i, i < m → b (a + i) = b (c + i)) ↔ kNa b a m = kNa b c n := by
  have g : ∀ {a m : Nat}, kGoo b a m → (∀ i, i < m → 1 ≤ kCh (b (a + i)) ∧ kCh (b (a + i)) ≤ 36) ∧ kNn b a m < 2 ^ 63 := by
    intro a m h
    have h3 : ∀ i, i < m → 1 ≤ kCh (b (a + i)) ∧ kCh (b (a + i)) ≤ 36 := fun i hi => by
      obtain ⟨v, e1, e2, e3⟩ := h.2 i hi
      have := kCh_ok v e1 e3
      rw [e2]
      exact ⟨this.1, this.2.1⟩
    refine ⟨h3, Nat.lt_of_lt_of_le (kNn_lt m fun i hi => (h3 i hi).2) (Nat.le_trans (Nat.pow_le_pow_right (by decide) h.1) (by decide))⟩
  obtain ⟨g1, g2⟩ := g h1
  obtain ⟨g3, g4⟩ := g h2
  rw [kNa_n m h1.2, kNa_n n h2.2]
  constructor
  · rintro ⟨e1, e2⟩
    subst e1
    have e : ∀ k, k ≤ m → kNn b a k = kNn b c k := by
      intro k
      induction k with
      | zero => intro _; rfl
      | succ k ih =>
        intro hk
        show kNn b a k * 37 + kCh (b (a + k)) = kNn b c k * 37 + kCh (b (c + k))
        rw [ih (by omega), e2 k (by omega)]
    rw [e m (Nat.le_refl _)]
  · intro e
    obtain ⟨e1, e2⟩ := kNn_inj m n g1 g3 (i64_inj g2 g4 e)
    refine ⟨e1, fun i hi => ?_⟩
    obtain ⟨v, q1, q2, q3⟩ := h1.2 i hi
    obtain ⟨w, r1, r2, r3⟩ := h2.2 i (by omega)
    have e3 := e2 i hi
    have k1 := (kCh_ok v q1 q3).2.2.2
    have k2 := (kCh_ok w r1 r3).2.2.2
    rw [q2, r2] at e3 ⊢
    rw [e3] at k1
    rw [k1, ← k2]
theorem kSk_p {p : Int32 → Bool} {b : Nat → Int32} {sz : Nat} : ∀ f a i, a ≤ i → i < kSk p b sz f a → p (b i) = true ∧ i < sz
  | 0, a, i, h1, h2 => absurd (show i < a from h2) (by omega)
  | f + 1, a, i, h1, h2 => by
    unfold kSk at h2
    by_cases g : a < sz ∧ p (b a) = true
    · rw [if_pos g] at h2
      by_cases e : i = a
      · rw [e]
        exact ⟨g.2, g.1⟩
      · exact kSk_p f (a + 1) i (by omega) h2
    · rw [if_neg g] at h2
      omega
theorem kGoo_t {b : Nat → Int32} {sz t : Nat} (hB : ∀ i, i < sz → ∃ v, v < 256 ∧ b i = iN v) (hk : kTk b sz t = 37) : kGoo b (kTs b sz t) (kTl b sz t) ∧ kTs b sz t + kTl b sz t ≤ sz ∧ kTs b sz t < sz := by
  unfold kTk at hk
  split at hk
  · exact absurd hk (by decide)
  · unfold kKd at hk
    by_cases g1 : kTs b sz t < sz
    rotate_left
    · rw [if_pos g1] at hk
      exact absurd hk (by decide)
    rw [if_neg (by omega)] at hk
    by_cases g2 : kDgt (b (kTs b sz t)) = true
    · rw [if_pos g2] at hk
      split at hk <;> exact absurd hk (by decide)
    rw [if_neg g2] at hk
    by_cases g3 : kLet (b (kTs b sz t)) = true
    rotate_left
    · rw [if_neg g3] at hk
      rcases kFk_lt (p := kTxt b (kTs b sz t) (kTl b sz t)) (o := 40) 42 0 with ⟨a1, _⟩ | ⟨_, _, a3, _⟩
      · rw [a1] at hk
        exact absurd hk (by decide)
      · rw [hk] at a3
        have a4 := (of_decide_eq_true a3).1
        have a5 : (jstr (kTn 37)).length = 0 := by decide +kernel
        have a6 : 1 ≤ kTl b sz t := by
          unfold kTl kLn
          rw [if_neg g3, if_neg g2]
          split <;> omega
        omega
    rw [if_pos g3] at hk
    by_cases g4 : kTl b sz t ≤ 10
    rotate_left
    · rw [if_neg g4] at hk
      exact absurd hk (by decide)
    have el : kTl b sz t = kSk (fun x => kLet x || kDgt x) b sz (sz - kTs b sz t) (kTs b sz t) - kTs b sz t := by
      unfold kTl kLn
      rw [if_pos g3]
    have le := kSk_le (p := fun x => kLet x || kDgt x) (b := b) (sz := sz) (sz - kTs b sz t) (kTs b sz t)
    refine ⟨⟨g4, fun i hi => ?_⟩, by omega, g1⟩
    obtain ⟨p1, p2⟩ := kSk_p (p := fun x => kLet x || kDgt x) (b := b) (sz := sz) (sz - kTs b sz t) (kTs b sz t) (kTs b sz t + i) (by omega) (by omega)
    obtain ⟨v, v1, v2⟩ := hB _ p2
    rw [v2] at p1
    exact ⟨v, v1, v2, p1⟩
