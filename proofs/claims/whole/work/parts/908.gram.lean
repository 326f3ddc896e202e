/-! THE PURE PART: the grammar; its leaves (class). -/
/-- what a part of the grammar finds: whether it fits, the next token, what is to be reckoned -/
abbrev kR : Type := Bool × Nat × List (Nat × Nat)
def kBd (r : kR) (k : Nat → kR) : kR := if r.1 = true then ((k r.2.1).1, (k r.2.1).2.1, r.2.2 ++ (k r.2.1).2.2) else r
def kT1 (kd : Nat → Nat) (K i : Nat) : kR := if kd i = K then (true, i + 1, []) else (false, i, [])
def kEm (K t i : Nat) : kR := (true, i, [(K, t)])
def kNo (i : Nat) : kR := (false, i, [])
def kV (kd : Nat → Nat) (p : Nat → Nat → Nat → kR) (D i : Nat) : kR := if kd i = 38 ∨ kd i = 12 ∨ kd i = 13 then (true, i + 1, [(kd i, i)]) else
      if kd i = 14 ∨ kd i = 15 then (if kd (i + 1) = 37 then (true, i + 2, [(kd i, i + 1)]) else kNo (i + 1)) else
      if kd i = 29 then (if D < 8 then kBd (p 0 (D + 1) (i + 1)) (kEm 41 i) else kNo i) else
      if kd i = 22 then (if D < 8 then kBd (p 4 (D + 1) (i + 1)) (kT1 kd 23) else kNo i) else
      if kd i = 20 ∨ kd i = 21 then (if D < 8 then (if kd (i + 1) = 22 then kBd (kBd (kBd (kBd (p 4 (D + 1) (i + 2)) (kT1 kd 27)) (p 4 (D + 1))) (kT1 kd 23)) (kEm (kd i) i) else kNo (i + 1)) else kNo (i + 1)) else kNo i
def kLp2 (kd : Nat → Nat) (p : Nat → Nat → Nat → kR) (K1 K2 sub me D i : Nat) : kR := if kd i = K1 ∨ kd i = K2 then kBd (kBd (p sub D (i + 1)) (kEm (kd i) i)) (p me D) else (true, i, [])
def kLp1 (kd : Nat → Nat) (p : Nat → Nat → Nat → kR) (K sub me D i : Nat) : kR := if kd i = K then kBd (kBd (p sub D (i + 1)) (kEm K i)) (p me D) else (true, i, [])
def kCm (kd : Nat → Nat) (p : Nat → Nat → Nat → kR) (D s : Nat) : kR := if kd s = 32 ∨ kd s = 33 ∨ kd s = 34 ∨ kd s = 35 ∨ kd s = 36 then kBd (p 4 D (s + 1)) (kEm (kd s) s) else kNo s
def kSg (kd : Nat → Nat) (p : Nat → Nat → Nat → kR) (D i : Nat) : kR := if kd i = 17 then (if D < 8 then kBd (p 5 (D + 1) (i + 1)) (kEm 17 i) else kNo i) else
      if kd i = 24 then (if D < 8 then kBd (p 9 (D + 1) (i + 1)) (kT1 kd 25) else kNo i) else
      if kd i = 16 then (if kd (i + 1) = 37 then (true, i + 2, [(16, i + 1)]) else kNo (i + 1)) else
      kBd (p 4 D i) (kCm kd p D)
/-- the grammar: 0 value, 1 more factors, 2 product, 3 more products, 4 sum, 5 single, 6 more singles, 7 both, 8 more of both, 9 test -/
def kP (kd : Nat → Nat) : Nat → Nat → Nat → Nat → kR
  | 0, _, _, i => kNo i
  | f + 1, 0, D, i => kV kd (kP kd f) D i
  | f + 1, 1, D, i => kLp2 kd (kP kd f) 30 31 0 1 D i
  | f + 1, 2, D, i => kBd (kP kd f 0 D i) (kP kd f 1 D)
  | f + 1, 3, D, i => kLp2 kd (kP kd f) 28 29 2 3 D i
  | f + 1, 4, D, i => kBd (kP kd f 2 D i) (kP kd f 3 D)
  | f + 1, 5, D, i => kSg kd (kP kd f) D i
  | f + 1, 6, D, i => kLp1 kd (kP kd f) 18 5 6 D i
  | f + 1, 7, D, i => kBd (kP kd f 5 D i) (kP kd f 6 D)
  | f + 1, 8, D, i => kLp1 kd (kP kd f) 19 7 8 D i
  | f + 1, _, D, i => kBd (kP kd f 7 D i) (kP kd f 8 D)
/-- how far it goes -/
def kBnd (N i c : Nat) (r : kR) : Prop := r.2.1 ≤ N - 1 ∧ (r.1 = true → i + c ≤ r.2.1 ∧ i + r.2.2.length ≤ r.2.1)
theorem kBnd_bd {N i c c' : Nat} {r : kR} {k : Nat → kR} (h : kBnd N i c r) (h2 : r.1 = true → kBnd N r.2.1 c' (k r.2.1)) : kBnd N i (c + c') (kBd r k) := by
  unfold kBd
  by_cases g : r.1 = true
  · rw [if_pos g]
    obtain ⟨a1, a2⟩ := h
    obtain ⟨b1, b2⟩ := h2 g
    obtain ⟨a3, a4⟩ := a2 g
    refine ⟨b1, fun hh => ?_⟩
    obtain ⟨b3, b4⟩ := b2 hh
    refine ⟨by show i + (c + c') ≤ (k r.2.1).2.1; omega, ?_⟩
    show i + (r.2.2 ++ (k r.2.1).2.2).length ≤ (k r.2.1).2.1
    rw [List.length_append]
    omega
  · rw [if_neg g]
    exact ⟨h.1, fun hh => absurd hh g⟩
/-- one that is emitted stands for a token that was taken -/
theorem kBnd_em {N i c K t : Nat} {r : kR} (h : kBnd N (i + 1) c r) : kBnd N i (c + 1) (kBd r (kEm K t)) := by
  unfold kBd
  by_cases g : r.1 = true
  · rw [if_pos g]
    obtain ⟨a1, a2⟩ := h
    obtain ⟨a3, a4⟩ := a2 g
    refine ⟨a1, fun hh => ⟨?_, ?_⟩⟩
    · show i + (c + 1) ≤ r.2.1
      omega
    · show i + (r.2.2 ++ [(K, t)]).length ≤ r.2.1
      rw [List.length_append]
      show i + (r.2.2.length + 1) ≤ r.2.1
      omega
  · rw [if_neg g]
    exact ⟨h.1, fun hh => absurd hh g⟩
theorem kBnd_no {N i c j : Nat} (h : j ≤ N - 1) : kBnd N i c (kNo j) := ⟨h, fun hh => Bool.noConfusion (show false = true from hh)⟩
theorem kBnd_1 {N i c : Nat} {r : kR} (h : kBnd N (i + 1) c r) : kBnd N i (c + 1) r := ⟨h.1, fun hh => by have := h.2 hh; omega⟩
theorem kBnd_w {N i c c' : Nat} {r : kR} (h : kBnd N i c r) (hc : c' ≤ c) : kBnd N i c' r := ⟨h.1, fun hh => by have := h.2 hh; omega⟩
/-- all tokens but the last are taken, if any -/
def kTok (kd : Nat → Nat) (N : Nat) : Prop := 1 ≤ N ∧ N ≤ 401 ∧ 39 ≤ kd (N - 1) ∧ (∀ i, i < N - 1 → kd i < 39) ∧ ∀ i, kd i < 42
theorem kTok_lt {kd : Nat → Nat} {N i : Nat} (h : kTok kd N) (hi : i ≤ N - 1) (hk : kd i < 39) : i + 1 ≤ N - 1 := by
  by_cases e : i = N - 1
  · rw [e] at hk
    have := h.2.2.1
    omega
  · omega
theorem kT1_b {kd : Nat → Nat} {N K i : Nat} (h : kTok kd N) (hi : i ≤ N - 1) (hK : K < 39) : kBnd N i 1 (kT1 kd K i) := by
  unfold kT1
  by_cases g : kd i = K
  · rw [if_pos g]
    have := kTok_lt h hi (by omega)
    exact ⟨this, fun _ => ⟨Nat.le_refl _, by show i + 0 ≤ i + 1; omega⟩⟩
  · rw [if_neg g]
    exact kBnd_no hi
theorem kP_b {kd : Nat → Nat} {N : Nat} (h : kTok kd N) : ∀ f mode D i, i ≤ N - 1 → kBnd N i (if mode = 1 ∨ mode = 3 ∨ mode = 6 ∨ mode = 8 then 0 else 1) (kP kd f mode D i) := by
  intro f
  induction f with
  | zero => intro mode D i hi; exact kBnd_no hi
  | succ f ih =>
    have v := fun D i hi => (show kBnd N i 1 (kP kd f 0 D i) from ih 0 D i hi)
    have pl := fun D i hi => (show kBnd N i 0 (kP kd f 1 D i) from ih 1 D i hi)
    have p := fun D i hi => (show kBnd N i 1 (kP kd f 2 D i) from ih 2 D i hi)
    have sl := fun D i hi => (show kBnd N i 0 (kP kd f 3 D i) from ih 3 D i hi)
    have s := fun D i hi => (show kBnd N i 1 (kP kd f 4 D i) from ih 4 D i hi)
    have g := fun D i hi => (show kBnd N i 1 (kP kd f 5 D i) from ih 5 D i hi)
    have gl := fun D i hi => (show kBnd N i 0 (kP kd f 6 D i) from ih 6 D i hi)
    have b := fun D i hi => (show kBnd N i 1 (kP kd f 7 D i) from ih 7 D i hi)
    have bl := fun D i hi => (show kBnd N i 0 (kP kd f 8 D i) from ih 8 D i hi)
    have t := fun D i hi => (show kBnd N i 1 (kP kd f 9 D i) from ih 9 D i hi)
    have two : ∀ (i K t : Nat) (r k : Nat → kR), kd i < 39 → i ≤ N - 1 → (∀ j, j ≤ N - 1 → kBnd N j 1 (r j)) → (∀ j, j ≤ N - 1 → kBnd N j 0 (k j)) → kBnd N i 0 (kBd (kBd (r (i + 1)) (kEm K t)) k) := fun i K t r k h1 h2 h3 h4 => by
      have i1 := kTok_lt h h2 h1
      exact kBnd_w (kBnd_bd (kBnd_em (h3 (i + 1) i1)) fun hh => h4 _ (kBnd_em (K := K) (t := t) (h3 (i + 1) i1)).1) (Nat.zero_le _)
    have one : ∀ (i : Nat) (r k : Nat → kR), i ≤ N - 1 → (∀ j, j ≤ N - 1 → kBnd N j 1 (r j)) → (∀ j, j ≤ N - 1 → kBnd N j 0 (k j)) → kBnd N i 1 (kBd (r i) k) := fun i r k h2 h3 h4 => kBnd_bd (h3 i h2) fun hh => h4 _ (h3 i h2).1
    intro mode D i hi
    match mode with
    | 0 =>
      show kBnd N i 1 (kV kd (kP kd f) D i)
      unfold kV
      by_cases a : kd i = 38 ∨ kd i = 12 ∨ kd i = 13
      · rw [if_pos a]
        exact ⟨kTok_lt h hi (by omega), fun _ => ⟨Nat.le_refl _, Nat.le_refl _⟩⟩
      · rw [if_neg a]
        by_cases a : kd i = 14 ∨ kd i = 15
        · rw [if_pos a]
          have i1 := kTok_lt h hi (by omega)
          by_cases c : kd (i + 1) = 37
          · rw [if_pos c]
            have i2 := kTok_lt h i1 (by omega)
            exact ⟨i2, fun _ => ⟨by show i + 1 ≤ i + 2; omega, by show i + 1 ≤ i + 2; omega⟩⟩
          · rw [if_neg c]
            exact kBnd_no i1
        · rw [if_neg a]
          by_cases a : kd i = 29
          · rw [if_pos a]
            have i1 := kTok_lt h hi (by omega)
            split
            · exact kBnd_w (kBnd_em (v (D + 1) (i + 1) i1)) (by omega)
            · exact kBnd_no hi
          · rw [if_neg a]
            by_cases a : kd i = 22
            · rw [if_pos a]
              have i1 := kTok_lt h hi (by omega)
              split
              · exact kBnd_w (kBnd_1 (kBnd_bd (s (D + 1) (i + 1) i1) fun hh => kT1_b h (s (D + 1) (i + 1) i1).1 (by decide))) (by omega)
              · exact kBnd_no hi
            · rw [if_neg a]
              by_cases a : kd i = 20 ∨ kd i = 21
              · rw [if_pos a]
                have i1 := kTok_lt h hi (by omega)
                split
                · by_cases c : kd (i + 1) = 22
                  · rw [if_pos c]
                    have i2 := kTok_lt h i1 (by omega)
                    have e1 := s (D + 1) (i + 2) i2
                    have e2 := kBnd_bd e1 fun hh => kT1_b (K := 27) h e1.1 (by decide)
                    have e3 := kBnd_bd e2 fun hh => s (D + 1) _ e2.1
                    have e4 := kBnd_bd e3 fun hh => kT1_b (K := 23) h e3.1 (by decide)
                    exact kBnd_w (kBnd_em (kBnd_1 e4)) (by omega)
                  · rw [if_neg c]
                    exact kBnd_no i1
                · exact kBnd_no i1
              · rw [if_neg a]
                exact kBnd_no hi
    | 1 =>
      show kBnd N i 0 (kLp2 kd (kP kd f) 30 31 0 1 D i)
      unfold kLp2
      by_cases a : kd i = 30 ∨ kd i = 31
      · rw [if_pos a]
        exact two i (kd i) i (kP kd f 0 D) (kP kd f 1 D) (by omega) hi (v D) (pl D)
      · rw [if_neg a]
        exact ⟨hi, fun _ => ⟨Nat.le_refl _, Nat.le_refl _⟩⟩
    | 2 => exact one i (kP kd f 0 D) (kP kd f 1 D) hi (v D) (pl D)
    | 3 =>
      show kBnd N i 0 (kLp2 kd (kP kd f) 28 29 2 3 D i)
      unfold kLp2
      by_cases a : kd i = 28 ∨ kd i = 29
      · rw [if_pos a]
        exact two i (kd i) i (kP kd f 2 D) (kP kd f 3 D) (by omega) hi (p D) (sl D)
      · rw [if_neg a]
        exact ⟨hi, fun _ => ⟨Nat.le_refl _, Nat.le_refl _⟩⟩
    | 4 => exact one i (kP kd f 2 D) (kP kd f 3 D) hi (p D) (sl D)
    | 5 =>
      show kBnd N i 1 (kSg kd (kP kd f) D i)
      unfold kSg
      by_cases a : kd i = 17
      · rw [if_pos a]
        have i1 := kTok_lt h hi (by omega)
        split
        · exact kBnd_w (kBnd_em (g (D + 1) (i + 1) i1)) (by omega)
        · exact kBnd_no hi
      · rw [if_neg a]
        by_cases a : kd i = 24
        · rw [if_pos a]
          have i1 := kTok_lt h hi (by omega)
          split
          · exact kBnd_w (kBnd_1 (kBnd_bd (t (D + 1) (i + 1) i1) fun hh => kT1_b h (t (D + 1) (i + 1) i1).1 (by decide))) (by omega)
          · exact kBnd_no hi
        · rw [if_neg a]
          by_cases a : kd i = 16
          · rw [if_pos a]
            have i1 := kTok_lt h hi (by omega)
            by_cases c : kd (i + 1) = 37
            · rw [if_pos c]
              have i2 := kTok_lt h i1 (by omega)
              exact ⟨i2, fun _ => ⟨by show i + 1 ≤ i + 2; omega, by show i + 1 ≤ i + 2; omega⟩⟩
            · rw [if_neg c]
              exact kBnd_no i1
          · rw [if_neg a]
            refine kBnd_w (kBnd_bd (c' := 0) (s D i hi) fun hh => ?_) (by omega)
            have j1 := (s D i hi).1
            unfold kCm
            by_cases c : kd (kP kd f 4 D i).2.1 = 32 ∨ kd (kP kd f 4 D i).2.1 = 33 ∨ kd (kP kd f 4 D i).2.1 = 34 ∨ kd (kP kd f 4 D i).2.1 = 35 ∨ kd (kP kd f 4 D i).2.1 = 36
            · rw [if_pos c]
              have j2 := kTok_lt h j1 (by omega)
              exact kBnd_w (kBnd_em (s D _ j2)) (by omega)
            · rw [if_neg c]
              exact kBnd_no j1
    | 6 =>
      show kBnd N i 0 (kLp1 kd (kP kd f) 18 5 6 D i)
      unfold kLp1
      by_cases a : kd i = 18
      · rw [if_pos a]
        exact two i 18 i (kP kd f 5 D) (kP kd f 6 D) (by omega) hi (g D) (gl D)
      · rw [if_neg a]
        exact ⟨hi, fun _ => ⟨Nat.le_refl _, Nat.le_refl _⟩⟩
    | 7 => exact one i (kP kd f 5 D) (kP kd f 6 D) hi (g D) (gl D)
    | 8 =>
      show kBnd N i 0 (kLp1 kd (kP kd f) 19 7 8 D i)
      unfold kLp1
      by_cases a : kd i = 19
      · rw [if_pos a]
        exact two i 19 i (kP kd f 7 D) (kP kd f 8 D) (by omega) hi (b D) (bl D)
      · rw [if_neg a]
        exact ⟨hi, fun _ => ⟨Nat.le_refl _, Nat.le_refl _⟩⟩
    | m + 9 =>
      have e : (if m + 9 = 1 ∨ m + 9 = 3 ∨ m + 9 = 6 ∨ m + 9 = 8 then 0 else 1) = 1 := if_neg (by omega)
      rw [e]
      show kBnd N i 1 (kBd (kP kd f 7 D i) (kP kd f 8 D))
      exact one i (kP kd f 7 D) (kP kd f 8 D) hi (b D) (bl D)
/-- a list as steps and subjects -/
def kSq (K : Nat → Option Nat) (S : Nat → Int32) : Nat → List (Nat × Nat) → Prop
  | _, [] => True
  | k, (c, t) :: r => K k = some (64 * c + 40) ∧ S k = iN t ∧ kSq K S (k + 1) r
theorem kSq_app {K : Nat → Option Nat} {S : Nat → Int32} : ∀ (L M : List (Nat × Nat)) (k : Nat), kSq K S k (L ++ M) ↔ kSq K S k L ∧ kSq K S (k + L.length) M
  | [], M, k => ⟨fun h => ⟨trivial, h⟩, fun h => h.2⟩
  | (c, t) :: r, M, k => by
    show (K k = some (64 * c + 40) ∧ S k = iN t ∧ kSq K S (k + 1) (r ++ M)) ↔ (K k = some (64 * c + 40) ∧ S k = iN t ∧ kSq K S (k + 1) r) ∧ kSq K S (k + (r.length + 1)) M
    rw [kSq_app r M (k + 1), show k + 1 + r.length = k + (r.length + 1) by omega]
    exact ⟨fun ⟨a, b, c, d⟩ => ⟨⟨a, b, c⟩, d⟩, fun ⟨⟨a, b, c⟩, d⟩ => ⟨a, b, c, d⟩⟩
theorem kSq_congr {K K' : Nat → Option Nat} {S S' : Nat → Int32} : ∀ (L : List (Nat × Nat)) (k : Nat), (∀ j, k ≤ j → j < k + L.length → K' j = K j ∧ S' j = S j) → kSq K S k L → kSq K' S' k L
  | [], _, _, h => h
  | (c, t) :: r, k, e, ⟨h1, h2, h3⟩ => by
    have e0 := e k (Nat.le_refl _) (by show k < k + (r.length + 1); omega)
    exact ⟨e0.1.trans h1, e0.2.trans h2, kSq_congr r (k + 1) (fun j a b => e j (by omega) (by show j < k + (r.length + 1); omega)) h3⟩
/-- while the class reads a plan: the next token, and what is to be reckoned so far -/
def jGf (μ ν : jM) : Prop := (∀ a, ¬ a = 194 → ¬ a = 1156 → ¬ a = 1304 → jI ν a = jI μ a) ∧ (∀ k, ¬ k = 7 → jI ν 194 k = jI μ 194 k) ∧ (∀ k, ¬ k = 3 → jI ν 1156 k = jI μ 1156 k) ∧ (∀ a, ¬ a = 1248 → jQ ν a = jQ μ a) ∧ jL ν = jL μ ∧ jA ν = jA μ ∧ jX ν = jX μ
def jG0 (μ : jM) (kd : Nat → Nat) (N : Nat) : Prop := jWd μ ∧ kTok kd N ∧ jI μ 194 6 = iN N ∧ ∀ k, k < N → jQ μ 289 k = some (64 * kd k + 40)
def jGr (μ ν : jM) (i : Nat) (E : List (Nat × Nat)) : Prop := jGf μ ν ∧ jI ν 194 7 = iN i ∧ jI ν 1156 3 = iN E.length ∧ kSq (jQ ν 1248) (jI ν 1304) 0 E
def jGz (μ ν : jM) (i : Nat) : Prop := jGf μ ν ∧ jI ν 194 7 = iN i
section LEAF
variable {d : Nat} {μ ν : jM} {Q : jO → jM → Prop} {kd : Nat → Nat} {N i K K' : Nat} {E : List (Nat × Nat)}
theorem jGr_take {j : Nat} (h : jGr μ ν i E) : jGr μ (jsI ν 194 7 (iN j)) j E := by
  obtain ⟨⟨a1, a2, a3, a4, a5, a6, a7⟩, b, c, e⟩ := h
  refine ⟨⟨fun a n1 n2 n3 => by rw [mI2 n1]; exact a1 a n1 n2 n3, fun k hk => by rw [mI1, if_neg hk]; exact a2 k hk, fun k hk => by rw [mI2 (by decide)]; exact a3 k hk, a4, a5, a6, a7⟩, by rw [mI1, if_pos rfl], by rw [mI2 (by decide)]; exact c, ?_⟩
  rw [mI4, mI2 (by decide)]
  exact e
def kAdM (ν : jM) (n K t : Nat) : jM := jsI (jsI (jsQ ν 1248 n (some (64 * K + 40))) 1304 n (iN t)) 1156 3 (iN (n + 1))
theorem jGr_add {K t : Nat} (h : jGr μ ν i E) : jGr μ (kAdM ν E.length K t) i (E ++ [(K, t)]) := by
  obtain ⟨⟨a1, a2, a3, a4, a5, a6, a7⟩, b, c, e⟩ := h
  unfold kAdM
  refine ⟨⟨fun a n1 n2 n3 => by rw [mI2 n2, mI2 n3]; exact a1 a n1 n2 n3, fun k hk => by rw [mI2 (by decide), mI2 (by decide)]; exact a2 k hk, fun k hk => by rw [mI1, if_neg hk, mI2 (by decide)]; exact a3 k hk, fun a n => by rw [mI4, mI4, mQ2 n]; exact a4 a n, a5, a6, a7⟩, by rw [mI2 (by decide), mI2 (by decide)]; exact b, ?_, ?_⟩
  · rw [mI1, if_pos rfl, List.length_append]
    rfl
  · rw [kSq_app, Nat.zero_add]
    refine ⟨kSq_congr E 0 (fun j _ hj => ?_) e, ?_, ?_, trivial⟩
    · rw [mI4, mI4, mQ1, if_neg (by omega), mI2 (by decide), mI1, if_neg (by omega)]
      exact ⟨rfl, rfl⟩
    · rw [mI4, mI4, mQ1, if_pos rfl]
    · rw [mI2 (by decide), mI1, if_pos rfl]
theorem jGr_w (h0 : jG0 μ kd N) (h : jGr μ ν i E) : jWd ν := jWd_a (fun a n1 n2 n3 => h.1.2.2.2.1 a n2) h0.1
theorem c_kind (h0 : jG0 μ kd N) (h : jGr μ ν i E) {j : Nat} (hi : j ≤ N - 1) : Ex d 50 0 [some (.ref 194), some (.int (iN j))] [] ν Q ↔ Q (.inl (some (.ref (64 * kd j + 40)))) ν := by
  have hw := jGr_w h0 h
  unfold jWd at hw
  have hN := h0.2.1
  have hc : jI ν 194 6 = iN N := (h.1.2.1 6 (by decide)).trans h0.2.2.1
  have hN1 := hN.1
  have hN2 := hN.2.1
  have j0 : ¬ iN j < 0 := iN_nn (by omega)
  have j1 : iN j < iN N := (iN_lt (by omega) (by omega)).mpr (by omega)
  have j2 : iN j < iN 401 := (iN_lt (by omega) (by omega)).mpr (by omega)
  have jc : (iN j).toNatClampNeg = j := iN_cl (by omega)
  have jj : jin (iN j) 401 = true := iN_in (by omega) (by omega)
  have hq : jQ ν 289 j = some (64 * kd j + 40) := by rw [h.1.2.2.2.1 289 (by decide)]; exact h0.2.2.2 j (by omega)
  have b35 : (Nat.ble 3 3 && Nat.ble 3 5) = true := rfl
  simp only [x50_0, x50_1, x50_4, x50_5, x50_6, x50_9, x50_12, x50_13, x50_14, x50_17, x50_18, x50_21, x50_22, x50_25, x50_26, x50_27, x50_30, x50_33, mzi, mInc, mne, mlt9, mrk, mI1, mI2, mI3, mI4, mL1, mL2, mL3, mL4, mQ1, mQ2, mQ3, mQ4, mT1, mcat0, mcat1, mcat2, mcat3, mcat4, mrf1, jK_v, jK_n, JA, mz1, if_true, if_false, ite_true, ite_false, eq_self, not_false_eq_true, Nat.zero_le, true_and, and_true, and_self, Nat.reduceMod, Nat.reduceAdd, Nat.reduceLeDiff, Nat.reduceEqDiff, Nat.reduceLT, hw, hc, j0, j1, j2, jc, jj, hq, b35]
theorem e40 {a b : Nat} : (64 * a + 40 = 64 * b + 40) = (a = b) := propext ⟨fun h => by omega, fun h => by omega⟩
theorem c_is (h0 : jG0 μ kd N) (h : jGr μ ν i E) (hi : i ≤ N - 1) : Ex (d + 1) 49 0 [some (.ref 1413), some (.ref (64 * K + 40))] [] ν Q ↔ Q (.inl (some (.int (if kd i = K then 1 else 0)))) ν := by
  have hw := jGr_w h0 h
  unfold jWd at hw
  have hk := fun d Q => c_kind (d := d) (Q := Q) h0 h hi
  have hx := h.2.1
  have m40 : ∀ x, (64 * x + 40) % 64 = 40 := fun x => by omega
  by_cases g : kd i = K
  · have g' := eq_true g
    simp only [x49_0, x49_1, x49_4, x49_5, x49_8, x49_11, x49_14, x49_15, x49_18, x49_19, x49_22, x49_23, mzi, mInc, mne, mlt9, mrk, mI1, mI2, mI3, mI4, mL1, mL2, mL3, mL4, mQ1, mQ2, mQ3, mQ4, mT1, mcat0, mcat1, mcat2, mcat3, mcat4, mrf1, jK_v, jK_n, JA, mz1, if_true, if_false, ite_true, ite_false, eq_self, not_false_eq_true, Nat.zero_le, true_and, and_true, and_self, Nat.reduceMod, Nat.reduceAdd, Nat.reduceLeDiff, Nat.reduceEqDiff, Nat.reduceLT, hw, hk, hx, m40, e40, g']
  · have g' := eq_false g
    simp only [x49_0, x49_1, x49_4, x49_5, x49_8, x49_11, x49_14, x49_15, x49_18, x49_19, x49_22, x49_23, mzi, mInc, mne, mlt9, mrk, mI1, mI2, mI3, mI4, mL1, mL2, mL3, mL4, mQ1, mQ2, mQ3, mQ4, mT1, mcat0, mcat1, mcat2, mcat3, mcat4, mrf1, jK_v, jK_n, JA, mz1, if_true, if_false, ite_true, ite_false, eq_self, not_false_eq_true, Nat.zero_le, true_and, and_true, and_self, Nat.reduceMod, Nat.reduceAdd, Nat.reduceLeDiff, Nat.reduceEqDiff, Nat.reduceLT, hw, hk, hx, m40, e40, g']
theorem c_take (h0 : jG0 μ kd N) (h : jGr μ ν i E) (hi : i ≤ N - 1) : Ex (d + 1) 52 0 [some (.ref 194), some (.ref (64 * K + 40))] [] ν Q ↔ if kd i = K then Q (.inl (some (.int 1))) (jsI ν 194 7 (iN (i + 1))) else Q (.inl (some (.int 0))) ν := by
  have hw := jGr_w h0 h
  unfold jWd at hw
  have hk := fun d Q => c_kind (d := d) (Q := Q) h0 h hi
  have hx := h.2.1
  have m40 : ∀ x, (64 * x + 40) % 64 = 40 := fun x => by omega
  by_cases g : kd i = K
  · have g' := eq_true g
    simp only [x52_0, x52_1, x52_2, x52_5, x52_8, x52_9, x52_12, x52_13, x52_14, x52_15a, x52_15b, x52_16, x52_19, x52_20, x52_21, x52_24, x52_25, mzi, mInc, mne, mlt9, mrk, mI1, mI2, mI3, mI4, mL1, mL2, mL3, mL4, mQ1, mQ2, mQ3, mQ4, mT1, mcat0, mcat1, mcat2, mcat3, mcat4, mrf1, jK_v, jK_n, JA, mz1, if_true, if_false, ite_true, ite_false, eq_self, not_false_eq_true, Nat.zero_le, true_and, and_true, and_self, Nat.reduceMod, Nat.reduceAdd, Nat.reduceLeDiff, Nat.reduceEqDiff, Nat.reduceLT, hw, hk, hx, m40, e40, g']
  · have g' := eq_false g
    simp only [x52_0, x52_1, x52_2, x52_5, x52_8, x52_9, x52_12, x52_13, x52_14, x52_15a, x52_15b, x52_16, x52_19, x52_20, x52_21, x52_24, x52_25, mzi, mInc, mne, mlt9, mrk, mI1, mI2, mI3, mI4, mL1, mL2, mL3, mL4, mQ1, mQ2, mQ3, mQ4, mT1, mcat0, mcat1, mcat2, mcat3, mcat4, mrf1, jK_v, jK_n, JA, mz1, if_true, if_false, ite_true, ite_false, eq_self, not_false_eq_true, Nat.zero_le, true_and, and_true, and_self, Nat.reduceMod, Nat.reduceAdd, Nat.reduceLeDiff, Nat.reduceEqDiff, Nat.reduceLT, hw, hk, hx, m40, e40, g']
theorem c_both (h0 : jG0 μ kd N) (h : jGr μ ν i E) (hi : i ≤ N - 1) (hK : K < 39) : Ex (d + 2) 53 0 [some (.ref 1413), some (.ref (64 * K + 40)), some (.ref (64 * K' + 40))] [] ν Q ↔ if kd i = K then (if kd (i + 1) = K' then Q (.inl (some (.int 1))) (jsI (jsI ν 194 7 (iN (i + 1))) 194 7 (iN (i + 2))) else Q (.inl (some (.int 0))) (jsI ν 194 7 (iN (i + 1)))) else Q (.inl (some (.int 0))) ν := by
  have hw := jGr_w h0 h
  unfold jWd at hw
  have h1 := jGr_take (j := i + 1) h
  have ht := fun d Q => c_take (d := d) (Q := Q) (K := K) h0 h hi
  by_cases g : kd i = K
  · have i1 := kTok_lt h0.2.1 hi (by omega)
    have g' := eq_true g
    have ht2 := fun d Q => c_take (d := d) (Q := Q) (K := K') h0 h1 i1
    by_cases g2 : kd (i + 1) = K'
    · have g2' := eq_true g2
      simp only [x53_0, x53_1, x53_4, x53_5, x53_8, x53_11, x53_12, x53_15, x53_16, x53_19, x53_22, x53_23, x53_26, x53_27, mzi, mInc, mne, mlt9, mrk, mI1, mI2, mI3, mI4, mL1, mL2, mL3, mL4, mQ1, mQ2, mQ3, mQ4, mT1, mcat0, mcat1, mcat2, mcat3, mcat4, mrf1, jK_v, jK_n, JA, mz1, if_true, if_false, ite_true, ite_false, eq_self, not_false_eq_true, Nat.zero_le, true_and, and_true, and_self, Nat.reduceMod, Nat.reduceAdd, Nat.reduceLeDiff, Nat.reduceEqDiff, Nat.reduceLT, hw, ht, ht2, g', g2']
    · have g2' := eq_false g2
      simp only [x53_0, x53_1, x53_4, x53_5, x53_8, x53_11, x53_12, x53_15, x53_16, x53_19, x53_22, x53_23, x53_26, x53_27, mzi, mInc, mne, mlt9, mrk, mI1, mI2, mI3, mI4, mL1, mL2, mL3, mL4, mQ1, mQ2, mQ3, mQ4, mT1, mcat0, mcat1, mcat2, mcat3, mcat4, mrf1, jK_v, jK_n, JA, mz1, if_true, if_false, ite_true, ite_false, eq_self, not_false_eq_true, Nat.zero_le, true_and, and_true, and_self, Nat.reduceMod, Nat.reduceAdd, Nat.reduceLeDiff, Nat.reduceEqDiff, Nat.reduceLT, hw, ht, ht2, g', g2']
  · have g' := eq_false g
    simp only [x53_0, x53_1, x53_4, x53_5, x53_8, x53_11, x53_12, x53_15, x53_16, x53_19, x53_22, x53_23, x53_26, x53_27, mzi, mInc, mne, mlt9, mrk, mI1, mI2, mI3, mI4, mL1, mL2, mL3, mL4, mQ1, mQ2, mQ3, mQ4, mT1, mcat0, mcat1, mcat2, mcat3, mcat4, mrf1, jK_v, jK_n, JA, mz1, if_true, if_false, ite_true, ite_false, eq_self, not_false_eq_true, Nat.zero_le, true_and, and_true, and_self, Nat.reduceMod, Nat.reduceAdd, Nat.reduceLeDiff, Nat.reduceEqDiff, Nat.reduceLT, hw, ht, g']
theorem c_add (h0 : jG0 μ kd N) (h : jGr μ ν i E) (hE : E.length < 400) {t : Nat} : Ex d 58 0 [some (.ref 1156), some (.ref (64 * K + 40)), some (.int (iN t))] [] ν Q ↔ Q (.inl (some (.int 1))) (kAdM ν E.length K t) := by
  have hw := jGr_w h0 h
  unfold jWd at hw
  have hx := h.2.2.1
  have m40 : (64 * K + 40) % 64 = 40 := by omega
  have l1 : iN E.length < iN 400 := (iN_lt (by omega) (by omega)).mpr hE
  have jc : (iN E.length).toNatClampNeg = E.length := iN_cl (by omega)
  have jj : jin (iN E.length) 400 = true := iN_in (by omega) (by omega)
  unfold kAdM
  simp only [x58_0, x58_1, x58_4, x58_5, x58_8, x58_9, x58_12, x58_13, x58_14, x58_15, x58_18, x58_19, x58_22, x58_23, x58_24, x58_25, x58_28, x58_29, x58_32, x58_33, x58_34, x58_35a, x58_35b, x58_36, x58_39, x58_40, x58_41, x58_44, x58_45, mzi, mInc, mne, mlt9, mrk, mI1, mI2, mI3, mI4, mL1, mL2, mL3, mL4, mQ1, mQ2, mQ3, mQ4, mT1, mcat0, mcat1, mcat2, mcat3, mcat4, mrf1, jK_v, jK_n, JA, mz1, if_true, if_false, ite_true, ite_false, eq_self, not_false_eq_true, Nat.zero_le, true_and, and_true, and_self, Nat.reduceMod, Nat.reduceAdd, Nat.reduceLeDiff, Nat.reduceEqDiff, Nat.reduceLT, hw, hx, m40, l1, jc, jj, mQ2, mQ3]
end LEAF
