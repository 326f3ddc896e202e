/-! THE PURE PART: a search in breadth (reference). -/
theorem JR18 (x : Nat) : jty (64 * x + 18) = 0 ∧ jmade (64 * x + 18) = true ∧ (∀ μ, jln (64 * x + 18) μ = 12) ∧ ∀ i μ, jrdI (64 * x + 18) i μ = jI μ (64 * x + 18) i := by
  have e1 : (64 * x + 18) % 64 = 18 := by omega
  refine ⟨?_, ?_, fun μ => ?_, fun i μ => ?_⟩
  · unfold jty
    rw [e1]
    rfl
  · unfold jmade
    rw [e1]
    rfl
  · unfold jln
    rw [e1]
    rfl
  · unfold jrdI
    rw [e1]
    rfl
theorem beq_no {a b : Nat} (h : ¬ a = b) : Nat.beq a b = false := by
  cases e : Nat.beq a b with
  | false => rfl
  | true => exact absurd (Nat.eq_of_beq_eq_true e) h
theorem JR34 (x : Nat) : (Nat.ble 3 (jty (64 * x + 34)) && Nat.ble (jty (64 * x + 34)) 5) = true ∧ (∀ μ, jln (64 * x + 34) μ = 12) ∧ ∀ i μ, jrdQ (64 * x + 34) i μ = jQ μ (64 * x + 34) i := by
  have e1 : (64 * x + 34) % 64 = 34 := by omega
  refine ⟨?_, fun μ => ?_, fun i μ => ?_⟩
  · unfold jty
    rw [e1]
    rfl
  · unfold jln
    rw [e1]
    rfl
  · unfold jrdQ
    rw [beq_no (show ¬ 64 * x + 34 = 106 by omega), beq_no (show ¬ 64 * x + 34 = 170 by omega)]
    rfl
theorem mR2' {μ : jM} {a b : Nat} {g : Nat → Int32} (h : ¬ b = a) : jI (jsR μ a g) b = jI μ b := mR2 h
theorem mRIc' {μ : jM} {a b k : Nat} {v : Int32} {g : Nat → Int32} (h : ¬ a = b) : jsI (jsR μ b g) a k v = jsR (jsI μ a k v) b g := by
  have e : j2 (jrow (jI μ) b g) a k v = jrow (j2 (jI μ) a k v) b g := by
    funext x j
    unfold j2 jrow
    by_cases h1 : x = a
    · have h2 : ¬ x = b := fun h3 => h (h1.symm.trans h3)
      simp only [if_pos h1, if_neg h2]
    · simp only [if_neg h1]
  show (j2 (jrow (jI μ) b g) a k v, jL μ, jQ μ, jA μ, jX μ) = (jrow (j2 (jI μ) a k v) b g, jL μ, jQ μ, jA μ, jX μ)
  rw [e]
/-- what is there stays; so many objects and so much room more -/
def jGb (b c s : Nat) (μ μ' : jM) : Prop := (∀ a, a < 64 * b → jI μ' a = jI μ a ∧ jL μ' a = jL μ a ∧ jQ μ' a = jQ μ a) ∧ (jA μ').length = (jA μ).length + c ∧ jX μ' = jX μ ∧ jns μ' ≤ jns μ + s
theorem jGb_r {b : Nat} {μ : jM} : jGb b 0 0 μ μ := ⟨fun _ _ => ⟨rfl, rfl, rfl⟩, rfl, rfl, Nat.le_refl _⟩
theorem jGb_t {b c s c' s' : Nat} {μ μ1 μ2 : jM} (h : jGb b c s μ μ1) (h2 : jGb b c' s' μ1 μ2) : jGb b (c + c') (s + s') μ μ2 := by
  obtain ⟨a1, a2, a3, a4⟩ := h
  obtain ⟨b1, b2, b3, b4⟩ := h2
  exact ⟨fun a ha => ⟨(b1 a ha).1.trans (a1 a ha).1, (b1 a ha).2.1.trans (a1 a ha).2.1, (b1 a ha).2.2.trans (a1 a ha).2.2⟩, by omega, b3.trans a3, by omega⟩
theorem jGb_I {b a k : Nat} {μ : jM} {v : Int32} (h : 64 * b ≤ a) : jGb b 0 0 μ (jsI μ a k v) := ⟨fun x hx => ⟨mI2 (by omega), rfl, rfl⟩, rfl, rfl, Nat.le_refl _⟩
theorem jGb_R {b a : Nat} {μ : jM} {g : Nat → Int32} (h : 64 * b ≤ a) : jGb b 0 0 μ (jsR μ a g) := ⟨fun x hx => ⟨mR2 (by omega), rfl, rfl⟩, rfl, rfl, Nat.le_refl _⟩
theorem jsum_snoc {l : List Nat} {a : Nat} : ((l ++ [a]).map jsz).sum = (l.map jsz).sum + jsz a := by
  rw [List.map_append, List.sum_append]
  simp
theorem jsz_c {x c : Nat} (hc : c < 64) : jsz (64 * x + c) = jsz c := by
  unfold jsz
  rw [show (64 * x + c) % 64 = c % 64 by omega]
theorem jnew_r {μ : jM} {c a : Nat} (h : ¬ a = jadr μ c) : jI (jnew μ c) a = jI μ a ∧ jL (jnew μ c) a = jL μ a ∧ jQ (jnew μ c) a = jQ μ a := by
  refine ⟨?_, ?_, ?_⟩
  · show jrow (jI μ) (jadr μ c) (fun _ => 0) a = _
    exact jrow_ne _ _ h
  · show jrow (jL μ) (jadr μ c) (fun _ => 0) a = _
    exact jrow_ne _ _ h
  · show jrow (jQ μ) (jadr μ c) (fun _ => none) a = _
    exact jrow_ne _ _ h
theorem jnew_z {μ : jM} {c : Nat} : jI (jnew μ c) (jadr μ c) = fun _ => 0 := jrow_self _ _ _
theorem jnew_b {μ : jM} {b c s : Nat} (hb : b ≤ (jA μ).length) (hc : c < 64) (hs : jsz c ≤ s) : jGb b 1 s μ (jnew μ c) := by
  refine ⟨fun a ha => jnew_r (by unfold jadr; omega), ?_, rfl, ?_⟩
  · show (jA μ ++ [jadr μ c]).length = _
    simp
  · show ((jA μ ++ [jadr μ c]).map jsz).sum + 6 * jX μ ≤ _
    rw [jsum_snoc]
    unfold jns jadr
    rw [jsz_c hc]
    omega
theorem jsQ_r {μ : jM} {a k x : Nat} {v : Option Nat} : jI (jsQ μ a k v) = jI μ ∧ jL (jsQ μ a k v) = jL μ ∧ jA (jsQ μ a k v) = jA μ ∧ jX (jsQ μ a k v) = jX μ ∧ (¬ x = a → jQ (jsQ μ a k v) x = jQ μ x) := ⟨rfl, rfl, rfl, rfl, fun h => mQ2 h⟩
/-- the rows of a square -/
theorem jrows_c {o c : Nat} (hc : c < 64) : ∀ n k μ, o < 64 * (jA μ).length →
    (jA (jrows o c n k μ)).length = (jA μ).length + n ∧ jX (jrows o c n k μ) = jX μ ∧ jns (jrows o c n k μ) = jns μ + n * jsz c ∧
    (∀ a, a < 64 * (jA μ).length → jI (jrows o c n k μ) a = jI μ a ∧ jL (jrows o c n k μ) a = jL μ a ∧ (¬ a = o → jQ (jrows o c n k μ) a = jQ μ a)) ∧
    (∀ j, j < k → jQ (jrows o c n k μ) o j = jQ μ o j) ∧
    ∀ i, i < n → jQ (jrows o c n k μ) o (k + i) = some (64 * ((jA μ).length + i) + c) ∧ jI (jrows o c n k μ) (64 * ((jA μ).length + i) + c) = fun _ => 0
  | 0, k, μ, ho => ⟨rfl, rfl, by rw [Nat.zero_mul]; rfl, fun _ _ => ⟨rfl, rfl, fun _ => rfl⟩, fun _ _ => rfl, fun i hi => absurd hi (by omega)⟩
  | n + 1, k, μ, ho => by
    have hl : (jA (jsQ (jnew μ c) o k (some (jadr μ c)))).length = (jA μ).length + 1 := by
      show (jA μ ++ [jadr μ c]).length = _
      simp
    obtain ⟨a1, a2, a3, a4, a5, a6⟩ := jrows_c (o := o) hc n (k + 1) (jsQ (jnew μ c) o k (some (jadr μ c))) (by rw [hl]; omega)
    rw [hl] at a1 a4 a6
    show (jA (jrows o c n (k + 1) (jsQ (jnew μ c) o k (some (jadr μ c))))).length = _ ∧ _
    have hob : ¬ o = jadr μ c := by unfold jadr; omega
    refine ⟨by rw [a1]; omega, a2, ?_, fun a ha => ?_, fun j hj => ?_, fun i hi => ?_⟩
    · show jns (jrows o c n (k + 1) (jsQ (jnew μ c) o k (some (jadr μ c)))) = _
      rw [a3]
      show ((jA μ ++ [jadr μ c]).map jsz).sum + 6 * jX μ + n * jsz c = ((jA μ).map jsz).sum + 6 * jX μ + (n + 1) * jsz c
      rw [jsum_snoc, Nat.add_mul, Nat.one_mul]
      unfold jadr
      rw [jsz_c hc]
      omega
    · have hn : ¬ a = jadr μ c := by unfold jadr; omega
      obtain ⟨b1, b2, b3⟩ := a4 a (by omega)
      obtain ⟨c1, c2, c3⟩ := jnew_r (c := c) hn
      exact ⟨b1.trans c1, b2.trans c2, fun h => (b3 h).trans ((mQ2 h).trans c3)⟩
    · show jQ (jrows o c n (k + 1) (jsQ (jnew μ c) o k (some (jadr μ c)))) o j = _
      rw [a5 j (by omega), mQ1, if_neg (by omega), (jnew_r hob).2.2]
    · show jQ (jrows o c n (k + 1) (jsQ (jnew μ c) o k (some (jadr μ c)))) o (k + i) = _ ∧ jI (jrows o c n (k + 1) (jsQ (jnew μ c) o k (some (jadr μ c)))) _ = _
      by_cases e : i = 0
      · subst e
        refine ⟨?_, ?_⟩
        · simp only [Nat.add_zero]
          rw [a5 k (by omega), mQ1, if_pos rfl]
          rfl
        · simp only [Nat.add_zero]
          rw [(a4 (64 * (jA μ).length + c) (by omega)).1]
          exact jnew_z
      · have := a6 (i - 1) (by omega)
        rw [show k + 1 + (i - 1) = k + i by omega, show (jA μ).length + 1 + (i - 1) = (jA μ).length + i by omega] at this
        exact this
/-- room in a square of the reference -/
def kMxM (μ : jM) (q : Nat) (r : Nat → Nat → Nat) : Prop := ∀ u, u < 12 → jQ μ (64 * q + 34) u = some (64 * (q + 1 + u) + 18) ∧ ∀ v, v < 12 → jI μ (64 * (q + 1 + u) + 18) v = iN (r u v) ∧ r u v + r v u ≤ 1000
theorem kMxM_c {μ μ' : jM} {q : Nat} {r : Nat → Nat → Nat} (h1 : jQ μ' (64 * q + 34) = jQ μ (64 * q + 34)) (h2 : ∀ u, u < 12 → jI μ' (64 * (q + 1 + u) + 18) = jI μ (64 * (q + 1 + u) + 18)) (h : kMxM μ q r) : kMxM μ' q r := by
  intro u hu
  rw [h1, h2 u hu]
  exact h u hu
theorem kMxM_mv {μ : jM} {q u k : Nat} {r : Nat → Nat → Nat} (h : kMxM μ q r) (hu : u < 12) (hk : k < 12) (huk : ¬ u = k) (h1 : 1 ≤ r u k) : kMxM (jsI (jsI μ (64 * (q + 1 + u) + 18) k (iN (r u k) - 1)) (64 * (q + 1 + k) + 18) u (iN (r k u) + 1)) q (kMv r u k) := by
  intro x hx
  refine ⟨(h x hx).1, fun y hy => ?_⟩
  have hxy := (h x hx).2 y hy
  have hku := ((h u hu).2 k hk).2
  have hR : ∀ a b, ¬ a = b → ¬ 64 * (q + 1 + a) + 18 = 64 * (q + 1 + b) + 18 := fun a b hab => by omega
  unfold kMv
  have a' : (y = u ∧ x = k) ↔ (x = k ∧ y = u) := And.comm
  have b' : (y = k ∧ x = u) ↔ (x = u ∧ y = k) := And.comm
  simp only [a', b']
  by_cases a : x = u ∧ y = k
  · have nb : ¬ (x = k ∧ y = u) := fun h => huk (a.1.symm.trans h.1)
    simp only [if_pos a, if_neg nb]
    rw [a.1, a.2, mI2 (hR u k huk), mI1, if_pos rfl, iN_pred (by omega)]
    exact ⟨rfl, by omega⟩
  · by_cases b : x = k ∧ y = u
    · simp only [if_neg a, if_pos b]
      rw [b.1, b.2, mI1, if_pos rfl, mInc]
      exact ⟨rfl, by omega⟩
    · simp only [if_neg a, if_neg b]
      refine ⟨?_, hxy.2⟩
      by_cases e1 : x = k
      · have e2 : ¬ y = u := fun h => b ⟨e1, h⟩
        rw [e1, mI1, if_neg e2, mI2 (hR k u (fun h => huk h.symm)), ← e1]
        exact hxy.1
      · rw [mI2 (hR x k e1)]
        by_cases e3 : x = u
        · have e2 : ¬ y = k := fun h => a ⟨e3, h⟩
          rw [e3, mI1, if_neg e2, ← e3]
          exact hxy.1
        · rw [mI2 (hR x u e3)]
          exact hxy.1
/-- the search goes in breadth: a place is looked at from the k-th -/
def kBi (r : Nat → Nat → Nat) (k x : Nat) (a : Int32 × Nat × (Nat → Int32) × (Nat → Int32)) : Int32 × Nat × (Nat → Int32) × (Nat → Int32) :=
  if jbt a.1 x = true then a else if r (a.2.2.2 k).toNatClampNeg x = 0 then a else (a.1 ||| 1 <<< (iN x &&& 31), a.2.1 + 1, (fun j => if j = x then a.2.2.2 k else a.2.2.1 j), fun j => if j = a.2.1 then iN x else a.2.2.2 j)
def kBfs (r : Nat → Nat → Nat) (s : Nat) (a : Int32 × Nat × (Nat → Int32) × (Nat → Int32)) : Prop :=
  1 ≤ a.2.1 ∧ a.2.2.2 0 = iN s ∧ kQu a.2.1 12 (fun l => if jbt a.1 l = true then 2 else 0) a.2.2.2 a.2.2.2 ∧ ∀ j, 1 ≤ j → j < a.2.1 → ∃ i x y, i < j ∧ x < 12 ∧ y < 12 ∧ a.2.2.2 i = iN x ∧ a.2.2.2 j = iN y ∧ a.2.2.1 y = iN x ∧ 1 ≤ r x y
theorem i20 : ∀ b : Bool, ((if b = true then (2 : Int32) else 0) = 2 ↔ b = true) := by decide
theorem kBfs_q {r : Nat → Nat → Nat} {s j : Nat} {a : Int32 × Nat × (Nat → Int32) × (Nat → Int32)} (h : kBfs r s a) (hj : j < a.2.1) : ∃ y, y < 12 ∧ a.2.2.2 j = iN y ∧ jbt a.1 y = true := by
  obtain ⟨_, q, b1, b2, b3⟩ := h.2.2.1.1 j hj
  exact ⟨q, b1, b2, (i20 _).mp b3⟩
theorem kBfs_n {r : Nat → Nat → Nat} {s : Nat} {a : Int32 × Nat × (Nat → Int32) × (Nat → Int32)} (h : kBfs r s a) : a.2.1 ≤ 12 := kQu_n h.2.2.1 (by decide)
/-- what a step adds -/
theorem kBi_c {r : Nat → Nat → Nat} {s k u x : Nat} {a : Int32 × Nat × (Nat → Int32) × (Nat → Int32)} (h : kBfs r s a) (hk : k < a.2.1) (hu : a.2.2.2 k = iN u) (hu12 : u < 12) (hx : x < 12) : kBfs r s (kBi r k x a) ∧ a.2.1 ≤ (kBi r k x a).2.1 ∧ (∀ j, j < a.2.1 → (kBi r k x a).2.2.2 j = a.2.2.2 j) ∧ (∀ y, y < 32 → jbt a.1 y = true → jbt (kBi r k x a).1 y = true) ∧ (1 ≤ r u x → jbt (kBi r k x a).1 x = true) ∧ (¬ jbt a.1 x = true → ¬ r u x = 0 → a.2.1 < 12) := by
  have hc : (a.2.2.2 k).toNatClampNeg = u := by rw [hu, iN_cl (by omega)]
  unfold kBi
  rw [hc]
  by_cases g1 : jbt a.1 x = true
  · rw [if_pos g1]
    exact ⟨h, Nat.le_refl _, fun _ _ => rfl, fun _ _ h => h, fun _ => g1, fun h => absurd g1 h⟩
  · rw [if_neg g1]
    by_cases g2 : r u x = 0
    · rw [if_pos g2]
      exact ⟨h, Nat.le_refl _, fun _ _ => rfl, fun _ _ h => h, fun h => absurd g2 (by omega), fun _ h => absurd g2 h⟩
    · rw [if_neg g2]
      obtain ⟨h1, h2, h3, h4⟩ := h
      have h12 := kQu_lt h3 (by decide) hx (fun h => g1 ((i20 _).mp h))
      have hb : ∀ y, y < 32 → jbt (a.1 ||| 1 <<< (iN x &&& 31)) y = (jbt a.1 y || decide (y = x)) := fun y hy => by rw [jbt_or, jbt_one (by omega) hy]
      refine ⟨⟨by show 1 ≤ a.2.1 + 1; omega, ?_, ?_, ?_⟩, Nat.le_succ _, fun j hj => if_neg (by omega), fun y hy hh => by rw [hb y hy, hh]; rfl, fun _ => by rw [hb x (by omega)]; simp, fun _ _ => h12⟩
      · show (if 0 = a.2.1 then iN x else a.2.2.2 0) = iN s
        rw [if_neg (by omega)]
        exact h2
      · refine kQu_2 (l := x) h3 (by decide) hx (fun h => g1 ((i20 _).mp h)) ?_ ?_ (fun j hj => if_neg (by omega)) (if_pos rfl) (fun j hj => if_neg (by omega)) (if_pos rfl)
        · refine (i20 _).mpr ?_
          rw [hb x (by omega)]
          simp
        · intro y hy hyx
          show (if jbt (a.1 ||| 1 <<< (iN x &&& 31)) y = true then (2 : Int32) else 0) = if jbt a.1 y = true then 2 else 0
          rw [hb y (by omega), decide_eq_false hyx, Bool.or_false]
      · intro j hj1 hj2
        show ∃ i x1 y, i < j ∧ x1 < 12 ∧ y < 12 ∧ (if i = a.2.1 then iN x else a.2.2.2 i) = iN x1 ∧ (if j = a.2.1 then iN x else a.2.2.2 j) = iN y ∧ (if y = x then a.2.2.2 k else a.2.2.1 y) = iN x1 ∧ 1 ≤ r x1 y
        have hj2' : j < a.2.1 + 1 := hj2
        by_cases e : j = a.2.1
        · refine ⟨k, u, x, by omega, hu12, hx, ?_, ?_, ?_, by omega⟩
          · rw [if_neg (by omega)]; exact hu
          · rw [if_pos e]
          · rw [if_pos rfl]; exact hu
        · obtain ⟨i, x1, y, b1, b2, b3, b4, b5, b6, b7⟩ := h4 j hj1 (by omega)
          have hyx : ¬ y = x := by
            rintro rfl
            obtain ⟨_, w, c1, c2, c3⟩ := h3.1 j (by omega)
            have := (iN_eq (by omega) (by omega)).mp (c2.symm.trans b5)
            subst this
            exact g1 ((i20 _).mp c3)
          exact ⟨i, x1, y, b1, b2, b3, by rw [if_neg (by omega)]; exact b4, by rw [if_neg e]; exact b5, by rw [if_neg hyx]; exact b6, b7⟩
/-- from the first k all ways on are in the set -/
def kClo (r : Nat → Nat → Nat) (k : Nat) (a : Int32 × Nat × (Nat → Int32) × (Nat → Int32)) : Prop := ∀ i u, i < k → a.2.2.2 i = iN u → u < 12 → ∀ x, x < 12 → 1 ≤ r u x → jbt a.1 x = true
section PUSH
variable {d : Nat} {μ : jM} {Q : jO → jM → Prop} {q L s z : Nat} {r : Nat → Nat → Nat}
theorem d_bfs1 (hL : q + 13 ≤ L) (hM : kMxM μ q r) (hs : s < 12) : ∀ (m x k u : Nat) (a : Int32 × Nat × (Nat → Int32) × (Nat → Int32)), x + m = 12 → kBfs r s a → k < a.2.1 → a.2.2.2 k = iN u → u < 12 → (kBfs r s (jfold (kBi r k) x m a) ∧ a.2.1 ≤ (jfold (kBi r k) x m a).2.1 ∧ (∀ j, j < a.2.1 → (jfold (kBi r k) x m a).2.2.2 j = a.2.2.2 j) ∧ (∀ y, y < 32 → jbt a.1 y = true → jbt (jfold (kBi r k) x m a).1 y = true) ∧ ∀ y, x ≤ y → y < 12 → 1 ≤ r u y → jbt (jfold (kBi r k) x m a).1 y = true) ∧ ∀ (d : Nat) (Q : jO → jM → Prop), (Ex d 244 37 [some (.ref (64 * q + 34)), some (.int (iN s)), some (.int (iN z)), some (.ref (64 * L + 18)), some (.ref (64 * (L + 1) + 18)), some (.int a.1), some (.int (iN a.2.1)), some (.int (iN k)), some (.int (iN x))] [] (jsR (jsR μ (64 * L + 18) a.2.2.1) (64 * (L + 1) + 18) a.2.2.2) Q ↔ Ex d 244 27 [some (.ref (64 * q + 34)), some (.int (iN s)), some (.int (iN z)), some (.ref (64 * L + 18)), some (.ref (64 * (L + 1) + 18)), some (.int (jfold (kBi r k) x m a).1), some (.int (iN (jfold (kBi r k) x m a).2.1)), some (.int (iN (k + 1))), some (.int (iN 12))] [] (jsR (jsR μ (64 * L + 18) (jfold (kBi r k) x m a).2.2.1) (64 * (L + 1) + 18) (jfold (kBi r k) x m a).2.2.2) Q) := by
  intro m
  induction m with
  | zero =>
    intro x k u a hx h hk hu hu12
    have hx12 : x = 12 := by omega
    subst hx12
    refine ⟨⟨h, Nat.le_refl _, fun _ _ => rfl, fun _ _ h => h, fun y h1 h2 => absurd h1 (by omega)⟩, fun d Q => ?_⟩
    have h12 : ¬ iN 12 < (12 : Int32) := by decide
    show _ ↔ Ex d 244 27 [some (.ref (64 * q + 34)), some (.int (iN s)), some (.int (iN z)), some (.ref (64 * L + 18)), some (.ref (64 * (L + 1) + 18)), some (.int a.1), some (.int (iN a.2.1)), some (.int (iN (k + 1))), some (.int (iN 12))] [] (jsR (jsR μ (64 * L + 18) a.2.2.1) (64 * (L + 1) + 18) a.2.2.2) Q
    rw [x244_37]
    simp only [x244_0, x244_2, x244_4a, x244_4b, x244_4c, x244_5, x244_7, x244_9a, x244_9b, x244_9c, x244_11, x244_12, x244_13, x244_14a, x244_14b, x244_14c, x244_16, x244_17a, x244_17b, x244_17c, x244_19, x244_21, x244_22, x244_23, x244_24, x244_25a, x244_25b, x244_25c, x244_29, x244_31, x244_34, x244_35a, x244_35b, x244_35c, x244_39, x244_41, x244_44, x244_46, x244_48, x244_49, x244_50, x244_51, x244_52, x244_55, x244_56, x244_58, x244_60, x244_61, x244_62, x244_64, x244_65, x244_68, x244_71, x244_73, x244_74, x244_76, x244_77, x244_78a, x244_78b, x244_78c, x244_80, x244_81, x244_83, x244_85, x244_87, x244_88, x244_89, x244_91, x244_93, x244_95, x244_96a, x244_96b, x244_96c, x244_99a, x244_99b, x244_99c, x244_102, x244_105a, x244_105b, x244_105c, x244_108, x244_111, x244_113, x244_114, x244_115, x244_116, x244_117, x244_120, x244_121, x244_122, x244_123a, x244_123b, x244_123c, x244_127, x244_128, x244_131, x244_132, x244_133, x244_135, x244_136, x244_137, x244_139a, x244_139b, x244_140, x244_141, x244_142, x244_143, x244_144, x244_145, x244_147, x244_148, x244_149, x244_151, x244_152a, x244_152b, x244_153, x244_154, x244_155, x244_156, x244_157, x244_158, x244_160, x244_161a, x244_161b, x244_161c, x244_163, x244_166, x244_167, mzi, mInc, mne, mlt9, mrk, mI1, mI2, mI3, mI4, mL1, mL2, mL3, mL4, mQ1, mQ2, mQ3, mQ4, mT1, mcat0, mcat1, mcat2, mcat3, mcat4, mrf1, jK_v, jK_n, JA, mz1, if_true, if_false, ite_true, ite_false, eq_self, not_false_eq_true, Nat.zero_le, true_and, and_true, and_self, Nat.reduceMod, Nat.reduceAdd, Nat.reduceLeDiff, Nat.reduceEqDiff, Nat.reduceLT, h12]
  | succ m ih =>
    intro x k u a hx h hk hu hu12
    obtain ⟨c1, c2, c3, c4, c5, c6⟩ := kBi_c h hk hu hu12 (show x < 12 by omega)
    obtain ⟨⟨i1, i2, i3, i4, i5⟩, i6⟩ := ih (x + 1) k u (kBi r k x a) (by omega) c1 (by omega) ((c3 k hk).trans hu) hu12
    refine ⟨⟨i1, Nat.le_trans c2 i2, fun j hj => (i3 j (by omega)).trans (c3 j hj), fun y hy h => i4 y hy (c4 y hy h), fun y h1 h2 h3 => ?_⟩, fun d Q => ?_⟩
    · by_cases e : y = x
      · subst e
        exact i4 y (by omega) (c5 h3)
      · exact i5 y (by omega) h2 h3
    · refine Iff.trans ?_ (i6 d Q)
      have hlt : iN x < (12 : Int32) := (iN_lt (b := 12) (by omega) (by decide)).mpr (by omega)
      have uc : (iN u).toNatClampNeg = u := iN_cl (by omega)
      have uj : jin (iN u) 12 = true := iN_in (by omega) (by omega)
      have xc : (iN x).toNatClampNeg = x := iN_cl (by omega)
      have xj : jin (iN x) 12 = true := iN_in (by omega) (by omega)
      have n12 := kBfs_n h
      have kc : (iN k).toNatClampNeg = k := iN_cl (by omega)
      have kj : jin (iN k) 12 = true := iN_in (by omega) (by omega)
      have ec : (iN a.2.1).toNatClampNeg = a.2.1 := iN_cl (by omega)
      have hcw : ¬ 64 * (L + 1) + 18 = 64 * L + 18 := by omega
      have hwc : ¬ 64 * L + 18 = 64 * (L + 1) + 18 := by omega
      have ho1 : ¬ 64 * (q + 1 + u) + 18 = 64 * (L + 1) + 18 := by omega
      have ho2 : ¬ 64 * (q + 1 + u) + 18 = 64 * L + 18 := by omega
      have hb := jbt_and (s := a.1) (j := x) (by omega)
      have h18 := JR18
      have h34 := JR34
      have m1 := (hM u hu12).1
      have m2 := ((hM u hu12).2 x (by omega))
      unfold kBi
      rw [hu, uc, x244_37]
      by_cases g1 : jbt a.1 x = true
      · rw [if_pos g1] at hb ⊢
        simp only [x244_0, x244_2, x244_4a, x244_4b, x244_4c, x244_5, x244_7, x244_9a, x244_9b, x244_9c, x244_11, x244_12, x244_13, x244_14a, x244_14b, x244_14c, x244_16, x244_17a, x244_17b, x244_17c, x244_19, x244_21, x244_22, x244_23, x244_24, x244_25a, x244_25b, x244_25c, x244_29, x244_31, x244_34, x244_35a, x244_35b, x244_35c, x244_39, x244_41, x244_44, x244_46, x244_48, x244_49, x244_50, x244_51, x244_52, x244_55, x244_56, x244_58, x244_60, x244_61, x244_62, x244_64, x244_65, x244_68, x244_71, x244_73, x244_74, x244_76, x244_77, x244_78a, x244_78b, x244_78c, x244_80, x244_81, x244_83, x244_85, x244_87, x244_88, x244_89, x244_91, x244_93, x244_95, x244_96a, x244_96b, x244_96c, x244_99a, x244_99b, x244_99c, x244_102, x244_105a, x244_105b, x244_105c, x244_108, x244_111, x244_113, x244_114, x244_115, x244_116, x244_117, x244_120, x244_121, x244_122, x244_123a, x244_123b, x244_123c, x244_127, x244_128, x244_131, x244_132, x244_133, x244_135, x244_136, x244_137, x244_139a, x244_139b, x244_140, x244_141, x244_142, x244_143, x244_144, x244_145, x244_147, x244_148, x244_149, x244_151, x244_152a, x244_152b, x244_153, x244_154, x244_155, x244_156, x244_157, x244_158, x244_160, x244_161a, x244_161b, x244_161c, x244_163, x244_166, x244_167, mzi, mInc, mne, mlt9, mrk, mI1, mI2, mI3, mI4, mL1, mL2, mL3, mL4, mQ1, mQ2, mQ3, mQ4, mT1, mcat0, mcat1, mcat2, mcat3, mcat4, mrf1, jK_v, jK_n, JA, mz1, if_true, if_false, ite_true, ite_false, eq_self, not_false_eq_true, Nat.zero_le, true_and, and_true, and_self, Nat.reduceMod, Nat.reduceAdd, Nat.reduceLeDiff, Nat.reduceEqDiff, Nat.reduceLT, hlt, hb]
      · rw [if_neg g1] at hb ⊢
        by_cases g2 : r u x = 0
        · rw [if_pos g2]
          rw [g2] at m2
          simp only [x244_0, x244_2, x244_4a, x244_4b, x244_4c, x244_5, x244_7, x244_9a, x244_9b, x244_9c, x244_11, x244_12, x244_13, x244_14a, x244_14b, x244_14c, x244_16, x244_17a, x244_17b, x244_17c, x244_19, x244_21, x244_22, x244_23, x244_24, x244_25a, x244_25b, x244_25c, x244_29, x244_31, x244_34, x244_35a, x244_35b, x244_35c, x244_39, x244_41, x244_44, x244_46, x244_48, x244_49, x244_50, x244_51, x244_52, x244_55, x244_56, x244_58, x244_60, x244_61, x244_62, x244_64, x244_65, x244_68, x244_71, x244_73, x244_74, x244_76, x244_77, x244_78a, x244_78b, x244_78c, x244_80, x244_81, x244_83, x244_85, x244_87, x244_88, x244_89, x244_91, x244_93, x244_95, x244_96a, x244_96b, x244_96c, x244_99a, x244_99b, x244_99c, x244_102, x244_105a, x244_105b, x244_105c, x244_108, x244_111, x244_113, x244_114, x244_115, x244_116, x244_117, x244_120, x244_121, x244_122, x244_123a, x244_123b, x244_123c, x244_127, x244_128, x244_131, x244_132, x244_133, x244_135, x244_136, x244_137, x244_139a, x244_139b, x244_140, x244_141, x244_142, x244_143, x244_144, x244_145, x244_147, x244_148, x244_149, x244_151, x244_152a, x244_152b, x244_153, x244_154, x244_155, x244_156, x244_157, x244_158, x244_160, x244_161a, x244_161b, x244_161c, x244_163, x244_166, x244_167, mzi, mInc, mne, mlt9, mrk, mI1, mI2, mI3, mI4, mL1, mL2, mL3, mL4, mQ1, mQ2, mQ3, mQ4, mT1, mcat0, mcat1, mcat2, mcat3, mcat4, mrf1, jK_v, jK_n, JA, mz1, if_true, if_false, ite_true, ite_false, eq_self, not_false_eq_true, Nat.zero_le, true_and, and_true, and_self, Nat.reduceMod, Nat.reduceAdd, Nat.reduceLeDiff, Nat.reduceEqDiff, Nat.reduceLT, hlt, hb, h18, h34, uc, uj, xc, xj, kc, kj, hu, m1, m2.1, mR1, mR2, mR3, hcw, hwc, ho1, ho2]
        · rw [if_neg g2]
          have m3 : ¬ iN (r u x) = 0 := fun h => g2 ((iN_eq (b := 0) (by omega) (by omega)).mp h)
          have e12 := c6 g1 g2
          have ej : jin (iN a.2.1) 12 = true := iN_in (by omega) (by omega)
          simp only [x244_0, x244_2, x244_4a, x244_4b, x244_4c, x244_5, x244_7, x244_9a, x244_9b, x244_9c, x244_11, x244_12, x244_13, x244_14a, x244_14b, x244_14c, x244_16, x244_17a, x244_17b, x244_17c, x244_19, x244_21, x244_22, x244_23, x244_24, x244_25a, x244_25b, x244_25c, x244_29, x244_31, x244_34, x244_35a, x244_35b, x244_35c, x244_39, x244_41, x244_44, x244_46, x244_48, x244_49, x244_50, x244_51, x244_52, x244_55, x244_56, x244_58, x244_60, x244_61, x244_62, x244_64, x244_65, x244_68, x244_71, x244_73, x244_74, x244_76, x244_77, x244_78a, x244_78b, x244_78c, x244_80, x244_81, x244_83, x244_85, x244_87, x244_88, x244_89, x244_91, x244_93, x244_95, x244_96a, x244_96b, x244_96c, x244_99a, x244_99b, x244_99c, x244_102, x244_105a, x244_105b, x244_105c, x244_108, x244_111, x244_113, x244_114, x244_115, x244_116, x244_117, x244_120, x244_121, x244_122, x244_123a, x244_123b, x244_123c, x244_127, x244_128, x244_131, x244_132, x244_133, x244_135, x244_136, x244_137, x244_139a, x244_139b, x244_140, x244_141, x244_142, x244_143, x244_144, x244_145, x244_147, x244_148, x244_149, x244_151, x244_152a, x244_152b, x244_153, x244_154, x244_155, x244_156, x244_157, x244_158, x244_160, x244_161a, x244_161b, x244_161c, x244_163, x244_166, x244_167, mzi, mInc, mne, mlt9, mrk, mI1, mI2, mI3, mI4, mL1, mL2, mL3, mL4, mQ1, mQ2, mQ3, mQ4, mT1, mcat0, mcat1, mcat2, mcat3, mcat4, mrf1, jK_v, jK_n, JA, mz1, if_true, if_false, ite_true, ite_false, eq_self, not_false_eq_true, Nat.zero_le, true_and, and_true, and_self, Nat.reduceMod, Nat.reduceAdd, Nat.reduceLeDiff, Nat.reduceEqDiff, Nat.reduceLT, hlt, hb, h18, h34, uc, uj, xc, xj, kc, kj, ec, ej, hu, m1, m2.1, m3, mR1, mR2, mR3, mRI, mRIc', hcw, hwc, ho1, ho2]
theorem d_bfs2 (hL : q + 13 ≤ L) (hM : kMxM μ q r) (hs : s < 12) : ∀ (f k : Nat) (a : Int32 × Nat × (Nat → Int32) × (Nat → Int32)), 12 ≤ k + f → kBfs r s a → k ≤ a.2.1 → kClo r k a → ∃ a', kBfs r s a' ∧ kClo r a'.2.1 a' ∧ ∀ b, ∃ b', ∀ (d : Nat) (Q : jO → jM → Prop), (Ex d 244 27 [some (.ref (64 * q + 34)), some (.int (iN s)), some (.int (iN z)), some (.ref (64 * L + 18)), some (.ref (64 * (L + 1) + 18)), some (.int a.1), some (.int (iN a.2.1)), some (.int (iN k)), b] [] (jsR (jsR μ (64 * L + 18) a.2.2.1) (64 * (L + 1) + 18) a.2.2.2) Q ↔ Ex d 244 111 [some (.ref (64 * q + 34)), some (.int (iN s)), some (.int (iN z)), some (.ref (64 * L + 18)), some (.ref (64 * (L + 1) + 18)), some (.int a'.1), some (.int (iN a'.2.1)), some (.int (iN a'.2.1)), b'] [] (jsR (jsR μ (64 * L + 18) a'.2.2.1) (64 * (L + 1) + 18) a'.2.2.2) Q) := by
  have done : ∀ (k : Nat) (a : Int32 × Nat × (Nat → Int32) × (Nat → Int32)), kBfs r s a → k = a.2.1 → kClo r k a → ∃ a', kBfs r s a' ∧ kClo r a'.2.1 a' ∧ ∀ b, ∃ b', ∀ (d : Nat) (Q : jO → jM → Prop), (Ex d 244 27 [some (.ref (64 * q + 34)), some (.int (iN s)), some (.int (iN z)), some (.ref (64 * L + 18)), some (.ref (64 * (L + 1) + 18)), some (.int a.1), some (.int (iN a.2.1)), some (.int (iN k)), b] [] (jsR (jsR μ (64 * L + 18) a.2.2.1) (64 * (L + 1) + 18) a.2.2.2) Q ↔ Ex d 244 111 [some (.ref (64 * q + 34)), some (.int (iN s)), some (.int (iN z)), some (.ref (64 * L + 18)), some (.ref (64 * (L + 1) + 18)), some (.int a'.1), some (.int (iN a'.2.1)), some (.int (iN a'.2.1)), b'] [] (jsR (jsR μ (64 * L + 18) a'.2.2.1) (64 * (L + 1) + 18) a'.2.2.2) Q) := by
    intro k a h hk hC
    subst hk
    refine ⟨a, h, hC, fun b => ⟨b, fun d Q => ?_⟩⟩
    have n12 := kBfs_n h
    have hge : ¬ iN a.2.1 < iN a.2.1 := iN_irr (by omega)
    rw [x244_27]
    simp only [x244_0, x244_2, x244_4a, x244_4b, x244_4c, x244_5, x244_7, x244_9a, x244_9b, x244_9c, x244_11, x244_12, x244_13, x244_14a, x244_14b, x244_14c, x244_16, x244_17a, x244_17b, x244_17c, x244_19, x244_21, x244_22, x244_23, x244_24, x244_25a, x244_25b, x244_25c, x244_29, x244_31, x244_34, x244_35a, x244_35b, x244_35c, x244_39, x244_41, x244_44, x244_46, x244_48, x244_49, x244_50, x244_51, x244_52, x244_55, x244_56, x244_58, x244_60, x244_61, x244_62, x244_64, x244_65, x244_68, x244_71, x244_73, x244_74, x244_76, x244_77, x244_78a, x244_78b, x244_78c, x244_80, x244_81, x244_83, x244_85, x244_87, x244_88, x244_89, x244_91, x244_93, x244_95, x244_96a, x244_96b, x244_96c, x244_99a, x244_99b, x244_99c, x244_102, x244_105a, x244_105b, x244_105c, x244_108, x244_111, x244_113, x244_114, x244_115, x244_116, x244_117, x244_120, x244_121, x244_122, x244_123a, x244_123b, x244_123c, x244_127, x244_128, x244_131, x244_132, x244_133, x244_135, x244_136, x244_137, x244_139a, x244_139b, x244_140, x244_141, x244_142, x244_143, x244_144, x244_145, x244_147, x244_148, x244_149, x244_151, x244_152a, x244_152b, x244_153, x244_154, x244_155, x244_156, x244_157, x244_158, x244_160, x244_161a, x244_161b, x244_161c, x244_163, x244_166, x244_167, mzi, mInc, mne, mlt9, mrk, mI1, mI2, mI3, mI4, mL1, mL2, mL3, mL4, mQ1, mQ2, mQ3, mQ4, mT1, mcat0, mcat1, mcat2, mcat3, mcat4, mrf1, jK_v, jK_n, JA, mz1, if_true, if_false, ite_true, ite_false, eq_self, not_false_eq_true, Nat.zero_le, true_and, and_true, and_self, Nat.reduceMod, Nat.reduceAdd, Nat.reduceLeDiff, Nat.reduceEqDiff, Nat.reduceLT, hge]
  intro f
  induction f with
  | zero =>
    intro k a hf h hk hC
    exact done k a h (by have := kBfs_n h; omega) hC
  | succ f ih =>
    intro k a hf h hk hC
    by_cases e : k = a.2.1
    · exact done k a h e hC
    · have hk2 : k < a.2.1 := by omega
      obtain ⟨u, u1, u2, u3⟩ := kBfs_q h hk2
      obtain ⟨⟨i1, i2, i3, i4, i5⟩, i6⟩ := d_bfs1 (z := z) hL hM hs 12 0 k u a rfl h hk2 u2 u1
      have hC2 : kClo r (k + 1) (jfold (kBi r k) 0 12 a) := by
        intro i v hi hv hv12 x hx hr
        have hv' : a.2.2.2 i = iN v := (i3 i (by omega)).symm.trans hv
        by_cases e2 : i = k
        · subst e2
          have := (iN_eq (by omega) (by omega)).mp (u2.symm.trans hv')
          subst this
          exact i5 x (Nat.zero_le _) hx hr
        · exact i4 x (by omega) (hC i v (by omega) hv' hv12 x hx hr)
      obtain ⟨a', b1, b2, b3⟩ := ih (k + 1) (jfold (kBi r k) 0 12 a) (by omega) i1 (by omega) hC2
      refine ⟨a', b1, b2, fun b => ?_⟩
      obtain ⟨b', b4⟩ := b3 (some (.int (iN 12)))
      refine ⟨b', fun d Q => ?_⟩
      refine Iff.trans ?_ ((i6 d Q).trans (b4 d Q))
      have n12 := kBfs_n h
      have hlt : iN k < iN a.2.1 := (iN_lt (by omega) (by omega)).mpr hk2
      rw [x244_27]
      simp only [x244_0, x244_2, x244_4a, x244_4b, x244_4c, x244_5, x244_7, x244_9a, x244_9b, x244_9c, x244_11, x244_12, x244_13, x244_14a, x244_14b, x244_14c, x244_16, x244_17a, x244_17b, x244_17c, x244_19, x244_21, x244_22, x244_23, x244_24, x244_25a, x244_25b, x244_25c, x244_29, x244_31, x244_34, x244_35a, x244_35b, x244_35c, x244_39, x244_41, x244_44, x244_46, x244_48, x244_49, x244_50, x244_51, x244_52, x244_55, x244_56, x244_58, x244_60, x244_61, x244_62, x244_64, x244_65, x244_68, x244_71, x244_73, x244_74, x244_76, x244_77, x244_78a, x244_78b, x244_78c, x244_80, x244_81, x244_83, x244_85, x244_87, x244_88, x244_89, x244_91, x244_93, x244_95, x244_96a, x244_96b, x244_96c, x244_99a, x244_99b, x244_99c, x244_102, x244_105a, x244_105b, x244_105c, x244_108, x244_111, x244_113, x244_114, x244_115, x244_116, x244_117, x244_120, x244_121, x244_122, x244_123a, x244_123b, x244_123c, x244_127, x244_128, x244_131, x244_132, x244_133, x244_135, x244_136, x244_137, x244_139a, x244_139b, x244_140, x244_141, x244_142, x244_143, x244_144, x244_145, x244_147, x244_148, x244_149, x244_151, x244_152a, x244_152b, x244_153, x244_154, x244_155, x244_156, x244_157, x244_158, x244_160, x244_161a, x244_161b, x244_161c, x244_163, x244_166, x244_167, mzi, mInc, mne, mlt9, mrk, mI1, mI2, mI3, mI4, mL1, mL2, mL3, mL4, mQ1, mQ2, mQ3, mQ4, mT1, mcat0, mcat1, mcat2, mcat3, mcat4, mrf1, jK_v, jK_n, JA, mz1, if_true, if_false, ite_true, ite_false, eq_self, not_false_eq_true, Nat.zero_le, true_and, and_true, and_self, Nat.reduceMod, Nat.reduceAdd, Nat.reduceLeDiff, Nat.reduceEqDiff, Nat.reduceLT, hlt]
/-- back along the way that was found -/
theorem d_back (hL : q + 13 ≤ L) {a : Int32 × Nat × (Nat → Int32) × (Nat → Int32)} (h : kBfs r s a) (hs : s < 12) : ∀ (n j y : Nat) (μ : jM) (r3 : Nat → Nat → Nat), j < n → j < a.2.1 → a.2.2.2 j = iN y → y < 12 → kMxM μ q r3 → (∀ i1 i2 x1 x2, i1 ≤ j → i2 ≤ j → a.2.2.2 i1 = iN x1 → a.2.2.2 i2 = iN x2 → x1 < 12 → x2 < 12 → r3 x1 x2 = r x1 x2) → jI μ (64 * L + 18) = a.2.2.1 →
    ∃ μ' r', jGb q 0 0 μ μ' ∧ kMxM μ' q r' ∧ (∀ S : Nat → Bool, kCut r' S + (S s).toNat = kCut r3 S + (S y).toNat) ∧ ∀ (b : Option Value) (e1 : Int32) (d : Nat) (Q : jO → jM → Prop), (Ex d 244 125 [some (.ref (64 * q + 34)), some (.int (iN s)), some (.int (iN z)), some (.ref (64 * L + 18)), some (.ref (64 * (L + 1) + 18)), some (.int a.1), some (.int e1), some (.int (iN y)), b] [] μ Q ↔ Q (.inl (some (.int 1))) μ') := by
  intro n
  induction n with
  | zero => intro j _ _ _ hj; exact absurd hj (by omega)
  | succ n ih =>
    intro j y μ r3 hjn hj hy hy12 hM hr3 hcf
    by_cases g : y = s
    · subst g
      refine ⟨μ, r3, jGb_r, hM, fun S => rfl, fun b e1 d Q => ?_⟩
      rw [x244_125]
      simp only [x244_0, x244_2, x244_4a, x244_4b, x244_4c, x244_5, x244_7, x244_9a, x244_9b, x244_9c, x244_11, x244_12, x244_13, x244_14a, x244_14b, x244_14c, x244_16, x244_17a, x244_17b, x244_17c, x244_19, x244_21, x244_22, x244_23, x244_24, x244_25a, x244_25b, x244_25c, x244_29, x244_31, x244_34, x244_35a, x244_35b, x244_35c, x244_39, x244_41, x244_44, x244_46, x244_48, x244_49, x244_50, x244_51, x244_52, x244_55, x244_56, x244_58, x244_60, x244_61, x244_62, x244_64, x244_65, x244_68, x244_71, x244_73, x244_74, x244_76, x244_77, x244_78a, x244_78b, x244_78c, x244_80, x244_81, x244_83, x244_85, x244_87, x244_88, x244_89, x244_91, x244_93, x244_95, x244_96a, x244_96b, x244_96c, x244_99a, x244_99b, x244_99c, x244_102, x244_105a, x244_105b, x244_105c, x244_108, x244_111, x244_113, x244_114, x244_115, x244_116, x244_117, x244_120, x244_121, x244_122, x244_123a, x244_123b, x244_123c, x244_127, x244_128, x244_131, x244_132, x244_133, x244_135, x244_136, x244_137, x244_139a, x244_139b, x244_140, x244_141, x244_142, x244_143, x244_144, x244_145, x244_147, x244_148, x244_149, x244_151, x244_152a, x244_152b, x244_153, x244_154, x244_155, x244_156, x244_157, x244_158, x244_160, x244_161a, x244_161b, x244_161c, x244_163, x244_166, x244_167, mzi, mInc, mne, mlt9, mrk, mI1, mI2, mI3, mI4, mL1, mL2, mL3, mL4, mQ1, mQ2, mQ3, mQ4, mT1, mcat0, mcat1, mcat2, mcat3, mcat4, mrf1, jK_v, jK_n, JA, mz1, if_true, if_false, ite_true, ite_false, eq_self, not_false_eq_true, Nat.zero_le, true_and, and_true, and_self, Nat.reduceMod, Nat.reduceAdd, Nat.reduceLeDiff, Nat.reduceEqDiff, Nat.reduceLT]
    · have hj1 : 1 ≤ j := by
        refine Nat.one_le_iff_ne_zero.mpr ?_
        rintro rfl
        exact g ((iN_eq (by omega) (by omega)).mp (hy.symm.trans h.2.1))
      obtain ⟨i, x, y', b1, b2, b3, b4, b5, b6, b7⟩ := h.2.2.2 j hj1 hj
      have : y' = y := (iN_eq (by omega) (by omega)).mp (b5.symm.trans hy)
      subst this
      have hxy : ¬ x = y' := by
        rintro rfl
        exact h.2.2.1.2.1 i j b1 hj (b4.trans b5.symm)
      have hr1 : 1 ≤ r3 x y' := by rw [hr3 i j x y' (by omega) (Nat.le_refl _) b4 hy b2 hy12]; exact b7
      have hM2 := kMxM_mv hM b2 hy12 hxy hr1
      have hL1 : ∀ u, ¬ 64 * L + 18 = 64 * (q + 1 + u) + 18 ∨ 12 ≤ u := fun u => by omega
      have hlx : ¬ 64 * L + 18 = 64 * (q + 1 + x) + 18 := by omega
      have hly : ¬ 64 * L + 18 = 64 * (q + 1 + y') + 18 := by omega
      obtain ⟨μ', r', c1, c2, c3, c4⟩ := ih i x _ _ (by omega) (by omega) b4 b2 hM2 (by
        intro i1 i2 x1 x2 h1 h2 h3 h4 h5 h6
        have n1 : ¬ x1 = y' := by
          rintro rfl
          exact h.2.2.1.2.1 i1 j (by omega) hj (h3.trans hy.symm)
        have n2 : ¬ x2 = y' := by
          rintro rfl
          exact h.2.2.1.2.1 i2 j (by omega) hj (h4.trans hy.symm)
        unfold kMv
        rw [if_neg (fun h => n2 h.2), if_neg (fun h => n1 h.1)]
        exact hr3 i1 i2 x1 x2 (by omega) (by omega) h3 h4 h5 h6) (by rw [mI2 hly, mI2 hlx]; exact hcf)
      refine ⟨μ', r', jGb_t (jGb_t (jGb_I (by omega)) (jGb_I (by omega))) c1, c2, fun S => ?_, fun b e1 d Q => ?_⟩
      · have e1 := kCut_mv (S := S) b2 hy12 hxy hr1
        have e2 := c3 S
        omega
      · refine Iff.trans ?_ (c4 b e1 d Q)
        have gn : ¬ iN y' = iN s := fun h => g ((iN_eq (by omega) (by omega)).mp h)
        have xc : (iN x).toNatClampNeg = x := iN_cl (by omega)
        have xj : jin (iN x) 12 = true := iN_in (by omega) (by omega)
        have yc : (iN y').toNatClampNeg = y' := iN_cl (by omega)
        have yj : jin (iN y') 12 = true := iN_in (by omega) (by omega)
        have h18 := JR18
        have h34 := JR34
        have m1 := (hM x b2).1
        have m2 := ((hM x b2).2 y' hy12).1
        have m3 := (hM y' hy12).1
        have m4 := ((hM y' hy12).2 x b2).1
        have hyx : ¬ 64 * (q + 1 + y') + 18 = 64 * (q + 1 + x) + 18 := by omega
        rw [x244_125]
        simp only [x244_0, x244_2, x244_4a, x244_4b, x244_4c, x244_5, x244_7, x244_9a, x244_9b, x244_9c, x244_11, x244_12, x244_13, x244_14a, x244_14b, x244_14c, x244_16, x244_17a, x244_17b, x244_17c, x244_19, x244_21, x244_22, x244_23, x244_24, x244_25a, x244_25b, x244_25c, x244_29, x244_31, x244_34, x244_35a, x244_35b, x244_35c, x244_39, x244_41, x244_44, x244_46, x244_48, x244_49, x244_50, x244_51, x244_52, x244_55, x244_56, x244_58, x244_60, x244_61, x244_62, x244_64, x244_65, x244_68, x244_71, x244_73, x244_74, x244_76, x244_77, x244_78a, x244_78b, x244_78c, x244_80, x244_81, x244_83, x244_85, x244_87, x244_88, x244_89, x244_91, x244_93, x244_95, x244_96a, x244_96b, x244_96c, x244_99a, x244_99b, x244_99c, x244_102, x244_105a, x244_105b, x244_105c, x244_108, x244_111, x244_113, x244_114, x244_115, x244_116, x244_117, x244_120, x244_121, x244_122, x244_123a, x244_123b, x244_123c, x244_127, x244_128, x244_131, x244_132, x244_133, x244_135, x244_136, x244_137, x244_139a, x244_139b, x244_140, x244_141, x244_142, x244_143, x244_144, x244_145, x244_147, x244_148, x244_149, x244_151, x244_152a, x244_152b, x244_153, x244_154, x244_155, x244_156, x244_157, x244_158, x244_160, x244_161a, x244_161b, x244_161c, x244_163, x244_166, x244_167, mzi, mInc, mne, mlt9, mrk, mI1, mI2, mI3, mI4, mL1, mL2, mL3, mL4, mQ1, mQ2, mQ3, mQ4, mT1, mcat0, mcat1, mcat2, mcat3, mcat4, mrf1, jK_v, jK_n, JA, mz1, if_true, if_false, ite_true, ite_false, eq_self, not_false_eq_true, Nat.zero_le, true_and, and_true, and_self, Nat.reduceMod, Nat.reduceAdd, Nat.reduceLeDiff, Nat.reduceEqDiff, Nat.reduceLT, gn, h18, h34, xc, xj, yc, yj, hcf, b6, m1, m2, m3, m4, hlx, hly, hyx]
/-- one more is pushed through, or there is a cut without room -/
theorem d_pushes (hL : q + 13 ≤ (jA μ).length) (hM : kMxM μ q r) (hs : s < 12) (hz : z < 12) (hsz : ¬ s = z) : ∃ μ' ok r', jGb q 2 24 μ μ' ∧ kMxM μ' q r' ∧ (ok = true → ∀ S : Nat → Bool, kCut r' S + (S s).toNat = kCut r S + (S z).toNat) ∧ (ok = false → ∃ S : Nat → Bool, S s = true ∧ S z = false ∧ kCut r S = 0) ∧ ∀ (d : Nat) (Q : jO → jM → Prop), (Ex d 244 0 [some (.ref (64 * q + 34)), some (.int (iN s)), some (.int (iN z)), none, none, none, none, none, none] [] μ Q ↔ Q (.inl (some (.int (bif ok then 1 else 0)))) μ') := by
  have hL0 : jadr μ 18 = 64 * (jA μ).length + 18 := rfl
  have hL1 : jadr (jnew μ 18) 18 = 64 * ((jA μ).length + 1) + 18 := by
    unfold jadr
    show 64 * (jA μ ++ [jadr μ 18]).length + 18 = _
    simp
  generalize hLL : (jA μ).length = L at *
  have r1 : ∀ a, ¬ a = 64 * L + 18 → jI (jnew μ 18) a = jI μ a ∧ jL (jnew μ 18) a = jL μ a ∧ jQ (jnew μ 18) a = jQ μ a := fun a h => jnew_r (by rw [hL0]; exact h)
  have r2 : ∀ a, ¬ a = 64 * (L + 1) + 18 → jI (jnew (jnew μ 18) 18) a = jI (jnew μ 18) a ∧ jL (jnew (jnew μ 18) 18) a = jL (jnew μ 18) a ∧ jQ (jnew (jnew μ 18) 18) a = jQ (jnew μ 18) a := fun a h => jnew_r (by rw [hL1]; exact h)
  have hg1 : jGb q 1 12 μ (jnew μ 18) := jnew_b (by omega) (by decide) (by decide +kernel)
  have hg2 : jGb q 1 12 (jnew μ 18) (jnew (jnew μ 18) 18) := by
    refine jnew_b ?_ (by decide) (by decide +kernel)
    show q ≤ (jA μ ++ [jadr μ 18]).length
    simp
    omega
  have hg := jGb_t hg1 hg2
  have hM1 : kMxM (jnew (jnew μ 18) 18) q r := kMxM_c (by rw [(r2 _ (by omega)).2.2, (r1 _ (by omega)).2.2]) (fun u hu => by rw [(r2 _ (by omega)).1, (r1 _ (by omega)).1]) hM
  have hb : kBfs r s (1 <<< (iN s &&& 31), 1, jI (jnew (jnew μ 18) 18) (64 * L + 18), fun j => if j = 0 then iN s else jI (jnew (jnew μ 18) 18) (64 * (L + 1) + 18) j) := by
    have h1 : ∀ y, y < 32 → (jbt (1 <<< (iN s &&& 31)) y = true ↔ y = s) := fun y hy => by rw [jbt_one (by omega) hy, decide_eq_true_iff]
    refine ⟨Nat.le_refl _, rfl, ⟨fun j hj => ⟨rfl, s, hs, ?_, ?_⟩, fun i j h1 h2 => absurd h1 (by have h2' : j < 1 := h2; omega), fun l hl h => ⟨0, Nat.one_pos, ?_⟩⟩, fun j h1 h2 => absurd h1 (by have h2' : j < 1 := h2; omega)⟩
    · have hj' : j < 1 := hj
      show (if j = 0 then iN s else _) = iN s
      rw [if_pos (by omega)]
    · exact (i20 _).mpr ((h1 s (by omega)).mpr rfl)
    · have := (h1 l (by omega)).mp ((i20 _).mp h)
      subst this
      rfl
  obtain ⟨a, a1, a2, a3⟩ := d_bfs2 (z := z) (μ := jnew (jnew μ 18) 18) hL hM1 hs 12 0 _ (by omega) hb (Nat.zero_le _) (fun i u hi => absurd hi (by omega))
  obtain ⟨b', a4⟩ := a3 none
  have hcw : ¬ 64 * (L + 1) + 18 = 64 * L + 18 := by omega
  have e1 : ∀ (d : Nat) (Q : jO → jM → Prop), Ex d 244 0 [some (.ref (64 * q + 34)), some (.int (iN s)), some (.int (iN z)), none, none, none, none, none, none] [] μ Q ↔ Ex d 244 111 [some (.ref (64 * q + 34)), some (.int (iN s)), some (.int (iN z)), some (.ref (64 * L + 18)), some (.ref (64 * (L + 1) + 18)), some (.int a.1), some (.int (iN a.2.1)), some (.int (iN a.2.1)), b'] [] (jsR (jsR (jnew (jnew μ 18) 18) (64 * L + 18) a.2.2.1) (64 * (L + 1) + 18) a.2.2.2) Q := by
    intro d Q
    refine Iff.trans ?_ (a4 d Q)
    have h18 := JR18
    have hj0 : jin 0 12 = true := by decide
    have hm : jsR (jsR (jnew (jnew μ 18) 18) (64 * L + 18) (jI (jnew (jnew μ 18) 18) (64 * L + 18))) (64 * (L + 1) + 18) (fun j => if j = 0 then iN s else jI (jnew (jnew μ 18) 18) (64 * (L + 1) + 18) j) = jsI (jnew (jnew μ 18) 18) (64 * (L + 1) + 18) 0 (iN s) := by
      rw [jsR_id (a := 64 * L + 18) rfl]
      have : jsI (jsR (jnew (jnew μ 18) 18) (64 * (L + 1) + 18) (jI (jnew (jnew μ 18) 18) (64 * (L + 1) + 18))) (64 * (L + 1) + 18) 0 (iN s) = jsI (jnew (jnew μ 18) 18) (64 * (L + 1) + 18) 0 (iN s) := by rw [jsR_id rfl]
      rw [← this, mRI]
    dsimp only
    rw [hm]
    have i1 : iN 1 = 1 := rfl
    simp only [x244_0, x244_2, x244_4a, x244_4b, x244_4c, x244_5, x244_7, x244_9a, x244_9b, x244_9c, x244_11, x244_12, x244_13, x244_14a, x244_14b, x244_14c, x244_16, x244_17a, x244_17b, x244_17c, x244_19, x244_21, x244_22, x244_23, x244_24, x244_25a, x244_25b, x244_25c, x244_29, x244_31, x244_34, x244_35a, x244_35b, x244_35c, x244_39, x244_41, x244_44, x244_46, x244_48, x244_49, x244_50, x244_51, x244_52, x244_55, x244_56, x244_58, x244_60, x244_61, x244_62, x244_64, x244_65, x244_68, x244_71, x244_73, x244_74, x244_76, x244_77, x244_78a, x244_78b, x244_78c, x244_80, x244_81, x244_83, x244_85, x244_87, x244_88, x244_89, x244_91, x244_93, x244_95, x244_96a, x244_96b, x244_96c, x244_99a, x244_99b, x244_99c, x244_102, x244_105a, x244_105b, x244_105c, x244_108, x244_111, x244_113, x244_114, x244_115, x244_116, x244_117, x244_120, x244_121, x244_122, x244_123a, x244_123b, x244_123c, x244_127, x244_128, x244_131, x244_132, x244_133, x244_135, x244_136, x244_137, x244_139a, x244_139b, x244_140, x244_141, x244_142, x244_143, x244_144, x244_145, x244_147, x244_148, x244_149, x244_151, x244_152a, x244_152b, x244_153, x244_154, x244_155, x244_156, x244_157, x244_158, x244_160, x244_161a, x244_161b, x244_161c, x244_163, x244_166, x244_167, mzi, mInc, mne, mlt9, mrk, mI1, mI2, mI3, mI4, mL1, mL2, mL3, mL4, mQ1, mQ2, mQ3, mQ4, mT1, mcat0, mcat1, mcat2, mcat3, mcat4, mrf1, jK_v, jK_n, JA, mz1, if_true, if_false, ite_true, ite_false, eq_self, not_false_eq_true, Nat.zero_le, true_and, and_true, and_self, Nat.reduceMod, Nat.reduceAdd, Nat.reduceLeDiff, Nat.reduceEqDiff, Nat.reduceLT, hL0, hL1, h18, hj0, i1]
  have hbz := jbt_and (s := a.1) (j := z) (by omega)
  have hgR : jGb q 2 24 μ (jsR (jsR (jnew (jnew μ 18) 18) (64 * L + 18) a.2.2.1) (64 * (L + 1) + 18) a.2.2.2) := jGb_t (jGb_t hg (jGb_R (by omega))) (jGb_R (by omega))
  have hMR : kMxM (jsR (jsR (jnew (jnew μ 18) 18) (64 * L + 18) a.2.2.1) (64 * (L + 1) + 18) a.2.2.2) q r := kMxM_c (μ := jnew (jnew μ 18) 18) rfl (fun u hu => by rw [mR2 (by omega), mR2 (by omega)]) hM1
  cases hz2 : jbt a.1 z with
  | false =>
    refine ⟨_, false, r, hgR, hMR, fun h => Bool.noConfusion h, fun _ => ⟨fun x => jbt a.1 x, ?_, hz2, ?_⟩, fun d Q => ?_⟩
    · obtain ⟨y, y1, y2, y3⟩ := kBfs_q a1 (j := 0) (by have := a1.1; omega)
      have := (iN_eq (by omega) (by omega)).mp (y2.symm.trans a1.2.1)
      subst this
      exact y3
    · unfold kCut
      have : kS (fun u => kS (fun v => if jbt a.1 u && !jbt a.1 v then r u v else 0) 12) 12 = kS (fun u => kS (fun _ => 0) 12) 12 := by
        refine kS_congr 12 fun u hu => kS_congr 12 fun v hv => ?_
        cases e : jbt a.1 u with
        | false => rfl
        | true =>
          cases e2 : jbt a.1 v with
          | true => rfl
          | false =>
            obtain ⟨i, i1, i2⟩ := a1.2.2.1.2.2 u hu ((i20 _).mpr e)
            have h7 : ¬ 1 ≤ r u v := fun hr => by
              have := a2 i u i1 i2 hu v hv hr
              rw [e2] at this
              exact Bool.noConfusion this
            show (if true && !false then r u v else 0) = 0
            simp
            omega
      rw [this]
      simp only [kS_zero]
    · rw [e1]
      rw [hz2, if_neg Bool.false_ne_true] at hbz
      simp only [x244_0, x244_2, x244_4a, x244_4b, x244_4c, x244_5, x244_7, x244_9a, x244_9b, x244_9c, x244_11, x244_12, x244_13, x244_14a, x244_14b, x244_14c, x244_16, x244_17a, x244_17b, x244_17c, x244_19, x244_21, x244_22, x244_23, x244_24, x244_25a, x244_25b, x244_25c, x244_29, x244_31, x244_34, x244_35a, x244_35b, x244_35c, x244_39, x244_41, x244_44, x244_46, x244_48, x244_49, x244_50, x244_51, x244_52, x244_55, x244_56, x244_58, x244_60, x244_61, x244_62, x244_64, x244_65, x244_68, x244_71, x244_73, x244_74, x244_76, x244_77, x244_78a, x244_78b, x244_78c, x244_80, x244_81, x244_83, x244_85, x244_87, x244_88, x244_89, x244_91, x244_93, x244_95, x244_96a, x244_96b, x244_96c, x244_99a, x244_99b, x244_99c, x244_102, x244_105a, x244_105b, x244_105c, x244_108, x244_111, x244_113, x244_114, x244_115, x244_116, x244_117, x244_120, x244_121, x244_122, x244_123a, x244_123b, x244_123c, x244_127, x244_128, x244_131, x244_132, x244_133, x244_135, x244_136, x244_137, x244_139a, x244_139b, x244_140, x244_141, x244_142, x244_143, x244_144, x244_145, x244_147, x244_148, x244_149, x244_151, x244_152a, x244_152b, x244_153, x244_154, x244_155, x244_156, x244_157, x244_158, x244_160, x244_161a, x244_161b, x244_161c, x244_163, x244_166, x244_167, mzi, mInc, mne, mlt9, mrk, mI1, mI2, mI3, mI4, mL1, mL2, mL3, mL4, mQ1, mQ2, mQ3, mQ4, mT1, mcat0, mcat1, mcat2, mcat3, mcat4, mrf1, jK_v, jK_n, JA, mz1, if_true, if_false, ite_true, ite_false, eq_self, not_false_eq_true, Nat.zero_le, true_and, and_true, and_self, Nat.reduceMod, Nat.reduceAdd, Nat.reduceLeDiff, Nat.reduceEqDiff, Nat.reduceLT, hbz, cond_false]
  | true =>
    obtain ⟨j, j1, j2⟩ := a1.2.2.1.2.2 z hz ((i20 _).mpr hz2)
    obtain ⟨μ', r', c1, c2, c3, c4⟩ := d_back (z := z) hL a1 hs (j + 1) j z _ r (by omega) j1 j2 hz hMR (fun _ _ _ _ _ _ _ _ _ _ => rfl) (by rw [mR2 (by omega), mR1])
    refine ⟨μ', true, r', jGb_t hgR c1, c2, fun _ => c3, fun h => Bool.noConfusion h, fun d Q => ?_⟩
    rw [e1]
    rw [hz2, if_pos rfl] at hbz
    have c5 := c4 b' (iN a.2.1) d Q
    refine Iff.trans ?_ c5
    simp only [x244_0, x244_2, x244_4a, x244_4b, x244_4c, x244_5, x244_7, x244_9a, x244_9b, x244_9c, x244_11, x244_12, x244_13, x244_14a, x244_14b, x244_14c, x244_16, x244_17a, x244_17b, x244_17c, x244_19, x244_21, x244_22, x244_23, x244_24, x244_25a, x244_25b, x244_25c, x244_29, x244_31, x244_34, x244_35a, x244_35b, x244_35c, x244_39, x244_41, x244_44, x244_46, x244_48, x244_49, x244_50, x244_51, x244_52, x244_55, x244_56, x244_58, x244_60, x244_61, x244_62, x244_64, x244_65, x244_68, x244_71, x244_73, x244_74, x244_76, x244_77, x244_78a, x244_78b, x244_78c, x244_80, x244_81, x244_83, x244_85, x244_87, x244_88, x244_89, x244_91, x244_93, x244_95, x244_96a, x244_96b, x244_96c, x244_99a, x244_99b, x244_99c, x244_102, x244_105a, x244_105b, x244_105c, x244_108, x244_111, x244_113, x244_114, x244_115, x244_116, x244_117, x244_120, x244_121, x244_122, x244_123a, x244_123b, x244_123c, x244_127, x244_128, x244_131, x244_132, x244_133, x244_135, x244_136, x244_137, x244_139a, x244_139b, x244_140, x244_141, x244_142, x244_143, x244_144, x244_145, x244_147, x244_148, x244_149, x244_151, x244_152a, x244_152b, x244_153, x244_154, x244_155, x244_156, x244_157, x244_158, x244_160, x244_161a, x244_161b, x244_161c, x244_163, x244_166, x244_167, mzi, mInc, mne, mlt9, mrk, mI1, mI2, mI3, mI4, mL1, mL2, mL3, mL4, mQ1, mQ2, mQ3, mQ4, mT1, mcat0, mcat1, mcat2, mcat3, mcat4, mrf1, jK_v, jK_n, JA, mz1, if_true, if_false, ite_true, ite_false, eq_self, not_false_eq_true, Nat.zero_le, true_and, and_true, and_self, Nat.reduceMod, Nat.reduceAdd, Nat.reduceLeDiff, Nat.reduceEqDiff, Nat.reduceLT, hbz]
end PUSH
