/-! THE PURE PART: the greatest flow (class). -/
def kCut (r : Nat → Nat → Nat) (S : Nat → Bool) : Nat := kS (fun u => kS (fun v => if S u && !S v then r u v else 0) 12) 12
/-- a row of numbers as room from place to place -/
def kMx (g : Nat → Int32) (r : Nat → Nat → Nat) : Prop := ∀ u v, u < 12 → v < 12 → g (u * 12 + v) = iN (r u v) ∧ r u v + r v u ≤ 1000
/-- one less there, one more back -/
def kMv (r : Nat → Nat → Nat) (u k : Nat) : Nat → Nat → Nat := fun x y => if x = u ∧ y = k then r x y - 1 else if x = k ∧ y = u then r x y + 1 else r x y
theorem kS_pt {u k c : Nat} (hu : u < 12) (hk : k < 12) : kS (fun x => kS (fun y => if x = u ∧ y = k then c else 0) 12) 12 = c := by
  have h : kS (fun x => kS (fun y => if x = u ∧ y = k then c else 0) 12) 12 = kS (fun x => if x = u then c else 0) 12 := by
    refine kS_congr 12 fun x hx => ?_
    by_cases e : x = u
    · have h2 : (fun y => if x = u ∧ y = k then c else 0) = fun y => if y = k then c else 0 := by
        funext y
        by_cases e2 : y = k
        · rw [if_pos ⟨e, e2⟩, if_pos e2]
        · rw [if_neg fun h => e2 h.2, if_neg e2]
      rw [h2, kS_one, if_pos hk, if_pos e]
    · have h2 : (fun y => if x = u ∧ y = k then c else 0) = fun _ => 0 := by
        funext y
        rw [if_neg fun h => e h.1]
      rw [h2, kS_zero, if_neg e]
  rw [h, kS_one, if_pos hu]
theorem kCut_mv {r : Nat → Nat → Nat} {S : Nat → Bool} {u k : Nat} (hu : u < 12) (hk : k < 12) (huk : ¬ u = k) (h1 : 1 ≤ r u k) : kCut (kMv r u k) S + (S u).toNat = kCut r S + (S k).toNat := by
  have e : kCut (kMv r u k) S + (if S u && !S k then 1 else 0) = kCut r S + (if S k && !S u then 1 else 0) := by
    have e1 := kS_pt (c := if S u && !S k then 1 else 0) hu hk
    have e2 := kS_pt (c := if S k && !S u then 1 else 0) hk hu
    have e3 : kS (fun x => kS (fun y => (if S x && !S y then kMv r u k x y else 0) + (if x = u ∧ y = k then (if S u && !S k then 1 else 0) else 0)) 12) 12 = kS (fun x => kS (fun y => (if S x && !S y then r x y else 0) + (if x = k ∧ y = u then (if S k && !S u then 1 else 0) else 0)) 12) 12 := by
      refine kS_congr 12 fun x _ => kS_congr 12 fun y _ => ?_
      unfold kMv
      by_cases a : x = u ∧ y = k
      · have nb : ¬ (x = k ∧ y = u) := fun h => huk (a.1.symm.trans h.1)
        simp only [if_pos a, if_neg nb]
        rw [a.1, a.2]
        split
        · omega
        · rfl
      · by_cases b : x = k ∧ y = u
        · simp only [if_neg a, if_pos b]
          rw [b.1, b.2]
          split <;> omega
        · simp only [if_neg a, if_neg b]
    have e4 : ∀ (A B : Nat → Nat → Nat), kS (fun x => kS (fun y => A x y + B x y) 12) 12 = kS (fun x => kS (fun y => A x y) 12) 12 + kS (fun x => kS (fun y => B x y) 12) 12 := by
      intro A B
      rw [← kS_add]
      exact kS_congr 12 fun x _ => kS_add 12
    rw [e4, e4, e1, e2] at e3
    exact e3
  cases h2 : S u <;> cases h3 : S k <;> rw [h2, h3] at e <;> simp at e ⊢ <;> omega
theorem iN_m1 {a : Nat} (h : 1 ≤ a) : iN a + -1 = iN (a - 1) := by
  rw [← iN_pred (by omega), Int32.sub_eq_add_neg]
theorem kMx_mv {g : Nat → Int32} {r : Nat → Nat → Nat} {u k : Nat} (hu : u < 12) (hk : k < 12) (huk : ¬ u = k) (h1 : 1 ≤ r u k) (h : kMx g r) : kMx (kAdd (kAdd g u k (-1)) k u 1) (kMv r u k) := by
  intro x y hx hy
  have hxy := h x y hx hy
  have hku := h u k hu hk
  have hku' := h k u hk hu
  unfold kAdd kMv
  refine ⟨?_, ?_⟩
  · show (if x * 12 + y = k * 12 + u then (if k * 12 + u = u * 12 + k then g (u * 12 + k) + -1 else g (k * 12 + u)) + 1 else if x * 12 + y = u * 12 + k then g (u * 12 + k) + -1 else g (x * 12 + y)) = _
    by_cases a : x = u ∧ y = k
    · obtain ⟨a1, a2⟩ := a
      subst a1 a2
      rw [if_neg (by omega), if_pos rfl, if_pos ⟨rfl, rfl⟩, hku.1, iN_m1 h1]
    · rw [if_neg a]
      by_cases b : x = k ∧ y = u
      · obtain ⟨b1, b2⟩ := b
        subst b1 b2
        rw [if_pos rfl, if_neg (by omega), if_pos ⟨rfl, rfl⟩, hku'.1, mInc]
      · rw [if_neg (by omega), if_neg (by omega), if_neg b]
        exact hxy.1
  · have a' : (y = u ∧ x = k) ↔ (x = k ∧ y = u) := And.comm
    have b' : (y = k ∧ x = u) ↔ (x = u ∧ y = k) := And.comm
    simp only [a', b']
    by_cases a : x = u ∧ y = k
    · have nb : ¬ (x = k ∧ y = u) := fun h => huk (a.1.symm.trans h.1)
      simp only [if_pos a, if_neg nb]
      rw [a.1, a.2]
      omega
    · by_cases b : x = k ∧ y = u
      · simp only [if_neg a, if_pos b]
        rw [b.1, b.2]
        omega
      · simp only [if_neg a, if_neg b]
        exact hxy.2
/-- how many are not seen yet -/
def kU (s : Int32) : Nat := kS (fun j => if jbt s j then 0 else 1) 12
theorem kU_or {s : Int32} {u : Nat} (hu : u < 12) (h : jbt s u = false) : kU (s ||| 1 <<< (iN u &&& 31)) + 1 ≤ kU s := by
  unfold kU
  have h1 : kS (fun j => (if jbt (s ||| 1 <<< (iN u &&& 31)) j then 0 else 1) + (if j = u then 1 else 0)) 12 ≤ kS (fun j => if jbt s j then 0 else 1) 12 := by
    refine kS_mono 12 fun j hj => ?_
    rw [jbt_or, jbt_one (by omega) (by omega)]
    by_cases e : j = u
    · subst e
      rw [h]
      simp
    · rw [if_neg e, decide_eq_false e, Bool.or_false]
      exact Nat.le_refl _
  rw [kS_add, kS_one, if_pos hu] at h1
  exact h1
theorem kU_le {s s' : Int32} (h : ∀ x, x < 32 → jbt s x = true → jbt s' x = true) : kU s' ≤ kU s := by
  refine kS_mono 12 fun j hj => ?_
  cases e : jbt s j with
  | true => rw [h j (by omega) e]; exact Nat.le_refl _
  | false => split <;> simp
theorem kU_pos {s : Int32} {u : Nat} (hu : u < 12) (h : jbt s u = false) : 1 ≤ kU s := by
  have := kU_or hu h
  omega
/-- what one try to push does -/
def kPc (z u : Nat) (a : Int32 × (Nat → Int32)) (o : Bool × Int32 × (Nat → Int32)) (K : Nat → Prop) : Prop :=
  (∀ x, x < 32 → jbt a.1 x = true → jbt o.2.1 x = true) ∧
  (o.1 = false → o.2.2 = a.2 ∧ ∀ x, x < 32 → jbt o.2.1 x = true → jbt a.1 x = false → x < 12 ∧ ¬ x = z ∧ ∀ y, y < 12 → 0 < a.2 (x * 12 + y) → jbt o.2.1 y = true) ∧
  (o.1 = true → ∀ r, kMx a.2 r → ∃ r', kMx o.2.2 r' ∧ (∀ S : Nat → Bool, kCut r' S + (S u).toNat = kCut r S + (S z).toNat) ∧ ∀ x y, x < 12 → y < 12 → K x → r' x y = r x y ∧ r' y x = r y x)
theorem kTry_c {z u F : Nat} {rec : Nat → Int32 × (Nat → Int32) → Bool × Int32 × (Nat → Int32)} (hu : u < 12)
    (hrec : ∀ k a, k < 12 → jbt a.1 k = false → kU a.1 ≤ F → kPc z k a (rec k a) (fun x => jbt a.1 x = true) ∧ ((rec k a).1 = false → jbt (rec k a).2.1 k = true)) :
    ∀ r k a, k + r = 12 → jbt a.1 u = true → kU a.1 ≤ F → kPc z u a (kTry rec u k r a) (fun x => jbt a.1 x = true ∧ ¬ x = u) ∧ ((kTry rec u k r a).1 = false → ∀ y, k ≤ y → y < 12 → 0 < a.2 (u * 12 + y) → jbt (kTry rec u k r a).2.1 y = true) := by
  intro r
  induction r with
  | zero =>
    intro k a hk hau hF
    refine ⟨⟨fun x _ h => h, fun _ => ⟨rfl, fun x _ h1 h2 => ?_⟩, fun h => Bool.noConfusion (show false = true from h)⟩, fun _ y h1 h2 => absurd h1 (by omega)⟩
    rw [show jbt a.1 x = true from h1] at h2
    exact Bool.noConfusion h2
  | succ r ih =>
    intro k a hk hau hF
    have hnext := ih (k + 1)
    have hb := jbit_bt (s := a.1) (j := k) (by omega)
    unfold kTry
    by_cases g1 : jbit a.1 (iN k) = 0
    · have ak : jbt a.1 k = false := by
        rw [hb] at g1
        cases e : jbt a.1 k with
        | false => rfl
        | true => rw [e] at g1; exact absurd g1 (by decide)
      have huk : ¬ u = k := by
        rintro rfl
        rw [hau] at ak
        exact Bool.noConfusion ak
      rw [if_pos g1]
      by_cases g2 : 0 < a.2 (u * 12 + k)
      · rw [if_pos g2]
        have hr := hrec k a (by omega) ak hF
        rcases hv : rec k a with ⟨v, b⟩
        rw [hv] at hr
        obtain ⟨⟨m1, f1, t1⟩, s1⟩ := hr
        cases v with
        | true =>
          refine ⟨⟨m1, fun h => Bool.noConfusion (show true = false from h), fun _ r0 hr0 => ?_⟩, fun h => Bool.noConfusion (show true = false from h)⟩
          obtain ⟨r', c1, c2, c3⟩ := t1 rfl r0 hr0
          have h5 := c3 u k hu (by omega) hau
          have h6 := (hr0 u k hu (by omega))
          have h7 : 1 ≤ r' u k := by
            rw [h5.1]
            rw [h6.1] at g2
            have := (iN_lt (a := 0) (by omega) (by omega)).mp g2
            omega
          refine ⟨kMv r' u k, kMx_mv hu (by omega) huk h7 c1, fun S => ?_, fun x y hx hy hK => ?_⟩
          · have e1 := kCut_mv (S := S) hu (show k < 12 by omega) huk h7
            have e2 := c2 S
            omega
          · obtain ⟨k1, k2⟩ := hK
            have e1 := c3 x y hx hy k1
            have hxk : ¬ x = k := by
              rintro rfl
              rw [ak] at k1
              exact Bool.noConfusion k1
            unfold kMv
            rw [if_neg (by omega), if_neg (by omega), if_neg (by omega), if_neg (by omega)]
            exact e1
        | false =>
          obtain ⟨f2, f3⟩ := f1 rfl
          have hbm : kU b.1 ≤ F := Nat.le_trans (kU_le m1) hF
          have hn := hnext b (by omega) (m1 u (by omega) hau) hbm
          dsimp only
          obtain ⟨⟨m2, g3, t2⟩, s2⟩ := hn
          have hbk : jbt b.1 k = true := s1 rfl
          refine ⟨⟨fun x hx h => m2 x hx (m1 x hx h), fun h => ?_, fun h r0 hr0 => ?_⟩, fun h y h1 h2 h3 => ?_⟩
          · obtain ⟨g4, g5⟩ := g3 h
            refine ⟨g4.trans f2, fun x hx h1 h2 => ?_⟩
            cases e : jbt b.1 x with
            | true =>
              obtain ⟨q1, q2, q3⟩ := f3 x hx e h2
              exact ⟨q1, q2, fun y hy h3 => m2 y (by omega) (q3 y hy h3)⟩
            | false =>
              obtain ⟨q1, q2, q3⟩ := g5 x hx h1 e
              exact ⟨q1, q2, fun y hy h3 => q3 y hy (by rw [f2]; exact h3)⟩
          · obtain ⟨r', c1, c2, c3⟩ := t2 h r0 (by rw [f2]; exact hr0)
            exact ⟨r', c1, c2, fun x y hx hy hK => c3 x y hx hy ⟨m1 x (by omega) hK.1, hK.2⟩⟩
          · by_cases e : y = k
            · subst e
              exact m2 y (by omega) hbk
            · exact s2 h y (by omega) h2 (by rw [f2]; exact h3)
      · rw [if_neg g2]
        obtain ⟨p1, p2⟩ := hnext a (by omega) hau hF
        refine ⟨p1, fun h y h1 h2 h3 => ?_⟩
        by_cases e : y = k
        · subst e; exact absurd h3 g2
        · exact p2 h y (by omega) h2 h3
    · rw [if_neg g1]
      obtain ⟨p1, p2⟩ := hnext a (by omega) hau hF
      refine ⟨p1, fun h y h1 h2 h3 => ?_⟩
      by_cases e : y = k
      · subst e
        refine p1.1 y (by omega) ?_
        rw [hb] at g1
        cases e : jbt a.1 y with
        | true => rfl
        | false => rw [e] at g1; exact absurd rfl g1
      · exact p2 h y (by omega) h2 h3
theorem kPush_c {z : Nat} : ∀ F u a, u < 12 → jbt a.1 u = false → kU a.1 ≤ F → kPc z u a (kPush z F u a) (fun x => jbt a.1 x = true) ∧ ((kPush z F u a).1 = false → jbt (kPush z F u a).2.1 u = true) := by
  intro F
  induction F with
  | zero =>
    intro u a hu h0 hF
    exact absurd (kU_pos hu h0) (by omega)
  | succ F ih =>
    intro u a hu h0 hF
    unfold kPush
    by_cases e : u = z
    · rw [if_pos e]
      refine ⟨⟨fun _ _ h => h, fun h => Bool.noConfusion (show true = false from h), fun _ r hr => ⟨r, hr, fun S => by rw [e], fun _ _ _ _ _ => ⟨rfl, rfl⟩⟩⟩, fun h => Bool.noConfusion (show true = false from h)⟩
    · rw [if_neg e]
      have hb : ∀ x, x < 32 → jbt (a.1 ||| 1 <<< (iN u &&& 31)) x = (jbt a.1 x || decide (x = u)) := fun x hx => by rw [jbt_or, jbt_one (by omega) hx]
      have hU := kU_or hu h0
      obtain ⟨⟨m1, f1, t1⟩, s1⟩ := kTry_c (z := z) (F := F) (rec := kPush z F) hu (fun k a hk h1 h2 => ih k a hk h1 h2) 12 0 (a.1 ||| 1 <<< (iN u &&& 31), a.2) rfl (by rw [hb u (by omega)]; simp) (by show kU (a.1 ||| 1 <<< (iN u &&& 31)) ≤ F; omega)
      have mu : ∀ x, x < 32 → jbt a.1 x = true → jbt (a.1 ||| 1 <<< (iN u &&& 31)) x = true := fun x hx h => by rw [hb x hx, h]; rfl
      have mu2 := m1 u (by omega) (by rw [hb u (by omega)]; simp)
      refine ⟨⟨fun x hx h => m1 x hx (mu x hx h), fun h => ?_, fun h r hr => ?_⟩, fun _ => mu2⟩
      · obtain ⟨f2, f3⟩ := f1 h
        refine ⟨f2, fun x hx h1 h2 => ?_⟩
        by_cases ex : x = u
        · subst ex
          exact ⟨hu, e, fun y hy h3 => s1 h y (Nat.zero_le _) hy h3⟩
        · exact f3 x hx h1 (by rw [hb x hx, h2, decide_eq_false ex]; rfl)
      · obtain ⟨r', c1, c2, c3⟩ := t1 h r hr
        refine ⟨r', c1, c2, fun x y hx hy hK => c3 x y hx hy ⟨mu x (by omega) hK, ?_⟩⟩
        rintro rfl
        have hK' : jbt a.1 x = true := hK
        rw [h0] at hK'
        exact Bool.noConfusion hK'
theorem kU_0 : kU 0 = 12 := by decide +kernel
theorem kGr_c {s z : Nat} (hs : s < 12) (hz : z < 12) (hsz : ¬ s = z) {r0 : Nat → Nat → Nat} : ∀ q p g r, kMx g r → (∀ S : Nat → Bool, S s = true → S z = false → kCut r S + p = kCut r0 S) → (∀ S : Nat → Bool, S s = true → S z = false → (kGr s z q p g).1 ≤ kCut r0 S) ∧ ((kGr s z q p g).1 = p + q ∨ ∃ S : Nat → Bool, S s = true ∧ S z = false ∧ kCut r0 S = (kGr s z q p g).1)
  | 0, p, g, r, hr, h => ⟨fun S h1 h2 => by have := h S h1 h2; show p ≤ _; omega, Or.inl rfl⟩
  | q + 1, p, g, r, hr, h => by
    have hp := kPush_c (z := z) 12 s (0, g) hs jbt_zero (by rw [kU_0]; omega)
    unfold kGr
    rcases hv : kPush z 12 s (0, g) with ⟨v, b⟩
    rw [hv] at hp
    obtain ⟨⟨m1, f1, t1⟩, s1⟩ := hp
    cases v with
    | true =>
      obtain ⟨r', c1, c2, _⟩ := t1 rfl r hr
      have ih := kGr_c (r0 := r0) hs hz hsz q (p + 1) b.2 r' c1 (fun S h1 h2 => by
        have e1 := h S h1 h2
        have e2 := c2 S
        rw [h1, h2] at e2
        simp at e2
        omega)
      dsimp only
      refine ⟨ih.1, ih.2.elim (fun h => Or.inl (by rw [h]; omega)) Or.inr⟩
    | false =>
      dsimp only
      obtain ⟨f2, f3⟩ := f1 rfl
      have hsb : jbt b.1 s = true := s1 rfl
      have hzb : jbt b.1 z = false := by
        cases e : jbt b.1 z with
        | false => rfl
        | true => exact absurd rfl (f3 z (by omega) e jbt_zero).2.1
      have h0 : kCut r (fun x => jbt b.1 x) = 0 := by
        unfold kCut
        have : kS (fun u => kS (fun v => if jbt b.1 u && !jbt b.1 v then r u v else 0) 12) 12 = kS (fun u => kS (fun _ => 0) 12) 12 := by
          refine kS_congr 12 fun u hu => kS_congr 12 fun v hv => ?_
          cases e : jbt b.1 u with
          | false => rfl
          | true =>
            cases e2 : jbt b.1 v with
            | true => rfl
            | false =>
              have h3 := f3 u (by omega) e jbt_zero
              have h4 : ¬ 0 < g (u * 12 + v) := fun hh => by
                have := h3.2.2 v hv hh
                rw [show jbt b.1 v = true from this] at e2
                exact Bool.noConfusion e2
              obtain ⟨h5, h6⟩ := hr u v hu hv
              rw [h5] at h4
              have h7 : ¬ 0 < r u v := fun hh => h4 ((iN_lt (a := 0) (by omega) (by omega)).mpr hh)
              show (if true && !false then r u v else 0) = 0
              simp
              omega
        rw [this]
        simp only [kS_zero]
      have h1 := h (fun x => jbt b.1 x) hsb hzb
      refine ⟨fun S h2 h3 => by have := h S h2 h3; show p ≤ _; omega, Or.inr ⟨fun x => jbt b.1 x, hsb, hzb, ?_⟩⟩
      show kCut r0 _ = p
      omega
