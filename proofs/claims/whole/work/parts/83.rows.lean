/-! THE PURE PART: what class and reference hold alike: rows. -/
theorem jfst_is {p : Nat → Bool} {q m k : Nat} (h31 : k + m ≤ 2 ^ 31) (h1 : k ≤ q) (h2 : q < k + m) (h3 : p q = true) (h4 : ∀ j, k ≤ j → j < q → p j = false) : jfst p k m = iN q := by
  rcases jfst_cases (p := p) m k with h | ⟨r, a1, a2, h⟩
  · exact absurd ((jfst_no m k h31).mp h q h1 h2) (by rw [h3]; decide)
  · obtain ⟨b1, b2, b3, b4⟩ := jfst_at (by omega) m k h31 h
    by_cases e : r = q
    · rw [h, e]
    · by_cases e2 : r < q
      · exact absurd (h4 r b1 e2) (by rw [b3]; decide)
      · exact absurd (b4 q h1 (by omega)) (by rw [h3]; decide)
theorem jfst_congr {p q : Nat → Bool} : ∀ m k, (∀ j, k ≤ j → j < k + m → p j = q j) → jfst p k m = jfst q k m
  | 0, _, _ => rfl
  | m + 1, k, h => by
    unfold jfst
    rw [h k (Nat.le_refl _) (by omega), jfst_congr m (k + 1) fun j h1 h2 => h j (by omega) (by omega)]
theorem jany_true {p : Nat → Bool} : ∀ m k, (jany p k m = true ↔ ∃ j, k ≤ j ∧ j < k + m ∧ p j = true)
  | 0, k => ⟨fun h => Bool.noConfusion (show false = true from h), fun ⟨j, h1, h2, _⟩ => absurd h1 (by omega)⟩
  | m + 1, k => by
    unfold jany
    cases h : p k with
    | true => simp only [cond_true, true_iff, Bool.true_or]; exact ⟨k, Nat.le_refl _, by omega, h⟩
    | false =>
      simp only [cond_false, Bool.false_or]
      rw [jany_true m (k + 1)]
      constructor
      · rintro ⟨j, h1, h2, h3⟩
        exact ⟨j, by omega, by omega, h3⟩
      · rintro ⟨j, h1, h2, h3⟩
        by_cases e : j = k
        · subst e; rw [h] at h3; exact Bool.noConfusion h3
        · exact ⟨j, by omega, by omega, h3⟩
theorem jany_false {p : Nat → Bool} {m k : Nat} (h : ∀ j, k ≤ j → j < k + m → p j = false) : jany p k m = false := by
  cases e : jany p k m with
  | false => rfl
  | true =>
    obtain ⟨j, h1, h2, h3⟩ := (jany_true m k).mp e
    rw [h j h1 h2] at h3
    exact h3.symm
/-- connections -/
def kLk (n : Nat) (dw ot ws : Nat → Int32) : Prop := ∀ l, l < n → (ot l = -1 ∧ ws l = 0 ∧ ¬ dw l = 3 ∧ ¬ dw l = 4 ∧ ¬ dw l = 5) ∨ ∃ j, j < n ∧ ¬ j = l ∧ ot l = iN j ∧ ot j = iN l ∧ ((¬ ws l = 0 ∧ ws j = 0 ∧ (dw l = 3 ∧ dw j = 4 ∨ dw l = 5 ∧ dw j = 5)) ∨ (ws l = 0 ∧ ¬ ws j = 0 ∧ (dw l = 4 ∧ dw j = 3 ∨ dw l = 5 ∧ dw j = 5)))
section LK
variable {n : Nat} {dw ot ws dw' ot' ws' : Nat → Int32} {l j : Nat}
theorem kLk_eq (h : kLk n dw ot ws) (h10 : n ≤ 2 ^ 31) (hl : l < n) : ot l = -1 ∨ ∃ j, j < n ∧ ¬ j = l ∧ ot l = iN j ∧ ot j = iN l := by
  rcases h l hl with a | ⟨j, a1, a2, a3, a4, _⟩
  · exact Or.inl a.1
  · exact Or.inr ⟨j, a1, a2, a3, a4⟩
/-- a line alone does something else -/
theorem kLk_1 (h : kLk n dw ot ws) (h10 : n ≤ 2 ^ 31) (hl : l < n) (ho : ot l = -1) (v3 : ¬ dw' l = 3) (v4 : ¬ dw' l = 4) (v5 : ¬ dw' l = 5) (hd : ∀ k, k < n → ¬ k = l → dw' k = dw k) : kLk n dw' ot ws := by
  intro k hk
  by_cases e : k = l
  · subst e
    rcases h k hk with a | ⟨j, a1, a2, a3, _⟩
    · exact Or.inl ⟨a.1, a.2.1, v3, v4, v5⟩
    · exact absurd (a3.symm.trans ho) (iN_n1 (by omega))
  · rcases h k hk with a | ⟨j, a1, a2, a3, a4, a5⟩
    · rw [hd k hk e]
      exact Or.inl a
    · have hj : ¬ j = l := by
        rintro rfl
        exact absurd (a4.symm.trans ho) (iN_n1 (by omega))
      refine Or.inr ⟨j, a1, a2, a3, a4, ?_⟩
      rw [hd k hk e, hd j a1 hj]
      exact a5
/-- both of a pair do something else, and are still a pair -/
theorem kLk_2 (h : kLk n dw ot ws) (h10 : n ≤ 2 ^ 31) (hl : l < n) (hj : j < n) (ho : ot l = iN j) (ho2 : ot j = iN l) (hlj : ¬ l = j) (v1 : dw' l = 5) (v2 : dw' j = 5) (hd : ∀ k, k < n → ¬ k = l → ¬ k = j → dw' k = dw k) : kLk n dw' ot ws := by
  have inj : ∀ a b, a < n → b < n → iN a = iN b → a = b := fun a b h1 h2 h3 => (iN_eq (by omega) (by omega)).mp h3
  intro k hk
  by_cases e : k = l
  · subst e
    rcases h k hk with a | ⟨i, a1, a2, a3, a4, a5⟩
    · exact absurd (ho.symm.trans a.1) (iN_n1 (by omega))
    · have hi : i = j := inj i j a1 hj (a3.symm.trans ho)
      subst hi
      refine Or.inr ⟨i, a1, a2, a3, a4, ?_⟩
      rw [v1, v2]
      rcases a5 with ⟨b1, b2, _⟩ | ⟨b1, b2, _⟩
      · exact Or.inl ⟨b1, b2, Or.inr ⟨rfl, rfl⟩⟩
      · exact Or.inr ⟨b1, b2, Or.inr ⟨rfl, rfl⟩⟩
  · by_cases e2 : k = j
    · subst e2
      rcases h k hk with a | ⟨i, a1, a2, a3, a4, a5⟩
      · exact absurd (ho2.symm.trans a.1) (iN_n1 (by omega))
      · have hi : i = l := inj i l a1 hl (a3.symm.trans ho2)
        subst hi
        refine Or.inr ⟨i, a1, a2, a3, a4, ?_⟩
        rw [v1, v2]
        rcases a5 with ⟨b1, b2, _⟩ | ⟨b1, b2, _⟩
        · exact Or.inl ⟨b1, b2, Or.inr ⟨rfl, rfl⟩⟩
        · exact Or.inr ⟨b1, b2, Or.inr ⟨rfl, rfl⟩⟩
    · rcases h k hk with a | ⟨i, a1, a2, a3, a4, a5⟩
      · rw [hd k hk e e2]
        exact Or.inl a
      · have hi : ¬ i = l := by
          rintro rfl
          exact e2 (inj k j hk hj (a4.symm.trans ho))
        have hi2 : ¬ i = j := by
          rintro rfl
          exact e (inj k l hk hl (a4.symm.trans ho2))
        refine Or.inr ⟨i, a1, a2, a3, a4, ?_⟩
        rw [hd k hk e e2, hd i a1 hi hi2]
        exact a5
/-- a pair no more -/
theorem kLk_3 (h : kLk n dw ot ws) (h10 : n ≤ 2 ^ 31) (hl : l < n) (hj : j < n) (ho : ot l = iN j) (ho2 : ot j = iN l) (v1 : ¬ dw' l = 3 ∧ ¬ dw' l = 4 ∧ ¬ dw' l = 5) (v2 : ¬ dw' j = 3 ∧ ¬ dw' j = 4 ∧ ¬ dw' j = 5) (o1 : ot' l = -1) (o2 : ot' j = -1) (w1 : ws' l = 0) (w2 : ws' j = 0) (hd : ∀ k, k < n → ¬ k = l → ¬ k = j → dw' k = dw k ∧ ot' k = ot k ∧ ws' k = ws k) : kLk n dw' ot' ws' := by
  have inj : ∀ a b, a < n → b < n → iN a = iN b → a = b := fun a b h1 h2 h3 => (iN_eq (by omega) (by omega)).mp h3
  intro k hk
  by_cases e : k = l
  · subst e
    exact Or.inl ⟨o1, w1, v1⟩
  · by_cases e2 : k = j
    · subst e2
      exact Or.inl ⟨o2, w2, v2⟩
    · obtain ⟨d1, d2, d3⟩ := hd k hk e e2
      rw [d1, d2, d3]
      rcases h k hk with a | ⟨i, a1, a2, a3, a4, a5⟩
      · exact Or.inl a
      · have hi : ¬ i = l := by
          rintro rfl
          exact e2 (inj k j hk hj (a4.symm.trans ho))
        have hi2 : ¬ i = j := by
          rintro rfl
          exact e (inj k l hk hl (a4.symm.trans ho2))
        obtain ⟨f1, f2, f3⟩ := hd i a1 hi hi2
        refine Or.inr ⟨i, a1, a2, a3, by rw [f2]; exact a4, ?_⟩
        rw [f1, f3]
        exact a5
/-- a new pair: l calls j -/
theorem kLk_4 (h : kLk n dw ot ws) (h10 : n ≤ 2 ^ 31) (hl : l < n) (hj : j < n) (hlj : ¬ l = j) (ho : ot l = -1) (ho2 : ot j = -1) (v1 : dw' l = 3) (v2 : dw' j = 4) (o1 : ot' l = iN j) (o2 : ot' j = iN l) (w1 : ¬ ws' l = 0) (w2 : ws' j = 0) (hd : ∀ k, k < n → ¬ k = l → ¬ k = j → dw' k = dw k ∧ ot' k = ot k ∧ ws' k = ws k) : kLk n dw' ot' ws' := by
  intro k hk
  by_cases e : k = l
  · subst e
    exact Or.inr ⟨j, hj, fun h => hlj h.symm, o1, o2, Or.inl ⟨w1, w2, Or.inl ⟨v1, v2⟩⟩⟩
  · by_cases e2 : k = j
    · subst e2
      exact Or.inr ⟨l, hl, hlj, o2, o1, Or.inr ⟨w2, w1, Or.inl ⟨v2, v1⟩⟩⟩
    · obtain ⟨d1, d2, d3⟩ := hd k hk e e2
      rw [d1, d2, d3]
      rcases h k hk with a | ⟨i, a1, a2, a3, a4, a5⟩
      · exact Or.inl a
      · have hi : ¬ i = l := by
          rintro rfl
          exact absurd (a4.symm.trans ho) (iN_n1 (by omega))
        have hi2 : ¬ i = j := by
          rintro rfl
          exact absurd (a4.symm.trans ho2) (iN_n1 (by omega))
        obtain ⟨f1, f2, f3⟩ := hd i a1 hi hi2
        refine Or.inr ⟨i, a1, a2, a3, by rw [f2]; exact a4, ?_⟩
        rw [f1, f3]
        exact a5
theorem kLk_talk (h : kLk n dw ot ws) (h10 : n ≤ 2 ^ 31) : ∀ l, l < n → dw l = 5 → ∃ j, j < n ∧ dw j = 5 ∧ ot l = iN j ∧ ot j = iN l ∧ (ws l = 0 ↔ ¬ ws j = 0) := by
  intro l hl h5
  rcases h l hl with a | ⟨j, a1, a2, a3, a4, a5⟩
  · exact absurd h5 a.2.2.2.2
  · have n43 : ¬ (5 : Int32) = 3 ∧ ¬ (5 : Int32) = 4 := by decide
    rcases a5 with ⟨b1, b2, b3⟩ | ⟨b1, b2, b3⟩
    · rcases b3 with b3 | b3
      · exact absurd (h5.symm.trans b3.1) n43.1
      · exact ⟨j, a1, b3.2, a3, a4, ⟨fun h => absurd h b1, fun h => absurd b2 h⟩⟩
    · rcases b3 with b3 | b3
      · exact absurd (h5.symm.trans b3.1) n43.2
      · exact ⟨j, a1, b3.2, a3, a4, ⟨fun _ => b2, fun _ => b1⟩⟩
end LK
/-- those that wait -/
def kQu (w n : Nat) (dw qu mq : Nat → Int32) : Prop := (∀ j, j < w → mq j = qu j ∧ ∃ q, q < n ∧ qu j = iN q ∧ dw q = 2) ∧ (∀ i j, i < j → j < w → ¬ qu i = qu j) ∧ ∀ l, l < n → dw l = 2 → ∃ j, j < w ∧ qu j = iN l
section QU
variable {w n l : Nat} {dw qu mq dw' qu' mq' : Nat → Int32}
theorem kQu_1 (h : kQu w n dw qu mq) (hd : ∀ k, k < n → (dw' k = 2 ↔ dw k = 2)) : kQu w n dw' qu mq := by
  obtain ⟨h1, h2, h3⟩ := h
  refine ⟨fun j hj => ?_, h2, fun l hl h => h3 l hl ((hd l hl).mp h)⟩
  obtain ⟨a, q, b1, b2, b3⟩ := h1 j hj
  exact ⟨a, q, b1, b2, (hd q b1).mpr b3⟩
theorem kQu_2 (h : kQu w n dw qu mq) (h10 : n ≤ 2 ^ 31) (hl : l < n) (h0 : ¬ dw l = 2) (h1 : dw' l = 2) (hd : ∀ k, k < n → ¬ k = l → dw' k = dw k) (hq : ∀ j, j < w → qu' j = qu j) (hq2 : qu' w = iN l) (hm : ∀ j, j < w → mq' j = mq j) (hm2 : mq' w = iN l) : kQu (w + 1) n dw' qu' mq' := by
  obtain ⟨a1, a2, a3⟩ := h
  refine ⟨fun j hj => ?_, fun i j hij hj => ?_, fun k hk h => ?_⟩
  · by_cases e : j = w
    · subst e
      exact ⟨by rw [hq2, hm2], l, hl, hq2, h1⟩
    · obtain ⟨b, q, b1, b2, b3⟩ := a1 j (by omega)
      refine ⟨by rw [hq j (by omega), hm j (by omega)]; exact b, q, b1, by rw [hq j (by omega)]; exact b2, ?_⟩
      rw [hd q b1 (by rintro rfl; exact h0 b3)]
      exact b3
  · by_cases e : j = w
    · subst e
      obtain ⟨b, q, b1, b2, b3⟩ := a1 i (by omega)
      rw [hq i (by omega), hq2, b2]
      intro h
      have := (iN_eq (by omega) (by omega)).mp h
      subst this
      exact h0 b3
    · rw [hq i (by omega), hq j (by omega)]
      exact a2 i j hij (by omega)
  · by_cases e : k = l
    · subst e
      exact ⟨w, by omega, hq2⟩
    · rw [hd k hk e] at h
      obtain ⟨j, b1, b2⟩ := a3 k hk h
      exact ⟨j, by omega, by rw [hq j b1]; exact b2⟩
theorem kQu_3 {q : Nat} (h : kQu w n dw qu mq) (h10 : n ≤ 2 ^ 31) (hl : l < n) (hq : q < w) (hql : qu q = iN l) (h1 : ¬ dw' l = 2) (hd : ∀ k, k < n → ¬ k = l → (dw' k = 2 ↔ dw k = 2)) (hq' : ∀ j, qu' j = if q ≤ j ∧ j < w - 1 then qu (j + 1) else qu j) (hm : ∀ j, mq' j = if q ≤ j ∧ j < w - 1 then mq (j + 1) else mq j) : kQu (w - 1) n dw' qu' mq' := by
  obtain ⟨a1, a2, a3⟩ := h
  have key : ∀ j, j < w - 1 → ∃ i, i < w ∧ ¬ i = q ∧ qu' j = qu i ∧ mq' j = mq i ∧ (i = j ∧ j < q ∨ i = j + 1 ∧ q ≤ j) := by
    intro j hj
    rw [hq', hm]
    by_cases e : q ≤ j
    · exact ⟨j + 1, by omega, by omega, by rw [if_pos ⟨e, hj⟩], by rw [if_pos ⟨e, hj⟩], Or.inr ⟨rfl, e⟩⟩
    · exact ⟨j, by omega, by omega, by rw [if_neg (by omega)], by rw [if_neg (by omega)], Or.inl ⟨rfl, by omega⟩⟩
  have dist : ∀ i j, i < w → j < w → ¬ i = j → ¬ qu i = qu j := by
    intro i j hi hj hij
    by_cases h : i < j
    · exact a2 i j h hj
    · exact fun e => a2 j i (by omega) hi e.symm
  refine ⟨fun j hj => ?_, fun i j hij hj => ?_, fun k hk h => ?_⟩
  · obtain ⟨i, b1, b2, b3, b4, _⟩ := key j hj
    obtain ⟨c, u, c1, c2, c3⟩ := a1 i b1
    have hu : ¬ u = l := by
      rintro rfl
      exact dist i q b1 hq b2 (c2.trans hql.symm)
    exact ⟨by rw [b3, b4]; exact c, u, c1, by rw [b3]; exact c2, (hd u c1 hu).mpr c3⟩
  · obtain ⟨i1, b1, b2, b3, b4, b5⟩ := key i (by omega)
    obtain ⟨j1, c1, c2, c3, c4, c5⟩ := key j hj
    rw [b3, c3]
    exact dist i1 j1 b1 c1 (by omega)
  · have hkl : ¬ k = l := by rintro rfl; exact h1 h
    obtain ⟨i, b1, b2⟩ := a3 k hk ((hd k hk hkl).mp h)
    have hiq : ¬ i = q := by
      rintro rfl
      exact hkl ((iN_eq (by omega) (by omega)).mp (b2.symm.trans hql))
    by_cases e : i < q
    · exact ⟨i, by omega, by rw [hq', if_neg (by omega)]; exact b2⟩
    · exact ⟨i - 1, by omega, by rw [hq', if_pos (by omega), show i - 1 + 1 = i by omega]; exact b2⟩
theorem kQu_place (h : kQu w n dw qu mq) (h10 : n ≤ 2 ^ 31) (hw : w ≤ 2 ^ 31) (hl : l < n) : (dw l = 2 ∧ ∃ q, q < w ∧ qu q = iN l ∧ jfst (fun k => decide (qu k = iN l)) 0 (w - 0) = iN q ∧ jfst (fun k => decide (mq k = iN l)) 0 (w - 0) = iN q) ∨ (¬ dw l = 2 ∧ jfst (fun k => decide (qu k = iN l)) 0 (w - 0) = -1 ∧ jfst (fun k => decide (mq k = iN l)) 0 (w - 0) = -1) := by
  obtain ⟨a1, a2, a3⟩ := h
  have e : jfst (fun k => decide (mq k = iN l)) 0 (w - 0) = jfst (fun k => decide (qu k = iN l)) 0 (w - 0) := by
    refine jfst_congr _ _ fun j _ hj => ?_
    rw [(a1 j (by omega)).1]
  rw [e]
  by_cases hd : dw l = 2
  · obtain ⟨j, b1, b2⟩ := a3 l hl hd
    refine Or.inl ⟨hd, j, b1, b2, ?_⟩
    have hj : jfst (fun k => decide (qu k = iN l)) 0 (w - 0) = iN j := by
      refine jfst_is (by omega) (by omega) (by omega) (decide_eq_true b2) fun i _ hi => decide_eq_false fun h => a2 i j hi b1 (h.trans b2.symm)
    exact ⟨hj, hj⟩
  · refine Or.inr ⟨hd, ?_⟩
    have hj : jfst (fun k => decide (qu k = iN l)) 0 (w - 0) = -1 := by
      refine (jfst_no _ _ (by omega)).mpr fun i _ hi => decide_eq_false fun h => ?_
      obtain ⟨_, q, c1, c2, c3⟩ := a1 i (by omega)
      have := (iN_eq (by omega) (by omega)).mp (c2.symm.trans h)
      subst this
      exact hd c3
    exact ⟨hj, hj⟩
theorem kS_mono {f g : Nat → Nat} : ∀ n, (∀ k, k < n → f k ≤ g k) → kS f n ≤ kS g n
  | 0, _ => Nat.le_refl _
  | n + 1, h => by
    have h1 := kS_mono n fun k hk => h k (by omega)
    have h2 := h n (by omega)
    show kS f n + f n ≤ kS g n + g n
    omega
theorem kS_once {p : Nat → Bool} : ∀ m, (∀ i j, i < j → j < m → p i = true → p j = true → False) → kS (fun j => if p j then 1 else 0) m ≤ 1
  | 0, _ => Nat.zero_le _
  | m + 1, h => by
    have h1 := kS_once m fun i j a b => h i j a (by omega)
    show kS (fun j => if p j then 1 else 0) m + (if p m then 1 else 0) ≤ 1
    cases e : p m with
    | false => simpa using h1
    | true =>
      have h0 : kS (fun j => if p j then 1 else 0) m = 0 := by
        have : kS (fun j => if p j then 1 else 0) m = kS (fun _ => 0) m := by
          refine kS_congr m fun k hk => ?_
          cases e2 : p k with
          | false => rfl
          | true => exact absurd (h k m hk (by omega) e2 e) not_false
        rw [this, kS_zero]
      rw [h0]
      exact Nat.le_refl _
theorem kS_ones : ∀ n, kS (fun _ => 1) n = n
  | 0 => rfl
  | n + 1 => by
    show kS (fun _ => 1) n + 1 = n + 1
    rw [kS_ones n]
/-- fewer wait than there are lines that wait -/
theorem kQu_w (h : kQu w n dw qu mq) (h10 : n ≤ 2 ^ 31) : w ≤ kS (fun l => if dw l = 2 then 1 else 0) n := by
  obtain ⟨a1, a2, a3⟩ := h
  have e1 : kS (fun _ => 1) w = kS (fun j => kS (fun l => if decide (qu j = iN l) then 1 else 0) n) w := by
    refine kS_congr w fun j hj => ?_
    obtain ⟨_, q, b1, b2, b3⟩ := a1 j hj
    have : kS (fun l => if decide (qu j = iN l) then 1 else 0) n = kS (fun l => if l = q then 1 else 0) n := by
      refine kS_congr n fun l hl => ?_
      by_cases e : l = q
      · rw [if_pos e, if_pos (decide_eq_true (by rw [e]; exact b2))]
      · rw [if_neg e, if_neg]
        intro h
        exact e ((iN_eq (by omega) (by omega)).mp ((of_decide_eq_true h).symm.trans b2))
    rw [this, kS_one, if_pos b1]
  have e2 : kS (fun l => kS (fun j => if decide (qu j = iN l) then 1 else 0) w) n ≤ kS (fun l => if dw l = 2 then 1 else 0) n := by
    refine kS_mono n fun l hl => ?_
    by_cases e : dw l = 2
    · rw [if_pos e]
      exact kS_once w fun i j hij hj h1 h2 => a2 i j hij hj ((of_decide_eq_true h1).trans (of_decide_eq_true h2).symm)
    · rw [if_neg e]
      have : kS (fun j => if decide (qu j = iN l) then 1 else 0) w = kS (fun _ => 0) w := by
        refine kS_congr w fun j hj => ?_
        rw [if_neg]
        intro h
        obtain ⟨_, q, b1, b2, b3⟩ := a1 j hj
        have := (iN_eq (by omega) (by omega)).mp (b2.symm.trans (of_decide_eq_true h))
        subst this
        exact e b3
      rw [this, kS_zero]
      exact Nat.le_refl _
  rw [← kS_swap, ← e1, kS_ones] at e2
  exact e2
theorem kQu_n (h : kQu w n dw qu mq) (h10 : n ≤ 2 ^ 31) : w ≤ n := by
  have h1 := kQu_w h h10
  have h2 : kS (fun l => if dw l = 2 then 1 else 0) n ≤ n := kS_le n fun k _ => by split <;> omega
  omega
theorem kQu_lt (h : kQu w n dw qu mq) (h10 : n ≤ 2 ^ 31) (hl : l < n) (hd : ¬ dw l = 2) : w < n := by
  have h1 := kQu_w h h10
  have h2 : kS (fun k => if dw k = 2 then 1 else 0) n ≤ kS (fun k => (if dw k = 2 then 1 else 0)) n := Nat.le_refl _
  have h3 : kS (fun k => (if dw k = 2 then 1 else 0) + (if k = l then 1 else 0)) n ≤ n := by
    refine kS_le n fun k _ => ?_
    by_cases e : k = l
    · subst e
      rw [if_neg hd, if_pos rfl]
      omega
    · rw [if_neg e]
      split <;> omega
  rw [kS_add, kS_one, if_pos hl] at h3
  omega
end QU
/-- the line that digits call -/
def kFind (n : Nat) (pn pd : Nat → Int32) (g x : Int32) : Int32 := jfst (fun k => decide (0 < g ∧ pd k = g ∧ pn k = x)) 0 (n - 0)
/-- what lines have dialled -/
def kDg (n : Nat) (pn pd dw nu di ca : Nat → Int32) (l : Nat) : Prop := (dw l = 0 ∨ dw l = 4 → di l = 0 ∧ nu l = 0) ∧ ca l = kFind n pn pd (di l) (nu l) ∧ (dw l = 1 → ca l = -1 ∧ ∃ g, g ≤ 6 ∧ di l = iN g) ∧ (dw l = 2 → ∃ k, k < n ∧ ca l = iN k)
theorem kFind_0 {n : Nat} {pn pd : Nat → Int32} {x : Int32} (hn : n ≤ 2 ^ 31) : kFind n pn pd 0 x = -1 := by
  unfold kFind
  exact (jfst_no _ _ (by omega)).mpr fun j _ _ => decide_eq_false fun h => absurd h.1 (by decide)
theorem jcut_0 {x : Int32} {c : Int32} : jcut x (c - c) = x := by
  rw [Int32.sub_self]
  rfl
/-- a digit more: what is found -/
def kPf (n : Nat) (pn pd : Nat → Int32) (c x : Int32) : Int32 := jfst (fun k => decide (¬ pd k < c ∧ jcut (pn k) (pd k - c) = x)) 0 n
def kPfree (n : Nat) (pn pd : Nat → Int32) : Prop := ∀ k j, k < n → j < n → ¬ k = j → ¬ (¬ pd j < pd k ∧ jcut (pn j) (pd j - pd k) = pn k)
section DG
variable {n : Nat} {pn pd : Nat → Int32} {x : Int32} {g : Nat}
theorem i32_irr (c : Int32) : ¬ c < c := Int32.lt_irrefl
theorem kPf_0 (hn : n ≤ 2 ^ 31) (h : kPf n pn pd (iN (g + 1)) x = -1) : kFind n pn pd (iN (g + 1)) x = -1 ∧ jany (fun k => decide (¬ pd k < iN (g + 1) ∧ jcut (pn k) (pd k - iN (g + 1)) = x)) 0 n = false := by
  have h1 := (jfst_no _ _ (by omega)).mp h
  refine ⟨(jfst_no _ _ (by omega)).mpr fun j a b => decide_eq_false fun hh => ?_, jany_false h1⟩
  have h2 := of_decide_eq_false (h1 j a (by omega))
  refine h2 ⟨?_, ?_⟩
  · rw [hh.2.1]; exact i32_irr _
  · rw [hh.2.1, jcut_0]; exact hh.2.2
theorem kPf_1 {k : Nat} (hn : n ≤ 2 ^ 30) (hg : g ≤ 6) (hk : k < n) (h : kPf n pn pd (iN (g + 1)) x = iN k) (he : iN (g + 1) = pd k) : kFind n pn pd (iN (g + 1)) x = iN k := by
  obtain ⟨a1, a2, a3, a4⟩ := jfst_at (by omega) _ _ (by omega) h
  have a3' := of_decide_eq_true a3
  have hpos : (0 : Int32) < iN (g + 1) := (iN_lt (a := 0) (by omega) (by omega)).mpr (by omega)
  refine jfst_is (by omega) (by omega) (by omega) (decide_eq_true ⟨hpos, he.symm, ?_⟩) fun j b1 b2 => decide_eq_false fun hh => ?_
  · rw [← a3'.2, he, jcut_0]
  · have h2 := of_decide_eq_false (a4 j b1 b2)
    refine h2 ⟨?_, ?_⟩
    · rw [hh.2.1]; exact i32_irr _
    · rw [hh.2.1, jcut_0]; exact hh.2.2
theorem kPf_2 {k : Nat} (hn : n ≤ 2 ^ 30) (hk : k < n) (hf : kPfree n pn pd) (h : kPf n pn pd (iN (g + 1)) x = iN k) (he : ¬ iN (g + 1) = pd k) : kFind n pn pd (iN (g + 1)) x = -1 ∧ jany (fun k => decide (¬ pd k < iN (g + 1) ∧ jcut (pn k) (pd k - iN (g + 1)) = x)) 0 n = true := by
  obtain ⟨a1, a2, a3, a4⟩ := jfst_at (by omega) _ _ (by omega) h
  have a3' := of_decide_eq_true a3
  refine ⟨(jfst_no _ _ (by omega)).mpr fun j b1 b2 => decide_eq_false fun hh => ?_, (jany_true _ _).mpr ⟨k, by omega, by omega, a3⟩⟩
  have hjk : ¬ j = k := by
    rintro rfl
    exact he hh.2.1.symm
  refine hf j k (by omega) hk hjk ?_
  rw [hh.2.1, hh.2.2]
  exact a3'
end DG
