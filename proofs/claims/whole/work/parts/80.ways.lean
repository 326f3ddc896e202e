/-! THE PURE PART: both look for the same ways. -/
theorem jfold_rel {α β : Type} {f : Nat → α → α} {g : Nat → β → β} {R : α → β → Prop} {n : Nat} (h : ∀ k a b, k < n → R a b → R (f k a) (g k b)) : ∀ m k a b, k + m = n → R a b → R (jfold f k m a) (jfold g k m b)
  | 0, _, _, _, _, r => r
  | m + 1, k, a, b, e, r => jfold_rel h m (k + 1) (f k a) (g k b) (by omega) (h k a b (by omega) r)
theorem jfold_congr {α : Type} {f g : Nat → α → α} {n : Nat} (h : ∀ k a, k < n → f k a = g k a) : ∀ m k a, k + m = n → jfold f k m a = jfold g k m a
  | 0, _, _, _ => rfl
  | m + 1, k, a, e => by
    show jfold f (k + 1) m (f k a) = jfold g (k + 1) m (g k a)
    rw [h k a (by omega), jfold_congr h m (k + 1) _ (by omega)]
/-- what both have found so far -/
def kRw (W V : Nat → Int32) : Prop := W 4 = V 15 ∧ (W 4 = -1 ∧ W 5 = 0 ∨ (∃ r : Nat, r < 1000 ∧ W 4 = iN r) ∧ (∃ u, u < 6 ∧ jbt (W 5) u = true) ∧ W 5 = V 18 ∧ W 6 = V 17 ∧ W 7 = V 16)
def kRwF (z fr op : Int32) (W V : Nat → Int32) : Prop := W 1 = z ∧ W 2 = fr ∧ W 3 = op ∧ kRw W V
theorem kKeep_rel {z fr op p o : Int32} {r e : Nat} {W V : Nat → Int32} (hr : r < 1000) (hp : ∃ u, u < 6 ∧ jbt p u = true) (h : kRwF z fr op W V) : kRwF z fr op (kKeep p o (iN r) (iN e) W) (kKpM p o (iN e) (iN r) V) := by
  have h0 := h
  obtain ⟨h1, h2, h3, h4, h5⟩ := h
  have hset : kRwF z fr op (fun j => if j = 7 then iN e else if j = 6 then o else if j = 5 then p else if j = 4 then iN r else W j) (fun j => if j = 18 then p else if j = 17 then o else if j = 16 then iN e else if j = 15 then iN r else V j) :=
    ⟨h1, h2, h3, rfl, Or.inr ⟨⟨r, hr, rfl⟩, hp, rfl, rfl, rfl⟩⟩
  unfold kKeep kKpM
  rcases h5 with ⟨h6, h7⟩ | ⟨⟨r', hr', h6⟩, hq, h7, h8, h9⟩
  · rw [if_pos (Or.inl h6), if_pos (show V 15 = -1 by rw [← h4]; exact h6)]
    exact hset
  · have hm : ¬ W 4 = -1 := by rw [h6]; exact iN_n1 (by omega)
    have hm' : ¬ V 15 = -1 := by rw [← h4]; exact hm
    rw [if_neg hm', ← h4, ← h9, h6]
    by_cases a : r < r'
    · have a1 : iN r < iN r' := (iN_lt (by omega) (by omega)).mpr a
      have a2 : ¬ iN r' < iN r := fun h => absurd ((iN_lt (by omega) (by omega)).mp h) (by omega)
      have a3 : ¬ iN r = iN r' := fun h => absurd ((iN_eq (by omega) (by omega)).mp h) (by omega)
      rw [if_pos (Or.inr (Or.inl a1)), if_neg a2, if_neg a3]
      exact hset
    · have a1 : ¬ iN r < iN r' := fun h => absurd ((iN_lt (by omega) (by omega)).mp h) (by omega)
      by_cases b : r = r'
      · subst b
        by_cases c : iN e < W 7
        · rw [if_pos (Or.inr (Or.inr ⟨rfl, c⟩)), if_neg a1, if_pos rfl, if_pos c]
          exact hset
        · rw [if_neg (by rintro (h | h | ⟨_, h⟩); exact hm (h6.trans h); exact a1 h; exact c h), if_neg a1, if_pos rfl, if_neg c]
          exact h0
      · have a2 : iN r' < iN r := (iN_lt (by omega) (by omega)).mpr (by omega)
        have a3 : ¬ iN r = iN r' := fun h => absurd ((iN_eq (by omega) (by omega)).mp h) b
        rw [if_neg (by rintro (h | h | ⟨h, _⟩); exact hm (h6.trans h); exact a1 h; exact a3 h), if_pos a2]
        exact h0
theorem kAcr_in {f g : Nat → Int32} {n t M : Nat} {x : Int32} (hf : ∀ t, t < n → ∃ u, u < M ∧ f t = iN u) (hg : ∀ t, t < n → ∃ u, u < M ∧ g t = iN u) (ht : t < n) : kAcr f g x t = -1 ∨ ∃ u, u < M ∧ kAcr f g x t = iN u := by
  unfold kAcr
  by_cases a : f t = x
  · rw [if_pos a]
    exact Or.inr (hg t ht)
  · rw [if_neg a]
    by_cases b : g t = x
    · rw [if_pos b]
      exact Or.inr (hf t ht)
    · rw [if_neg b]
      exact Or.inl rfl
section WAYS
variable {f g cw bars wires : Nat → Int32} {ld hd : Int32 → Int32} {ish : Int32 → (Nat → Int32) → Bool × (Nat → Int32)} {n M : Nat} {z fr op : Int32}
theorem kExp_body (hM6 : M ≤ 6) (hf : ∀ t, t < n → ∃ u, u < M ∧ f t = iN u) (hg : ∀ t, t < n → ∃ u, u < M ∧ g t = iN u) (hn : n ≤ 10) (hc : ∀ t, t < n → ∃ r : Nat, r < 100 ∧ cw t = iN r) (hfr : ∀ u, u < M → (jbt fr u = true ↔ ld (iN u) < bars u)) (hop : ∀ t, t < n → ∀ s, (jbt op t = true ↔ hd (iN t) < wires t ∧ ¬ (ish (iN t) s).1 = true))
    (rc : Int32 → Int32 → Int32 → Int32 → Nat → (Nat → Int32) → (Nat → Int32)) (rm : Int32 → Int32 → Int32 → Int32 → Int32 → (Nat → Int32) × (Nat → Int32) → (Nat → Int32) × (Nat → Int32)) (B : Nat)
    (hrec : ∀ (x p o : Int32) (r e : Nat) (W : Nat → Int32) (a : (Nat → Int32) × (Nat → Int32)), (∃ u, u < 6 ∧ jbt p u = true) → r + 100 * B < 1000 → kRwF z fr op W a.1 → kRwF z fr op (rc x p o (iN r) e W) (rm x p o (iN e) (iN r) a).1)
    (x p o : Int32) (r e : Nat) (W : Nat → Int32) (a : (Nat → Int32) × (Nat → Int32)) (hp : ∃ u, u < 6 ∧ jbt p u = true) (hr : r + 100 * (B + 1) < 1000) (h : kRwF z fr op W a.1) :
    kRwF z fr op (if x = W 1 then kKeep p o (iN r) (iN e) W else
      jfold (fun t W => if kAcr f g x t = -1 then W else if jbit (W 3) (iN t) = 0 then W else if jbit (W 2 &&& (p ^^^ (-1))) (kAcr f g x t) = 0 then W else
        rc (kAcr f g x t) (p ||| 1 <<< (kAcr f g x t &&& 31)) (o ||| 1 <<< (iN t &&& 31)) (iN r + cw t) (e + 1) W) 0 n W) (kGoB rm f g wires cw bars ld hd ish n x z p o (iN e) (iN r) a).1 := by
  unfold kGoB
  by_cases a1 : x = z
  · rw [if_pos (a1.trans h.1.symm), if_pos a1]
    exact kKeep_rel (by omega) hp h
  · rw [if_neg (by rw [h.1]; exact a1), if_neg a1]
    refine jfold_rel (R := fun W (a : (Nat → Int32) × (Nat → Int32)) => kRwF z fr op W a.1) (n := n) ?_ n 0 W a (by omega) h
    intro t W a ht h
    rcases kAcr_in (x := x) hf hg ht with b | ⟨u, hu, b⟩
    · rw [if_pos b, if_pos b]
      exact h
    · obtain ⟨r', hr', hcw⟩ := hc t ht
      have hn1 : ¬ iN u = -1 := iN_n1 (by omega)
      have hcl : (iN u).toNatClampNeg = u := iN_cl (by omega)
      simp only [b, hcl, if_neg hn1]
      rw [h.2.1, h.2.2.1, jbit_bt (j := t) (by omega), jbit_bt (j := u) (by omega), jbt_an, jbt_not (j := u) (by omega), jbt_and (j := u) (by omega)]
      have h1 := hfr u hu
      have h2 := hop t ht a.2
      cases hb : jbt p u with
      | true =>
        simp only [Bool.not_true, Bool.and_false, if_true, Bool.false_eq_true, if_false]
        split <;> exact h
      | false =>
        cases hb2 : jbt fr u with
        | false =>
          have h3 : ¬ ld (iN u) < bars u := fun h => absurd (h1.mpr h) (by rw [hb2]; decide)
          simp only [Bool.false_and, Bool.false_eq_true, if_false, if_true, if_neg h3, mne]
          split <;> exact h
        | true =>
          have h3 := h1.mp hb2
          cases hb3 : jbt op t with
          | false =>
            simp only [Bool.not_false, Bool.and_self, if_true, Bool.false_eq_true, if_false, if_pos h3, mne]
            by_cases g1 : hd (iN t) < wires t
            · have g2 : (ish (iN t) a.2).1 = true := by
                cases g3 : (ish (iN t) a.2).1 with
                | true => rfl
                | false => exact absurd (h2.mpr ⟨g1, by rw [g3]; decide⟩) (by rw [hb3]; decide)
              rw [if_pos g1, if_pos g2]
              exact h
            · rw [if_neg g1]
              exact h
          | true =>
            obtain ⟨g1, g2⟩ := h2.mp hb3
            simp only [Bool.not_false, Bool.and_self, if_true, Bool.false_eq_true, if_false, if_pos h3, mne, if_pos g1, if_neg g2]
            rw [hcw, iN_add, mInc]
            refine hrec _ _ _ (r + r') (e + 1) W (a.1, (ish (iN t) a.2).2) ?_ (by omega) h
            exact ⟨u, by omega, by rw [jbt_or, jbt_one (by omega) (by omega)]; simp⟩
theorem kExp_go (hM6 : M ≤ 6) (hf : ∀ t, t < n → ∃ u, u < M ∧ f t = iN u) (hg : ∀ t, t < n → ∃ u, u < M ∧ g t = iN u) (hn : n ≤ 10) (hc : ∀ t, t < n → ∃ r : Nat, r < 100 ∧ cw t = iN r) (hfr : ∀ u, u < M → (jbt fr u = true ↔ ld (iN u) < bars u)) (hop : ∀ t, t < n → ∀ s, (jbt op t = true ↔ hd (iN t) < wires t ∧ ¬ (ish (iN t) s).1 = true)) :
    ∀ (F : Nat) (x p o : Int32) (r e : Nat) (W : Nat → Int32) (a : (Nat → Int32) × (Nat → Int32)), (∃ u, u < 6 ∧ jbt p u = true) → r + 100 * (F + 1) < 1000 → kRwF z fr op W a.1 → kRwF z fr op (kExp f g cw n (F + 1) x p o (iN r) e W) (kGoM f g wires cw bars ld hd ish n z F x p o (iN e) (iN r) a).1 := by
  intro F
  induction F with
  | zero =>
    intro x p o r e W a hp hr h
    exact kExp_body hM6 hf hg hn hc hfr hop (kExp f g cw n 0) (fun _ _ _ _ _ a => a) 0 (fun _ _ _ _ _ _ _ _ _ h => h) x p o r e W a hp (by omega) h
  | succ F ih =>
    intro x p o r e W a hp hr h
    exact kExp_body hM6 hf hg hn hc hfr hop (kExp f g cw n (F + 1)) (kGoM f g wires cw bars ld hd ish n z F) (F + 1) (fun x p o r e W a hp hr h => ih x p o r e W a hp (by omega) h) x p o r e W a hp (by omega) h
/-- both answer alike -/
theorem kLook_go (hM6 : M ≤ 6) (hf : ∀ t, t < n → ∃ u, u < M ∧ f t = iN u) (hg : ∀ t, t < n → ∃ u, u < M ∧ g t = iN u) (hn : n ≤ 10) (hc : ∀ t, t < n → ∃ r : Nat, r < 100 ∧ cw t = iN r) (hfr : ∀ u, u < M → (jbt fr u = true ↔ ld (iN u) < bars u)) (hop : ∀ t, t < n → ∀ s, (jbt op t = true ↔ hd (iN t) < wires t ∧ ¬ (ish (iN t) s).1 = true)) {u : Nat} (hu : u < M) {W V S : Nat → Int32} (hV : V 15 = -1) :
    kRw (kLook f g cw n (iN u) z fr op W) (if ld (iN u) < bars u then kGoM f g wires cw bars ld hd ish n z 6 (iN u) (1 <<< (iN u &&& 31)) 0 0 0 (V, S) else (V, S)).1 := by
  unfold kLook
  rw [jbit_bt (by omega)]
  have h1 := hfr u hu
  cases hb : jbt fr u with
  | false =>
    have h3 : ¬ ld (iN u) < bars u := fun h => absurd (h1.mpr h) (by rw [hb]; decide)
    simp only [Bool.false_eq_true, if_false, if_true, if_neg h3]
    exact ⟨hV.symm, Or.inl ⟨rfl, rfl⟩⟩
  | true =>
    have h3 := h1.mp hb
    simp only [if_true, mne, if_false, if_pos h3]
    refine (kExp_go hM6 hf hg hn hc hfr hop 6 (iN u) (1 <<< (iN u &&& 31)) 0 0 0 _ (V, S) ⟨u, by omega, by rw [jbt_one (by omega) (by omega)]; simp⟩ (by omega) ⟨rfl, rfl, rfl, ?_⟩).2.2.2
    exact ⟨hV.symm, Or.inl ⟨rfl, rfl⟩⟩
theorem kAcr_congr {f g f' g' : Nat → Int32} {x : Int32} {t : Nat} (h1 : f t = f' t) (h2 : g t = g' t) : kAcr f g x t = kAcr f' g' x t := by
  unfold kAcr
  rw [h1, h2]
theorem kExp_congr {f g c f' g' c' : Nat → Int32} (h : ∀ t, t < n → f t = f' t ∧ g t = g' t ∧ c t = c' t) : ∀ F x p o r e W, kExp f g c n F x p o r e W = kExp f' g' c' n F x p o r e W := by
  intro F
  induction F with
  | zero => intros; rfl
  | succ F ih =>
    intro x p o r e W
    unfold kExp
    split
    · rfl
    · refine jfold_congr (n := n) (fun t W ht => ?_) n 0 W (by omega)
      obtain ⟨h1, h2, h3⟩ := h t ht
      rw [kAcr_congr h1 h2, h3, ih]
theorem kLook_congr {f g c f' g' c' : Nat → Int32} {x : Int32} {W : Nat → Int32} (h : ∀ t, t < n → f t = f' t ∧ g t = g' t ∧ c t = c' t) : kLook f g c n x z fr op W = kLook f' g' c' n x z fr op W := by
  unfold kLook
  split
  · rfl
  · exact kExp_congr h ..
end WAYS
