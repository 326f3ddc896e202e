/-! THE PURE PART: what hangs together, and what a trunk parts. -/
theorem jbt_ext {a b : Int32} (h : ∀ j, j < 32 → jbt a j = jbt b j) : a = b := by
  apply Int32.toBitVec_inj.mp
  exact BitVec.eq_of_getLsbD_eq fun j hj => h j hj
section COMP
variable {f g : Nat → Int32} {m n : Nat} {wo : Int32}
/-- the ends of trunks are switches -/
def kEnds (f g : Nat → Int32) (m n : Nat) : Prop := ∀ t, t < n → ∃ u v, u < m ∧ v < m ∧ f t = iN u ∧ g t = iN v
/-- a set that trunks but one do not lead out of -/
def kCl (f g : Nat → Int32) (n : Nat) (wo : Int32) (C : Nat → Prop) : Prop := ∀ t u v, t < n → ¬ iN t = wo → f t = iN u → g t = iN v → u < 32 → v < 32 → (C u ↔ C v)
theorem kBoth {s : Int32} {u v : Nat} (hu : u < 32) (hv : v < 32) : s &&& (1 <<< (iN u &&& 31) ||| 1 <<< (iN v &&& 31)) = 0 ↔ jbt s u = false ∧ jbt s v = false := by
  constructor
  · intro h
    have h1 := congrArg (fun x => jbt x u) h
    have h2 := congrArg (fun x => jbt x v) h
    simp only [jbt_an, jbt_or, jbt_one hu hu, jbt_one hu hv, jbt_one hv hu, jbt_one hv hv, jbt_zero, decide_true, Bool.true_or, Bool.or_true, Bool.and_true] at h1 h2
    exact ⟨h1, h2⟩
  · rintro ⟨h1, h2⟩
    refine jbt_ext fun j hj => ?_
    rw [jbt_an, jbt_or, jbt_one hu hj, jbt_one hv hj, jbt_zero]
    by_cases e : j = u
    · subst e; rw [h1]; rfl
    · by_cases e2 : j = v
      · subst e2; rw [h2]; rfl
      · rw [decide_eq_false e, decide_eq_false e2]; simp
theorem kHop1_tg (hm : m ≤ 6) (hE : kEnds f g m n) {t : Nat} {s : Int32} (ht : t < n) : kHop1 f g wo t s = kTg1 f g wo t s := by
  obtain ⟨u, v, hu, hv, ef, eg⟩ := hE t ht
  unfold kHop1 kTg1
  by_cases w : iN t = wo
  · rw [if_pos w, if_pos w]
  · rw [if_neg w, if_neg w, ef, eg, jbit_bt (j := u) (by omega), jbit_bt (j := v) (by omega)]
    have h := kBoth (s := s) (u := u) (v := v) (by omega) (by omega)
    cases h1 : jbt s u with
    | true =>
      rw [if_pos rfl, if_neg mne.1, if_neg]
      intro e
      rw [(h.mp e).1] at h1
      exact Bool.noConfusion h1
    | false =>
      cases h2 : jbt s v with
      | true =>
        rw [if_pos (show (if false = true then (1 : Int32) else 0) = 0 from rfl), if_neg (show ¬ (if true = true then (1 : Int32) else 0) = 0 by decide), if_neg]
        intro e
        rw [(h.mp e).2] at h2
        exact Bool.noConfusion h2
      | false =>
        rw [if_pos (show (if false = true then (1 : Int32) else 0) = 0 from rfl), if_pos (show (if false = true then (1 : Int32) else 0) = 0 from rfl), if_pos (h.mpr ⟨h1, h2⟩)]
theorem kTg1_or (hm : m ≤ 6) (hE : kEnds f g m n) {t : Nat} {s : Int32} (ht : t < n) : ∃ u v, u < m ∧ v < m ∧ f t = iN u ∧ g t = iN v ∧ ∀ j, j < 32 → (jbt (kTg1 f g wo t s) j = true ↔ jbt s j = true ∨ (¬ iN t = wo ∧ (jbt s u = true ∨ jbt s v = true) ∧ (j = u ∨ j = v))) := by
  obtain ⟨u, v, hu, hv, ef, eg⟩ := hE t ht
  refine ⟨u, v, hu, hv, ef, eg, fun j hj => ?_⟩
  unfold kTg1
  by_cases w : iN t = wo
  · rw [if_pos w]
    exact ⟨Or.inl, fun h => h.elim id fun h => absurd w h.1⟩
  · rw [if_neg w, ef, eg]
    have h := kBoth (s := s) (u := u) (v := v) (by omega) (by omega)
    by_cases e : s &&& (1 <<< (iN u &&& 31) ||| 1 <<< (iN v &&& 31)) = 0
    · rw [if_pos e]
      obtain ⟨h1, h2⟩ := h.mp e
      constructor
      · exact Or.inl
      · rintro (a | ⟨_, b | b, _⟩)
        · exact a
        · rw [h1] at b; exact Bool.noConfusion b
        · rw [h2] at b; exact Bool.noConfusion b
    · rw [if_neg e, jbt_or, jbt_or, jbt_one (by omega) hj, jbt_one (by omega) hj, Bool.or_eq_true, Bool.or_eq_true, decide_eq_true_iff, decide_eq_true_iff]
      have h3 : jbt s u = true ∨ jbt s v = true := by
        cases h1 : jbt s u with
        | true => exact Or.inl rfl
        | false =>
          cases h2 : jbt s v with
          | true => exact Or.inr rfl
          | false => exact absurd (h.mpr ⟨h1, h2⟩) e
      exact ⟨fun a => a.elim Or.inl fun b => Or.inr ⟨w, h3, b⟩, fun a => a.elim Or.inl fun b => Or.inr b.2.2⟩
theorem kTg_mono (hm : m ≤ 6) (hE : kEnds f g m n) {j : Nat} (hj : j < 32) : ∀ q k s, k + q = n → jbt s j = true → jbt (jfold (fun t s => kTg1 f g wo t s) k q s) j = true
  | 0, _, _, _, h => h
  | q + 1, k, s, e, h => by
    refine kTg_mono hm hE hj q (k + 1) _ (by omega) ?_
    obtain ⟨u, v, _, _, _, _, a⟩ := kTg1_or (wo := wo) (s := s) hm hE (show k < n by omega)
    exact (a j hj).mpr (Or.inl h)
theorem kTg_sub (hm : m ≤ 6) (hE : kEnds f g m n) {C : Nat → Prop} (hC : kCl f g n wo C) : ∀ q k s, k + q = n → (∀ j, j < 32 → jbt s j = true → C j) → ∀ j, j < 32 → jbt (jfold (fun t s => kTg1 f g wo t s) k q s) j = true → C j
  | 0, _, _, _, h => h
  | q + 1, k, s, e, h => by
    refine kTg_sub hm hE hC q (k + 1) _ (by omega) ?_
    intro j hj hb
    obtain ⟨u, v, hu, hv, ef, eg, a⟩ := kTg1_or (wo := wo) (s := s) hm hE (show k < n by omega)
    rcases (a j hj).mp hb with b | ⟨w, b, c⟩
    · exact h j hj b
    · have hi := hC k u v (by omega) w ef eg (by omega) (by omega)
      have hc : C u ∧ C v := by
        rcases b with b | b
        · have := h u (by omega) b; exact ⟨this, hi.mp this⟩
        · have := h v (by omega) b; exact ⟨hi.mpr this, this⟩
      rcases c with c | c
      · rw [c]; exact hc.1
      · rw [c]; exact hc.2
theorem kTg_add (hm : m ≤ 6) (hE : kEnds f g m n) {t u v : Nat} (ht : t < n) (hw : ¬ iN t = wo) (ef : f t = iN u) (eg : g t = iN v) (hu : u < 32) (hv : v < 32) : ∀ q k s, k + q = n → k ≤ t → (jbt s u = true ∨ jbt s v = true) → jbt (jfold (fun t s => kTg1 f g wo t s) k q s) u = true ∧ jbt (jfold (fun t s => kTg1 f g wo t s) k q s) v = true
  | 0, k, _, e, h, _ => absurd h (by omega)
  | q + 1, k, s, e, h, hb => by
    show jbt (jfold (fun t s => kTg1 f g wo t s) (k + 1) q (kTg1 f g wo k s)) u = true ∧ jbt (jfold (fun t s => kTg1 f g wo t s) (k + 1) q (kTg1 f g wo k s)) v = true
    obtain ⟨u', v', hu', hv', ef', eg', a⟩ := kTg1_or (wo := wo) (s := s) hm hE (show k < n by omega)
    by_cases e2 : k = t
    · subst e2
      have e3 : u' = u := (iN_eq (by omega) (by omega)).mp (ef'.symm.trans ef)
      have e4 : v' = v := (iN_eq (by omega) (by omega)).mp (eg'.symm.trans eg)
      subst e3 e4
      exact ⟨kTg_mono hm hE hu q (k + 1) _ (by omega) ((a u' hu).mpr (Or.inr ⟨hw, hb, Or.inl rfl⟩)), kTg_mono hm hE hv q (k + 1) _ (by omega) ((a v' hv).mpr (Or.inr ⟨hw, hb, Or.inr rfl⟩))⟩
    · exact kTg_add hm hE ht hw ef eg hu hv q (k + 1) _ (by omega) (by omega) (hb.elim (fun h => Or.inl ((a u hu).mpr (Or.inl h))) fun h => Or.inr ((a v hv).mpr (Or.inl h)))
/-- a round that adds nothing, or a member more -/
theorem kTg_fix (hm : m ≤ 6) (hE : kEnds f g m n) {s : Int32} (hC : kCl f g n wo (fun j => jbt s j = true)) : kTg f g wo n s = s := by
  refine jbt_ext fun j hj => ?_
  have h1 := kTg_mono (wo := wo) hm hE hj n 0 s (by omega)
  have h2 := kTg_sub hm hE hC n 0 s (by omega) (fun _ _ h => h) j hj
  unfold kTg
  cases h : jbt s j with
  | true => exact h1 h
  | false =>
    cases h3 : jbt (jfold (fun t s => kTg1 f g wo t s) 0 n s) j with
    | false => rfl
    | true =>
      have h4 : jbt s j = true := h2 h3
      rw [h] at h4
      exact h4.symm
theorem kTg_more (hm : m ≤ 6) (hE : kEnds f g m n) (s : Int32) : kCl f g n wo (fun j => jbt s j = true) ∨ ∃ j, j < m ∧ jbt s j = false ∧ jbt (kTg f g wo n s) j = true := by
  by_cases hx : ∃ j, j < m ∧ jbt s j = false ∧ jbt (kTg f g wo n s) j = true
  · exact Or.inr hx
  · refine Or.inl ?_
    intro t u v ht hw ef eg hu hv
    obtain ⟨u', v', hu', hv', ef', eg'⟩ := hE t ht
    have e3 : u' = u := (iN_eq (by omega) (by omega)).mp (ef'.symm.trans ef)
    have e4 : v' = v := (iN_eq (by omega) (by omega)).mp (eg'.symm.trans eg)
    subst e3 e4
    have h := kTg_add hm hE ht hw ef eg hu hv n 0 s (by omega) (by omega)
    show jbt s u' = true ↔ jbt s v' = true
    constructor
    · intro hb
      cases h2 : jbt s v' with
      | true => rfl
      | false => exact absurd ⟨v', hv', h2, (h (Or.inl hb)).2⟩ hx
    · intro hb
      cases h2 : jbt s u' with
      | true => rfl
      | false => exact absurd ⟨u', hu', h2, (h (Or.inr hb)).1⟩ hx
def kRnd (f g : Nat → Int32) (wo : Int32) (n k : Nat) (s : Int32) : Int32 := jfold (fun _ s => kTg f g wo n s) 0 k s
theorem kRnd_s {k : Nat} {s : Int32} : kRnd f g wo n (k + 1) s = kTg f g wo n (kRnd f g wo n k s) := by
  unfold kRnd
  rw [jfold_snoc]
theorem kRnd_c (hm : m ≤ 6) (hE : kEnds f g m n) {s : Int32} {x : Nat} (hx : x < m) (hs : jbt s x = true) : ∀ k, kCl f g n wo (fun j => jbt (kRnd f g wo n k s) j = true) ∨ k + 1 ≤ kS (fun j => if jbt (kRnd f g wo n k s) j then 1 else 0) m
  | 0 => by
    refine Or.inr ?_
    have h : kS (fun j => if j = x then 1 else 0) m ≤ kS (fun j => if jbt (kRnd f g wo n 0 s) j then 1 else 0) m := by
      refine kS_mono m fun j _ => ?_
      by_cases e : j = x
      · subst e
        rw [if_pos rfl, show jbt (kRnd f g wo n 0 s) j = true from hs]
        exact Nat.le_refl _
      · rw [if_neg e]
        exact Nat.zero_le _
    rw [kS_one, if_pos hx] at h
    exact h
  | k + 1 => by
    rcases kRnd_c hm hE hx hs k with h | h
    · refine Or.inl ?_
      rw [kRnd_s, kTg_fix hm hE h]
      exact h
    · rcases kTg_more (wo := wo) hm hE (kRnd f g wo n k s) with h2 | ⟨j, hj, h2, h3⟩
      · refine Or.inl ?_
        rw [kRnd_s, kTg_fix hm hE h2]
        exact h2
      · refine Or.inr ?_
        have h4 : kS (fun i => (if jbt (kRnd f g wo n k s) i then 1 else 0) + (if i = j then 1 else 0)) m ≤ kS (fun i => if jbt (kRnd f g wo n (k + 1) s) i then 1 else 0) m := by
          refine kS_mono m fun i hi => ?_
          rw [kRnd_s]
          by_cases e : i = j
          · subst e
            rw [h2, h3, if_pos (rfl : i = i)]
            decide
          · rw [if_neg e]
            cases h5 : jbt (kRnd f g wo n k s) i with
            | false => exact Nat.zero_le _
            | true =>
              have h6 : jbt (kTg f g wo n (kRnd f g wo n k s)) i = true := kTg_mono hm hE (by omega) n 0 _ (by omega) h5
              rw [h6]
              exact Nat.le_refl _
        rw [kS_add, kS_one, if_pos hj] at h4
        omega
theorem kS_all {p : Nat → Bool} : ∀ m, m ≤ kS (fun j => if p j then 1 else 0) m → ∀ j, j < m → p j = true
  | 0, _, j, hj => absurd hj (by omega)
  | m + 1, h, j, hj => by
    have h1 : kS (fun j => if p j then 1 else 0) (m + 1) = kS (fun j => if p j then 1 else 0) m + (if p m then 1 else 0) := rfl
    have h2 : kS (fun j => if p j then 1 else 0) m ≤ m := kS_le m fun k _ => by split <;> omega
    cases e : p m with
    | false =>
      rw [h1, e] at h
      simp at h
      omega
    | true =>
      by_cases ej : j = m
      · rw [ej]; exact e
      · rw [h1, e] at h
        simp at h
        exact kS_all m (by omega) j (by omega)
theorem kRnd_f (hm : m ≤ 6) (hE : kEnds f g m n) {s : Int32} {x : Nat} (hx : x < m) (hs : jbt s x = true) : kCl f g n wo (fun j => jbt (kRnd f g wo n (m - 1) s) j = true) := by
  rcases kRnd_c (wo := wo) hm hE hx hs (m - 1) with h | h
  · exact h
  · have h2 := kS_all m (by omega : m ≤ kS (fun j => if jbt (kRnd f g wo n (m - 1) s) j then 1 else 0) m)
    intro t u v ht hw ef eg hu hv
    obtain ⟨u', v', hu', hv', ef', eg'⟩ := hE t ht
    have e3 : u' = u := (iN_eq (by omega) (by omega)).mp (ef'.symm.trans ef)
    have e4 : v' = v := (iN_eq (by omega) (by omega)).mp (eg'.symm.trans eg)
    subst e3 e4
    exact ⟨fun _ => h2 v' hv', fun _ => h2 u' hu'⟩
theorem kTog_rch (hm : m ≤ 6) (hE : kEnds f g m n) {x : Nat} (hx : x < m) : kTog f g wo m n (iN x) = kRch f g wo m n (iN x) := by
  have hs : jbt (1 <<< (iN x &&& 31)) x = true := by rw [jbt_one (by omega) (by omega)]; simp
  have h1 : kRch f g wo m n (iN x) = kRnd f g wo n (m - 1) (1 <<< (iN x &&& 31)) := by
    unfold kRch kRnd
    have h2 : (fun (_ : Nat) s => kHop f g wo n s) = fun (_ : Nat) s => kTg f g wo n s := by
      funext _ s
      unfold kHop kTg
      exact jfold_congr (fun k a hk => kHop1_tg hm hE hk) n 0 s (by omega)
    rw [h2]
    exact jfold_shift (m - 1) 1 0 _
  have h3 : kTog f g wo m n (iN x) = kRnd f g wo n (m - 1 + 1) (1 <<< (iN x &&& 31)) := by
    rw [show m - 1 + 1 = m by omega]
    rfl
  rw [h1, h3, kRnd_s, kTg_fix hm hE (kRnd_f hm hE hx hs)]
/-- what hangs together with x -/
theorem kTog_p (hm : m ≤ 6) (hE : kEnds f g m n) {x : Nat} (hx : x < m) : jbt (kTog f g wo m n (iN x)) x = true ∧ kCl f g n wo (fun j => jbt (kTog f g wo m n (iN x)) j = true) ∧ ∀ C, kCl f g n wo C → C x → ∀ j, j < 32 → jbt (kTog f g wo m n (iN x)) j = true → C j := by
  have hs : jbt (1 <<< (iN x &&& 31)) x = true := by rw [jbt_one (by omega) (by omega)]; simp
  have h3 : kTog f g wo m n (iN x) = kRnd f g wo n (m - 1 + 1) (1 <<< (iN x &&& 31)) := by
    rw [show m - 1 + 1 = m by omega]
    rfl
  have hf := kRnd_f (wo := wo) hm hE hx hs
  have h4 : kTog f g wo m n (iN x) = kRnd f g wo n (m - 1) (1 <<< (iN x &&& 31)) := by rw [h3, kRnd_s, kTg_fix hm hE hf]
  rw [h4]
  refine ⟨?_, hf, ?_⟩
  · have : ∀ k, jbt (kRnd f g wo n k (1 <<< (iN x &&& 31))) x = true := by
      intro k
      induction k with
      | zero => exact hs
      | succ k ih =>
        rw [kRnd_s]
        exact kTg_mono hm hE (by omega) n 0 _ (by omega) ih
    exact this _
  · intro C hC hx' j hj
    have : ∀ k, ∀ j, j < 32 → jbt (kRnd f g wo n k (1 <<< (iN x &&& 31))) j = true → C j := by
      intro k
      induction k with
      | zero =>
        intro j hj h
        have h' : jbt (1 <<< (iN x &&& 31)) j = true := h
        rw [jbt_one (by omega) hj] at h'
        rw [of_decide_eq_true h']
        exact hx'
      | succ k ih =>
        rw [kRnd_s]
        exact kTg_sub hm hE hC n 0 _ (by omega) ih
    exact this _ j hj
theorem kTog_sym (hm : m ≤ 6) (hE : kEnds f g m n) {x y : Nat} (hx : x < m) (hy : y < m) (h : jbt (kTog f g wo m n (iN x)) y = true) : jbt (kTog f g wo m n (iN y)) x = true := by
  obtain ⟨a1, a2, a3⟩ := kTog_p (wo := wo) hm hE hx
  obtain ⟨b1, b2, b3⟩ := kTog_p (wo := wo) hm hE hy
  cases e : jbt (kTog f g wo m n (iN y)) x with
  | true => rfl
  | false =>
    refine absurd b1 (a3 (fun j => ¬ jbt (kTog f g wo m n (iN y)) j = true) ?_ (by rw [e]; decide) y (by omega) h)
    intro t u v ht hw ef eg hu hv
    exact not_congr (b2 t u v ht hw ef eg hu hv)
theorem kTog_tr (hm : m ≤ 6) (hE : kEnds f g m n) {x y z : Nat} (hx : x < m) (hy : y < m) (hz : z < m) (h : jbt (kTog f g wo m n (iN x)) y = true) (h2 : jbt (kTog f g wo m n (iN y)) z = true) : jbt (kTog f g wo m n (iN x)) z = true :=
  (kTog_p hm hE hy).2.2 _ (kTog_p hm hE hx).2.1 h z (by omega) h2
end COMP
/-! THE PURE PART: pairs parted. -/
theorem kS_mul_l {c : Nat} {p : Nat → Nat} : ∀ n, kS (fun a => p a * c) n = kS p n * c
  | 0 => by show 0 = 0 * c; rw [Nat.zero_mul]
  | n + 1 => by
    show kS (fun a => p a * c) n + p n * c = (kS p n + p n) * c
    rw [kS_mul_l n, Nat.add_mul]
/-- pairs with one on each side -/
theorem kS_pairs {p q : Nat → Nat} : ∀ n, (∀ k, k < n → p k * q k = 0) → kS (fun b => kS (fun a => p a * q b + q a * p b) b) n = kS p n * kS q n
  | 0, _ => rfl
  | n + 1, h => by
    show kS (fun b => kS (fun a => p a * q b + q a * p b) b) n + kS (fun a => p a * q n + q a * p n) n = (kS p n + p n) * (kS q n + q n)
    rw [kS_pairs n fun k hk => h k (by omega), kS_add, kS_mul_l, kS_mul_l, Nat.add_mul, Nat.mul_add, Nat.mul_add, h n (by omega), Nat.mul_comm (kS q n) (p n)]
    omega
section PARTS
variable {f g h : Nat → Int32} {m n l : Nat} {t : Nat}
/-- as one of a set -/
def kB (s : Int32) (u : Nat) : Nat := if jbt s u then 1 else 0
theorem kB_le {s : Int32} {u : Nat} : kB s u ≤ 1 := by unfold kB; split <;> omega
theorem kB_i {s : Int32} {u : Nat} (hu : u < 32) : (s >>> (iN u &&& 31)) &&& 1 = iN (kB s u) := by
  rw [jbt_and hu]
  unfold kB
  cases jbt s u <;> rfl
theorem kB_j {s : Int32} {u : Nat} (hu : u < 32) : jbit s (iN u) = iN (kB s u) := by
  rw [jbit_bt hu]
  unfold kB
  cases jbt s u <;> rfl
theorem kB_1 {s : Int32} {u : Nat} (e : jbt s u = true) : kB s u = 1 := by unfold kB; rw [e]; rfl
theorem kB_0 {s : Int32} {u : Nat} (e : jbt s u = false) : kB s u = 0 := by unfold kB; rw [e]; rfl
theorem iN_neg1 {t : Nat} (h : t < 2 ^ 31) : ¬ iN t = -1 := fun e => absurd (congrArg Int32.toInt e) (by rw [Int32.toInt_ofNat_of_lt h]; show ¬ _ = (-1 : Int); omega)
/-- the sets with and without a trunk -/
theorem kTog_all (hm : m ≤ 6) (hE : kEnds f g m n) (hn : n ≤ 10) (ht : t < n) {u v x y : Nat} (hu : u < m) (hv : v < m) (ef : f t = iN u) (eg : g t = iN v) (hx : x < m) (hy : y < m) : kB (kTog f g (-1) m n (iN x)) y = kB (kTog f g (iN t) m n (iN x)) y + (if jbt (kTog f g (iN t) m n (iN u)) v then 0 else kB (kTog f g (iN t) m n (iN u)) y * kB (kTog f g (iN t) m n (iN v)) x + kB (kTog f g (iN t) m n (iN v)) y * kB (kTog f g (iN t) m n (iN u)) x) := by
  obtain ⟨a1, a2, a3⟩ := kTog_p (wo := -1) hm hE hx
  obtain ⟨b1, b2, b3⟩ := kTog_p (wo := iN t) hm hE hx
  obtain ⟨c1, c2, c3⟩ := kTog_p (wo := iN t) hm hE hu
  obtain ⟨d1, d2, d3⟩ := kTog_p (wo := iN t) hm hE hv
  have weak : ∀ C, kCl f g n (-1) C → kCl f g n (iN t) C := fun C hC t' u' v' ht' _ e1 e2 h1 h2 => hC t' u' v' ht' (iN_neg1 (by omega)) e1 e2 h1 h2
  have strong : ∀ C : Nat → Prop, kCl f g n (iN t) C → (C u ↔ C v) → kCl f g n (-1) C := by
    intro C hC huv t' u' v' ht' _ e1 e2 h1 h2
    by_cases e : t' = t
    · subst e
      have q1 : u' = u := (iN_eq (by omega) (by omega)).mp (e1.symm.trans ef)
      have q2 : v' = v := (iN_eq (by omega) (by omega)).mp (e2.symm.trans eg)
      rw [q1, q2]
      exact huv
    · exact hC t' u' v' ht' (fun h => e ((iN_eq (by omega) (by omega)).mp h)) e1 e2 h1 h2
  have sub : jbt (kTog f g (iN t) m n (iN x)) y = true → jbt (kTog f g (-1) m n (iN x)) y = true := fun h => b3 _ (weak _ a2) a1 y (by omega) h
  -- whether the ends are in the set of x
  have sy : ∀ z, z < m → (jbt (kTog f g (iN t) m n (iN x)) z = true ↔ jbt (kTog f g (iN t) m n (iN z)) x = true) := fun z hz => ⟨kTog_sym hm hE hx hz, kTog_sym hm hE hz hx⟩
  by_cases hp : jbt (kTog f g (iN t) m n (iN u)) v = true
  · rw [if_pos hp, Nat.add_zero]
    have huv : jbt (kTog f g (iN t) m n (iN x)) u = true ↔ jbt (kTog f g (iN t) m n (iN x)) v = true := ⟨fun e => kTog_tr hm hE hx hu hv e hp, fun e => kTog_tr hm hE hx hv hu e (kTog_sym hm hE hu hv hp)⟩
    have h2 := a3 _ (strong _ b2 huv) b1 y (by omega)
    unfold kB
    cases e1 : jbt (kTog f g (iN t) m n (iN x)) y with
    | true => rw [sub e1]
    | false =>
      cases e2 : jbt (kTog f g (-1) m n (iN x)) y with
      | false => rfl
      | true =>
        have := h2 e2
        rw [e1] at this
        exact Bool.noConfusion this
  · rw [if_neg hp]
    have nuv : ¬ jbt (kTog f g (iN t) m n (iN v)) u = true := fun e => hp (kTog_sym hm hE hv hu e)
    -- all = the union
    have uni : kCl f g n (iN t) (fun j => jbt (kTog f g (iN t) m n (iN u)) j = true ∨ jbt (kTog f g (iN t) m n (iN v)) j = true) := fun t' u' v' h1 h2 e1 e2 q1 q2 => or_congr (c2 t' u' v' h1 h2 e1 e2 q1 q2) (d2 t' u' v' h1 h2 e1 e2 q1 q2)
    have uni2 := strong _ uni ⟨fun _ => Or.inr d1, fun _ => Or.inl c1⟩
    have endv : jbt (kTog f g (-1) m n (iN x)) u = true ↔ jbt (kTog f g (-1) m n (iN x)) v = true := a2 t u v ht (iN_neg1 (by omega)) ef eg (by omega) (by omega)
    by_cases xu : jbt (kTog f g (iN t) m n (iN u)) x = true
    · have xv : jbt (kTog f g (iN t) m n (iN v)) x = false := by
        cases e : jbt (kTog f g (iN t) m n (iN v)) x with
        | false => rfl
        | true => exact absurd (kTog_tr hm hE hu hx hv xu (kTog_sym hm hE hv hx e)) hp
      rw [kB_1 xu, kB_0 xv, Nat.mul_zero, Nat.mul_one, Nat.zero_add]
      have same : ∀ z, z < m → (jbt (kTog f g (iN t) m n (iN x)) z = true ↔ jbt (kTog f g (iN t) m n (iN u)) z = true) := fun z hz => ⟨fun e => kTog_tr hm hE hu hx hz xu e, fun e => kTog_tr hm hE hx hu hz (kTog_sym hm hE hu hx xu) e⟩
      have allu : jbt (kTog f g (-1) m n (iN x)) u = true := b3 _ (weak _ a2) a1 u (by omega) ((same u hu).mpr c1)
      have allv := endv.mp allu
      have h3 : jbt (kTog f g (-1) m n (iN x)) y = true ↔ jbt (kTog f g (iN t) m n (iN u)) y = true ∨ jbt (kTog f g (iN t) m n (iN v)) y = true :=
        ⟨fun e => a3 _ uni2 (Or.inl xu) y (by omega) e, fun e => e.elim (fun e => sub ((same y hy).mpr e)) fun e => d3 _ (weak _ a2) allv y (by omega) e⟩
      cases e1 : jbt (kTog f g (iN t) m n (iN u)) y with
      | true =>
        have e3 : jbt (kTog f g (iN t) m n (iN v)) y = false := by
          cases e : jbt (kTog f g (iN t) m n (iN v)) y with
          | false => rfl
          | true => exact absurd (kTog_tr hm hE hu hy hv e1 (kTog_sym hm hE hv hy e)) hp
        rw [kB_1 (h3.mpr (Or.inl e1)), kB_1 ((same y hy).mpr e1), kB_0 e3]
      | false =>
        have e4 : jbt (kTog f g (iN t) m n (iN x)) y = false := by
          cases e : jbt (kTog f g (iN t) m n (iN x)) y with
          | false => rfl
          | true => rw [(same y hy).mp e] at e1; exact Bool.noConfusion e1
        rw [kB_0 e4, Nat.zero_add]
        cases e5 : jbt (kTog f g (iN t) m n (iN v)) y with
        | true => rw [kB_1 (h3.mpr (Or.inr e5)), kB_1 e5]
        | false =>
          rw [kB_0 e5]
          refine kB_0 ?_
          cases e : jbt (kTog f g (-1) m n (iN x)) y with
          | false => rfl
          | true =>
            rcases h3.mp e with e6 | e6
            · rw [e1] at e6; exact Bool.noConfusion e6
            · rw [e5] at e6; exact Bool.noConfusion e6
    · have xu0 : jbt (kTog f g (iN t) m n (iN u)) x = false := by simpa using xu
      by_cases xv : jbt (kTog f g (iN t) m n (iN v)) x = true
      · rw [kB_0 xu0, kB_1 xv, Nat.mul_zero, Nat.mul_one, Nat.add_zero]
        have same : ∀ z, z < m → (jbt (kTog f g (iN t) m n (iN x)) z = true ↔ jbt (kTog f g (iN t) m n (iN v)) z = true) := fun z hz => ⟨fun e => kTog_tr hm hE hv hx hz xv e, fun e => kTog_tr hm hE hx hv hz (kTog_sym hm hE hv hx xv) e⟩
        have allv : jbt (kTog f g (-1) m n (iN x)) v = true := b3 _ (weak _ a2) a1 v (by omega) ((same v hv).mpr d1)
        have allu := endv.mpr allv
        have h3 : jbt (kTog f g (-1) m n (iN x)) y = true ↔ jbt (kTog f g (iN t) m n (iN u)) y = true ∨ jbt (kTog f g (iN t) m n (iN v)) y = true :=
          ⟨fun e => a3 _ uni2 (Or.inr xv) y (by omega) e, fun e => e.elim (fun e => c3 _ (weak _ a2) allu y (by omega) e) fun e => sub ((same y hy).mpr e)⟩
        cases e1 : jbt (kTog f g (iN t) m n (iN v)) y with
        | true =>
          have e3 : jbt (kTog f g (iN t) m n (iN u)) y = false := by
            cases e : jbt (kTog f g (iN t) m n (iN u)) y with
            | false => rfl
            | true => exact absurd (kTog_tr hm hE hu hy hv e (kTog_sym hm hE hv hy e1)) hp
          rw [kB_1 (h3.mpr (Or.inr e1)), kB_1 ((same y hy).mpr e1), kB_0 e3]
        | false =>
          have e4 : jbt (kTog f g (iN t) m n (iN x)) y = false := by
            cases e : jbt (kTog f g (iN t) m n (iN x)) y with
            | false => rfl
            | true => rw [(same y hy).mp e] at e1; exact Bool.noConfusion e1
          rw [kB_0 e4, Nat.zero_add]
          cases e5 : jbt (kTog f g (iN t) m n (iN u)) y with
          | true => rw [kB_1 (h3.mpr (Or.inl e5)), kB_1 e5]
          | false =>
            rw [kB_0 e5]
            refine kB_0 ?_
            cases e : jbt (kTog f g (-1) m n (iN x)) y with
            | false => rfl
            | true =>
              rcases h3.mp e with e6 | e6
              · rw [e5] at e6; exact Bool.noConfusion e6
              · rw [e1] at e6; exact Bool.noConfusion e6
      · have xv0 : jbt (kTog f g (iN t) m n (iN v)) x = false := by simpa using xv
        rw [kB_0 xu0, kB_0 xv0, Nat.mul_zero, Nat.mul_zero, Nat.add_zero]
        have huv : jbt (kTog f g (iN t) m n (iN x)) u = true ↔ jbt (kTog f g (iN t) m n (iN x)) v = true := ⟨fun e => absurd ((sy u hu).mp e) xu, fun e => absurd ((sy v hv).mp e) xv⟩
        have h2 := a3 _ (strong _ b2 huv) b1 y (by omega)
        unfold kB
        cases e1 : jbt (kTog f g (iN t) m n (iN x)) y with
        | true => rw [sub e1]
        | false =>
          cases e2 : jbt (kTog f g (-1) m n (iN x)) y with
          | false => rfl
          | true =>
            have := h2 e2
            rw [e1] at this
            exact Bool.noConfusion this
theorem jfold_sum {φ : Nat → Int32} {c : Nat → Nat} {n : Nat} (h : ∀ a, a < n → φ a = iN (c a)) : ∀ q k s, k + q = n → jfold (fun a s => s + φ a) k q (iN s) = iN (s + (kS c n - kS c k))
  | 0, k, s, e => by
    subst e
    rw [Nat.add_zero, Nat.sub_self, Nat.add_zero]
    rfl
  | q + 1, k, s, e => by
    show jfold (fun a s => s + φ a) (k + 1) q (iN s + φ k) = _
    rw [h k (by omega), iN_add, jfold_sum h q (k + 1) _ (by omega)]
    have h1 : kS c (k + 1) = kS c k + c k := rfl
    have h2 : kS c (k + 1) ≤ kS c n := by
      have : ∀ d, kS c (k + 1) ≤ kS c (k + 1 + d) := by
        intro d
        induction d with
        | zero => exact Nat.le_refl _
        | succ d ih => exact Nat.le_trans ih (Nat.le_add_right _ _)
      rw [show n = k + 1 + (n - (k + 1)) by omega]
      exact this _
    congr 1
    omega
theorem kS_mulle {p q : Nat → Nat} {n a b : Nat} (h1 : kS p n ≤ a) (h2 : kS q n ≤ b) : kS p n * kS q n ≤ a * b := Nat.mul_le_mul h1 h2
/-- pairs that a trunk parts: class and reference -/
theorem kPts_part (hm : m ≤ 6) (hE : kEnds f g m n) (hn : n ≤ 10) (ht : t < n) (hl : l ≤ 10) (hh : ∀ k, k < l → ∃ u, u < m ∧ h k = iN u) :
    kPts f g h (iN t) m n l = if jbit (kRch f g (iN t) m n (f t)) (g t) = 0 then rsum (fun k => jbit (kRch f g (iN t) m n (f t)) (h k)) l * rsum (fun k => jbit (kRch f g (iN t) m n (g t)) (h k)) l else 0 := by
  obtain ⟨u, v, hu, hv, ef, eg⟩ := hE t ht
  rw [ef, eg, ← kTog_rch hm hE hu, ← kTog_rch hm hE hv, jbit_bt (j := v) (by omega)]
  have H : ∀ k, k < l → ∃ a, a < m ∧ h k = iN a ∧ (h k).toNatClampNeg = a := by
    intro k hk
    obtain ⟨a, a1, a2⟩ := hh k hk
    exact ⟨a, a1, a2, by rw [a2, iN_cl (by omega)]⟩
  have e1 : kPts f g h (iN t) m n l = iN (kS (fun b => kS (fun a => if jbt (kTog f g (iN t) m n (iN u)) v then 0 else kB (kTog f g (iN t) m n (iN u)) (h a).toNatClampNeg * kB (kTog f g (iN t) m n (iN v)) (h b).toNatClampNeg + kB (kTog f g (iN t) m n (iN v)) (h a).toNatClampNeg * kB (kTog f g (iN t) m n (iN u)) (h b).toNatClampNeg) b) l) := by
    unfold kPts
    have h1 : ∀ q k s, k + q = l → jfold (fun b s => kPt1 h (kTog f g (-1) m n (h b)) (kTog f g (iN t) m n (h b)) b s) k q s = jfold (fun b s => s + iN (kS (fun a => if jbt (kTog f g (iN t) m n (iN u)) v then 0 else kB (kTog f g (iN t) m n (iN u)) (h a).toNatClampNeg * kB (kTog f g (iN t) m n (iN v)) (h b).toNatClampNeg + kB (kTog f g (iN t) m n (iN v)) (h a).toNatClampNeg * kB (kTog f g (iN t) m n (iN u)) (h b).toNatClampNeg) b)) k q s := by
      refine jfold_congr (n := l) fun b s hb => ?_
      obtain ⟨y, hy, hy1, hy2⟩ := H b hb
      unfold kPt1
      have h2 : ∀ a, a < b → (kTog f g (-1) m n (h b) >>> (h a &&& 31) &&& 1) - (kTog f g (iN t) m n (h b) >>> (h a &&& 31) &&& 1) = iN (if jbt (kTog f g (iN t) m n (iN u)) v then 0 else kB (kTog f g (iN t) m n (iN u)) (h a).toNatClampNeg * kB (kTog f g (iN t) m n (iN v)) (h b).toNatClampNeg + kB (kTog f g (iN t) m n (iN v)) (h a).toNatClampNeg * kB (kTog f g (iN t) m n (iN u)) (h b).toNatClampNeg) := by
        intro a ha
        obtain ⟨z, hz, hz1, hz2⟩ := H a (by omega)
        rw [hz2, hy2, hy1, hz1, kB_i (by omega), kB_i (by omega), kTog_all hm hE hn ht hu hv ef eg hy hz, ← iN_add, Int32.add_comm, Int32.add_sub_cancel]
      have h3 : ∀ q k s, k + q = b → jfold (fun a s => s + ((kTog f g (-1) m n (h b) >>> (h a &&& 31) &&& 1) - (kTog f g (iN t) m n (h b) >>> (h a &&& 31) &&& 1))) k q s = jfold (fun a s => s + iN (if jbt (kTog f g (iN t) m n (iN u)) v then 0 else kB (kTog f g (iN t) m n (iN u)) (h a).toNatClampNeg * kB (kTog f g (iN t) m n (iN v)) (h b).toNatClampNeg + kB (kTog f g (iN t) m n (iN v)) (h a).toNatClampNeg * kB (kTog f g (iN t) m n (iN u)) (h b).toNatClampNeg)) k q s :=
        jfold_congr (n := b) fun a s ha => by rw [h2 a ha]
      rw [h3 b 0 s (by omega)]
      have h4 : ∀ q k s, jfold (fun a s => s + iN (if jbt (kTog f g (iN t) m n (iN u)) v then 0 else kB (kTog f g (iN t) m n (iN u)) (h a).toNatClampNeg * kB (kTog f g (iN t) m n (iN v)) (h b).toNatClampNeg + kB (kTog f g (iN t) m n (iN v)) (h a).toNatClampNeg * kB (kTog f g (iN t) m n (iN u)) (h b).toNatClampNeg)) k q s = s + jfold (fun a s => s + iN (if jbt (kTog f g (iN t) m n (iN u)) v then 0 else kB (kTog f g (iN t) m n (iN u)) (h a).toNatClampNeg * kB (kTog f g (iN t) m n (iN v)) (h b).toNatClampNeg + kB (kTog f g (iN t) m n (iN v)) (h a).toNatClampNeg * kB (kTog f g (iN t) m n (iN u)) (h b).toNatClampNeg)) k q 0 := by
        intro q
        induction q with
        | zero => intro k s; exact (Int32.add_zero s).symm
        | succ q ih =>
          intro k s
          show jfold _ (k + 1) q _ = s + jfold _ (k + 1) q _
          rw [ih (k + 1) (s + _), ih (k + 1) (0 + _), Int32.zero_add, Int32.add_assoc]
      rw [h4, show (0 : Int32) = iN 0 from rfl, jfold_sum (n := b) (fun a _ => rfl) b 0 0 (by omega), Nat.zero_add]
      rfl
    rw [h1 l 0 0 (by omega), show (0 : Int32) = iN 0 from rfl, jfold_sum (n := l) (fun a _ => rfl) l 0 0 (by omega), Nat.zero_add]
    rfl
  rw [e1]
  have lin : ∀ x, x < m → rsum (fun k => jbit (kTog f g (iN t) m n (iN x)) (h k)) l = iN (kS (fun k => kB (kTog f g (iN t) m n (iN x)) (h k).toNatClampNeg) l) := by
    intro x hx
    rw [← rsum_kS]
    refine rsum_congr l fun k hk => ?_
    obtain ⟨z, hz, hz1, hz2⟩ := H k hk
    rw [hz2, hz1, kB_j (by omega)]
  by_cases hp : jbt (kTog f g (iN t) m n (iN u)) v = true
  · rw [hp, if_neg (show ¬ (if true = true then (1 : Int32) else 0) = 0 by decide)]
    have h0 : ∀ l, kS (fun b => kS (fun a => if true = true then 0 else kB (kTog f g (iN t) m n (iN u)) (h a).toNatClampNeg * kB (kTog f g (iN t) m n (iN v)) (h b).toNatClampNeg + kB (kTog f g (iN t) m n (iN v)) (h a).toNatClampNeg * kB (kTog f g (iN t) m n (iN u)) (h b).toNatClampNeg) b) l = 0 := by
      intro l
      simp only [if_true, kS_zero]
    rw [h0]
    rfl
  · have hp0 : jbt (kTog f g (iN t) m n (iN u)) v = false := by simpa using hp
    rw [hp0, if_pos (show (if false = true then (1 : Int32) else 0) = 0 from rfl), lin u hu, lin v hv]
    have h1 : kS (fun b => kS (fun a => if false = true then 0 else kB (kTog f g (iN t) m n (iN u)) (h a).toNatClampNeg * kB (kTog f g (iN t) m n (iN v)) (h b).toNatClampNeg + kB (kTog f g (iN t) m n (iN v)) (h a).toNatClampNeg * kB (kTog f g (iN t) m n (iN u)) (h b).toNatClampNeg) b) l = kS (fun k => kB (kTog f g (iN t) m n (iN u)) (h k).toNatClampNeg) l * kS (fun k => kB (kTog f g (iN t) m n (iN v)) (h k).toNatClampNeg) l := by
      simp only [Bool.false_eq_true, if_false]
      refine kS_pairs l fun k hk => ?_
      obtain ⟨z, hz, hz1, hz2⟩ := H k hk
      rw [hz2]
      by_cases e1 : jbt (kTog f g (iN t) m n (iN u)) z = true
      · have e3 : jbt (kTog f g (iN t) m n (iN v)) z = false := by
          cases e : jbt (kTog f g (iN t) m n (iN v)) z with
          | false => rfl
          | true => exact absurd (kTog_tr hm hE hu hz hv e1 (kTog_sym hm hE hv hz e)) hp
        rw [kB_0 e3, Nat.mul_zero]
      · have e2 : jbt (kTog f g (iN t) m n (iN u)) z = false := by simpa using e1
        rw [kB_0 e2, Nat.zero_mul]
    rw [h1]
    exact Int32.ofNat_mul _ _
end PARTS
