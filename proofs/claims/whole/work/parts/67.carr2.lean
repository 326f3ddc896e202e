/-! THE PURE PART: carrying out a part of the code (reference). -/
/-- with something behind it -/
def kTwo (K : Nat) : Bool := K == 14 || (K == 15 || (K == 16 || K == 38))
/-- how steps lie in the reference's code -/
def kLay (c : Nat → Int32) : Nat → List (Nat × Int32) → Nat → Prop
  | i, [], e => i = e
  | i, (K, s) :: r, e => c i = iN (kCd K) ∧ (bif kTwo K then c (i + 1) = s ∧ kLay c (i + 2) r e else kLay c (i + 1) r e)
def kOpOk (K : Nat) (s : Int32) (h : Nat) : Prop := (K = 12 ∨ K = 13 ∨ K = 15 ∨ K = 38) ∨ ((K = 14 ∨ K = 16) ∧ ∃ t, t < 10 ∧ s = iN t) ∨ ((K = 17 ∨ K = 41) ∧ 1 ≤ h) ∨ ((K = 18 ∨ K = 19 ∨ K = 20 ∨ K = 21 ∨ K = 28 ∨ K = 29 ∨ K = 30 ∨ K = 31 ∨ K = 32 ∨ K = 33 ∨ K = 34 ∨ K = 35 ∨ K = 36) ∧ 2 ≤ h)
def kHt (K h : Nat) : Nat := if K = 12 ∨ K = 13 ∨ K = 14 ∨ K = 15 ∨ K = 16 ∨ K = 38 then h + 1 else if K = 17 ∨ K = 41 then h else h - 1
def kVal : Nat → List (Nat × Int32) → Prop
  | h, [] => h = 1
  | h, (K, s) :: r => kOpOk K s h ∧ kVal (kHt K h) r
def kRun (E : Nat → Int32 → Int32) : List (Nat × Int32) → Nat × (Nat → Int32) → Nat × (Nat → Int32)
  | [], a => a
  | (K, s) :: r, a => kRun E r (kSt E K s (0, a)).2
theorem kHt_st {E : Nat → Int32 → Int32} {K h : Nat} {s : Int32} {g : Nat → Int32} (ho : kOpOk K s h) : (kSt E K s (0, h, g)).2.1 = kHt K h := by
  unfold kOpOk at ho
  unfold kSt kHt
  rcases ho with ho | ⟨ho, _⟩ | ⟨ho, h1⟩ | ⟨ho, h1⟩
  · rcases ho with e | e | e | e <;> subst e <;> rfl
  · rcases ho with e | e <;> subst e <;> rfl
  · rcases ho with e | e <;> subst e <;> simp only [Nat.reduceEqDiff, if_true, if_false, false_or, or_false, or_true, true_or] <;> omega
  · rcases ho with e | e | e | e | e | e | e | e | e | e | e | e | e <;> subst e <;> simp only [Nat.reduceEqDiff, if_true, if_false, false_or, or_false, or_true, true_or] <;> omega
theorem kLay_le {c : Nat → Int32} : ∀ (L : List (Nat × Int32)) (i e : Nat), kLay c i L e → i ≤ e
  | [], i, e, h => Nat.le_of_eq h
  | (K, s) :: r, i, e, h => by
    unfold kLay at h
    obtain ⟨_, h⟩ := h
    cases hk : kTwo K with
    | true =>
      rw [hk] at h
      have := kLay_le r _ _ h.2
      omega
    | false =>
      rw [hk] at h
      have := kLay_le r _ _ h
      omega
section C17
variable {d : Nat} {μ : jM} {Q : jO → jM → Prop} {n t p : Nat}
theorem d_opss_run {e : Nat} {bg : Int32} (hM : jMp μ p) (hn : jI μ (64 * p + 11) 2 = iN n) (h10 : n ≤ 10) (he : e < 800) : ∀ (L : List (Nat × Int32)) (i h : Nat) (g : Nat → Int32) (b5 b6 : Option Value), kLay (jI μ (64 * p + 794)) i L e → kVal h L → h + L.length < 398 → ∃ c5 c6, (Ex (d + 4) 210 5 [some (.ref 5836), some (.int bg), some (.int (iN e)), some (.int (jtp h)), some (.int (iN i)), b5, b6] [] (jsR μ 6680 g) Q ↔ Ex (d + 4) 210 5 [some (.ref 5836), some (.int bg), some (.int (iN e)), some (.int (jtp (kRun (kEnvMs μ p n) L (h, g)).1)), some (.int (iN e)), c5, c6] [] (jsR μ 6680 (kRun (kEnvMs μ p n) L (h, g)).2) Q) := by
  intro L
  induction L with
  | nil =>
    intro i h g b5 b6 hl _ _
    have hie : i = e := hl
    subst hie
    exact ⟨b5, b6, Iff.rfl⟩
  | cons a r ih =>
    intro i h g b5 b6 hl hv hb
    obtain ⟨K, sub⟩ := a
    obtain ⟨ho, hv⟩ := hv
    have hb2 : h + (r.length + 1) < 398 := hb
    have hkh : kHt K h ≤ h + 1 := by
      unfold kHt
      repeat' split
      all_goals omega
    have hrest : ∀ (j : Nat) (c5 c6 : Option Value), kLay (jI μ (64 * p + 794)) j r e → ∃ f5 f6, (Ex (d + 4) 210 5 [some (.ref 5836), some (.int bg), some (.int (iN e)), some (.int (jtp (kSt (kEnvMs μ p n) K sub (0, h, g)).2.1)), some (.int (iN j)), c5, c6] [] (jsR μ 6680 (kSt (kEnvMs μ p n) K sub (0, h, g)).2.2) Q ↔ Ex (d + 4) 210 5 [some (.ref 5836), some (.int bg), some (.int (iN e)), some (.int (jtp (kRun (kEnvMs μ p n) ((K, sub) :: r) (h, g)).1)), some (.int (iN e)), f5, f6] [] (jsR μ 6680 (kRun (kEnvMs μ p n) ((K, sub) :: r) (h, g)).2) Q) := by
      intro j c5 c6 hl3
      have h0 := kHt_st (E := kEnvMs μ p n) (g := g) ho
      obtain ⟨f5, f6, h2⟩ := ih j (kSt (kEnvMs μ p n) K sub (0, h, g)).2.1 (kSt (kEnvMs μ p n) K sub (0, h, g)).2.2 c5 c6 hl3 (by rw [h0]; exact hv) (by rw [h0]; omega)
      exact ⟨f5, f6, h2⟩
    unfold kOpOk at ho
    rcases ho with ho | ⟨ho, t, ht10, ht⟩ | ⟨ho, hh1⟩ | ⟨ho, hh1⟩
    · rcases ho with e1 | e1 | e1 | e1
      · subst e1
        have hl2 : jI μ (64 * p + 794) i = 12 ∧ kLay (jI μ (64 * p + 794)) (i + 1) r e := hl
        obtain ⟨hc, hl3⟩ := hl2
        have hle := kLay_le r _ _ hl3
        obtain ⟨c5, c6, h1⟩ := d_ops_12 (d := d) (Q := Q) (i := i) (e := e) (h := h) (bg := bg) (sub := sub) (g := g) (b5 := b5) (b6 := b6) hM hn h10 (by omega) (by omega) (by omega) (by omega) hc
        rw [h1]
        exact hrest _ c5 c6 hl3
      · subst e1
        have hl2 : jI μ (64 * p + 794) i = 13 ∧ kLay (jI μ (64 * p + 794)) (i + 1) r e := hl
        obtain ⟨hc, hl3⟩ := hl2
        have hle := kLay_le r _ _ hl3
        obtain ⟨c5, c6, h1⟩ := d_ops_13 (d := d) (Q := Q) (i := i) (e := e) (h := h) (bg := bg) (sub := sub) (g := g) (b5 := b5) (b6 := b6) hM hn h10 (by omega) (by omega) (by omega) (by omega) hc
        rw [h1]
        exact hrest _ c5 c6 hl3
      · subst e1
        have hl2 : jI μ (64 * p + 794) i = 15 ∧ jI μ (64 * p + 794) (i + 1) = sub ∧ kLay (jI μ (64 * p + 794)) (i + 2) r e := hl
        obtain ⟨hc, hs, hl3⟩ := hl2
        have hle := kLay_le r _ _ hl3
        obtain ⟨c5, c6, h1⟩ := d_ops_15 (d := d) (Q := Q) (i := i) (e := e) (h := h) (bg := bg) (g := g) (b5 := b5) (b6 := b6) hM hn h10 (by omega) (by omega) (by omega) (by omega) hc hs
        rw [h1]
        exact hrest _ c5 c6 hl3
      · subst e1
        have hl2 : jI μ (64 * p + 794) i = 30 ∧ jI μ (64 * p + 794) (i + 1) = sub ∧ kLay (jI μ (64 * p + 794)) (i + 2) r e := hl
        obtain ⟨hc, hs, hl3⟩ := hl2
        have hle := kLay_le r _ _ hl3
        obtain ⟨c5, c6, h1⟩ := d_ops_38 (d := d) (Q := Q) (i := i) (e := e) (h := h) (bg := bg) (g := g) (b5 := b5) (b6 := b6) hM hn h10 (by omega) (by omega) (by omega) (by omega) hc hs
        rw [h1]
        exact hrest _ c5 c6 hl3
    · rcases ho with e1 | e1
      · subst e1
        have hl2 : jI μ (64 * p + 794) i = 14 ∧ jI μ (64 * p + 794) (i + 1) = sub ∧ kLay (jI μ (64 * p + 794)) (i + 2) r e := hl
        obtain ⟨hc, hs, hl3⟩ := hl2
        have hle := kLay_le r _ _ hl3
        obtain ⟨c5, c6, h1⟩ := d_ops_14 (d := d) (Q := Q) (i := i) (e := e) (h := h) (bg := bg) (g := g) (b5 := b5) (b6 := b6) hM hn h10 (by omega) (by omega) (by omega) (by omega) hc hs ht ht10
        rw [h1]
        exact hrest _ c5 c6 hl3
      · subst e1
        have hl2 : jI μ (64 * p + 794) i = 16 ∧ jI μ (64 * p + 794) (i + 1) = sub ∧ kLay (jI μ (64 * p + 794)) (i + 2) r e := hl
        obtain ⟨hc, hs, hl3⟩ := hl2
        have hle := kLay_le r _ _ hl3
        obtain ⟨c5, c6, h1⟩ := d_ops_16 (d := d) (Q := Q) (i := i) (e := e) (h := h) (bg := bg) (g := g) (b5 := b5) (b6 := b6) hM hn h10 (by omega) (by omega) (by omega) (by omega) hc hs ht ht10
        rw [h1]
        exact hrest _ c5 c6 hl3
    · rcases ho with e1 | e1
      · subst e1
        have hl2 : jI μ (64 * p + 794) i = 17 ∧ kLay (jI μ (64 * p + 794)) (i + 1) r e := hl
        obtain ⟨hc, hl3⟩ := hl2
        have hle := kLay_le r _ _ hl3
        obtain ⟨h, rfl⟩ : ∃ k, h = k + 1 := ⟨h - 1, by omega⟩
        obtain ⟨c5, c6, h1⟩ := d_ops_17 (d := d) (Q := Q) (i := i) (e := e) (h := h) (bg := bg) (sub := sub) (g := g) (b5 := b5) (b6 := b6) hM hn h10 (by omega) (by omega) (by omega) (by omega) hc
        rw [h1]
        exact hrest _ c5 c6 hl3
      · subst e1
        have hl2 : jI μ (64 * p + 794) i = 31 ∧ kLay (jI μ (64 * p + 794)) (i + 1) r e := hl
        obtain ⟨hc, hl3⟩ := hl2
        have hle := kLay_le r _ _ hl3
        obtain ⟨h, rfl⟩ : ∃ k, h = k + 1 := ⟨h - 1, by omega⟩
        obtain ⟨c5, c6, h1⟩ := d_ops_41 (d := d) (Q := Q) (i := i) (e := e) (h := h) (bg := bg) (sub := sub) (g := g) (b5 := b5) (b6 := b6) hM hn h10 (by omega) (by omega) (by omega) (by omega) hc
        rw [h1]
        exact hrest _ c5 c6 hl3
    · rcases ho with e1 | e1 | e1 | e1 | e1 | e1 | e1 | e1 | e1 | e1 | e1 | e1 | e1
      · subst e1
        have hl2 : jI μ (64 * p + 794) i = 18 ∧ kLay (jI μ (64 * p + 794)) (i + 1) r e := hl
        obtain ⟨hc, hl3⟩ := hl2
        have hle := kLay_le r _ _ hl3
        obtain ⟨h, rfl⟩ : ∃ k, h = k + 1 + 1 := ⟨h - 2, by omega⟩
        obtain ⟨c5, c6, h1⟩ := d_ops_18 (d := d) (Q := Q) (i := i) (e := e) (h := h) (bg := bg) (sub := sub) (g := g) (b5 := b5) (b6 := b6) hM hn h10 (by omega) (by omega) (by omega) (by omega) hc
        rw [h1]
        exact hrest _ c5 c6 hl3
      · subst e1
        have hl2 : jI μ (64 * p + 794) i = 19 ∧ kLay (jI μ (64 * p + 794)) (i + 1) r e := hl
        obtain ⟨hc, hl3⟩ := hl2
        have hle := kLay_le r _ _ hl3
        obtain ⟨h, rfl⟩ : ∃ k, h = k + 1 + 1 := ⟨h - 2, by omega⟩
        obtain ⟨c5, c6, h1⟩ := d_ops_19 (d := d) (Q := Q) (i := i) (e := e) (h := h) (bg := bg) (sub := sub) (g := g) (b5 := b5) (b6 := b6) hM hn h10 (by omega) (by omega) (by omega) (by omega) hc
        rw [h1]
        exact hrest _ c5 c6 hl3
      · subst e1
        have hl2 : jI μ (64 * p + 794) i = 20 ∧ kLay (jI μ (64 * p + 794)) (i + 1) r e := hl
        obtain ⟨hc, hl3⟩ := hl2
        have hle := kLay_le r _ _ hl3
        obtain ⟨h, rfl⟩ : ∃ k, h = k + 1 + 1 := ⟨h - 2, by omega⟩
        obtain ⟨c5, c6, h1⟩ := d_ops_20 (d := d) (Q := Q) (i := i) (e := e) (h := h) (bg := bg) (sub := sub) (g := g) (b5 := b5) (b6 := b6) hM hn h10 (by omega) (by omega) (by omega) (by omega) hc
        rw [h1]
        exact hrest _ c5 c6 hl3
      · subst e1
        have hl2 : jI μ (64 * p + 794) i = 21 ∧ kLay (jI μ (64 * p + 794)) (i + 1) r e := hl
        obtain ⟨hc, hl3⟩ := hl2
        have hle := kLay_le r _ _ hl3
        obtain ⟨h, rfl⟩ : ∃ k, h = k + 1 + 1 := ⟨h - 2, by omega⟩
        obtain ⟨c5, c6, h1⟩ := d_ops_21 (d := d) (Q := Q) (i := i) (e := e) (h := h) (bg := bg) (sub := sub) (g := g) (b5 := b5) (b6 := b6) hM hn h10 (by omega) (by omega) (by omega) (by omega) hc
        rw [h1]
        exact hrest _ c5 c6 hl3
      · subst e1
        have hl2 : jI μ (64 * p + 794) i = 32 ∧ kLay (jI μ (64 * p + 794)) (i + 1) r e := hl
        obtain ⟨hc, hl3⟩ := hl2
        have hle := kLay_le r _ _ hl3
        obtain ⟨h, rfl⟩ : ∃ k, h = k + 1 + 1 := ⟨h - 2, by omega⟩
        obtain ⟨c5, c6, h1⟩ := d_ops_28 (d := d) (Q := Q) (i := i) (e := e) (h := h) (bg := bg) (sub := sub) (g := g) (b5 := b5) (b6 := b6) hM hn h10 (by omega) (by omega) (by omega) (by omega) hc
        rw [h1]
        exact hrest _ c5 c6 hl3
      · subst e1
        have hl2 : jI μ (64 * p + 794) i = 33 ∧ kLay (jI μ (64 * p + 794)) (i + 1) r e := hl
        obtain ⟨hc, hl3⟩ := hl2
        have hle := kLay_le r _ _ hl3
        obtain ⟨h, rfl⟩ : ∃ k, h = k + 1 + 1 := ⟨h - 2, by omega⟩
        obtain ⟨c5, c6, h1⟩ := d_ops_29 (d := d) (Q := Q) (i := i) (e := e) (h := h) (bg := bg) (sub := sub) (g := g) (b5 := b5) (b6 := b6) hM hn h10 (by omega) (by omega) (by omega) (by omega) hc
        rw [h1]
        exact hrest _ c5 c6 hl3
      · subst e1
        have hl2 : jI μ (64 * p + 794) i = 34 ∧ kLay (jI μ (64 * p + 794)) (i + 1) r e := hl
        obtain ⟨hc, hl3⟩ := hl2
        have hle := kLay_le r _ _ hl3
        obtain ⟨h, rfl⟩ : ∃ k, h = k + 1 + 1 := ⟨h - 2, by omega⟩
        obtain ⟨c5, c6, h1⟩ := d_ops_30 (d := d) (Q := Q) (i := i) (e := e) (h := h) (bg := bg) (sub := sub) (g := g) (b5 := b5) (b6 := b6) hM hn h10 (by omega) (by omega) (by omega) (by omega) hc
        rw [h1]
        exact hrest _ c5 c6 hl3
      · subst e1
        have hl2 : jI μ (64 * p + 794) i = 35 ∧ kLay (jI μ (64 * p + 794)) (i + 1) r e := hl
        obtain ⟨hc, hl3⟩ := hl2
        have hle := kLay_le r _ _ hl3
        obtain ⟨h, rfl⟩ : ∃ k, h = k + 1 + 1 := ⟨h - 2, by omega⟩
        obtain ⟨c5, c6, h1⟩ := d_ops_31 (d := d) (Q := Q) (i := i) (e := e) (h := h) (bg := bg) (sub := sub) (g := g) (b5 := b5) (b6 := b6) hM hn h10 (by omega) (by omega) (by omega) (by omega) hc
        rw [h1]
        exact hrest _ c5 c6 hl3
      · subst e1
        have hl2 : jI μ (64 * p + 794) i = 36 ∧ kLay (jI μ (64 * p + 794)) (i + 1) r e := hl
        obtain ⟨hc, hl3⟩ := hl2
        have hle := kLay_le r _ _ hl3
        obtain ⟨h, rfl⟩ : ∃ k, h = k + 1 + 1 := ⟨h - 2, by omega⟩
        obtain ⟨c5, c6, h1⟩ := d_ops_32 (d := d) (Q := Q) (i := i) (e := e) (h := h) (bg := bg) (sub := sub) (g := g) (b5 := b5) (b6 := b6) hM hn h10 (by omega) (by omega) (by omega) (by omega) hc
        rw [h1]
        exact hrest _ c5 c6 hl3
      · subst e1
        have hl2 : jI μ (64 * p + 794) i = 37 ∧ kLay (jI μ (64 * p + 794)) (i + 1) r e := hl
        obtain ⟨hc, hl3⟩ := hl2
        have hle := kLay_le r _ _ hl3
        obtain ⟨h, rfl⟩ : ∃ k, h = k + 1 + 1 := ⟨h - 2, by omega⟩
        obtain ⟨c5, c6, h1⟩ := d_ops_33 (d := d) (Q := Q) (i := i) (e := e) (h := h) (bg := bg) (sub := sub) (g := g) (b5 := b5) (b6 := b6) hM hn h10 (by omega) (by omega) (by omega) (by omega) hc
        rw [h1]
        exact hrest _ c5 c6 hl3
      · subst e1
        have hl2 : jI μ (64 * p + 794) i = 38 ∧ kLay (jI μ (64 * p + 794)) (i + 1) r e := hl
        obtain ⟨hc, hl3⟩ := hl2
        have hle := kLay_le r _ _ hl3
        obtain ⟨h, rfl⟩ : ∃ k, h = k + 1 + 1 := ⟨h - 2, by omega⟩
        obtain ⟨c5, c6, h1⟩ := d_ops_34 (d := d) (Q := Q) (i := i) (e := e) (h := h) (bg := bg) (sub := sub) (g := g) (b5 := b5) (b6 := b6) hM hn h10 (by omega) (by omega) (by omega) (by omega) hc
        rw [h1]
        exact hrest _ c5 c6 hl3
      · subst e1
        have hl2 : jI μ (64 * p + 794) i = 39 ∧ kLay (jI μ (64 * p + 794)) (i + 1) r e := hl
        obtain ⟨hc, hl3⟩ := hl2
        have hle := kLay_le r _ _ hl3
        obtain ⟨h, rfl⟩ : ∃ k, h = k + 1 + 1 := ⟨h - 2, by omega⟩
        obtain ⟨c5, c6, h1⟩ := d_ops_35 (d := d) (Q := Q) (i := i) (e := e) (h := h) (bg := bg) (sub := sub) (g := g) (b5 := b5) (b6 := b6) hM hn h10 (by omega) (by omega) (by omega) (by omega) hc
        rw [h1]
        exact hrest _ c5 c6 hl3
      · subst e1
        have hl2 : jI μ (64 * p + 794) i = 40 ∧ kLay (jI μ (64 * p + 794)) (i + 1) r e := hl
        obtain ⟨hc, hl3⟩ := hl2
        have hle := kLay_le r _ _ hl3
        obtain ⟨h, rfl⟩ : ∃ k, h = k + 1 + 1 := ⟨h - 2, by omega⟩
        obtain ⟨c5, c6, h1⟩ := d_ops_36 (d := d) (Q := Q) (i := i) (e := e) (h := h) (bg := bg) (sub := sub) (g := g) (b5 := b5) (b6 := b6) hM hn h10 (by omega) (by omega) (by omega) (by omega) hc
        rw [h1]
        exact hrest _ c5 c6 hl3
theorem d_carrys {i e : Nat} {L : List (Nat × Int32)} {g : Nat → Int32} (hM : jMp μ p) (hn : jI μ (64 * p + 11) 2 = iN n) (h10 : n ≤ 10) (he : e < 800) (hl : kLay (jI μ (64 * p + 794)) i L e) (hv : kVal 0 L) (hb : L.length < 398) : Ex (d + 4) 210 0 [some (.ref 5836), some (.int (iN i)), some (.int (iN e)), none, none, none, none] [] (jsR μ 6680 g) Q ↔ Q (.inl (some (.int ((kRun (kEnvMs μ p n) L (0, g)).2 0)))) (jsR μ 6680 (kRun (kEnvMs μ p n) L (0, g)).2) := by
  obtain ⟨c5, c6, h2⟩ := d_opss_run (d := d) (Q := Q) (bg := iN i) hM hn h10 he L i 0 g none none hl hv (by omega)
  have hw := hM.1
  unfold jWd at hw
  have h1 : Ex (d + 4) 210 0 [some (.ref 5836), some (.int (iN i)), some (.int (iN e)), none, none, none, none] [] (jsR μ 6680 g) Q ↔ Ex (d + 4) 210 5 [some (.ref 5836), some (.int (iN i)), some (.int (iN e)), some (.int (jtp 0)), some (.int (iN i)), none, none] [] (jsR μ 6680 g) Q := by
    unfold jtp
    simp only [x210_0, x210_1a, x210_1b, x210_1c, x210_2, x210_3a, x210_3b, x210_3c, x210_7, x210_8, x210_11, x210_12, x210_15, x210_18, x210_21, x210_23, x210_24a, x210_24b, x210_24c, x210_26a, x210_26b, x210_26c, x210_29, x210_31, x210_34, x210_37, x210_39, x210_41, x210_44, x210_46, x210_48, x210_51, x210_52, x210_55, x210_56a, x210_56b, x210_56c, x210_58a, x210_58b, x210_58c, x210_61, x210_62, x210_65, x210_66, x210_68, x210_70, x210_73, x210_74, x210_77, x210_80, x210_82, x210_84, x210_87, x210_88, x210_89, x210_92, x210_93, x210_94, x210_97, x210_98, x210_100, x210_101, x210_104, x210_107, x210_110, x210_112, x210_113, x210_116, x210_117, x210_119, x210_122a, x210_122b, x210_122c, x210_125, x210_128, x210_130, x210_132, x210_135, x210_137, x210_139, x210_142, x210_143, x210_146, x210_147, x210_149, x210_151, x210_154, x210_155, x210_158, x210_159, x210_160, x210_161, x210_164, x210_165, x210_166, x210_169, x210_170, x210_171, x210_172, x210_173, x210_176a, x210_176b, x210_176c, x210_179, x210_180, x210_183, x210_184, x210_186, x210_187, x210_190, x210_191, x210_192, x210_193, x210_196, x210_197, x210_198, x210_199, x210_200, x210_203, x210_204, x210_207, x210_208, x210_211, x210_212, x210_213, mzi, mInc, mne, mlt9, mrk, mI1, mI2, mI3, mI4, mL1, mL2, mL3, mL4, mQ1, mQ2, mQ3, mQ4, mT1, mcat0, mcat1, mcat2, mcat3, mcat4, mrf1, jK_v, jK_n, JA, mz1, if_true, if_false, ite_true, ite_false, eq_self, not_false_eq_true, Nat.zero_le, true_and, and_true, and_self, Nat.reduceMod, Nat.reduceAdd, Nat.reduceLeDiff, Nat.reduceEqDiff, Nat.reduceLT]
  have hge : ¬ iN e < iN e := iN_irr (by omega)
  have j0 : jin 0 400 = true := by decide
  rw [h1, h2]
  simp only [↓if_neg hge, x210_5, x210_0, x210_1a, x210_1b, x210_1c, x210_2, x210_3a, x210_3b, x210_3c, x210_7, x210_8, x210_11, x210_12, x210_15, x210_18, x210_21, x210_23, x210_24a, x210_24b, x210_24c, x210_26a, x210_26b, x210_26c, x210_29, x210_31, x210_34, x210_37, x210_39, x210_41, x210_44, x210_46, x210_48, x210_51, x210_52, x210_55, x210_56a, x210_56b, x210_56c, x210_58a, x210_58b, x210_58c, x210_61, x210_62, x210_65, x210_66, x210_68, x210_70, x210_73, x210_74, x210_77, x210_80, x210_82, x210_84, x210_87, x210_88, x210_89, x210_92, x210_93, x210_94, x210_97, x210_98, x210_100, x210_101, x210_104, x210_107, x210_110, x210_112, x210_113, x210_116, x210_117, x210_119, x210_122a, x210_122b, x210_122c, x210_125, x210_128, x210_130, x210_132, x210_135, x210_137, x210_139, x210_142, x210_143, x210_146, x210_147, x210_149, x210_151, x210_154, x210_155, x210_158, x210_159, x210_160, x210_161, x210_164, x210_165, x210_166, x210_169, x210_170, x210_171, x210_172, x210_173, x210_176a, x210_176b, x210_176c, x210_179, x210_180, x210_183, x210_184, x210_186, x210_187, x210_190, x210_191, x210_192, x210_193, x210_196, x210_197, x210_198, x210_199, x210_200, x210_203, x210_204, x210_207, x210_208, x210_211, x210_212, x210_213, mzi, mInc, mne, mlt9, mrk, mI1, mI2, mI3, mI4, mL1, mL2, mL3, mL4, mQ1, mQ2, mQ3, mQ4, mT1, mcat0, mcat1, mcat2, mcat3, mcat4, mrf1, jK_v, jK_n, JA, mz1, if_true, if_false, ite_true, ite_false, eq_self, not_false_eq_true, Nat.zero_le, true_and, and_true, and_self, Nat.reduceMod, Nat.reduceAdd, Nat.reduceLeDiff, Nat.reduceEqDiff, Nat.reduceLT, hge, mR1, mR2, mR3, hw, j0]
theorem d_opsh_run {e : Nat} {bg : Int32} (hM : jMp μ p) (hn : jI μ (64 * p + 11) 2 = iN n) (h10 : n ≤ 10) (he : e < 800) : ∀ (L : List (Nat × Int32)) (i h : Nat) (g : Nat → Int32) (b5 b6 : Option Value), kLay (jI μ (64 * p + 794)) i L e → kVal h L → h + L.length < 398 → ∃ c5 c6, (Ex (d + 4) 210 5 [some (.ref 6732), some (.int bg), some (.int (iN e)), some (.int (jtp h)), some (.int (iN i)), b5, b6] [] (jsR μ 7576 g) Q ↔ Ex (d + 4) 210 5 [some (.ref 6732), some (.int bg), some (.int (iN e)), some (.int (jtp (kRun (kEnvMh μ p n) L (h, g)).1)), some (.int (iN e)), c5, c6] [] (jsR μ 7576 (kRun (kEnvMh μ p n) L (h, g)).2) Q) := by
  intro L
  induction L with
  | nil =>
    intro i h g b5 b6 hl _ _
    have hie : i = e := hl
    subst hie
    exact ⟨b5, b6, Iff.rfl⟩
  | cons a r ih =>
    intro i h g b5 b6 hl hv hb
    obtain ⟨K, sub⟩ := a
    obtain ⟨ho, hv⟩ := hv
    have hb2 : h + (r.length + 1) < 398 := hb
    have hkh : kHt K h ≤ h + 1 := by
      unfold kHt
      repeat' split
      all_goals omega
    have hrest : ∀ (j : Nat) (c5 c6 : Option Value), kLay (jI μ (64 * p + 794)) j r e → ∃ f5 f6, (Ex (d + 4) 210 5 [some (.ref 6732), some (.int bg), some (.int (iN e)), some (.int (jtp (kSt (kEnvMh μ p n) K sub (0, h, g)).2.1)), some (.int (iN j)), c5, c6] [] (jsR μ 7576 (kSt (kEnvMh μ p n) K sub (0, h, g)).2.2) Q ↔ Ex (d + 4) 210 5 [some (.ref 6732), some (.int bg), some (.int (iN e)), some (.int (jtp (kRun (kEnvMh μ p n) ((K, sub) :: r) (h, g)).1)), some (.int (iN e)), f5, f6] [] (jsR μ 7576 (kRun (kEnvMh μ p n) ((K, sub) :: r) (h, g)).2) Q) := by
      intro j c5 c6 hl3
      have h0 := kHt_st (E := kEnvMh μ p n) (g := g) ho
      obtain ⟨f5, f6, h2⟩ := ih j (kSt (kEnvMh μ p n) K sub (0, h, g)).2.1 (kSt (kEnvMh μ p n) K sub (0, h, g)).2.2 c5 c6 hl3 (by rw [h0]; exact hv) (by rw [h0]; omega)
      exact ⟨f5, f6, h2⟩
    unfold kOpOk at ho
    rcases ho with ho | ⟨ho, t, ht10, ht⟩ | ⟨ho, hh1⟩ | ⟨ho, hh1⟩
    · rcases ho with e1 | e1 | e1 | e1
      · subst e1
        have hl2 : jI μ (64 * p + 794) i = 12 ∧ kLay (jI μ (64 * p + 794)) (i + 1) r e := hl
        obtain ⟨hc, hl3⟩ := hl2
        have hle := kLay_le r _ _ hl3
        obtain ⟨c5, c6, h1⟩ := d_oph_12 (d := d) (Q := Q) (i := i) (e := e) (h := h) (bg := bg) (sub := sub) (g := g) (b5 := b5) (b6 := b6) hM hn h10 (by omega) (by omega) (by omega) (by omega) hc
        rw [h1]
        exact hrest _ c5 c6 hl3
      · subst e1
        have hl2 : jI μ (64 * p + 794) i = 13 ∧ kLay (jI μ (64 * p + 794)) (i + 1) r e := hl
        obtain ⟨hc, hl3⟩ := hl2
        have hle := kLay_le r _ _ hl3
        obtain ⟨c5, c6, h1⟩ := d_oph_13 (d := d) (Q := Q) (i := i) (e := e) (h := h) (bg := bg) (sub := sub) (g := g) (b5 := b5) (b6 := b6) hM hn h10 (by omega) (by omega) (by omega) (by omega) hc
        rw [h1]
        exact hrest _ c5 c6 hl3
      · subst e1
        have hl2 : jI μ (64 * p + 794) i = 15 ∧ jI μ (64 * p + 794) (i + 1) = sub ∧ kLay (jI μ (64 * p + 794)) (i + 2) r e := hl
        obtain ⟨hc, hs, hl3⟩ := hl2
        have hle := kLay_le r _ _ hl3
        obtain ⟨c5, c6, h1⟩ := d_oph_15 (d := d) (Q := Q) (i := i) (e := e) (h := h) (bg := bg) (g := g) (b5 := b5) (b6 := b6) hM hn h10 (by omega) (by omega) (by omega) (by omega) hc hs
        rw [h1]
        exact hrest _ c5 c6 hl3
      · subst e1
        have hl2 : jI μ (64 * p + 794) i = 30 ∧ jI μ (64 * p + 794) (i + 1) = sub ∧ kLay (jI μ (64 * p + 794)) (i + 2) r e := hl
        obtain ⟨hc, hs, hl3⟩ := hl2
        have hle := kLay_le r _ _ hl3
        obtain ⟨c5, c6, h1⟩ := d_oph_38 (d := d) (Q := Q) (i := i) (e := e) (h := h) (bg := bg) (g := g) (b5 := b5) (b6 := b6) hM hn h10 (by omega) (by omega) (by omega) (by omega) hc hs
        rw [h1]
        exact hrest _ c5 c6 hl3
    · rcases ho with e1 | e1
      · subst e1
        have hl2 : jI μ (64 * p + 794) i = 14 ∧ jI μ (64 * p + 794) (i + 1) = sub ∧ kLay (jI μ (64 * p + 794)) (i + 2) r e := hl
        obtain ⟨hc, hs, hl3⟩ := hl2
        have hle := kLay_le r _ _ hl3
        obtain ⟨c5, c6, h1⟩ := d_oph_14 (d := d) (Q := Q) (i := i) (e := e) (h := h) (bg := bg) (g := g) (b5 := b5) (b6 := b6) hM hn h10 (by omega) (by omega) (by omega) (by omega) hc hs ht ht10
        rw [h1]
        exact hrest _ c5 c6 hl3
      · subst e1
        have hl2 : jI μ (64 * p + 794) i = 16 ∧ jI μ (64 * p + 794) (i + 1) = sub ∧ kLay (jI μ (64 * p + 794)) (i + 2) r e := hl
        obtain ⟨hc, hs, hl3⟩ := hl2
        have hle := kLay_le r _ _ hl3
        obtain ⟨c5, c6, h1⟩ := d_oph_16 (d := d) (Q := Q) (i := i) (e := e) (h := h) (bg := bg) (g := g) (b5 := b5) (b6 := b6) hM hn h10 (by omega) (by omega) (by omega) (by omega) hc hs ht ht10
        rw [h1]
        exact hrest _ c5 c6 hl3
    · rcases ho with e1 | e1
      · subst e1
        have hl2 : jI μ (64 * p + 794) i = 17 ∧ kLay (jI μ (64 * p + 794)) (i + 1) r e := hl
        obtain ⟨hc, hl3⟩ := hl2
        have hle := kLay_le r _ _ hl3
        obtain ⟨h, rfl⟩ : ∃ k, h = k + 1 := ⟨h - 1, by omega⟩
        obtain ⟨c5, c6, h1⟩ := d_oph_17 (d := d) (Q := Q) (i := i) (e := e) (h := h) (bg := bg) (sub := sub) (g := g) (b5 := b5) (b6 := b6) hM hn h10 (by omega) (by omega) (by omega) (by omega) hc
        rw [h1]
        exact hrest _ c5 c6 hl3
      · subst e1
        have hl2 : jI μ (64 * p + 794) i = 31 ∧ kLay (jI μ (64 * p + 794)) (i + 1) r e := hl
        obtain ⟨hc, hl3⟩ := hl2
        have hle := kLay_le r _ _ hl3
        obtain ⟨h, rfl⟩ : ∃ k, h = k + 1 := ⟨h - 1, by omega⟩
        obtain ⟨c5, c6, h1⟩ := d_oph_41 (d := d) (Q := Q) (i := i) (e := e) (h := h) (bg := bg) (sub := sub) (g := g) (b5 := b5) (b6 := b6) hM hn h10 (by omega) (by omega) (by omega) (by omega) hc
        rw [h1]
        exact hrest _ c5 c6 hl3
    · rcases ho with e1 | e1 | e1 | e1 | e1 | e1 | e1 | e1 | e1 | e1 | e1 | e1 | e1
      · subst e1
        have hl2 : jI μ (64 * p + 794) i = 18 ∧ kLay (jI μ (64 * p + 794)) (i + 1) r e := hl
        obtain ⟨hc, hl3⟩ := hl2
        have hle := kLay_le r _ _ hl3
        obtain ⟨h, rfl⟩ : ∃ k, h = k + 1 + 1 := ⟨h - 2, by omega⟩
        obtain ⟨c5, c6, h1⟩ := d_oph_18 (d := d) (Q := Q) (i := i) (e := e) (h := h) (bg := bg) (sub := sub) (g := g) (b5 := b5) (b6 := b6) hM hn h10 (by omega) (by omega) (by omega) (by omega) hc
        rw [h1]
        exact hrest _ c5 c6 hl3
      · subst e1
        have hl2 : jI μ (64 * p + 794) i = 19 ∧ kLay (jI μ (64 * p + 794)) (i + 1) r e := hl
        obtain ⟨hc, hl3⟩ := hl2
        have hle := kLay_le r _ _ hl3
        obtain ⟨h, rfl⟩ : ∃ k, h = k + 1 + 1 := ⟨h - 2, by omega⟩
        obtain ⟨c5, c6, h1⟩ := d_oph_19 (d := d) (Q := Q) (i := i) (e := e) (h := h) (bg := bg) (sub := sub) (g := g) (b5 := b5) (b6 := b6) hM hn h10 (by omega) (by omega) (by omega) (by omega) hc
        rw [h1]
        exact hrest _ c5 c6 hl3
      · subst e1
        have hl2 : jI μ (64 * p + 794) i = 20 ∧ kLay (jI μ (64 * p + 794)) (i + 1) r e := hl
        obtain ⟨hc, hl3⟩ := hl2
        have hle := kLay_le r _ _ hl3
        obtain ⟨h, rfl⟩ : ∃ k, h = k + 1 + 1 := ⟨h - 2, by omega⟩
        obtain ⟨c5, c6, h1⟩ := d_oph_20 (d := d) (Q := Q) (i := i) (e := e) (h := h) (bg := bg) (sub := sub) (g := g) (b5 := b5) (b6 := b6) hM hn h10 (by omega) (by omega) (by omega) (by omega) hc
        rw [h1]
        exact hrest _ c5 c6 hl3
      · subst e1
        have hl2 : jI μ (64 * p + 794) i = 21 ∧ kLay (jI μ (64 * p + 794)) (i + 1) r e := hl
        obtain ⟨hc, hl3⟩ := hl2
        have hle := kLay_le r _ _ hl3
        obtain ⟨h, rfl⟩ : ∃ k, h = k + 1 + 1 := ⟨h - 2, by omega⟩
        obtain ⟨c5, c6, h1⟩ := d_oph_21 (d := d) (Q := Q) (i := i) (e := e) (h := h) (bg := bg) (sub := sub) (g := g) (b5 := b5) (b6 := b6) hM hn h10 (by omega) (by omega) (by omega) (by omega) hc
        rw [h1]
        exact hrest _ c5 c6 hl3
      · subst e1
        have hl2 : jI μ (64 * p + 794) i = 32 ∧ kLay (jI μ (64 * p + 794)) (i + 1) r e := hl
        obtain ⟨hc, hl3⟩ := hl2
        have hle := kLay_le r _ _ hl3
        obtain ⟨h, rfl⟩ : ∃ k, h = k + 1 + 1 := ⟨h - 2, by omega⟩
        obtain ⟨c5, c6, h1⟩ := d_oph_28 (d := d) (Q := Q) (i := i) (e := e) (h := h) (bg := bg) (sub := sub) (g := g) (b5 := b5) (b6 := b6) hM hn h10 (by omega) (by omega) (by omega) (by omega) hc
        rw [h1]
        exact hrest _ c5 c6 hl3
      · subst e1
        have hl2 : jI μ (64 * p + 794) i = 33 ∧ kLay (jI μ (64 * p + 794)) (i + 1) r e := hl
        obtain ⟨hc, hl3⟩ := hl2
        have hle := kLay_le r _ _ hl3
        obtain ⟨h, rfl⟩ : ∃ k, h = k + 1 + 1 := ⟨h - 2, by omega⟩
        obtain ⟨c5, c6, h1⟩ := d_oph_29 (d := d) (Q := Q) (i := i) (e := e) (h := h) (bg := bg) (sub := sub) (g := g) (b5 := b5) (b6 := b6) hM hn h10 (by omega) (by omega) (by omega) (by omega) hc
        rw [h1]
        exact hrest _ c5 c6 hl3
      · subst e1
        have hl2 : jI μ (64 * p + 794) i = 34 ∧ kLay (jI μ (64 * p + 794)) (i + 1) r e := hl
        obtain ⟨hc, hl3⟩ := hl2
        have hle := kLay_le r _ _ hl3
        obtain ⟨h, rfl⟩ : ∃ k, h = k + 1 + 1 := ⟨h - 2, by omega⟩
        obtain ⟨c5, c6, h1⟩ := d_oph_30 (d := d) (Q := Q) (i := i) (e := e) (h := h) (bg := bg) (sub := sub) (g := g) (b5 := b5) (b6 := b6) hM hn h10 (by omega) (by omega) (by omega) (by omega) hc
        rw [h1]
        exact hrest _ c5 c6 hl3
      · subst e1
        have hl2 : jI μ (64 * p + 794) i = 35 ∧ kLay (jI μ (64 * p + 794)) (i + 1) r e := hl
        obtain ⟨hc, hl3⟩ := hl2
        have hle := kLay_le r _ _ hl3
        obtain ⟨h, rfl⟩ : ∃ k, h = k + 1 + 1 := ⟨h - 2, by omega⟩
        obtain ⟨c5, c6, h1⟩ := d_oph_31 (d := d) (Q := Q) (i := i) (e := e) (h := h) (bg := bg) (sub := sub) (g := g) (b5 := b5) (b6 := b6) hM hn h10 (by omega) (by omega) (by omega) (by omega) hc
        rw [h1]
        exact hrest _ c5 c6 hl3
      · subst e1
        have hl2 : jI μ (64 * p + 794) i = 36 ∧ kLay (jI μ (64 * p + 794)) (i + 1) r e := hl
        obtain ⟨hc, hl3⟩ := hl2
        have hle := kLay_le r _ _ hl3
        obtain ⟨h, rfl⟩ : ∃ k, h = k + 1 + 1 := ⟨h - 2, by omega⟩
        obtain ⟨c5, c6, h1⟩ := d_oph_32 (d := d) (Q := Q) (i := i) (e := e) (h := h) (bg := bg) (sub := sub) (g := g) (b5 := b5) (b6 := b6) hM hn h10 (by omega) (by omega) (by omega) (by omega) hc
        rw [h1]
        exact hrest _ c5 c6 hl3
      · subst e1
        have hl2 : jI μ (64 * p + 794) i = 37 ∧ kLay (jI μ (64 * p + 794)) (i + 1) r e := hl
        obtain ⟨hc, hl3⟩ := hl2
        have hle := kLay_le r _ _ hl3
        obtain ⟨h, rfl⟩ : ∃ k, h = k + 1 + 1 := ⟨h - 2, by omega⟩
        obtain ⟨c5, c6, h1⟩ := d_oph_33 (d := d) (Q := Q) (i := i) (e := e) (h := h) (bg := bg) (sub := sub) (g := g) (b5 := b5) (b6 := b6) hM hn h10 (by omega) (by omega) (by omega) (by omega) hc
        rw [h1]
        exact hrest _ c5 c6 hl3
      · subst e1
        have hl2 : jI μ (64 * p + 794) i = 38 ∧ kLay (jI μ (64 * p + 794)) (i + 1) r e := hl
        obtain ⟨hc, hl3⟩ := hl2
        have hle := kLay_le r _ _ hl3
        obtain ⟨h, rfl⟩ : ∃ k, h = k + 1 + 1 := ⟨h - 2, by omega⟩
        obtain ⟨c5, c6, h1⟩ := d_oph_34 (d := d) (Q := Q) (i := i) (e := e) (h := h) (bg := bg) (sub := sub) (g := g) (b5 := b5) (b6 := b6) hM hn h10 (by omega) (by omega) (by omega) (by omega) hc
        rw [h1]
        exact hrest _ c5 c6 hl3
      · subst e1
        have hl2 : jI μ (64 * p + 794) i = 39 ∧ kLay (jI μ (64 * p + 794)) (i + 1) r e := hl
        obtain ⟨hc, hl3⟩ := hl2
        have hle := kLay_le r _ _ hl3
        obtain ⟨h, rfl⟩ : ∃ k, h = k + 1 + 1 := ⟨h - 2, by omega⟩
        obtain ⟨c5, c6, h1⟩ := d_oph_35 (d := d) (Q := Q) (i := i) (e := e) (h := h) (bg := bg) (sub := sub) (g := g) (b5 := b5) (b6 := b6) hM hn h10 (by omega) (by omega) (by omega) (by omega) hc
        rw [h1]
        exact hrest _ c5 c6 hl3
      · subst e1
        have hl2 : jI μ (64 * p + 794) i = 40 ∧ kLay (jI μ (64 * p + 794)) (i + 1) r e := hl
        obtain ⟨hc, hl3⟩ := hl2
        have hle := kLay_le r _ _ hl3
        obtain ⟨h, rfl⟩ : ∃ k, h = k + 1 + 1 := ⟨h - 2, by omega⟩
        obtain ⟨c5, c6, h1⟩ := d_oph_36 (d := d) (Q := Q) (i := i) (e := e) (h := h) (bg := bg) (sub := sub) (g := g) (b5 := b5) (b6 := b6) hM hn h10 (by omega) (by omega) (by omega) (by omega) hc
        rw [h1]
        exact hrest _ c5 c6 hl3
theorem d_carryh {i e : Nat} {L : List (Nat × Int32)} {g : Nat → Int32} (hM : jMp μ p) (hn : jI μ (64 * p + 11) 2 = iN n) (h10 : n ≤ 10) (he : e < 800) (hl : kLay (jI μ (64 * p + 794)) i L e) (hv : kVal 0 L) (hb : L.length < 398) : Ex (d + 4) 210 0 [some (.ref 6732), some (.int (iN i)), some (.int (iN e)), none, none, none, none] [] (jsR μ 7576 g) Q ↔ Q (.inl (some (.int ((kRun (kEnvMh μ p n) L (0, g)).2 0)))) (jsR μ 7576 (kRun (kEnvMh μ p n) L (0, g)).2) := by
  obtain ⟨c5, c6, h2⟩ := d_opsh_run (d := d) (Q := Q) (bg := iN i) hM hn h10 he L i 0 g none none hl hv (by omega)
  have hw := hM.1
  unfold jWd at hw
  have h1 : Ex (d + 4) 210 0 [some (.ref 6732), some (.int (iN i)), some (.int (iN e)), none, none, none, none] [] (jsR μ 7576 g) Q ↔ Ex (d + 4) 210 5 [some (.ref 6732), some (.int (iN i)), some (.int (iN e)), some (.int (jtp 0)), some (.int (iN i)), none, none] [] (jsR μ 7576 g) Q := by
    unfold jtp
    simp only [x210_0, x210_1a, x210_1b, x210_1c, x210_2, x210_3a, x210_3b, x210_3c, x210_7, x210_8, x210_11, x210_12, x210_15, x210_18, x210_21, x210_23, x210_24a, x210_24b, x210_24c, x210_26a, x210_26b, x210_26c, x210_29, x210_31, x210_34, x210_37, x210_39, x210_41, x210_44, x210_46, x210_48, x210_51, x210_52, x210_55, x210_56a, x210_56b, x210_56c, x210_58a, x210_58b, x210_58c, x210_61, x210_62, x210_65, x210_66, x210_68, x210_70, x210_73, x210_74, x210_77, x210_80, x210_82, x210_84, x210_87, x210_88, x210_89, x210_92, x210_93, x210_94, x210_97, x210_98, x210_100, x210_101, x210_104, x210_107, x210_110, x210_112, x210_113, x210_116, x210_117, x210_119, x210_122a, x210_122b, x210_122c, x210_125, x210_128, x210_130, x210_132, x210_135, x210_137, x210_139, x210_142, x210_143, x210_146, x210_147, x210_149, x210_151, x210_154, x210_155, x210_158, x210_159, x210_160, x210_161, x210_164, x210_165, x210_166, x210_169, x210_170, x210_171, x210_172, x210_173, x210_176a, x210_176b, x210_176c, x210_179, x210_180, x210_183, x210_184, x210_186, x210_187, x210_190, x210_191, x210_192, x210_193, x210_196, x210_197, x210_198, x210_199, x210_200, x210_203, x210_204, x210_207, x210_208, x210_211, x210_212, x210_213, mzi, mInc, mne, mlt9, mrk, mI1, mI2, mI3, mI4, mL1, mL2, mL3, mL4, mQ1, mQ2, mQ3, mQ4, mT1, mcat0, mcat1, mcat2, mcat3, mcat4, mrf1, jK_v, jK_n, JA, mz1, if_true, if_false, ite_true, ite_false, eq_self, not_false_eq_true, Nat.zero_le, true_and, and_true, and_self, Nat.reduceMod, Nat.reduceAdd, Nat.reduceLeDiff, Nat.reduceEqDiff, Nat.reduceLT]
  have hge : ¬ iN e < iN e := iN_irr (by omega)
  have j0 : jin 0 400 = true := by decide
  rw [h1, h2]
  simp only [↓if_neg hge, x210_5, x210_0, x210_1a, x210_1b, x210_1c, x210_2, x210_3a, x210_3b, x210_3c, x210_7, x210_8, x210_11, x210_12, x210_15, x210_18, x210_21, x210_23, x210_24a, x210_24b, x210_24c, x210_26a, x210_26b, x210_26c, x210_29, x210_31, x210_34, x210_37, x210_39, x210_41, x210_44, x210_46, x210_48, x210_51, x210_52, x210_55, x210_56a, x210_56b, x210_56c, x210_58a, x210_58b, x210_58c, x210_61, x210_62, x210_65, x210_66, x210_68, x210_70, x210_73, x210_74, x210_77, x210_80, x210_82, x210_84, x210_87, x210_88, x210_89, x210_92, x210_93, x210_94, x210_97, x210_98, x210_100, x210_101, x210_104, x210_107, x210_110, x210_112, x210_113, x210_116, x210_117, x210_119, x210_122a, x210_122b, x210_122c, x210_125, x210_128, x210_130, x210_132, x210_135, x210_137, x210_139, x210_142, x210_143, x210_146, x210_147, x210_149, x210_151, x210_154, x210_155, x210_158, x210_159, x210_160, x210_161, x210_164, x210_165, x210_166, x210_169, x210_170, x210_171, x210_172, x210_173, x210_176a, x210_176b, x210_176c, x210_179, x210_180, x210_183, x210_184, x210_186, x210_187, x210_190, x210_191, x210_192, x210_193, x210_196, x210_197, x210_198, x210_199, x210_200, x210_203, x210_204, x210_207, x210_208, x210_211, x210_212, x210_213, mzi, mInc, mne, mlt9, mrk, mI1, mI2, mI3, mI4, mL1, mL2, mL3, mL4, mQ1, mQ2, mQ3, mQ4, mT1, mcat0, mcat1, mcat2, mcat3, mcat4, mrf1, jK_v, jK_n, JA, mz1, if_true, if_false, ite_true, ite_false, eq_self, not_false_eq_true, Nat.zero_le, true_and, and_true, and_self, Nat.reduceMod, Nat.reduceAdd, Nat.reduceLeDiff, Nat.reduceEqDiff, Nat.reduceLT, hge, mR1, mR2, mR3, hw, j0]
end C17
