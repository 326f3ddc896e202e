/-! THE PURE PART: class and reference alike as a plan is told. -/
/-- a row, as it has been told: alike, and within bounds -/
def kFb (n lo hi : Nat) (f g : Nat → Int32) : Prop := ∀ k, k < n → f k = g k ∧ ∃ u, lo ≤ u ∧ u ≤ hi ∧ f k = iN u
def kFn (kd : Nat → Nat) (b : Nat → Int32) (sz i c : Nat) (nA : Nat → Int64) : Prop := ∀ k, k < i → kRole kd k = c → nA (kCn kd c k) = kNa b (kTs b sz k) (kTl b sz k)
def kSetr (f : Nat → Int32) (n : Nat) (v : Int32) : Nat → Int32 := fun j => if j = n then v else f j
def kSetl (f : Nat → Int64) (n : Nat) (v : Int64) : Nat → Int64 := fun j => if j = n then v else f j
/-- class and reference alike when the tokens below i are told -/
def kRel (kd : Nat → Nat) (b : Nat → Int32) (sz : Nat) (m0 : Nat → Int32) (i : Nat) (cA ba ho nu di fr to wi co mA : Nat → Int32) (ns nl nt : Nat → Int64) (cB bb hb nb db fb tb wb cb sB mB : Nat → Int32) : Prop :=
  (cA 0 = iN (kCn kd 1 i) ∧ cB 0 = iN (kCn kd 1 i) ∧ kCn kd 1 i ≤ 6) ∧ (cA 1 = iN (kCn kd 2 i) ∧ cB 2 = iN (kCn kd 2 i) ∧ kCn kd 2 i ≤ 10) ∧ (cA 2 = iN (kCn kd 3 i) ∧ cB 6 = iN (kCn kd 3 i) ∧ kCn kd 3 i ≤ 10) ∧ (cA 3 = iN (kCn kd 4 i) ∧ cB 11 = iN (kCn kd 4 i) ∧ kCn kd 4 i ≤ 12) ∧
  kFn kd b sz i 1 ns ∧ kFn kd b sz i 2 nl ∧ kFn kd b sz i 3 nt ∧
  kFb (kCn kd 5 i) 1 9 ba bb ∧ (∀ k, k < kCn kd 9 i → ho k = hb k ∧ ∃ u, u < kCn kd 1 i ∧ ho k = iN u) ∧ (∀ k, k < kCn kd 6 i → nu k = nb k) ∧ kFb (kCn kd 6 i) 1 6 di db ∧ kPfree (kCn kd 6 i) nu di ∧
  (∀ k, k < kCn kd 10 i → fr k = fb k ∧ ∃ u, u < kCn kd 1 i ∧ fr k = iN u) ∧ (∀ k, k < kCn kd 11 i → to k = tb k ∧ (∃ u, u < kCn kd 1 i ∧ to k = iN u) ∧ ¬ fr k = to k) ∧ kFb (kCn kd 7 i) 1 9 wi wb ∧ kFb (kCn kd 8 i) 1 99 co cb ∧
  (∀ k, k < kCn kd 12 i → ∃ u, u < kCn kd 3 i ∧ sB k = iN u) ∧ (∀ t, t < i → kRole kd t = 12 → mA t = sB (kCn kd 12 t)) ∧
  (∀ t, t < i → (kRole kd t = 13 ∨ kRole kd t = 14 ∨ kRole kd t = 15) → mA t = mB t) ∧ (∀ t, t < i → kRole kd t = 14 → ∃ u, u < kCn kd 3 i ∧ mA t = iN u) ∧ (∀ t, t < i → kRole kd t = 15 → ∃ u, u < kCn kd 2 i ∧ mA t = iN u) ∧
  kCn kd 11 i ≤ kCn kd 10 i ∧ ∀ t, ¬ kd t = 37 → mA t = m0 t
section RELM
variable {kd : Nat → Nat} {b m0 : Nat → Int32} {sz i n lo hi t c N : Nat} {cA ba ho nu di fr to wi co mA : Nat → Int32} {ns nl nt : Nat → Int64} {cB bb hb nb db fb tb wb cb sB mB : Nat → Int32} {v : Int32}
theorem kCn_le2 (x : Nat) : ∀ m i, kCn kd x i ≤ kCn kd x (i + m)
  | 0, _ => Nat.le_refl _
  | m + 1, i => Nat.le_trans (kCn_le2 x m i) (by
    show _ ≤ kCn kd x (i + m) + _
    omega)
theorem kCn_mono {x i j : Nat} (h : i ≤ j) : kCn kd x i ≤ kCn kd x j := by
  obtain ⟨m, rfl⟩ : ∃ m, j = i + m := ⟨j - i, by omega⟩
  exact kCn_le2 x m i
theorem kCn_lt {x k i : Nat} (h : k < i) (hr : kRole kd k = x) : kCn kd x k < kCn kd x i := by
  have h1 : kCn kd x (k + 1) ≤ kCn kd x i := kCn_mono (by omega)
  rw [kCn_s, if_pos hr] at h1
  omega
theorem kCn_ex (x : Nat) : ∀ i j, j < kCn kd x i → ∃ k, k < i ∧ kRole kd k = x ∧ kCn kd x k = j
  | 0, j, h => absurd h (by show ¬ j < 0; omega)
  | i + 1, j, h => by
    rw [kCn_s] at h
    by_cases g : kRole kd i = x
    · rw [if_pos g] at h
      by_cases e : j = kCn kd x i
      · exact ⟨i, by omega, g, e.symm⟩
      · obtain ⟨k, k1, k2, k3⟩ := kCn_ex x i j (by omega)
        exact ⟨k, by omega, k2, k3⟩
    · rw [if_neg g] at h
      obtain ⟨k, k1, k2, k3⟩ := kCn_ex x i j (by omega)
      exact ⟨k, by omega, k2, k3⟩
theorem kFb_push {lo hi n u : Nat} {f g : Nat → Int32} (h : kFb n lo hi f g) (h1 : lo ≤ u) (h2 : u ≤ hi) (hv : v = iN u) : kFb (n + 1) lo hi (kSetr f n v) (kSetr g n v) := by
  intro k hk
  unfold kSetr
  by_cases e : k = n
  · rw [if_pos e, if_pos e]
    exact ⟨rfl, u, h1, h2, hv⟩
  · rw [if_neg e, if_neg e]
    exact h k (by omega)
theorem kFn_keep {nA : Nat → Int64} (h : kFn kd b sz i c nA) (hr : ¬ kRole kd i = c) : kFn kd b sz (i + 1) c nA := by
  intro k hk hc
  by_cases e : k = i
  · rw [e] at hc
    exact absurd hc hr
  · exact h k (by omega) hc
theorem kFn_push {nA : Nat → Int64} (h : kFn kd b sz i c nA) (hr : kRole kd i = c) : kFn kd b sz (i + 1) c (kSetl nA (kCn kd c i) (kNa b (kTs b sz i) (kTl b sz i))) := by
  intro k hk hc
  unfold kSetl
  by_cases e : k = i
  · rw [e, if_pos rfl]
  · have := kCn_lt (show k < i by omega) hc
    rw [if_neg (by omega)]
    exact h k (by omega) hc
/-- both find the same name -/
theorem kTv_fi {nA : Nat → Int64} (h : kFn kd b sz t c nA) (hk : ∀ k, k < t → kRole kd k = c → (kSm b sz k t ↔ kNa b (kTs b sz k) (kTl b sz k) = kNa b (kTs b sz t) (kTl b sz t))) (ht : t < 2 ^ 31) (hv : kTv kd b sz c t v) : kFi nA (kNa b (kTs b sz t) (kTl b sz t)) (kCn kd c t) = v ∧ (v = -1 ∨ ∃ u, u < kCn kd c t ∧ v = iN u) := by
  have hc := kCn_le kd c t
  unfold kFi
  rcases hv with ⟨h1, h2⟩ | ⟨k, k1, k2, k3, k4, k5⟩
  · refine ⟨?_, Or.inl h1⟩
    rw [h1]
    refine (jfst_no _ _ (by omega)).mpr fun j _ hj => decide_eq_false fun q => ?_
    obtain ⟨k, q1, q2, q3⟩ := kCn_ex (kd := kd) c t j (by omega)
    rw [← q3, h k q1 q2] at q
    exact h2 k q1 q2 ((hk k q1 q2).mpr q)
  · have hlt := kCn_lt k1 k2
    refine ⟨?_, Or.inr ⟨_, hlt, k4⟩⟩
    rw [k4]
    refine jfst_is (by omega) (Nat.zero_le _) (by omega) (decide_eq_true ?_) fun j _ hj => decide_eq_false fun q => ?_
    · rw [h k k1 k2]
      exact (hk k k1 k2).mp k3
    · obtain ⟨l, q1, q2, q3⟩ := kCn_ex c k j hj
      rw [← q3, h l (by omega) q2] at q
      exact k5 l q1 q2 ((hk l (by omega) q2).mpr q)
theorem rel_none (h : kRel kd b sz m0 i cA ba ho nu di fr to wi co mA ns nl nt cB bb hb nb db fb tb wb cb sB mB) (hr : kRole kd i = 0)  : kRel kd b sz m0 (i + 1) cA ba ho nu di fr to wi co mA ns nl nt cB bb hb nb db fb tb wb cb sB mB := by
  obtain ⟨f1, f2, f3, f4, f5, f6, f7, f8, f9, f10, f11, f12, f13, f14, f15, f16, f17, f18, f19, f20, f21, f22, f23⟩ := h
  have cn : ∀ x, ¬ 0 = x → kCn kd x (i + 1) = kCn kd x i := fun x hx => by rw [kCn_s, hr, if_neg hx]; rfl
  have cr : kCn kd 0 (i + 1) = kCn kd 0 i + 1 := by rw [kCn_s, if_pos hr]
  refine ⟨?_, ?_, ?_, ?_, ?_, ?_, ?_, ?_, ?_, ?_, ?_, ?_, ?_, ?_, ?_, ?_, ?_, ?_, ?_, ?_, ?_, ?_, ?_⟩
  · exact by rw [cn 1 (by decide)]; exact f1
  · exact by rw [cn 2 (by decide)]; exact f2
  · exact by rw [cn 3 (by decide)]; exact f3
  · exact by rw [cn 4 (by decide)]; exact f4
  · exact kFn_keep f5 (by omega)
  · exact kFn_keep f6 (by omega)
  · exact kFn_keep f7 (by omega)
  · exact by rw [cn 5 (by decide)]; exact f8
  · exact by rw [cn 9 (by decide), cn 1 (by decide)]; exact f9
  · exact by rw [cn 6 (by decide)]; exact f10
  · exact by rw [cn 6 (by decide)]; exact f11
  · exact by rw [cn 6 (by decide)]; exact f12
  · exact by rw [cn 10 (by decide), cn 1 (by decide)]; exact f13
  · exact by rw [cn 11 (by decide), cn 1 (by decide)]; exact f14
  · exact by rw [cn 7 (by decide)]; exact f15
  · exact by rw [cn 8 (by decide)]; exact f16
  · exact by rw [cn 12 (by decide), cn 3 (by decide)]; exact f17
  · exact fun t ht hc => f18 t (by
        by_cases e : t = i
        · rw [e] at hc; omega
        · omega) hc
  · exact fun t ht hc => f19 t (by
        by_cases e : t = i
        · rw [e] at hc; omega
        · omega) hc
  · exact fun t ht hc => by
        rw [cn 3 (by decide)]
        exact f20 t (by
          by_cases e : t = i
          · rw [e] at hc; omega
          · omega) hc
  · exact fun t ht hc => by
        rw [cn 2 (by decide)]
        exact f21 t (by
          by_cases e : t = i
          · rw [e] at hc; omega
          · omega) hc
  · exact by rw [cn 11 (by decide), cn 10 (by decide)]; exact f22
  · exact f23
theorem rel_switch (h : kRel kd b sz m0 i cA ba ho nu di fr to wi co mA ns nl nt cB bb hb nb db fb tb wb cb sB mB) (hr : kRole kd i = 1) (hM : kCn kd 1 i + 1 ≤ 6) : kRel kd b sz m0 (i + 1) (kSetr cA (0) (iN (kCn kd 1 i + 1))) ba ho nu di fr to wi co mA (kSetl ns (kCn kd 1 i) (kNa b (kTs b sz i) (kTl b sz i))) nl nt (kSetr cB (0) (iN (kCn kd 1 i + 1))) bb hb nb db fb tb wb cb sB mB := by
  obtain ⟨f1, f2, f3, f4, f5, f6, f7, f8, f9, f10, f11, f12, f13, f14, f15, f16, f17, f18, f19, f20, f21, f22, f23⟩ := h
  have cn : ∀ x, ¬ 1 = x → kCn kd x (i + 1) = kCn kd x i := fun x hx => by rw [kCn_s, hr, if_neg hx]; rfl
  have cr : kCn kd 1 (i + 1) = kCn kd 1 i + 1 := by rw [kCn_s, if_pos hr]
  refine ⟨?_, ?_, ?_, ?_, ?_, ?_, ?_, ?_, ?_, ?_, ?_, ?_, ?_, ?_, ?_, ?_, ?_, ?_, ?_, ?_, ?_, ?_, ?_⟩
  · exact by
        rw [cr]
        refine ⟨?_, ?_, hM⟩
        · show (if 0 = 0 then _ else _) = _
          rw [if_pos rfl]
        · show (if 0 = 0 then _ else _) = _
          rw [if_pos rfl]
  · exact by
        rw [cn 2 (by decide)]
        refine ⟨?_, ?_, f2.2.2⟩
        · show (if 1 = 0 then _ else _) = _
          rw [if_neg (by decide)]
          exact f2.1
        · show (if 2 = 0 then _ else _) = _
          rw [if_neg (by decide)]
          exact f2.2.1
  · exact by
        rw [cn 3 (by decide)]
        refine ⟨?_, ?_, f3.2.2⟩
        · show (if 2 = 0 then _ else _) = _
          rw [if_neg (by decide)]
          exact f3.1
        · show (if 6 = 0 then _ else _) = _
          rw [if_neg (by decide)]
          exact f3.2.1
  · exact by
        rw [cn 4 (by decide)]
        refine ⟨?_, ?_, f4.2.2⟩
        · show (if 3 = 0 then _ else _) = _
          rw [if_neg (by decide)]
          exact f4.1
        · show (if 11 = 0 then _ else _) = _
          rw [if_neg (by decide)]
          exact f4.2.1
  · exact kFn_push f5 hr
  · exact kFn_keep f6 (by omega)
  · exact kFn_keep f7 (by omega)
  · exact by rw [cn 5 (by decide)]; exact f8
  · exact fun k hk => by
        rw [cn 9 (by decide)] at hk
        obtain ⟨a, u, u1, u2⟩ := f9 k hk
        exact ⟨a, u, Nat.lt_of_lt_of_le u1 (kCn_mono (by omega)), u2⟩
  · exact by rw [cn 6 (by decide)]; exact f10
  · exact by rw [cn 6 (by decide)]; exact f11
  · exact by rw [cn 6 (by decide)]; exact f12
  · exact fun k hk => by
        rw [cn 10 (by decide)] at hk
        obtain ⟨a, u, u1, u2⟩ := f13 k hk
        exact ⟨a, u, Nat.lt_of_lt_of_le u1 (kCn_mono (by omega)), u2⟩
  · exact fun k hk => by
        rw [cn 11 (by decide)] at hk
        obtain ⟨a, ⟨u, u1, u2⟩, w⟩ := f14 k hk
        exact ⟨a, ⟨u, Nat.lt_of_lt_of_le u1 (kCn_mono (by omega)), u2⟩, w⟩
  · exact by rw [cn 7 (by decide)]; exact f15
  · exact by rw [cn 8 (by decide)]; exact f16
  · exact by rw [cn 12 (by decide), cn 3 (by decide)]; exact f17
  · exact fun t ht hc => f18 t (by
        by_cases e : t = i
        · rw [e] at hc; omega
        · omega) hc
  · exact fun t ht hc => f19 t (by
        by_cases e : t = i
        · rw [e] at hc; omega
        · omega) hc
  · exact fun t ht hc => by
        rw [cn 3 (by decide)]
        exact f20 t (by
          by_cases e : t = i
          · rw [e] at hc; omega
          · omega) hc
  · exact fun t ht hc => by
        rw [cn 2 (by decide)]
        exact f21 t (by
          by_cases e : t = i
          · rw [e] at hc; omega
          · omega) hc
  · exact by rw [cn 11 (by decide), cn 10 (by decide)]; exact f22
  · exact f23
theorem rel_line (h : kRel kd b sz m0 i cA ba ho nu di fr to wi co mA ns nl nt cB bb hb nb db fb tb wb cb sB mB) (hr : kRole kd i = 2) (hM : kCn kd 2 i + 1 ≤ 10) : kRel kd b sz m0 (i + 1) (kSetr cA (1) (iN (kCn kd 2 i + 1))) ba ho nu di fr to wi co mA ns (kSetl nl (kCn kd 2 i) (kNa b (kTs b sz i) (kTl b sz i))) nt (kSetr cB (2) (iN (kCn kd 2 i + 1))) bb hb nb db fb tb wb cb sB mB := by
  obtain ⟨f1, f2, f3, f4, f5, f6, f7, f8, f9, f10, f11, f12, f13, f14, f15, f16, f17, f18, f19, f20, f21, f22, f23⟩ := h
  have cn : ∀ x, ¬ 2 = x → kCn kd x (i + 1) = kCn kd x i := fun x hx => by rw [kCn_s, hr, if_neg hx]; rfl
  have cr : kCn kd 2 (i + 1) = kCn kd 2 i + 1 := by rw [kCn_s, if_pos hr]
  refine ⟨?_, ?_, ?_, ?_, ?_, ?_, ?_, ?_, ?_, ?_, ?_, ?_, ?_, ?_, ?_, ?_, ?_, ?_, ?_, ?_, ?_, ?_, ?_⟩
  · exact by
        rw [cn 1 (by decide)]
        refine ⟨?_, ?_, f1.2.2⟩
        · show (if 0 = 1 then _ else _) = _
          rw [if_neg (by decide)]
          exact f1.1
        · show (if 0 = 2 then _ else _) = _
          rw [if_neg (by decide)]
          exact f1.2.1
  · exact by
        rw [cr]
        refine ⟨?_, ?_, hM⟩
        · show (if 1 = 1 then _ else _) = _
          rw [if_pos rfl]
        · show (if 2 = 2 then _ else _) = _
          rw [if_pos rfl]
  · exact by
        rw [cn 3 (by decide)]
        refine ⟨?_, ?_, f3.2.2⟩
        · show (if 2 = 1 then _ else _) = _
          rw [if_neg (by decide)]
          exact f3.1
        · show (if 6 = 2 then _ else _) = _
          rw [if_neg (by decide)]
          exact f3.2.1
  · exact by
        rw [cn 4 (by decide)]
        refine ⟨?_, ?_, f4.2.2⟩
        · show (if 3 = 1 then _ else _) = _
          rw [if_neg (by decide)]
          exact f4.1
        · show (if 11 = 2 then _ else _) = _
          rw [if_neg (by decide)]
          exact f4.2.1
  · exact kFn_keep f5 (by omega)
  · exact kFn_push f6 hr
  · exact kFn_keep f7 (by omega)
  · exact by rw [cn 5 (by decide)]; exact f8
  · exact by rw [cn 9 (by decide), cn 1 (by decide)]; exact f9
  · exact by rw [cn 6 (by decide)]; exact f10
  · exact by rw [cn 6 (by decide)]; exact f11
  · exact by rw [cn 6 (by decide)]; exact f12
  · exact by rw [cn 10 (by decide), cn 1 (by decide)]; exact f13
  · exact by rw [cn 11 (by decide), cn 1 (by decide)]; exact f14
  · exact by rw [cn 7 (by decide)]; exact f15
  · exact by rw [cn 8 (by decide)]; exact f16
  · exact by rw [cn 12 (by decide), cn 3 (by decide)]; exact f17
  · exact fun t ht hc => f18 t (by
        by_cases e : t = i
        · rw [e] at hc; omega
        · omega) hc
  · exact fun t ht hc => f19 t (by
        by_cases e : t = i
        · rw [e] at hc; omega
        · omega) hc
  · exact fun t ht hc => by
        rw [cn 3 (by decide)]
        exact f20 t (by
          by_cases e : t = i
          · rw [e] at hc; omega
          · omega) hc
  · exact fun t ht hc => by
        obtain ⟨u, u1, u2⟩ := f21 t (by
          by_cases e : t = i
          · rw [e] at hc; omega
          · omega) hc
        exact ⟨u, Nat.lt_of_lt_of_le u1 (kCn_mono (by omega)), u2⟩
  · exact by rw [cn 11 (by decide), cn 10 (by decide)]; exact f22
  · exact f23
theorem rel_trunk (h : kRel kd b sz m0 i cA ba ho nu di fr to wi co mA ns nl nt cB bb hb nb db fb tb wb cb sB mB) (hr : kRole kd i = 3) (hM : kCn kd 3 i + 1 ≤ 10) : kRel kd b sz m0 (i + 1) (kSetr cA (2) (iN (kCn kd 3 i + 1))) ba ho nu di fr to wi co mA ns nl (kSetl nt (kCn kd 3 i) (kNa b (kTs b sz i) (kTl b sz i))) (kSetr cB (6) (iN (kCn kd 3 i + 1))) bb hb nb db fb tb wb cb sB mB := by
  obtain ⟨f1, f2, f3, f4, f5, f6, f7, f8, f9, f10, f11, f12, f13, f14, f15, f16, f17, f18, f19, f20, f21, f22, f23⟩ := h
  have cn : ∀ x, ¬ 3 = x → kCn kd x (i + 1) = kCn kd x i := fun x hx => by rw [kCn_s, hr, if_neg hx]; rfl
  have cr : kCn kd 3 (i + 1) = kCn kd 3 i + 1 := by rw [kCn_s, if_pos hr]
  refine ⟨?_, ?_, ?_, ?_, ?_, ?_, ?_, ?_, ?_, ?_, ?_, ?_, ?_, ?_, ?_, ?_, ?_, ?_, ?_, ?_, ?_, ?_, ?_⟩
  · exact by
        rw [cn 1 (by decide)]
        refine ⟨?_, ?_, f1.2.2⟩
        · show (if 0 = 2 then _ else _) = _
          rw [if_neg (by decide)]
          exact f1.1
        · show (if 0 = 6 then _ else _) = _
          rw [if_neg (by decide)]
          exact f1.2.1
  · exact by
        rw [cn 2 (by decide)]
        refine ⟨?_, ?_, f2.2.2⟩
        · show (if 1 = 2 then _ else _) = _
          rw [if_neg (by decide)]
          exact f2.1
        · show (if 2 = 6 then _ else _) = _
          rw [if_neg (by decide)]
          exact f2.2.1
  · exact by
        rw [cr]
        refine ⟨?_, ?_, hM⟩
        · show (if 2 = 2 then _ else _) = _
          rw [if_pos rfl]
        · show (if 6 = 6 then _ else _) = _
          rw [if_pos rfl]
  · exact by
        rw [cn 4 (by decide)]
        refine ⟨?_, ?_, f4.2.2⟩
        · show (if 3 = 2 then _ else _) = _
          rw [if_neg (by decide)]
          exact f4.1
        · show (if 11 = 6 then _ else _) = _
          rw [if_neg (by decide)]
          exact f4.2.1
  · exact kFn_keep f5 (by omega)
  · exact kFn_keep f6 (by omega)
  · exact kFn_push f7 hr
  · exact by rw [cn 5 (by decide)]; exact f8
  · exact by rw [cn 9 (by decide), cn 1 (by decide)]; exact f9
  · exact by rw [cn 6 (by decide)]; exact f10
  · exact by rw [cn 6 (by decide)]; exact f11
  · exact by rw [cn 6 (by decide)]; exact f12
  · exact by rw [cn 10 (by decide), cn 1 (by decide)]; exact f13
  · exact by rw [cn 11 (by decide), cn 1 (by decide)]; exact f14
  · exact by rw [cn 7 (by decide)]; exact f15
  · exact by rw [cn 8 (by decide)]; exact f16
  · exact fun k hk => by
        rw [cn 12 (by decide)] at hk
        obtain ⟨u, u1, u2⟩ := f17 k hk
        exact ⟨u, Nat.lt_of_lt_of_le u1 (kCn_mono (by omega)), u2⟩
  · exact fun t ht hc => f18 t (by
        by_cases e : t = i
        · rw [e] at hc; omega
        · omega) hc
  · exact fun t ht hc => f19 t (by
        by_cases e : t = i
        · rw [e] at hc; omega
        · omega) hc
  · exact fun t ht hc => by
        obtain ⟨u, u1, u2⟩ := f20 t (by
          by_cases e : t = i
          · rw [e] at hc; omega
          · omega) hc
        exact ⟨u, Nat.lt_of_lt_of_le u1 (kCn_mono (by omega)), u2⟩
  · exact fun t ht hc => by
        rw [cn 2 (by decide)]
        exact f21 t (by
          by_cases e : t = i
          · rw [e] at hc; omega
          · omega) hc
  · exact by rw [cn 11 (by decide), cn 10 (by decide)]; exact f22
  · exact f23
theorem rel_shut (h : kRel kd b sz m0 i cA ba ho nu di fr to wi co mA ns nl nt cB bb hb nb db fb tb wb cb sB mB) (hr : kRole kd i = 4) (hM : kCn kd 4 i + 1 ≤ 12) : kRel kd b sz m0 (i + 1) (kSetr cA (3) (iN (kCn kd 4 i + 1))) ba ho nu di fr to wi co mA ns nl nt (kSetr cB (11) (iN (kCn kd 4 i + 1))) bb hb nb db fb tb wb cb sB mB := by
  obtain ⟨f1, f2, f3, f4, f5, f6, f7, f8, f9, f10, f11, f12, f13, f14, f15, f16, f17, f18, f19, f20, f21, f22, f23⟩ := h
  have cn : ∀ x, ¬ 4 = x → kCn kd x (i + 1) = kCn kd x i := fun x hx => by rw [kCn_s, hr, if_neg hx]; rfl
  have cr : kCn kd 4 (i + 1) = kCn kd 4 i + 1 := by rw [kCn_s, if_pos hr]
  refine ⟨?_, ?_, ?_, ?_, ?_, ?_, ?_, ?_, ?_, ?_, ?_, ?_, ?_, ?_, ?_, ?_, ?_, ?_, ?_, ?_, ?_, ?_, ?_⟩
  · exact by
        rw [cn 1 (by decide)]
        refine ⟨?_, ?_, f1.2.2⟩
        · show (if 0 = 3 then _ else _) = _
          rw [if_neg (by decide)]
          exact f1.1
        · show (if 0 = 11 then _ else _) = _
          rw [if_neg (by decide)]
          exact f1.2.1
  · exact by
        rw [cn 2 (by decide)]
        refine ⟨?_, ?_, f2.2.2⟩
        · show (if 1 = 3 then _ else _) = _
          rw [if_neg (by decide)]
          exact f2.1
        · show (if 2 = 11 then _ else _) = _
          rw [if_neg (by decide)]
          exact f2.2.1
  · exact by
        rw [cn 3 (by decide)]
        refine ⟨?_, ?_, f3.2.2⟩
        · show (if 2 = 3 then _ else _) = _
          rw [if_neg (by decide)]
          exact f3.1
        · show (if 6 = 11 then _ else _) = _
          rw [if_neg (by decide)]
          exact f3.2.1
  · exact by
        rw [cr]
        refine ⟨?_, ?_, hM⟩
        · show (if 3 = 3 then _ else _) = _
          rw [if_pos rfl]
        · show (if 11 = 11 then _ else _) = _
          rw [if_pos rfl]
  · exact kFn_keep f5 (by omega)
  · exact kFn_keep f6 (by omega)
  · exact kFn_keep f7 (by omega)
  · exact by rw [cn 5 (by decide)]; exact f8
  · exact by rw [cn 9 (by decide), cn 1 (by decide)]; exact f9
  · exact by rw [cn 6 (by decide)]; exact f10
  · exact by rw [cn 6 (by decide)]; exact f11
  · exact by rw [cn 6 (by decide)]; exact f12
  · exact by rw [cn 10 (by decide), cn 1 (by decide)]; exact f13
  · exact by rw [cn 11 (by decide), cn 1 (by decide)]; exact f14
  · exact by rw [cn 7 (by decide)]; exact f15
  · exact by rw [cn 8 (by decide)]; exact f16
  · exact by rw [cn 12 (by decide), cn 3 (by decide)]; exact f17
  · exact fun t ht hc => f18 t (by
        by_cases e : t = i
        · rw [e] at hc; omega
        · omega) hc
  · exact fun t ht hc => f19 t (by
        by_cases e : t = i
        · rw [e] at hc; omega
        · omega) hc
  · exact fun t ht hc => by
        rw [cn 3 (by decide)]
        exact f20 t (by
          by_cases e : t = i
          · rw [e] at hc; omega
          · omega) hc
  · exact fun t ht hc => by
        rw [cn 2 (by decide)]
        exact f21 t (by
          by_cases e : t = i
          · rw [e] at hc; omega
          · omega) hc
  · exact by rw [cn 11 (by decide), cn 10 (by decide)]; exact f22
  · exact f23
theorem rel_bars (h : kRel kd b sz m0 i cA ba ho nu di fr to wi co mA ns nl nt cB bb hb nb db fb tb wb cb sB mB) (hr : kRole kd i = 5) {u : Nat} (h1 : 1 ≤ u) (h2 : u ≤ 9) (hv : v = iN u) : kRel kd b sz m0 (i + 1) cA (kSetr ba (kCn kd 5 i) (v)) ho nu di fr to wi co mA ns nl nt cB (kSetr bb (kCn kd 5 i) (v)) hb nb db fb tb wb cb sB mB := by
  obtain ⟨f1, f2, f3, f4, f5, f6, f7, f8, f9, f10, f11, f12, f13, f14, f15, f16, f17, f18, f19, f20, f21, f22, f23⟩ := h
  have cn : ∀ x, ¬ 5 = x → kCn kd x (i + 1) = kCn kd x i := fun x hx => by rw [kCn_s, hr, if_neg hx]; rfl
  have cr : kCn kd 5 (i + 1) = kCn kd 5 i + 1 := by rw [kCn_s, if_pos hr]
  refine ⟨?_, ?_, ?_, ?_, ?_, ?_, ?_, ?_, ?_, ?_, ?_, ?_, ?_, ?_, ?_, ?_, ?_, ?_, ?_, ?_, ?_, ?_, ?_⟩
  · exact by rw [cn 1 (by decide)]; exact f1
  · exact by rw [cn 2 (by decide)]; exact f2
  · exact by rw [cn 3 (by decide)]; exact f3
  · exact by rw [cn 4 (by decide)]; exact f4
  · exact kFn_keep f5 (by omega)
  · exact kFn_keep f6 (by omega)
  · exact kFn_keep f7 (by omega)
  · exact by rw [cr]; exact kFb_push f8 h1 h2 hv
  · exact by rw [cn 9 (by decide), cn 1 (by decide)]; exact f9
  · exact by rw [cn 6 (by decide)]; exact f10
  · exact by rw [cn 6 (by decide)]; exact f11
  · exact by rw [cn 6 (by decide)]; exact f12
  · exact by rw [cn 10 (by decide), cn 1 (by decide)]; exact f13
  · exact by rw [cn 11 (by decide), cn 1 (by decide)]; exact f14
  · exact by rw [cn 7 (by decide)]; exact f15
  · exact by rw [cn 8 (by decide)]; exact f16
  · exact by rw [cn 12 (by decide), cn 3 (by decide)]; exact f17
  · exact fun t ht hc => f18 t (by
        by_cases e : t = i
        · rw [e] at hc; omega
        · omega) hc
  · exact fun t ht hc => f19 t (by
        by_cases e : t = i
        · rw [e] at hc; omega
        · omega) hc
  · exact fun t ht hc => by
        rw [cn 3 (by decide)]
        exact f20 t (by
          by_cases e : t = i
          · rw [e] at hc; omega
          · omega) hc
  · exact fun t ht hc => by
        rw [cn 2 (by decide)]
        exact f21 t (by
          by_cases e : t = i
          · rw [e] at hc; omega
          · omega) hc
  · exact by rw [cn 11 (by decide), cn 10 (by decide)]; exact f22
  · exact f23
theorem rel_wires (h : kRel kd b sz m0 i cA ba ho nu di fr to wi co mA ns nl nt cB bb hb nb db fb tb wb cb sB mB) (hr : kRole kd i = 7) {u : Nat} (h1 : 1 ≤ u) (h2 : u ≤ 9) (hv : v = iN u) : kRel kd b sz m0 (i + 1) cA ba ho nu di fr to (kSetr wi (kCn kd 7 i) (v)) co mA ns nl nt cB bb hb nb db fb tb (kSetr wb (kCn kd 7 i) (v)) cb sB mB := by
  obtain ⟨f1, f2, f3, f4, f5, f6, f7, f8, f9, f10, f11, f12, f13, f14, f15, f16, f17, f18, f19, f20, f21, f22, f23⟩ := h
  have cn : ∀ x, ¬ 7 = x → kCn kd x (i + 1) = kCn kd x i := fun x hx => by rw [kCn_s, hr, if_neg hx]; rfl
  have cr : kCn kd 7 (i + 1) = kCn kd 7 i + 1 := by rw [kCn_s, if_pos hr]
  refine ⟨?_, ?_, ?_, ?_, ?_, ?_, ?_, ?_, ?_, ?_, ?_, ?_, ?_, ?_, ?_, ?_, ?_, ?_, ?_, ?_, ?_, ?_, ?_⟩
  · exact by rw [cn 1 (by decide)]; exact f1
  · exact by rw [cn 2 (by decide)]; exact f2
  · exact by rw [cn 3 (by decide)]; exact f3
  · exact by rw [cn 4 (by decide)]; exact f4
  · exact kFn_keep f5 (by omega)
  · exact kFn_keep f6 (by omega)
  · exact kFn_keep f7 (by omega)
  · exact by rw [cn 5 (by decide)]; exact f8
  · exact by rw [cn 9 (by decide), cn 1 (by decide)]; exact f9
  · exact by rw [cn 6 (by decide)]; exact f10
  · exact by rw [cn 6 (by decide)]; exact f11
  · exact by rw [cn 6 (by decide)]; exact f12
  · exact by rw [cn 10 (by decide), cn 1 (by decide)]; exact f13
  · exact by rw [cn 11 (by decide), cn 1 (by decide)]; exact f14
  · exact by rw [cr]; exact kFb_push f15 h1 h2 hv
  · exact by rw [cn 8 (by decide)]; exact f16
  · exact by rw [cn 12 (by decide), cn 3 (by decide)]; exact f17
  · exact fun t ht hc => f18 t (by
        by_cases e : t = i
        · rw [e] at hc; omega
        · omega) hc
  · exact fun t ht hc => f19 t (by
        by_cases e : t = i
        · rw [e] at hc; omega
        · omega) hc
  · exact fun t ht hc => by
        rw [cn 3 (by decide)]
        exact f20 t (by
          by_cases e : t = i
          · rw [e] at hc; omega
          · omega) hc
  · exact fun t ht hc => by
        rw [cn 2 (by decide)]
        exact f21 t (by
          by_cases e : t = i
          · rw [e] at hc; omega
          · omega) hc
  · exact by rw [cn 11 (by decide), cn 10 (by decide)]; exact f22
  · exact f23
theorem rel_cost (h : kRel kd b sz m0 i cA ba ho nu di fr to wi co mA ns nl nt cB bb hb nb db fb tb wb cb sB mB) (hr : kRole kd i = 8) {u : Nat} (h1 : 1 ≤ u) (h2 : u ≤ 99) (hv : v = iN u) : kRel kd b sz m0 (i + 1) cA ba ho nu di fr to wi (kSetr co (kCn kd 8 i) (v)) mA ns nl nt cB bb hb nb db fb tb wb (kSetr cb (kCn kd 8 i) (v)) sB mB := by
  obtain ⟨f1, f2, f3, f4, f5, f6, f7, f8, f9, f10, f11, f12, f13, f14, f15, f16, f17, f18, f19, f20, f21, f22, f23⟩ := h
  have cn : ∀ x, ¬ 8 = x → kCn kd x (i + 1) = kCn kd x i := fun x hx => by rw [kCn_s, hr, if_neg hx]; rfl
  have cr : kCn kd 8 (i + 1) = kCn kd 8 i + 1 := by rw [kCn_s, if_pos hr]
  refine ⟨?_, ?_, ?_, ?_, ?_, ?_, ?_, ?_, ?_, ?_, ?_, ?_, ?_, ?_, ?_, ?_, ?_, ?_, ?_, ?_, ?_, ?_, ?_⟩
  · exact by rw [cn 1 (by decide)]; exact f1
  · exact by rw [cn 2 (by decide)]; exact f2
  · exact by rw [cn 3 (by decide)]; exact f3
  · exact by rw [cn 4 (by decide)]; exact f4
  · exact kFn_keep f5 (by omega)
  · exact kFn_keep f6 (by omega)
  · exact kFn_keep f7 (by omega)
  · exact by rw [cn 5 (by decide)]; exact f8
  · exact by rw [cn 9 (by decide), cn 1 (by decide)]; exact f9
  · exact by rw [cn 6 (by decide)]; exact f10
  · exact by rw [cn 6 (by decide)]; exact f11
  · exact by rw [cn 6 (by decide)]; exact f12
  · exact by rw [cn 10 (by decide), cn 1 (by decide)]; exact f13
  · exact by rw [cn 11 (by decide), cn 1 (by decide)]; exact f14
  · exact by rw [cn 7 (by decide)]; exact f15
  · exact by rw [cr]; exact kFb_push f16 h1 h2 hv
  · exact by rw [cn 12 (by decide), cn 3 (by decide)]; exact f17
  · exact fun t ht hc => f18 t (by
        by_cases e : t = i
        · rw [e] at hc; omega
        · omega) hc
  · exact fun t ht hc => f19 t (by
        by_cases e : t = i
        · rw [e] at hc; omega
        · omega) hc
  · exact fun t ht hc => by
        rw [cn 3 (by decide)]
        exact f20 t (by
          by_cases e : t = i
          · rw [e] at hc; omega
          · omega) hc
  · exact fun t ht hc => by
        rw [cn 2 (by decide)]
        exact f21 t (by
          by_cases e : t = i
          · rw [e] at hc; omega
          · omega) hc
  · exact by rw [cn 11 (by decide), cn 10 (by decide)]; exact f22
  · exact f23
theorem rel_at (h : kRel kd b sz m0 i cA ba ho nu di fr to wi co mA ns nl nt cB bb hb nb db fb tb wb cb sB mB) (hr : kRole kd i = 9) {u : Nat} (h1 : u < kCn kd 1 i) (hv : v = iN u) : kRel kd b sz m0 (i + 1) cA ba (kSetr ho (kCn kd 9 i) (v)) nu di fr to wi co (kSetr mA (i) (v)) ns nl nt cB bb (kSetr hb (kCn kd 9 i) (v)) nb db fb tb wb cb sB (kSetr mB (i) (v)) := by
  obtain ⟨f1, f2, f3, f4, f5, f6, f7, f8, f9, f10, f11, f12, f13, f14, f15, f16, f17, f18, f19, f20, f21, f22, f23⟩ := h
  have cn : ∀ x, ¬ 9 = x → kCn kd x (i + 1) = kCn kd x i := fun x hx => by rw [kCn_s, hr, if_neg hx]; rfl
  have cr : kCn kd 9 (i + 1) = kCn kd 9 i + 1 := by rw [kCn_s, if_pos hr]
  refine ⟨?_, ?_, ?_, ?_, ?_, ?_, ?_, ?_, ?_, ?_, ?_, ?_, ?_, ?_, ?_, ?_, ?_, ?_, ?_, ?_, ?_, ?_, ?_⟩
  · exact by rw [cn 1 (by decide)]; exact f1
  · exact by rw [cn 2 (by decide)]; exact f2
  · exact by rw [cn 3 (by decide)]; exact f3
  · exact by rw [cn 4 (by decide)]; exact f4
  · exact kFn_keep f5 (by omega)
  · exact kFn_keep f6 (by omega)
  · exact kFn_keep f7 (by omega)
  · exact by rw [cn 5 (by decide)]; exact f8
  · exact fun k hk => by
        rw [cr] at hk
        rw [cn 1 (by decide)]
        unfold kSetr
        by_cases e : k = kCn kd 9 i
        · rw [if_pos e, if_pos e]
          exact ⟨rfl, u, h1, hv⟩
        · rw [if_neg e, if_neg e]
          exact f9 k (by omega)
  · exact by rw [cn 6 (by decide)]; exact f10
  · exact by rw [cn 6 (by decide)]; exact f11
  · exact by rw [cn 6 (by decide)]; exact f12
  · exact by rw [cn 10 (by decide), cn 1 (by decide)]; exact f13
  · exact by rw [cn 11 (by decide), cn 1 (by decide)]; exact f14
  · exact by rw [cn 7 (by decide)]; exact f15
  · exact by rw [cn 8 (by decide)]; exact f16
  · exact by rw [cn 12 (by decide), cn 3 (by decide)]; exact f17
  · exact fun t ht hc => by
        unfold kSetr
        by_cases e : t = i
        · rw [e] at hc; omega
        · rw [if_neg e]
          exact f18 t (by omega) hc
  · exact fun t ht hc => by
        unfold kSetr
        by_cases e : t = i
        · rw [if_pos e, if_pos e]
        · rw [if_neg e, if_neg e]
          exact f19 t (by omega) hc
  · exact fun t ht hc => by
        rw [cn 3 (by decide)]
        unfold kSetr
        by_cases e : t = i
        · rw [e] at hc; omega
        · rw [if_neg e]
          exact f20 t (by omega) hc
  · exact fun t ht hc => by
        rw [cn 2 (by decide)]
        unfold kSetr
        by_cases e : t = i
        · rw [e] at hc; omega
        · rw [if_neg e]
          exact f21 t (by omega) hc
  · exact by rw [cn 11 (by decide), cn 10 (by decide)]; exact f22
  · exact fun t ht => by
        unfold kSetr
        rw [if_neg (fun e => ht (by rw [e]; exact kRole_37 hr (by decide)))]
        exact f23 t ht
theorem rel_from (h : kRel kd b sz m0 i cA ba ho nu di fr to wi co mA ns nl nt cB bb hb nb db fb tb wb cb sB mB) (hr : kRole kd i = 10) {u : Nat} (h1 : u < kCn kd 1 i) (hv : v = iN u) : kRel kd b sz m0 (i + 1) cA ba ho nu di (kSetr fr (kCn kd 10 i) (v)) to wi co (kSetr mA (i) (v)) ns nl nt cB bb hb nb db (kSetr fb (kCn kd 10 i) (v)) tb wb cb sB (kSetr mB (i) (v)) := by
  obtain ⟨f1, f2, f3, f4, f5, f6, f7, f8, f9, f10, f11, f12, f13, f14, f15, f16, f17, f18, f19, f20, f21, f22, f23⟩ := h
  have cn : ∀ x, ¬ 10 = x → kCn kd x (i + 1) = kCn kd x i := fun x hx => by rw [kCn_s, hr, if_neg hx]; rfl
  have cr : kCn kd 10 (i + 1) = kCn kd 10 i + 1 := by rw [kCn_s, if_pos hr]
  refine ⟨?_, ?_, ?_, ?_, ?_, ?_, ?_, ?_, ?_, ?_, ?_, ?_, ?_, ?_, ?_, ?_, ?_, ?_, ?_, ?_, ?_, ?_, ?_⟩
  · exact by rw [cn 1 (by decide)]; exact f1
  · exact by rw [cn 2 (by decide)]; exact f2
  · exact by rw [cn 3 (by decide)]; exact f3
  · exact by rw [cn 4 (by decide)]; exact f4
  · exact kFn_keep f5 (by omega)
  · exact kFn_keep f6 (by omega)
  · exact kFn_keep f7 (by omega)
  · exact by rw [cn 5 (by decide)]; exact f8
  · exact by rw [cn 9 (by decide), cn 1 (by decide)]; exact f9
  · exact by rw [cn 6 (by decide)]; exact f10
  · exact by rw [cn 6 (by decide)]; exact f11
  · exact by rw [cn 6 (by decide)]; exact f12
  · exact fun k hk => by
        rw [cr] at hk
        rw [cn 1 (by decide)]
        unfold kSetr
        by_cases e : k = kCn kd 10 i
        · rw [if_pos e, if_pos e]
          exact ⟨rfl, u, h1, hv⟩
        · rw [if_neg e, if_neg e]
          exact f13 k (by omega)
  · exact fun k hk => by
        rw [cn 11 (by decide)] at hk
        rw [cn 1 (by decide)]
        unfold kSetr
        rw [if_neg (by omega)]
        exact f14 k hk
  · exact by rw [cn 7 (by decide)]; exact f15
  · exact by rw [cn 8 (by decide)]; exact f16
  · exact by rw [cn 12 (by decide), cn 3 (by decide)]; exact f17
  · exact fun t ht hc => by
        unfold kSetr
        by_cases e : t = i
        · rw [e] at hc; omega
        · rw [if_neg e]
          exact f18 t (by omega) hc
  · exact fun t ht hc => by
        unfold kSetr
        by_cases e : t = i
        · rw [if_pos e, if_pos e]
        · rw [if_neg e, if_neg e]
          exact f19 t (by omega) hc
  · exact fun t ht hc => by
        rw [cn 3 (by decide)]
        unfold kSetr
        by_cases e : t = i
        · rw [e] at hc; omega
        · rw [if_neg e]
          exact f20 t (by omega) hc
  · exact fun t ht hc => by
        rw [cn 2 (by decide)]
        unfold kSetr
        by_cases e : t = i
        · rw [e] at hc; omega
        · rw [if_neg e]
          exact f21 t (by omega) hc
  · exact by rw [cn 11 (by decide), cr]; omega
  · exact fun t ht => by
        unfold kSetr
        rw [if_neg (fun e => ht (by rw [e]; exact kRole_37 hr (by decide)))]
        exact f23 t ht
theorem rel_to (h : kRel kd b sz m0 i cA ba ho nu di fr to wi co mA ns nl nt cB bb hb nb db fb tb wb cb sB mB) (hr : kRole kd i = 11) {u : Nat} (h1 : u < kCn kd 1 i) (hv : v = iN u) (hne : ¬ fr (kCn kd 11 i) = v) (hle : kCn kd 11 i + 1 ≤ kCn kd 10 i) : kRel kd b sz m0 (i + 1) cA ba ho nu di fr (kSetr to (kCn kd 11 i) (v)) wi co (kSetr mA (i) (v)) ns nl nt cB bb hb nb db fb (kSetr tb (kCn kd 11 i) (v)) wb cb sB (kSetr mB (i) (v)) := by
  obtain ⟨f1, f2, f3, f4, f5, f6, f7, f8, f9, f10, f11, f12, f13, f14, f15, f16, f17, f18, f19, f20, f21, f22, f23⟩ := h
  have cn : ∀ x, ¬ 11 = x → kCn kd x (i + 1) = kCn kd x i := fun x hx => by rw [kCn_s, hr, if_neg hx]; rfl
  have cr : kCn kd 11 (i + 1) = kCn kd 11 i + 1 := by rw [kCn_s, if_pos hr]
  refine ⟨?_, ?_, ?_, ?_, ?_, ?_, ?_, ?_, ?_, ?_, ?_, ?_, ?_, ?_, ?_, ?_, ?_, ?_, ?_, ?_, ?_, ?_, ?_⟩
  · exact by rw [cn 1 (by decide)]; exact f1
  · exact by rw [cn 2 (by decide)]; exact f2
  · exact by rw [cn 3 (by decide)]; exact f3
  · exact by rw [cn 4 (by decide)]; exact f4
  · exact kFn_keep f5 (by omega)
  · exact kFn_keep f6 (by omega)
  · exact kFn_keep f7 (by omega)
  · exact by rw [cn 5 (by decide)]; exact f8
  · exact by rw [cn 9 (by decide), cn 1 (by decide)]; exact f9
  · exact by rw [cn 6 (by decide)]; exact f10
  · exact by rw [cn 6 (by decide)]; exact f11
  · exact by rw [cn 6 (by decide)]; exact f12
  · exact by rw [cn 10 (by decide), cn 1 (by decide)]; exact f13
  · exact fun k hk => by
        rw [cr] at hk
        rw [cn 1 (by decide)]
        unfold kSetr
        by_cases e : k = kCn kd 11 i
        · rw [if_pos e, if_pos e]
          exact ⟨rfl, ⟨u, h1, hv⟩, by rw [e]; exact hne⟩
        · rw [if_neg e, if_neg e]
          exact f14 k (by omega)
  · exact by rw [cn 7 (by decide)]; exact f15
  · exact by rw [cn 8 (by decide)]; exact f16
  · exact by rw [cn 12 (by decide), cn 3 (by decide)]; exact f17
  · exact fun t ht hc => by
        unfold kSetr
        by_cases e : t = i
        · rw [e] at hc; omega
        · rw [if_neg e]
          exact f18 t (by omega) hc
  · exact fun t ht hc => by
        unfold kSetr
        by_cases e : t = i
        · rw [if_pos e, if_pos e]
        · rw [if_neg e, if_neg e]
          exact f19 t (by omega) hc
  · exact fun t ht hc => by
        rw [cn 3 (by decide)]
        unfold kSetr
        by_cases e : t = i
        · rw [e] at hc; omega
        · rw [if_neg e]
          exact f20 t (by omega) hc
  · exact fun t ht hc => by
        rw [cn 2 (by decide)]
        unfold kSetr
        by_cases e : t = i
        · rw [e] at hc; omega
        · rw [if_neg e]
          exact f21 t (by omega) hc
  · exact by rw [cn 10 (by decide), cr]; exact hle
  · exact fun t ht => by
        unfold kSetr
        rw [if_neg (fun e => ht (by rw [e]; exact kRole_37 hr (by decide)))]
        exact f23 t ht
theorem rel_shutname (h : kRel kd b sz m0 i cA ba ho nu di fr to wi co mA ns nl nt cB bb hb nb db fb tb wb cb sB mB) (hr : kRole kd i = 12) {u : Nat} (h1 : u < kCn kd 3 i) (hv : v = iN u) : kRel kd b sz m0 (i + 1) cA ba ho nu di fr to wi co (kSetr mA (i) (v)) ns nl nt cB bb hb nb db fb tb wb cb (kSetr sB (kCn kd 12 i) (v)) (kSetr mB (i) (v)) := by
  obtain ⟨f1, f2, f3, f4, f5, f6, f7, f8, f9, f10, f11, f12, f13, f14, f15, f16, f17, f18, f19, f20, f21, f22, f23⟩ := h
  have cn : ∀ x, ¬ 12 = x → kCn kd x (i + 1) = kCn kd x i := fun x hx => by rw [kCn_s, hr, if_neg hx]; rfl
  have cr : kCn kd 12 (i + 1) = kCn kd 12 i + 1 := by rw [kCn_s, if_pos hr]
  refine ⟨?_, ?_, ?_, ?_, ?_, ?_, ?_, ?_, ?_, ?_, ?_, ?_, ?_, ?_, ?_, ?_, ?_, ?_, ?_, ?_, ?_, ?_, ?_⟩
  · exact by rw [cn 1 (by decide)]; exact f1
  · exact by rw [cn 2 (by decide)]; exact f2
  · exact by rw [cn 3 (by decide)]; exact f3
  · exact by rw [cn 4 (by decide)]; exact f4
  · exact kFn_keep f5 (by omega)
  · exact kFn_keep f6 (by omega)
  · exact kFn_keep f7 (by omega)
  · exact by rw [cn 5 (by decide)]; exact f8
  · exact by rw [cn 9 (by decide), cn 1 (by decide)]; exact f9
  · exact by rw [cn 6 (by decide)]; exact f10
  · exact by rw [cn 6 (by decide)]; exact f11
  · exact by rw [cn 6 (by decide)]; exact f12
  · exact by rw [cn 10 (by decide), cn 1 (by decide)]; exact f13
  · exact by rw [cn 11 (by decide), cn 1 (by decide)]; exact f14
  · exact by rw [cn 7 (by decide)]; exact f15
  · exact by rw [cn 8 (by decide)]; exact f16
  · exact fun k hk => by
        rw [cr] at hk
        rw [cn 3 (by decide)]
        unfold kSetr
        by_cases e : k = kCn kd 12 i
        · rw [if_pos e]
          exact ⟨u, h1, hv⟩
        · rw [if_neg e]
          exact f17 k (by omega)
  · exact fun t ht hc => by
        unfold kSetr
        by_cases e : t = i
        · rw [if_pos e, e, if_pos rfl]
        · have := kCn_lt (show t < i by omega) hc
          rw [if_neg e, if_neg (by omega)]
          exact f18 t (by omega) hc
  · exact fun t ht hc => by
        unfold kSetr
        by_cases e : t = i
        · rw [if_pos e, if_pos e]
        · rw [if_neg e, if_neg e]
          exact f19 t (by omega) hc
  · exact fun t ht hc => by
        rw [cn 3 (by decide)]
        unfold kSetr
        by_cases e : t = i
        · rw [e] at hc; omega
        · rw [if_neg e]
          exact f20 t (by omega) hc
  · exact fun t ht hc => by
        rw [cn 2 (by decide)]
        unfold kSetr
        by_cases e : t = i
        · rw [e] at hc; omega
        · rw [if_neg e]
          exact f21 t (by omega) hc
  · exact by rw [cn 11 (by decide), cn 10 (by decide)]; exact f22
  · exact fun t ht => by
        unfold kSetr
        rw [if_neg (fun e => ht (by rw [e]; exact kRole_37 hr (by decide)))]
        exact f23 t ht
theorem rel_load (h : kRel kd b sz m0 i cA ba ho nu di fr to wi co mA ns nl nt cB bb hb nb db fb tb wb cb sB mB) (hr : kRole kd i = 13)  : kRel kd b sz m0 (i + 1) cA ba ho nu di fr to wi co (kSetr mA (i) (v)) ns nl nt cB bb hb nb db fb tb wb cb sB (kSetr mB (i) (v)) := by
  obtain ⟨f1, f2, f3, f4, f5, f6, f7, f8, f9, f10, f11, f12, f13, f14, f15, f16, f17, f18, f19, f20, f21, f22, f23⟩ := h
  have cn : ∀ x, ¬ 13 = x → kCn kd x (i + 1) = kCn kd x i := fun x hx => by rw [kCn_s, hr, if_neg hx]; rfl
  have cr : kCn kd 13 (i + 1) = kCn kd 13 i + 1 := by rw [kCn_s, if_pos hr]
  refine ⟨?_, ?_, ?_, ?_, ?_, ?_, ?_, ?_, ?_, ?_, ?_, ?_, ?_, ?_, ?_, ?_, ?_, ?_, ?_, ?_, ?_, ?_, ?_⟩
  · exact by rw [cn 1 (by decide)]; exact f1
  · exact by rw [cn 2 (by decide)]; exact f2
  · exact by rw [cn 3 (by decide)]; exact f3
  · exact by rw [cn 4 (by decide)]; exact f4
  · exact kFn_keep f5 (by omega)
  · exact kFn_keep f6 (by omega)
  · exact kFn_keep f7 (by omega)
  · exact by rw [cn 5 (by decide)]; exact f8
  · exact by rw [cn 9 (by decide), cn 1 (by decide)]; exact f9
  · exact by rw [cn 6 (by decide)]; exact f10
  · exact by rw [cn 6 (by decide)]; exact f11
  · exact by rw [cn 6 (by decide)]; exact f12
  · exact by rw [cn 10 (by decide), cn 1 (by decide)]; exact f13
  · exact by rw [cn 11 (by decide), cn 1 (by decide)]; exact f14
  · exact by rw [cn 7 (by decide)]; exact f15
  · exact by rw [cn 8 (by decide)]; exact f16
  · exact by rw [cn 12 (by decide), cn 3 (by decide)]; exact f17
  · exact fun t ht hc => by
        unfold kSetr
        by_cases e : t = i
        · rw [e] at hc; omega
        · rw [if_neg e]
          exact f18 t (by omega) hc
  · exact fun t ht hc => by
        unfold kSetr
        by_cases e : t = i
        · rw [if_pos e, if_pos e]
        · rw [if_neg e, if_neg e]
          exact f19 t (by omega) hc
  · exact fun t ht hc => by
        rw [cn 3 (by decide)]
        unfold kSetr
        by_cases e : t = i
        · rw [e] at hc; omega
        · rw [if_neg e]
          exact f20 t (by omega) hc
  · exact fun t ht hc => by
        rw [cn 2 (by decide)]
        unfold kSetr
        by_cases e : t = i
        · rw [e] at hc; omega
        · rw [if_neg e]
          exact f21 t (by omega) hc
  · exact by rw [cn 11 (by decide), cn 10 (by decide)]; exact f22
  · exact fun t ht => by
        unfold kSetr
        rw [if_neg (fun e => ht (by rw [e]; exact kRole_37 hr (by decide)))]
        exact f23 t ht
theorem rel_free (h : kRel kd b sz m0 i cA ba ho nu di fr to wi co mA ns nl nt cB bb hb nb db fb tb wb cb sB mB) (hr : kRole kd i = 14) {u : Nat} (h1 : u < kCn kd 3 i) (hv : v = iN u) : kRel kd b sz m0 (i + 1) cA ba ho nu di fr to wi co (kSetr mA (i) (v)) ns nl nt cB bb hb nb db fb tb wb cb sB (kSetr mB (i) (v)) := by
  obtain ⟨f1, f2, f3, f4, f5, f6, f7, f8, f9, f10, f11, f12, f13, f14, f15, f16, f17, f18, f19, f20, f21, f22, f23⟩ := h
  have cn : ∀ x, ¬ 14 = x → kCn kd x (i + 1) = kCn kd x i := fun x hx => by rw [kCn_s, hr, if_neg hx]; rfl
  have cr : kCn kd 14 (i + 1) = kCn kd 14 i + 1 := by rw [kCn_s, if_pos hr]
  refine ⟨?_, ?_, ?_, ?_, ?_, ?_, ?_, ?_, ?_, ?_, ?_, ?_, ?_, ?_, ?_, ?_, ?_, ?_, ?_, ?_, ?_, ?_, ?_⟩
  · exact by rw [cn 1 (by decide)]; exact f1
  · exact by rw [cn 2 (by decide)]; exact f2
  · exact by rw [cn 3 (by decide)]; exact f3
  · exact by rw [cn 4 (by decide)]; exact f4
  · exact kFn_keep f5 (by omega)
  · exact kFn_keep f6 (by omega)
  · exact kFn_keep f7 (by omega)
  · exact by rw [cn 5 (by decide)]; exact f8
  · exact by rw [cn 9 (by decide), cn 1 (by decide)]; exact f9
  · exact by rw [cn 6 (by decide)]; exact f10
  · exact by rw [cn 6 (by decide)]; exact f11
  · exact by rw [cn 6 (by decide)]; exact f12
  · exact by rw [cn 10 (by decide), cn 1 (by decide)]; exact f13
  · exact by rw [cn 11 (by decide), cn 1 (by decide)]; exact f14
  · exact by rw [cn 7 (by decide)]; exact f15
  · exact by rw [cn 8 (by decide)]; exact f16
  · exact by rw [cn 12 (by decide), cn 3 (by decide)]; exact f17
  · exact fun t ht hc => by
        unfold kSetr
        by_cases e : t = i
        · rw [e] at hc; omega
        · rw [if_neg e]
          exact f18 t (by omega) hc
  · exact fun t ht hc => by
        unfold kSetr
        by_cases e : t = i
        · rw [if_pos e, if_pos e]
        · rw [if_neg e, if_neg e]
          exact f19 t (by omega) hc
  · exact fun t ht hc => by
        rw [cn 3 (by decide)]
        unfold kSetr
        by_cases e : t = i
        · rw [if_pos e]
          exact ⟨u, h1, hv⟩
        · rw [if_neg e]
          exact f20 t (by omega) hc
  · exact fun t ht hc => by
        rw [cn 2 (by decide)]
        unfold kSetr
        by_cases e : t = i
        · rw [e] at hc; omega
        · rw [if_neg e]
          exact f21 t (by omega) hc
  · exact by rw [cn 11 (by decide), cn 10 (by decide)]; exact f22
  · exact fun t ht => by
        unfold kSetr
        rw [if_neg (fun e => ht (by rw [e]; exact kRole_37 hr (by decide)))]
        exact f23 t ht
theorem rel_idle (h : kRel kd b sz m0 i cA ba ho nu di fr to wi co mA ns nl nt cB bb hb nb db fb tb wb cb sB mB) (hr : kRole kd i = 15) {u : Nat} (h1 : u < kCn kd 2 i) (hv : v = iN u) : kRel kd b sz m0 (i + 1) cA ba ho nu di fr to wi co (kSetr mA (i) (v)) ns nl nt cB bb hb nb db fb tb wb cb sB (kSetr mB (i) (v)) := by
  obtain ⟨f1, f2, f3, f4, f5, f6, f7, f8, f9, f10, f11, f12, f13, f14, f15, f16, f17, f18, f19, f20, f21, f22, f23⟩ := h
  have cn : ∀ x, ¬ 15 = x → kCn kd x (i + 1) = kCn kd x i := fun x hx => by rw [kCn_s, hr, if_neg hx]; rfl
  have cr : kCn kd 15 (i + 1) = kCn kd 15 i + 1 := by rw [kCn_s, if_pos hr]
  refine ⟨?_, ?_, ?_, ?_, ?_, ?_, ?_, ?_, ?_, ?_, ?_, ?_, ?_, ?_, ?_, ?_, ?_, ?_, ?_, ?_, ?_, ?_, ?_⟩
  · exact by rw [cn 1 (by decide)]; exact f1
  · exact by rw [cn 2 (by decide)]; exact f2
  · exact by rw [cn 3 (by decide)]; exact f3
  · exact by rw [cn 4 (by decide)]; exact f4
  · exact kFn_keep f5 (by omega)
  · exact kFn_keep f6 (by omega)
  · exact kFn_keep f7 (by omega)
  · exact by rw [cn 5 (by decide)]; exact f8
  · exact by rw [cn 9 (by decide), cn 1 (by decide)]; exact f9
  · exact by rw [cn 6 (by decide)]; exact f10
  · exact by rw [cn 6 (by decide)]; exact f11
  · exact by rw [cn 6 (by decide)]; exact f12
  · exact by rw [cn 10 (by decide), cn 1 (by decide)]; exact f13
  · exact by rw [cn 11 (by decide), cn 1 (by decide)]; exact f14
  · exact by rw [cn 7 (by decide)]; exact f15
  · exact by rw [cn 8 (by decide)]; exact f16
  · exact by rw [cn 12 (by decide), cn 3 (by decide)]; exact f17
  · exact fun t ht hc => by
        unfold kSetr
        by_cases e : t = i
        · rw [e] at hc; omega
        · rw [if_neg e]
          exact f18 t (by omega) hc
  · exact fun t ht hc => by
        unfold kSetr
        by_cases e : t = i
        · rw [if_pos e, if_pos e]
        · rw [if_neg e, if_neg e]
          exact f19 t (by omega) hc
  · exact fun t ht hc => by
        rw [cn 3 (by decide)]
        unfold kSetr
        by_cases e : t = i
        · rw [e] at hc; omega
        · rw [if_neg e]
          exact f20 t (by omega) hc
  · exact fun t ht hc => by
        rw [cn 2 (by decide)]
        unfold kSetr
        by_cases e : t = i
        · rw [if_pos e]
          exact ⟨u, h1, hv⟩
        · rw [if_neg e]
          exact f21 t (by omega) hc
  · exact by rw [cn 11 (by decide), cn 10 (by decide)]; exact f22
  · exact fun t ht => by
        unfold kSetr
        rw [if_neg (fun e => ht (by rw [e]; exact kRole_37 hr (by decide)))]
        exact f23 t ht
theorem rel_dials (h : kRel kd b sz m0 i cA ba ho nu di fr to wi co mA ns nl nt cB bb hb nb db fb tb wb cb sB mB) (hr : kRole kd i = 6) {w : Int32} {u : Nat} (h1 : 1 ≤ u) (h2 : u ≤ 6) (hw : w = iN u) (hno : ∀ l, l < kCn kd 6 i → ¬ kHp nu di v w l) : kRel kd b sz m0 (i + 1) cA ba ho (kSetr nu (kCn kd 6 i) (v)) (kSetr di (kCn kd 6 i) (w)) fr to wi co mA ns nl nt cB bb hb (kSetr nb (kCn kd 6 i) (v)) (kSetr db (kCn kd 6 i) (w)) fb tb wb cb sB mB := by
  obtain ⟨f1, f2, f3, f4, f5, f6, f7, f8, f9, f10, f11, f12, f13, f14, f15, f16, f17, f18, f19, f20, f21, f22, f23⟩ := h
  have cn : ∀ x, ¬ 6 = x → kCn kd x (i + 1) = kCn kd x i := fun x hx => by rw [kCn_s, hr, if_neg hx]; rfl
  have cr : kCn kd 6 (i + 1) = kCn kd 6 i + 1 := by rw [kCn_s, if_pos hr]
  refine ⟨?_, ?_, ?_, ?_, ?_, ?_, ?_, ?_, ?_, ?_, ?_, ?_, ?_, ?_, ?_, ?_, ?_, ?_, ?_, ?_, ?_, ?_, ?_⟩
  · exact by rw [cn 1 (by decide)]; exact f1
  · exact by rw [cn 2 (by decide)]; exact f2
  · exact by rw [cn 3 (by decide)]; exact f3
  · exact by rw [cn 4 (by decide)]; exact f4
  · exact kFn_keep f5 (by omega)
  · exact kFn_keep f6 (by omega)
  · exact kFn_keep f7 (by omega)
  · exact by rw [cn 5 (by decide)]; exact f8
  · exact by rw [cn 9 (by decide), cn 1 (by decide)]; exact f9
  · exact fun k hk => by
        rw [cr] at hk
        unfold kSetr
        by_cases e : k = kCn kd 6 i
        · rw [if_pos e, if_pos e]
        · rw [if_neg e, if_neg e]
          exact f10 k (by omega)
  · exact by rw [cr]; exact kFb_push f11 h1 h2 hw
  · exact fun k j hk hj hkj => by
        rw [cr] at hk hj
        unfold kSetr
        by_cases e1 : k = kCn kd 6 i
        · have e2 : ¬ j = kCn kd 6 i := by omega
          rw [if_pos e1, if_pos e1, if_neg e2, if_neg e2]
          exact fun q => hno j (by omega) (Or.inl q)
        · by_cases e2 : j = kCn kd 6 i
          · rw [if_neg e1, if_neg e1, if_pos e2, if_pos e2]
            exact fun q => hno k (by omega) (Or.inr q)
          · rw [if_neg e1, if_neg e1, if_neg e2, if_neg e2]
            exact f12 k j (by omega) (by omega) hkj
  · exact by rw [cn 10 (by decide), cn 1 (by decide)]; exact f13
  · exact by rw [cn 11 (by decide), cn 1 (by decide)]; exact f14
  · exact by rw [cn 7 (by decide)]; exact f15
  · exact by rw [cn 8 (by decide)]; exact f16
  · exact by rw [cn 12 (by decide), cn 3 (by decide)]; exact f17
  · exact fun t ht hc => f18 t (by
        by_cases e : t = i
        · rw [e] at hc; omega
        · omega) hc
  · exact fun t ht hc => f19 t (by
        by_cases e : t = i
        · rw [e] at hc; omega
        · omega) hc
  · exact fun t ht hc => by
        rw [cn 3 (by decide)]
        exact f20 t (by
          by_cases e : t = i
          · rw [e] at hc; omega
          · omega) hc
  · exact fun t ht hc => by
        rw [cn 2 (by decide)]
        exact f21 t (by
          by_cases e : t = i
          · rw [e] at hc; omega
          · omega) hc
  · exact by rw [cn 11 (by decide), cn 10 (by decide)]; exact f22
  · exact f23
end RELM
