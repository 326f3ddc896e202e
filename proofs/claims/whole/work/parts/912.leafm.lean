/-! THE PURE PART: the grammar; its leaves (reference). -/
/-- what a token is to be -/
def kRole (kd : Nat → Nat) (t : Nat) : Nat := if kd t = 37 then (if kd (t - 1) = 0 then 1 else if kd (t - 1) = 2 then 2 else if kd (t - 1) = 5 then 3 else if kd (t - 1) = 3 then 9 else if kd (t - 1) = 6 then 10 else if kd (t - 1) = 7 then 11 else if kd (t - 1) = 10 then 12 else if kd (t - 1) = 15 then 13 else if kd (t - 1) = 14 then 14 else if kd (t - 1) = 16 then 15 else 0) else
  if kd t = 38 then (if kd (t - 1) = 1 then 5 else if kd (t - 1) = 4 then 6 else if kd (t - 1) = 8 then 7 else if kd (t - 1) = 9 then 8 else 0) else if kd t = 10 then 4 else 0
/-- words of the code -/
def kWds : List (Nat × Nat) → Nat
  | [] => 0
  | (K, _) :: r => (bif kTwo K then 2 else 1) + kWds r
/-- a list as the reference's code: a number as it is, a name by its token -/
def kCw (num : Nat → Int32) (K t : Nat) : Int32 := if K = 38 then num t else iN t
def kLm (num : Nat → Int32) (c : Nat → Int32) : Nat → List (Nat × Nat) → Prop
  | _, [] => True
  | i, (K, t) :: r => c i = iN (kCd K) ∧ (bif kTwo K then c (i + 1) = kCw num K t ∧ kLm num c (i + 2) r else kLm num c (i + 1) r)
/-- where names stand in the code -/
def kOp (c : Nat → Int32) : Nat → Nat → List (Nat × Nat) → Prop
  | _, _, [] => True
  | n, i, (K, _) :: r => if K = 14 ∨ K = 15 ∨ K = 16 then c n = iN (i + 1) ∧ kOp c (n + 1) (i + 2) r else kOp c n (i + (bif kTwo K then 2 else 1)) r
def kNs : List (Nat × Nat) → Nat
  | [] => 0
  | (K, _) :: r => (if K = 14 ∨ K = 15 ∨ K = 16 then 1 else 0) + kNs r
theorem kWds_le : ∀ L : List (Nat × Nat), kWds L ≤ 2 * L.length ∧ kNs L ≤ L.length
  | [] => ⟨Nat.le_refl _, Nat.le_refl _⟩
  | (K, t) :: r => by
    obtain ⟨h1, h2⟩ := kWds_le r
    show (bif kTwo K then 2 else 1) + kWds r ≤ 2 * (r.length + 1) ∧ (if K = 14 ∨ K = 15 ∨ K = 16 then 1 else 0) + kNs r ≤ r.length + 1
    constructor
    · cases kTwo K <;> simp <;> omega
    · split <;> omega
theorem kWds_app : ∀ L M : List (Nat × Nat), kWds (L ++ M) = kWds L + kWds M ∧ kNs (L ++ M) = kNs L + kNs M
  | [], M => ⟨(Nat.zero_add _).symm, (Nat.zero_add _).symm⟩
  | (K, t) :: r, M => by
    obtain ⟨h1, h2⟩ := kWds_app r M
    show (bif kTwo K then 2 else 1) + kWds (r ++ M) = (bif kTwo K then 2 else 1) + kWds r + kWds M ∧ (if K = 14 ∨ K = 15 ∨ K = 16 then 1 else 0) + kNs (r ++ M) = (if K = 14 ∨ K = 15 ∨ K = 16 then 1 else 0) + kNs r + kNs M
    rw [h1, h2]
    omega
theorem kLm_app {num : Nat → Int32} {c : Nat → Int32} : ∀ (L M : List (Nat × Nat)) (i : Nat), kLm num c i (L ++ M) ↔ kLm num c i L ∧ kLm num c (i + kWds L) M
  | [], M, i => ⟨fun h => ⟨trivial, h⟩, fun h => h.2⟩
  | (K, t) :: r, M, i => by
    show (c i = iN (kCd K) ∧ (bif kTwo K then c (i + 1) = kCw num K t ∧ kLm num c (i + 2) (r ++ M) else kLm num c (i + 1) (r ++ M))) ↔ (c i = iN (kCd K) ∧ (bif kTwo K then c (i + 1) = kCw num K t ∧ kLm num c (i + 2) r else kLm num c (i + 1) r)) ∧ kLm num c (i + ((bif kTwo K then 2 else 1) + kWds r)) M
    cases kTwo K with
    | true =>
      simp only [cond_true]
      rw [kLm_app r M (i + 2), show i + (2 + kWds r) = i + 2 + kWds r by omega]
      exact ⟨fun ⟨a, b, c, d⟩ => ⟨⟨a, b, c⟩, d⟩, fun ⟨⟨a, b, c⟩, d⟩ => ⟨a, b, c, d⟩⟩
    | false =>
      simp only [cond_false]
      rw [kLm_app r M (i + 1), show i + (1 + kWds r) = i + 1 + kWds r by omega]
      exact ⟨fun ⟨a, c, d⟩ => ⟨⟨a, c⟩, d⟩, fun ⟨⟨a, c⟩, d⟩ => ⟨a, c, d⟩⟩
theorem kLm_congr {num : Nat → Int32} {c c' : Nat → Int32} : ∀ (L : List (Nat × Nat)) (i : Nat), (∀ j, i ≤ j → j < i + kWds L → c' j = c j) → kLm num c i L → kLm num c' i L
  | [], _, _, h => h
  | (K, t) :: r, i, e, h => by
    have hw : kWds ((K, t) :: r) = (bif kTwo K then 2 else 1) + kWds r := rfl
    rw [hw] at e
    have h' : c i = iN (kCd K) ∧ (bif kTwo K then c (i + 1) = kCw num K t ∧ kLm num c (i + 2) r else kLm num c (i + 1) r) := h
    show c' i = iN (kCd K) ∧ (bif kTwo K then c' (i + 1) = kCw num K t ∧ kLm num c' (i + 2) r else kLm num c' (i + 1) r)
    cases hk : kTwo K with
    | true =>
      rw [hk] at e h'
      simp only [cond_true] at e h' ⊢
      exact ⟨(e i (Nat.le_refl _) (by omega)).trans h'.1, (e (i + 1) (by omega) (by omega)).trans h'.2.1, kLm_congr r (i + 2) (fun j a b => e j (by omega) (by omega)) h'.2.2⟩
    | false =>
      rw [hk] at e h'
      simp only [cond_false] at e h' ⊢
      exact ⟨(e i (Nat.le_refl _) (by omega)).trans h'.1, kLm_congr r (i + 1) (fun j a b => e j (by omega) (by omega)) h'.2⟩
theorem kOp_app {c : Nat → Int32} : ∀ (L M : List (Nat × Nat)) (n i : Nat), kOp c n i (L ++ M) ↔ kOp c n i L ∧ kOp c (n + kNs L) (i + kWds L) M
  | [], M, n, i => ⟨fun h => ⟨trivial, h⟩, fun h => h.2⟩
  | (K, t) :: r, M, n, i => by
    have hw : kWds ((K, t) :: r) = (bif kTwo K then 2 else 1) + kWds r := rfl
    have hn : kNs ((K, t) :: r) = (if K = 14 ∨ K = 15 ∨ K = 16 then 1 else 0) + kNs r := rfl
    rw [hw, hn]
    show (if K = 14 ∨ K = 15 ∨ K = 16 then c n = iN (i + 1) ∧ kOp c (n + 1) (i + 2) (r ++ M) else kOp c n (i + (bif kTwo K then 2 else 1)) (r ++ M)) ↔ (if K = 14 ∨ K = 15 ∨ K = 16 then c n = iN (i + 1) ∧ kOp c (n + 1) (i + 2) r else kOp c n (i + (bif kTwo K then 2 else 1)) r) ∧ _
    by_cases g : K = 14 ∨ K = 15 ∨ K = 16
    · have ht : kTwo K = true := by rcases g with g | g | g <;> rw [g] <;> rfl
      rw [if_pos g, if_pos g, if_pos g, ht, cond_true, kOp_app r M (n + 1) (i + 2), show n + (1 + kNs r) = n + 1 + kNs r by omega, show i + (2 + kWds r) = i + 2 + kWds r by omega]
      exact ⟨fun ⟨a, b, c⟩ => ⟨⟨a, b⟩, c⟩, fun ⟨⟨a, b⟩, c⟩ => ⟨a, b, c⟩⟩
    · rw [if_neg g, if_neg g, if_neg g, kOp_app r M n _, Nat.zero_add, Nat.add_assoc]
theorem kOp_congr {c c' : Nat → Int32} : ∀ (L : List (Nat × Nat)) (n i : Nat), (∀ j, n ≤ j → j < n + kNs L → c' j = c j) → kOp c n i L → kOp c' n i L
  | [], _, _, _, h => h
  | (K, t) :: r, n, i, e, h => by
    have hn : kNs ((K, t) :: r) = (if K = 14 ∨ K = 15 ∨ K = 16 then 1 else 0) + kNs r := rfl
    rw [hn] at e
    have h' : (if K = 14 ∨ K = 15 ∨ K = 16 then c n = iN (i + 1) ∧ kOp c (n + 1) (i + 2) r else kOp c n (i + (bif kTwo K then 2 else 1)) r) := h
    show (if K = 14 ∨ K = 15 ∨ K = 16 then c' n = iN (i + 1) ∧ kOp c' (n + 1) (i + 2) r else kOp c' n (i + (bif kTwo K then 2 else 1)) r)
    by_cases g : K = 14 ∨ K = 15 ∨ K = 16
    · rw [if_pos g] at e h' ⊢
      exact ⟨(e n (Nat.le_refl _) (by omega)).trans h'.1, kOp_congr r (n + 1) (i + 2) (fun j a b => e j (by omega) (by omega)) h'.2⟩
    · rw [if_neg g] at e h' ⊢
      exact kOp_congr r n _ (fun j a b => e j a (by omega)) h'
/-- while the reference reads a plan (at 64 r + 11) -/
def jRf (r : Nat) (μ ν : jM) : Prop := (∀ a, ¬ a = 4490 → ¬ a = 4825 → ¬ a = 64 * r + 11 → ¬ a = 64 * r + 794 → ¬ a = 64 * r + 856 → jI ν a = jI μ a) ∧ (∀ k, ¬ k = 9 → ¬ k = 10 → jI ν 4490 k = jI μ 4490 k) ∧ (∀ k, ¬ k = 17 → ¬ k = 19 → jI ν (64 * r + 11) k = jI μ (64 * r + 11) k) ∧ jQ ν = jQ μ ∧ jL ν = jL μ ∧ jA ν = jA μ ∧ jX ν = jX μ
def jR0 (μ : jM) (r : Nat) (kd : Nat → Nat) (N : Nat) (b : Nat → Int32) (sz : Nat) : Prop := jWd μ ∧ kTok kd N ∧ 120 ≤ r ∧ jQ μ 4490 12 = some (64 * r + 11) ∧ jMq μ r ∧ kTp μ b sz ∧ ∀ k, k < N → jI μ 4633 k = iN (kMd (kd k)) ∧ jI μ 4697 k = iN (kTs b sz k) ∧ (kd k = 38 → jI μ 4761 k = iN (kTl b sz k) ∧ kTs b sz k + kTl b sz k ≤ sz)
def kBef (kd : Nat → Nat) (i : Nat) : Prop := 1 ≤ i ∧ ¬ kd (i - 1) = 1 ∧ ¬ kd (i - 1) = 4 ∧ ¬ kd (i - 1) = 8 ∧ ¬ kd (i - 1) = 9
def jRr (μ ν : jM) (r : Nat) (kd : Nat → Nat) (num : Nat → Int32) (N i D : Nat) (E : List (Nat × Nat)) : Prop := jRf r μ ν ∧ jI ν 4490 9 = iN i ∧ jI ν 4490 10 = iN D ∧ jI ν (64 * r + 11) 17 = iN (kWds E) ∧ kLm num (jI ν (64 * r + 794)) 0 E ∧ jI ν (64 * r + 11) 19 = iN (kNs E) ∧ kOp (jI ν (64 * r + 856)) 0 0 E ∧ (∀ t, t < i → jI ν 4825 t = iN (kRole kd t)) ∧ ∀ t, i ≤ t → t < N → jI ν 4825 t = 0
def jRz (μ ν : jM) (r i : Nat) : Prop := jRf r μ ν ∧ jI ν 4490 9 = iN i
theorem kMd_inj : ∀ K, K < 42 → ∀ J, J < 40 → (kMd K = kMd J ↔ K = J) := by decide +kernel
section LEAFM
variable {d : Nat} {μ ν : jM} {Q : jO → jM → Prop} {kd : Nat → Nat} {num : Nat → Int32} {N i D K r sz : Nat} {E : List (Nat × Nat)} {b : Nat → Int32}
theorem jRf_w (h0 : jR0 μ r kd N b sz) (h : jRf r μ ν) : jWd ν := jWd_c h.2.2.2.1 h0.1
/-- the next token's kind -/
theorem jR_kind (h0 : jR0 μ r kd N b sz) (h : jRf r μ ν) (hi : i ≤ N - 1) : jI ν 4633 i = iN (kMd (kd i)) := by
  have := h0.2.2.1
  have hN := h0.2.1.1
  rw [h.1 4633 (by decide) (by decide) (by omega) (by omega) (by omega)]
  exact (h0.2.2.2.2.2.2 i (by omega)).1
theorem iMd (hK : K < 42) {J : Nat} (hJ : J < 40) : (iN (kMd K) = iN (kMd J)) = (K = J) := propext ⟨fun h => (kMd_inj K hK J hJ).mp ((iN_eq (by have := (kMd_lt K hK).2.2; omega) (by have := (kMd_lt J (by omega)).2.2; omega)).mp h), fun h => by rw [h]⟩
theorem d_is (h0 : jR0 μ r kd N b sz) (h : jRf r μ ν) (ht : jI ν 4490 9 = iN i) (hi : i ≤ N - 1) (hJ : K < 40) : Ex d 109 0 [some (.ref 4490), some (.int (iN (kMd K)))] [] ν Q ↔ Q (.inl (some (.int (if kd i = K then 1 else 0)))) ν := by
  have hw := jRf_w h0 h
  unfold jWd at hw
  have hk := jR_kind h0 h hi
  have hN2 := h0.2.1.2.1
  have ic : (iN i).toNatClampNeg = i := iN_cl (by omega)
  have ij : jin (iN i) 401 = true := iN_in (by omega) (by omega)
  have e := iMd (h0.2.1.2.2.2.2 i) hJ
  by_cases g : kd i = K
  · have g' := eq_true g
    simp only [x109_0, x109_1, x109_4, x109_5, x109_8, x109_9, x109_10, x109_13, x109_14, x109_17, x109_18, mzi, mInc, mne, mlt9, mrk, mI1, mI2, mI3, mI4, mL1, mL2, mL3, mL4, mQ1, mQ2, mQ3, mQ4, mT1, mcat0, mcat1, mcat2, mcat3, mcat4, mrf1, jK_v, jK_n, JA, mz1, if_true, if_false, ite_true, ite_false, eq_self, not_false_eq_true, Nat.zero_le, true_and, and_true, and_self, Nat.reduceMod, Nat.reduceAdd, Nat.reduceLeDiff, Nat.reduceEqDiff, Nat.reduceLT, hw, ht, ic, ij, hk, e, g']
  · have g' := eq_false g
    simp only [x109_0, x109_1, x109_4, x109_5, x109_8, x109_9, x109_10, x109_13, x109_14, x109_17, x109_18, mzi, mInc, mne, mlt9, mrk, mI1, mI2, mI3, mI4, mL1, mL2, mL3, mL4, mQ1, mQ2, mQ3, mQ4, mT1, mcat0, mcat1, mcat2, mcat3, mcat4, mrf1, jK_v, jK_n, JA, mz1, if_true, if_false, ite_true, ite_false, eq_self, not_false_eq_true, Nat.zero_le, true_and, and_true, and_self, Nat.reduceMod, Nat.reduceAdd, Nat.reduceLeDiff, Nat.reduceEqDiff, Nat.reduceLT, hw, ht, ic, ij, hk, e, g']
theorem d_eat (h0 : jR0 μ r kd N b sz) (h : jRf r μ ν) (ht : jI ν 4490 9 = iN i) (hi : i ≤ N - 1) (hJ : K < 40) : Ex (d + 1) 112 0 [some (.ref 4490), some (.int (iN (kMd K)))] [] ν Q ↔ if kd i = K then Q (.inl (some (.int 1))) (jsI ν 4490 9 (iN (i + 1))) else Q (.inl (some (.int 0))) ν := by
  have hw := jRf_w h0 h
  unfold jWd at hw
  have hs := fun d Q => d_is (d := d) (Q := Q) h0 h ht hi hJ
  by_cases g : kd i = K
  · have g' := eq_true g
    simp only [x112_0, x112_1, x112_2, x112_5, x112_8, x112_9, x112_10, x112_11a, x112_11b, x112_12, x112_15, x112_16, x112_17, x112_20, x112_21, mzi, mInc, mne, mlt9, mrk, mI1, mI2, mI3, mI4, mL1, mL2, mL3, mL4, mQ1, mQ2, mQ3, mQ4, mT1, mcat0, mcat1, mcat2, mcat3, mcat4, mrf1, jK_v, jK_n, JA, mz1, if_true, if_false, ite_true, ite_false, eq_self, not_false_eq_true, Nat.zero_le, true_and, and_true, and_self, Nat.reduceMod, Nat.reduceAdd, Nat.reduceLeDiff, Nat.reduceEqDiff, Nat.reduceLT, hw, ht, hs, g']
  · have g' := eq_false g
    simp only [x112_0, x112_1, x112_2, x112_5, x112_8, x112_9, x112_10, x112_11a, x112_11b, x112_12, x112_15, x112_16, x112_17, x112_20, x112_21, mzi, mInc, mne, mlt9, mrk, mI1, mI2, mI3, mI4, mL1, mL2, mL3, mL4, mQ1, mQ2, mQ3, mQ4, mT1, mcat0, mcat1, mcat2, mcat3, mcat4, mrf1, jK_v, jK_n, JA, mz1, if_true, if_false, ite_true, ite_false, eq_self, not_false_eq_true, Nat.zero_le, true_and, and_true, and_self, Nat.reduceMod, Nat.reduceAdd, Nat.reduceLeDiff, Nat.reduceEqDiff, Nat.reduceLT, hw, ht, hs, g']
theorem jRf_I {k : Nat} {v : Int32} (h : jRf r μ ν) (hr : 120 ≤ r) (hk : k = 9 ∨ k = 10) : jRf r μ (jsI ν 4490 k v) := by
  obtain ⟨a1, a2, a3, a4, a5, a6, a7⟩ := h
  exact ⟨fun a n1 n2 n3 n4 n5 => by rw [mI2 n1]; exact a1 a n1 n2 n3 n4 n5, fun j h1 h2 => by rw [mI1, if_neg (by omega)]; exact a2 j h1 h2, fun j h1 h2 => by rw [mI2 (by omega)]; exact a3 j h1 h2, a4, a5, a6, a7⟩
theorem jRf_L {k : Nat} {v : Int32} (h : jRf r μ ν) : jRf r μ (jsI ν 4825 k v) := by
  obtain ⟨a1, a2, a3, a4, a5, a6, a7⟩ := h
  exact ⟨fun a n1 n2 n3 n4 n5 => by rw [mI2 n2]; exact a1 a n1 n2 n3 n4 n5, fun j h1 h2 => by rw [mI2 (by decide)]; exact a2 j h1 h2, fun j h1 h2 => by rw [mI2 (by omega)]; exact a3 j h1 h2, a4, a5, a6, a7⟩
/-- as something: the role is written, then it is taken -/
theorem d_eatAs (h0 : jR0 μ r kd N b sz) (h : jRf r μ ν) (ht : jI ν 4490 9 = iN i) (hi : i ≤ N - 1) (hJ : K < 40) {x : Int32} : Ex (d + 2) 111 0 [some (.ref 4490), some (.int (iN (kMd K))), some (.int x)] [] ν Q ↔ if kd i = K then Q (.inl (some (.int 1))) (jsI (jsI ν 4825 i x) 4490 9 (iN (i + 1))) else Q (.inl (some (.int 0))) (jsI ν 4825 i x) := by
  have hw := jRf_w h0 h
  unfold jWd at hw
  have hN2 := h0.2.1.2.1
  have ic : (iN i).toNatClampNeg = i := iN_cl (by omega)
  have ij : jin (iN i) 401 = true := iN_in (by omega) (by omega)
  have hs := fun d Q => d_eat (d := d) (Q := Q) (ν := jsI ν 4825 i x) h0 (jRf_L h) (by rw [mI2 (by decide)]; exact ht) hi hJ
  by_cases g : kd i = K
  · have g' := eq_true g
    simp only [x111_0, x111_1, x111_4, x111_5, x111_8, x111_9, x111_10, x111_11, x111_12, x111_15, mzi, mInc, mne, mlt9, mrk, mI1, mI2, mI3, mI4, mL1, mL2, mL3, mL4, mQ1, mQ2, mQ3, mQ4, mT1, mcat0, mcat1, mcat2, mcat3, mcat4, mrf1, jK_v, jK_n, JA, mz1, if_true, if_false, ite_true, ite_false, eq_self, not_false_eq_true, Nat.zero_le, true_and, and_true, and_self, Nat.reduceMod, Nat.reduceAdd, Nat.reduceLeDiff, Nat.reduceEqDiff, Nat.reduceLT, hw, ht, ic, ij, hs, g']
  · have g' := eq_false g
    simp only [x111_0, x111_1, x111_4, x111_5, x111_8, x111_9, x111_10, x111_11, x111_12, x111_15, mzi, mInc, mne, mlt9, mrk, mI1, mI2, mI3, mI4, mL1, mL2, mL3, mL4, mQ1, mQ2, mQ3, mQ4, mT1, mcat0, mcat1, mcat2, mcat3, mcat4, mrf1, jK_v, jK_n, JA, mz1, if_true, if_false, ite_true, ite_false, eq_self, not_false_eq_true, Nat.zero_le, true_and, and_true, and_self, Nat.reduceMod, Nat.reduceAdd, Nat.reduceLeDiff, Nat.reduceEqDiff, Nat.reduceLT, hw, ht, ic, ij, hs, g']
/-- a word of the code -/
def kPutM (ν : jM) (r n : Nat) (x : Int32) : jM := jsI (jsI ν (64 * r + 794) n x) (64 * r + 11) 17 (iN (n + 1))
theorem d_put (h0 : jR0 μ r kd N b sz) (h : jRf r μ ν) {n : Nat} (hn : jI ν (64 * r + 11) 17 = iN n) (h800 : n < 800) {x : Int32} : Ex d 120 0 [some (.ref 4490), some (.int x)] [] ν Q ↔ Q (.inl none) (kPutM ν r n x) := by
  have hw := jRf_w h0 h
  unfold jWd at hw
  have hq := h0.2.2.2.2.1
  unfold jMq at hq
  rw [← h.2.2.2.1] at hq
  have hrd : jQ ν 4490 12 = some (64 * r + 11) := by rw [h.2.2.2.1]; exact h0.2.2.2.1
  have jp := JP r
  have jpm := JPm r
  have nc : (iN n).toNatClampNeg = n := iN_cl (by omega)
  have nj : jin (iN n) 800 = true := iN_in (by omega) (by omega)
  have e1 : ¬ 64 * r + 11 = 64 * r + 794 := by omega
  unfold kPutM
  simp only [x120_0, x120_1, x120_4, x120_7, x120_8, x120_11, x120_14, x120_15, x120_16, x120_17, x120_20a, x120_20b, x120_21, x120_24, x120_25, x120_26, x120_29, mzi, mInc, mne, mlt9, mrk, mI1, mI2, mI3, mI4, mL1, mL2, mL3, mL4, mQ1, mQ2, mQ3, mQ4, mT1, mcat0, mcat1, mcat2, mcat3, mcat4, mrf1, jK_v, jK_n, JA, mz1, if_true, if_false, ite_true, ite_false, eq_self, not_false_eq_true, Nat.zero_le, true_and, and_true, and_self, Nat.reduceMod, Nat.reduceAdd, Nat.reduceLeDiff, Nat.reduceEqDiff, Nat.reduceLT, hw, hq, hrd, jp, jpm, hn, nc, nj, e1]
theorem d_isSign (h0 : jR0 μ r kd N b sz) (h : jRf r μ ν) (ht : jI ν 4490 9 = iN i) (hi : i ≤ N - 1) (hJ : K < 40) {x : Int32} (hx : 50 + x = iN (kMd K)) : Ex d 121 0 [some (.ref 4490), some (.int x)] [] ν Q ↔ Q (.inl (some (.int (if kd i = K then 1 else 0)))) ν := by
  have hw := jRf_w h0 h
  unfold jWd at hw
  have hk := jR_kind h0 h hi
  have hN2 := h0.2.1.2.1
  have ic : (iN i).toNatClampNeg = i := iN_cl (by omega)
  have ij : jin (iN i) 401 = true := iN_in (by omega) (by omega)
  have e := iMd (h0.2.1.2.2.2.2 i) hJ
  by_cases g : kd i = K
  · have g' := eq_true g
    simp only [x121_0, x121_1, x121_4, x121_5, x121_8, x121_9, x121_11, x121_12, x121_13, x121_16, x121_17, x121_20, x121_21, mzi, mInc, mne, mlt9, mrk, mI1, mI2, mI3, mI4, mL1, mL2, mL3, mL4, mQ1, mQ2, mQ3, mQ4, mT1, mcat0, mcat1, mcat2, mcat3, mcat4, mrf1, jK_v, jK_n, JA, mz1, if_true, if_false, ite_true, ite_false, eq_self, not_false_eq_true, Nat.zero_le, true_and, and_true, and_self, Nat.reduceMod, Nat.reduceAdd, Nat.reduceLeDiff, Nat.reduceEqDiff, Nat.reduceLT, hw, ht, ic, ij, hk, hx, e, g']
  · have g' := eq_false g
    simp only [x121_0, x121_1, x121_4, x121_5, x121_8, x121_9, x121_11, x121_12, x121_13, x121_16, x121_17, x121_20, x121_21, mzi, mInc, mne, mlt9, mrk, mI1, mI2, mI3, mI4, mL1, mL2, mL3, mL4, mQ1, mQ2, mQ3, mQ4, mT1, mcat0, mcat1, mcat2, mcat3, mcat4, mrf1, jK_v, jK_n, JA, mz1, if_true, if_false, ite_true, ite_false, eq_self, not_false_eq_true, Nat.zero_le, true_and, and_true, and_self, Nat.reduceMod, Nat.reduceAdd, Nat.reduceLeDiff, Nat.reduceEqDiff, Nat.reduceLT, hw, ht, ic, ij, hk, hx, e, g']
theorem d_eatSign (h0 : jR0 μ r kd N b sz) (h : jRf r μ ν) (ht : jI ν 4490 9 = iN i) (hi : i ≤ N - 1) (hJ : K < 40) {x : Int32} (hx : 50 + x = iN (kMd K)) : Ex (d + 2) 122 0 [some (.ref 4490), some (.int x)] [] ν Q ↔ if kd i = K then Q (.inl (some (.int 1))) (jsI ν 4490 9 (iN (i + 1))) else Q (.inl (some (.int 0))) ν := by
  have hw := jRf_w h0 h
  unfold jWd at hw
  have hs := fun d Q => d_eat (d := d) (Q := Q) h0 h ht hi hJ
  by_cases g : kd i = K
  · have g' := eq_true g
    simp only [x122_0, x122_1, x122_3, x122_4, x122_5, x122_8, mzi, mInc, mne, mlt9, mrk, mI1, mI2, mI3, mI4, mL1, mL2, mL3, mL4, mQ1, mQ2, mQ3, mQ4, mT1, mcat0, mcat1, mcat2, mcat3, mcat4, mrf1, jK_v, jK_n, JA, mz1, if_true, if_false, ite_true, ite_false, eq_self, not_false_eq_true, Nat.zero_le, true_and, and_true, and_self, Nat.reduceMod, Nat.reduceAdd, Nat.reduceLeDiff, Nat.reduceEqDiff, Nat.reduceLT, hw, hx, hs, g']
  · have g' := eq_false g
    simp only [x122_0, x122_1, x122_3, x122_4, x122_5, x122_8, mzi, mInc, mne, mlt9, mrk, mI1, mI2, mI3, mI4, mL1, mL2, mL3, mL4, mQ1, mQ2, mQ3, mQ4, mT1, mcat0, mcat1, mcat2, mcat3, mcat4, mrf1, jK_v, jK_n, JA, mz1, if_true, if_false, ite_true, ite_false, eq_self, not_false_eq_true, Nat.zero_le, true_and, and_true, and_self, Nat.reduceMod, Nat.reduceAdd, Nat.reduceLeDiff, Nat.reduceEqDiff, Nat.reduceLT, hw, hx, hs, g']
theorem d_deeper (h0 : jR0 μ r kd N b sz) (h : jRf r μ ν) (ht : jI ν 4490 9 = iN i) (hD : jI ν 4490 10 = iN D) (hD8 : D ≤ 8) : Ex d 119 0 [some (.ref 4490)] [] ν Q ↔ if D < 8 then Q (.inl (some (.int 1))) (jsI (jsI ν 4490 10 (iN (D + 1))) 4490 9 (iN (i + 1))) else Q (.inl (some (.int 0))) ν := by
  have hw := jRf_w h0 h
  unfold jWd at hw
  have e : (iN D = 8) = (D = 8) := propext ⟨fun h => (iN_eq (b := 8) (by omega) (by omega)).mp h, fun h => by rw [h]; rfl⟩
  by_cases g : D = 8
  · have g' := eq_true g
    have g2 := eq_false (show ¬ D < 8 by omega)
    simp only [x119_0, x119_1, x119_4, x119_6, x119_9, x119_10, x119_11, x119_12a, x119_12b, x119_13, x119_16, x119_17, x119_18, x119_21, x119_22a, x119_22b, x119_23, x119_26, x119_27, x119_28, x119_31, x119_32, mzi, mInc, mne, mlt9, mrk, mI1, mI2, mI3, mI4, mL1, mL2, mL3, mL4, mQ1, mQ2, mQ3, mQ4, mT1, mcat0, mcat1, mcat2, mcat3, mcat4, mrf1, jK_v, jK_n, JA, mz1, if_true, if_false, ite_true, ite_false, eq_self, not_false_eq_true, Nat.zero_le, true_and, and_true, and_self, Nat.reduceMod, Nat.reduceAdd, Nat.reduceLeDiff, Nat.reduceEqDiff, Nat.reduceLT, hw, hD, e, g', g2]
  · have g' := eq_false g
    have g2 := eq_true (show D < 8 by omega)
    have z9 : ¬ (9 : Nat) = 10 := by decide
    simp only [x119_0, x119_1, x119_4, x119_6, x119_9, x119_10, x119_11, x119_12a, x119_12b, x119_13, x119_16, x119_17, x119_18, x119_21, x119_22a, x119_22b, x119_23, x119_26, x119_27, x119_28, x119_31, x119_32, mzi, mInc, mne, mlt9, mrk, mI1, mI2, mI3, mI4, mL1, mL2, mL3, mL4, mQ1, mQ2, mQ3, mQ4, mT1, mcat0, mcat1, mcat2, mcat3, mcat4, mrf1, jK_v, jK_n, JA, mz1, if_true, if_false, ite_true, ite_false, eq_self, not_false_eq_true, Nat.zero_le, true_and, and_true, and_self, Nat.reduceMod, Nat.reduceAdd, Nat.reduceLeDiff, Nat.reduceEqDiff, Nat.reduceLT, hw, hD, ht, e, g', g2, z9]
theorem d_numberAt (h0 : jR0 μ r kd N b sz) (h : jRf r μ ν) (hi : i ≤ N - 1) (hk : kd i = 38) : Ex d 127 0 [some (.ref 4490), some (.int (iN i)), none, none] [] ν Q ↔ Q (.inl (some (.int (kNm b (kTs b sz i) (kTl b sz i))))) ν := by
  have hw := jRf_w h0 h
  unfold jWd at hw
  have hr := h0.2.2.1
  have hN1 := h0.2.1.1
  have hN2 := h0.2.1.2.1
  obtain ⟨t1, t2, t3, t4⟩ := h0.2.2.2.2.2.1
  obtain ⟨k1, k2, k3⟩ := h0.2.2.2.2.2.2 i (by omega)
  obtain ⟨k4, k5⟩ := k3 hk
  have f1 : jI ν 4697 i = iN (kTs b sz i) := by rw [h.1 4697 (by decide) (by decide) (by omega) (by omega) (by omega)]; exact k2
  have f2 : jI ν 4761 i = iN (kTl b sz i) := by rw [h.1 4761 (by decide) (by decide) (by omega) (by omega) (by omega)]; exact k4
  have f3 : ∀ j, j < sz → jI ν 4567 j = b j := fun j hj => by rw [h.1 4567 (by decide) (by decide) (by omega) (by omega) (by omega)]; exact t3 j hj
  have ic : (iN i).toNatClampNeg = i := iN_cl (by omega)
  have ij : jin (iN i) 401 = true := iN_in (by omega) (by omega)
  generalize kTs b sz i = a at *
  generalize kTl b sz i = len at *
  have loop : ∀ k x, k < len → (Ex d 127 4 [some (.ref 4490), some (.int (iN i)), some (.int x), some (.int (iN k))] [] ν Q ↔ Ex d 127 4 [some (.ref 4490), some (.int (iN i)), some (.int (x * 10 + b (a + k) - 48)), some (.int (iN (k + 1)))] [] ν Q) := by
    intro k x hk
    have hlt : iN k < iN len := (iN_lt (by omega) (by omega)).mpr hk
    have hak : iN a + iN k = iN (a + k) := iN_add
    have ac : (iN (a + k)).toNatClampNeg = a + k := iN_cl (by omega)
    have aj : jin (iN (a + k)) 2000 = true := iN_in (by omega) (by omega)
    have f3k := f3 (a + k) (by omega)
    have hm : x * 10 = 10 * x := Int32.mul_comm _ _
    rw [hm, x127_4]
    simp only [x127_0, x127_1a, x127_1b, x127_1c, x127_2, x127_3a, x127_3b, x127_3c, x127_5, x127_6, x127_9, x127_10, x127_11, x127_14, x127_16, x127_17, x127_18, x127_19, x127_22, x127_23, x127_26, x127_27, x127_28, x127_29, x127_30, x127_31, x127_32, x127_34, x127_35a, x127_35b, x127_35c, x127_36a, x127_36b, x127_36c, x127_39, x127_42, x127_43, mzi, mInc, mne, mlt9, mrk, mI1, mI2, mI3, mI4, mL1, mL2, mL3, mL4, mQ1, mQ2, mQ3, mQ4, mT1, mcat0, mcat1, mcat2, mcat3, mcat4, mrf1, jK_v, jK_n, JA, mz1, if_true, if_false, ite_true, ite_false, eq_self, not_false_eq_true, Nat.zero_le, true_and, and_true, and_self, Nat.reduceMod, Nat.reduceAdd, Nat.reduceLeDiff, Nat.reduceEqDiff, Nat.reduceLT, hw, f1, f2, ic, ij, hlt, hak, ac, aj, f3k]
  have h1 := jfold_loop (P := fun k x => Ex d 127 4 [some (.ref 4490), some (.int (iN i)), some (.int x), some (.int (iN k))] [] ν Q) loop len 0 0 (by omega)
  have hge : ¬ iN len < iN len := iN_irr (by omega)
  have h2 : Ex d 127 0 [some (.ref 4490), some (.int (iN i)), none, none] [] ν Q ↔ Ex d 127 4 [some (.ref 4490), some (.int (iN i)), some (.int 0), some (.int (iN 0))] [] ν Q := by
    simp only [x127_0, x127_1a, x127_1b, x127_1c, x127_2, x127_3a, x127_3b, x127_3c, x127_5, x127_6, x127_9, x127_10, x127_11, x127_14, x127_16, x127_17, x127_18, x127_19, x127_22, x127_23, x127_26, x127_27, x127_28, x127_29, x127_30, x127_31, x127_32, x127_34, x127_35a, x127_35b, x127_35c, x127_36a, x127_36b, x127_36c, x127_39, x127_42, x127_43, mzi, mInc, mne, mlt9, mrk, mI1, mI2, mI3, mI4, mL1, mL2, mL3, mL4, mQ1, mQ2, mQ3, mQ4, mT1, mcat0, mcat1, mcat2, mcat3, mcat4, mrf1, jK_v, jK_n, JA, mz1, if_true, if_false, ite_true, ite_false, eq_self, not_false_eq_true, Nat.zero_le, true_and, and_true, and_self, Nat.reduceMod, Nat.reduceAdd, Nat.reduceLeDiff, Nat.reduceEqDiff, Nat.reduceLT]
  have e : ∀ m k x, jfold (fun k x => x * 10 + b (a + k) - 48) k m x = jfold (fun j x => x * 10 + b j - 48) (a + k) m x := by
    intro m
    induction m with
    | zero => intros; rfl
    | succ m ih => intro k x; exact ih (k + 1) _
  rw [h2, h1, x127_4, e]
  simp only [x127_0, x127_1a, x127_1b, x127_1c, x127_2, x127_3a, x127_3b, x127_3c, x127_5, x127_6, x127_9, x127_10, x127_11, x127_14, x127_16, x127_17, x127_18, x127_19, x127_22, x127_23, x127_26, x127_27, x127_28, x127_29, x127_30, x127_31, x127_32, x127_34, x127_35a, x127_35b, x127_35c, x127_36a, x127_36b, x127_36c, x127_39, x127_42, x127_43, mzi, mInc, mne, mlt9, mrk, mI1, mI2, mI3, mI4, mL1, mL2, mL3, mL4, mQ1, mQ2, mQ3, mQ4, mT1, mcat0, mcat1, mcat2, mcat3, mcat4, mrf1, jK_v, jK_n, JA, mz1, if_true, if_false, ite_true, ite_false, eq_self, not_false_eq_true, Nat.zero_le, true_and, and_true, and_self, Nat.reduceMod, Nat.reduceAdd, Nat.reduceLeDiff, Nat.reduceEqDiff, Nat.reduceLT, hw, f2, ic, ij, hge]
  rfl
end LEAFM
