/-! THE PURE PART: dialling, tests and ways are alike. -/
/-- a test is true or false -/
def kBoo (L : List (Nat × Int32)) : Prop := ∀ E : Nat → Int32 → Int32, (∀ s, E 16 s = 0 ∨ E 16 s = 1) → kSay E L = 0 ∨ kSay E L = 1
/-- what a test names is there -/
def kIn (t n : Nat) (L : List (Nat × Int32)) : Prop := ∀ K s, (K, s) ∈ L → (K = 14 → ∃ u, u < t ∧ s = iN u) ∧ (K = 16 → ∃ u, u < n ∧ s = iN u)
/-- the plan in class and reference -/
def jRP (A B : jM) (p m n t L : Nat) (K : Nat → Nat) (nh : Nat) (T : Nat → List (Nat × Int32)) : Prop :=
  jPl A m n t L K ∧ jMp B p ∧ jI B (64 * p + 11) 0 = iN m ∧ jI B (64 * p + 11) 2 = iN n ∧ jI B (64 * p + 11) 6 = iN t ∧ jMt B p nh T ∧ jI A 1731 3 = iN nh ∧
  (∀ k, k < m → jI A 1812 k = jI B (64 * p + 84) k ∧ ∃ r, 1 ≤ r ∧ r ≤ 9 ∧ jI A 1812 k = iN r) ∧
  (∀ k, k < n → jI A 1872 k = jI B (64 * p + 144) k ∧ (∃ u, u < m ∧ jI A 1872 k = iN u) ∧ jI A 1936 k = jI B (64 * p + 208) k ∧ jI A 2000 k = jI B (64 * p + 272) k ∧ ∃ g, 1 ≤ g ∧ g ≤ 6 ∧ jI A 2000 k = iN g) ∧
  kPfree n (jI A 1936) (jI A 2000) ∧
  (∀ k, k < t → jI A 2064 k = jI B (64 * p + 336) k ∧ jI A 2128 k = jI B (64 * p + 400) k ∧ (∃ u, u < m ∧ jI A 2064 k = iN u) ∧ (∃ u, u < m ∧ jI A 2128 k = iN u) ∧ ¬ jI A 2064 k = jI A 2128 k ∧ jI A 2192 k = jI B (64 * p + 464) k ∧ (∃ r, 1 ≤ r ∧ r ≤ 9 ∧ jI A 2192 k = iN r) ∧ jI A 2256 k = jI B (64 * p + 528) k ∧ ∃ r, 1 ≤ r ∧ r ≤ 99 ∧ jI A 2256 k = iN r) ∧
  (∀ k, k < nh → ∃ u, u < t ∧ jI B (64 * p + 594) k = iN u) ∧
  L = (kAll T (jI B (64 * p + 594)) 0 nh).length ∧ kSeq K (jI A 2456) 0 (kAll T (jI B (64 * p + 594)) 0 nh) ∧
  ∀ k, k < nh → kVal 0 (T k) ∧ kBoo (T k) ∧ kIn t n (T k)
theorem i_sub : ∀ a, a < 20 → ∀ b, b < 20 → ((0 : Int32) < iN a - iN b ↔ iN b < iN a) := by decide +kernel
theorem kB_le' {s : Int32} {u : Nat} (hu : u < 32) : ∃ b, b ≤ 1 ∧ (s >>> (iN u &&& 31)) &&& 1 = iN b := ⟨kB s u, kB_le, kB_i hu⟩
theorem rsum_bits {r : Nat → Int32} {u : Nat} (hu : u < 32) (n : Nat) : ∃ h, h ≤ n ∧ rsum (fun k => (r k >>> (iN u &&& 31)) &&& 1) n = iN h := by
  refine ⟨kS (fun k => kB (r k) u) n, kS_le n fun k _ => kB_le, ?_⟩
  rw [← rsum_kS]
  exact rsum_congr n fun k _ => kB_i hu
theorem jfold_set {q : Nat → Prop} [∀ k, Decidable (q k)] {j n : Nat} (hn : n ≤ 32) (hj : j < 32) : ∀ m k x, k + m = n → (jbt (jfold (fun k a => a ||| (if q k then 1 <<< (iN k &&& 31) else 0)) k m x) j = true ↔ jbt x j = true ∨ k ≤ j ∧ j < k + m ∧ q j)
  | 0, k, x, _ => ⟨Or.inl, fun h => h.elim id fun ⟨h1, h2, _⟩ => absurd h1 (by omega)⟩
  | m + 1, k, x, e => by
    show jbt (jfold (fun k a => a ||| (if q k then 1 <<< (iN k &&& 31) else 0)) (k + 1) m (x ||| (if q k then 1 <<< (iN k &&& 31) else 0))) j = true ↔ _
    rw [jfold_set hn hj m (k + 1) _ (by omega), jbt_or, Bool.or_eq_true]
    have h1 : jbt (if q k then 1 <<< (iN k &&& 31) else 0) j = true ↔ q k ∧ j = k := by
      by_cases g : q k
      · rw [if_pos g, jbt_one (by omega) hj, decide_eq_true_iff]
        exact ⟨fun h => ⟨g, h⟩, fun h => h.2⟩
      · rw [if_neg g, jbt_zero]
        exact ⟨fun h => Bool.noConfusion h, fun h => absurd h.1 g⟩
    rw [h1]
    constructor
    · rintro ((h | ⟨h1, h2⟩) | ⟨h1, h2, h3⟩)
      · exact Or.inl h
      · subst h2; exact Or.inr ⟨Nat.le_refl _, by omega, h1⟩
      · exact Or.inr ⟨by omega, by omega, h3⟩
    · rintro (h | ⟨h1, h2, h3⟩)
      · exact Or.inl (Or.inl h)
      · by_cases e2 : j = k
        · subst e2; exact Or.inl (Or.inr ⟨h3, rfl⟩)
        · exact Or.inr ⟨by omega, by omega, h3⟩
section WAYR
variable {A B : jM} {p m n t L nh w mk l : Nat} {K : Nat → Nat} {T : Nat → List (Nat × Int32)} {pn pd : Nat → Int32}
theorem R_dial0 {g : Nat} {c : Int32} (h : jRXn A B n w mk pn pd) (h10 : n ≤ 10) (hl : l < n) (h0 : jI A 2640 l = 1) (hg : jI A 2832 l = iN g) (ho : kPf n pn pd (iN (g + 1)) (jI A 2768 l * 10 + c) = -1) : jRXn (kDialn A l w c none) (jsI (kDlMs B l c) 5904 l 7) n w mk pn pd := by
  obtain ⟨h1, h2, h3, h4, h5, h6, h7, hE, hD, hL, hQ, hP⟩ := h
  have hd := hD l hl
  have he := hE l (by omega)
  obtain ⟨k1, k2⟩ := kPf_0 (by omega) ho
  have hot : jI A 2704 l = -1 := by
    rcases hL l hl with a | ⟨j, a1, a2, a3, a4, a5⟩
    · exact a.1
    · rw [h0] at a5
      exact absurd a5 (by simp [show ¬ (1 : Int32) = 3 by decide, show ¬ (1 : Int32) = 4 by decide, show ¬ (1 : Int32) = 5 by decide])
  unfold jRXn kDialn kDln kDlMs
  simp only [mI2, mR2, Nat.reduceEqDiff, not_false_eq_true]
  refine ⟨h1, h2, h3, h4, h5, h6, h7, ?_, ?_, ?_, ?_, hP⟩
  · intro k hk
    have e := hE k hk
    unfold kEq at e ⊢
    simp only [mI1]
    by_cases g : k = l
    · subst g
      simp only [if_true]
      exact ⟨trivial, by rw [e.2.1, Int32.mul_comm], by rw [e.2.2.1], e.2.2.2⟩
    · simp only [if_neg g]
      exact e
  · intro k hk
    have e := hD k hk
    unfold kDg at e ⊢
    simp only [mI1]
    by_cases g : k = l
    · subst g
      simp only [if_true]
      refine ⟨fun h => absurd h (by decide), ?_, fun h => absurd h (by decide), fun h => absurd h (by decide)⟩
      rw [hg, mInc, k1]
      exact (e.2.2.1 h0).1
    · simp only [if_neg g]
      exact e
  · refine kLk_1 hL (by omega) hl hot ?_ ?_ ?_ ?_
    · rw [mI1, if_pos rfl]; decide
    · rw [mI1, if_pos rfl]; decide
    · rw [mI1, if_pos rfl]; decide
    · intro k _ g
      simp only [mI1, mI2, mR2, Nat.reduceEqDiff, not_false_eq_true, if_neg g]
  · refine kQu_1 hQ fun k hk => ?_
    rw [mI1]
    by_cases g : k = l
    · rw [if_pos g, g, h0]
      decide
    · simp only [mI2, mR2, Nat.reduceEqDiff, not_false_eq_true, if_neg g]
theorem R_dial2 {g k0 : Nat} {c : Int32} (h : jRXn A B n w mk pn pd) (h10 : n ≤ 10) (hl : l < n) (h0 : jI A 2640 l = 1) (hg : jI A 2832 l = iN g) (hf : kPfree n pn pd) (hk0 : k0 < n) (hb : ∃ b, b ≤ 6 ∧ pd k0 = iN b) (g6 : g ≤ 6) (ho : kPf n pn pd (iN (g + 1)) (jI A 2768 l * 10 + c) = iN k0) (hne : ¬ jI A 2832 l + 1 = jI A 2000 k0) (hpd : pd = jI A 2000) : jRXn (kDialn A l w c (some k0)) (kDlMs B l c) n w mk pn pd := by
  obtain ⟨h1, h2, h3, h4, h5, h6, h7, hE, hD, hL, hQ, hP⟩ := h
  have hd := hD l hl
  have he := hE l (by omega)
  have hne' : ¬ iN (g + 1) = pd k0 := by
    rw [hpd, ← mInc, ← hg]
    exact hne
  obtain ⟨k1, k2⟩ := kPf_2 (by omega) hk0 hf ho hne'
  have hot : jI A 2704 l = -1 := by
    rcases hL l hl with a | ⟨j, a1, a2, a3, a4, a5⟩
    · exact a.1
    · rw [h0] at a5
      exact absurd a5 (by simp [show ¬ (1 : Int32) = 3 by decide, show ¬ (1 : Int32) = 4 by decide, show ¬ (1 : Int32) = 5 by decide])
  have g5 : g + 1 ≤ 6 := by
    obtain ⟨b, b1, b2⟩ := hb
    obtain ⟨a1, a2, a3, a4⟩ := jfst_at (by omega) _ _ (by omega) ho
    have a5 := (of_decide_eq_true a3).1
    rw [b2] at a5 hne'
    have a6 : ¬ b < g + 1 := fun h => a5 ((iN_lt (by omega) (by omega)).mpr h)
    omega
  unfold jRXn kDialn kDln kDlMs
  simp only [if_neg hne, mI2, mR2, Nat.reduceEqDiff, not_false_eq_true]
  have hdw' : ∀ k, jI (jsI (jsI (jsI (jsI A 2768 l (jI A 2768 l * 10 + c)) 2832 l (jI A 2832 l + 1)) 2640 l 7) 2640 l 1) 2640 k = jI A 2640 k := by
    intro k
    simp only [mI1, mI2, mR2, Nat.reduceEqDiff, not_false_eq_true]
    by_cases g : k = l
    · rw [if_pos g, g, h0]
    · rw [if_neg g, if_neg g]
  have hdw : jI (jsI (jsI (jsI (jsI A 2768 l (jI A 2768 l * 10 + c)) 2832 l (jI A 2832 l + 1)) 2640 l 7) 2640 l 1) 2640 = jI A 2640 := funext hdw'
  simp only [hdw]
  refine ⟨h1, h2, h3, h4, h5, h6, h7, ?_, ?_, hL, hQ, hP⟩
  · intro k hk
    have e := hE k hk
    unfold kEq at e ⊢
    simp only [mI1]
    by_cases g : k = l
    · subst g
      simp only [if_true]
      exact ⟨e.1, by rw [e.2.1, Int32.mul_comm], by rw [e.2.2.1], e.2.2.2⟩
    · simp only [if_neg g]
      exact e
  · intro k hk
    have e := hD k hk
    unfold kDg at e ⊢
    simp only [mI1]
    by_cases g : k = l
    · subst g
      simp only [if_true]
      rw [h0]
      refine ⟨fun h => absurd h (by decide), ?_, fun _ => ⟨(e.2.2.1 h0).1, _, g5, by rw [hg, mInc]⟩, fun h => absurd h (by decide)⟩
      rw [hg, mInc, k1]
      exact (e.2.2.1 h0).1
    · simp only [if_neg g]
      exact e
theorem R_dial1 {g k0 : Nat} {c : Int32} (h : jRXn A B n w mk pn pd) (h10 : n ≤ 10) (hl : l < n) (h0 : jI A 2640 l = 1) (hg : jI A 2832 l = iN g) (hk0 : k0 < n) (g6 : g ≤ 6) (ho : kPf n pn pd (iN (g + 1)) (jI A 2768 l * 10 + c) = iN k0) (hne : jI A 2832 l + 1 = jI A 2000 k0) (hpd : pd = jI A 2000) : jRXn (kDialn A l w c (some k0)) (jsI (jsI (jsI (kDlMs B l c) 5904 l 2) 6160 w (iN l)) 5836 7 (iN (w + 1))) n (w + 1) mk pn pd := by
  obtain ⟨h1, h2, h3, h4, h5, h6, h7, hE, hD, hL, hQ, hP⟩ := h
  have hd := hD l hl
  have he := hE l (by omega)
  have hne' : iN (g + 1) = pd k0 := by
    rw [hpd, ← mInc, ← hg]
    exact hne
  have k1 := kPf_1 (by omega) g6 hk0 ho hne'
  have hot : jI A 2704 l = -1 := by
    rcases hL l hl with a | ⟨j, a1, a2, a3, a4, a5⟩
    · exact a.1
    · rw [h0] at a5
      exact absurd a5 (by simp [show ¬ (1 : Int32) = 3 by decide, show ¬ (1 : Int32) = 4 by decide, show ¬ (1 : Int32) = 5 by decide])
  unfold jRXn kDialn kDln kDlMs
  simp only [if_pos hne, mI2, mR2, Nat.reduceEqDiff, not_false_eq_true]
  refine ⟨by rw [mI1, mI1]; exact h1, by rw [mI1]; exact h2, by rw [mI1]; exact h3, h4, h5, by rw [mI1]; rfl, by rw [mI1]; rfl, ?_, ?_, ?_, ?_, hP⟩
  · intro k hk
    have e := hE k hk
    unfold kEq at e ⊢
    simp only [mI1]
    by_cases g : k = l
    · subst g
      simp only [if_true]
      exact ⟨trivial, by rw [e.2.1, Int32.mul_comm], by rw [e.2.2.1], e.2.2.2⟩
    · simp only [if_neg g]
      exact e
  · intro k hk
    have e := hD k hk
    unfold kDg at e ⊢
    simp only [mI1]
    by_cases g : k = l
    · subst g
      simp only [if_true]
      refine ⟨fun h => absurd h (by decide), ?_, fun h => absurd h (by decide), fun _ => ⟨k0, hk0, rfl⟩⟩
      rw [hg, mInc, k1]
    · simp only [if_neg g]
      exact e
  · refine kLk_1 hL (by omega) hl hot ?_ ?_ ?_ ?_
    · rw [mI1, if_pos rfl]; decide
    · rw [mI1, if_pos rfl]; decide
    · rw [mI1, if_pos rfl]; decide
    · intro k _ g
      simp only [mI1, mI2, mR2, Nat.reduceEqDiff, not_false_eq_true, if_neg g]
  · refine kQu_2 hQ (by omega) hl (by rw [h0]; decide) (by rw [mI1, if_pos rfl]) (fun k _ g => by simp only [mI1, mI2, mR2, Nat.reduceEqDiff, not_false_eq_true, if_neg g]) ?_ ?_ ?_ ?_
    · intro j hj
      rw [mI1, if_neg (by omega)]
      simp only [mI2, mR2, Nat.reduceEqDiff, not_false_eq_true]
    · rw [mI1, if_pos rfl]
    · intro j hj
      rw [mI1, if_neg (by omega)]
      simp only [mI2, mR2, Nat.reduceEqDiff, not_false_eq_true]
    · rw [mI1, if_pos rfl]
/-- what tests see is alike -/
def kSeen (A B : jM) (n : Nat) : Prop := jI A 2567 2 = jI B 5836 0 ∧ (∀ l, l < n → ((jI B 5904 l = 5 ↔ jI A 2640 l = 5) ∧ (jI B 5904 l = 0 ↔ jI A 2640 l = 0)) ∧ jI B 6288 l = (if jI A 3024 l = 0 then 0 else 1) ∧ (jI A 3024 l = 0 → jI A 3088 l = 0) ∧ (¬ jI A 3024 l = 0 → jI B 6416 l = jI A 3024 l ∧ jI B 6352 l = jI A 3088 l)) ∧ kLk n (jI A 2640) (jI A 2704) (jI A 3024)
theorem kSee_bn (hS : kSeen A B n) (v : Int32) : rsum (fun q => if jI B 6288 q = 1 then jI B 6416 q >>> (v &&& 31) &&& 1 else 0) n = rsum (fun q => jI A 3024 q >>> (v &&& 31) &&& 1) n ∧ rsum (fun q => if jI B 6288 q = 1 then jI B 6352 q >>> (v &&& 31) &&& 1 else 0) n = rsum (fun q => jI A 3088 q >>> (v &&& 31) &&& 1) n := by
  have h0 : ((0 : Int32) >>> (v &&& 31)) &&& 1 = 0 := by
    have : (0 : Int32) >>> (v &&& 31) = 0 := by
      apply Int32.toBitVec_inj.mp
      rw [Int32.toBitVec_shiftRight]
      exact BitVec.zero_sshiftRight
    rw [this]
    decide
  refine ⟨rsum_congr n fun k hk => ?_, rsum_congr n fun k hk => ?_⟩
  · obtain ⟨_, a2, a3, a4⟩ := hS.2.1 k hk
    by_cases g : jI A 3024 k = 0
    · rw [a2, if_pos g, if_neg (by decide), g, h0]
    · rw [a2, if_neg g, if_pos rfl, (a4 g).1]
  · obtain ⟨_, a2, a3, a4⟩ := hS.2.1 k hk
    by_cases g : jI A 3024 k = 0
    · rw [a2, if_pos g, if_neg (by decide), a3 g, h0]
    · rw [a2, if_neg g, if_pos rfl, (a4 g).2]
theorem kEnv_eqn (hS : kSeen A B n) (hn : n ≤ 10) (ht : t ≤ 10) (hw : ∀ k, k < t → jI A 2192 k = jI B (64 * p + 464) k) {K : Nat} {s : Int32} (h1 : K = 14 → ∃ u, u < t ∧ s = iN u) (h2 : K = 16 → ∃ u, u < n ∧ s = iN u) : kEnvn A n K s = kEnvMs B p n K s := by
  have hb := kSee_bn hS
  obtain ⟨hS1, hS2, hS3⟩ := hS
  unfold kEnvn kEnvMs
  by_cases e : K = 12
  · rw [if_pos e, if_pos e, hS1]
  · rw [if_neg e, if_neg e]
    by_cases e : K = 13
    · rw [if_pos e, if_pos e, kTalks (by omega) (kLk_talk hS3 (by omega))]
      congr 1
      refine rsum_congr n fun k hk => ?_
      have := (hS2 k hk).1.1
      by_cases g : jI A 2640 k = 5
      · rw [if_pos g, if_pos (this.mpr g)]
      · rw [if_neg g, if_neg fun h => g (this.mp h)]
    · rw [if_neg e, if_neg e]
      by_cases e : K = 14
      · obtain ⟨u, hu, hs⟩ := h1 e
        rw [if_pos e, if_pos e, (hb s).2, hs, iN_cl (by omega), hw u hu]
      · rw [if_neg e, if_neg e]
        by_cases e : K = 15
        · rw [if_pos e, if_pos e, (hb s).1]
        · rw [if_neg e, if_neg e]
          by_cases e : K = 16
          · obtain ⟨u, hu, hs⟩ := h2 e
            rw [if_pos e, if_pos e, hs, iN_cl (by omega)]
            have := (hS2 u hu).1.2
            by_cases g : jI A 2640 u = 0
            · rw [if_pos g, if_pos (this.mpr g)]
            · rw [if_neg g, if_neg fun h => g (this.mp h)]
          · rw [if_neg e, if_neg e]
/-- what is shut is alike -/
theorem kShut_eqn (hR : jRP A B p m n t L K nh T) (hS : kSeen A B n) {j : Nat} (hj : j < 10) (g : Nat → Int32) : (jbt (kShutn A n L K).1 j = true ↔ (kIsh (kEnvMs B p n) (jI B (64 * p + 594)) T (iN j) 0 nh g).1 = true) := by
  obtain ⟨r1, r2, r3, r4, r5, r6, r7, r8, r9, r10, r11, r12, r13, r14, r15⟩ := hR
  have hn : n ≤ 10 := r1.2.2.2.2.1
  have ht : t ≤ 10 := r1.2.2.2.2.2.2.1
  have hV : ∀ k, k < nh → kVal 0 (T k) := fun k hk => (r15 k hk).1
  have hsay : ∀ k, k < nh → kSay (kEnvn A n) (T k) = kSay (kEnvMs B p n) (T k) := fun k hk => kSay_env fun K s hm => kEnv_eqn hS hn ht (fun k hk => (r11 k hk).2.2.2.2.2.1) ((r15 k hk).2.2 K s hm).1 ((r15 k hk).2.2 K s hm).2
  rw [kIsh_e (m := nh) hV nh 0 g (by omega)]
  have e1 : (kShutn A n L K).1 = jfold (fun k x => x ||| kSay (kEnvn A n) (T k) <<< (jI B (64 * p + 594) k &&& 31)) 0 nh 0 := by
    unfold kShutn
    rw [r13, kSeq_run _ 0 _ r14, kAll_run (n := nh) hV nh 0 0 _ (by omega)]
  have hB : ∀ k, k < nh → kSay (kEnvn A n) (T k) = 0 ∨ kSay (kEnvn A n) (T k) = 1 := by
    intro k hk
    refine (r15 k hk).2.1 _ fun s => ?_
    unfold kEnvn
    simp only [Nat.reduceEqDiff, if_true, if_false]
    split
    · exact Or.inr rfl
    · exact Or.inl rfl
  rw [e1, kAll_bit (n := nh) (by omega) (fun k hk => by obtain ⟨u, h1, h2⟩ := r12 k hk; exact ⟨u, by omega, h2⟩) hB nh 0 0 (by omega), jbt_zero]
  constructor
  · rintro (h | ⟨i, h1, h2, h3, h4⟩)
    · exact Bool.noConfusion h
    · exact ⟨i, h1, h2, h3, by rw [← hsay i (by omega)]; exact h4⟩
  · rintro ⟨i, h1, h2, h3, h4⟩
    exact Or.inr ⟨i, h1, h2, h3, by rw [hsay i (by omega)]; exact h4⟩
/-- ways are alike -/
theorem kWay_eqn (hR : jRP A B p m n t L K nh T) (hS : kSeen A B n) {u : Nat} (hu : u < m) {z : Int32} {W : Nat → Int32} : kRw (kLook (jI A 2064) (jI A 2128) (jI A 2256) t (iN u) z (kFreen A n m) (kOpenn A n t L K) W) (kWay_s B p n t nh T u z).1 := by
  have hsh := fun j hj g => kShut_eqn (j := j) hR hS hj g
  have hb := kSee_bn hS
  obtain ⟨r1, r2, r3, r4, r5, r6, r7, r8, r9, r10, r11, r12, r13, r14, r15⟩ := hR
  have hm : m ≤ 6 := r1.2.2.1
  have hn : n ≤ 10 := r1.2.2.2.2.1
  have ht : t ≤ 10 := r1.2.2.2.2.2.2.1
  rw [kLook_congr (f' := jI B (64 * p + 336)) (g' := jI B (64 * p + 400)) (c' := jI B (64 * p + 528)) fun k hk => ⟨(r11 k hk).1, (r11 k hk).2.1, (r11 k hk).2.2.2.2.2.2.2.1⟩]
  unfold kWay_s kGo_s
  refine kLook_go (M := m) (ld := fun v => rsum (fun q => if jI B 6288 q = 1 then jI B 6416 q >>> (v &&& 31) &&& 1 else 0) n) hm ?_ ?_ ht ?_ ?_ ?_ hu rfl
  · intro k hk
    obtain ⟨q1, q2, ⟨u, q3, q4⟩, _⟩ := r11 k hk
    exact ⟨u, q3, q1.symm.trans q4⟩
  · intro k hk
    obtain ⟨q1, q2, _, ⟨u, q3, q4⟩, _⟩ := r11 k hk
    exact ⟨u, q3, q2.symm.trans q4⟩
  · intro k hk
    obtain ⟨_, _, _, _, _, _, _, q1, r, q2, q3, q4⟩ := r11 k hk
    exact ⟨r, by omega, q1.symm.trans q4⟩
  · intro v hv
    rw [(hb (iN v)).1, ← (r8 v hv).1]
    unfold kFreen
    rw [jfold_set (n := m) (by omega) (by omega) m 0 0 (by omega), jbt_zero]
    exact ⟨fun h => h.elim (fun h => Bool.noConfusion h) fun h => h.2.2, fun h => Or.inr ⟨by omega, by omega, h⟩⟩
  · intro k hk g
    rw [(hb (iN k)).2, ← (r11 k hk).2.2.2.2.2.1, ← hsh k (by omega) g]
    obtain ⟨_, _, _, _, _, _, ⟨r, q1, q2, q3⟩, _⟩ := r11 k hk
    obtain ⟨hh, q4, q5⟩ := rsum_bits (r := jI A 3088) (u := k) (by omega) n
    unfold kOpenn
    rw [jbt_an, jbt_not (by omega), Bool.and_eq_true]
    have e1 : jbt (kWiredn A n t) k = true ↔ rsum (fun q => jI A 3088 q >>> (iN k &&& 31) &&& 1) n < jI A 2192 k := by
      unfold kWiredn
      rw [jfold_set (n := t) (by omega) (by omega) t 0 0 (by omega), jbt_zero, q5, q3, i_sub r (by omega) hh (by omega)]
      exact ⟨fun h => h.elim (fun h => Bool.noConfusion h) fun h => h.2.2, fun h => Or.inr ⟨by omega, by omega, h⟩⟩
    rw [e1]
    refine and_congr Iff.rfl ?_
    cases jbt (kShutn A n L K).1 k <;> simp
/-- what tests see is alike -/
def kSeea (A B : jM) (n : Nat) : Prop := jI A 3463 2 = jI B 6732 0 ∧ (∀ l, l < n → ((jI B 6800 l = 5 ↔ jI A 3536 l = 5) ∧ (jI B 6800 l = 0 ↔ jI A 3536 l = 0)) ∧ jI B 7184 l = (if jI A 3920 l = 0 then 0 else 1) ∧ (jI A 3920 l = 0 → jI A 3984 l = 0) ∧ (¬ jI A 3920 l = 0 → jI B 7312 l = jI A 3920 l ∧ jI B 7248 l = jI A 3984 l)) ∧ kLk n (jI A 3536) (jI A 3600) (jI A 3920)
theorem kSee_ba (hS : kSeea A B n) (v : Int32) : rsum (fun q => if jI B 7184 q = 1 then jI B 7312 q >>> (v &&& 31) &&& 1 else 0) n = rsum (fun q => jI A 3920 q >>> (v &&& 31) &&& 1) n ∧ rsum (fun q => if jI B 7184 q = 1 then jI B 7248 q >>> (v &&& 31) &&& 1 else 0) n = rsum (fun q => jI A 3984 q >>> (v &&& 31) &&& 1) n := by
  have h0 : ((0 : Int32) >>> (v &&& 31)) &&& 1 = 0 := by
    have : (0 : Int32) >>> (v &&& 31) = 0 := by
      apply Int32.toBitVec_inj.mp
      rw [Int32.toBitVec_shiftRight]
      exact BitVec.zero_sshiftRight
    rw [this]
    decide
  refine ⟨rsum_congr n fun k hk => ?_, rsum_congr n fun k hk => ?_⟩
  · obtain ⟨_, a2, a3, a4⟩ := hS.2.1 k hk
    by_cases g : jI A 3920 k = 0
    · rw [a2, if_pos g, if_neg (by decide), g, h0]
    · rw [a2, if_neg g, if_pos rfl, (a4 g).1]
  · obtain ⟨_, a2, a3, a4⟩ := hS.2.1 k hk
    by_cases g : jI A 3920 k = 0
    · rw [a2, if_pos g, if_neg (by decide), a3 g, h0]
    · rw [a2, if_neg g, if_pos rfl, (a4 g).2]
theorem kEnv_eqa (hS : kSeea A B n) (hn : n ≤ 10) (ht : t ≤ 10) (hw : ∀ k, k < t → jI A 2192 k = jI B (64 * p + 464) k) {K : Nat} {s : Int32} (h1 : K = 14 → ∃ u, u < t ∧ s = iN u) (h2 : K = 16 → ∃ u, u < n ∧ s = iN u) : kEnva A n K s = kEnvMh B p n K s := by
  have hb := kSee_ba hS
  obtain ⟨hS1, hS2, hS3⟩ := hS
  unfold kEnva kEnvMh
  by_cases e : K = 12
  · rw [if_pos e, if_pos e, hS1]
  · rw [if_neg e, if_neg e]
    by_cases e : K = 13
    · rw [if_pos e, if_pos e, kTalks (by omega) (kLk_talk hS3 (by omega))]
      congr 1
      refine rsum_congr n fun k hk => ?_
      have := (hS2 k hk).1.1
      by_cases g : jI A 3536 k = 5
      · rw [if_pos g, if_pos (this.mpr g)]
      · rw [if_neg g, if_neg fun h => g (this.mp h)]
    · rw [if_neg e, if_neg e]
      by_cases e : K = 14
      · obtain ⟨u, hu, hs⟩ := h1 e
        rw [if_pos e, if_pos e, (hb s).2, hs, iN_cl (by omega), hw u hu]
      · rw [if_neg e, if_neg e]
        by_cases e : K = 15
        · rw [if_pos e, if_pos e, (hb s).1]
        · rw [if_neg e, if_neg e]
          by_cases e : K = 16
          · obtain ⟨u, hu, hs⟩ := h2 e
            rw [if_pos e, if_pos e, hs, iN_cl (by omega)]
            have := (hS2 u hu).1.2
            by_cases g : jI A 3536 u = 0
            · rw [if_pos g, if_pos (this.mpr g)]
            · rw [if_neg g, if_neg fun h => g (this.mp h)]
          · rw [if_neg e, if_neg e]
/-- what is shut is alike -/
theorem kShut_eqa (hR : jRP A B p m n t L K nh T) (hS : kSeea A B n) {j : Nat} (hj : j < 10) (g : Nat → Int32) : (jbt (kShuta A n L K).1 j = true ↔ (kIsh (kEnvMh B p n) (jI B (64 * p + 594)) T (iN j) 0 nh g).1 = true) := by
  obtain ⟨r1, r2, r3, r4, r5, r6, r7, r8, r9, r10, r11, r12, r13, r14, r15⟩ := hR
  have hn : n ≤ 10 := r1.2.2.2.2.1
  have ht : t ≤ 10 := r1.2.2.2.2.2.2.1
  have hV : ∀ k, k < nh → kVal 0 (T k) := fun k hk => (r15 k hk).1
  have hsay : ∀ k, k < nh → kSay (kEnva A n) (T k) = kSay (kEnvMh B p n) (T k) := fun k hk => kSay_env fun K s hm => kEnv_eqa hS hn ht (fun k hk => (r11 k hk).2.2.2.2.2.1) ((r15 k hk).2.2 K s hm).1 ((r15 k hk).2.2 K s hm).2
  rw [kIsh_e (m := nh) hV nh 0 g (by omega)]
  have e1 : (kShuta A n L K).1 = jfold (fun k x => x ||| kSay (kEnva A n) (T k) <<< (jI B (64 * p + 594) k &&& 31)) 0 nh 0 := by
    unfold kShuta
    rw [r13, kSeq_run _ 0 _ r14, kAll_run (n := nh) hV nh 0 0 _ (by omega)]
  have hB : ∀ k, k < nh → kSay (kEnva A n) (T k) = 0 ∨ kSay (kEnva A n) (T k) = 1 := by
    intro k hk
    refine (r15 k hk).2.1 _ fun s => ?_
    unfold kEnva
    simp only [Nat.reduceEqDiff, if_true, if_false]
    split
    · exact Or.inr rfl
    · exact Or.inl rfl
  rw [e1, kAll_bit (n := nh) (by omega) (fun k hk => by obtain ⟨u, h1, h2⟩ := r12 k hk; exact ⟨u, by omega, h2⟩) hB nh 0 0 (by omega), jbt_zero]
  constructor
  · rintro (h | ⟨i, h1, h2, h3, h4⟩)
    · exact Bool.noConfusion h
    · exact ⟨i, h1, h2, h3, by rw [← hsay i (by omega)]; exact h4⟩
  · rintro ⟨i, h1, h2, h3, h4⟩
    exact Or.inr ⟨i, h1, h2, h3, by rw [hsay i (by omega)]; exact h4⟩
/-- ways are alike -/
theorem kWay_eqa (hR : jRP A B p m n t L K nh T) (hS : kSeea A B n) {u : Nat} (hu : u < m) {z : Int32} {W : Nat → Int32} : kRw (kLook (jI A 2064) (jI A 2128) (jI A 2256) t (iN u) z (kFreea A n m) (kOpena A n t L K) W) (kWay_h B p n t nh T u z).1 := by
  have hsh := fun j hj g => kShut_eqa (j := j) hR hS hj g
  have hb := kSee_ba hS
  obtain ⟨r1, r2, r3, r4, r5, r6, r7, r8, r9, r10, r11, r12, r13, r14, r15⟩ := hR
  have hm : m ≤ 6 := r1.2.2.1
  have hn : n ≤ 10 := r1.2.2.2.2.1
  have ht : t ≤ 10 := r1.2.2.2.2.2.2.1
  rw [kLook_congr (f' := jI B (64 * p + 336)) (g' := jI B (64 * p + 400)) (c' := jI B (64 * p + 528)) fun k hk => ⟨(r11 k hk).1, (r11 k hk).2.1, (r11 k hk).2.2.2.2.2.2.2.1⟩]
  unfold kWay_h kGo_h
  refine kLook_go (M := m) (ld := fun v => rsum (fun q => if jI B 7184 q = 1 then jI B 7312 q >>> (v &&& 31) &&& 1 else 0) n) hm ?_ ?_ ht ?_ ?_ ?_ hu rfl
  · intro k hk
    obtain ⟨q1, q2, ⟨u, q3, q4⟩, _⟩ := r11 k hk
    exact ⟨u, q3, q1.symm.trans q4⟩
  · intro k hk
    obtain ⟨q1, q2, _, ⟨u, q3, q4⟩, _⟩ := r11 k hk
    exact ⟨u, q3, q2.symm.trans q4⟩
  · intro k hk
    obtain ⟨_, _, _, _, _, _, _, q1, r, q2, q3, q4⟩ := r11 k hk
    exact ⟨r, by omega, q1.symm.trans q4⟩
  · intro v hv
    rw [(hb (iN v)).1, ← (r8 v hv).1]
    unfold kFreea
    rw [jfold_set (n := m) (by omega) (by omega) m 0 0 (by omega), jbt_zero]
    exact ⟨fun h => h.elim (fun h => Bool.noConfusion h) fun h => h.2.2, fun h => Or.inr ⟨by omega, by omega, h⟩⟩
  · intro k hk g
    rw [(hb (iN k)).2, ← (r11 k hk).2.2.2.2.2.1, ← hsh k (by omega) g]
    obtain ⟨_, _, _, _, _, _, ⟨r, q1, q2, q3⟩, _⟩ := r11 k hk
    obtain ⟨hh, q4, q5⟩ := rsum_bits (r := jI A 3984) (u := k) (by omega) n
    unfold kOpena
    rw [jbt_an, jbt_not (by omega), Bool.and_eq_true]
    have e1 : jbt (kWireda A n t) k = true ↔ rsum (fun q => jI A 3984 q >>> (iN k &&& 31) &&& 1) n < jI A 2192 k := by
      unfold kWireda
      rw [jfold_set (n := t) (by omega) (by omega) t 0 0 (by omega), jbt_zero, q5, q3, i_sub r (by omega) hh (by omega)]
      exact ⟨fun h => h.elim (fun h => Bool.noConfusion h) fun h => h.2.2, fun h => Or.inr ⟨by omega, by omega, h⟩⟩
    rw [e1]
    refine and_congr Iff.rfl ?_
    cases jbt (kShuta A n L K).1 k <;> simp
end WAYR
