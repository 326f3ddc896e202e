/-! THE PURE PART: reading tokens (class). -/
/-- the tokens -/
def kPs (b : Nat → Int32) (sz : Nat) : Nat → Nat
  | 0 => 0
  | i + 1 => kAf b sz (kPs b sz i) + kLn b sz (kAf b sz (kPs b sz i))
def kTs (b : Nat → Int32) (sz i : Nat) : Nat := kAf b sz (kPs b sz i)
def kTl (b : Nat → Int32) (sz i : Nat) : Nat := kLn b sz (kTs b sz i)
def kTk (b : Nat → Int32) (sz i : Nat) : Nat := if i = 400 ∧ ¬ kKd b sz (kTs b sz i) (kTl b sz i) = 39 then 40 else kKd b sz (kTs b sz i) (kTl b sz i)
def kTN (b : Nat → Int32) (sz N : Nat) : Prop := 1 ≤ N ∧ N ≤ 401 ∧ 39 ≤ kTk b sz (N - 1) ∧ ∀ i, i < N - 1 → kTk b sz i < 39
theorem jWd_a {μ μ' : jM} (h : ∀ a, ¬ a = 289 → ¬ a = 1248 → ¬ a = 2400 → jQ μ' a = jQ μ a) (hW : jWd μ) : jWd μ' := by
  unfold jWd at hW ⊢
  rw [h 0 (by decide) (by decide) (by decide), h 65 (by decide) (by decide) (by decide), h 194 (by decide) (by decide) (by decide), h 579 (by decide) (by decide) (by decide), h 1156 (by decide) (by decide) (by decide), h 1413 (by decide) (by decide) (by decide), h 1478 (by decide) (by decide) (by decide), h 1731 (by decide) (by decide) (by decide), h 2308 (by decide) (by decide) (by decide), h 2567 (by decide) (by decide) (by decide), h 3400 (by decide) (by decide) (by decide), h 3463 (by decide) (by decide) (by decide), h 4296 (by decide) (by decide) (by decide), h 4361 (by decide) (by decide) (by decide), h 4490 (by decide) (by decide) (by decide), h 4939 (by decide) (by decide) (by decide), h 5836 (by decide) (by decide) (by decide), h 6732 (by decide) (by decide) (by decide)]
  exact hW
theorem kFk_lt {p : Nat → Bool} {o : Nat} : ∀ m k, (kFk p o k m = o ∧ ∀ j, k ≤ j → j < k + m → p j = false) ∨ (k ≤ kFk p o k m ∧ kFk p o k m < k + m ∧ p (kFk p o k m) = true ∧ ∀ j, k ≤ j → j < kFk p o k m → p j = false)
  | 0, k => Or.inl ⟨rfl, fun j h1 h2 => absurd h1 (by omega)⟩
  | m + 1, k => by
    unfold kFk
    by_cases h : p k = true
    · rw [if_pos h]
      exact Or.inr ⟨Nat.le_refl _, by omega, h, fun j h1 h2 => absurd h1 (by omega)⟩
    · rw [if_neg h]
      have h0 : p k = false := by simpa using h
      rcases kFk_lt (p := p) (o := o) m (k + 1) with ⟨a1, a2⟩ | ⟨a1, a2, a3, a4⟩
      · refine Or.inl ⟨a1, fun j h1 h2 => ?_⟩
        by_cases e : j = k
        · rw [e]; exact h0
        · exact a2 j (by omega) (by omega)
      · refine Or.inr ⟨by omega, by omega, a3, fun j h1 h2 => ?_⟩
        by_cases e : j = k
        · rw [e]; exact h0
        · exact a4 j (by omega) h2
theorem kLn_pos {b : Nat → Int32} {sz a : Nat} (ha : a < sz) : 1 ≤ kLn b sz a ∧ a + kLn b sz a ≤ sz + 1 := by
  unfold kLn
  have hs : ∀ p : Int32 → Bool, p (b a) = true → a + 1 ≤ kSk p b sz (sz - a) a ∧ kSk p b sz (sz - a) a ≤ sz := by
    intro p hp
    have h1 : kSk p b sz (sz - a) a = kSk p b sz (sz - a - 1) (a + 1) := by
      rw [show sz - a = (sz - a - 1) + 1 by omega]
      show (if a < sz ∧ p (b a) = true then kSk p b sz (sz - a - 1) (a + 1) else a) = _
      rw [if_pos ⟨ha, hp⟩]
      rfl
    rw [h1]
    obtain ⟨h2, h3⟩ := kSk_le (p := p) (b := b) (sz := sz) (sz - a - 1) (a + 1)
    omega
  by_cases g : kLet (b a) = true
  · rw [if_pos g]
    have := hs (fun x => kLet x || kDgt x) (by rw [g]; rfl)
    omega
  · rw [if_neg g]
    by_cases g2 : kDgt (b a) = true
    · rw [if_pos g2]
      have := hs kDgt g2
      omega
    · rw [if_neg g2]
      split <;> omega
theorem kKd_end {b : Nat → Int32} {sz a len : Nat} (h : kKd b sz a len < 39) : a < sz := by
  unfold kKd at h
  by_cases g : a < sz
  · exact g
  · rw [if_pos g] at h
    exact absurd h (by omega)
theorem kTk_lt {b : Nat → Int32} {sz i : Nat} (h : kTk b sz i < 39) : kTk b sz i = kKd b sz (kTs b sz i) (kTl b sz i) ∧ ¬ i = 400 ∧ kTs b sz i < sz := by
  unfold kTk at h ⊢
  by_cases g : i = 400 ∧ ¬ kKd b sz (kTs b sz i) (kTl b sz i) = 39
  · rw [if_pos g] at h
    exact absurd h (by omega)
  · rw [if_neg g] at h ⊢
    refine ⟨rfl, fun e => ?_, kKd_end h⟩
    exact g ⟨e, by omega⟩
theorem kAf_le {b : Nat → Int32} {sz a : Nat} (h : a ≤ sz + 1) : a ≤ kAf b sz a ∧ kAf b sz a ≤ sz + 1 := by
  have := kSk_le (p := kBlk) (b := b) (sz := sz) (sz - a) a
  unfold kAf
  omega
theorem kPs_le {b : Nat → Int32} {sz N : Nat} (hN : kTN b sz N) : ∀ i, i < N → kPs b sz i ≤ sz + 1
  | 0, _ => Nat.zero_le _
  | i + 1, h => by
    obtain ⟨h1, h2, h3⟩ := kTk_lt (hN.2.2.2 i (by omega))
    exact (kLn_pos h3).2
theorem kTN_ex (b : Nat → Int32) (sz : Nat) : ∃ N, kTN b sz N := by
  have h400 : 39 ≤ kTk b sz 400 := by
    unfold kTk
    split
    · omega
    · next h => 
      have : kKd b sz (kTs b sz 400) (kTl b sz 400) = 39 := by
        refine Classical.byContradiction fun g => h ⟨rfl, g⟩
      omega
  have : ∀ m, m ≤ 400 → (∀ i, i < 400 - m → kTk b sz i < 39) → ∃ N, kTN b sz N := by
    intro m
    induction m with
    | zero => intro _ h; exact ⟨401, by omega, by omega, h400, h⟩
    | succ m ih =>
      intro hm h
      by_cases g : kTk b sz (400 - (m + 1)) < 39
      · refine ih (by omega) fun i hi => ?_
        by_cases e : i = 400 - (m + 1)
        · rw [e]; exact g
        · exact h i (by omega)
      · exact ⟨400 - (m + 1) + 1, by omega, by omega, by rw [Nat.add_sub_cancel]; omega, fun i hi => h i (by omega)⟩
  exact this 400 (Nat.le_refl _) fun i hi => absurd hi (by omega)
/-- the tokens as the class keeps them, those below j -/
def jTk (μ μ' : jM) (b : Nat → Int32) (sz j : Nat) : Prop :=
  (∀ a, ¬ a = 194 → ¬ a = 345 → ¬ a = 409 → ¬ a = 473 → jI μ' a = jI μ a) ∧ (∀ a, ¬ a = 289 → jQ μ' a = jQ μ a) ∧ (∀ a, ¬ a = 542 → jL μ' a = jL μ a) ∧ jA μ' = jA μ ∧ jX μ' = jX μ ∧ (∀ k, ¬ k = 6 → jI μ' 194 k = jI μ 194 k) ∧ jI μ' 194 6 = iN j ∧
  ∀ i, i < j → jQ μ' 289 i = some (64 * kTk b sz i + 40) ∧ jI μ' 345 i = iN (kTs b sz i) ∧ jI μ' 409 i = iN (kTl b sz i) ∧ jI μ' 473 i = (if kTk b sz i = 38 then kNm b (kTs b sz i) (kTl b sz i) else 0) ∧ jL μ' 542 i = if kTk b sz i = 37 then kNa b (kTs b sz i) (kTl b sz i) else Int64.ofNat 0
theorem kKd_le {b : Nat → Int32} {sz a len : Nat} : kKd b sz a len ≤ 41 := by
  unfold kKd
  have := kFk_lt (p := kTxt b a len) (o := 37) 42 0
  have := kFk_lt (p := kTxt b a len) (o := 40) 42 0
  repeat' split
  all_goals omega
section READ
variable {μ : jM} {sz N : Nat}
/-- the memory behind a token -/
def kTkM (ν : jM) (b : Nat → Int32) (sz i : Nat) : jM := jsI (jsL (jsI (jsI (jsI (jsQ ν 289 i (some (64 * kTk b sz i + 40))) 345 i (iN (kTs b sz i))) 409 i (iN (kTl b sz i))) 473 i (if kTk b sz i = 38 then kNm b (kTs b sz i) (kTl b sz i) else 0)) 542 i (if kTk b sz i = 37 then kNa b (kTs b sz i) (kTl b sz i) else Int64.ofNat 0)) 194 6 (iN (i + 1))
theorem jTk_s {ν : jM} {b : Nat → Int32} {j : Nat} (h : jTk μ ν b sz j) : jTk μ (kTkM ν b sz j) b sz (j + 1) := by
  obtain ⟨h1, h2, h3, h4, h5, h6, h7, h8⟩ := h
  unfold kTkM
  refine ⟨fun a n1 n2 n3 n4 => ?_, fun a n => ?_, fun a n => ?_, h4, h5, fun k hk => ?_, ?_, fun i hi => ?_⟩
  · rw [mI2 n1, mL3, mI2 n4, mI2 n3, mI2 n2, mQ3]
    exact h1 a n1 n2 n3 n4
  · rw [mI4, mL4, mI4, mI4, mI4, mQ2 n]
    exact h2 a n
  · rw [mI3, mL2 n, mI3, mI3, mI3, mQ4]
    exact h3 a n
  · rw [mI1, if_neg hk, mL3, mI2 (by decide), mI2 (by decide), mI2 (by decide), mQ3]
    exact h6 k hk
  · rw [mI1, if_pos rfl]
  · simp only [mI1, mI2, mI3, mI4, mL1, mL3, mL4, mQ1, mQ3, mQ4, Nat.reduceEqDiff, not_false_eq_true]
    by_cases e : i = j
    · subst e
      simp only [if_true]
      exact ⟨trivial, trivial, trivial, trivial, trivial⟩
    · simp only [if_neg e]
      exact h8 i (by omega)
theorem c_readS {ν : jM} {b : Nat → Int32} (hb : b = kBy (jI μ 155) sz) (hW : jWd μ) (hz : jI μ 65 1 = iN sz) (h2 : sz ≤ 2000) (hN : kTN b sz N) {j : Nat} (hj : j < N) (hT : jTk μ ν b sz j) (b3 : Option Int32) (b4 : Option Nat) : ∃ b3' b4', (∀ (d : Nat) (Q : jO → jM → Prop), (Ex (d + 8) 27 9 [some (.ref 194), some (.int (iN (kPs b sz j))), some (.int (iN j)), b3.map .int, b4.map .ref] [] ν Q ↔ if kTk b sz j < 39 then Ex (d + 8) 27 9 [some (.ref 194), some (.int (iN (kPs b sz (j + 1)))), some (.int (iN (j + 1))), some (.int b3'), some (.ref b4')] [] (kTkM ν b sz j) Q else Q (.inl none) (kTkM ν b sz j))) := by
  obtain ⟨h1, h2', h3, h4, h5, h6, h7, h8⟩ := hT
  have hWn : jWd ν := jWd_a (fun a n _ _ => h2' a n) hW
  have hw := hWn
  unfold jWd at hw
  have hz' : jI ν 65 1 = iN sz := by rw [h1 65 (by decide) (by decide) (by decide) (by decide)]; exact hz
  have hb' : kBy (jI ν 155) sz = b := by rw [hb, h1 155 (by decide) (by decide) (by decide) (by decide)]
  have hps := kPs_le hN j hj
  have hts := kAf_le (b := b) hps
  have hN4 := hN.2.1
  have bl := fun d Q => c_blanks (d := d) (Q := Q) (a := kPs b sz j) hWn hz' h2 (by omega)
  rw [hb'] at bl
  have ln := fun d Q => c_length (d := d) (Q := Q) (a := kTs b sz j) hWn hz' h2 (by unfold kTs; omega)
  rw [hb'] at ln
  have hlen : kTl b sz j < 2 ^ 20 := by
    unfold kTl
    by_cases g : kTs b sz j < sz
    · have := (kLn_pos (b := b) g).2
      omega
    · unfold kLn
      have hs : ∀ p : Int32 → Bool, kSk p b sz (sz - kTs b sz j) (kTs b sz j) = kTs b sz j := fun p => by rw [show sz - kTs b sz j = 0 by omega]; rfl
      rw [hs, hs]
      repeat' split
      all_goals omega
  have kd := fun d Q => c_kindAt (d := d) (Q := Q) (a := kTs b sz j) (len := kTl b sz j) hWn hz' h2 (by unfold kTs; omega) (by omega)
  rw [hb'] at kd
  have nm := fun (ν2 : jM) (e1 : jI ν2 155 = jI ν 155) (e2 : jI ν2 65 = jI ν 65) (e3 : jWd ν2) d Q => c_numberAt (μ := ν2) (d := d) (Q := Q) (a := kTs b sz j) (len := kTl b sz j) e3 (by rw [e2]; exact hz') h2 (by unfold kTs; omega) (by omega)
  have na := fun (ν2 : jM) (e1 : jI ν2 155 = jI ν 155) (e2 : jI ν2 65 = jI ν 65) (e3 : jWd ν2) d Q => c_nameAt (μ := ν2) (d := d) (Q := Q) (a := kTs b sz j) (len := kTl b sz j) e3 (by rw [e2]; exact hz') h2 (by unfold kTs; omega) (by omega)
  have hlt : iN j < iN 401 := (iN_lt (by omega) (by omega)).mpr (by omega)
  have jc : (iN j).toNatClampNeg = j := iN_cl (by omega)
  have jj : jin (iN j) 401 = true := iN_in (by omega) (by omega)
  have hsum : iN (kTs b sz j) + iN (kTl b sz j) = iN (kTs b sz j + kTl b sz j) := iN_add
  have hps2 : kPs b sz (j + 1) = kTs b sz j + kTl b sz j := rfl
  have ets : kAf b sz (kPs b sz j) = kTs b sz j := rfl
  have etl : kLn b sz (kTs b sz j) = kTl b sz j := rfl
  rw [ets] at bl
  rw [etl] at ln
  have m40 : ∀ x, (64 * x + 40) % 64 = 40 := fun x => by omega
  have e39 : ∀ x, (64 * x + 40 = 2536) = (x = 39) := fun x => propext ⟨fun h => by omega, fun h => by omega⟩
  have e38 : ∀ x, (64 * x + 40 = 2472) = (x = 38) := fun x => propext ⟨fun h => by omega, fun h => by omega⟩
  have e37 : ∀ x, (64 * x + 40 = 2408) = (x = 37) := fun x => propext ⟨fun h => by omega, fun h => by omega⟩
  have e40 : ∀ x, (64 * x + 40 = 2600) = (x = 40) := fun x => propext ⟨fun h => by omega, fun h => by omega⟩
  have hQ1 : ∀ (ν2 : jM) v, jWd ν2 → jWd (jsQ ν2 289 j v) := fun ν2 v h => jWd_a (fun a n _ _ => mQ2 n) h
  have w40 : 64 * 40 + 40 = 2600 := rfl
  have i400 : (iN j = 400) = (j = 400) := propext ⟨fun h => (iN_eq (b := 400) (by omega) (by omega)).mp h, fun h => by rw [h]; rfl⟩
  have hKle := kKd_le (b := b) (sz := sz) (a := kTs b sz j) (len := kTl b sz j)
  refine ⟨iN (kTl b sz j), 64 * kTk b sz j + 40, fun d Q => ?_⟩
  have hk41 : ¬ kKd b sz (kTs b sz j) (kTl b sz j) = 41 := by
    intro e
    have hp : 1 ≤ kTl b sz j := by
      unfold kTl
      by_cases g : kTs b sz j < sz
      · exact (kLn_pos g).1
      · unfold kKd at e
        rw [if_pos g] at e
        exact absurd e (by decide)
    have hx : ∀ o, ¬ o = 41 → ¬ kFk (kTxt b (kTs b sz j) (kTl b sz j)) o 0 42 = 41 := by
      intro o ho e2
      rcases kFk_lt (p := kTxt b (kTs b sz j) (kTl b sz j)) (o := o) 42 0 with a | ⟨_, _, a3, _⟩
      · exact ho (a.1.symm.trans e2)
      · rw [e2] at a3
        unfold kTxt at a3
        have := (of_decide_eq_true a3).1
        have h0 : (jstr (kTn 41)).length = 0 := by decide +kernel
        omega
    unfold kKd at e
    have x37 := hx 37 (by decide)
    have x40 := hx 40 (by decide)
    revert e
    repeat' split
    all_goals first | exact x37 | exact x40 | decide
  -- the kind of this token
  have hbody : ∀ (K : Nat), K = kTk b sz j → ¬ K = 41 → K ≤ 41 → (Ex (d + 8) 27 58 [some (.ref 194), some (.int (iN (kTs b sz j))), some (.int (iN j)), some (.int (iN (kTl b sz j))), some (.ref (64 * K + 40))] [] ν Q ↔ if kTk b sz j < 39 then Ex (d + 8) 27 9 [some (.ref 194), some (.int (iN (kPs b sz (j + 1)))), some (.int (iN (j + 1))), some (.int (iN (kTl b sz j))), some (.ref (64 * kTk b sz j + 40))] [] (kTkM ν b sz j) Q else Q (.inl none) (kTkM ν b sz j)) := by
    intro K hK h41 hle
    rw [← hK, hps2]
    unfold kTkM
    rw [← hK]
    have nm1 := nm (jsI (jsI (jsQ ν 289 j (some (64 * K + 40))) 345 j (iN (kTs b sz j))) 409 j (iN (kTl b sz j))) (by rw [mI2 (by decide), mI2 (by decide)]; rfl) (by rw [mI2 (by decide), mI2 (by decide)]; rfl) (hQ1 _ _ hWn)
    rw [mI2 (by decide), mI2 (by decide), mQ3, hb'] at nm1
    have na1 := fun v => na (jsI (jsI (jsI (jsQ ν 289 j (some (64 * K + 40))) 345 j (iN (kTs b sz j))) 409 j (iN (kTl b sz j))) 473 j v) (by rw [mI2 (by decide), mI2 (by decide), mI2 (by decide)]; rfl) (by rw [mI2 (by decide), mI2 (by decide), mI2 (by decide)]; rfl) (hQ1 _ _ hWn)
    have na2 : ∀ v, kBy (jI (jsI (jsI (jsI (jsQ ν 289 j (some (64 * K + 40))) 345 j (iN (kTs b sz j))) 409 j (iN (kTl b sz j))) 473 j v) 155) sz = b := fun v => by rw [mI2 (by decide), mI2 (by decide), mI2 (by decide), mQ3, hb']
    simp only [na2] at na1
    by_cases k38 : K = 38
    · have k38' := eq_true k38
      have k37' : (K = 37) = False := eq_false (by omega)
      have k39' : (K = 39) = False := eq_false (by omega)
      have k40' : (K = 40) = False := eq_false (by omega)
      rw [if_pos (show K < 39 by omega)]
      simp only [x27_0, x27_1, x27_2, x27_5, x27_6a, x27_6b, x27_6c, x27_7, x27_8a, x27_8b, x27_8c, x27_10, x27_11, x27_14, x27_15, x27_18, x27_19, x27_20, x27_23a, x27_23b, x27_23c, x27_24, x27_25, x27_26, x27_29a, x27_29b, x27_29c, x27_30, x27_31, x27_32, x27_33, x27_36a, x27_36b, x27_36c, x27_38, x27_39, x27_42, x27_45, x27_47, x27_50, x27_53, x27_56a, x27_56b, x27_56c, x27_58, x27_59, x27_62, x27_63, x27_65, x27_66, x27_67, x27_70, x27_71, x27_72, x27_73, x27_74, x27_77, x27_78, x27_79, x27_80, x27_81, x27_84, x27_85, x27_87, x27_90, x27_93, x27_94, x27_95, x27_96, x27_99, x27_102, x27_103, x27_104, x27_105, x27_108, x27_109, x27_111, x27_114, x27_117, x27_118, x27_119, x27_120, x27_123, x27_126, x27_127, x27_128, x27_129, x27_130, x27_131, x27_132, x27_135, x27_137, x27_140, x27_143, x27_145, x27_148, x27_151, x27_152, x27_153, x27_154, x27_155a, x27_155b, x27_155c, x27_156a, x27_156b, x27_156c, x27_159, x27_162, mzi, mInc, mne, mlt9, mrk, mI1, mI2, mI3, mI4, mL1, mL2, mL3, mL4, mQ1, mQ2, mQ3, mQ4, mT1, mcat0, mcat1, mcat2, mcat3, mcat4, mrf1, jK_v, jK_n, JA, mz1, if_true, if_false, ite_true, ite_false, eq_self, not_false_eq_true, Nat.zero_le, true_and, and_true, and_self, Nat.reduceMod, Nat.reduceAdd, Nat.reduceLeDiff, Nat.reduceEqDiff, Nat.reduceLT, hw, jc, jj, m40, e37, e38, e39, e40, mQ2, mQ3, k37', k38', k39', k40', nm1, na1, hsum]
    · have k38' := eq_false k38
      by_cases k37 : K = 37
      · have k37' := eq_true k37
        have k39' : (K = 39) = False := eq_false (by omega)
        have k40' : (K = 40) = False := eq_false (by omega)
        rw [if_pos (show K < 39 by omega)]
        simp only [x27_0, x27_1, x27_2, x27_5, x27_6a, x27_6b, x27_6c, x27_7, x27_8a, x27_8b, x27_8c, x27_10, x27_11, x27_14, x27_15, x27_18, x27_19, x27_20, x27_23a, x27_23b, x27_23c, x27_24, x27_25, x27_26, x27_29a, x27_29b, x27_29c, x27_30, x27_31, x27_32, x27_33, x27_36a, x27_36b, x27_36c, x27_38, x27_39, x27_42, x27_45, x27_47, x27_50, x27_53, x27_56a, x27_56b, x27_56c, x27_58, x27_59, x27_62, x27_63, x27_65, x27_66, x27_67, x27_70, x27_71, x27_72, x27_73, x27_74, x27_77, x27_78, x27_79, x27_80, x27_81, x27_84, x27_85, x27_87, x27_90, x27_93, x27_94, x27_95, x27_96, x27_99, x27_102, x27_103, x27_104, x27_105, x27_108, x27_109, x27_111, x27_114, x27_117, x27_118, x27_119, x27_120, x27_123, x27_126, x27_127, x27_128, x27_129, x27_130, x27_131, x27_132, x27_135, x27_137, x27_140, x27_143, x27_145, x27_148, x27_151, x27_152, x27_153, x27_154, x27_155a, x27_155b, x27_155c, x27_156a, x27_156b, x27_156c, x27_159, x27_162, mzi, mInc, mne, mlt9, mrk, mI1, mI2, mI3, mI4, mL1, mL2, mL3, mL4, mQ1, mQ2, mQ3, mQ4, mT1, mcat0, mcat1, mcat2, mcat3, mcat4, mrf1, jK_v, jK_n, JA, mz1, if_true, if_false, ite_true, ite_false, eq_self, not_false_eq_true, Nat.zero_le, true_and, and_true, and_self, Nat.reduceMod, Nat.reduceAdd, Nat.reduceLeDiff, Nat.reduceEqDiff, Nat.reduceLT, hw, jc, jj, m40, e37, e38, e39, e40, mQ2, mQ3, k37', k38', k39', k40', nm1, na1, hsum]
      · have k37' := eq_false k37
        by_cases k39 : K = 39
        · have k39' := eq_true k39
          rw [if_neg (show ¬ K < 39 by omega)]
          simp only [x27_0, x27_1, x27_2, x27_5, x27_6a, x27_6b, x27_6c, x27_7, x27_8a, x27_8b, x27_8c, x27_10, x27_11, x27_14, x27_15, x27_18, x27_19, x27_20, x27_23a, x27_23b, x27_23c, x27_24, x27_25, x27_26, x27_29a, x27_29b, x27_29c, x27_30, x27_31, x27_32, x27_33, x27_36a, x27_36b, x27_36c, x27_38, x27_39, x27_42, x27_45, x27_47, x27_50, x27_53, x27_56a, x27_56b, x27_56c, x27_58, x27_59, x27_62, x27_63, x27_65, x27_66, x27_67, x27_70, x27_71, x27_72, x27_73, x27_74, x27_77, x27_78, x27_79, x27_80, x27_81, x27_84, x27_85, x27_87, x27_90, x27_93, x27_94, x27_95, x27_96, x27_99, x27_102, x27_103, x27_104, x27_105, x27_108, x27_109, x27_111, x27_114, x27_117, x27_118, x27_119, x27_120, x27_123, x27_126, x27_127, x27_128, x27_129, x27_130, x27_131, x27_132, x27_135, x27_137, x27_140, x27_143, x27_145, x27_148, x27_151, x27_152, x27_153, x27_154, x27_155a, x27_155b, x27_155c, x27_156a, x27_156b, x27_156c, x27_159, x27_162, mzi, mInc, mne, mlt9, mrk, mI1, mI2, mI3, mI4, mL1, mL2, mL3, mL4, mQ1, mQ2, mQ3, mQ4, mT1, mcat0, mcat1, mcat2, mcat3, mcat4, mrf1, jK_v, jK_n, JA, mz1, if_true, if_false, ite_true, ite_false, eq_self, not_false_eq_true, Nat.zero_le, true_and, and_true, and_self, Nat.reduceMod, Nat.reduceAdd, Nat.reduceLeDiff, Nat.reduceEqDiff, Nat.reduceLT, hw, jc, jj, m40, e37, e38, e39, e40, mQ2, mQ3, k37', k38', k39', nm1, na1, hsum]
        · have k39' := eq_false k39
          by_cases k40 : K = 40
          · have k40' := eq_true k40
            rw [if_neg (show ¬ K < 39 by omega)]
            simp only [x27_0, x27_1, x27_2, x27_5, x27_6a, x27_6b, x27_6c, x27_7, x27_8a, x27_8b, x27_8c, x27_10, x27_11, x27_14, x27_15, x27_18, x27_19, x27_20, x27_23a, x27_23b, x27_23c, x27_24, x27_25, x27_26, x27_29a, x27_29b, x27_29c, x27_30, x27_31, x27_32, x27_33, x27_36a, x27_36b, x27_36c, x27_38, x27_39, x27_42, x27_45, x27_47, x27_50, x27_53, x27_56a, x27_56b, x27_56c, x27_58, x27_59, x27_62, x27_63, x27_65, x27_66, x27_67, x27_70, x27_71, x27_72, x27_73, x27_74, x27_77, x27_78, x27_79, x27_80, x27_81, x27_84, x27_85, x27_87, x27_90, x27_93, x27_94, x27_95, x27_96, x27_99, x27_102, x27_103, x27_104, x27_105, x27_108, x27_109, x27_111, x27_114, x27_117, x27_118, x27_119, x27_120, x27_123, x27_126, x27_127, x27_128, x27_129, x27_130, x27_131, x27_132, x27_135, x27_137, x27_140, x27_143, x27_145, x27_148, x27_151, x27_152, x27_153, x27_154, x27_155a, x27_155b, x27_155c, x27_156a, x27_156b, x27_156c, x27_159, x27_162, mzi, mInc, mne, mlt9, mrk, mI1, mI2, mI3, mI4, mL1, mL2, mL3, mL4, mQ1, mQ2, mQ3, mQ4, mT1, mcat0, mcat1, mcat2, mcat3, mcat4, mrf1, jK_v, jK_n, JA, mz1, if_true, if_false, ite_true, ite_false, eq_self, not_false_eq_true, Nat.zero_le, true_and, and_true, and_self, Nat.reduceMod, Nat.reduceAdd, Nat.reduceLeDiff, Nat.reduceEqDiff, Nat.reduceLT, hw, jc, jj, m40, e37, e38, e39, e40, mQ2, mQ3, k37', k38', k39', k40', nm1, na1, hsum]
          · have k40' := eq_false k40
            rw [if_pos (show K < 39 by omega)]
            simp only [x27_0, x27_1, x27_2, x27_5, x27_6a, x27_6b, x27_6c, x27_7, x27_8a, x27_8b, x27_8c, x27_10, x27_11, x27_14, x27_15, x27_18, x27_19, x27_20, x27_23a, x27_23b, x27_23c, x27_24, x27_25, x27_26, x27_29a, x27_29b, x27_29c, x27_30, x27_31, x27_32, x27_33, x27_36a, x27_36b, x27_36c, x27_38, x27_39, x27_42, x27_45, x27_47, x27_50, x27_53, x27_56a, x27_56b, x27_56c, x27_58, x27_59, x27_62, x27_63, x27_65, x27_66, x27_67, x27_70, x27_71, x27_72, x27_73, x27_74, x27_77, x27_78, x27_79, x27_80, x27_81, x27_84, x27_85, x27_87, x27_90, x27_93, x27_94, x27_95, x27_96, x27_99, x27_102, x27_103, x27_104, x27_105, x27_108, x27_109, x27_111, x27_114, x27_117, x27_118, x27_119, x27_120, x27_123, x27_126, x27_127, x27_128, x27_129, x27_130, x27_131, x27_132, x27_135, x27_137, x27_140, x27_143, x27_145, x27_148, x27_151, x27_152, x27_153, x27_154, x27_155a, x27_155b, x27_155c, x27_156a, x27_156b, x27_156c, x27_159, x27_162, mzi, mInc, mne, mlt9, mrk, mI1, mI2, mI3, mI4, mL1, mL2, mL3, mL4, mQ1, mQ2, mQ3, mQ4, mT1, mcat0, mcat1, mcat2, mcat3, mcat4, mrf1, jK_v, jK_n, JA, mz1, if_true, if_false, ite_true, ite_false, eq_self, not_false_eq_true, Nat.zero_le, true_and, and_true, and_self, Nat.reduceMod, Nat.reduceAdd, Nat.reduceLeDiff, Nat.reduceEqDiff, Nat.reduceLT, hw, jc, jj, m40, e37, e38, e39, e40, mQ2, mQ3, k37', k38', k39', k40', nm1, na1, hsum]
  by_cases g400 : j = 400
  · have g400' := eq_true g400
    by_cases g39 : kKd b sz (kTs b sz j) (kTl b sz j) = 39
    · have hK : kKd b sz (kTs b sz j) (kTl b sz j) = kTk b sz j := by
        unfold kTk
        rw [if_neg fun h => h.2 g39]
      refine Iff.trans ?_ (hbody _ hK hk41 hKle)
      have g39' := eq_true g39
      rw [x27_9]
      cases b3 <;> cases b4 <;> simp only [Option.map_some, Option.map_none, x27_0, x27_1, x27_2, x27_5, x27_6a, x27_6b, x27_6c, x27_7, x27_8a, x27_8b, x27_8c, x27_10, x27_11, x27_14, x27_15, x27_18, x27_19, x27_20, x27_23a, x27_23b, x27_23c, x27_24, x27_25, x27_26, x27_29a, x27_29b, x27_29c, x27_30, x27_31, x27_32, x27_33, x27_36a, x27_36b, x27_36c, x27_38, x27_39, x27_42, x27_45, x27_47, x27_50, x27_53, x27_56a, x27_56b, x27_56c, x27_58, x27_59, x27_62, x27_63, x27_65, x27_66, x27_67, x27_70, x27_71, x27_72, x27_73, x27_74, x27_77, x27_78, x27_79, x27_80, x27_81, x27_84, x27_85, x27_87, x27_90, x27_93, x27_94, x27_95, x27_96, x27_99, x27_102, x27_103, x27_104, x27_105, x27_108, x27_109, x27_111, x27_114, x27_117, x27_118, x27_119, x27_120, x27_123, x27_126, x27_127, x27_128, x27_129, x27_130, x27_131, x27_132, x27_135, x27_137, x27_140, x27_143, x27_145, x27_148, x27_151, x27_152, x27_153, x27_154, x27_155a, x27_155b, x27_155c, x27_156a, x27_156b, x27_156c, x27_159, x27_162, mzi, mInc, mne, mlt9, mrk, mI1, mI2, mI3, mI4, mL1, mL2, mL3, mL4, mQ1, mQ2, mQ3, mQ4, mT1, mcat0, mcat1, mcat2, mcat3, mcat4, mrf1, jK_v, jK_n, JA, mz1, if_true, if_false, ite_true, ite_false, eq_self, not_false_eq_true, Nat.zero_le, true_and, and_true, and_self, Nat.reduceMod, Nat.reduceAdd, Nat.reduceLeDiff, Nat.reduceEqDiff, Nat.reduceLT, hw, hlt, bl, ln, kd, i400, g400', m40, e39, g39']
    · have hK : 40 = kTk b sz j := by
        unfold kTk
        rw [if_pos ⟨g400, g39⟩]
      have hb40 := hbody 40 hK (by decide) (by decide)
      rw [w40] at hb40
      refine Iff.trans ?_ hb40
      have g39' := eq_false g39
      rw [x27_9]
      cases b3 <;> cases b4 <;> simp only [Option.map_some, Option.map_none, x27_0, x27_1, x27_2, x27_5, x27_6a, x27_6b, x27_6c, x27_7, x27_8a, x27_8b, x27_8c, x27_10, x27_11, x27_14, x27_15, x27_18, x27_19, x27_20, x27_23a, x27_23b, x27_23c, x27_24, x27_25, x27_26, x27_29a, x27_29b, x27_29c, x27_30, x27_31, x27_32, x27_33, x27_36a, x27_36b, x27_36c, x27_38, x27_39, x27_42, x27_45, x27_47, x27_50, x27_53, x27_56a, x27_56b, x27_56c, x27_58, x27_59, x27_62, x27_63, x27_65, x27_66, x27_67, x27_70, x27_71, x27_72, x27_73, x27_74, x27_77, x27_78, x27_79, x27_80, x27_81, x27_84, x27_85, x27_87, x27_90, x27_93, x27_94, x27_95, x27_96, x27_99, x27_102, x27_103, x27_104, x27_105, x27_108, x27_109, x27_111, x27_114, x27_117, x27_118, x27_119, x27_120, x27_123, x27_126, x27_127, x27_128, x27_129, x27_130, x27_131, x27_132, x27_135, x27_137, x27_140, x27_143, x27_145, x27_148, x27_151, x27_152, x27_153, x27_154, x27_155a, x27_155b, x27_155c, x27_156a, x27_156b, x27_156c, x27_159, x27_162, mzi, mInc, mne, mlt9, mrk, mI1, mI2, mI3, mI4, mL1, mL2, mL3, mL4, mQ1, mQ2, mQ3, mQ4, mT1, mcat0, mcat1, mcat2, mcat3, mcat4, mrf1, jK_v, jK_n, JA, mz1, if_true, if_false, ite_true, ite_false, eq_self, not_false_eq_true, Nat.zero_le, true_and, and_true, and_self, Nat.reduceMod, Nat.reduceAdd, Nat.reduceLeDiff, Nat.reduceEqDiff, Nat.reduceLT, hw, hlt, bl, ln, kd, i400, g400', m40, e39, g39']
  · have hK : kKd b sz (kTs b sz j) (kTl b sz j) = kTk b sz j := by
      unfold kTk
      rw [if_neg fun h => g400 h.1]
    refine Iff.trans ?_ (hbody _ hK hk41 hKle)
    have g400' := eq_false g400
    rw [x27_9]
    cases b3 <;> cases b4 <;> simp only [Option.map_some, Option.map_none, x27_0, x27_1, x27_2, x27_5, x27_6a, x27_6b, x27_6c, x27_7, x27_8a, x27_8b, x27_8c, x27_10, x27_11, x27_14, x27_15, x27_18, x27_19, x27_20, x27_23a, x27_23b, x27_23c, x27_24, x27_25, x27_26, x27_29a, x27_29b, x27_29c, x27_30, x27_31, x27_32, x27_33, x27_36a, x27_36b, x27_36c, x27_38, x27_39, x27_42, x27_45, x27_47, x27_50, x27_53, x27_56a, x27_56b, x27_56c, x27_58, x27_59, x27_62, x27_63, x27_65, x27_66, x27_67, x27_70, x27_71, x27_72, x27_73, x27_74, x27_77, x27_78, x27_79, x27_80, x27_81, x27_84, x27_85, x27_87, x27_90, x27_93, x27_94, x27_95, x27_96, x27_99, x27_102, x27_103, x27_104, x27_105, x27_108, x27_109, x27_111, x27_114, x27_117, x27_118, x27_119, x27_120, x27_123, x27_126, x27_127, x27_128, x27_129, x27_130, x27_131, x27_132, x27_135, x27_137, x27_140, x27_143, x27_145, x27_148, x27_151, x27_152, x27_153, x27_154, x27_155a, x27_155b, x27_155c, x27_156a, x27_156b, x27_156c, x27_159, x27_162, mzi, mInc, mne, mlt9, mrk, mI1, mI2, mI3, mI4, mL1, mL2, mL3, mL4, mQ1, mQ2, mQ3, mQ4, mT1, mcat0, mcat1, mcat2, mcat3, mcat4, mrf1, jK_v, jK_n, JA, mz1, if_true, if_false, ite_true, ite_false, eq_self, not_false_eq_true, Nat.zero_le, true_and, and_true, and_self, Nat.reduceMod, Nat.reduceAdd, Nat.reduceLeDiff, Nat.reduceEqDiff, Nat.reduceLT, hw, hlt, bl, ln, kd, i400, g400', m40, e39]
theorem c_read {b : Nat → Int32} (hb : b = kBy (jI μ 155) sz) (hW : jWd μ) (hz : jI μ 65 1 = iN sz) (h2 : sz ≤ 2000) (hN : kTN b sz N) : ∃ μ', jTk μ μ' b sz N ∧ ∀ (d : Nat) (Q : jO → jM → Prop), (Ex (d + 8) 27 0 [some (.ref 194), none, none, none, none] [] μ Q ↔ Q (.inl none) μ') := by
  have h0 : jTk μ (jsI μ 194 6 (iN 0)) b sz 0 := ⟨fun a n1 _ _ _ => mI2 n1, fun _ _ => rfl, fun _ _ => rfl, rfl, rfl, fun k hk => by rw [mI1, if_neg hk], by rw [mI1, if_pos rfl], fun i hi => absurd hi (by omega)⟩
  have hw := hW
  unfold jWd at hw
  have hclimb : ∀ j, j < N → ∃ ν b3 b4, jTk μ ν b sz j ∧ ∀ (d : Nat) (Q : jO → jM → Prop), (Ex (d + 8) 27 0 [some (.ref 194), none, none, none, none] [] μ Q ↔ Ex (d + 8) 27 9 [some (.ref 194), some (.int (iN (kPs b sz j))), some (.int (iN j)), Option.map Value.int b3, Option.map Value.ref b4] [] ν Q) := by
    intro j
    induction j with
    | zero =>
      intro _
      refine ⟨_, none, none, h0, fun d Q => ?_⟩
      show _ ↔ Ex (d + 8) 27 9 [some (.ref 194), some (.int (iN 0)), some (.int (iN 0)), none, none] [] (jsI μ 194 6 (iN 0)) Q
      simp only [x27_0, x27_1, x27_2, x27_5, x27_6a, x27_6b, x27_6c, x27_7, x27_8a, x27_8b, x27_8c, x27_10, x27_11, x27_14, x27_15, x27_18, x27_19, x27_20, x27_23a, x27_23b, x27_23c, x27_24, x27_25, x27_26, x27_29a, x27_29b, x27_29c, x27_30, x27_31, x27_32, x27_33, x27_36a, x27_36b, x27_36c, x27_38, x27_39, x27_42, x27_45, x27_47, x27_50, x27_53, x27_56a, x27_56b, x27_56c, x27_58, x27_59, x27_62, x27_63, x27_65, x27_66, x27_67, x27_70, x27_71, x27_72, x27_73, x27_74, x27_77, x27_78, x27_79, x27_80, x27_81, x27_84, x27_85, x27_87, x27_90, x27_93, x27_94, x27_95, x27_96, x27_99, x27_102, x27_103, x27_104, x27_105, x27_108, x27_109, x27_111, x27_114, x27_117, x27_118, x27_119, x27_120, x27_123, x27_126, x27_127, x27_128, x27_129, x27_130, x27_131, x27_132, x27_135, x27_137, x27_140, x27_143, x27_145, x27_148, x27_151, x27_152, x27_153, x27_154, x27_155a, x27_155b, x27_155c, x27_156a, x27_156b, x27_156c, x27_159, x27_162, mzi, mInc, mne, mlt9, mrk, mI1, mI2, mI3, mI4, mL1, mL2, mL3, mL4, mQ1, mQ2, mQ3, mQ4, mT1, mcat0, mcat1, mcat2, mcat3, mcat4, mrf1, jK_v, jK_n, JA, mz1, if_true, if_false, ite_true, ite_false, eq_self, not_false_eq_true, Nat.zero_le, true_and, and_true, and_self, Nat.reduceMod, Nat.reduceAdd, Nat.reduceLeDiff, Nat.reduceEqDiff, Nat.reduceLT, hw]
    | succ j ih =>
      intro hj
      obtain ⟨ν, b3, b4, t1, t2⟩ := ih (by omega)
      obtain ⟨b3', b4', t3⟩ := c_readS hb hW hz h2 hN (show j < N by omega) t1 b3 b4
      refine ⟨_, some b3', some b4', jTk_s t1, fun d Q => (t2 d Q).trans ((t3 d Q).trans ?_)⟩
      rw [if_pos (hN.2.2.2 j (by omega))]
      rfl
  obtain ⟨ν, b3, b4, t1, t2⟩ := hclimb (N - 1) (by have := hN.1; omega)
  obtain ⟨b3', b4', t3⟩ := c_readS hb hW hz h2 hN (show N - 1 < N by have := hN.1; omega) t1 b3 b4
  have t4 := jTk_s t1
  rw [show N - 1 + 1 = N by have := hN.1; omega] at t4
  refine ⟨_, t4, fun d Q => (t2 d Q).trans ((t3 d Q).trans ?_)⟩
  rw [if_neg (by have := hN.2.2.1; omega)]
end READ
