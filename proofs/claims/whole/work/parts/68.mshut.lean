/-! THE PURE PART: is a trunk shut (reference). -/
/-- the tests of a plan of the reference -/
def jMt (μ : jM) (p nh : Nat) (T : Nat → List (Nat × Int32)) : Prop := jI μ (64 * p + 11) 11 = iN nh ∧ nh ≤ 12 ∧ ∀ k, k < nh → ∃ i e, jI μ (64 * p + 659) k = iN i ∧ jI μ (64 * p + 723) k = iN e ∧ e < 800 ∧ kLay (jI μ (64 * p + 794)) i (T k) e ∧ kVal 0 (T k) ∧ (T k).length < 398
/-- is it shut; and the stack then -/
def kIsh (E : Nat → Int32 → Int32) (sh : Nat → Int32) (T : Nat → List (Nat × Int32)) (v : Int32) : Nat → Nat → (Nat → Int32) → Bool × (Nat → Int32)
  | _, 0, g => (false, g)
  | k, r + 1, g => if sh k = v then (if (kRun E (T k) (0, g)).2 0 = 1 then (true, (kRun E (T k) (0, g)).2) else kIsh E sh T v (k + 1) r (kRun E (T k) (0, g)).2) else kIsh E sh T v (k + 1) r g
/-- two stacks that are alike below h -/
def kAl (h : Nat) (g g' : Nat → Int32) : Prop := ∀ j, j < h → g j = g' j
theorem kSt_al {E : Nat → Int32 → Int32} {K h : Nat} {s : Int32} {g g' : Nat → Int32} (ho : kOpOk K s h) (ha : kAl h g g') : kAl (kHt K h) (kSt E K s (0, h, g)).2.2 (kSt E K s (0, h, g')).2.2 := by
  have hpop : ∀ q, q ≤ h → kPop q g = kPop q g' := by
    intro q hq
    unfold kPop
    by_cases e : q = 0
    · rw [if_pos e, if_pos e]
    · rw [if_neg e, if_neg e]
      exact ha _ (by omega)
  have hset : ∀ q v v' m, v = v' → m ≤ q + 1 → q ≤ h → kAl m (kSet g q v) (kSet g' q v') := by
    intro q v v' m hv hm hq j hj
    subst hv
    unfold kSet
    by_cases e : j = q
    · rw [if_pos e, if_pos e]
    · rw [if_neg e, if_neg e]
      exact ha _ (by omega)
  unfold kOpOk at ho
  unfold kHt kSt
  dsimp only
  have h1 := hpop h (Nat.le_refl _)
  have h2 := hpop (h - 1) (by omega)
  rw [h1, h2]
  have n10 : ¬ K = 10 := by omega
  rw [if_neg n10, if_neg n10]
  by_cases a : K = 17
  · rw [if_pos a, if_pos a, if_neg (by omega), if_pos (by omega)]
    exact hset _ _ _ _ rfl (by omega) (by omega)
  · rw [if_neg a, if_neg a]
    by_cases b : K = 41
    · rw [if_pos b, if_pos b, if_neg (by omega), if_pos (by omega)]
      exact hset _ _ _ _ rfl (by omega) (by omega)
    · rw [if_neg b, if_neg b]
      by_cases c : K = 12 ∨ K = 13 ∨ K = 14 ∨ K = 15 ∨ K = 16 ∨ K = 38
      · rw [if_pos c, if_pos c, if_pos c]
        exact hset _ _ _ _ rfl (by omega) (by omega)
      · rw [if_neg c, if_neg c, if_neg c, if_neg (by omega)]
        exact hset _ _ _ _ rfl (by omega) (by omega)
theorem kRun_al {E : Nat → Int32 → Int32} : ∀ (L : List (Nat × Int32)) (h : Nat) (g g' : Nat → Int32), kVal h L → kAl h g g' → (kRun E L (h, g)).2 0 = (kRun E L (h, g')).2 0
  | [], h, g, g', hv, ha => ha 0 (by have : h = 1 := hv; omega)
  | (K, s) :: r, h, g, g', hv, ha => by
    obtain ⟨ho, hv⟩ := hv
    have e1 := kHt_st (E := E) (g := g) ho
    have e2 := kHt_st (E := E) (g := g') ho
    have h3 := kSt_al (E := E) ho ha
    have h4 := kRun_al (E := E) r (kHt K h) _ _ hv h3
    unfold kRun
    rw [← e1] at h4
    rw [show (kSt E K s (0, h, g)).2 = ((kSt E K s (0, h, g)).2.1, (kSt E K s (0, h, g)).2.2) from rfl, show (kSt E K s (0, h, g')).2 = ((kSt E K s (0, h, g')).2.1, (kSt E K s (0, h, g')).2.2) from rfl, e2, ← e1]
    exact h4
/-- what a test says -/
def kSay (E : Nat → Int32 → Int32) (L : List (Nat × Int32)) : Int32 := (kRun E L (0, fun _ => 0)).2 0
theorem kSay_e {E : Nat → Int32 → Int32} {L : List (Nat × Int32)} (g : Nat → Int32) (hv : kVal 0 L) : (kRun E L (0, g)).2 0 = kSay E L := kRun_al L 0 g _ hv (fun j hj => absurd hj (by omega))
theorem kIsh_e {E : Nat → Int32 → Int32} {sh : Nat → Int32} {T : Nat → List (Nat × Int32)} {v : Int32} {m : Nat} (hT : ∀ k, k < m → kVal 0 (T k)) : ∀ r k g, k + r ≤ m → ((kIsh E sh T v k r g).1 = true ↔ ∃ j, k ≤ j ∧ j < k + r ∧ sh j = v ∧ kSay E (T j) = 1)
  | 0, k, g, hm => ⟨fun h => Bool.noConfusion (show false = true from h), fun ⟨j, h1, h2, _⟩ => absurd h1 (by omega)⟩
  | r + 1, k, g, hm => by
    unfold kIsh
    have e := kSay_e (E := E) g (hT k (by omega))
    by_cases a : sh k = v
    · rw [if_pos a, e]
      by_cases b : kSay E (T k) = 1
      · rw [if_pos b]
        exact ⟨fun _ => ⟨k, Nat.le_refl _, by omega, a, b⟩, fun _ => rfl⟩
      · rw [if_neg b]
        refine (kIsh_e hT r (k + 1) _ (by omega)).trans ⟨fun ⟨j, h1, h2, h3, h4⟩ => ⟨j, by omega, by omega, h3, h4⟩, fun ⟨j, h1, h2, h3, h4⟩ => ⟨j, ?_, by omega, h3, h4⟩⟩
        by_cases ej : j = k
        · rw [ej] at h4; exact absurd h4 b
        · omega
    · rw [if_neg a]
      refine (kIsh_e hT r (k + 1) _ (by omega)).trans ⟨fun ⟨j, h1, h2, h3, h4⟩ => ⟨j, by omega, by omega, h3, h4⟩, fun ⟨j, h1, h2, h3, h4⟩ => ⟨j, ?_, by omega, h3, h4⟩⟩
      by_cases ej : j = k
      · rw [ej] at h3; exact absurd h3 a
      · omega
section C18
variable {d : Nat} {μ : jM} {Q : jO → jM → Prop} {n t p nh : Nat} {T : Nat → List (Nat × Int32)}
theorem d_shuts {v : Int32} {g : Nat → Int32} (hM : jMp μ p) (hn : jI μ (64 * p + 11) 2 = iN n) (h10 : n ≤ 10) (hT : jMt μ p nh T) : Ex (d + 5) 209 0 [some (.ref 5836), some (.int v), none] [] (jsR μ 6680 g) Q ↔ Q (.inl (some (.int (bif (kIsh (kEnvMs μ p n) (jI μ (64 * p + 594)) T v 0 nh g).1 then 1 else 0)))) (jsR μ 6680 (kIsh (kEnvMs μ p n) (jI μ (64 * p + 594)) T v 0 nh g).2) := by
  have hM0 := hM
  obtain ⟨hW, hp, hpl, hq⟩ := hM
  obtain ⟨hh, h12, hT⟩ := hT
  have hw := hW
  unfold jWd at hw
  unfold jMq at hq
  have jp := JP p
  have jpm := JPm p
  have hne := jPne hp
  have hI : ∀ a, ¬ a = 6680 → ∀ g, jI (jsR μ 6680 g) a = jI μ a := fun a h g => mR2 h
  have loop : ∀ (r k : Nat) (g : Nat → Int32), k + r = nh → (Ex (d + 5) 209 2 [some (.ref 5836), some (.int v), some (.int (iN k))] [] (jsR μ 6680 g) Q ↔ Q (.inl (some (.int (bif (kIsh (kEnvMs μ p n) (jI μ (64 * p + 594)) T v k r g).1 then 1 else 0)))) (jsR μ 6680 (kIsh (kEnvMs μ p n) (jI μ (64 * p + 594)) T v k r g).2)) := by
    intro r
    induction r with
    | zero =>
      intro k g hk
      have hk2 : k = nh := by omega
      subst hk2
      have hge : ¬ iN k < iN k := iN_irr (by omega)
      unfold kIsh
      simp only [↓if_neg hge, x209_2, x209_0, x209_1a, x209_1b, x209_1c, x209_3, x209_4, x209_7, x209_10, x209_13, x209_16, x209_17, x209_20, x209_23, x209_26, x209_27, x209_28, x209_29, x209_32, x209_33, x209_34, x209_37, x209_40, x209_43, x209_44, x209_45, x209_46, x209_49, x209_52, x209_55, x209_56, x209_57, x209_60, x209_61, x209_64, x209_65, x209_66a, x209_66b, x209_66c, x209_69, x209_72, x209_73, mzi, mInc, mne, mlt9, mrk, mI1, mI2, mI3, mI4, mL1, mL2, mL3, mL4, mQ1, mQ2, mQ3, mQ4, mT1, mcat0, mcat1, mcat2, mcat3, mcat4, mrf1, jK_v, jK_n, JA, mz1, if_true, if_false, ite_true, ite_false, eq_self, not_false_eq_true, Nat.zero_le, true_and, and_true, and_self, Nat.reduceMod, Nat.reduceAdd, Nat.reduceLeDiff, Nat.reduceEqDiff, Nat.reduceLT, hw, hpl, hq, jp, jpm, hne, hI, mR3, hh, hge, cond_false]
    | succ r ihr =>
      intro k g hk
      have hlt : iN k < iN nh := (iN_lt (by omega) (by omega)).mpr (by omega)
      have kc : (iN k).toNatClampNeg = k := iN_cl (by omega)
      have kj : jin (iN k) 12 = true := iN_in (by omega) (by omega)
      have kj3 : jin (iN k) 13 = true := iN_in (by omega) (by omega)
      obtain ⟨i, e, hi, hee, he, hl, hv, hb⟩ := hT k (by omega)
      have hcr : ∀ (d : Nat) (g : Nat → Int32) (Q : jO → jM → Prop), Ex (d + 4) 210 0 [some (.ref 5836), some (.int (iN i)), some (.int (iN e)), none, none, none, none] [] (jsR μ 6680 g) Q ↔ Q (.inl (some (.int ((kRun (kEnvMs μ p n) (T k) (0, g)).2 0)))) (jsR μ 6680 (kRun (kEnvMs μ p n) (T k) (0, g)).2) := fun d g Q => d_carrys hM0 hn h10 he hl hv hb
      have hnx := fun g => ihr (k + 1) g (by omega)
      unfold kIsh
      rw [x209_2]
      by_cases g1 : jI μ (64 * p + 594) k = v
      · have g1' := eq_true g1
        by_cases g2 : (kRun (kEnvMs μ p n) (T k) (0, g)).2 0 = 1
        · have g2' := eq_true g2
          simp only [↓if_pos hlt, x209_0, x209_1a, x209_1b, x209_1c, x209_3, x209_4, x209_7, x209_10, x209_13, x209_16, x209_17, x209_20, x209_23, x209_26, x209_27, x209_28, x209_29, x209_32, x209_33, x209_34, x209_37, x209_40, x209_43, x209_44, x209_45, x209_46, x209_49, x209_52, x209_55, x209_56, x209_57, x209_60, x209_61, x209_64, x209_65, x209_66a, x209_66b, x209_66c, x209_69, x209_72, x209_73, mzi, mInc, mne, mlt9, mrk, mI1, mI2, mI3, mI4, mL1, mL2, mL3, mL4, mQ1, mQ2, mQ3, mQ4, mT1, mcat0, mcat1, mcat2, mcat3, mcat4, mrf1, jK_v, jK_n, JA, mz1, if_true, if_false, ite_true, ite_false, eq_self, not_false_eq_true, Nat.zero_le, true_and, and_true, and_self, Nat.reduceMod, Nat.reduceAdd, Nat.reduceLeDiff, Nat.reduceEqDiff, Nat.reduceLT, hw, hpl, hq, jp, jpm, hne, hI, mR3, hh, hlt, kc, kj, kj3, hi, hee, hcr, g1', g2', cond_true]
        · have g2' := eq_false g2
          simp only [↓if_pos hlt, x209_0, x209_1a, x209_1b, x209_1c, x209_3, x209_4, x209_7, x209_10, x209_13, x209_16, x209_17, x209_20, x209_23, x209_26, x209_27, x209_28, x209_29, x209_32, x209_33, x209_34, x209_37, x209_40, x209_43, x209_44, x209_45, x209_46, x209_49, x209_52, x209_55, x209_56, x209_57, x209_60, x209_61, x209_64, x209_65, x209_66a, x209_66b, x209_66c, x209_69, x209_72, x209_73, mzi, mInc, mne, mlt9, mrk, mI1, mI2, mI3, mI4, mL1, mL2, mL3, mL4, mQ1, mQ2, mQ3, mQ4, mT1, mcat0, mcat1, mcat2, mcat3, mcat4, mrf1, jK_v, jK_n, JA, mz1, if_true, if_false, ite_true, ite_false, eq_self, not_false_eq_true, Nat.zero_le, true_and, and_true, and_self, Nat.reduceMod, Nat.reduceAdd, Nat.reduceLeDiff, Nat.reduceEqDiff, Nat.reduceLT, hw, hpl, hq, jp, jpm, hne, hI, mR3, hh, hlt, kc, kj, kj3, hi, hee, hcr, g1', g2', hnx]
      · have g1' := eq_false g1
        simp only [↓if_pos hlt, x209_0, x209_1a, x209_1b, x209_1c, x209_3, x209_4, x209_7, x209_10, x209_13, x209_16, x209_17, x209_20, x209_23, x209_26, x209_27, x209_28, x209_29, x209_32, x209_33, x209_34, x209_37, x209_40, x209_43, x209_44, x209_45, x209_46, x209_49, x209_52, x209_55, x209_56, x209_57, x209_60, x209_61, x209_64, x209_65, x209_66a, x209_66b, x209_66c, x209_69, x209_72, x209_73, mzi, mInc, mne, mlt9, mrk, mI1, mI2, mI3, mI4, mL1, mL2, mL3, mL4, mQ1, mQ2, mQ3, mQ4, mT1, mcat0, mcat1, mcat2, mcat3, mcat4, mrf1, jK_v, jK_n, JA, mz1, if_true, if_false, ite_true, ite_false, eq_self, not_false_eq_true, Nat.zero_le, true_and, and_true, and_self, Nat.reduceMod, Nat.reduceAdd, Nat.reduceLeDiff, Nat.reduceEqDiff, Nat.reduceLT, hw, hpl, hq, jp, jpm, hne, hI, mR3, hh, hlt, kc, kj, kj3, hi, hee, hcr, g1', hnx]
  have h1 : Ex (d + 5) 209 0 [some (.ref 5836), some (.int v), none] [] (jsR μ 6680 g) Q ↔ Ex (d + 5) 209 2 [some (.ref 5836), some (.int v), some (.int (iN 0))] [] (jsR μ 6680 g) Q := by
    simp only [x209_0, x209_1a, x209_1b, x209_1c, x209_3, x209_4, x209_7, x209_10, x209_13, x209_16, x209_17, x209_20, x209_23, x209_26, x209_27, x209_28, x209_29, x209_32, x209_33, x209_34, x209_37, x209_40, x209_43, x209_44, x209_45, x209_46, x209_49, x209_52, x209_55, x209_56, x209_57, x209_60, x209_61, x209_64, x209_65, x209_66a, x209_66b, x209_66c, x209_69, x209_72, x209_73, mzi, mInc, mne, mlt9, mrk, mI1, mI2, mI3, mI4, mL1, mL2, mL3, mL4, mQ1, mQ2, mQ3, mQ4, mT1, mcat0, mcat1, mcat2, mcat3, mcat4, mrf1, jK_v, jK_n, JA, mz1, if_true, if_false, ite_true, ite_false, eq_self, not_false_eq_true, Nat.zero_le, true_and, and_true, and_self, Nat.reduceMod, Nat.reduceAdd, Nat.reduceLeDiff, Nat.reduceEqDiff, Nat.reduceLT]
  rw [h1]
  exact loop nh 0 g (by omega)
theorem d_shuth {v : Int32} {g : Nat → Int32} (hM : jMp μ p) (hn : jI μ (64 * p + 11) 2 = iN n) (h10 : n ≤ 10) (hT : jMt μ p nh T) : Ex (d + 5) 209 0 [some (.ref 6732), some (.int v), none] [] (jsR μ 7576 g) Q ↔ Q (.inl (some (.int (bif (kIsh (kEnvMh μ p n) (jI μ (64 * p + 594)) T v 0 nh g).1 then 1 else 0)))) (jsR μ 7576 (kIsh (kEnvMh μ p n) (jI μ (64 * p + 594)) T v 0 nh g).2) := by
  have hM0 := hM
  obtain ⟨hW, hp, hpl, hq⟩ := hM
  obtain ⟨hh, h12, hT⟩ := hT
  have hw := hW
  unfold jWd at hw
  unfold jMq at hq
  have jp := JP p
  have jpm := JPm p
  have hne := jPne hp
  have hI : ∀ a, ¬ a = 7576 → ∀ g, jI (jsR μ 7576 g) a = jI μ a := fun a h g => mR2 h
  have loop : ∀ (r k : Nat) (g : Nat → Int32), k + r = nh → (Ex (d + 5) 209 2 [some (.ref 6732), some (.int v), some (.int (iN k))] [] (jsR μ 7576 g) Q ↔ Q (.inl (some (.int (bif (kIsh (kEnvMh μ p n) (jI μ (64 * p + 594)) T v k r g).1 then 1 else 0)))) (jsR μ 7576 (kIsh (kEnvMh μ p n) (jI μ (64 * p + 594)) T v k r g).2)) := by
    intro r
    induction r with
    | zero =>
      intro k g hk
      have hk2 : k = nh := by omega
      subst hk2
      have hge : ¬ iN k < iN k := iN_irr (by omega)
      unfold kIsh
      simp only [↓if_neg hge, x209_2, x209_0, x209_1a, x209_1b, x209_1c, x209_3, x209_4, x209_7, x209_10, x209_13, x209_16, x209_17, x209_20, x209_23, x209_26, x209_27, x209_28, x209_29, x209_32, x209_33, x209_34, x209_37, x209_40, x209_43, x209_44, x209_45, x209_46, x209_49, x209_52, x209_55, x209_56, x209_57, x209_60, x209_61, x209_64, x209_65, x209_66a, x209_66b, x209_66c, x209_69, x209_72, x209_73, mzi, mInc, mne, mlt9, mrk, mI1, mI2, mI3, mI4, mL1, mL2, mL3, mL4, mQ1, mQ2, mQ3, mQ4, mT1, mcat0, mcat1, mcat2, mcat3, mcat4, mrf1, jK_v, jK_n, JA, mz1, if_true, if_false, ite_true, ite_false, eq_self, not_false_eq_true, Nat.zero_le, true_and, and_true, and_self, Nat.reduceMod, Nat.reduceAdd, Nat.reduceLeDiff, Nat.reduceEqDiff, Nat.reduceLT, hw, hpl, hq, jp, jpm, hne, hI, mR3, hh, hge, cond_false]
    | succ r ihr =>
      intro k g hk
      have hlt : iN k < iN nh := (iN_lt (by omega) (by omega)).mpr (by omega)
      have kc : (iN k).toNatClampNeg = k := iN_cl (by omega)
      have kj : jin (iN k) 12 = true := iN_in (by omega) (by omega)
      have kj3 : jin (iN k) 13 = true := iN_in (by omega) (by omega)
      obtain ⟨i, e, hi, hee, he, hl, hv, hb⟩ := hT k (by omega)
      have hcr : ∀ (d : Nat) (g : Nat → Int32) (Q : jO → jM → Prop), Ex (d + 4) 210 0 [some (.ref 6732), some (.int (iN i)), some (.int (iN e)), none, none, none, none] [] (jsR μ 7576 g) Q ↔ Q (.inl (some (.int ((kRun (kEnvMh μ p n) (T k) (0, g)).2 0)))) (jsR μ 7576 (kRun (kEnvMh μ p n) (T k) (0, g)).2) := fun d g Q => d_carryh hM0 hn h10 he hl hv hb
      have hnx := fun g => ihr (k + 1) g (by omega)
      unfold kIsh
      rw [x209_2]
      by_cases g1 : jI μ (64 * p + 594) k = v
      · have g1' := eq_true g1
        by_cases g2 : (kRun (kEnvMh μ p n) (T k) (0, g)).2 0 = 1
        · have g2' := eq_true g2
          simp only [↓if_pos hlt, x209_0, x209_1a, x209_1b, x209_1c, x209_3, x209_4, x209_7, x209_10, x209_13, x209_16, x209_17, x209_20, x209_23, x209_26, x209_27, x209_28, x209_29, x209_32, x209_33, x209_34, x209_37, x209_40, x209_43, x209_44, x209_45, x209_46, x209_49, x209_52, x209_55, x209_56, x209_57, x209_60, x209_61, x209_64, x209_65, x209_66a, x209_66b, x209_66c, x209_69, x209_72, x209_73, mzi, mInc, mne, mlt9, mrk, mI1, mI2, mI3, mI4, mL1, mL2, mL3, mL4, mQ1, mQ2, mQ3, mQ4, mT1, mcat0, mcat1, mcat2, mcat3, mcat4, mrf1, jK_v, jK_n, JA, mz1, if_true, if_false, ite_true, ite_false, eq_self, not_false_eq_true, Nat.zero_le, true_and, and_true, and_self, Nat.reduceMod, Nat.reduceAdd, Nat.reduceLeDiff, Nat.reduceEqDiff, Nat.reduceLT, hw, hpl, hq, jp, jpm, hne, hI, mR3, hh, hlt, kc, kj, kj3, hi, hee, hcr, g1', g2', cond_true]
        · have g2' := eq_false g2
          simp only [↓if_pos hlt, x209_0, x209_1a, x209_1b, x209_1c, x209_3, x209_4, x209_7, x209_10, x209_13, x209_16, x209_17, x209_20, x209_23, x209_26, x209_27, x209_28, x209_29, x209_32, x209_33, x209_34, x209_37, x209_40, x209_43, x209_44, x209_45, x209_46, x209_49, x209_52, x209_55, x209_56, x209_57, x209_60, x209_61, x209_64, x209_65, x209_66a, x209_66b, x209_66c, x209_69, x209_72, x209_73, mzi, mInc, mne, mlt9, mrk, mI1, mI2, mI3, mI4, mL1, mL2, mL3, mL4, mQ1, mQ2, mQ3, mQ4, mT1, mcat0, mcat1, mcat2, mcat3, mcat4, mrf1, jK_v, jK_n, JA, mz1, if_true, if_false, ite_true, ite_false, eq_self, not_false_eq_true, Nat.zero_le, true_and, and_true, and_self, Nat.reduceMod, Nat.reduceAdd, Nat.reduceLeDiff, Nat.reduceEqDiff, Nat.reduceLT, hw, hpl, hq, jp, jpm, hne, hI, mR3, hh, hlt, kc, kj, kj3, hi, hee, hcr, g1', g2', hnx]
      · have g1' := eq_false g1
        simp only [↓if_pos hlt, x209_0, x209_1a, x209_1b, x209_1c, x209_3, x209_4, x209_7, x209_10, x209_13, x209_16, x209_17, x209_20, x209_23, x209_26, x209_27, x209_28, x209_29, x209_32, x209_33, x209_34, x209_37, x209_40, x209_43, x209_44, x209_45, x209_46, x209_49, x209_52, x209_55, x209_56, x209_57, x209_60, x209_61, x209_64, x209_65, x209_66a, x209_66b, x209_66c, x209_69, x209_72, x209_73, mzi, mInc, mne, mlt9, mrk, mI1, mI2, mI3, mI4, mL1, mL2, mL3, mL4, mQ1, mQ2, mQ3, mQ4, mT1, mcat0, mcat1, mcat2, mcat3, mcat4, mrf1, jK_v, jK_n, JA, mz1, if_true, if_false, ite_true, ite_false, eq_self, not_false_eq_true, Nat.zero_le, true_and, and_true, and_self, Nat.reduceMod, Nat.reduceAdd, Nat.reduceLeDiff, Nat.reduceEqDiff, Nat.reduceLT, hw, hpl, hq, jp, jpm, hne, hI, mR3, hh, hlt, kc, kj, kj3, hi, hee, hcr, g1', hnx]
  have h1 : Ex (d + 5) 209 0 [some (.ref 6732), some (.int v), none] [] (jsR μ 7576 g) Q ↔ Ex (d + 5) 209 2 [some (.ref 6732), some (.int v), some (.int (iN 0))] [] (jsR μ 7576 g) Q := by
    simp only [x209_0, x209_1a, x209_1b, x209_1c, x209_3, x209_4, x209_7, x209_10, x209_13, x209_16, x209_17, x209_20, x209_23, x209_26, x209_27, x209_28, x209_29, x209_32, x209_33, x209_34, x209_37, x209_40, x209_43, x209_44, x209_45, x209_46, x209_49, x209_52, x209_55, x209_56, x209_57, x209_60, x209_61, x209_64, x209_65, x209_66a, x209_66b, x209_66c, x209_69, x209_72, x209_73, mzi, mInc, mne, mlt9, mrk, mI1, mI2, mI3, mI4, mL1, mL2, mL3, mL4, mQ1, mQ2, mQ3, mQ4, mT1, mcat0, mcat1, mcat2, mcat3, mcat4, mrf1, jK_v, jK_n, JA, mz1, if_true, if_false, ite_true, ite_false, eq_self, not_false_eq_true, Nat.zero_le, true_and, and_true, and_self, Nat.reduceMod, Nat.reduceAdd, Nat.reduceLeDiff, Nat.reduceEqDiff, Nat.reduceLT]
  rw [h1]
  exact loop nh 0 g (by omega)
end C18
