/-! THE PURE PART: what class and reference hold alike: by hand. -/
theorem mI1f {μ : jM} {a k : Nat} {v : Int32} : jI (jsI μ a k v) a = fun j => if j = k then v else jI μ a j := by
  funext j
  exact mI1
/-- a line in class and reference -/
def kEq (dw ot nu di pa ws wt wc rg tk mdw mnu mdi mpa mot mcl mtr msw mco mrg mtk : Nat → Int32) (l : Nat) : Prop := mdw l = dw l ∧ mnu l = nu l ∧ mdi l = di l ∧ mpa l = pa l ∧ mot l = ot l ∧ mcl l = (if ws l = 0 then 0 else 1) ∧ (ws l = 0 → wt l = 0 ∧ wc l = 0 ∧ rg l = 0 ∧ tk l = 0) ∧ (¬ ws l = 0 → msw l = ws l ∧ mtr l = wt l ∧ mco l = wc l ∧ mrg l = rg l ∧ mtk l = tk l)
section REL
variable {A B : jM} {n w mk l : Nat} {pn pd : Nat → Int32}
/-- class and reference hold alike -/
def jRXn (A B : jM) (n w mk : Nat) (pn pd : Nat → Int32) : Prop := jI A 2567 2 = jI B 5836 0 ∧ jI A 2567 3 = iN mk ∧ jI B 5836 1 = iN mk ∧ 1 ≤ mk ∧ mk ≤ 4 ∧ jI A 2567 16 = iN w ∧ jI B 5836 7 = iN w ∧
  (∀ l, l < n → kEq (jI A 2640) (jI A 2704) (jI A 2768) (jI A 2832) (jI A 2960) (jI A 3024) (jI A 3088) (jI A 3152) (jI A 3216) (jI A 3280) (jI B 5904) (jI B 5968) (jI B 6032) (jI B 6096) (jI B 6224) (jI B 6288) (jI B 6352) (jI B 6416) (jI B 6480) (jI B 6544) (jI B 6608) l) ∧
  (∀ l, l < n → kDg n pn pd (jI A 2640) (jI A 2768) (jI A 2832) (jI A 2896) l) ∧
  kLk n (jI A 2640) (jI A 2704) (jI A 3024) ∧
  kQu w n (jI A 2640) (jI A 3344) (jI B 6160) ∧
  (∀ l, n ≤ l → l < 10 → jI A 2960 l = 0 ∧ jI B 6096 l = 0)
/-- class and reference hold alike -/
def jRXa (A B : jM) (n w mk : Nat) (pn pd : Nat → Int32) : Prop := jI A 3463 2 = jI B 6732 0 ∧ jI A 3463 3 = iN mk ∧ jI B 6732 1 = iN mk ∧ 1 ≤ mk ∧ mk ≤ 4 ∧ jI A 3463 16 = iN w ∧ jI B 6732 7 = iN w ∧
  (∀ l, l < n → kEq (jI A 3536) (jI A 3600) (jI A 3664) (jI A 3728) (jI A 3856) (jI A 3920) (jI A 3984) (jI A 4048) (jI A 4112) (jI A 4176) (jI B 6800) (jI B 6864) (jI B 6928) (jI B 6992) (jI B 7120) (jI B 7184) (jI B 7248) (jI B 7312) (jI B 7376) (jI B 7440) (jI B 7504) l) ∧
  (∀ l, l < n → kDg n pn pd (jI A 3536) (jI A 3664) (jI A 3728) (jI A 3792) l) ∧
  kLk n (jI A 3536) (jI A 3600) (jI A 3920) ∧
  kQu w n (jI A 3536) (jI A 4240) (jI B 7056) ∧
  (∀ l, n ≤ l → l < 10 → jI A 3856 l = 0 ∧ jI B 6992 l = 0)
theorem R_lift0 (h : jRXn A B n w mk pn pd) (h10 : n ≤ 10) (hl : l < n) (h0 : jI A 2640 l = 0) : jRXn (jsI A 2640 l 1) (jsI (jsI (jsI B 6032 l 0) 5968 l 0) 5904 l 1) n w mk pn pd := by
  obtain ⟨h1, h2, h3, h4, h5, h6, h7, hE, hD, hL, hQ, hP⟩ := h
  unfold jRXn
  simp only [mI2, mR2, Nat.reduceEqDiff, not_false_eq_true]
  have hd0 := (hD l hl).1 (Or.inl h0)
  refine ⟨h1, h2, h3, h4, h5, h6, h7, ?_, ?_, ?_, ?_, hP⟩
  · intro k hk
    have e := hE k hk
    unfold kEq at e ⊢
    simp only [mI1]
    by_cases g : k = l
    · subst g
      rw [if_pos rfl, if_pos rfl, if_pos rfl, if_pos rfl]
      exact ⟨rfl, hd0.2.symm, hd0.1.symm, e.2.2.2⟩
    · rw [if_neg g, if_neg g, if_neg g, if_neg g]
      exact e
  · intro k hk
    have e := hD k hk
    unfold kDg at e ⊢
    simp only [mI1]
    by_cases g : k = l
    · subst g
      rw [if_pos rfl]
      refine ⟨fun h => ⟨hd0.1, hd0.2⟩, e.2.1, fun _ => ⟨?_, 0, by omega, hd0.1⟩, fun h => absurd h (by decide)⟩
      rw [e.2.1, hd0.1, kFind_0 (by omega)]
    · rw [if_neg g]
      exact e
  · have ho : jI A 2704 l = -1 := by
      rcases hL l hl with a | ⟨j, a1, a2, a3, a4, a5⟩
      · exact a.1
      · rw [h0] at a5
        exact absurd a5 (by simp [show ¬ (0 : Int32) = 3 by decide, show ¬ (0 : Int32) = 4 by decide, show ¬ (0 : Int32) = 5 by decide])
    refine kLk_1 hL (by omega) hl ho ?_ ?_ ?_ ?_
    · rw [mI1, if_pos rfl]; decide
    · rw [mI1, if_pos rfl]; decide
    · rw [mI1, if_pos rfl]; decide
    · intro k _ g
      rw [mI1, if_neg g]
  · refine kQu_1 hQ fun k hk => ?_
    rw [mI1]
    by_cases g : k = l
    · subst g
      rw [if_pos rfl, h0]
      decide
    · rw [if_neg g]
theorem R_lift1 {j : Nat} (h : jRXn A B n w mk pn pd) (h10 : n ≤ 10) (hl : l < n) (h0 : jI A 2640 l = 4) (hj : j < n) (hlj : ¬ l = j) (ho : jI A 2704 l = iN j) (ho2 : jI A 2704 j = iN l) : jRXn (jsI (jsI A 2640 l 5) 2640 j 5) (jsI (jsI B 5904 l 5) 5904 j 5) n w mk pn pd := by
  obtain ⟨h1, h2, h3, h4, h5, h6, h7, hE, hD, hL, hQ, hP⟩ := h
  unfold jRXn
  simp only [mI2, mR2, Nat.reduceEqDiff, not_false_eq_true]
  have h03 : jI A 2640 j = 3 := by
    rcases hL l hl with a | ⟨i, a1, a2, a3, a4, a5⟩
    · exact absurd h0 a.2.2.2.1
    · have hi : i = j := (iN_eq (by omega) (by omega)).mp (a3.symm.trans ho)
      subst hi
      rw [h0] at a5
      rcases a5 with ⟨_, _, b | b⟩ | ⟨_, _, b | b⟩
      · exact absurd b.1 (by decide)
      · exact absurd b.1 (by decide)
      · exact b.2
      · exact absurd b.1 (by decide)
  refine ⟨h1, h2, h3, h4, h5, h6, h7, ?_, ?_, ?_, ?_, hP⟩
  · intro k hk
    have e := hE k hk
    unfold kEq at e ⊢
    simp only [mI1]
    refine ⟨?_, e.2⟩
    by_cases g : k = j
    · rw [if_pos g, if_pos g]
    · by_cases g2 : k = l
      · rw [if_neg g, if_pos g2, if_neg g, if_pos g2]
      · rw [if_neg g, if_neg g2, if_neg g, if_neg g2]
        exact e.1
  · intro k hk
    have e := hD k hk
    unfold kDg at e ⊢
    simp only [mI1]
    by_cases g : k = j
    · subst g
      rw [if_pos rfl]
      exact ⟨fun h => absurd h (by decide), e.2.1, fun h => absurd h (by decide), fun h => absurd h (by decide)⟩
    · rw [if_neg g]
      by_cases g2 : k = l
      · subst g2
        rw [if_pos rfl]
        exact ⟨fun h => absurd h (by decide), e.2.1, fun h => absurd h (by decide), fun h => absurd h (by decide)⟩
      · rw [if_neg g2]
        exact e
  · refine kLk_2 hL (by omega) hl hj ho ho2 hlj ?_ ?_ ?_
    · rw [mI1, if_neg hlj, mI1, if_pos rfl]
    · rw [mI1, if_pos rfl]
    · intro k _ g g2
      rw [mI1, if_neg g2, mI1, if_neg g]
  · refine kQu_1 hQ fun k hk => ?_
    rw [mI1, mI1]
    by_cases g : k = j
    · subst g
      rw [if_pos rfl, h03]
      decide
    · rw [if_neg g]
      by_cases g2 : k = l
      · subst g2
        rw [if_pos rfl, h0]
        decide
      · rw [if_neg g2]
theorem R_hang0 (h : jRXn A B n w mk pn pd) (h10 : n ≤ 10) (hl : l < n) (h0 : ¬ jI A 2640 l = 2) (ho : jI A 2704 l = -1) : jRXn (kHgn A l w none none) (kHgMs B l w none none) n w mk pn pd := by
  obtain ⟨h1, h2, h3, h4, h5, h6, h7, hE, hD, hL, hQ, hP⟩ := h
  unfold jRXn kHgn kHgMs kFdn
  simp only [mI2, mR2, Nat.reduceEqDiff, not_false_eq_true]
  refine ⟨h1, h2, h3, h4, h5, h6, h7, ?_, ?_, ?_, ?_, hP⟩
  · intro k hk
    have e := hE k hk
    unfold kEq at e ⊢
    simp only [mI1]
    by_cases g : k = l
    · simp only [if_pos g]
      exact ⟨trivial, trivial, trivial, e.2.2.2⟩
    · simp only [if_neg g]
      exact e
  · intro k hk
    have e := hD k hk
    unfold kDg at e ⊢
    simp only [mI1]
    by_cases g : k = l
    · simp only [if_pos g]
      exact ⟨fun _ => ⟨trivial, trivial⟩, (kFind_0 (by omega)).symm, fun h => absurd h (by decide), fun h => absurd h (by decide)⟩
    · simp only [if_neg g]
      exact e
  · refine kLk_1 hL (by omega) hl ho ?_ ?_ ?_ ?_
    · rw [mI1, if_pos rfl]; decide
    · rw [mI1, if_pos rfl]; decide
    · rw [mI1, if_pos rfl]; decide
    · intro k _ g
      rw [mI1, if_neg g]
  · refine kQu_1 hQ fun k hk => ?_
    rw [mI1]
    by_cases g : k = l
    · rw [if_pos g, g]
      exact ⟨fun h => absurd h (by decide), fun h => absurd h h0⟩
    · rw [if_neg g]
theorem R_hang2 {q : Nat} (h : jRXn A B n w mk pn pd) (h10 : n ≤ 10) (hl : l < n) (h0 : jI A 2640 l = 2) (hq : q < w) (hql : jI A 3344 q = iN l) : jRXn (kHgn A l w (some q) none) (kHgMs B l w (some q) none) n (w - 1) mk pn pd := by
  obtain ⟨h1, h2, h3, h4, h5, h6, h7, hE, hD, hL, hQ, hP⟩ := h
  have ho : jI A 2704 l = -1 := by
    rcases hL l hl with a | ⟨j, a1, a2, a3, a4, a5⟩
    · exact a.1
    · rw [h0] at a5
      exact absurd a5 (by simp [show ¬ (2 : Int32) = 3 by decide, show ¬ (2 : Int32) = 4 by decide, show ¬ (2 : Int32) = 5 by decide])
  unfold jRXn kHgn kHgMs kFdn kLvn kLvMs
  simp only [mI2, mR2, Nat.reduceEqDiff, not_false_eq_true]
  refine ⟨by rw [mI1, mI1]; exact h1, by rw [mI1]; exact h2, by rw [mI1]; exact h3, h4, h5, by rw [mI1]; rfl, by rw [mI1]; rfl, ?_, ?_, ?_, ?_, hP⟩
  · intro k hk
    have e := hE k hk
    unfold kEq at e ⊢
    simp only [mI1]
    by_cases g : k = l
    · simp only [if_pos g]
      exact ⟨trivial, trivial, trivial, e.2.2.2⟩
    · simp only [if_neg g]
      exact e
  · intro k hk
    have e := hD k hk
    unfold kDg at e ⊢
    simp only [mI1]
    by_cases g : k = l
    · simp only [if_pos g]
      exact ⟨fun _ => ⟨trivial, trivial⟩, (kFind_0 (by omega)).symm, fun h => absurd h (by decide), fun h => absurd h (by decide)⟩
    · simp only [if_neg g]
      exact e
  · refine kLk_1 hL (by omega) hl ho ?_ ?_ ?_ ?_
    · rw [mI1, if_pos rfl]; decide
    · rw [mI1, if_pos rfl]; decide
    · rw [mI1, if_pos rfl]; decide
    · intro k _ g
      rw [mI1, if_neg g, mR2 (by decide), mI2 (by decide)]
  · refine kQu_3 hQ (by omega) hl hq hql ?_ ?_ ?_ ?_
    · rw [mI1, if_pos rfl]; decide
    · intro k _ g
      rw [mI1, if_neg g, mR2 (by decide), mI2 (by decide)]
    · intro j
      rw [mR1]
    · intro j
      rw [mR1]
theorem R_hang1 {j : Nat} (h : jRXn A B n w mk pn pd) (h10 : n ≤ 10) (hl : l < n) (h0 : ¬ jI A 2640 l = 4) (hj : j < n) (hlj : ¬ l = j) (ho : jI A 2704 l = iN j) (ho2 : jI A 2704 j = iN l) : jRXn (kHgn A l w none (some j)) (kHgMs B l w none (some j)) n w mk pn pd := by
  obtain ⟨h1, h2, h3, h4, h5, h6, h7, hE, hD, hL, hQ, hP⟩ := h
  have hlk : (¬ jI A 3024 l = 0 ∧ jI A 3024 j = 0 ∨ jI A 3024 l = 0 ∧ ¬ jI A 3024 j = 0) ∧ (jI A 2640 l = 3 ∧ jI A 2640 j = 4 ∨ jI A 2640 l = 5 ∧ jI A 2640 j = 5) := by
    rcases hL l hl with a | ⟨i, a1, a2, a3, a4, a5⟩
    · exact absurd (ho.symm.trans a.1) (iN_n1 (by omega))
    · have hi : i = j := (iN_eq (by omega) (by omega)).mp (a3.symm.trans ho)
      subst hi
      rcases a5 with ⟨b1, b2, b | b⟩ | ⟨b1, b2, b | b⟩
      · exact ⟨Or.inl ⟨b1, b2⟩, Or.inl b⟩
      · exact ⟨Or.inl ⟨b1, b2⟩, Or.inr b⟩
      · exact absurd b.1 h0
      · exact ⟨Or.inr ⟨b1, b2⟩, Or.inr b⟩
  obtain ⟨hws, hdw⟩ := hlk
  have hn2 : ¬ jI A 2640 l = 2 ∧ ¬ jI A 2640 j = 2 := by
    rcases hdw with a | a <;> rw [a.1, a.2] <;> decide
  have hjl : ¬ j = l := fun h => hlj h.symm
  have hel := hE l (by omega)
  have hej := hE j (by omega)
  unfold kEq at hel hej
  have hv : (if jI A 2640 j = 4 then (0 : Int32) else 7) = (if jI B 5904 l = 5 then 7 else 0) ∧ ¬ (if jI A 2640 j = 4 then (0 : Int32) else 7) = 1 ∧ ¬ (if jI A 2640 j = 4 then (0 : Int32) else 7) = 2 ∧ ¬ (if jI A 2640 j = 4 then (0 : Int32) else 7) = 3 ∧ ¬ (if jI A 2640 j = 4 then (0 : Int32) else 7) = 4 ∧ ¬ (if jI A 2640 j = 4 then (0 : Int32) else 7) = 5 ∧ ((if jI A 2640 j = 4 then (0 : Int32) else 7) = 0 → jI A 2640 j = 4) := by
    rw [hel.1]
    rcases hdw with a | a <;> rw [a.1, a.2] <;> decide
  generalize hvv : (if jI A 2640 j = 4 then (0 : Int32) else 7) = v at hv
  obtain ⟨v0, v1, v2, v3, v4, v5, v6⟩ := hv
  unfold jRXn kHgn kHgMs kFdn kDiscn kFwn
  simp only [hvv, ← v0]
  have hcl : jI B 6288 l = (if jI A 3024 l = 0 then 0 else 1) := hel.2.2.2.2.2.1
  have hclj : jI B 6288 j = (if jI A 3024 j = 0 then 0 else 1) := hej.2.2.2.2.2.1
  have hmc : ∃ B', (if jI B 6288 l = 1 then jsI (jsI (jsI (jsI B 5904 j v) 6224 j (-1)) 6224 l (-1)) 6288 l 0 else jsI (jsI (jsI (jsI B 5904 j v) 6224 l (-1)) 6224 j (-1)) 6288 j 0) = B' ∧ (∀ a, ¬ a = 5904 → ¬ a = 6224 → ¬ a = 6288 → jI B' a = jI B a) ∧ (∀ k, jI B' 5904 k = if k = j then v else jI B 5904 k) ∧ (∀ k, jI B' 6224 k = if k = l then -1 else if k = j then -1 else jI B 6224 k) ∧ (∀ k, jI B' 6288 k = if k = l then 0 else if k = j then 0 else jI B 6288 k) := by
    refine ⟨_, rfl, ?_⟩
    rcases hws with ⟨a1, a2⟩ | ⟨a1, a2⟩
    · rw [if_neg a1] at hcl
      rw [if_pos a2] at hclj
      simp only [if_pos hcl]
      refine ⟨fun a n1 n2 n3 => by simp only [mI2, n1, n2, n3, not_false_eq_true], fun k => ?_, fun k => ?_, fun k => ?_⟩
      · simp only [mI2, mR2, Nat.reduceEqDiff, not_false_eq_true, mI1]
      · simp only [mI2, mR2, Nat.reduceEqDiff, not_false_eq_true, mI1]
      · simp only [mI2, mR2, Nat.reduceEqDiff, not_false_eq_true, mI1]
        by_cases g : k = j
        · subst g
          rw [if_pos rfl, hclj]
        · rw [if_neg g]
    · rw [if_pos a1] at hcl
      simp only [if_neg (show ¬ jI B 6288 l = 1 by rw [hcl]; decide)]
      refine ⟨fun a n1 n2 n3 => by simp only [mI2, n1, n2, n3, not_false_eq_true], fun k => ?_, fun k => ?_, fun k => ?_⟩
      · simp only [mI2, mR2, Nat.reduceEqDiff, not_false_eq_true, mI1]
      · simp only [mI2, mR2, Nat.reduceEqDiff, not_false_eq_true, mI1]
        by_cases g : k = j
        · rw [if_pos g, if_pos g]
          split <;> rfl
        · rw [if_neg g, if_neg g]
      · simp only [mI2, mR2, Nat.reduceEqDiff, not_false_eq_true, mI1]
        by_cases g : k = l
        · subst g
          rw [if_neg hlj, if_pos rfl, hcl]
        · rw [if_neg g]
  obtain ⟨B', hB, f0, f1, f2, f3⟩ := hmc
  rw [hB]
  simp only [mI2, mR2, Nat.reduceEqDiff, not_false_eq_true, f0]
  refine ⟨h1, h2, h3, h4, h5, h6, h7, ?_, ?_, ?_, ?_, hP⟩
  · intro k hk
    have e := hE k hk
    unfold kEq at e ⊢
    simp only [mI1, mI2, mR2, Nat.reduceEqDiff, not_false_eq_true, f0, f1, f2, f3]
    by_cases g : k = l
    · subst g
      simp only [if_true, if_neg hlj]
      exact ⟨trivial, trivial, trivial, e.2.2.2.1, trivial, trivial, fun _ => ⟨trivial, trivial, trivial, trivial⟩, fun h => absurd trivial h⟩
    · by_cases g2 : k = j
      · subst g2
        simp only [if_true, if_neg hjl]
        exact ⟨trivial, e.2.1, e.2.2.1, e.2.2.2.1, trivial, trivial, fun _ => ⟨trivial, trivial, trivial, trivial⟩, fun h => absurd trivial h⟩
      · simp only [if_neg g, if_neg g2]
        exact e
  · intro k hk
    have e := hD k hk
    unfold kDg at e ⊢
    simp only [mI1, mI2, mR2, Nat.reduceEqDiff, not_false_eq_true]
    by_cases g : k = l
    · simp only [if_pos g]
      exact ⟨fun _ => ⟨trivial, trivial⟩, (kFind_0 (by omega)).symm, fun h => absurd h (by decide), fun h => absurd h (by decide)⟩
    · by_cases g2 : k = j
      · subst g2
        simp only [if_neg g, if_true]
        refine ⟨fun h => e.1 (Or.inr (v6 (h.elim id fun h => absurd h v4))), e.2.1, fun h => absurd h v1, fun h => absurd h v2⟩
      · simp only [if_neg g, if_neg g2]
        exact e
  · refine kLk_3 hL (by omega) hl hj ho ho2 ?_ ?_ ?_ ?_ ?_ ?_ ?_
    · simp only [mI1, mI2, mR2, Nat.reduceEqDiff, not_false_eq_true, if_true]; decide
    · simp only [mI1, mI2, mR2, Nat.reduceEqDiff, not_false_eq_true, if_neg hjl, if_true]; exact ⟨v3, v4, v5⟩
    · simp only [mI1, mI2, mR2, Nat.reduceEqDiff, not_false_eq_true, if_true, if_neg hlj]
    · simp only [mI1, mI2, mR2, Nat.reduceEqDiff, not_false_eq_true, if_true]
    · simp only [mI1, mI2, mR2, Nat.reduceEqDiff, not_false_eq_true, if_true, if_neg hlj]
    · simp only [mI1, mI2, mR2, Nat.reduceEqDiff, not_false_eq_true, if_true]
    · intro k _ g g2
      simp only [mI1, mI2, mR2, Nat.reduceEqDiff, not_false_eq_true, if_neg g, if_neg g2]
      exact ⟨trivial, trivial, trivial⟩
  · refine kQu_1 hQ fun k hk => ?_
    simp only [mI1, mI2, mR2, Nat.reduceEqDiff, not_false_eq_true]
    by_cases g : k = l
    · rw [if_pos g, g]
      exact ⟨fun h => absurd h (by decide), fun h => absurd h hn2.1⟩
    · rw [if_neg g]
      by_cases g2 : k = j
      · rw [if_pos g2, g2]
        exact ⟨fun h => absurd h v2, fun h => absurd h hn2.2⟩
      · rw [if_neg g2]
end REL
