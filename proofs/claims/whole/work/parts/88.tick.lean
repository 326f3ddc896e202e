/-! THE PURE PART: a tick is alike. -/
section TICK
variable {A B A' B' : jM} {p m n t L nh w mk : Nat} {K : Nat → Nat} {T : Nat → List (Nat × Int32)} {pn pd : Nat → Int32}
theorem jhas_ne {l n : Nat} (h : l < n) (h2 : n ≤ 10) : ¬ jhas (iN l) (iN n) 10 = 0 := by
  have e := jhas_in (m := 10) h h2 (by decide)
  rw [show (10 : Int32) = iN 10 from rfl, e]
  decide
theorem kFind_congr {n : Nat} {pn pd pn' pd' : Nat → Int32} {g x : Int32} (h : ∀ k, k < n → pn k = pn' k ∧ pd k = pd' k) : kFind n pn pd g x = kFind n pn' pd' g x := by
  refine jfst_congr _ _ fun j _ hj => ?_
  obtain ⟨h1, h2⟩ := h j (by omega)
  rw [h1, h2]
/-- the plan in other memories -/
theorem jRP_c (hR : jRP A B p m n t L K nh T) (h1 : jQ A' = jQ A) (h2 : ∀ a, a < 2308 ∨ a = 2456 → jI A' a = jI A a) (h3 : jI A' 2308 3 = jI A 2308 3) (h4 : jQ B' = jQ B) (h5 : ∀ c, c < 900 → jI B' (64 * p + c) = jI B (64 * p + c)) : jRP A' B' p m n t L K nh T := by
  obtain ⟨r1, r2, r3, r4, r5, r6, r7, r8, r9, r10, r11, r12, r13, r14, r15⟩ := hR
  unfold jRP
  rw [h5 11 (by decide), h5 84 (by decide), h5 144 (by decide), h5 208 (by decide), h5 272 (by decide), h5 336 (by decide), h5 400 (by decide), h5 464 (by decide), h5 528 (by decide), h5 594 (by decide), h2 1731 (Or.inl (by decide)), h2 1812 (Or.inl (by decide)), h2 1872 (Or.inl (by decide)), h2 1936 (Or.inl (by decide)), h2 2000 (Or.inl (by decide)), h2 2064 (Or.inl (by decide)), h2 2128 (Or.inl (by decide)), h2 2192 (Or.inl (by decide)), h2 2256 (Or.inl (by decide)), h2 2456 (Or.inr rfl)]
  refine ⟨jPl_c h1 (h2 1731 (Or.inl (by decide))) h3 (h2 2456 (Or.inr rfl)) r1, jMp_c h4 r2, r3, r4, r5, ?_, r7, r8, r9, r10, r11, r12, r13, r14, r15⟩
  unfold jMt at r6 ⊢
  rw [h5 11 (by decide), h5 659 (by decide), h5 723 (by decide), h5 794 (by decide)]
  exact r6
theorem jRP_f (hR : jRP A B p m n t L K nh T) : p = 77 ∨ 120 ≤ p := hR.2.1.2.1
/-- what these leave alone (reference) -/
def jFms (B B' : jM) : Prop := jQ B' = jQ B ∧ jL B' = jL B ∧ jA B' = jA B ∧ jX B' = jX B ∧ ∀ a, a < 5836 ∨ 6680 < a → jI B' a = jI B a
theorem jFms_r : jFms B B := ⟨rfl, rfl, rfl, rfl, fun _ _ => rfl⟩
theorem jFms_t {C : jM} (h : jFms B B') (h2 : jFms B' C) : jFms B C := ⟨h2.1.trans h.1, h2.2.1.trans h.2.1, h2.2.2.1.trans h.2.2.1, h2.2.2.2.1.trans h.2.2.2.1, fun a ha => (h2.2.2.2.2 a ha).trans (h.2.2.2.2 a ha)⟩
theorem jFms_I {a k : Nat} {v : Int32} (h1 : 5836 ≤ a) (h2 : a ≤ 6680) : jFms B (jsI B a k v) := ⟨rfl, rfl, rfl, rfl, fun b h => mI2 (by omega)⟩
theorem jFms_R {a : Nat} {g : Nat → Int32} (h1 : 5836 ≤ a) (h2 : a ≤ 6680) : jFms B (jsR B a g) := ⟨rfl, rfl, rfl, rfl, fun b h => mR2 (by omega)⟩
theorem jRPn (hR : jRP A B p m n t L K nh T) (hA : jSmn A A') (hB : jFms B B') : jRP A' B' p m n t L K nh T := by
  have hp := jRP_f hR
  obtain ⟨a1, a2, a3, a4, a5, a6⟩ := hA
  exact jRP_c hR a1 (fun a h => a5 a (by omega) (by omega) (by omega)) a6 hB.1 fun c hc => hB.2.2.2.2 _ (by omega)
/-- one that waits first (reference) -/
def kMk1s (p n t nh : Nat) (T : Nat → List (Nat × Int32)) (w : Nat) (a : Int32 × jM) : Int32 × jM :=
  let l := (jI a.2 6160 0).toNatClampNeg
  let k := (kFind n (jI a.2 (64 * p + 208)) (jI a.2 (64 * p + 272)) (jI a.2 6032 l) (jI a.2 5968 l)).toNatClampNeg
  let r := kMkMs (kLvMs a.2 w 0) p n t nh T l k (jI a.2 (64 * p + 144) l).toNatClampNeg (jI a.2 (64 * p + 144) k)
  (a.1 + r.1, r.2)
theorem kWay_0s {u j : Nat} {z : Int32} (hj : j < 15) : (kWay_s B p n t nh T u z).1 j = jI B 5836 j := by
  have h : (fun j => if j = 15 then -1 else jI B 5836 j) j = jI B 5836 j := if_neg (by omega)
  unfold kWay_s
  split
  · unfold kGo_s
    rw [kGoM_0 hj]
    exact h
  · exact h
theorem jFms_l {q : Nat} : jFms B (kLvMs B w q) := jFms_t (jFms_I (by decide) (by decide)) (jFms_R (by decide) (by decide))
theorem jFms_w {l u : Nat} {z : Int32} : jFms B (kWyMs B p n t nh T l u z) := jFms_t (jFms_t (jFms_I (by decide) (by decide)) (jFms_R (by decide) (by decide))) (jFms_R (by decide) (by decide))
theorem jFms_m {l k u : Nat} {z : Int32} : jFms B (kMkMs B p n t nh T l k u z).2 := by
  unfold kMkMs
  split
  · split
    · exact jFms_w
    · exact jFms_t (jFms_t (jFms_t (jFms_t (jFms_t (jFms_t (jFms_t (jFms_t (jFms_t (jFms_t jFms_w (jFms_I (by decide) (by decide))) (jFms_I (by decide) (by decide))) (jFms_I (by decide) (by decide))) (jFms_I (by decide) (by decide))) (jFms_I (by decide) (by decide))) (jFms_I (by decide) (by decide))) (jFms_I (by decide) (by decide))) (jFms_I (by decide) (by decide))) (jFms_I (by decide) (by decide))) (jFms_I (by decide) (by decide))
  · exact jFms_I (by decide) (by decide)
theorem jFms_1 {a : Int32 × jM} : jFms a.2 (kMk1s p n t nh T w a).2 := jFms_t jFms_l jFms_m
/-- the first one that waits -/
theorem jRX_headn (hR : jRP A B p m n t L K nh T) (h : jRXn A B n w mk (jI A 1936) (jI A 2000)) (hw : 0 < w) : ∃ l k u z, l < n ∧ k < n ∧ u < m ∧ z < m ∧ jI A 3344 0 = iN l ∧ jI B 6160 0 = iN l ∧ jI A 2640 l = 2 ∧ jI A 2896 l = iN k ∧ kFind n (jI B (64 * p + 208)) (jI B (64 * p + 272)) (jI B 6032 l) (jI B 5968 l) = iN k ∧ jI B (64 * p + 144) l = iN u ∧ jI B (64 * p + 144) k = iN z ∧ jI A 1872 l = iN u ∧ jI A 1872 k = iN z := by
  have hn : n ≤ 10 := hR.1.2.2.2.2.1
  obtain ⟨r1, r2, r3, r4, r5, r6, r7, r8, r9, r10, r11, r12, r13, r14, r15⟩ := hR
  obtain ⟨h1, h2, h3, h4, h5, h6, h7, hE, hD, hL, hQ, hP⟩ := h
  obtain ⟨q1, l, q2, q3, q4⟩ := hQ.1 0 hw
  obtain ⟨d1, d2, d3, d4⟩ := hD l q2
  obtain ⟨k, k1, k2⟩ := d4 q4
  obtain ⟨e1, e2, e3, _⟩ := hE l (by omega)
  obtain ⟨a1, ⟨u, a2, a3⟩, _⟩ := r9 l q2
  obtain ⟨b1, ⟨z, b2, b3⟩, _⟩ := r9 k k1
  refine ⟨l, k, u, z, q2, k1, a2, b2, q3, q1.trans q3, q4, k2, ?_, a1.symm.trans a3, b1.symm.trans b3, a3, b3⟩
  rw [e3, e2, ← k2, d2]
  exact kFind_congr fun k hk => ⟨(r9 k hk).2.2.1.symm, (r9 k hk).2.2.2.1.symm⟩
theorem R_markn (hR : jRP A B p m n t L K nh T) (h : jRXn A B n w mk (jI A 1936) (jI A 2000)) (hw : 0 < w) (x : Int32) : jRXn (kMarkn m n t L K w (x, A)).2 (kMk1s p n t nh T w (x, B)).2 n (w - 1) mk (jI A 1936) (jI A 2000) ∧ (kMarkn m n t L K w (x, A)).1 = (kMk1s p n t nh T w (x, B)).1 := by
  obtain ⟨l, k, u, z, hl, hk, hu, hz, a1, a2, a3, a4, a5, a6, a7, a8, a9⟩ := jRX_headn hR h hw
  have hn : n ≤ 10 := hR.1.2.2.2.2.1
  have hm : m ≤ 6 := hR.1.2.2.1
  have lc : (iN l).toNatClampNeg = l := iN_cl (by omega)
  have kc : (iN k).toNatClampNeg = k := iN_cl (by omega)
  have uc : (iN u).toNatClampNeg = u := iN_cl (by omega)
  have hhl : ¬ jhas (iN l) (iN n) 10 = 0 := jhas_ne hl hn
  have hhk : ¬ jhas (iN k) (iN n) 10 = 0 := jhas_ne hk hn
  have hp := jRP_f hR
  have hR0 := hR
  obtain ⟨h1, h2, h3, h4, h5, h6, h7, hE, hD, hL, hQ, hP⟩ := h
  have hEl := hE l (by omega)
  have hEk := hE k (by omega)
  have hot : jI A 2704 l = -1 ∧ jI A 3024 l = 0 := by
    rcases hL l hl with a | ⟨j, b1, b2, b3, b4, b5⟩
    · exact ⟨a.1, a.2.1⟩
    · rw [a3] at b5
      exact absurd b5 (by simp [show ¬ (2 : Int32) = 3 by decide, show ¬ (2 : Int32) = 4 by decide, show ¬ (2 : Int32) = 5 by decide])
  -- the class: without the first
  have hA1 : jSmn A (kLvn A w 0) := jSmn_l
  have rA : ∀ a, ¬ a = 2567 → ¬ a = 3344 → jI (kLvn A w 0) a = jI A a := fun a g1 g2 => by unfold kLvn; rw [mR2 g2, mI2 g1]
  have rAx : ∀ j, jI (kLvn A w 0) 2567 j = if j = 16 then iN (w - 1) else jI A 2567 j := fun j => by unfold kLvn; rw [mR2 (by decide), mI1]
  have rAq : ∀ j, jI (kLvn A w 0) 3344 j = if 0 ≤ j ∧ j < w - 1 then jI A 3344 (j + 1) else jI A 3344 j := fun j => by unfold kLvn; rw [mR1]
  have rB : ∀ a, ¬ a = 5836 → ¬ a = 6160 → jI (kLvMs B w 0) a = jI B a := fun a g1 g2 => by unfold kLvMs; rw [mR2 g2, mI2 g1]
  have rBx : ∀ j, jI (kLvMs B w 0) 5836 j = if j = 7 then iN (w - 1) else jI B 5836 j := fun j => by unfold kLvMs; rw [mR2 (by decide), mI1]
  have rBq : ∀ j, jI (kLvMs B w 0) 6160 j = if 0 ≤ j ∧ j < w - 1 then jI B 6160 (j + 1) else jI B 6160 j := fun j => by unfold kLvMs; rw [mR1]
  have eM : kMk1s p n t nh T w (x, B) = (x + (kMkMs (kLvMs B w 0) p n t nh T l k u (iN z)).1, (kMkMs (kLvMs B w 0) p n t nh T l k u (iN z)).2) := by
    unfold kMk1s
    dsimp only
    rw [a2, lc, a5, kc, a6, uc, a7]
  have eC : kMarkn m n t L K w (x, A) = (x + (kServen (kLvn A w 0) m n t L K l (iN k)).1, (kServen (kLvn A w 0) m n t L K l (iN k)).2) := by
    unfold kMarkn
    dsimp only
    rw [a1, if_neg hhl, lc, a4]
  rw [eM, eC]
  generalize hgA : kLvn A w 0 = A1 at hA1 rA rAx rAq ⊢
  generalize hgB : kLvMs B w 0 = B1 at rB rBx rBq ⊢
  have hB1 : jFms B B1 := by rw [← hgB]; exact jFms_l
  have kQ3 : ∀ dw' : Nat → Int32, ¬ dw' l = 2 → (∀ k, k < n → ¬ k = l → (dw' k = 2 ↔ jI A 2640 k = 2)) → kQu (w - 1) n dw' (jI A1 3344) (jI B1 6160) := fun dw' g1 g2 => kQu_3 hQ (by omega) hl hw a1 g1 g2 rAq rBq
  unfold kServen kMkMs
  rw [if_neg hhk, kc, rA 2640 (by decide) (by decide), rB 5904 (by decide) (by decide), hEk.1]
  by_cases g0 : jI A 2640 k = 0
  · rw [if_pos g0, if_pos g0]
    have hkl : ¬ k = l := by rintro rfl; rw [a3] at g0; exact absurd g0 (by decide)
    have hlk : ¬ l = k := fun e => hkl e.symm
    have hotk : jI A 2704 k = -1 ∧ jI A 3024 k = 0 := by
      rcases hL k hk with a | ⟨j, b1, b2, b3, b4, b5⟩
      · exact ⟨a.1, a.2.1⟩
      · rw [g0] at b5
        exact absurd b5 (by simp [show ¬ (0 : Int32) = 3 by decide, show ¬ (0 : Int32) = 4 by decide, show ¬ (0 : Int32) = 5 by decide])
    have hB2 : jFms B (jsI B1 5904 l 7) := jFms_t hB1 (jFms_I (by decide) (by decide))
    have hR2 := jRPn hR0 hA1 hB2
    have hS : kSeen A1 (jsI B1 5904 l 7) n := by
      unfold kSeen
      simp only [mI2, mR2, Nat.reduceEqDiff, not_false_eq_true, rA, rB, rAx, rBx, Nat.reduceEqDiff, if_false]
      refine ⟨h1, fun i hi => ?_, hL⟩
      have e := hE i (by omega)
      refine ⟨?_, e.2.2.2.2.2.1, fun g => (e.2.2.2.2.2.2.1 g).1, fun g => ⟨(e.2.2.2.2.2.2.2 g).1, (e.2.2.2.2.2.2.2 g).2.1⟩⟩
      rw [mI1]
      by_cases g : i = l
      · rw [if_pos g, g, a3]
        decide
      · rw [if_neg g, rB _ (by decide) (by decide), e.1]
        exact ⟨Iff.rfl, Iff.rfl⟩
    have hway := kWay_eqn (z := iN z) (W := jI A1 3400) hR2 hS hu
    have hV0 : ∀ j, j < 15 → (kWay_s (jsI B1 5904 l 7) p n t nh T u (iN z)).1 j = jI B1 5836 j := fun j hj => by rw [kWay_0s hj, mI2 (by decide)]
    have hLk : kLkMn A1 m n t L K l k = jsR (kShMn A1 n L K) 3400 (kLook (jI A1 2064) (jI A1 2128) (jI A1 2256) t (iN u) (iN z) (kFreen A1 n m) (kOpenn A1 n t L K) (jI A1 3400)) := by
      unfold kLkMn
      rw [rA 1872 (by decide) (by decide), a8, a9]
    have rL : ∀ a, ¬ a = 2308 → ¬ a = 2520 → ¬ a = 3400 → jI (kLkMn A1 m n t L K l k) a = jI A1 a := fun a g1 g2 g3 => by
      rw [hLk, mR2 g3]
      unfold kShMn
      rw [mR2 g2, mI2 g1]
    have rLy : jI (kLkMn A1 m n t L K l k) 3400 = kLook (jI A1 2064) (jI A1 2128) (jI A1 2256) t (iN u) (iN z) (kFreen A1 n m) (kOpenn A1 n t L K) (jI A1 3400) := by rw [hLk, mR1]
    have rW : ∀ a, ¬ a = 5904 → ¬ a = 5836 → ¬ a = 6680 → jI (kWyMs B1 p n t nh T l u (iN z)) a = jI B1 a := fun a g1 g2 g3 => by unfold kWyMs; rw [mR2 g3, mR2 g2, mI2 g1]
    have rWd : ∀ j, jI (kWyMs B1 p n t nh T l u (iN z)) 5904 j = if j = l then 7 else jI B1 5904 j := fun j => by unfold kWyMs; rw [mR2 (by decide), mR2 (by decide), mI1]
    have rWx : ∀ j, j < 15 → jI (kWyMs B1 p n t nh T l u (iN z)) 5836 j = jI B1 5836 j := fun j hj => by unfold kWyMs; rw [mR2 (by decide), mR1, hV0 j hj]
    rw [rLy]
    generalize hLg : kLkMn A1 m n t L K l k = A2 at rL rLy
    generalize hWg : kWyMs B1 p n t nh T l u (iN z) = B2 at rW rWd rWx
    generalize hW : kLook (jI A1 2064) (jI A1 2128) (jI A1 2256) t (iN u) (iN z) (kFreen A1 n m) (kOpenn A1 n t L K) (jI A1 3400) = W at hway rLy ⊢
    generalize hVg : (kWay_s (jsI B1 5904 l 7) p n t nh T u (iN z)).1 = V at hway ⊢
    obtain ⟨w1, w2⟩ := hway
    rcases w2 with ⟨w3, w4⟩ | ⟨⟨r, w3, w4⟩, ⟨v, w5, w6⟩, w7, w8, w9⟩
    · rw [if_pos w3, if_pos (w1.symm.trans w3)]
      refine ⟨?_, rfl⟩
      unfold jRXn
      simp only [mI2, mR2, Nat.reduceEqDiff, not_false_eq_true, rL, rW, rA, rB, rWx _ (show 0 < 15 by decide), rWx _ (show 1 < 15 by decide), rWx _ (show 7 < 15 by decide), rAx, rBx, Nat.reduceEqDiff, if_false, if_true]
      refine ⟨h1, h2, h3, h4, h5, trivial, trivial, ?_, ?_, ?_, ?_, hP⟩
      · intro i hi
        have e := hE i hi
        unfold kEq at e ⊢
        rw [mI1, rWd]
        refine ⟨?_, e.2⟩
        by_cases g : i = l
        · rw [if_pos g, if_pos g]
        · rw [if_neg g, if_neg g, rB _ (by decide) (by decide), rL _ (by decide) (by decide) (by decide), rA _ (by decide) (by decide)]
          exact e.1
      · intro i hi
        have e := hD i hi
        unfold kDg at e ⊢
        rw [mI1]
        by_cases g : i = l
        · rw [if_pos g]
          exact ⟨fun h => absurd h (by decide), e.2.1, fun h => absurd h (by decide), fun h => absurd h (by decide)⟩
        · rw [if_neg g, rL _ (by decide) (by decide) (by decide), rA _ (by decide) (by decide)]
          exact e
      · refine kLk_1 hL (by omega) hl hot.1 ?_ ?_ ?_ ?_
        · rw [mI1, if_pos rfl]; decide
        · rw [mI1, if_pos rfl]; decide
        · rw [mI1, if_pos rfl]; decide
        · intro i _ g
          rw [mI1, if_neg g, rL _ (by decide) (by decide) (by decide), rA _ (by decide) (by decide)]
      · refine kQ3 _ (by rw [mI1, if_pos rfl]; decide) fun i _ g => ?_
        rw [mI1, if_neg g, rL _ (by decide) (by decide) (by decide), rA _ (by decide) (by decide)]
    · have hn1 : ¬ W 4 = -1 := by rw [w4]; exact iN_n1 (by omega)
      rw [if_neg hn1, if_neg (show ¬ V 15 = -1 by rw [← w1]; exact hn1)]
      refine ⟨?_, rfl⟩
      have hW5 : ¬ W 5 = 0 := by
        intro e
        rw [e, jbt_zero] at w6
        exact Bool.noConfusion w6
      unfold jRXn kConnn
      simp only [mI2, mR2, Nat.reduceEqDiff, not_false_eq_true, rL, rW, rA, rB, rWx _ (show 0 < 15 by decide), rWx _ (show 1 < 15 by decide), rWx _ (show 7 < 15 by decide), rAx, rBx, Nat.reduceEqDiff, if_false, if_true]
      refine ⟨h1, h2, h3, h4, h5, trivial, trivial, ?_, ?_, ?_, ?_, hP⟩
      · intro i hi
        have e := hE i hi
        unfold kEq at e ⊢
        simp only [mI1, mI2, mR2, Nat.reduceEqDiff, not_false_eq_true, rLy, rL, rA, rB, rW, rWd]
        by_cases g : i = l
        · subst g
          simp only [if_true, if_neg hlk, if_neg hW5]
          exact ⟨trivial, e.2.1, e.2.2.1, e.2.2.2.1, trivial, trivial, fun h => absurd h hW5, fun _ => ⟨w7.symm, w8.symm, w1.symm, ((e.2.2.2.2.2.2.1 hot.2).2.2.1).symm, ((e.2.2.2.2.2.2.1 hot.2).2.2.2).symm⟩⟩
        · by_cases g2 : i = k
          · subst g2
            simp only [if_true, if_neg hkl]
            exact ⟨trivial, e.2.1, e.2.2.1, e.2.2.2.1, trivial, e.2.2.2.2.2⟩
          · simp only [if_neg g, if_neg g2]
            exact e
      · intro i hi
        have e := hD i hi
        unfold kDg at e ⊢
        simp only [mI1, mI2, mR2, Nat.reduceEqDiff, not_false_eq_true, rL, rA]
        by_cases g2 : i = k
        · subst g2
          simp only [if_true]
          exact ⟨fun _ => e.1 (Or.inl g0), e.2.1, fun h => absurd h (by decide), fun h => absurd h (by decide)⟩
        · by_cases g : i = l
          · subst g
            simp only [if_true, if_neg g2]
            exact ⟨fun h => absurd h (by decide), e.2.1, fun h => absurd h (by decide), fun h => absurd h (by decide)⟩
          · simp only [if_neg g, if_neg g2]
            exact e
      · refine kLk_4 hL (by omega) hl hk hlk hot.1 hotk.1 ?_ ?_ ?_ ?_ ?_ ?_ ?_
        · simp only [mI1, mI2, mR2, Nat.reduceEqDiff, not_false_eq_true, if_neg hlk, if_true]
        · simp only [mI1, mI2, mR2, Nat.reduceEqDiff, not_false_eq_true, if_true]
        · simp only [mI1, mI2, mR2, Nat.reduceEqDiff, not_false_eq_true, if_neg hlk, if_true]
        · simp only [mI1, mI2, mR2, Nat.reduceEqDiff, not_false_eq_true, if_true]
        · simp only [mI1, mI2, mR2, Nat.reduceEqDiff, not_false_eq_true, if_true, rLy]; exact hW5
        · simp only [mI1, mI2, mR2, Nat.reduceEqDiff, not_false_eq_true, if_neg hkl, rL, rA]; exact hotk.2
        · intro i _ g g2
          simp only [mI1, mI2, mR2, Nat.reduceEqDiff, not_false_eq_true, if_neg g, if_neg g2, rL, rA]
          exact ⟨trivial, trivial, trivial⟩
      · refine kQ3 _ ?_ fun i _ g => ?_
        · simp only [mI1, mI2, mR2, Nat.reduceEqDiff, not_false_eq_true, if_neg hlk, if_true]; decide
        · simp only [mI1, mI2, mR2, Nat.reduceEqDiff, not_false_eq_true, if_neg g, rL, rA]
          by_cases g2 : i = k
          · rw [if_pos g2, g2, g0]; decide
          · rw [if_neg g2]
  · rw [if_neg g0, if_neg g0]
    refine ⟨?_, rfl⟩
    unfold jRXn
    simp only [mI2, mR2, Nat.reduceEqDiff, not_false_eq_true, rA, rB, rAx, rBx, Nat.reduceEqDiff, if_false, if_true]
    refine ⟨h1, h2, h3, h4, h5, trivial, trivial, ?_, ?_, ?_, ?_, hP⟩
    · intro i hi
      have e := hE i hi
      unfold kEq at e ⊢
      rw [mI1, mI1]
      refine ⟨?_, e.2⟩
      by_cases g : i = l
      · rw [if_pos g, if_pos g]
      · rw [if_neg g, if_neg g, rB _ (by decide) (by decide), rA _ (by decide) (by decide)]
        exact e.1
    · intro i hi
      have e := hD i hi
      unfold kDg at e ⊢
      rw [mI1]
      by_cases g : i = l
      · rw [if_pos g]
        exact ⟨fun h => absurd h (by decide), e.2.1, fun h => absurd h (by decide), fun h => absurd h (by decide)⟩
      · rw [if_neg g, rA _ (by decide) (by decide)]
        exact e
    · refine kLk_1 hL (by omega) hl hot.1 ?_ ?_ ?_ ?_
      · rw [mI1, if_pos rfl]; decide
      · rw [mI1, if_pos rfl]; decide
      · rw [mI1, if_pos rfl]; decide
      · intro i _ g
        rw [mI1, if_neg g, rA _ (by decide) (by decide)]
    · refine kQ3 _ (by rw [mI1, if_pos rfl]; decide) fun i _ g => ?_
      rw [mI1, if_neg g, rA _ (by decide) (by decide)]
/-- ringing and talking (reference) -/
def kRg1s (B : jM) (k : Nat) : jM := if jI B 6288 k = 0 then B else if jI B 5904 k = 5 then jsI (jsI B 6608 k (jI B 6608 k + 1)) 6096 k (jI B 6096 k + (jI B 6480 k + 1)) else if jI B 6544 k + 1 < 12 then jsI B 6544 k (jI B 6544 k + 1) else
  jsI (jsI (jsI (jsI (jsI (jsI B 6544 k (jI B 6544 k + 1)) 5904 (jI B 6224 k).toNatClampNeg 0) 5904 k 7) 6224 (jI B 6224 k).toNatClampNeg (-1)) 6224 k (-1)) 6288 k 0
theorem jFms_g {k : Nat} : jFms B (kRg1s B k) := by
  unfold kRg1s
  split
  · exact jFms_r
  · split
    · exact jFms_t (jFms_I (by decide) (by decide)) (jFms_I (by decide) (by decide))
    · split
      · exact jFms_I (by decide) (by decide)
      · exact jFms_t (jFms_t (jFms_t (jFms_t (jFms_t (jFms_I (by decide) (by decide)) (jFms_I (by decide) (by decide))) (jFms_I (by decide) (by decide))) (jFms_I (by decide) (by decide))) (jFms_I (by decide) (by decide))) (jFms_I (by decide) (by decide))
theorem R_ringn (hn : n ≤ 10) (h : jRXn A B n w mk pn pd) {k : Nat} (hk : k < n) : jRXn (if jI A 3024 k = 0 then A else kRingn A n k) (kRg1s B k) n w mk pn pd := by
  have h0 := h
  obtain ⟨h1, h2, h3, h4, h5, h6, h7, hE, hD, hL, hQ, hP⟩ := h
  have hEk := hE k (by omega)
  have hEk' := hEk
  unfold kEq at hEk'
  obtain ⟨e1, e2, e3, e4, e5, e6, e7, e8⟩ := hEk'
  unfold kRg1s
  by_cases g : jI A 3024 k = 0
  · rw [if_pos g, if_pos (by rw [e6, if_pos g])]
    exact h0
  · obtain ⟨f1, f2, f3, f4, f5⟩ := e8 g
    rw [if_neg g, if_neg (by rw [e6, if_neg g]; decide), e1]
    have hlk : ∃ j, j < n ∧ ¬ j = k ∧ jI A 2704 k = iN j ∧ jI A 2704 j = iN k ∧ jI A 3024 j = 0 ∧ (jI A 2640 k = 3 ∧ jI A 2640 j = 4 ∨ jI A 2640 k = 5 ∧ jI A 2640 j = 5) := by
      rcases hL k hk with a | ⟨j, b1, b2, b3, b4, b5⟩
      · exact absurd a.2.1 g
      · rcases b5 with ⟨c1, c2, c3⟩ | ⟨c1, _⟩
        · exact ⟨j, b1, b2, b3, b4, c2, c3⟩
        · exact absurd c1 g
    obtain ⟨j, j1, j2, j3, j4, j5, j6⟩ := hlk
    have j2' : ¬ k = j := fun e => j2 e.symm
    have jc : (iN j).toNatClampNeg = j := iN_cl (by omega)
    have hhj : ¬ jhas (iN j) (iN n) 10 = 0 := jhas_ne j1 hn
    unfold kRingn
    by_cases g5 : jI A 2640 k = 5
    · rw [if_pos g5, if_pos g5]
      unfold jRXn
      simp only [mI2, mR2, Nat.reduceEqDiff, not_false_eq_true]
      refine ⟨h1, h2, h3, h4, h5, h6, h7, ?_, hD, hL, hQ, ?_⟩
      · intro i hi
        have e := hE i hi
        unfold kEq at e ⊢
        simp only [mI1]
        by_cases q : i = k
        · subst q
          simp only [if_true]
          exact ⟨e.1, e.2.1, e.2.2.1, by rw [e4, f3], e.2.2.2.2.1, e.2.2.2.2.2.1, fun h => absurd h g, fun _ => ⟨f1, f2, f3, f4, by rw [f5]⟩⟩
        · simp only [if_neg q]
          exact e
      · intro i hi1 hi2
        simp only [mI1, mI2, if_neg (show ¬ i = k by omega), Nat.reduceEqDiff, not_false_eq_true]
        exact hP i hi1 hi2
    · rw [if_neg g5, if_neg g5, f4]
      by_cases g12 : jI A 3216 k + 1 < 12
      · rw [if_pos g12, if_pos g12]
        unfold jRXn
        simp only [mI2, mR2, Nat.reduceEqDiff, not_false_eq_true]
        refine ⟨h1, h2, h3, h4, h5, h6, h7, ?_, hD, hL, hQ, hP⟩
        intro i hi
        have e := hE i hi
        unfold kEq at e ⊢
        simp only [mI1]
        by_cases q : i = k
        · subst q
          simp only [if_true]
          exact ⟨e.1, e.2.1, e.2.2.1, e.2.2.2.1, e.2.2.2.2.1, e.2.2.2.2.2.1, fun h => absurd h g, fun _ => ⟨f1, f2, f3, trivial, f5⟩⟩
        · simp only [if_neg q]
          exact e
      · rw [if_neg g12, if_neg g12, e5, j3, if_neg hhj, jc]
        have j34 : jI A 2640 k = 3 ∧ jI A 2640 j = 4 := j6.elim id fun h => absurd h.1 g5
        unfold jRXn kDiscn kFwn
        simp only [mI2, mR2, Nat.reduceEqDiff, not_false_eq_true]
        refine ⟨h1, h2, h3, h4, h5, h6, h7, ?_, ?_, ?_, ?_, hP⟩
        · intro i hi
          have e := hE i hi
          unfold kEq at e ⊢
          simp only [mI1, mI2, mR2, Nat.reduceEqDiff, not_false_eq_true]
          by_cases q : i = k
          · subst q
            simp only [if_true, if_neg j2']
            exact ⟨trivial, e.2.1, e.2.2.1, e.2.2.2.1, trivial, trivial, fun _ => ⟨trivial, trivial, trivial, trivial⟩, fun h => absurd trivial h⟩
          · by_cases q2 : i = j
            · subst q2
              simp only [if_true, if_neg j2]
              have e6j := e.2.2.2.2.2.1
              rw [if_pos j5] at e6j
              exact ⟨trivial, e.2.1, e.2.2.1, e.2.2.2.1, trivial, e6j, fun _ => ⟨trivial, trivial, trivial, trivial⟩, fun h => absurd trivial h⟩
            · simp only [if_neg q, if_neg q2]
              exact e
        · intro i hi
          have e := hD i hi
          unfold kDg at e ⊢
          simp only [mI1, mI2, mR2, Nat.reduceEqDiff, not_false_eq_true]
          by_cases q2 : i = j
          · subst q2
            simp only [if_true]
            exact ⟨fun _ => e.1 (Or.inr j34.2), e.2.1, fun h => absurd h (by decide), fun h => absurd h (by decide)⟩
          · by_cases q : i = k
            · subst q
              simp only [if_true, if_neg q2]
              exact ⟨fun h => absurd h (by decide), e.2.1, fun h => absurd h (by decide), fun h => absurd h (by decide)⟩
            · simp only [if_neg q, if_neg q2]
              exact e
        · refine kLk_3 hL (by omega) hk j1 j3 j4 ?_ ?_ ?_ ?_ ?_ ?_ ?_
          · simp only [mI1, mI2, mR2, Nat.reduceEqDiff, not_false_eq_true, if_neg j2', if_true]; decide
          · simp only [mI1, mI2, mR2, Nat.reduceEqDiff, not_false_eq_true, if_true]; decide
          · simp only [mI1, mI2, mR2, Nat.reduceEqDiff, not_false_eq_true, if_neg j2', if_true]
          · simp only [mI1, mI2, mR2, Nat.reduceEqDiff, not_false_eq_true, if_true]
          · simp only [mI1, mI2, mR2, Nat.reduceEqDiff, not_false_eq_true, if_neg j2', if_true]
          · simp only [mI1, mI2, mR2, Nat.reduceEqDiff, not_false_eq_true, if_true]
          · intro i _ q q2
            simp only [mI1, mI2, mR2, Nat.reduceEqDiff, not_false_eq_true, if_neg q, if_neg q2]
            exact ⟨trivial, trivial, trivial⟩
        · refine kQu_1 hQ fun i hi => ?_
          simp only [mI1, mI2, mR2, Nat.reduceEqDiff, not_false_eq_true]
          by_cases q2 : i = j
          · rw [if_pos q2, q2, j34.2]; decide
          · rw [if_neg q2]
            by_cases q : i = k
            · rw [if_pos q, q, j34.1]; decide
            · rw [if_neg q]
/-- what these leave alone (reference) -/
def jFmh (B B' : jM) : Prop := jQ B' = jQ B ∧ jL B' = jL B ∧ jA B' = jA B ∧ jX B' = jX B ∧ ∀ a, a < 6732 ∨ 7576 < a → jI B' a = jI B a
theorem jFmh_r : jFmh B B := ⟨rfl, rfl, rfl, rfl, fun _ _ => rfl⟩
theorem jFmh_t {C : jM} (h : jFmh B B') (h2 : jFmh B' C) : jFmh B C := ⟨h2.1.trans h.1, h2.2.1.trans h.2.1, h2.2.2.1.trans h.2.2.1, h2.2.2.2.1.trans h.2.2.2.1, fun a ha => (h2.2.2.2.2 a ha).trans (h.2.2.2.2 a ha)⟩
theorem jFmh_I {a k : Nat} {v : Int32} (h1 : 6732 ≤ a) (h2 : a ≤ 7576) : jFmh B (jsI B a k v) := ⟨rfl, rfl, rfl, rfl, fun b h => mI2 (by omega)⟩
theorem jFmh_R {a : Nat} {g : Nat → Int32} (h1 : 6732 ≤ a) (h2 : a ≤ 7576) : jFmh B (jsR B a g) := ⟨rfl, rfl, rfl, rfl, fun b h => mR2 (by omega)⟩
theorem jRPa (hR : jRP A B p m n t L K nh T) (hA : jSma A A') (hB : jFmh B B') : jRP A' B' p m n t L K nh T := by
  have hp := jRP_f hR
  obtain ⟨a1, a2, a3, a4, a5, a6⟩ := hA
  exact jRP_c hR a1 (fun a h => a5 a (by omega) (by omega) (by omega)) a6 hB.1 fun c hc => hB.2.2.2.2 _ (by omega)
/-- one that waits first (reference) -/
def kMk1h (p n t nh : Nat) (T : Nat → List (Nat × Int32)) (w : Nat) (a : Int32 × jM) : Int32 × jM :=
  let l := (jI a.2 7056 0).toNatClampNeg
  let k := (kFind n (jI a.2 (64 * p + 208)) (jI a.2 (64 * p + 272)) (jI a.2 6928 l) (jI a.2 6864 l)).toNatClampNeg
  let r := kMkMh (kLvMh a.2 w 0) p n t nh T l k (jI a.2 (64 * p + 144) l).toNatClampNeg (jI a.2 (64 * p + 144) k)
  (a.1 + r.1, r.2)
theorem kWay_0h {u j : Nat} {z : Int32} (hj : j < 15) : (kWay_h B p n t nh T u z).1 j = jI B 6732 j := by
  have h : (fun j => if j = 15 then -1 else jI B 6732 j) j = jI B 6732 j := if_neg (by omega)
  unfold kWay_h
  split
  · unfold kGo_h
    rw [kGoM_0 hj]
    exact h
  · exact h
theorem jFmh_l {q : Nat} : jFmh B (kLvMh B w q) := jFmh_t (jFmh_I (by decide) (by decide)) (jFmh_R (by decide) (by decide))
theorem jFmh_w {l u : Nat} {z : Int32} : jFmh B (kWyMh B p n t nh T l u z) := jFmh_t (jFmh_t (jFmh_I (by decide) (by decide)) (jFmh_R (by decide) (by decide))) (jFmh_R (by decide) (by decide))
theorem jFmh_m {l k u : Nat} {z : Int32} : jFmh B (kMkMh B p n t nh T l k u z).2 := by
  unfold kMkMh
  split
  · split
    · exact jFmh_w
    · exact jFmh_t (jFmh_t (jFmh_t (jFmh_t (jFmh_t (jFmh_t (jFmh_t (jFmh_t (jFmh_t (jFmh_t jFmh_w (jFmh_I (by decide) (by decide))) (jFmh_I (by decide) (by decide))) (jFmh_I (by decide) (by decide))) (jFmh_I (by decide) (by decide))) (jFmh_I (by decide) (by decide))) (jFmh_I (by decide) (by decide))) (jFmh_I (by decide) (by decide))) (jFmh_I (by decide) (by decide))) (jFmh_I (by decide) (by decide))) (jFmh_I (by decide) (by decide))
  · exact jFmh_I (by decide) (by decide)
theorem jFmh_1 {a : Int32 × jM} : jFmh a.2 (kMk1h p n t nh T w a).2 := jFmh_t jFmh_l jFmh_m
/-- the first one that waits -/
theorem jRX_heada (hR : jRP A B p m n t L K nh T) (h : jRXa A B n w mk (jI A 1936) (jI A 2000)) (hw : 0 < w) : ∃ l k u z, l < n ∧ k < n ∧ u < m ∧ z < m ∧ jI A 4240 0 = iN l ∧ jI B 7056 0 = iN l ∧ jI A 3536 l = 2 ∧ jI A 3792 l = iN k ∧ kFind n (jI B (64 * p + 208)) (jI B (64 * p + 272)) (jI B 6928 l) (jI B 6864 l) = iN k ∧ jI B (64 * p + 144) l = iN u ∧ jI B (64 * p + 144) k = iN z ∧ jI A 1872 l = iN u ∧ jI A 1872 k = iN z := by
  have hn : n ≤ 10 := hR.1.2.2.2.2.1
  obtain ⟨r1, r2, r3, r4, r5, r6, r7, r8, r9, r10, r11, r12, r13, r14, r15⟩ := hR
  obtain ⟨h1, h2, h3, h4, h5, h6, h7, hE, hD, hL, hQ, hP⟩ := h
  obtain ⟨q1, l, q2, q3, q4⟩ := hQ.1 0 hw
  obtain ⟨d1, d2, d3, d4⟩ := hD l q2
  obtain ⟨k, k1, k2⟩ := d4 q4
  obtain ⟨e1, e2, e3, _⟩ := hE l (by omega)
  obtain ⟨a1, ⟨u, a2, a3⟩, _⟩ := r9 l q2
  obtain ⟨b1, ⟨z, b2, b3⟩, _⟩ := r9 k k1
  refine ⟨l, k, u, z, q2, k1, a2, b2, q3, q1.trans q3, q4, k2, ?_, a1.symm.trans a3, b1.symm.trans b3, a3, b3⟩
  rw [e3, e2, ← k2, d2]
  exact kFind_congr fun k hk => ⟨(r9 k hk).2.2.1.symm, (r9 k hk).2.2.2.1.symm⟩
theorem R_marka (hR : jRP A B p m n t L K nh T) (h : jRXa A B n w mk (jI A 1936) (jI A 2000)) (hw : 0 < w) (x : Int32) : jRXa (kMarka m n t L K w (x, A)).2 (kMk1h p n t nh T w (x, B)).2 n (w - 1) mk (jI A 1936) (jI A 2000) ∧ (kMarka m n t L K w (x, A)).1 = (kMk1h p n t nh T w (x, B)).1 := by
  obtain ⟨l, k, u, z, hl, hk, hu, hz, a1, a2, a3, a4, a5, a6, a7, a8, a9⟩ := jRX_heada hR h hw
  have hn : n ≤ 10 := hR.1.2.2.2.2.1
  have hm : m ≤ 6 := hR.1.2.2.1
  have lc : (iN l).toNatClampNeg = l := iN_cl (by omega)
  have kc : (iN k).toNatClampNeg = k := iN_cl (by omega)
  have uc : (iN u).toNatClampNeg = u := iN_cl (by omega)
  have hhl : ¬ jhas (iN l) (iN n) 10 = 0 := jhas_ne hl hn
  have hhk : ¬ jhas (iN k) (iN n) 10 = 0 := jhas_ne hk hn
  have hp := jRP_f hR
  have hR0 := hR
  obtain ⟨h1, h2, h3, h4, h5, h6, h7, hE, hD, hL, hQ, hP⟩ := h
  have hEl := hE l (by omega)
  have hEk := hE k (by omega)
  have hot : jI A 3600 l = -1 ∧ jI A 3920 l = 0 := by
    rcases hL l hl with a | ⟨j, b1, b2, b3, b4, b5⟩
    · exact ⟨a.1, a.2.1⟩
    · rw [a3] at b5
      exact absurd b5 (by simp [show ¬ (2 : Int32) = 3 by decide, show ¬ (2 : Int32) = 4 by decide, show ¬ (2 : Int32) = 5 by decide])
  -- the class: without the first
  have hA1 : jSma A (kLva A w 0) := jSma_l
  have rA : ∀ a, ¬ a = 3463 → ¬ a = 4240 → jI (kLva A w 0) a = jI A a := fun a g1 g2 => by unfold kLva; rw [mR2 g2, mI2 g1]
  have rAx : ∀ j, jI (kLva A w 0) 3463 j = if j = 16 then iN (w - 1) else jI A 3463 j := fun j => by unfold kLva; rw [mR2 (by decide), mI1]
  have rAq : ∀ j, jI (kLva A w 0) 4240 j = if 0 ≤ j ∧ j < w - 1 then jI A 4240 (j + 1) else jI A 4240 j := fun j => by unfold kLva; rw [mR1]
  have rB : ∀ a, ¬ a = 6732 → ¬ a = 7056 → jI (kLvMh B w 0) a = jI B a := fun a g1 g2 => by unfold kLvMh; rw [mR2 g2, mI2 g1]
  have rBx : ∀ j, jI (kLvMh B w 0) 6732 j = if j = 7 then iN (w - 1) else jI B 6732 j := fun j => by unfold kLvMh; rw [mR2 (by decide), mI1]
  have rBq : ∀ j, jI (kLvMh B w 0) 7056 j = if 0 ≤ j ∧ j < w - 1 then jI B 7056 (j + 1) else jI B 7056 j := fun j => by unfold kLvMh; rw [mR1]
  have eM : kMk1h p n t nh T w (x, B) = (x + (kMkMh (kLvMh B w 0) p n t nh T l k u (iN z)).1, (kMkMh (kLvMh B w 0) p n t nh T l k u (iN z)).2) := by
    unfold kMk1h
    dsimp only
    rw [a2, lc, a5, kc, a6, uc, a7]
  have eC : kMarka m n t L K w (x, A) = (x + (kServea (kLva A w 0) m n t L K l (iN k)).1, (kServea (kLva A w 0) m n t L K l (iN k)).2) := by
    unfold kMarka
    dsimp only
    rw [a1, if_neg hhl, lc, a4]
  rw [eM, eC]
  generalize hgA : kLva A w 0 = A1 at hA1 rA rAx rAq ⊢
  generalize hgB : kLvMh B w 0 = B1 at rB rBx rBq ⊢
  have hB1 : jFmh B B1 := by rw [← hgB]; exact jFmh_l
  have kQ3 : ∀ dw' : Nat → Int32, ¬ dw' l = 2 → (∀ k, k < n → ¬ k = l → (dw' k = 2 ↔ jI A 3536 k = 2)) → kQu (w - 1) n dw' (jI A1 4240) (jI B1 7056) := fun dw' g1 g2 => kQu_3 hQ (by omega) hl hw a1 g1 g2 rAq rBq
  unfold kServea kMkMh
  rw [if_neg hhk, kc, rA 3536 (by decide) (by decide), rB 6800 (by decide) (by decide), hEk.1]
  by_cases g0 : jI A 3536 k = 0
  · rw [if_pos g0, if_pos g0]
    have hkl : ¬ k = l := by rintro rfl; rw [a3] at g0; exact absurd g0 (by decide)
    have hlk : ¬ l = k := fun e => hkl e.symm
    have hotk : jI A 3600 k = -1 ∧ jI A 3920 k = 0 := by
      rcases hL k hk with a | ⟨j, b1, b2, b3, b4, b5⟩
      · exact ⟨a.1, a.2.1⟩
      · rw [g0] at b5
        exact absurd b5 (by simp [show ¬ (0 : Int32) = 3 by decide, show ¬ (0 : Int32) = 4 by decide, show ¬ (0 : Int32) = 5 by decide])
    have hB2 : jFmh B (jsI B1 6800 l 7) := jFmh_t hB1 (jFmh_I (by decide) (by decide))
    have hR2 := jRPa hR0 hA1 hB2
    have hS : kSeea A1 (jsI B1 6800 l 7) n := by
      unfold kSeea
      simp only [mI2, mR2, Nat.reduceEqDiff, not_false_eq_true, rA, rB, rAx, rBx, Nat.reduceEqDiff, if_false]
      refine ⟨h1, fun i hi => ?_, hL⟩
      have e := hE i (by omega)
      refine ⟨?_, e.2.2.2.2.2.1, fun g => (e.2.2.2.2.2.2.1 g).1, fun g => ⟨(e.2.2.2.2.2.2.2 g).1, (e.2.2.2.2.2.2.2 g).2.1⟩⟩
      rw [mI1]
      by_cases g : i = l
      · rw [if_pos g, g, a3]
        decide
      · rw [if_neg g, rB _ (by decide) (by decide), e.1]
        exact ⟨Iff.rfl, Iff.rfl⟩
    have hway := kWay_eqa (z := iN z) (W := jI A1 4296) hR2 hS hu
    have hV0 : ∀ j, j < 15 → (kWay_h (jsI B1 6800 l 7) p n t nh T u (iN z)).1 j = jI B1 6732 j := fun j hj => by rw [kWay_0h hj, mI2 (by decide)]
    have hLk : kLkMa A1 m n t L K l k = jsR (kShMa A1 n L K) 4296 (kLook (jI A1 2064) (jI A1 2128) (jI A1 2256) t (iN u) (iN z) (kFreea A1 n m) (kOpena A1 n t L K) (jI A1 4296)) := by
      unfold kLkMa
      rw [rA 1872 (by decide) (by decide), a8, a9]
    have rL : ∀ a, ¬ a = 2308 → ¬ a = 2520 → ¬ a = 4296 → jI (kLkMa A1 m n t L K l k) a = jI A1 a := fun a g1 g2 g3 => by
      rw [hLk, mR2 g3]
      unfold kShMa
      rw [mR2 g2, mI2 g1]
    have rLy : jI (kLkMa A1 m n t L K l k) 4296 = kLook (jI A1 2064) (jI A1 2128) (jI A1 2256) t (iN u) (iN z) (kFreea A1 n m) (kOpena A1 n t L K) (jI A1 4296) := by rw [hLk, mR1]
    have rW : ∀ a, ¬ a = 6800 → ¬ a = 6732 → ¬ a = 7576 → jI (kWyMh B1 p n t nh T l u (iN z)) a = jI B1 a := fun a g1 g2 g3 => by unfold kWyMh; rw [mR2 g3, mR2 g2, mI2 g1]
    have rWd : ∀ j, jI (kWyMh B1 p n t nh T l u (iN z)) 6800 j = if j = l then 7 else jI B1 6800 j := fun j => by unfold kWyMh; rw [mR2 (by decide), mR2 (by decide), mI1]
    have rWx : ∀ j, j < 15 → jI (kWyMh B1 p n t nh T l u (iN z)) 6732 j = jI B1 6732 j := fun j hj => by unfold kWyMh; rw [mR2 (by decide), mR1, hV0 j hj]
    rw [rLy]
    generalize hLg : kLkMa A1 m n t L K l k = A2 at rL rLy
    generalize hWg : kWyMh B1 p n t nh T l u (iN z) = B2 at rW rWd rWx
    generalize hW : kLook (jI A1 2064) (jI A1 2128) (jI A1 2256) t (iN u) (iN z) (kFreea A1 n m) (kOpena A1 n t L K) (jI A1 4296) = W at hway rLy ⊢
    generalize hVg : (kWay_h (jsI B1 6800 l 7) p n t nh T u (iN z)).1 = V at hway ⊢
    obtain ⟨w1, w2⟩ := hway
    rcases w2 with ⟨w3, w4⟩ | ⟨⟨r, w3, w4⟩, ⟨v, w5, w6⟩, w7, w8, w9⟩
    · rw [if_pos w3, if_pos (w1.symm.trans w3)]
      refine ⟨?_, rfl⟩
      unfold jRXa
      simp only [mI2, mR2, Nat.reduceEqDiff, not_false_eq_true, rL, rW, rA, rB, rWx _ (show 0 < 15 by decide), rWx _ (show 1 < 15 by decide), rWx _ (show 7 < 15 by decide), rAx, rBx, Nat.reduceEqDiff, if_false, if_true]
      refine ⟨h1, h2, h3, h4, h5, trivial, trivial, ?_, ?_, ?_, ?_, hP⟩
      · intro i hi
        have e := hE i hi
        unfold kEq at e ⊢
        rw [mI1, rWd]
        refine ⟨?_, e.2⟩
        by_cases g : i = l
        · rw [if_pos g, if_pos g]
        · rw [if_neg g, if_neg g, rB _ (by decide) (by decide), rL _ (by decide) (by decide) (by decide), rA _ (by decide) (by decide)]
          exact e.1
      · intro i hi
        have e := hD i hi
        unfold kDg at e ⊢
        rw [mI1]
        by_cases g : i = l
        · rw [if_pos g]
          exact ⟨fun h => absurd h (by decide), e.2.1, fun h => absurd h (by decide), fun h => absurd h (by decide)⟩
        · rw [if_neg g, rL _ (by decide) (by decide) (by decide), rA _ (by decide) (by decide)]
          exact e
      · refine kLk_1 hL (by omega) hl hot.1 ?_ ?_ ?_ ?_
        · rw [mI1, if_pos rfl]; decide
        · rw [mI1, if_pos rfl]; decide
        · rw [mI1, if_pos rfl]; decide
        · intro i _ g
          rw [mI1, if_neg g, rL _ (by decide) (by decide) (by decide), rA _ (by decide) (by decide)]
      · refine kQ3 _ (by rw [mI1, if_pos rfl]; decide) fun i _ g => ?_
        rw [mI1, if_neg g, rL _ (by decide) (by decide) (by decide), rA _ (by decide) (by decide)]
    · have hn1 : ¬ W 4 = -1 := by rw [w4]; exact iN_n1 (by omega)
      rw [if_neg hn1, if_neg (show ¬ V 15 = -1 by rw [← w1]; exact hn1)]
      refine ⟨?_, rfl⟩
      have hW5 : ¬ W 5 = 0 := by
        intro e
        rw [e, jbt_zero] at w6
        exact Bool.noConfusion w6
      unfold jRXa kConna
      simp only [mI2, mR2, Nat.reduceEqDiff, not_false_eq_true, rL, rW, rA, rB, rWx _ (show 0 < 15 by decide), rWx _ (show 1 < 15 by decide), rWx _ (show 7 < 15 by decide), rAx, rBx, Nat.reduceEqDiff, if_false, if_true]
      refine ⟨h1, h2, h3, h4, h5, trivial, trivial, ?_, ?_, ?_, ?_, hP⟩
      · intro i hi
        have e := hE i hi
        unfold kEq at e ⊢
        simp only [mI1, mI2, mR2, Nat.reduceEqDiff, not_false_eq_true, rLy, rL, rA, rB, rW, rWd]
        by_cases g : i = l
        · subst g
          simp only [if_true, if_neg hlk, if_neg hW5]
          exact ⟨trivial, e.2.1, e.2.2.1, e.2.2.2.1, trivial, trivial, fun h => absurd h hW5, fun _ => ⟨w7.symm, w8.symm, w1.symm, ((e.2.2.2.2.2.2.1 hot.2).2.2.1).symm, ((e.2.2.2.2.2.2.1 hot.2).2.2.2).symm⟩⟩
        · by_cases g2 : i = k
          · subst g2
            simp only [if_true, if_neg hkl]
            exact ⟨trivial, e.2.1, e.2.2.1, e.2.2.2.1, trivial, e.2.2.2.2.2⟩
          · simp only [if_neg g, if_neg g2]
            exact e
      · intro i hi
        have e := hD i hi
        unfold kDg at e ⊢
        simp only [mI1, mI2, mR2, Nat.reduceEqDiff, not_false_eq_true, rL, rA]
        by_cases g2 : i = k
        · subst g2
          simp only [if_true]
          exact ⟨fun _ => e.1 (Or.inl g0), e.2.1, fun h => absurd h (by decide), fun h => absurd h (by decide)⟩
        · by_cases g : i = l
          · subst g
            simp only [if_true, if_neg g2]
            exact ⟨fun h => absurd h (by decide), e.2.1, fun h => absurd h (by decide), fun h => absurd h (by decide)⟩
          · simp only [if_neg g, if_neg g2]
            exact e
      · refine kLk_4 hL (by omega) hl hk hlk hot.1 hotk.1 ?_ ?_ ?_ ?_ ?_ ?_ ?_
        · simp only [mI1, mI2, mR2, Nat.reduceEqDiff, not_false_eq_true, if_neg hlk, if_true]
        · simp only [mI1, mI2, mR2, Nat.reduceEqDiff, not_false_eq_true, if_true]
        · simp only [mI1, mI2, mR2, Nat.reduceEqDiff, not_false_eq_true, if_neg hlk, if_true]
        · simp only [mI1, mI2, mR2, Nat.reduceEqDiff, not_false_eq_true, if_true]
        · simp only [mI1, mI2, mR2, Nat.reduceEqDiff, not_false_eq_true, if_true, rLy]; exact hW5
        · simp only [mI1, mI2, mR2, Nat.reduceEqDiff, not_false_eq_true, if_neg hkl, rL, rA]; exact hotk.2
        · intro i _ g g2
          simp only [mI1, mI2, mR2, Nat.reduceEqDiff, not_false_eq_true, if_neg g, if_neg g2, rL, rA]
          exact ⟨trivial, trivial, trivial⟩
      · refine kQ3 _ ?_ fun i _ g => ?_
        · simp only [mI1, mI2, mR2, Nat.reduceEqDiff, not_false_eq_true, if_neg hlk, if_true]; decide
        · simp only [mI1, mI2, mR2, Nat.reduceEqDiff, not_false_eq_true, if_neg g, rL, rA]
          by_cases g2 : i = k
          · rw [if_pos g2, g2, g0]; decide
          · rw [if_neg g2]
  · rw [if_neg g0, if_neg g0]
    refine ⟨?_, rfl⟩
    unfold jRXa
    simp only [mI2, mR2, Nat.reduceEqDiff, not_false_eq_true, rA, rB, rAx, rBx, Nat.reduceEqDiff, if_false, if_true]
    refine ⟨h1, h2, h3, h4, h5, trivial, trivial, ?_, ?_, ?_, ?_, hP⟩
    · intro i hi
      have e := hE i hi
      unfold kEq at e ⊢
      rw [mI1, mI1]
      refine ⟨?_, e.2⟩
      by_cases g : i = l
      · rw [if_pos g, if_pos g]
      · rw [if_neg g, if_neg g, rB _ (by decide) (by decide), rA _ (by decide) (by decide)]
        exact e.1
    · intro i hi
      have e := hD i hi
      unfold kDg at e ⊢
      rw [mI1]
      by_cases g : i = l
      · rw [if_pos g]
        exact ⟨fun h => absurd h (by decide), e.2.1, fun h => absurd h (by decide), fun h => absurd h (by decide)⟩
      · rw [if_neg g, rA _ (by decide) (by decide)]
        exact e
    · refine kLk_1 hL (by omega) hl hot.1 ?_ ?_ ?_ ?_
      · rw [mI1, if_pos rfl]; decide
      · rw [mI1, if_pos rfl]; decide
      · rw [mI1, if_pos rfl]; decide
      · intro i _ g
        rw [mI1, if_neg g, rA _ (by decide) (by decide)]
    · refine kQ3 _ (by rw [mI1, if_pos rfl]; decide) fun i _ g => ?_
      rw [mI1, if_neg g, rA _ (by decide) (by decide)]
/-- ringing and talking (reference) -/
def kRg1h (B : jM) (k : Nat) : jM := if jI B 7184 k = 0 then B else if jI B 6800 k = 5 then jsI (jsI B 7504 k (jI B 7504 k + 1)) 6992 k (jI B 6992 k + (jI B 7376 k + 1)) else if jI B 7440 k + 1 < 12 then jsI B 7440 k (jI B 7440 k + 1) else
  jsI (jsI (jsI (jsI (jsI (jsI B 7440 k (jI B 7440 k + 1)) 6800 (jI B 7120 k).toNatClampNeg 0) 6800 k 7) 7120 (jI B 7120 k).toNatClampNeg (-1)) 7120 k (-1)) 7184 k 0
theorem jFmh_g {k : Nat} : jFmh B (kRg1h B k) := by
  unfold kRg1h
  split
  · exact jFmh_r
  · split
    · exact jFmh_t (jFmh_I (by decide) (by decide)) (jFmh_I (by decide) (by decide))
    · split
      · exact jFmh_I (by decide) (by decide)
      · exact jFmh_t (jFmh_t (jFmh_t (jFmh_t (jFmh_t (jFmh_I (by decide) (by decide)) (jFmh_I (by decide) (by decide))) (jFmh_I (by decide) (by decide))) (jFmh_I (by decide) (by decide))) (jFmh_I (by decide) (by decide))) (jFmh_I (by decide) (by decide))
theorem R_ringa (hn : n ≤ 10) (h : jRXa A B n w mk pn pd) {k : Nat} (hk : k < n) : jRXa (if jI A 3920 k = 0 then A else kRinga A n k) (kRg1h B k) n w mk pn pd := by
  have h0 := h
  obtain ⟨h1, h2, h3, h4, h5, h6, h7, hE, hD, hL, hQ, hP⟩ := h
  have hEk := hE k (by omega)
  have hEk' := hEk
  unfold kEq at hEk'
  obtain ⟨e1, e2, e3, e4, e5, e6, e7, e8⟩ := hEk'
  unfold kRg1h
  by_cases g : jI A 3920 k = 0
  · rw [if_pos g, if_pos (by rw [e6, if_pos g])]
    exact h0
  · obtain ⟨f1, f2, f3, f4, f5⟩ := e8 g
    rw [if_neg g, if_neg (by rw [e6, if_neg g]; decide), e1]
    have hlk : ∃ j, j < n ∧ ¬ j = k ∧ jI A 3600 k = iN j ∧ jI A 3600 j = iN k ∧ jI A 3920 j = 0 ∧ (jI A 3536 k = 3 ∧ jI A 3536 j = 4 ∨ jI A 3536 k = 5 ∧ jI A 3536 j = 5) := by
      rcases hL k hk with a | ⟨j, b1, b2, b3, b4, b5⟩
      · exact absurd a.2.1 g
      · rcases b5 with ⟨c1, c2, c3⟩ | ⟨c1, _⟩
        · exact ⟨j, b1, b2, b3, b4, c2, c3⟩
        · exact absurd c1 g
    obtain ⟨j, j1, j2, j3, j4, j5, j6⟩ := hlk
    have j2' : ¬ k = j := fun e => j2 e.symm
    have jc : (iN j).toNatClampNeg = j := iN_cl (by omega)
    have hhj : ¬ jhas (iN j) (iN n) 10 = 0 := jhas_ne j1 hn
    unfold kRinga
    by_cases g5 : jI A 3536 k = 5
    · rw [if_pos g5, if_pos g5]
      unfold jRXa
      simp only [mI2, mR2, Nat.reduceEqDiff, not_false_eq_true]
      refine ⟨h1, h2, h3, h4, h5, h6, h7, ?_, hD, hL, hQ, ?_⟩
      · intro i hi
        have e := hE i hi
        unfold kEq at e ⊢
        simp only [mI1]
        by_cases q : i = k
        · subst q
          simp only [if_true]
          exact ⟨e.1, e.2.1, e.2.2.1, by rw [e4, f3], e.2.2.2.2.1, e.2.2.2.2.2.1, fun h => absurd h g, fun _ => ⟨f1, f2, f3, f4, by rw [f5]⟩⟩
        · simp only [if_neg q]
          exact e
      · intro i hi1 hi2
        simp only [mI1, mI2, if_neg (show ¬ i = k by omega), Nat.reduceEqDiff, not_false_eq_true]
        exact hP i hi1 hi2
    · rw [if_neg g5, if_neg g5, f4]
      by_cases g12 : jI A 4112 k + 1 < 12
      · rw [if_pos g12, if_pos g12]
        unfold jRXa
        simp only [mI2, mR2, Nat.reduceEqDiff, not_false_eq_true]
        refine ⟨h1, h2, h3, h4, h5, h6, h7, ?_, hD, hL, hQ, hP⟩
        intro i hi
        have e := hE i hi
        unfold kEq at e ⊢
        simp only [mI1]
        by_cases q : i = k
        · subst q
          simp only [if_true]
          exact ⟨e.1, e.2.1, e.2.2.1, e.2.2.2.1, e.2.2.2.2.1, e.2.2.2.2.2.1, fun h => absurd h g, fun _ => ⟨f1, f2, f3, trivial, f5⟩⟩
        · simp only [if_neg q]
          exact e
      · rw [if_neg g12, if_neg g12, e5, j3, if_neg hhj, jc]
        have j34 : jI A 3536 k = 3 ∧ jI A 3536 j = 4 := j6.elim id fun h => absurd h.1 g5
        unfold jRXa kDisca kFwa
        simp only [mI2, mR2, Nat.reduceEqDiff, not_false_eq_true]
        refine ⟨h1, h2, h3, h4, h5, h6, h7, ?_, ?_, ?_, ?_, hP⟩
        · intro i hi
          have e := hE i hi
          unfold kEq at e ⊢
          simp only [mI1, mI2, mR2, Nat.reduceEqDiff, not_false_eq_true]
          by_cases q : i = k
          · subst q
            simp only [if_true, if_neg j2']
            exact ⟨trivial, e.2.1, e.2.2.1, e.2.2.2.1, trivial, trivial, fun _ => ⟨trivial, trivial, trivial, trivial⟩, fun h => absurd trivial h⟩
          · by_cases q2 : i = j
            · subst q2
              simp only [if_true, if_neg j2]
              have e6j := e.2.2.2.2.2.1
              rw [if_pos j5] at e6j
              exact ⟨trivial, e.2.1, e.2.2.1, e.2.2.2.1, trivial, e6j, fun _ => ⟨trivial, trivial, trivial, trivial⟩, fun h => absurd trivial h⟩
            · simp only [if_neg q, if_neg q2]
              exact e
        · intro i hi
          have e := hD i hi
          unfold kDg at e ⊢
          simp only [mI1, mI2, mR2, Nat.reduceEqDiff, not_false_eq_true]
          by_cases q2 : i = j
          · subst q2
            simp only [if_true]
            exact ⟨fun _ => e.1 (Or.inr j34.2), e.2.1, fun h => absurd h (by decide), fun h => absurd h (by decide)⟩
          · by_cases q : i = k
            · subst q
              simp only [if_true, if_neg q2]
              exact ⟨fun h => absurd h (by decide), e.2.1, fun h => absurd h (by decide), fun h => absurd h (by decide)⟩
            · simp only [if_neg q, if_neg q2]
              exact e
        · refine kLk_3 hL (by omega) hk j1 j3 j4 ?_ ?_ ?_ ?_ ?_ ?_ ?_
          · simp only [mI1, mI2, mR2, Nat.reduceEqDiff, not_false_eq_true, if_neg j2', if_true]; decide
          · simp only [mI1, mI2, mR2, Nat.reduceEqDiff, not_false_eq_true, if_true]; decide
          · simp only [mI1, mI2, mR2, Nat.reduceEqDiff, not_false_eq_true, if_neg j2', if_true]
          · simp only [mI1, mI2, mR2, Nat.reduceEqDiff, not_false_eq_true, if_true]
          · simp only [mI1, mI2, mR2, Nat.reduceEqDiff, not_false_eq_true, if_neg j2', if_true]
          · simp only [mI1, mI2, mR2, Nat.reduceEqDiff, not_false_eq_true, if_true]
          · intro i _ q q2
            simp only [mI1, mI2, mR2, Nat.reduceEqDiff, not_false_eq_true, if_neg q, if_neg q2]
            exact ⟨trivial, trivial, trivial⟩
        · refine kQu_1 hQ fun i hi => ?_
          simp only [mI1, mI2, mR2, Nat.reduceEqDiff, not_false_eq_true]
          by_cases q2 : i = j
          · rw [if_pos q2, q2, j34.2]; decide
          · rw [if_neg q2]
            by_cases q : i = k
            · rw [if_pos q, q, j34.1]; decide
            · rw [if_neg q]
end TICK
