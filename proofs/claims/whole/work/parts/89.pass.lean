/-! THE PURE PART: a tick (reference). -/
section TICK2
variable {d : Nat} {Q : jO → jM → Prop} {A B A' B' : jM} {p m n t L nh w mk : Nat} {K : Nat → Nat} {T : Nat → List (Nat × Int32)} {pn pd : Nat → Int32}
theorem i_min {a b : Nat} (ha : a < 2 ^ 31) (hb : b < 2 ^ 31) : (if iN a < iN b then iN a else iN b) = iN (min a b) := by
  by_cases h : a < b
  · rw [if_pos ((iN_lt ha hb).mpr h), Nat.min_eq_left (by omega)]
  · rw [if_neg fun h2 => h ((iN_lt ha hb).mp h2), Nat.min_eq_right (by omega)]
theorem i_min2 {a b : Nat} (ha : a < 2 ^ 31) (hb : b < 2 ^ 31) : (if iN b < iN a then iN b else iN a) = iN (min a b) := by
  rw [i_min hb ha, Nat.min_comm]
theorem kMkM_01s {l k u : Nat} {z : Int32} : (kMkMs B p n t nh T l k u z).1 = 0 ∨ (kMkMs B p n t nh T l k u z).1 = 1 := by
  unfold kMkMs
  split
  · split
    · exact Or.inl rfl
    · exact Or.inr rfl
  · exact Or.inl rfl
def kMkss (p n t nh : Nat) (T : Nat → List (Nat × Int32)) (w c : Nat) (a : Int32 × jM) : Int32 × jM := jfold (fun k a => kMk1s p n t nh T (w - k) a) 0 c a
def kRgss (B : jM) (n : Nat) : jM := jfold (fun k B => kRg1s B k) 0 n B
/-- a tick (reference) -/
def kGoTs (p n t nh : Nat) (T : Nat → List (Nat × Int32)) (w mk : Nat) (B : jM) : Int32 × jM :=
  ((kMkss p n t nh T w (min mk w) (0, B)).1, jsI (kRgss (kMkss p n t nh T w (min mk w) (0, B)).2 n) 5836 0 (jI (kRgss (kMkss p n t nh T w (min mk w) (0, B)).2 n) 5836 0 + 1))
theorem jFms_ms {w c : Nat} {a : Int32 × jM} : jFms a.2 (kMkss p n t nh T w c a).2 :=
  jfold_keep (I := fun b => jFms a.2 b.2) (fun k b hb => jFms_t hb jFms_1) c 0 a jFms_r
theorem jFms_rs : jFms B (kRgss B n) :=
  jfold_keep (I := fun b => jFms B b) (fun k b hb => jFms_t hb jFms_g) n 0 B jFms_r
theorem jFms_go : jFms B (kGoTs p n t nh T w mk B).2 := jFms_t (jFms_t (jFms_ms (a := (0, B))) jFms_rs) (jFms_I (by decide) (by decide))
/-- a tick is alike -/
theorem R_marksn (hR : jRP A B p m n t L K nh T) (h : jRXn A B n w mk (jI A 1936) (jI A 2000)) : ∀ c, c ≤ w → ((jSmn A (jfold (fun k a => kMarkn m n t L K (w - k) a) 0 c (0, A)).2 ∧ jFms B (kMkss p n t nh T w c (0, B)).2) ∧ jRP (jfold (fun k a => kMarkn m n t L K (w - k) a) 0 c (0, A)).2 (kMkss p n t nh T w c (0, B)).2 p m n t L K nh T) ∧ jRXn (jfold (fun k a => kMarkn m n t L K (w - k) a) 0 c (0, A)).2 (kMkss p n t nh T w c (0, B)).2 n (w - c) mk (jI A 1936) (jI A 2000) ∧ (jfold (fun k a => kMarkn m n t L K (w - k) a) 0 c (0, A)).1 = (kMkss p n t nh T w c (0, B)).1 := by
  intro c
  induction c with
  | zero => intro _; exact ⟨⟨⟨jSmn_r, jFms_r⟩, hR⟩, h, rfl⟩
  | succ c ih =>
    intro hc
    obtain ⟨⟨⟨f1, f2⟩, r1⟩, r2, r3⟩ := ih (by omega)
    unfold kMkss at f2 r1 r2 r3 ⊢
    rw [jfold_snoc, jfold_snoc, Nat.zero_add]
    rcases hx : jfold (fun k a => kMarkn m n t L K (w - k) a) 0 c (0, A) with ⟨x1, A1⟩
    rcases hy : jfold (fun k a => kMk1s p n t nh T (w - k) a) 0 c (0, B) with ⟨y1, B1⟩
    rw [hx] at f1 r1 r2 r3
    rw [hy] at f2 r1 r2 r3
    dsimp only at f1 f2 r1 r2 r3
    subst r3
    have e1 : jI A1 1936 = jI A 1936 := f1.2.2.2.2.1 1936 (by decide) (by decide) (by omega)
    have e2 : jI A1 2000 = jI A 2000 := f1.2.2.2.2.1 2000 (by decide) (by decide) (by omega)
    have g := R_markn r1 (by rw [e1, e2]; exact r2) (by omega) x1
    rw [e1, e2, show w - c - 1 = w - (c + 1) by omega] at g
    have f3 : jSmn A1 (kMarkn m n t L K (w - c) (x1, A1)).2 := jSmn_m (a := (x1, A1))
    have f4 : jFms B1 (kMk1s p n t nh T (w - c) (x1, B1)).2 := jFms_1 (a := (x1, B1))
    exact ⟨⟨⟨jSmn_t f1 f3, jFms_t f2 f4⟩, jRPn r1 f3 f4⟩, g⟩
theorem R_ringsn (hn : n ≤ 10) (h : jRXn A B n w mk pn pd) : jRXn (kRingsn A n) (kRgss B n) n w mk pn pd := by
  unfold kRingsn kRgss
  refine jfold_rel (R := fun A B => jRXn A B n w mk pn pd) (n := n) ?_ n 0 A B (by omega) h
  intro k a b hk r
  exact R_ringn hn r hk
theorem jSmn_rs : jSmn A (kRingsn A n) :=
  jfold_keep (I := fun b => jSmn A b) (fun k b hb => by
    split
    · exact hb
    · exact jSmn_t hb jSmn_g) n 0 A jSmn_r
theorem jSmn_go : jSmn A (kGon A m n t L K w mk) :=
  jSmn_t (jSmn_t (jfold_keep (I := fun (b : Int32 × jM) => jSmn A b.2) (fun k b hb => jSmn_t hb jSmn_m) (min mk w) 0 (0, A) jSmn_r) jSmn_rs) (jSmn_I (by decide) (by decide))
theorem R_gon (hR : jRP A B p m n t L K nh T) (h : jRXn A B n w mk (jI A 1936) (jI A 2000)) : jRP (kGon A m n t L K w mk) (kGoTs p n t nh T w mk B).2 p m n t L K nh T ∧ jRXn (kGon A m n t L K w mk) (kGoTs p n t nh T w mk B).2 n (w - min mk w) mk (jI A 1936) (jI A 2000) ∧ (kMarksn A m n t L K w mk).1 = (kGoTs p n t nh T w mk B).1 := by
  have hn : n ≤ 10 := hR.1.2.2.2.2.1
  obtain ⟨⟨f, r1⟩, r2, r3⟩ := R_marksn hR h (min mk w) (Nat.min_le_right _ _)
  refine ⟨jRPn hR jSmn_go jFms_go, ?_, r3⟩
  have r4 := R_ringsn hn r2
  unfold kGon kGoTs
  unfold jRXn at r4 ⊢
  obtain ⟨h1, h2, h3, h4, h5, h6, h7, hE, hD, hL, hQ, hP⟩ := r4
  unfold kMarksn
  simp only [mI1, mI2, mR2, Nat.reduceEqDiff, not_false_eq_true, Nat.reduceEqDiff, if_true, if_false]
  exact ⟨by rw [h1], h2, h3, h4, h5, h6, h7, hE, hD, hL, hQ, hP⟩
theorem d_passs (hR : jRP A B p m n t L K nh T) (h : jRXn A B n w mk (jI A 1936) (jI A 2000)) : Ex (d + 15) 262 0 [some (.ref 5836), none, none, none] [] B Q ↔ Q (.inl (some (.int (kGoTs p n t nh T w mk B).1))) (kGoTs p n t nh T w mk B).2 := by
  have hn10 : n ≤ 10 := hR.1.2.2.2.2.1
  have ht10 : t ≤ 10 := hR.1.2.2.2.2.2.2.1
  have hmk4 : mk ≤ 4 := h.2.2.2.2.1
  have hw10 : w ≤ n := kQu_n h.2.2.2.2.2.2.2.2.2.2.1 (by omega)
  have hp := jRP_f hR
  have jp := JP p
  have jpm := JPm p
  have hne := jPne hp
  have step1 : ∀ c b, c < min mk w → ∃ b', (Ex (d + 15) 262 14 [some (.ref 5836), some (.int (kMkss p n t nh T w c (0, B)).1), some (.int (iN (min mk w - c))), b] [] (kMkss p n t nh T w c (0, B)).2 Q ↔ Ex (d + 15) 262 14 [some (.ref 5836), some (.int (kMkss p n t nh T w (c + 1) (0, B)).1), some (.int (iN (min mk w - (c + 1)))), b'] [] (kMkss p n t nh T w (c + 1) (0, B)).2 Q) := by
    intro c b hc
    obtain ⟨⟨⟨f1, f2⟩, r1⟩, r2, r3⟩ := R_marksn hR h c (by omega)
    have es : kMkss p n t nh T w (c + 1) (0, B) = kMk1s p n t nh T (w - c) (kMkss p n t nh T w c (0, B)) := by
      unfold kMkss
      rw [jfold_snoc, Nat.zero_add]
    rw [es]
    generalize kMkss p n t nh T w c (0, B) = y at f2 r1 r2 r3 ⊢
    generalize jfold (fun k a => kMarkn m n t L K (w - k) a) 0 c (0, A) = x at f1 r1 r2 r3
    obtain ⟨x1, A1⟩ := x
    obtain ⟨y1, B1⟩ := y
    dsimp only at f1 f2 r1 r2 r3 ⊢
    have e1 : jI A1 1936 = jI A 1936 := f1.2.2.2.2.1 1936 (by decide) (by decide) (by omega)
    have e2 : jI A1 2000 = jI A 2000 := f1.2.2.2.2.1 2000 (by decide) (by decide) (by omega)
    rw [← e1, ← e2] at r2
    obtain ⟨l, k, u, z, hl, hk, hu, hz, a1, a2, a3, a4, a5, a6, a7, a8, a9⟩ := jRX_headn r1 r2 (by omega)
    have hw7 : jI B1 5836 7 = iN (w - c) := r2.2.2.2.2.2.2.1
    have hm6 : m ≤ 6 := hR.1.2.2.1
    have lc : (iN l).toNatClampNeg = l := iN_cl (by omega)
    have kc : (iN k).toNatClampNeg = k := iN_cl (by omega)
    have uc : (iN u).toNatClampNeg = u := iN_cl (by omega)
    have eM : kMk1s p n t nh T (w - c) (y1, B1) = (y1 + (kMkMs (kLvMs B1 (w - c) 0) p n t nh T l k u (iN z)).1, (kMkMs (kLvMs B1 (w - c) 0) p n t nh T l k u (iN z)).2) := by
      unfold kMk1s
      dsimp only
      rw [a2, lc, a5, kc, a6, uc, a7]
    rw [eM]
    have r1v := jRPn (A' := A1) r1 jSmn_r (jFms_l (w := w - c) (q := 0))
    have hlv : ∀ (d : Nat) (Q : jO → jM → Prop), Ex d 175 0 [some (.ref 5836), some (.int 0), none] [] B1 Q ↔ Q (.inl none) (kLvMs B1 (w - c) 0) := fun d Q => d_leaves (q := 0) r1.2.1.1 hw7 (by omega) (by omega)
    have rB : ∀ a, ¬ a = 5836 → ¬ a = 6160 → jI (kLvMs B1 (w - c) 0) a = jI B1 a := fun a g1 g2 => by unfold kLvMs; rw [mR2 g2, mI2 g1]
    have hP : ∀ c', c' < 900 → jI (kLvMs B1 (w - c) 0) (64 * p + c') = jI B1 (64 * p + c') := fun c' h => rB _ (hne c' 5836 h (by decide) (by decide)) (hne c' 6160 h (by decide) (by decide))
    have hQv : jQ (kLvMs B1 (w - c) 0) = jQ B1 := rfl
    obtain ⟨q1, q2, q3, q4, q5, q6, q7, q8, q9, q10, q11, q12, q13, q14, q15⟩ := r1v
    have hmk : ∀ (d : Nat) (Q : jO → jM → Prop), Ex (d + 14) 263 0 [some (.ref 5836), some (.int (iN l)), none] [] (kLvMs B1 (w - c) 0) Q ↔ Q (.inl (some (.int (kMkMs (kLvMs B1 (w - c) 0) p n t nh T l k u (iN z)).1))) (kMkMs (kLvMs B1 (w - c) 0) p n t nh T l k u (iN z)).2 := fun d Q => d_marks q2 q4 hn10 q5 ht10 q6 (fun k hk => by obtain ⟨g1, g2, ⟨v, g3, g4⟩, _⟩ := q11 k hk; exact ⟨v, by omega, g1.symm.trans g4⟩) (fun k hk => by obtain ⟨g1, g2, _, ⟨v, g3, g4⟩, _⟩ := q11 k hk; exact ⟨v, by omega, g2.symm.trans g4⟩) (by omega) hk (by rw [rB 6032 (by decide) (by decide), rB 5968 (by decide) (by decide), hP 272 (by decide), hP 208 (by decide)]; exact a5) (by omega) (by rw [hP 144 (by decide)]; exact a6) (by rw [hP 144 (by decide)]; exact a7)
    have hw := q2.1
    unfold jWd at hw
    rw [hQv] at hw
    have hpos : 0 < iN (min mk w - c) := (iN_lt (a := 0) (by omega) (by omega)).mpr (by omega)
    have hnp : ¬ iN (min mk w - c) < 0 := iN_nn (by omega)
    have hn0 : ¬ iN (min mk w - c) = 0 := fun e => absurd ((iN_eq (b := 0) (by omega) (by omega)).mp e) (by omega)
    have hdec : iN (min mk w - c) + -1 = iN (min mk w - (c + 1)) := by rw [iN_m1 (by omega)]; congr 1
    have hdec2 : iN (min mk w - c) - 1 = iN (min mk w - (c + 1)) := by rw [iN_pred (by omega)]; congr 1
    have hj0 : jin 0 10 = true := by decide
    refine ⟨some (.int (iN l)), ?_⟩
    rw [x262_14]
    have h01 := kMkM_01s (B := kLvMs B1 (w - c) 0) (p := p) (n := n) (t := t) (nh := nh) (T := T) (l := l) (k := k) (u := u) (z := iN z)
    rcases h01 with g | g
    all_goals rw [g] at hmk ⊢
    all_goals simp only [x262_0, x262_1a, x262_1b, x262_1c, x262_2, x262_3, x262_6, x262_7, x262_10, x262_13a, x262_13b, x262_13c, x262_15, x262_18, x262_19, x262_22, x262_23, x262_24a, x262_24b, x262_24c, x262_25, x262_26, x262_27, x262_30, x262_31, x262_32, x262_33, x262_36, x262_39, x262_40, x262_43, x262_44, x262_45a, x262_45b, x262_45c, x262_46a, x262_46b, x262_46c, x262_49, x262_52, x262_53a, x262_53b, x262_53c, x262_55, x262_56, x262_59, x262_62, x262_65, x262_68, x262_69, x262_72, x262_73, x262_74, x262_77, x262_80, x262_81, x262_84, x262_85, x262_86, x262_87, x262_90, x262_91, x262_94, x262_95a, x262_95b, x262_96, x262_97, x262_98, x262_99, x262_100, x262_101, x262_104, x262_105a, x262_105b, x262_106, x262_107, x262_108, x262_111, x262_112, x262_113, x262_114, x262_115, x262_116, x262_117, x262_120, x262_121, x262_124, x262_125a, x262_125b, x262_126, x262_127, x262_128, x262_129, x262_130, x262_131, x262_134, x262_135, x262_136, x262_138, x262_141, x262_144, x262_145, x262_148, x262_149, x262_152, x262_153, x262_154, x262_155, x262_156, x262_157, x262_160, x262_161, x262_163, x262_164, x262_165, x262_166, x262_169a, x262_169b, x262_169c, x262_172, x262_175, x262_176a, x262_176b, x262_177, x262_180, x262_181, x262_182, x262_185, x262_186, x176_0, x176_1, x176_4, x176_5, x176_8, x176_9, x176_10, x176_11, x176_12, x176_13, x176_16, x176_17, x176_18, x176_19, x176_20, x176_23, x176_24, x176_25, x176_26, mzi, mInc, mne, mlt9, mrk, mI1, mI2, mI3, mI4, mL1, mL2, mL3, mL4, mQ1, mQ2, mQ3, mQ4, mT1, mcat0, mcat1, mcat2, mcat3, mcat4, mrf1, jK_v, jK_n, JA, mz1, if_true, if_false, ite_true, ite_false, eq_self, not_false_eq_true, Nat.zero_le, true_and, and_true, and_self, Nat.reduceMod, Nat.reduceAdd, Nat.reduceLeDiff, Nat.reduceEqDiff, Nat.reduceLT, hw, hpos, hnp, hn0, hdec, hdec2, a2, hlv, hmk, hj0, g]
  have hclimb : ∀ c, c ≤ min mk w → ∃ b', (Ex (d + 15) 262 14 [some (.ref 5836), some (.int 0), some (.int (iN (min mk w))), none] [] B Q ↔ Ex (d + 15) 262 14 [some (.ref 5836), some (.int (kMkss p n t nh T w c (0, B)).1), some (.int (iN (min mk w - c))), b'] [] (kMkss p n t nh T w c (0, B)).2 Q) := by
    intro c
    induction c with
    | zero => intro _; exact ⟨none, Iff.rfl⟩
    | succ c ih =>
      intro hc
      obtain ⟨b1, h1⟩ := ih (by omega)
      obtain ⟨b2, h2⟩ := step1 c b1 (by omega)
      exact ⟨b2, h1.trans h2⟩
  obtain ⟨b1, e1⟩ := hclimb (min mk w) (Nat.le_refl _)
  have hw := hR.2.1.1
  unfold jWd at hw
  have hmin := i_min (a := mk) (b := w) (by omega) (by omega)
  have hmin2 := i_min2 (a := mk) (b := w) (by omega) (by omega)
  have hx1 : jI B 5836 1 = iN mk := h.2.2.1
  have hx7 : jI B 5836 7 = iN w := h.2.2.2.2.2.2.1
  have h0 : Ex (d + 15) 262 0 [some (.ref 5836), none, none, none] [] B Q ↔ Ex (d + 15) 262 14 [some (.ref 5836), some (.int 0), some (.int (iN (min mk w))), none] [] B Q := by
    simp only [x262_0, x262_1a, x262_1b, x262_1c, x262_2, x262_3, x262_6, x262_7, x262_10, x262_13a, x262_13b, x262_13c, x262_15, x262_18, x262_19, x262_22, x262_23, x262_24a, x262_24b, x262_24c, x262_25, x262_26, x262_27, x262_30, x262_31, x262_32, x262_33, x262_36, x262_39, x262_40, x262_43, x262_44, x262_45a, x262_45b, x262_45c, x262_46a, x262_46b, x262_46c, x262_49, x262_52, x262_53a, x262_53b, x262_53c, x262_55, x262_56, x262_59, x262_62, x262_65, x262_68, x262_69, x262_72, x262_73, x262_74, x262_77, x262_80, x262_81, x262_84, x262_85, x262_86, x262_87, x262_90, x262_91, x262_94, x262_95a, x262_95b, x262_96, x262_97, x262_98, x262_99, x262_100, x262_101, x262_104, x262_105a, x262_105b, x262_106, x262_107, x262_108, x262_111, x262_112, x262_113, x262_114, x262_115, x262_116, x262_117, x262_120, x262_121, x262_124, x262_125a, x262_125b, x262_126, x262_127, x262_128, x262_129, x262_130, x262_131, x262_134, x262_135, x262_136, x262_138, x262_141, x262_144, x262_145, x262_148, x262_149, x262_152, x262_153, x262_154, x262_155, x262_156, x262_157, x262_160, x262_161, x262_163, x262_164, x262_165, x262_166, x262_169a, x262_169b, x262_169c, x262_172, x262_175, x262_176a, x262_176b, x262_177, x262_180, x262_181, x262_182, x262_185, x262_186, x176_0, x176_1, x176_4, x176_5, x176_8, x176_9, x176_10, x176_11, x176_12, x176_13, x176_16, x176_17, x176_18, x176_19, x176_20, x176_23, x176_24, x176_25, x176_26, mzi, mInc, mne, mlt9, mrk, mI1, mI2, mI3, mI4, mL1, mL2, mL3, mL4, mQ1, mQ2, mQ3, mQ4, mT1, mcat0, mcat1, mcat2, mcat3, mcat4, mrf1, jK_v, jK_n, JA, mz1, if_true, if_false, ite_true, ite_false, eq_self, not_false_eq_true, Nat.zero_le, true_and, and_true, and_self, Nat.reduceMod, Nat.reduceAdd, Nat.reduceLeDiff, Nat.reduceEqDiff, Nat.reduceLT, hw, hx1, hx7, hmin, hmin2]
  rw [h0, e1, Nat.sub_self]
  have hz0 : ¬ (0 : Int32) < iN 0 := by decide
  have hz1 : (0 : Int32) = iN 0 := rfl
  obtain ⟨⟨⟨f1, f2⟩, r1⟩, r2, r3⟩ := R_marksn hR h (min mk w) (Nat.min_le_right _ _)
  have h2 : Ex (d + 15) 262 14 [some (.ref 5836), some (.int (kMkss p n t nh T w (min mk w) (0, B)).1), some (.int (iN 0)), b1] [] (kMkss p n t nh T w (min mk w) (0, B)).2 Q ↔ Ex (d + 15) 262 54 [some (.ref 5836), some (.int (kMkss p n t nh T w (min mk w) (0, B)).1), some (.int (iN 0)), b1] [] (kMkss p n t nh T w (min mk w) (0, B)).2 Q := by
    rw [x262_14]
    simp only [x262_0, x262_1a, x262_1b, x262_1c, x262_2, x262_3, x262_6, x262_7, x262_10, x262_13a, x262_13b, x262_13c, x262_15, x262_18, x262_19, x262_22, x262_23, x262_24a, x262_24b, x262_24c, x262_25, x262_26, x262_27, x262_30, x262_31, x262_32, x262_33, x262_36, x262_39, x262_40, x262_43, x262_44, x262_45a, x262_45b, x262_45c, x262_46a, x262_46b, x262_46c, x262_49, x262_52, x262_53a, x262_53b, x262_53c, x262_55, x262_56, x262_59, x262_62, x262_65, x262_68, x262_69, x262_72, x262_73, x262_74, x262_77, x262_80, x262_81, x262_84, x262_85, x262_86, x262_87, x262_90, x262_91, x262_94, x262_95a, x262_95b, x262_96, x262_97, x262_98, x262_99, x262_100, x262_101, x262_104, x262_105a, x262_105b, x262_106, x262_107, x262_108, x262_111, x262_112, x262_113, x262_114, x262_115, x262_116, x262_117, x262_120, x262_121, x262_124, x262_125a, x262_125b, x262_126, x262_127, x262_128, x262_129, x262_130, x262_131, x262_134, x262_135, x262_136, x262_138, x262_141, x262_144, x262_145, x262_148, x262_149, x262_152, x262_153, x262_154, x262_155, x262_156, x262_157, x262_160, x262_161, x262_163, x262_164, x262_165, x262_166, x262_169a, x262_169b, x262_169c, x262_172, x262_175, x262_176a, x262_176b, x262_177, x262_180, x262_181, x262_182, x262_185, x262_186, x176_0, x176_1, x176_4, x176_5, x176_8, x176_9, x176_10, x176_11, x176_12, x176_13, x176_16, x176_17, x176_18, x176_19, x176_20, x176_23, x176_24, x176_25, x176_26, mzi, mInc, mne, mlt9, mrk, mI1, mI2, mI3, mI4, mL1, mL2, mL3, mL4, mQ1, mQ2, mQ3, mQ4, mT1, mcat0, mcat1, mcat2, mcat3, mcat4, mrf1, jK_v, jK_n, JA, mz1, if_true, if_false, ite_true, ite_false, eq_self, not_false_eq_true, Nat.zero_le, true_and, and_true, and_self, Nat.reduceMod, Nat.reduceAdd, Nat.reduceLeDiff, Nat.reduceEqDiff, Nat.reduceLT, hz0]
  rw [h2]
  unfold kGoTs
  generalize (kMkss p n t nh T w (min mk w) (0, B)).1 = sm at *
  generalize (kMkss p n t nh T w (min mk w) (0, B)).2 = B1 at *
  generalize (jfold (fun k a => kMarkn m n t L K (w - k) a) 0 (min mk w) (0, A)).2 = A1 at *
  have step2 : ∀ (k : Nat) (a : jM × jM) (b : Unit), k < n → (jRXn a.1 a.2 n (w - min mk w) mk (jI A 1936) (jI A 2000) ∧ jRP A1 a.2 p m n t L K nh T) → (jRXn (if jI a.1 3024 k = 0 then a.1 else kRingn a.1 n k) (kRg1s a.2 k) n (w - min mk w) mk (jI A 1936) (jI A 2000) ∧ jRP A1 (kRg1s a.2 k) p m n t L K nh T) ∧ ∃ b' : Unit, (Ex (d + 15) 262 54 [some (.ref 5836), some (.int sm), some (.int (iN k)), b1] [] a.2 Q ↔ Ex (d + 15) 262 54 [some (.ref 5836), some (.int sm), some (.int (iN (k + 1))), b1] [] (kRg1s a.2 k) Q) := by
    intro k a b hk ⟨ha, hPa⟩
    refine ⟨⟨R_ringn hn10 ha hk, jRPn hPa jSmn_r jFms_g⟩, (), ?_⟩
    obtain ⟨A2, B2⟩ := a
    dsimp only at ha hPa ⊢
    obtain ⟨g1, g2, g3, g4, g5, g6, g7, hE, hD, hL, hQ, hPP⟩ := ha
    have hEk := hE k (by omega)
    unfold kEq at hEk
    obtain ⟨e1, e2, e3, e4, e5, e6, e7, e8⟩ := hEk
    have hM2 := hPa.2.1
    obtain ⟨hW2, hp2, hpl, hq⟩ := hM2
    have hw2 := hW2
    unfold jWd at hw2
    unfold jMq at hq
    have hn2 : jI B2 (64 * p + 11) 2 = iN n := hPa.2.2.2.1
    have hlt : iN k < iN n := (iN_lt (by omega) (by omega)).mpr hk
    have kc : (iN k).toNatClampNeg = k := iN_cl (by omega)
    have kj : jin (iN k) 10 = true := iN_in (by omega) (by omega)
    rw [x262_54]
    unfold kRg1s
    by_cases c0 : jI B2 6288 k = 0
    · simp only [↓if_pos c0, x262_0, x262_1a, x262_1b, x262_1c, x262_2, x262_3, x262_6, x262_7, x262_10, x262_13a, x262_13b, x262_13c, x262_15, x262_18, x262_19, x262_22, x262_23, x262_24a, x262_24b, x262_24c, x262_25, x262_26, x262_27, x262_30, x262_31, x262_32, x262_33, x262_36, x262_39, x262_40, x262_43, x262_44, x262_45a, x262_45b, x262_45c, x262_46a, x262_46b, x262_46c, x262_49, x262_52, x262_53a, x262_53b, x262_53c, x262_55, x262_56, x262_59, x262_62, x262_65, x262_68, x262_69, x262_72, x262_73, x262_74, x262_77, x262_80, x262_81, x262_84, x262_85, x262_86, x262_87, x262_90, x262_91, x262_94, x262_95a, x262_95b, x262_96, x262_97, x262_98, x262_99, x262_100, x262_101, x262_104, x262_105a, x262_105b, x262_106, x262_107, x262_108, x262_111, x262_112, x262_113, x262_114, x262_115, x262_116, x262_117, x262_120, x262_121, x262_124, x262_125a, x262_125b, x262_126, x262_127, x262_128, x262_129, x262_130, x262_131, x262_134, x262_135, x262_136, x262_138, x262_141, x262_144, x262_145, x262_148, x262_149, x262_152, x262_153, x262_154, x262_155, x262_156, x262_157, x262_160, x262_161, x262_163, x262_164, x262_165, x262_166, x262_169a, x262_169b, x262_169c, x262_172, x262_175, x262_176a, x262_176b, x262_177, x262_180, x262_181, x262_182, x262_185, x262_186, x176_0, x176_1, x176_4, x176_5, x176_8, x176_9, x176_10, x176_11, x176_12, x176_13, x176_16, x176_17, x176_18, x176_19, x176_20, x176_23, x176_24, x176_25, x176_26, mzi, mInc, mne, mlt9, mrk, mI1, mI2, mI3, mI4, mL1, mL2, mL3, mL4, mQ1, mQ2, mQ3, mQ4, mT1, mcat0, mcat1, mcat2, mcat3, mcat4, mrf1, jK_v, jK_n, JA, mz1, if_true, if_false, ite_true, ite_false, eq_self, not_false_eq_true, Nat.zero_le, true_and, and_true, and_self, Nat.reduceMod, Nat.reduceAdd, Nat.reduceLeDiff, Nat.reduceEqDiff, Nat.reduceLT, hw2, hpl, hq, jp, jpm, hn2, hlt, kc, kj, c0]
    · rw [if_neg c0]
      by_cases c5 : jI B2 5904 k = 5
      · simp only [x262_0, x262_1a, x262_1b, x262_1c, x262_2, x262_3, x262_6, x262_7, x262_10, x262_13a, x262_13b, x262_13c, x262_15, x262_18, x262_19, x262_22, x262_23, x262_24a, x262_24b, x262_24c, x262_25, x262_26, x262_27, x262_30, x262_31, x262_32, x262_33, x262_36, x262_39, x262_40, x262_43, x262_44, x262_45a, x262_45b, x262_45c, x262_46a, x262_46b, x262_46c, x262_49, x262_52, x262_53a, x262_53b, x262_53c, x262_55, x262_56, x262_59, x262_62, x262_65, x262_68, x262_69, x262_72, x262_73, x262_74, x262_77, x262_80, x262_81, x262_84, x262_85, x262_86, x262_87, x262_90, x262_91, x262_94, x262_95a, x262_95b, x262_96, x262_97, x262_98, x262_99, x262_100, x262_101, x262_104, x262_105a, x262_105b, x262_106, x262_107, x262_108, x262_111, x262_112, x262_113, x262_114, x262_115, x262_116, x262_117, x262_120, x262_121, x262_124, x262_125a, x262_125b, x262_126, x262_127, x262_128, x262_129, x262_130, x262_131, x262_134, x262_135, x262_136, x262_138, x262_141, x262_144, x262_145, x262_148, x262_149, x262_152, x262_153, x262_154, x262_155, x262_156, x262_157, x262_160, x262_161, x262_163, x262_164, x262_165, x262_166, x262_169a, x262_169b, x262_169c, x262_172, x262_175, x262_176a, x262_176b, x262_177, x262_180, x262_181, x262_182, x262_185, x262_186, x176_0, x176_1, x176_4, x176_5, x176_8, x176_9, x176_10, x176_11, x176_12, x176_13, x176_16, x176_17, x176_18, x176_19, x176_20, x176_23, x176_24, x176_25, x176_26, mzi, mInc, mne, mlt9, mrk, mI1, mI2, mI3, mI4, mL1, mL2, mL3, mL4, mQ1, mQ2, mQ3, mQ4, mT1, mcat0, mcat1, mcat2, mcat3, mcat4, mrf1, jK_v, jK_n, JA, mz1, if_true, if_false, ite_true, ite_false, eq_self, not_false_eq_true, Nat.zero_le, true_and, and_true, and_self, Nat.reduceMod, Nat.reduceAdd, Nat.reduceLeDiff, Nat.reduceEqDiff, Nat.reduceLT, hw2, hpl, hq, jp, jpm, hn2, hlt, kc, kj, c0, c5]
      · rw [if_neg c5]
        by_cases c12 : jI B2 6544 k + 1 < 12
        · simp only [x262_0, x262_1a, x262_1b, x262_1c, x262_2, x262_3, x262_6, x262_7, x262_10, x262_13a, x262_13b, x262_13c, x262_15, x262_18, x262_19, x262_22, x262_23, x262_24a, x262_24b, x262_24c, x262_25, x262_26, x262_27, x262_30, x262_31, x262_32, x262_33, x262_36, x262_39, x262_40, x262_43, x262_44, x262_45a, x262_45b, x262_45c, x262_46a, x262_46b, x262_46c, x262_49, x262_52, x262_53a, x262_53b, x262_53c, x262_55, x262_56, x262_59, x262_62, x262_65, x262_68, x262_69, x262_72, x262_73, x262_74, x262_77, x262_80, x262_81, x262_84, x262_85, x262_86, x262_87, x262_90, x262_91, x262_94, x262_95a, x262_95b, x262_96, x262_97, x262_98, x262_99, x262_100, x262_101, x262_104, x262_105a, x262_105b, x262_106, x262_107, x262_108, x262_111, x262_112, x262_113, x262_114, x262_115, x262_116, x262_117, x262_120, x262_121, x262_124, x262_125a, x262_125b, x262_126, x262_127, x262_128, x262_129, x262_130, x262_131, x262_134, x262_135, x262_136, x262_138, x262_141, x262_144, x262_145, x262_148, x262_149, x262_152, x262_153, x262_154, x262_155, x262_156, x262_157, x262_160, x262_161, x262_163, x262_164, x262_165, x262_166, x262_169a, x262_169b, x262_169c, x262_172, x262_175, x262_176a, x262_176b, x262_177, x262_180, x262_181, x262_182, x262_185, x262_186, x176_0, x176_1, x176_4, x176_5, x176_8, x176_9, x176_10, x176_11, x176_12, x176_13, x176_16, x176_17, x176_18, x176_19, x176_20, x176_23, x176_24, x176_25, x176_26, mzi, mInc, mne, mlt9, mrk, mI1, mI2, mI3, mI4, mL1, mL2, mL3, mL4, mQ1, mQ2, mQ3, mQ4, mT1, mcat0, mcat1, mcat2, mcat3, mcat4, mrf1, jK_v, jK_n, JA, mz1, if_true, if_false, ite_true, ite_false, eq_self, not_false_eq_true, Nat.zero_le, true_and, and_true, and_self, Nat.reduceMod, Nat.reduceAdd, Nat.reduceLeDiff, Nat.reduceEqDiff, Nat.reduceLT, hw2, hpl, hq, jp, jpm, hn2, hlt, kc, kj, c0, c5, c12]
        · rw [if_neg c12]
          have gw : ¬ jI A2 3024 k = 0 := fun g => c0 (by rw [e6, if_pos g])
          have hlk : ∃ j, j < n ∧ jI B2 6224 k = iN j := by
            rcases hL k hk with a | ⟨j, b1, b2, b3, b4, b5⟩
            · exact absurd a.2.1 gw
            · exact ⟨j, b1, e5.trans b3⟩
          obtain ⟨j, j1, j2⟩ := hlk
          have jc : (iN j).toNatClampNeg = j := iN_cl (by omega)
          have jj : jin (iN j) 10 = true := iN_in (by omega) (by omega)
          rw [j2, jc]
          simp only [x262_0, x262_1a, x262_1b, x262_1c, x262_2, x262_3, x262_6, x262_7, x262_10, x262_13a, x262_13b, x262_13c, x262_15, x262_18, x262_19, x262_22, x262_23, x262_24a, x262_24b, x262_24c, x262_25, x262_26, x262_27, x262_30, x262_31, x262_32, x262_33, x262_36, x262_39, x262_40, x262_43, x262_44, x262_45a, x262_45b, x262_45c, x262_46a, x262_46b, x262_46c, x262_49, x262_52, x262_53a, x262_53b, x262_53c, x262_55, x262_56, x262_59, x262_62, x262_65, x262_68, x262_69, x262_72, x262_73, x262_74, x262_77, x262_80, x262_81, x262_84, x262_85, x262_86, x262_87, x262_90, x262_91, x262_94, x262_95a, x262_95b, x262_96, x262_97, x262_98, x262_99, x262_100, x262_101, x262_104, x262_105a, x262_105b, x262_106, x262_107, x262_108, x262_111, x262_112, x262_113, x262_114, x262_115, x262_116, x262_117, x262_120, x262_121, x262_124, x262_125a, x262_125b, x262_126, x262_127, x262_128, x262_129, x262_130, x262_131, x262_134, x262_135, x262_136, x262_138, x262_141, x262_144, x262_145, x262_148, x262_149, x262_152, x262_153, x262_154, x262_155, x262_156, x262_157, x262_160, x262_161, x262_163, x262_164, x262_165, x262_166, x262_169a, x262_169b, x262_169c, x262_172, x262_175, x262_176a, x262_176b, x262_177, x262_180, x262_181, x262_182, x262_185, x262_186, x176_0, x176_1, x176_4, x176_5, x176_8, x176_9, x176_10, x176_11, x176_12, x176_13, x176_16, x176_17, x176_18, x176_19, x176_20, x176_23, x176_24, x176_25, x176_26, mzi, mInc, mne, mlt9, mrk, mI1, mI2, mI3, mI4, mL1, mL2, mL3, mL4, mQ1, mQ2, mQ3, mQ4, mT1, mcat0, mcat1, mcat2, mcat3, mcat4, mrf1, jK_v, jK_n, JA, mz1, if_true, if_false, ite_true, ite_false, eq_self, not_false_eq_true, Nat.zero_le, true_and, and_true, and_self, Nat.reduceMod, Nat.reduceAdd, Nat.reduceLeDiff, Nat.reduceEqDiff, Nat.reduceLT, hw2, hpl, hq, jp, jpm, hn2, hlt, kc, kj, jc, jj, c0, c5, c12, j2]
  obtain ⟨⟨hX3, hP3⟩, b2, hb2⟩ := jfold_loopI (P := fun k (a : jM × jM) (b : Unit) => Ex (d + 15) 262 54 [some (.ref 5836), some (.int sm), some (.int (iN k)), b1] [] a.2 Q) (I := fun k a => jRXn a.1 a.2 n (w - min mk w) mk (jI A 1936) (jI A 2000) ∧ jRP A1 a.2 p m n t L K nh T) (f := fun k (a : jM × jM) => (if jI a.1 3024 k = 0 then a.1 else kRingn a.1 n k, kRg1s a.2 k)) step2 n 0 (A1, B1) () (by omega) ⟨r2, r1⟩
  have hf : ∀ q k a, (jfold (fun k (a : jM × jM) => (if jI a.1 3024 k = 0 then a.1 else kRingn a.1 n k, kRg1s a.2 k)) k q a).2 = jfold (fun k B => kRg1s B k) k q a.2 := by
    intro q
    induction q with
    | zero => intros; rfl
    | succ q ih => intro k a; exact ih (k + 1) _
  dsimp only at hb2
  rw [hf] at hb2 hP3
  rw [hb2]
  have hw3 := hP3.2.1.1
  unfold jWd at hw3
  obtain ⟨_, hp3, hpl3, hq3⟩ := hP3.2.1
  unfold jMq at hq3
  have hn3 : jI (jfold (fun k B => kRg1s B k) 0 n B1) (64 * p + 11) 2 = iN n := hP3.2.2.2.1
  have hge : ¬ iN n < iN n := iN_irr (by omega)
  unfold kRgss
  generalize jfold (fun k B => kRg1s B k) 0 n B1 = B3 at *
  simp only [↓if_neg hge, x262_54, x262_0, x262_1a, x262_1b, x262_1c, x262_2, x262_3, x262_6, x262_7, x262_10, x262_13a, x262_13b, x262_13c, x262_15, x262_18, x262_19, x262_22, x262_23, x262_24a, x262_24b, x262_24c, x262_25, x262_26, x262_27, x262_30, x262_31, x262_32, x262_33, x262_36, x262_39, x262_40, x262_43, x262_44, x262_45a, x262_45b, x262_45c, x262_46a, x262_46b, x262_46c, x262_49, x262_52, x262_53a, x262_53b, x262_53c, x262_55, x262_56, x262_59, x262_62, x262_65, x262_68, x262_69, x262_72, x262_73, x262_74, x262_77, x262_80, x262_81, x262_84, x262_85, x262_86, x262_87, x262_90, x262_91, x262_94, x262_95a, x262_95b, x262_96, x262_97, x262_98, x262_99, x262_100, x262_101, x262_104, x262_105a, x262_105b, x262_106, x262_107, x262_108, x262_111, x262_112, x262_113, x262_114, x262_115, x262_116, x262_117, x262_120, x262_121, x262_124, x262_125a, x262_125b, x262_126, x262_127, x262_128, x262_129, x262_130, x262_131, x262_134, x262_135, x262_136, x262_138, x262_141, x262_144, x262_145, x262_148, x262_149, x262_152, x262_153, x262_154, x262_155, x262_156, x262_157, x262_160, x262_161, x262_163, x262_164, x262_165, x262_166, x262_169a, x262_169b, x262_169c, x262_172, x262_175, x262_176a, x262_176b, x262_177, x262_180, x262_181, x262_182, x262_185, x262_186, x176_0, x176_1, x176_4, x176_5, x176_8, x176_9, x176_10, x176_11, x176_12, x176_13, x176_16, x176_17, x176_18, x176_19, x176_20, x176_23, x176_24, x176_25, x176_26, mzi, mInc, mne, mlt9, mrk, mI1, mI2, mI3, mI4, mL1, mL2, mL3, mL4, mQ1, mQ2, mQ3, mQ4, mT1, mcat0, mcat1, mcat2, mcat3, mcat4, mrf1, jK_v, jK_n, JA, mz1, if_true, if_false, ite_true, ite_false, eq_self, not_false_eq_true, Nat.zero_le, true_and, and_true, and_self, Nat.reduceMod, Nat.reduceAdd, Nat.reduceLeDiff, Nat.reduceEqDiff, Nat.reduceLT, hw3, hpl3, hq3, jp, jpm, hn3, hge]
theorem kMkM_01h {l k u : Nat} {z : Int32} : (kMkMh B p n t nh T l k u z).1 = 0 ∨ (kMkMh B p n t nh T l k u z).1 = 1 := by
  unfold kMkMh
  split
  · split
    · exact Or.inl rfl
    · exact Or.inr rfl
  · exact Or.inl rfl
def kMksh (p n t nh : Nat) (T : Nat → List (Nat × Int32)) (w c : Nat) (a : Int32 × jM) : Int32 × jM := jfold (fun k a => kMk1h p n t nh T (w - k) a) 0 c a
def kRgsh (B : jM) (n : Nat) : jM := jfold (fun k B => kRg1h B k) 0 n B
/-- a tick (reference) -/
def kGoTh (p n t nh : Nat) (T : Nat → List (Nat × Int32)) (w mk : Nat) (B : jM) : Int32 × jM :=
  ((kMksh p n t nh T w (min mk w) (0, B)).1, jsI (kRgsh (kMksh p n t nh T w (min mk w) (0, B)).2 n) 6732 0 (jI (kRgsh (kMksh p n t nh T w (min mk w) (0, B)).2 n) 6732 0 + 1))
theorem jFmh_ms {w c : Nat} {a : Int32 × jM} : jFmh a.2 (kMksh p n t nh T w c a).2 :=
  jfold_keep (I := fun b => jFmh a.2 b.2) (fun k b hb => jFmh_t hb jFmh_1) c 0 a jFmh_r
theorem jFmh_rs : jFmh B (kRgsh B n) :=
  jfold_keep (I := fun b => jFmh B b) (fun k b hb => jFmh_t hb jFmh_g) n 0 B jFmh_r
theorem jFmh_go : jFmh B (kGoTh p n t nh T w mk B).2 := jFmh_t (jFmh_t (jFmh_ms (a := (0, B))) jFmh_rs) (jFmh_I (by decide) (by decide))
/-- a tick is alike -/
theorem R_marksa (hR : jRP A B p m n t L K nh T) (h : jRXa A B n w mk (jI A 1936) (jI A 2000)) : ∀ c, c ≤ w → ((jSma A (jfold (fun k a => kMarka m n t L K (w - k) a) 0 c (0, A)).2 ∧ jFmh B (kMksh p n t nh T w c (0, B)).2) ∧ jRP (jfold (fun k a => kMarka m n t L K (w - k) a) 0 c (0, A)).2 (kMksh p n t nh T w c (0, B)).2 p m n t L K nh T) ∧ jRXa (jfold (fun k a => kMarka m n t L K (w - k) a) 0 c (0, A)).2 (kMksh p n t nh T w c (0, B)).2 n (w - c) mk (jI A 1936) (jI A 2000) ∧ (jfold (fun k a => kMarka m n t L K (w - k) a) 0 c (0, A)).1 = (kMksh p n t nh T w c (0, B)).1 := by
  intro c
  induction c with
  | zero => intro _; exact ⟨⟨⟨jSma_r, jFmh_r⟩, hR⟩, h, rfl⟩
  | succ c ih =>
    intro hc
    obtain ⟨⟨⟨f1, f2⟩, r1⟩, r2, r3⟩ := ih (by omega)
    unfold kMksh at f2 r1 r2 r3 ⊢
    rw [jfold_snoc, jfold_snoc, Nat.zero_add]
    rcases hx : jfold (fun k a => kMarka m n t L K (w - k) a) 0 c (0, A) with ⟨x1, A1⟩
    rcases hy : jfold (fun k a => kMk1h p n t nh T (w - k) a) 0 c (0, B) with ⟨y1, B1⟩
    rw [hx] at f1 r1 r2 r3
    rw [hy] at f2 r1 r2 r3
    dsimp only at f1 f2 r1 r2 r3
    subst r3
    have e1 : jI A1 1936 = jI A 1936 := f1.2.2.2.2.1 1936 (by decide) (by decide) (by omega)
    have e2 : jI A1 2000 = jI A 2000 := f1.2.2.2.2.1 2000 (by decide) (by decide) (by omega)
    have g := R_marka r1 (by rw [e1, e2]; exact r2) (by omega) x1
    rw [e1, e2, show w - c - 1 = w - (c + 1) by omega] at g
    have f3 : jSma A1 (kMarka m n t L K (w - c) (x1, A1)).2 := jSma_m (a := (x1, A1))
    have f4 : jFmh B1 (kMk1h p n t nh T (w - c) (x1, B1)).2 := jFmh_1 (a := (x1, B1))
    exact ⟨⟨⟨jSma_t f1 f3, jFmh_t f2 f4⟩, jRPa r1 f3 f4⟩, g⟩
theorem R_ringsa (hn : n ≤ 10) (h : jRXa A B n w mk pn pd) : jRXa (kRingsa A n) (kRgsh B n) n w mk pn pd := by
  unfold kRingsa kRgsh
  refine jfold_rel (R := fun A B => jRXa A B n w mk pn pd) (n := n) ?_ n 0 A B (by omega) h
  intro k a b hk r
  exact R_ringa hn r hk
theorem jSma_rs : jSma A (kRingsa A n) :=
  jfold_keep (I := fun b => jSma A b) (fun k b hb => by
    split
    · exact hb
    · exact jSma_t hb jSma_g) n 0 A jSma_r
theorem jSma_go : jSma A (kGoa A m n t L K w mk) :=
  jSma_t (jSma_t (jfold_keep (I := fun (b : Int32 × jM) => jSma A b.2) (fun k b hb => jSma_t hb jSma_m) (min mk w) 0 (0, A) jSma_r) jSma_rs) (jSma_I (by decide) (by decide))
theorem R_goa (hR : jRP A B p m n t L K nh T) (h : jRXa A B n w mk (jI A 1936) (jI A 2000)) : jRP (kGoa A m n t L K w mk) (kGoTh p n t nh T w mk B).2 p m n t L K nh T ∧ jRXa (kGoa A m n t L K w mk) (kGoTh p n t nh T w mk B).2 n (w - min mk w) mk (jI A 1936) (jI A 2000) ∧ (kMarksa A m n t L K w mk).1 = (kGoTh p n t nh T w mk B).1 := by
  have hn : n ≤ 10 := hR.1.2.2.2.2.1
  obtain ⟨⟨f, r1⟩, r2, r3⟩ := R_marksa hR h (min mk w) (Nat.min_le_right _ _)
  refine ⟨jRPa hR jSma_go jFmh_go, ?_, r3⟩
  have r4 := R_ringsa hn r2
  unfold kGoa kGoTh
  unfold jRXa at r4 ⊢
  obtain ⟨h1, h2, h3, h4, h5, h6, h7, hE, hD, hL, hQ, hP⟩ := r4
  unfold kMarksa
  simp only [mI1, mI2, mR2, Nat.reduceEqDiff, not_false_eq_true, Nat.reduceEqDiff, if_true, if_false]
  exact ⟨by rw [h1], h2, h3, h4, h5, h6, h7, hE, hD, hL, hQ, hP⟩
theorem d_passh (hR : jRP A B p m n t L K nh T) (h : jRXa A B n w mk (jI A 1936) (jI A 2000)) : Ex (d + 15) 262 0 [some (.ref 6732), none, none, none] [] B Q ↔ Q (.inl (some (.int (kGoTh p n t nh T w mk B).1))) (kGoTh p n t nh T w mk B).2 := by
  have hn10 : n ≤ 10 := hR.1.2.2.2.2.1
  have ht10 : t ≤ 10 := hR.1.2.2.2.2.2.2.1
  have hmk4 : mk ≤ 4 := h.2.2.2.2.1
  have hw10 : w ≤ n := kQu_n h.2.2.2.2.2.2.2.2.2.2.1 (by omega)
  have hp := jRP_f hR
  have jp := JP p
  have jpm := JPm p
  have hne := jPne hp
  have step1 : ∀ c b, c < min mk w → ∃ b', (Ex (d + 15) 262 14 [some (.ref 6732), some (.int (kMksh p n t nh T w c (0, B)).1), some (.int (iN (min mk w - c))), b] [] (kMksh p n t nh T w c (0, B)).2 Q ↔ Ex (d + 15) 262 14 [some (.ref 6732), some (.int (kMksh p n t nh T w (c + 1) (0, B)).1), some (.int (iN (min mk w - (c + 1)))), b'] [] (kMksh p n t nh T w (c + 1) (0, B)).2 Q) := by
    intro c b hc
    obtain ⟨⟨⟨f1, f2⟩, r1⟩, r2, r3⟩ := R_marksa hR h c (by omega)
    have es : kMksh p n t nh T w (c + 1) (0, B) = kMk1h p n t nh T (w - c) (kMksh p n t nh T w c (0, B)) := by
      unfold kMksh
      rw [jfold_snoc, Nat.zero_add]
    rw [es]
    generalize kMksh p n t nh T w c (0, B) = y at f2 r1 r2 r3 ⊢
    generalize jfold (fun k a => kMarka m n t L K (w - k) a) 0 c (0, A) = x at f1 r1 r2 r3
    obtain ⟨x1, A1⟩ := x
    obtain ⟨y1, B1⟩ := y
    dsimp only at f1 f2 r1 r2 r3 ⊢
    have e1 : jI A1 1936 = jI A 1936 := f1.2.2.2.2.1 1936 (by decide) (by decide) (by omega)
    have e2 : jI A1 2000 = jI A 2000 := f1.2.2.2.2.1 2000 (by decide) (by decide) (by omega)
    rw [← e1, ← e2] at r2
    obtain ⟨l, k, u, z, hl, hk, hu, hz, a1, a2, a3, a4, a5, a6, a7, a8, a9⟩ := jRX_heada r1 r2 (by omega)
    have hw7 : jI B1 6732 7 = iN (w - c) := r2.2.2.2.2.2.2.1
    have hm6 : m ≤ 6 := hR.1.2.2.1
    have lc : (iN l).toNatClampNeg = l := iN_cl (by omega)
    have kc : (iN k).toNatClampNeg = k := iN_cl (by omega)
    have uc : (iN u).toNatClampNeg = u := iN_cl (by omega)
    have eM : kMk1h p n t nh T (w - c) (y1, B1) = (y1 + (kMkMh (kLvMh B1 (w - c) 0) p n t nh T l k u (iN z)).1, (kMkMh (kLvMh B1 (w - c) 0) p n t nh T l k u (iN z)).2) := by
      unfold kMk1h
      dsimp only
      rw [a2, lc, a5, kc, a6, uc, a7]
    rw [eM]
    have r1v := jRPa (A' := A1) r1 jSma_r (jFmh_l (w := w - c) (q := 0))
    have hlv : ∀ (d : Nat) (Q : jO → jM → Prop), Ex d 175 0 [some (.ref 6732), some (.int 0), none] [] B1 Q ↔ Q (.inl none) (kLvMh B1 (w - c) 0) := fun d Q => d_leaveh (q := 0) r1.2.1.1 hw7 (by omega) (by omega)
    have rB : ∀ a, ¬ a = 6732 → ¬ a = 7056 → jI (kLvMh B1 (w - c) 0) a = jI B1 a := fun a g1 g2 => by unfold kLvMh; rw [mR2 g2, mI2 g1]
    have hP : ∀ c', c' < 900 → jI (kLvMh B1 (w - c) 0) (64 * p + c') = jI B1 (64 * p + c') := fun c' h => rB _ (hne c' 6732 h (by decide) (by decide)) (hne c' 7056 h (by decide) (by decide))
    have hQv : jQ (kLvMh B1 (w - c) 0) = jQ B1 := rfl
    obtain ⟨q1, q2, q3, q4, q5, q6, q7, q8, q9, q10, q11, q12, q13, q14, q15⟩ := r1v
    have hmk : ∀ (d : Nat) (Q : jO → jM → Prop), Ex (d + 14) 263 0 [some (.ref 6732), some (.int (iN l)), none] [] (kLvMh B1 (w - c) 0) Q ↔ Q (.inl (some (.int (kMkMh (kLvMh B1 (w - c) 0) p n t nh T l k u (iN z)).1))) (kMkMh (kLvMh B1 (w - c) 0) p n t nh T l k u (iN z)).2 := fun d Q => d_markh q2 q4 hn10 q5 ht10 q6 (fun k hk => by obtain ⟨g1, g2, ⟨v, g3, g4⟩, _⟩ := q11 k hk; exact ⟨v, by omega, g1.symm.trans g4⟩) (fun k hk => by obtain ⟨g1, g2, _, ⟨v, g3, g4⟩, _⟩ := q11 k hk; exact ⟨v, by omega, g2.symm.trans g4⟩) (by omega) hk (by rw [rB 6928 (by decide) (by decide), rB 6864 (by decide) (by decide), hP 272 (by decide), hP 208 (by decide)]; exact a5) (by omega) (by rw [hP 144 (by decide)]; exact a6) (by rw [hP 144 (by decide)]; exact a7)
    have hw := q2.1
    unfold jWd at hw
    rw [hQv] at hw
    have hpos : 0 < iN (min mk w - c) := (iN_lt (a := 0) (by omega) (by omega)).mpr (by omega)
    have hnp : ¬ iN (min mk w - c) < 0 := iN_nn (by omega)
    have hn0 : ¬ iN (min mk w - c) = 0 := fun e => absurd ((iN_eq (b := 0) (by omega) (by omega)).mp e) (by omega)
    have hdec : iN (min mk w - c) + -1 = iN (min mk w - (c + 1)) := by rw [iN_m1 (by omega)]; congr 1
    have hdec2 : iN (min mk w - c) - 1 = iN (min mk w - (c + 1)) := by rw [iN_pred (by omega)]; congr 1
    have hj0 : jin 0 10 = true := by decide
    refine ⟨some (.int (iN l)), ?_⟩
    rw [x262_14]
    have h01 := kMkM_01h (B := kLvMh B1 (w - c) 0) (p := p) (n := n) (t := t) (nh := nh) (T := T) (l := l) (k := k) (u := u) (z := iN z)
    rcases h01 with g | g
    all_goals rw [g] at hmk ⊢
    all_goals simp only [x262_0, x262_1a, x262_1b, x262_1c, x262_2, x262_3, x262_6, x262_7, x262_10, x262_13a, x262_13b, x262_13c, x262_15, x262_18, x262_19, x262_22, x262_23, x262_24a, x262_24b, x262_24c, x262_25, x262_26, x262_27, x262_30, x262_31, x262_32, x262_33, x262_36, x262_39, x262_40, x262_43, x262_44, x262_45a, x262_45b, x262_45c, x262_46a, x262_46b, x262_46c, x262_49, x262_52, x262_53a, x262_53b, x262_53c, x262_55, x262_56, x262_59, x262_62, x262_65, x262_68, x262_69, x262_72, x262_73, x262_74, x262_77, x262_80, x262_81, x262_84, x262_85, x262_86, x262_87, x262_90, x262_91, x262_94, x262_95a, x262_95b, x262_96, x262_97, x262_98, x262_99, x262_100, x262_101, x262_104, x262_105a, x262_105b, x262_106, x262_107, x262_108, x262_111, x262_112, x262_113, x262_114, x262_115, x262_116, x262_117, x262_120, x262_121, x262_124, x262_125a, x262_125b, x262_126, x262_127, x262_128, x262_129, x262_130, x262_131, x262_134, x262_135, x262_136, x262_138, x262_141, x262_144, x262_145, x262_148, x262_149, x262_152, x262_153, x262_154, x262_155, x262_156, x262_157, x262_160, x262_161, x262_163, x262_164, x262_165, x262_166, x262_169a, x262_169b, x262_169c, x262_172, x262_175, x262_176a, x262_176b, x262_177, x262_180, x262_181, x262_182, x262_185, x262_186, x176_0, x176_1, x176_4, x176_5, x176_8, x176_9, x176_10, x176_11, x176_12, x176_13, x176_16, x176_17, x176_18, x176_19, x176_20, x176_23, x176_24, x176_25, x176_26, mzi, mInc, mne, mlt9, mrk, mI1, mI2, mI3, mI4, mL1, mL2, mL3, mL4, mQ1, mQ2, mQ3, mQ4, mT1, mcat0, mcat1, mcat2, mcat3, mcat4, mrf1, jK_v, jK_n, JA, mz1, if_true, if_false, ite_true, ite_false, eq_self, not_false_eq_true, Nat.zero_le, true_and, and_true, and_self, Nat.reduceMod, Nat.reduceAdd, Nat.reduceLeDiff, Nat.reduceEqDiff, Nat.reduceLT, hw, hpos, hnp, hn0, hdec, hdec2, a2, hlv, hmk, hj0, g]
  have hclimb : ∀ c, c ≤ min mk w → ∃ b', (Ex (d + 15) 262 14 [some (.ref 6732), some (.int 0), some (.int (iN (min mk w))), none] [] B Q ↔ Ex (d + 15) 262 14 [some (.ref 6732), some (.int (kMksh p n t nh T w c (0, B)).1), some (.int (iN (min mk w - c))), b'] [] (kMksh p n t nh T w c (0, B)).2 Q) := by
    intro c
    induction c with
    | zero => intro _; exact ⟨none, Iff.rfl⟩
    | succ c ih =>
      intro hc
      obtain ⟨b1, h1⟩ := ih (by omega)
      obtain ⟨b2, h2⟩ := step1 c b1 (by omega)
      exact ⟨b2, h1.trans h2⟩
  obtain ⟨b1, e1⟩ := hclimb (min mk w) (Nat.le_refl _)
  have hw := hR.2.1.1
  unfold jWd at hw
  have hmin := i_min (a := mk) (b := w) (by omega) (by omega)
  have hmin2 := i_min2 (a := mk) (b := w) (by omega) (by omega)
  have hx1 : jI B 6732 1 = iN mk := h.2.2.1
  have hx7 : jI B 6732 7 = iN w := h.2.2.2.2.2.2.1
  have h0 : Ex (d + 15) 262 0 [some (.ref 6732), none, none, none] [] B Q ↔ Ex (d + 15) 262 14 [some (.ref 6732), some (.int 0), some (.int (iN (min mk w))), none] [] B Q := by
    simp only [x262_0, x262_1a, x262_1b, x262_1c, x262_2, x262_3, x262_6, x262_7, x262_10, x262_13a, x262_13b, x262_13c, x262_15, x262_18, x262_19, x262_22, x262_23, x262_24a, x262_24b, x262_24c, x262_25, x262_26, x262_27, x262_30, x262_31, x262_32, x262_33, x262_36, x262_39, x262_40, x262_43, x262_44, x262_45a, x262_45b, x262_45c, x262_46a, x262_46b, x262_46c, x262_49, x262_52, x262_53a, x262_53b, x262_53c, x262_55, x262_56, x262_59, x262_62, x262_65, x262_68, x262_69, x262_72, x262_73, x262_74, x262_77, x262_80, x262_81, x262_84, x262_85, x262_86, x262_87, x262_90, x262_91, x262_94, x262_95a, x262_95b, x262_96, x262_97, x262_98, x262_99, x262_100, x262_101, x262_104, x262_105a, x262_105b, x262_106, x262_107, x262_108, x262_111, x262_112, x262_113, x262_114, x262_115, x262_116, x262_117, x262_120, x262_121, x262_124, x262_125a, x262_125b, x262_126, x262_127, x262_128, x262_129, x262_130, x262_131, x262_134, x262_135, x262_136, x262_138, x262_141, x262_144, x262_145, x262_148, x262_149, x262_152, x262_153, x262_154, x262_155, x262_156, x262_157, x262_160, x262_161, x262_163, x262_164, x262_165, x262_166, x262_169a, x262_169b, x262_169c, x262_172, x262_175, x262_176a, x262_176b, x262_177, x262_180, x262_181, x262_182, x262_185, x262_186, x176_0, x176_1, x176_4, x176_5, x176_8, x176_9, x176_10, x176_11, x176_12, x176_13, x176_16, x176_17, x176_18, x176_19, x176_20, x176_23, x176_24, x176_25, x176_26, mzi, mInc, mne, mlt9, mrk, mI1, mI2, mI3, mI4, mL1, mL2, mL3, mL4, mQ1, mQ2, mQ3, mQ4, mT1, mcat0, mcat1, mcat2, mcat3, mcat4, mrf1, jK_v, jK_n, JA, mz1, if_true, if_false, ite_true, ite_false, eq_self, not_false_eq_true, Nat.zero_le, true_and, and_true, and_self, Nat.reduceMod, Nat.reduceAdd, Nat.reduceLeDiff, Nat.reduceEqDiff, Nat.reduceLT, hw, hx1, hx7, hmin, hmin2]
  rw [h0, e1, Nat.sub_self]
  have hz0 : ¬ (0 : Int32) < iN 0 := by decide
  have hz1 : (0 : Int32) = iN 0 := rfl
  obtain ⟨⟨⟨f1, f2⟩, r1⟩, r2, r3⟩ := R_marksa hR h (min mk w) (Nat.min_le_right _ _)
  have h2 : Ex (d + 15) 262 14 [some (.ref 6732), some (.int (kMksh p n t nh T w (min mk w) (0, B)).1), some (.int (iN 0)), b1] [] (kMksh p n t nh T w (min mk w) (0, B)).2 Q ↔ Ex (d + 15) 262 54 [some (.ref 6732), some (.int (kMksh p n t nh T w (min mk w) (0, B)).1), some (.int (iN 0)), b1] [] (kMksh p n t nh T w (min mk w) (0, B)).2 Q := by
    rw [x262_14]
    simp only [x262_0, x262_1a, x262_1b, x262_1c, x262_2, x262_3, x262_6, x262_7, x262_10, x262_13a, x262_13b, x262_13c, x262_15, x262_18, x262_19, x262_22, x262_23, x262_24a, x262_24b, x262_24c, x262_25, x262_26, x262_27, x262_30, x262_31, x262_32, x262_33, x262_36, x262_39, x262_40, x262_43, x262_44, x262_45a, x262_45b, x262_45c, x262_46a, x262_46b, x262_46c, x262_49, x262_52, x262_53a, x262_53b, x262_53c, x262_55, x262_56, x262_59, x262_62, x262_65, x262_68, x262_69, x262_72, x262_73, x262_74, x262_77, x262_80, x262_81, x262_84, x262_85, x262_86, x262_87, x262_90, x262_91, x262_94, x262_95a, x262_95b, x262_96, x262_97, x262_98, x262_99, x262_100, x262_101, x262_104, x262_105a, x262_105b, x262_106, x262_107, x262_108, x262_111, x262_112, x262_113, x262_114, x262_115, x262_116, x262_117, x262_120, x262_121, x262_124, x262_125a, x262_125b, x262_126, x262_127, x262_128, x262_129, x262_130, x262_131, x262_134, x262_135, x262_136, x262_138, x262_141, x262_144, x262_145, x262_148, x262_149, x262_152, x262_153, x262_154, x262_155, x262_156, x262_157, x262_160, x262_161, x262_163, x262_164, x262_165, x262_166, x262_169a, x262_169b, x262_169c, x262_172, x262_175, x262_176a, x262_176b, x262_177, x262_180, x262_181, x262_182, x262_185, x262_186, x176_0, x176_1, x176_4, x176_5, x176_8, x176_9, x176_10, x176_11, x176_12, x176_13, x176_16, x176_17, x176_18, x176_19, x176_20, x176_23, x176_24, x176_25, x176_26, mzi, mInc, mne, mlt9, mrk, mI1, mI2, mI3, mI4, mL1, mL2, mL3, mL4, mQ1, mQ2, mQ3, mQ4, mT1, mcat0, mcat1, mcat2, mcat3, mcat4, mrf1, jK_v, jK_n, JA, mz1, if_true, if_false, ite_true, ite_false, eq_self, not_false_eq_true, Nat.zero_le, true_and, and_true, and_self, Nat.reduceMod, Nat.reduceAdd, Nat.reduceLeDiff, Nat.reduceEqDiff, Nat.reduceLT, hz0]
  rw [h2]
  unfold kGoTh
  generalize (kMksh p n t nh T w (min mk w) (0, B)).1 = sm at *
  generalize (kMksh p n t nh T w (min mk w) (0, B)).2 = B1 at *
  generalize (jfold (fun k a => kMarka m n t L K (w - k) a) 0 (min mk w) (0, A)).2 = A1 at *
  have step2 : ∀ (k : Nat) (a : jM × jM) (b : Unit), k < n → (jRXa a.1 a.2 n (w - min mk w) mk (jI A 1936) (jI A 2000) ∧ jRP A1 a.2 p m n t L K nh T) → (jRXa (if jI a.1 3920 k = 0 then a.1 else kRinga a.1 n k) (kRg1h a.2 k) n (w - min mk w) mk (jI A 1936) (jI A 2000) ∧ jRP A1 (kRg1h a.2 k) p m n t L K nh T) ∧ ∃ b' : Unit, (Ex (d + 15) 262 54 [some (.ref 6732), some (.int sm), some (.int (iN k)), b1] [] a.2 Q ↔ Ex (d + 15) 262 54 [some (.ref 6732), some (.int sm), some (.int (iN (k + 1))), b1] [] (kRg1h a.2 k) Q) := by
    intro k a b hk ⟨ha, hPa⟩
    refine ⟨⟨R_ringa hn10 ha hk, jRPa hPa jSma_r jFmh_g⟩, (), ?_⟩
    obtain ⟨A2, B2⟩ := a
    dsimp only at ha hPa ⊢
    obtain ⟨g1, g2, g3, g4, g5, g6, g7, hE, hD, hL, hQ, hPP⟩ := ha
    have hEk := hE k (by omega)
    unfold kEq at hEk
    obtain ⟨e1, e2, e3, e4, e5, e6, e7, e8⟩ := hEk
    have hM2 := hPa.2.1
    obtain ⟨hW2, hp2, hpl, hq⟩ := hM2
    have hw2 := hW2
    unfold jWd at hw2
    unfold jMq at hq
    have hn2 : jI B2 (64 * p + 11) 2 = iN n := hPa.2.2.2.1
    have hlt : iN k < iN n := (iN_lt (by omega) (by omega)).mpr hk
    have kc : (iN k).toNatClampNeg = k := iN_cl (by omega)
    have kj : jin (iN k) 10 = true := iN_in (by omega) (by omega)
    rw [x262_54]
    unfold kRg1h
    by_cases c0 : jI B2 7184 k = 0
    · simp only [↓if_pos c0, x262_0, x262_1a, x262_1b, x262_1c, x262_2, x262_3, x262_6, x262_7, x262_10, x262_13a, x262_13b, x262_13c, x262_15, x262_18, x262_19, x262_22, x262_23, x262_24a, x262_24b, x262_24c, x262_25, x262_26, x262_27, x262_30, x262_31, x262_32, x262_33, x262_36, x262_39, x262_40, x262_43, x262_44, x262_45a, x262_45b, x262_45c, x262_46a, x262_46b, x262_46c, x262_49, x262_52, x262_53a, x262_53b, x262_53c, x262_55, x262_56, x262_59, x262_62, x262_65, x262_68, x262_69, x262_72, x262_73, x262_74, x262_77, x262_80, x262_81, x262_84, x262_85, x262_86, x262_87, x262_90, x262_91, x262_94, x262_95a, x262_95b, x262_96, x262_97, x262_98, x262_99, x262_100, x262_101, x262_104, x262_105a, x262_105b, x262_106, x262_107, x262_108, x262_111, x262_112, x262_113, x262_114, x262_115, x262_116, x262_117, x262_120, x262_121, x262_124, x262_125a, x262_125b, x262_126, x262_127, x262_128, x262_129, x262_130, x262_131, x262_134, x262_135, x262_136, x262_138, x262_141, x262_144, x262_145, x262_148, x262_149, x262_152, x262_153, x262_154, x262_155, x262_156, x262_157, x262_160, x262_161, x262_163, x262_164, x262_165, x262_166, x262_169a, x262_169b, x262_169c, x262_172, x262_175, x262_176a, x262_176b, x262_177, x262_180, x262_181, x262_182, x262_185, x262_186, x176_0, x176_1, x176_4, x176_5, x176_8, x176_9, x176_10, x176_11, x176_12, x176_13, x176_16, x176_17, x176_18, x176_19, x176_20, x176_23, x176_24, x176_25, x176_26, mzi, mInc, mne, mlt9, mrk, mI1, mI2, mI3, mI4, mL1, mL2, mL3, mL4, mQ1, mQ2, mQ3, mQ4, mT1, mcat0, mcat1, mcat2, mcat3, mcat4, mrf1, jK_v, jK_n, JA, mz1, if_true, if_false, ite_true, ite_false, eq_self, not_false_eq_true, Nat.zero_le, true_and, and_true, and_self, Nat.reduceMod, Nat.reduceAdd, Nat.reduceLeDiff, Nat.reduceEqDiff, Nat.reduceLT, hw2, hpl, hq, jp, jpm, hn2, hlt, kc, kj, c0]
    · rw [if_neg c0]
      by_cases c5 : jI B2 6800 k = 5
      · simp only [x262_0, x262_1a, x262_1b, x262_1c, x262_2, x262_3, x262_6, x262_7, x262_10, x262_13a, x262_13b, x262_13c, x262_15, x262_18, x262_19, x262_22, x262_23, x262_24a, x262_24b, x262_24c, x262_25, x262_26, x262_27, x262_30, x262_31, x262_32, x262_33, x262_36, x262_39, x262_40, x262_43, x262_44, x262_45a, x262_45b, x262_45c, x262_46a, x262_46b, x262_46c, x262_49, x262_52, x262_53a, x262_53b, x262_53c, x262_55, x262_56, x262_59, x262_62, x262_65, x262_68, x262_69, x262_72, x262_73, x262_74, x262_77, x262_80, x262_81, x262_84, x262_85, x262_86, x262_87, x262_90, x262_91, x262_94, x262_95a, x262_95b, x262_96, x262_97, x262_98, x262_99, x262_100, x262_101, x262_104, x262_105a, x262_105b, x262_106, x262_107, x262_108, x262_111, x262_112, x262_113, x262_114, x262_115, x262_116, x262_117, x262_120, x262_121, x262_124, x262_125a, x262_125b, x262_126, x262_127, x262_128, x262_129, x262_130, x262_131, x262_134, x262_135, x262_136, x262_138, x262_141, x262_144, x262_145, x262_148, x262_149, x262_152, x262_153, x262_154, x262_155, x262_156, x262_157, x262_160, x262_161, x262_163, x262_164, x262_165, x262_166, x262_169a, x262_169b, x262_169c, x262_172, x262_175, x262_176a, x262_176b, x262_177, x262_180, x262_181, x262_182, x262_185, x262_186, x176_0, x176_1, x176_4, x176_5, x176_8, x176_9, x176_10, x176_11, x176_12, x176_13, x176_16, x176_17, x176_18, x176_19, x176_20, x176_23, x176_24, x176_25, x176_26, mzi, mInc, mne, mlt9, mrk, mI1, mI2, mI3, mI4, mL1, mL2, mL3, mL4, mQ1, mQ2, mQ3, mQ4, mT1, mcat0, mcat1, mcat2, mcat3, mcat4, mrf1, jK_v, jK_n, JA, mz1, if_true, if_false, ite_true, ite_false, eq_self, not_false_eq_true, Nat.zero_le, true_and, and_true, and_self, Nat.reduceMod, Nat.reduceAdd, Nat.reduceLeDiff, Nat.reduceEqDiff, Nat.reduceLT, hw2, hpl, hq, jp, jpm, hn2, hlt, kc, kj, c0, c5]
      · rw [if_neg c5]
        by_cases c12 : jI B2 7440 k + 1 < 12
        · simp only [x262_0, x262_1a, x262_1b, x262_1c, x262_2, x262_3, x262_6, x262_7, x262_10, x262_13a, x262_13b, x262_13c, x262_15, x262_18, x262_19, x262_22, x262_23, x262_24a, x262_24b, x262_24c, x262_25, x262_26, x262_27, x262_30, x262_31, x262_32, x262_33, x262_36, x262_39, x262_40, x262_43, x262_44, x262_45a, x262_45b, x262_45c, x262_46a, x262_46b, x262_46c, x262_49, x262_52, x262_53a, x262_53b, x262_53c, x262_55, x262_56, x262_59, x262_62, x262_65, x262_68, x262_69, x262_72, x262_73, x262_74, x262_77, x262_80, x262_81, x262_84, x262_85, x262_86, x262_87, x262_90, x262_91, x262_94, x262_95a, x262_95b, x262_96, x262_97, x262_98, x262_99, x262_100, x262_101, x262_104, x262_105a, x262_105b, x262_106, x262_107, x262_108, x262_111, x262_112, x262_113, x262_114, x262_115, x262_116, x262_117, x262_120, x262_121, x262_124, x262_125a, x262_125b, x262_126, x262_127, x262_128, x262_129, x262_130, x262_131, x262_134, x262_135, x262_136, x262_138, x262_141, x262_144, x262_145, x262_148, x262_149, x262_152, x262_153, x262_154, x262_155, x262_156, x262_157, x262_160, x262_161, x262_163, x262_164, x262_165, x262_166, x262_169a, x262_169b, x262_169c, x262_172, x262_175, x262_176a, x262_176b, x262_177, x262_180, x262_181, x262_182, x262_185, x262_186, x176_0, x176_1, x176_4, x176_5, x176_8, x176_9, x176_10, x176_11, x176_12, x176_13, x176_16, x176_17, x176_18, x176_19, x176_20, x176_23, x176_24, x176_25, x176_26, mzi, mInc, mne, mlt9, mrk, mI1, mI2, mI3, mI4, mL1, mL2, mL3, mL4, mQ1, mQ2, mQ3, mQ4, mT1, mcat0, mcat1, mcat2, mcat3, mcat4, mrf1, jK_v, jK_n, JA, mz1, if_true, if_false, ite_true, ite_false, eq_self, not_false_eq_true, Nat.zero_le, true_and, and_true, and_self, Nat.reduceMod, Nat.reduceAdd, Nat.reduceLeDiff, Nat.reduceEqDiff, Nat.reduceLT, hw2, hpl, hq, jp, jpm, hn2, hlt, kc, kj, c0, c5, c12]
        · rw [if_neg c12]
          have gw : ¬ jI A2 3920 k = 0 := fun g => c0 (by rw [e6, if_pos g])
          have hlk : ∃ j, j < n ∧ jI B2 7120 k = iN j := by
            rcases hL k hk with a | ⟨j, b1, b2, b3, b4, b5⟩
            · exact absurd a.2.1 gw
            · exact ⟨j, b1, e5.trans b3⟩
          obtain ⟨j, j1, j2⟩ := hlk
          have jc : (iN j).toNatClampNeg = j := iN_cl (by omega)
          have jj : jin (iN j) 10 = true := iN_in (by omega) (by omega)
          rw [j2, jc]
          simp only [x262_0, x262_1a, x262_1b, x262_1c, x262_2, x262_3, x262_6, x262_7, x262_10, x262_13a, x262_13b, x262_13c, x262_15, x262_18, x262_19, x262_22, x262_23, x262_24a, x262_24b, x262_24c, x262_25, x262_26, x262_27, x262_30, x262_31, x262_32, x262_33, x262_36, x262_39, x262_40, x262_43, x262_44, x262_45a, x262_45b, x262_45c, x262_46a, x262_46b, x262_46c, x262_49, x262_52, x262_53a, x262_53b, x262_53c, x262_55, x262_56, x262_59, x262_62, x262_65, x262_68, x262_69, x262_72, x262_73, x262_74, x262_77, x262_80, x262_81, x262_84, x262_85, x262_86, x262_87, x262_90, x262_91, x262_94, x262_95a, x262_95b, x262_96, x262_97, x262_98, x262_99, x262_100, x262_101, x262_104, x262_105a, x262_105b, x262_106, x262_107, x262_108, x262_111, x262_112, x262_113, x262_114, x262_115, x262_116, x262_117, x262_120, x262_121, x262_124, x262_125a, x262_125b, x262_126, x262_127, x262_128, x262_129, x262_130, x262_131, x262_134, x262_135, x262_136, x262_138, x262_141, x262_144, x262_145, x262_148, x262_149, x262_152, x262_153, x262_154, x262_155, x262_156, x262_157, x262_160, x262_161, x262_163, x262_164, x262_165, x262_166, x262_169a, x262_169b, x262_169c, x262_172, x262_175, x262_176a, x262_176b, x262_177, x262_180, x262_181, x262_182, x262_185, x262_186, x176_0, x176_1, x176_4, x176_5, x176_8, x176_9, x176_10, x176_11, x176_12, x176_13, x176_16, x176_17, x176_18, x176_19, x176_20, x176_23, x176_24, x176_25, x176_26, mzi, mInc, mne, mlt9, mrk, mI1, mI2, mI3, mI4, mL1, mL2, mL3, mL4, mQ1, mQ2, mQ3, mQ4, mT1, mcat0, mcat1, mcat2, mcat3, mcat4, mrf1, jK_v, jK_n, JA, mz1, if_true, if_false, ite_true, ite_false, eq_self, not_false_eq_true, Nat.zero_le, true_and, and_true, and_self, Nat.reduceMod, Nat.reduceAdd, Nat.reduceLeDiff, Nat.reduceEqDiff, Nat.reduceLT, hw2, hpl, hq, jp, jpm, hn2, hlt, kc, kj, jc, jj, c0, c5, c12, j2]
  obtain ⟨⟨hX3, hP3⟩, b2, hb2⟩ := jfold_loopI (P := fun k (a : jM × jM) (b : Unit) => Ex (d + 15) 262 54 [some (.ref 6732), some (.int sm), some (.int (iN k)), b1] [] a.2 Q) (I := fun k a => jRXa a.1 a.2 n (w - min mk w) mk (jI A 1936) (jI A 2000) ∧ jRP A1 a.2 p m n t L K nh T) (f := fun k (a : jM × jM) => (if jI a.1 3920 k = 0 then a.1 else kRinga a.1 n k, kRg1h a.2 k)) step2 n 0 (A1, B1) () (by omega) ⟨r2, r1⟩
  have hf : ∀ q k a, (jfold (fun k (a : jM × jM) => (if jI a.1 3920 k = 0 then a.1 else kRinga a.1 n k, kRg1h a.2 k)) k q a).2 = jfold (fun k B => kRg1h B k) k q a.2 := by
    intro q
    induction q with
    | zero => intros; rfl
    | succ q ih => intro k a; exact ih (k + 1) _
  dsimp only at hb2
  rw [hf] at hb2 hP3
  rw [hb2]
  have hw3 := hP3.2.1.1
  unfold jWd at hw3
  obtain ⟨_, hp3, hpl3, hq3⟩ := hP3.2.1
  unfold jMq at hq3
  have hn3 : jI (jfold (fun k B => kRg1h B k) 0 n B1) (64 * p + 11) 2 = iN n := hP3.2.2.2.1
  have hge : ¬ iN n < iN n := iN_irr (by omega)
  unfold kRgsh
  generalize jfold (fun k B => kRg1h B k) 0 n B1 = B3 at *
  simp only [↓if_neg hge, x262_54, x262_0, x262_1a, x262_1b, x262_1c, x262_2, x262_3, x262_6, x262_7, x262_10, x262_13a, x262_13b, x262_13c, x262_15, x262_18, x262_19, x262_22, x262_23, x262_24a, x262_24b, x262_24c, x262_25, x262_26, x262_27, x262_30, x262_31, x262_32, x262_33, x262_36, x262_39, x262_40, x262_43, x262_44, x262_45a, x262_45b, x262_45c, x262_46a, x262_46b, x262_46c, x262_49, x262_52, x262_53a, x262_53b, x262_53c, x262_55, x262_56, x262_59, x262_62, x262_65, x262_68, x262_69, x262_72, x262_73, x262_74, x262_77, x262_80, x262_81, x262_84, x262_85, x262_86, x262_87, x262_90, x262_91, x262_94, x262_95a, x262_95b, x262_96, x262_97, x262_98, x262_99, x262_100, x262_101, x262_104, x262_105a, x262_105b, x262_106, x262_107, x262_108, x262_111, x262_112, x262_113, x262_114, x262_115, x262_116, x262_117, x262_120, x262_121, x262_124, x262_125a, x262_125b, x262_126, x262_127, x262_128, x262_129, x262_130, x262_131, x262_134, x262_135, x262_136, x262_138, x262_141, x262_144, x262_145, x262_148, x262_149, x262_152, x262_153, x262_154, x262_155, x262_156, x262_157, x262_160, x262_161, x262_163, x262_164, x262_165, x262_166, x262_169a, x262_169b, x262_169c, x262_172, x262_175, x262_176a, x262_176b, x262_177, x262_180, x262_181, x262_182, x262_185, x262_186, x176_0, x176_1, x176_4, x176_5, x176_8, x176_9, x176_10, x176_11, x176_12, x176_13, x176_16, x176_17, x176_18, x176_19, x176_20, x176_23, x176_24, x176_25, x176_26, mzi, mInc, mne, mlt9, mrk, mI1, mI2, mI3, mI4, mL1, mL2, mL3, mL4, mQ1, mQ2, mQ3, mQ4, mT1, mcat0, mcat1, mcat2, mcat3, mcat4, mrf1, jK_v, jK_n, JA, mz1, if_true, if_false, ite_true, ite_false, eq_self, not_false_eq_true, Nat.zero_le, true_and, and_true, and_self, Nat.reduceMod, Nat.reduceAdd, Nat.reduceLeDiff, Nat.reduceEqDiff, Nat.reduceLT, hw3, hpl3, hq3, jp, jpm, hn3, hge]
end TICK2
