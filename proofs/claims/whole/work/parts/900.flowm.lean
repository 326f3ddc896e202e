/-! THE PURE PART: the greatest flow (reference). -/
/-- room at first -/
def kR0 (b p q c : Nat → Nat) (m n : Nat) (u v : Nat) : Nat := kS (fun s => if u = 2 * s ∧ v = 2 * s + 1 then b s else 0) m + kS (fun t => (if u = 2 * p t + 1 ∧ v = 2 * q t then c t else 0) + (if u = 2 * q t + 1 ∧ v = 2 * p t then c t else 0)) n
theorem kS_bd {f : Nat → Nat} {c : Nat} : ∀ n, (∀ k, k < n → f k ≤ c) → kS f n ≤ n * c
  | 0, _ => Nat.zero_le _
  | n + 1, h => by
    have h1 := kS_bd n fun k hk => h k (by omega)
    have h2 := h n (by omega)
    show kS f n + f n ≤ (n + 1) * c
    rw [Nat.add_mul, Nat.one_mul]
    omega
theorem kR0_le {b p q c : Nat → Nat} {m n u v : Nat} (hm : m ≤ 6) (hn : n ≤ 10) (hb : ∀ s, s < m → b s ≤ 9) (hc : ∀ t, t < n → c t ≤ 10) : kR0 b p q c m n u v ≤ 254 := by
  have h1 : kS (fun s => if u = 2 * s ∧ v = 2 * s + 1 then b s else 0) m ≤ m * 9 := kS_bd m fun k hk => by
    have := hb k hk
    split <;> omega
  have h2 : kS (fun t => (if u = 2 * p t + 1 ∧ v = 2 * q t then c t else 0) + (if u = 2 * q t + 1 ∧ v = 2 * p t then c t else 0)) n ≤ n * 20 := kS_bd n fun k hk => by
    have := hc k hk
    split <;> split <;> omega
  unfold kR0
  omega
theorem kR0_s {b p q c : Nat → Nat} {m k u v : Nat} : kR0 b p q c m (k + 1) u v = kR0 b p q c m k u v + ((if u = 2 * p k + 1 ∧ v = 2 * q k then c k else 0) + (if u = 2 * q k + 1 ∧ v = 2 * p k then c k else 0)) := (Nat.add_assoc _ _ _).symm
/-- out of an entrance leads but its own switch -/
theorem kR0_cut {b p q c : Nat → Nat} {m n a : Nat} (ha : a < m) (hm : m ≤ 6) : kCut (kR0 b p q c m n) (fun x => decide (x = 2 * a)) = b a := by
  have h1 : ∀ v, kR0 b p q c m n (2 * a) v = if v = 2 * a + 1 then b a else 0 := by
    intro v
    unfold kR0
    have e1 : kS (fun s => if 2 * a = 2 * s ∧ v = 2 * s + 1 then b s else 0) m = kS (fun s => if s = a then (if v = 2 * a + 1 then b a else 0) else 0) m := by
      refine kS_congr m fun s hs => ?_
      by_cases e : s = a
      · subst e
        rw [if_pos rfl]
        by_cases e2 : v = 2 * s + 1
        · rw [if_pos ⟨rfl, e2⟩, if_pos e2]
        · rw [if_neg fun h => e2 h.2, if_neg e2]
      · rw [if_neg e, if_neg fun h => e (by omega)]
    have e2 : kS (fun t => (if 2 * a = 2 * p t + 1 ∧ v = 2 * q t then c t else 0) + (if 2 * a = 2 * q t + 1 ∧ v = 2 * p t then c t else 0)) n = kS (fun _ => 0) n := by
      refine kS_congr n fun t ht => ?_
      rw [if_neg fun h => by omega, if_neg fun h => by omega]
    rw [e1, e2, kS_zero, kS_one, if_pos ha, Nat.add_zero]
  unfold kCut
  have h2 : kS (fun u => kS (fun v => if (decide (u = 2 * a) && !decide (v = 2 * a)) = true then kR0 b p q c m n u v else 0) 12) 12 = kS (fun u => kS (fun v => if u = 2 * a ∧ v = 2 * a + 1 then b a else 0) 12) 12 := by
    refine kS_congr 12 fun u hu => kS_congr 12 fun v hv => ?_
    by_cases e : u = 2 * a
    · rw [e, h1 v]
      by_cases e2 : v = 2 * a + 1
      · rw [if_pos e2, if_pos (show 2 * a = 2 * a ∧ v = 2 * a + 1 from ⟨rfl, e2⟩), if_pos (by rw [decide_eq_false (show ¬ v = 2 * a by omega)]; simp)]
      · rw [if_neg e2, if_neg (show ¬ (2 * a = 2 * a ∧ v = 2 * a + 1) from fun h => e2 h.2), ite_self]
    · rw [if_neg (by rw [decide_eq_false e]; simp), if_neg (fun h => e h.1)]
  rw [h2, kS_pt (by omega) (by omega)]
/-- the row of the class, filled -/
theorem kAdd_at {g : Nat → Int32} {u v x y : Nat} {w : Int32} (hv : v < 12) (hy : y < 12) : kAdd g u v w (x * 12 + y) = if x = u ∧ y = v then g (x * 12 + y) + w else g (x * 12 + y) := by
  show (if x * 12 + y = u * 12 + v then g (u * 12 + v) + w else g (x * 12 + y)) = _
  by_cases e : x = u ∧ y = v
  · rw [if_pos e, e.1, e.2, if_pos rfl]
  · rw [if_neg e, if_neg]
    omega
theorem kFill_mx {bars wires : Nat → Int32} {b p q c : Nat → Nat} {wo : Int32} {m n : Nat} {g : Nat → Int32} (hm : m ≤ 6) (hn : n ≤ 10) (hb : ∀ s, s < m → bars s = iN (b s) ∧ b s ≤ 9) (hc : ∀ t, t < n → wires t + (if iN t = wo then 1 else 0) = iN (c t) ∧ c t ≤ 10) (hp : ∀ t, t < n → p t < 6) (hq : ∀ t, t < n → q t < 6) : kMx (kFill bars p q wires wo m n g) (kR0 b p q c m n) := by
  have h1 : ∀ k, k ≤ m → ∀ x y, x < 12 → y < 12 → jfold (fun s g => kAdd g (2 * s) (2 * s + 1) (bars s)) 0 k (fun j => if j < 144 then 0 else g j) (x * 12 + y) = iN (kS (fun s => if x = 2 * s ∧ y = 2 * s + 1 then b s else 0) k) := by
    intro k
    induction k with
    | zero =>
      intro _ x y hx hy
      show (if x * 12 + y < 144 then 0 else g (x * 12 + y)) = iN 0
      rw [if_pos (by omega)]
      rfl
    | succ k ih =>
      intro hk x y hx hy
      rw [jfold_snoc, Nat.zero_add, kAdd_at (by omega) hy, ih (by omega) x y hx hy, (hb k (by omega)).1]
      show _ = iN (kS (fun s => if x = 2 * s ∧ y = 2 * s + 1 then b s else 0) k + (if x = 2 * k ∧ y = 2 * k + 1 then b k else 0))
      rw [← iN_add]
      split
      · rfl
      · exact (Int32.add_zero _).symm
  have h2 : ∀ k, k ≤ n → ∀ x y, x < 12 → y < 12 → jfold (fun t g => kFt p q wires wo t g) 0 k (jfold (fun s g => kAdd g (2 * s) (2 * s + 1) (bars s)) 0 m (fun j => if j < 144 then 0 else g j)) (x * 12 + y) = iN (kR0 b p q c m k x y) := by
    intro k
    induction k with
    | zero => intro _ x y hx hy; exact h1 m (Nat.le_refl _) x y hx hy
    | succ k ih =>
      intro hk x y hx hy
      rw [jfold_snoc, Nat.zero_add]
      have hpk := hp k (by omega)
      have hqk := hq k (by omega)
      have ihk := ih (by omega) x y hx hy
      generalize jfold (fun t g => kFt p q wires wo t g) 0 k (jfold (fun s g => kAdd g (2 * s) (2 * s + 1) (bars s)) 0 m (fun j => if j < 144 then 0 else g j)) = G at ihk ⊢
      unfold kFt
      rw [(hc k (by omega)).1, kAdd_at (by omega) hy, kAdd_at (by omega) hy, ihk]
      have e : kR0 b p q c m (k + 1) x y = kR0 b p q c m k x y + ((if x = 2 * p k + 1 ∧ y = 2 * q k then c k else 0) + (if x = 2 * q k + 1 ∧ y = 2 * p k then c k else 0)) := kR0_s
      rw [e, ← iN_add, ← iN_add]
      by_cases a1 : x = 2 * p k + 1 ∧ y = 2 * q k
      · by_cases a2 : x = 2 * q k + 1 ∧ y = 2 * p k
        · simp only [if_pos a1, if_pos a2]
          rw [Int32.add_assoc]
        · simp only [if_pos a1, if_neg a2]
          rw [show iN 0 = 0 from rfl, Int32.add_zero]
      · by_cases a2 : x = 2 * q k + 1 ∧ y = 2 * p k
        · simp only [if_neg a1, if_pos a2]
          rw [show iN 0 = 0 from rfl, Int32.zero_add]
        · simp only [if_neg a1, if_neg a2]
          rw [show iN 0 = 0 from rfl, Int32.zero_add, Int32.add_zero]
  intro u v hu hv
  have hle := fun x y => kR0_le (p := p) (q := q) (u := x) (v := y) hm hn (fun s hs => (hb s hs).2) (fun t ht => (hc t ht).2)
  exact ⟨h2 n (Nat.le_refl _) u v hu hv, by have := hle u v; have := hle v u; omega⟩
section FLOW
variable {μ : jM} {p m n a b : Nat} {bb P Q2 cc : Nat → Nat} {wo : Int32}
/-- numbers in a square of the reference -/
def kMV (μ : jM) (q : Nat) (F : Nat → Nat → Nat) : Prop := ∀ u, u < 12 → jQ μ (64 * q + 34) u = some (64 * (q + 1 + u) + 18) ∧ ∀ v, v < 12 → jI μ (64 * (q + 1 + u) + 18) v = iN (F u v)
theorem kMV_I {q u v : Nat} {F : Nat → Nat → Nat} {w : Nat} (h : kMV μ q F) (hu : u < 12) : kMV (jsI μ (64 * (q + 1 + u) + 18) v (iN w)) q (fun x y => if x = u ∧ y = v then w else F x y) := by
  intro x hx
  refine ⟨(h x hx).1, fun y hy => ?_⟩
  show _ = iN (if x = u ∧ y = v then w else F x y)
  by_cases e : x = u
  · rw [e, mI1]
    by_cases e2 : y = v
    · rw [if_pos e2, if_pos (show u = u ∧ y = v from ⟨rfl, e2⟩)]
    · rw [if_neg e2, if_neg (show ¬ (u = u ∧ y = v) from fun h => e2 h.2), ← e]
      exact (h x hx).2 y hy
  · rw [mI2 (by omega), if_neg (fun h => e h.1)]
    exact (h x hx).2 y hy
theorem kMV_c {q : Nat} {F G : Nat → Nat → Nat} (h : kMV μ q F) (e : ∀ x y, x < 12 → y < 12 → F x y = G x y) : kMV μ q G := fun x hx => ⟨(h x hx).1, fun y hy => ((h x hx).2 y hy).trans (by rw [e x y hx hy])⟩
theorem kS_none {f : Nat → Nat} : ∀ n, (∀ k, k < n → f k = 0) → kS f n = 0
  | 0, _ => rfl
  | n + 1, h => by
    show kS f n + f n = 0
    rw [kS_none n fun k hk => h k (by omega), h n (by omega)]
def kPlF (B : jM) (p m n : Nat) (bb P Q2 ww : Nat → Nat) : Prop := jMp B p ∧ jI B (64 * p + 11) 0 = iN m ∧ m ≤ 6 ∧ jI B (64 * p + 11) 6 = iN n ∧ n ≤ 10 ∧ (∀ s, s < m → jI B (64 * p + 84) s = iN (bb s) ∧ bb s ≤ 9) ∧ ∀ t, t < n → jI B (64 * p + 336) t = iN (P t) ∧ P t < 6 ∧ jI B (64 * p + 400) t = iN (Q2 t) ∧ Q2 t < 6 ∧ jI B (64 * p + 464) t = iN (ww t) ∧ ww t ≤ 9 ∧ ¬ P t = Q2 t
def kW1 (ww : Nat → Nat) (wo : Int32) (t : Nat) : Nat := ww t + (if iN t = wo then 1 else 0)
theorem jGb_p {q c s : Nat} {μ μ' : jM} {ww : Nat → Nat} (hq : 120 ≤ q) (hp : p + 14 ≤ q) (hg : jGb q c s μ μ') (h : kPlF μ p m n bb P Q2 ww) : kPlF μ' p m n bb P Q2 ww := by
  obtain ⟨⟨h1, h2, h3, h4⟩, h5, h6, h7, h8, h9, h10⟩ := h
  have r : ∀ a, a < 64 * q → jI μ' a = jI μ a ∧ jL μ' a = jL μ a ∧ jQ μ' a = jQ μ a := hg.1
  have rq : ∀ a, a < 7680 → jQ μ' a = jQ μ a := fun a ha => (r a (by omega)).2.2
  have ri : ∀ c, c < 896 → jI μ' (64 * p + c) = jI μ (64 * p + c) := fun c hc => (r _ (by omega)).1
  refine ⟨⟨?_, h2, ?_, ?_⟩, ?_, h6, ?_, h8, ?_, ?_⟩
  · unfold jWd at h1 ⊢
    simp only [rq 0 (by decide), rq 65 (by decide), rq 194 (by decide), rq 579 (by decide), rq 1156 (by decide), rq 1413 (by decide), rq 1478 (by decide), rq 1731 (by decide), rq 2308 (by decide), rq 2567 (by decide), rq 3400 (by decide), rq 3463 (by decide), rq 4296 (by decide), rq 4361 (by decide), rq 4490 (by decide), rq 4939 (by decide), rq 5836 (by decide), rq 6732 (by decide)]
    exact h1
  · rw [rq 4490 (by decide)]; exact h3
  · unfold jMq at h4 ⊢
    rw [(r (64 * p + 11) (by omega)).2.2]
    exact h4
  · rw [ri 11 (by decide)]; exact h5
  · rw [ri 11 (by decide)]; exact h7
  · rw [ri 84 (by decide)]; exact h9
  · rw [ri 336 (by decide), ri 400 (by decide), ri 464 (by decide)]; exact h10
theorem d_fill1 {q : Nat} {ww : Nat → Nat} (hq : 120 ≤ q) (hp : p + 14 ≤ q) : ∀ k, k ≤ m → ∀ (μ : jM), kPlF μ p m n bb P Q2 ww → kMV μ q (fun _ _ => 0) → ∃ μ', jGb q 0 0 μ μ' ∧ kMV μ' q (fun x y => kS (fun s => if x = 2 * s ∧ y = 2 * s + 1 then bb s else 0) k) ∧ ∀ (d : Nat) (Q : jO → jM → Prop), (Ex d 243 13 [some (.ref 4490), some (.int (iN a)), some (.int (iN b)), some (.int wo), some (.ref (64 * q + 34)), some (.int (iN 0)), none] [] μ Q ↔ Ex d 243 13 [some (.ref 4490), some (.int (iN a)), some (.int (iN b)), some (.int wo), some (.ref (64 * q + 34)), some (.int (iN k)), none] [] μ' Q) := by
  intro k
  induction k with
  | zero => intro _ μ _ hV; exact ⟨μ, jGb_r, hV, fun _ _ => Iff.rfl⟩
  | succ k ih =>
    intro hk μ hP hV
    obtain ⟨μ1, g1, v1, e1⟩ := ih (by omega) μ hP hV
    have hP1 := jGb_p hq hp g1 hP
    obtain ⟨hM, hm, h6, hn, h10, hb, ht⟩ := hP1
    obtain ⟨hb1, hb2⟩ := hb k (by omega)
    have hv2 := kMV_I (v := 2 * k + 1) (w := bb k) v1 (show 2 * k < 12 by omega)
    refine ⟨_, jGb_t g1 (jGb_I (by omega)), kMV_c hv2 ?_, fun d Q => (e1 d Q).trans ?_⟩
    · intro x y hx hy
      show (if x = 2 * k ∧ y = 2 * k + 1 then bb k else kS (fun s => if x = 2 * s ∧ y = 2 * s + 1 then bb s else 0) k) = kS (fun s => if x = 2 * s ∧ y = 2 * s + 1 then bb s else 0) k + (if x = 2 * k ∧ y = 2 * k + 1 then bb k else 0)
      by_cases e : x = 2 * k ∧ y = 2 * k + 1
      · rw [if_pos e, if_pos e, kS_none k fun s hs => if_neg (by omega), Nat.zero_add]
      · rw [if_neg e, if_neg e, Nat.add_zero]
    · obtain ⟨hW, hpp, hpl, hq2⟩ := hM
      have hw := hW
      unfold jWd at hw
      unfold jMq at hq2
      have jp := JP p
      have jpm := JPm p
      have hlt : iN k < iN m := (iN_lt (by omega) (by omega)).mpr (by omega)
      have kc : (iN k).toNatClampNeg = k := iN_cl (by omega)
      have kj : jin (iN k) 6 = true := iN_in (by omega) (by omega)
      have k2 : 2 * iN k = iN (2 * k) := iN_two
      have c2 : (iN (2 * k)).toNatClampNeg = 2 * k := iN_cl (by omega)
      have j2 : jin (iN (2 * k)) 12 = true := iN_in (by omega) (by omega)
      have c3 : (iN (2 * k + 1)).toNatClampNeg = 2 * k + 1 := iN_cl (by omega)
      have j3 : jin (iN (2 * k + 1)) 12 = true := iN_in (by omega) (by omega)
      have h18 := JR18
      have h34 := JR34
      have m1 := (v1 (2 * k) (by omega)).1
      rw [x243_13]
      simp only [x243_0, x243_2, x243_4, x243_8a, x243_8b, x243_8c, x243_10, x243_11a, x243_11b, x243_11c, x243_15, x243_16, x243_19, x243_22, x243_25, x243_27, x243_28, x243_30, x243_31, x243_32, x243_33, x243_35, x243_36, x243_37, x243_38, x243_39, x243_42, x243_45, x243_47, x243_48, x243_49a, x243_49b, x243_49c, x243_52, x243_55, x243_56a, x243_56b, x243_56c, x243_60, x243_61, x243_64, x243_67, x243_70, x243_71, x243_74, x243_77, x243_79, x243_80, x243_82, x243_83, x243_86, x243_87, x243_90, x243_91, x243_92a, x243_92b, x243_92c, x243_94, x243_96, x243_97, x243_98, x243_101, x243_104, x243_106, x243_107, x243_108, x243_109, x243_110, x243_111, x243_112, x243_113, x243_116, x243_119, x243_121, x243_122, x243_123a, x243_123b, x243_124, x243_125, x243_127, x243_128, x243_129, x243_131, x243_132, x243_133, x243_136, x243_139, x243_141, x243_142, x243_143, x243_144, x243_145, x243_146, x243_147, x243_148, x243_151, x243_154, x243_156, x243_157, x243_158a, x243_158b, x243_159, x243_160, x243_162, x243_163, x243_164a, x243_164b, x243_164c, x243_167, x243_170, x243_171a, x243_171b, x243_171c, x243_175, x243_176, x243_177, x243_178, x243_179, x243_180, x243_181, x243_182, x243_183, x243_186, x243_189a, x243_189b, x243_189c, x243_192, x243_195, x243_197, mzi, mInc, mne, mlt9, mrk, mI1, mI2, mI3, mI4, mL1, mL2, mL3, mL4, mQ1, mQ2, mQ3, mQ4, mT1, mcat0, mcat1, mcat2, mcat3, mcat4, mrf1, jK_v, jK_n, JA, mz1, if_true, if_false, ite_true, ite_false, eq_self, not_false_eq_true, Nat.zero_le, true_and, and_true, and_self, Nat.reduceMod, Nat.reduceAdd, Nat.reduceLeDiff, Nat.reduceEqDiff, Nat.reduceLT, hw, hpl, hq2, jp, jpm, hm, hlt, kc, kj, k2, c2, j2, c3, j3, h18, h34, m1, hb1]
theorem d_fill2 {q : Nat} {ww : Nat → Nat} (hq : 120 ≤ q) (hp : p + 14 ≤ q) : ∀ k, k ≤ n → ∀ (μ : jM), kPlF μ p m n bb P Q2 ww → kMV μ q (kR0 bb P Q2 (kW1 ww wo) m 0) → ∃ μ' b2, jGb q 0 0 μ μ' ∧ kMV μ' q (kR0 bb P Q2 (kW1 ww wo) m k) ∧ ∀ (d : Nat) (Q : jO → jM → Prop), (Ex d 243 58 [some (.ref 4490), some (.int (iN a)), some (.int (iN b)), some (.int wo), some (.ref (64 * q + 34)), some (.int (iN 0)), none] [] μ Q ↔ Ex d 243 58 [some (.ref 4490), some (.int (iN a)), some (.int (iN b)), some (.int wo), some (.ref (64 * q + 34)), some (.int (iN k)), b2] [] μ' Q) := by
  intro k
  induction k with
  | zero => intro _ μ _ hV; exact ⟨μ, none, jGb_r, hV, fun _ _ => Iff.rfl⟩
  | succ k ih =>
    intro hk μ hP hV
    obtain ⟨μ1, b2, g1, v1, e1⟩ := ih (by omega) μ hP hV
    have hP1 := jGb_p hq hp g1 hP
    obtain ⟨hM, hm, h6, hn, h10, hb, ht⟩ := hP1
    obtain ⟨t1, t2, t3, t4, t5, t6, t7⟩ := ht k (by omega)
    have hv2 := kMV_I (v := 2 * Q2 k) (w := kR0 bb P Q2 (kW1 ww wo) m k (2 * P k + 1) (2 * Q2 k) + kW1 ww wo k) v1 (show 2 * P k + 1 < 12 by omega)
    have hv3 := kMV_I (v := 2 * P k) (w := (fun x y => if x = 2 * P k + 1 ∧ y = 2 * Q2 k then kR0 bb P Q2 (kW1 ww wo) m k (2 * P k + 1) (2 * Q2 k) + kW1 ww wo k else kR0 bb P Q2 (kW1 ww wo) m k x y) (2 * Q2 k + 1) (2 * P k) + kW1 ww wo k) hv2 (show 2 * Q2 k + 1 < 12 by omega)
    refine ⟨_, some (.int (iN (kW1 ww wo k))), jGb_t (jGb_t g1 (jGb_I (by omega))) (jGb_I (by omega)), kMV_c hv3 ?_, fun d Q => (e1 d Q).trans ?_⟩
    · intro x y hx hy
      have e : kR0 bb P Q2 (kW1 ww wo) m (k + 1) x y = kR0 bb P Q2 (kW1 ww wo) m k x y + ((if x = 2 * P k + 1 ∧ y = 2 * Q2 k then kW1 ww wo k else 0) + (if x = 2 * Q2 k + 1 ∧ y = 2 * P k then kW1 ww wo k else 0)) := kR0_s
      rw [e]
      dsimp only
      by_cases a2 : x = 2 * Q2 k + 1 ∧ y = 2 * P k
      · have a1 : ¬ (x = 2 * P k + 1 ∧ y = 2 * Q2 k) := fun h => t7 (by omega)
        rw [if_pos a2, if_neg (show ¬ (2 * Q2 k + 1 = 2 * P k + 1 ∧ 2 * P k = 2 * Q2 k) from fun h => t7 (by omega)), if_pos a2, if_neg a1, a2.1, a2.2, Nat.zero_add]
      · rw [if_neg a2, if_neg a2]
        by_cases a1 : x = 2 * P k + 1 ∧ y = 2 * Q2 k
        · rw [if_pos a1, if_pos a1, a1.1, a1.2]
          rfl
        · rw [if_neg a1, if_neg a1]
          rfl
    · obtain ⟨hW, hpp, hpl, hq2⟩ := hM
      have hw := hW
      unfold jWd at hw
      unfold jMq at hq2
      have jp := JP p
      have jpm := JPm p
      have hlt : iN k < iN n := (iN_lt (by omega) (by omega)).mpr (by omega)
      have kc : (iN k).toNatClampNeg = k := iN_cl (by omega)
      have kj : jin (iN k) 10 = true := iN_in (by omega) (by omega)
      have p2 : 2 * iN (P k) = iN (2 * P k) := iN_two
      have q2 : 2 * iN (Q2 k) = iN (2 * Q2 k) := iN_two
      have c2 : (iN (2 * P k)).toNatClampNeg = 2 * P k := iN_cl (by omega)
      have j2 : jin (iN (2 * P k)) 12 = true := iN_in (by omega) (by omega)
      have c3 : (iN (2 * P k + 1)).toNatClampNeg = 2 * P k + 1 := iN_cl (by omega)
      have j3 : jin (iN (2 * P k + 1)) 12 = true := iN_in (by omega) (by omega)
      have c4 : (iN (2 * Q2 k)).toNatClampNeg = 2 * Q2 k := iN_cl (by omega)
      have j4 : jin (iN (2 * Q2 k)) 12 = true := iN_in (by omega) (by omega)
      have c5 : (iN (2 * Q2 k + 1)).toNatClampNeg = 2 * Q2 k + 1 := iN_cl (by omega)
      have j5 : jin (iN (2 * Q2 k + 1)) 12 = true := iN_in (by omega) (by omega)
      have h18 := JR18
      have h34 := JR34
      have m1 := (v1 (2 * P k + 1) (by omega)).1
      have m2 := (v1 (2 * P k + 1) (by omega)).2 (2 * Q2 k) (by omega)
      have m3 := (hv2 (2 * Q2 k + 1) (by omega)).1
      have m4 := (hv2 (2 * Q2 k + 1) (by omega)).2 (2 * P k) (by omega)
      have hne : ∀ c u, c < 900 → ¬ 64 * p + c = 64 * (q + 1 + u) + 18 := fun c u h => by omega
      have hw1 : iN (ww k) + (if iN k = wo then 1 else 0) = iN (kW1 ww wo k) := by
        unfold kW1
        rw [← iN_add]
        split <;> rfl
      have hw2 : ∀ x, iN x + iN (kW1 ww wo k) = iN (x + kW1 ww wo k) := fun x => iN_add
      have hsum := hw2 (kR0 bb P Q2 (kW1 ww wo) m k (2 * P k + 1) (2 * Q2 k))
      rw [x243_58]
      dsimp only at m4
      rw [if_neg (show ¬ (2 * Q2 k + 1 = 2 * P k + 1 ∧ 2 * P k = 2 * Q2 k) from fun h => t7 (by omega))] at m4
      have hn4 : ¬ (2 * Q2 k + 1 = 2 * P k + 1 ∧ 2 * P k = 2 * Q2 k) := fun h => t7 (by omega)
      have ho : ¬ 64 * (q + 1 + (2 * Q2 k + 1)) + 18 = 64 * (q + 1 + (2 * P k + 1)) + 18 := fun h => t7 (by omega)
      simp only [if_neg hn4]
      by_cases gw : iN k = wo
      · have gw' := eq_true gw
        simp only [gw', if_true] at hw1
        simp only [x243_0, x243_2, x243_4, x243_8a, x243_8b, x243_8c, x243_10, x243_11a, x243_11b, x243_11c, x243_15, x243_16, x243_19, x243_22, x243_25, x243_27, x243_28, x243_30, x243_31, x243_32, x243_33, x243_35, x243_36, x243_37, x243_38, x243_39, x243_42, x243_45, x243_47, x243_48, x243_49a, x243_49b, x243_49c, x243_52, x243_55, x243_56a, x243_56b, x243_56c, x243_60, x243_61, x243_64, x243_67, x243_70, x243_71, x243_74, x243_77, x243_79, x243_80, x243_82, x243_83, x243_86, x243_87, x243_90, x243_91, x243_92a, x243_92b, x243_92c, x243_94, x243_96, x243_97, x243_98, x243_101, x243_104, x243_106, x243_107, x243_108, x243_109, x243_110, x243_111, x243_112, x243_113, x243_116, x243_119, x243_121, x243_122, x243_123a, x243_123b, x243_124, x243_125, x243_127, x243_128, x243_129, x243_131, x243_132, x243_133, x243_136, x243_139, x243_141, x243_142, x243_143, x243_144, x243_145, x243_146, x243_147, x243_148, x243_151, x243_154, x243_156, x243_157, x243_158a, x243_158b, x243_159, x243_160, x243_162, x243_163, x243_164a, x243_164b, x243_164c, x243_167, x243_170, x243_171a, x243_171b, x243_171c, x243_175, x243_176, x243_177, x243_178, x243_179, x243_180, x243_181, x243_182, x243_183, x243_186, x243_189a, x243_189b, x243_189c, x243_192, x243_195, x243_197, mzi, mInc, mne, mlt9, mrk, mI1, mI2, mI3, mI4, mL1, mL2, mL3, mL4, mQ1, mQ2, mQ3, mQ4, mT1, mcat0, mcat1, mcat2, mcat3, mcat4, mrf1, jK_v, jK_n, JA, mz1, if_true, if_false, ite_true, ite_false, eq_self, not_false_eq_true, Nat.zero_le, true_and, and_true, and_self, Nat.reduceMod, Nat.reduceAdd, Nat.reduceLeDiff, Nat.reduceEqDiff, Nat.reduceLT, hw, hpl, hq2, jp, jpm, hn, hlt, kc, kj, p2, q2, c2, j2, c3, j3, c4, j4, c5, j5, h18, h34, m1, m2, m3, m4, t1, t3, t5, hw1, hw2, hne, ho, gw']
      · have gw' := eq_false gw
        simp only [gw', if_false, Int32.add_zero] at hw1
        simp only [x243_0, x243_2, x243_4, x243_8a, x243_8b, x243_8c, x243_10, x243_11a, x243_11b, x243_11c, x243_15, x243_16, x243_19, x243_22, x243_25, x243_27, x243_28, x243_30, x243_31, x243_32, x243_33, x243_35, x243_36, x243_37, x243_38, x243_39, x243_42, x243_45, x243_47, x243_48, x243_49a, x243_49b, x243_49c, x243_52, x243_55, x243_56a, x243_56b, x243_56c, x243_60, x243_61, x243_64, x243_67, x243_70, x243_71, x243_74, x243_77, x243_79, x243_80, x243_82, x243_83, x243_86, x243_87, x243_90, x243_91, x243_92a, x243_92b, x243_92c, x243_94, x243_96, x243_97, x243_98, x243_101, x243_104, x243_106, x243_107, x243_108, x243_109, x243_110, x243_111, x243_112, x243_113, x243_116, x243_119, x243_121, x243_122, x243_123a, x243_123b, x243_124, x243_125, x243_127, x243_128, x243_129, x243_131, x243_132, x243_133, x243_136, x243_139, x243_141, x243_142, x243_143, x243_144, x243_145, x243_146, x243_147, x243_148, x243_151, x243_154, x243_156, x243_157, x243_158a, x243_158b, x243_159, x243_160, x243_162, x243_163, x243_164a, x243_164b, x243_164c, x243_167, x243_170, x243_171a, x243_171b, x243_171c, x243_175, x243_176, x243_177, x243_178, x243_179, x243_180, x243_181, x243_182, x243_183, x243_186, x243_189a, x243_189b, x243_189c, x243_192, x243_195, x243_197, mzi, mInc, mne, mlt9, mrk, mI1, mI2, mI3, mI4, mL1, mL2, mL3, mL4, mQ1, mQ2, mQ3, mQ4, mT1, mcat0, mcat1, mcat2, mcat3, mcat4, mrf1, jK_v, jK_n, JA, mz1, if_true, if_false, ite_true, ite_false, eq_self, not_false_eq_true, Nat.zero_le, true_and, and_true, and_self, Nat.reduceMod, Nat.reduceAdd, Nat.reduceLeDiff, Nat.reduceEqDiff, Nat.reduceLT, hw, hpl, hq2, jp, jpm, hn, hlt, kc, kj, p2, q2, c2, j2, c3, j3, c4, j4, c5, j5, h18, h34, m1, m2, m3, m4, t1, t3, t5, hw1, hw2, hne, ho, gw', Int32.add_zero]
end FLOW
