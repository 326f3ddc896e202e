/-! THE PURE PART: the grammar (reference). -/
def mPost (μ : jM) (r : Nat) (kd : Nat → Nat) (num : Nat → Int32) (N D : Nat) (E : List (Nat × Nat)) (q : kR) (ν : jM) : Prop := (q.1 = true → jRr μ ν r kd num N q.2.1 D (E ++ q.2.2) ∧ kBef kd q.2.1) ∧ (q.1 = false → jRz μ ν r q.2.1)
def mM (μ : jM) (r : Nat) (kd : Nat → Nat) (num : Nat → Int32) (N m : Nat) (tail : List (Option Value)) (rk mode f : Nat) : Prop := ∀ (D i : Nat) (E : List (Nat × Nat)) (ν : jM) (d : Nat), D ≤ 8 → jRr μ ν r kd num N i D E → kBef kd i → i ≤ N - 1 → E.length ≤ i → 8 * (402 - i) + rk ≤ f → 7 * (8 - D) + rk + 6 ≤ d → ∃ ν', mPost μ r kd num N D E (kP kd f mode D i) ν' ∧ ∀ Q, (Ex d m 0 (some (.ref 4490) :: tail) [] ν Q ↔ Q (.inl (some (.int (bif (kP kd f mode D i).1 then 1 else 0)))) ν')
/-- the loops: at the head, with a local or without -/
def mL (μ : jM) (r : Nat) (kd : Nat → Nat) (num : Nat → Int32) (N m : Nat) (loc : Bool) (rk mode f : Nat) : Prop := ∀ (D i : Nat) (E : List (Nat × Nat)) (ν : jM) (d : Nat) (b1 : Option Int32), D ≤ 8 → jRr μ ν r kd num N i D E → kBef kd i → i ≤ N - 1 → E.length ≤ i → 8 * (402 - i) ≤ f → 7 * (8 - D) + rk + 6 ≤ d → ∃ ν', mPost μ r kd num N D E (kP kd f mode D i) ν' ∧ ∀ Q, (Ex d m 9 (some (.ref 4490) :: (bif loc then [b1.map .int] else [])) [] ν Q ↔ Q (.inl (some (.int (bif (kP kd f mode D i).1 then 1 else 0)))) ν')
section GRM
variable {μ ν : jM} {r : Nat} {kd : Nat → Nat} {num : Nat → Int32} {N f sz i j D K : Nat} {E l : List (Nat × Nat)} {b : Nat → Int32}
theorem jRr_take (h : jRr μ ν r kd num N i D E) (hr : 120 ≤ r) (hk : kRole kd i = 0) (hi : i < N) : jRr μ (jsI ν 4490 9 (iN (i + 1))) r kd num N (i + 1) D E := by
  obtain ⟨f1, f2, f3, f4, f5, f6, f7, f8, f9⟩ := h
  refine ⟨jRf_I f1 hr (Or.inl rfl), by rw [mI1, if_pos rfl], by rw [mI1, if_neg (by decide)]; exact f3, by rw [mI2 (by omega)]; exact f4, by rw [mI2 (by omega)]; exact f5, by rw [mI2 (by omega)]; exact f6, by rw [mI2 (by omega)]; exact f7, fun t ht => ?_, fun t ht hN => ?_⟩
  · rw [mI2 (by decide)]
    by_cases e : t = i
    · rw [e, hk]
      exact f9 i (Nat.le_refl _) hi
    · exact f8 t (by omega)
  · rw [mI2 (by decide)]
    exact f9 t (by omega) hN
theorem jRr_dep (h : jRr μ ν r kd num N i D E) (hr : 120 ≤ r) {D' : Nat} : jRr μ (jsI ν 4490 10 (iN D')) r kd num N i D' E := by
  obtain ⟨f1, f2, f3, f4, f5, f6, f7, f8, f9⟩ := h
  exact ⟨jRf_I f1 hr (Or.inr rfl), by rw [mI1, if_neg (by decide)]; exact f2, by rw [mI1, if_pos rfl], by rw [mI2 (by omega)]; exact f4, by rw [mI2 (by omega)]; exact f5, by rw [mI2 (by omega)]; exact f6, by rw [mI2 (by omega)]; exact f7, fun t ht => by rw [mI2 (by decide)]; exact f8 t ht, fun t ht hN => by rw [mI2 (by decide)]; exact f9 t ht hN⟩
theorem jRf_P {n : Nat} {x : Int32} (h : jRf r μ ν) (hr : 120 ≤ r) : jRf r μ (kPutM ν r n x) := by
  obtain ⟨a1, a2, a3, a4, a5, a6, a7⟩ := h
  unfold kPutM
  exact ⟨fun a n1 n2 n3 n4 n5 => by rw [mI2 n3, mI2 n4]; exact a1 a n1 n2 n3 n4 n5, fun j h1 h2 => by rw [mI2 (by omega), mI2 (by omega)]; exact a2 j h1 h2, fun j h1 h2 => by rw [mI1, if_neg h1, mI2 (by omega)]; exact a3 j h1 h2, a4, a5, a6, a7⟩
theorem kPutM_c {n : Nat} {x : Int32} : (∀ k, jI (kPutM ν r n x) (64 * r + 794) k = if k = n then x else jI ν (64 * r + 794) k) ∧ jI (kPutM ν r n x) (64 * r + 11) 17 = iN (n + 1) ∧ (∀ k, ¬ k = 17 → jI (kPutM ν r n x) (64 * r + 11) k = jI ν (64 * r + 11) k) ∧ ∀ a, ¬ a = 64 * r + 11 → ¬ a = 64 * r + 794 → jI (kPutM ν r n x) a = jI ν a := by
  unfold kPutM
  refine ⟨fun k => by rw [mI2 (by omega), mI1], by rw [mI1, if_pos rfl], fun k hk => by rw [mI1, if_neg hk, mI2 (by omega)], fun a h1 h2 => by rw [mI2 h1, mI2 h2]⟩
/-- an operation without anything behind it -/
theorem jRr_put {t : Nat} (h : jRr μ ν r kd num N i D E) (hr : 120 ≤ r) (hK : kTwo K = false) : jRr μ (kPutM ν r (kWds E) (iN (kCd K))) r kd num N i D (E ++ [(K, t)]) := by
  obtain ⟨f1, f2, f3, f4, f5, f6, f7, f8, f9⟩ := h
  obtain ⟨c1, c2, c3, c4⟩ := kPutM_c (ν := ν) (r := r) (n := kWds E) (x := iN (kCd K))
  have hw : kWds [(K, t)] = 1 := by show (bif kTwo K then 2 else 1) + 0 = 1; rw [hK]; rfl
  have h3 : ¬ (K = 14 ∨ K = 15 ∨ K = 16) := by
    rintro (e | e | e) <;> rw [e] at hK <;> exact absurd hK (by decide)
  have hn : kNs [(K, t)] = 0 := by show (if K = 14 ∨ K = 15 ∨ K = 16 then 1 else 0) + 0 = 0; rw [if_neg h3]
  obtain ⟨a1, a2⟩ := kWds_app E [(K, t)]
  rw [hw] at a1
  rw [hn] at a2
  refine ⟨jRf_P f1 hr, by rw [c4 4490 (by omega) (by omega)]; exact f2, by rw [c4 4490 (by omega) (by omega)]; exact f3, by rw [c2, a1], ?_, by rw [c3 19 (by decide), a2]; exact f6, ?_, fun t ht => by rw [c4 4825 (by omega) (by omega)]; exact f8 t ht, fun t ht hN => by rw [c4 4825 (by omega) (by omega)]; exact f9 t ht hN⟩
  · rw [kLm_app, Nat.zero_add]
    refine ⟨kLm_congr E 0 (fun j _ hj => by rw [c1, if_neg (by omega)]) f5, ?_, ?_⟩
    · rw [c1, if_pos rfl]
    · rw [hK]
      trivial
  · rw [kOp_app, c4 (64 * r + 856) (by omega) (by omega)]
    refine ⟨f7, ?_⟩
    show (if K = 14 ∨ K = 15 ∨ K = 16 then _ else _)
    rw [if_neg h3]
    trivial
theorem jRr_num {t : Nat} (h : jRr μ ν r kd num N i D E) (hr : 120 ≤ r) : jRr μ (kPutM (kPutM ν r (kWds E) 30) r (kWds E + 1) (num t)) r kd num N i D (E ++ [(38, t)]) := by
  obtain ⟨f1, f2, f3, f4, f5, f6, f7, f8, f9⟩ := h
  obtain ⟨c1, c2, c3, c4⟩ := kPutM_c (ν := ν) (r := r) (n := kWds E) (x := 30)
  obtain ⟨g1, g2, g3, g4⟩ := kPutM_c (ν := kPutM ν r (kWds E) 30) (r := r) (n := kWds E + 1) (x := num t)
  obtain ⟨a1, a2⟩ := kWds_app E [(38, t)]
  have hw : kWds [(38, t)] = 2 := rfl
  have hn : kNs [(38, t)] = 0 := rfl
  rw [hw] at a1
  rw [hn] at a2
  refine ⟨jRf_P (jRf_P f1 hr) hr, by rw [g4 4490 (by omega) (by omega), c4 4490 (by omega) (by omega)]; exact f2, by rw [g4 4490 (by omega) (by omega), c4 4490 (by omega) (by omega)]; exact f3, by rw [g2, a1], ?_, by rw [g3 19 (by decide), c3 19 (by decide), a2]; exact f6, ?_, fun t ht => by rw [g4 4825 (by omega) (by omega), c4 4825 (by omega) (by omega)]; exact f8 t ht, fun t ht hN => by rw [g4 4825 (by omega) (by omega), c4 4825 (by omega) (by omega)]; exact f9 t ht hN⟩
  · rw [kLm_app, Nat.zero_add]
    refine ⟨kLm_congr E 0 (fun j _ hj => by rw [g1, if_neg (by omega), c1, if_neg (by omega)]) f5, ?_, ?_⟩
    · rw [g1, if_neg (by omega), c1, if_pos rfl]
      rfl
    · show jI _ (64 * r + 794) (kWds E + 1) = num t ∧ True
      rw [g1, if_pos rfl]
      exact ⟨rfl, trivial⟩
  · rw [kOp_app, g4 (64 * r + 856) (by omega) (by omega), c4 (64 * r + 856) (by omega) (by omega)]
    exact ⟨f7, trivial⟩
theorem mPost_e {q : kR} (h : mPost μ r kd num N D (E ++ l) q ν) : mPost μ r kd num N D E (q.1, q.2.1, l ++ q.2.2) ν := ⟨fun hh => by
  have := h.1 hh
  rw [List.append_assoc] at this
  exact this, h.2⟩
theorem mPost_f {E' : List (Nat × Nat)} {q : kR} {D' : Nat} (h : mPost μ r kd num N D' E' q ν) (hf : q.1 = false) : mPost μ r kd num N D E q ν := ⟨fun hh => by rw [hf] at hh; exact Bool.noConfusion hh, h.2⟩
theorem mPost_z (h : jRz μ ν r i) : mPost μ r kd num N D E (kNo i) ν := ⟨fun hh => Bool.noConfusion (show false = true from hh), fun _ => h⟩
theorem mPost_1 (h : jRr μ ν r kd num N i D (E ++ l)) (h2 : kBef kd i) : mPost μ r kd num N D E (true, i, l) ν := ⟨fun _ => ⟨h, h2⟩, fun hh => Bool.noConfusion (show true = false from hh)⟩
theorem jRr_z {D' : Nat} (h : jRr μ ν r kd num N i D' E) : jRz μ ν r i := ⟨h.1, h.2.1⟩
theorem kRole_0 (h1 : ¬ kd i = 37) (h2 : ¬ kd i = 38) (h3 : ¬ kd i = 10) : kRole kd i = 0 := by
  unfold kRole
  rw [if_neg h1, if_neg h2, if_neg h3]
theorem kRole_n (hk : kd i = 38) (h : kBef kd i) : kRole kd i = 0 := by
  unfold kRole
  rw [if_neg (by omega), if_pos hk, if_neg h.2.1, if_neg h.2.2.1, if_neg h.2.2.2.1, if_neg h.2.2.2.2]
theorem kBef_s (h : ¬ kd i = 1 ∧ ¬ kd i = 4 ∧ ¬ kd i = 8 ∧ ¬ kd i = 9) : kBef kd (i + 1) := ⟨by omega, by rw [Nat.add_sub_cancel]; exact h⟩
theorem kW_lt (h0 : kTok kd N) (h : E.length < i) (hi : i ≤ N - 1) : kWds E < 799 := by
  have := (kWds_le E).1
  have := h0.2.1
  omega
theorem d_gProdL (h0 : jR0 μ r kd N b sz) (hs : mM μ r kd num N 126 [none, none] 1 0 f) (hm : mL μ r kd num N 125 true 2 1 f) : mL μ r kd num N 125 true 2 1 (f + 1) := by
  intro D i E ν d b1 hD hG hB hi hE hf hd
  obtain ⟨d, rfl⟩ : ∃ d', d = d' + 6 := ⟨d - 6, by omega⟩
  have hT := h0.2.1
  have hr := h0.2.2.1
  have hN1 := hT.1
  have hN2 := hT.2.1
  have hw := jRf_w h0 hG.1
  unfold jWd at hw
  have ht := hG.2.1
  have his30 : ∀ Q, (Ex (d + 5) 121 0 [some (.ref 4490), some (.int 42)] [] ν Q ↔ Q (.inl (some (.int (if kd i = 30 then 1 else 0)))) ν) := fun Q => d_isSign (K := 30) h0 hG.1 ht hi (by decide) (by decide)
  have his31 : ∀ Q, (Ex (d + 5) 121 0 [some (.ref 4490), some (.int 47)] [] ν Q ↔ Q (.inl (some (.int (if kd i = 31 then 1 else 0)))) ν) := fun Q => d_isSign (K := 31) h0 hG.1 ht hi (by decide) (by decide)
  show ∃ ν', mPost μ r kd num N D E (kLp2 kd (kP kd f) 30 31 0 1 D i) ν' ∧ ∀ Q, (Ex (d + 6) 125 9 [some (.ref 4490), b1.map .int] [] ν Q ↔ Q (.inl (some (.int (bif (kLp2 kd (kP kd f) 30 31 0 1 D i).1 then 1 else 0)))) ν')
  unfold kLp2
  by_cases g : kd i = 30 ∨ kd i = 31
  · have i1 := kTok_lt hT hi (by omega)
    have hG1 := jRr_take hG hr (kRole_0 (by omega) (by omega) (by omega)) (by omega)
    have hB1 : kBef kd (i + 1) := kBef_s (by omega)
    obtain ⟨ν1, p1, e1⟩ := hs D (i + 1) E _ (d + 5) hD hG1 hB1 i1 (by omega) (by omega) (by omega)
    have bs := kP_b hT f 0 D (i + 1) i1
    rw [if_neg (by decide)] at bs
    rw [if_pos g]
    generalize kP kd f 0 D (i + 1) = q at p1 e1 bs ⊢
    obtain ⟨ok, j, l⟩ := q
    cases ok with
    | true =>
      obtain ⟨bs1, bs2⟩ := bs
      obtain ⟨bs3, bs4⟩ := bs2 rfl
      dsimp only at bs1 bs3 bs4
      obtain ⟨hG2, hB2⟩ := p1.1 rfl
      dsimp only at hG2 hB2
      have hw1 := jRf_w h0 hG2.1
      unfold jWd at hw1
      have l1 : kWds (E ++ l) < 799 := kW_lt (i := j) hT (by rw [List.length_append]; omega) bs1
      by_cases ga : kd i = 30
      · have ga' := eq_true ga
        rw [ga]
        have hput : ∀ (Q : jO → jM → Prop), (Ex (d + 5) 120 0 [some (.ref 4490), some (.int 34)] [] ν1 Q ↔ Q (.inl none) (kPutM ν1 r (kWds (E ++ l)) (iN (kCd 30)))) := fun Q => d_put h0 hG2.1 hG2.2.2.2.1 (by omega)
        have hG3 := jRr_put (K := 30) (t := i) hG2 hr (by decide)
        obtain ⟨ν2, p2, e2⟩ := hm D j (E ++ l ++ [(30, i)]) _ (d + 6) (some 34) hD hG3 hB2 bs1 (by rw [List.length_append, List.length_append]; show E.length + l.length + 1 ≤ j; omega) (by omega) hd
        have ev : kBd (kBd (true, j, l) (kEm 30 i)) (kP kd f 1 D) = ((kP kd f 1 D j).1, (kP kd f 1 D j).2.1, (l ++ [(30, i)]) ++ (kP kd f 1 D j).2.2) := rfl
        rw [ev]
        refine ⟨ν2, mPost_e (by rw [← List.append_assoc]; exact p2), fun Q => ?_⟩
        have e2' := e2 Q
        simp only [cond_true, cond_false, Option.map_some] at e2'
        rw [x125_9]
        cases b1 <;> simp only [Option.map_some, Option.map_none, x125_0, x125_1, x125_4, x125_7, x125_8, x125_10, x125_12, x125_15, x125_18, x125_19, x125_21, x125_24, x125_27, x125_28, x125_30, x125_33, x125_36, x125_38, x125_41, x125_43a, x125_43b, x125_43c, x125_44, x125_45a, x125_45b, x125_46, x125_49, x125_50, x125_51, x125_54, x125_55, x125_58, x125_61, x125_62, x125_63, x125_64, x125_65, x125_68, x125_71, x125_72, mzi, mInc, mne, mlt9, mrk, mI1, mI2, mI3, mI4, mL1, mL2, mL3, mL4, mQ1, mQ2, mQ3, mQ4, mT1, mcat0, mcat1, mcat2, mcat3, mcat4, mrf1, jK_v, jK_n, JA, mz1, if_true, if_false, ite_true, ite_false, eq_self, not_false_eq_true, Nat.zero_le, true_and, and_true, and_self, Nat.reduceMod, Nat.reduceAdd, Nat.reduceLeDiff, Nat.reduceEqDiff, Nat.reduceLT, hw, hw1, ht, his30, ga', e1, hput, cond_true, e2']
      · have ga' := eq_false ga
        have gb : kd i = 31 := g.elim (fun h => absurd h ga) id
        have gb' := eq_true gb
        rw [gb]
        have hput : ∀ (Q : jO → jM → Prop), (Ex (d + 5) 120 0 [some (.ref 4490), some (.int 35)] [] ν1 Q ↔ Q (.inl none) (kPutM ν1 r (kWds (E ++ l)) (iN (kCd 31)))) := fun Q => d_put h0 hG2.1 hG2.2.2.2.1 (by omega)
        have hG3 := jRr_put (K := 31) (t := i) hG2 hr (by decide)
        obtain ⟨ν2, p2, e2⟩ := hm D j (E ++ l ++ [(31, i)]) _ (d + 6) (some 35) hD hG3 hB2 bs1 (by rw [List.length_append, List.length_append]; show E.length + l.length + 1 ≤ j; omega) (by omega) hd
        have ev : kBd (kBd (true, j, l) (kEm 31 i)) (kP kd f 1 D) = ((kP kd f 1 D j).1, (kP kd f 1 D j).2.1, (l ++ [(31, i)]) ++ (kP kd f 1 D j).2.2) := rfl
        rw [ev]
        refine ⟨ν2, mPost_e (by rw [← List.append_assoc]; exact p2), fun Q => ?_⟩
        have e2' := e2 Q
        simp only [cond_true, cond_false, Option.map_some] at e2'
        rw [x125_9]
        cases b1 <;> simp only [Option.map_some, Option.map_none, x125_0, x125_1, x125_4, x125_7, x125_8, x125_10, x125_12, x125_15, x125_18, x125_19, x125_21, x125_24, x125_27, x125_28, x125_30, x125_33, x125_36, x125_38, x125_41, x125_43a, x125_43b, x125_43c, x125_44, x125_45a, x125_45b, x125_46, x125_49, x125_50, x125_51, x125_54, x125_55, x125_58, x125_61, x125_62, x125_63, x125_64, x125_65, x125_68, x125_71, x125_72, mzi, mInc, mne, mlt9, mrk, mI1, mI2, mI3, mI4, mL1, mL2, mL3, mL4, mQ1, mQ2, mQ3, mQ4, mT1, mcat0, mcat1, mcat2, mcat3, mcat4, mrf1, jK_v, jK_n, JA, mz1, if_true, if_false, ite_true, ite_false, eq_self, not_false_eq_true, Nat.zero_le, true_and, and_true, and_self, Nat.reduceMod, Nat.reduceAdd, Nat.reduceLeDiff, Nat.reduceEqDiff, Nat.reduceLT, hw, hw1, ht, his30, his31, ga', gb', e1, hput, cond_true, e2']
    | false =>
      rw [kBd_f (r := kBd (false, j, l) (kEm (kd i) i)) rfl, kBd_f (r := (false, j, l)) rfl]
      refine ⟨ν1, mPost_f p1 rfl, fun Q => ?_⟩
      rw [x125_9]
      by_cases ga : kd i = 30
      · have ga' := eq_true ga
        cases b1 <;> simp only [Option.map_some, Option.map_none, x125_0, x125_1, x125_4, x125_7, x125_8, x125_10, x125_12, x125_15, x125_18, x125_19, x125_21, x125_24, x125_27, x125_28, x125_30, x125_33, x125_36, x125_38, x125_41, x125_43a, x125_43b, x125_43c, x125_44, x125_45a, x125_45b, x125_46, x125_49, x125_50, x125_51, x125_54, x125_55, x125_58, x125_61, x125_62, x125_63, x125_64, x125_65, x125_68, x125_71, x125_72, mzi, mInc, mne, mlt9, mrk, mI1, mI2, mI3, mI4, mL1, mL2, mL3, mL4, mQ1, mQ2, mQ3, mQ4, mT1, mcat0, mcat1, mcat2, mcat3, mcat4, mrf1, jK_v, jK_n, JA, mz1, if_true, if_false, ite_true, ite_false, eq_self, not_false_eq_true, Nat.zero_le, true_and, and_true, and_self, Nat.reduceMod, Nat.reduceAdd, Nat.reduceLeDiff, Nat.reduceEqDiff, Nat.reduceLT, hw, ht, his30, ga', e1, cond_false]
      · have ga' := eq_false ga
        have gb' := eq_true (g.elim (fun h => absurd h ga) id)
        cases b1 <;> simp only [Option.map_some, Option.map_none, x125_0, x125_1, x125_4, x125_7, x125_8, x125_10, x125_12, x125_15, x125_18, x125_19, x125_21, x125_24, x125_27, x125_28, x125_30, x125_33, x125_36, x125_38, x125_41, x125_43a, x125_43b, x125_43c, x125_44, x125_45a, x125_45b, x125_46, x125_49, x125_50, x125_51, x125_54, x125_55, x125_58, x125_61, x125_62, x125_63, x125_64, x125_65, x125_68, x125_71, x125_72, mzi, mInc, mne, mlt9, mrk, mI1, mI2, mI3, mI4, mL1, mL2, mL3, mL4, mQ1, mQ2, mQ3, mQ4, mT1, mcat0, mcat1, mcat2, mcat3, mcat4, mrf1, jK_v, jK_n, JA, mz1, if_true, if_false, ite_true, ite_false, eq_self, not_false_eq_true, Nat.zero_le, true_and, and_true, and_self, Nat.reduceMod, Nat.reduceAdd, Nat.reduceLeDiff, Nat.reduceEqDiff, Nat.reduceLT, hw, ht, his30, his31, ga', gb', e1, cond_false]
  · rw [if_neg g]
    refine ⟨ν, mPost_1 (by rw [List.append_nil]; exact hG) hB, fun Q => ?_⟩
    rw [x125_9]
    have ga' : (kd i = 30) = False := eq_false fun h => g (Or.inl h)
    have gb' : (kd i = 31) = False := eq_false fun h => g (Or.inr h)
    simp only [x125_0, x125_1, x125_4, x125_7, x125_8, x125_10, x125_12, x125_15, x125_18, x125_19, x125_21, x125_24, x125_27, x125_28, x125_30, x125_33, x125_36, x125_38, x125_41, x125_43a, x125_43b, x125_43c, x125_44, x125_45a, x125_45b, x125_46, x125_49, x125_50, x125_51, x125_54, x125_55, x125_58, x125_61, x125_62, x125_63, x125_64, x125_65, x125_68, x125_71, x125_72, mzi, mInc, mne, mlt9, mrk, mI1, mI2, mI3, mI4, mL1, mL2, mL3, mL4, mQ1, mQ2, mQ3, mQ4, mT1, mcat0, mcat1, mcat2, mcat3, mcat4, mrf1, jK_v, jK_n, JA, mz1, if_true, if_false, ite_true, ite_false, eq_self, not_false_eq_true, Nat.zero_le, true_and, and_true, and_self, Nat.reduceMod, Nat.reduceAdd, Nat.reduceLeDiff, Nat.reduceEqDiff, Nat.reduceLT, hw, his30, his31, ga', gb', cond_true]
theorem d_gProd (h0 : jR0 μ r kd N b sz) (hs : mM μ r kd num N 126 [none, none] 1 0 f) (hm : mL μ r kd num N 125 true 2 1 f) : mM μ r kd num N 125 [none] 2 2 (f + 1) := by
  intro D i E ν d hD hG hB hi hE hf hd
  obtain ⟨d, rfl⟩ : ∃ d', d = d' + 6 := ⟨d - 6, by omega⟩
  have hT := h0.2.1
  obtain ⟨ν1, p1, e1⟩ := hs D i E _ (d + 5) hD hG hB hi hE (by omega) (by omega)
  have bs := kP_b hT f 0 D i hi
  rw [if_neg (by decide)] at bs
  show ∃ ν', mPost μ r kd num N D E (kBd (kP kd f 0 D i) (kP kd f 1 D)) ν' ∧ ∀ Q, (Ex (d + 6) 125 0 [some (.ref 4490), none] [] ν Q ↔ Q (.inl (some (.int (bif (kBd (kP kd f 0 D i) (kP kd f 1 D)).1 then 1 else 0)))) ν')
  generalize kP kd f 0 D i = q at p1 e1 bs ⊢
  obtain ⟨ok, j, l⟩ := q
  cases ok with
  | true =>
    obtain ⟨bs1, bs2⟩ := bs
    obtain ⟨bs3, bs4⟩ := bs2 rfl
    dsimp only at bs1 bs3 bs4
    obtain ⟨hG2, hB2⟩ := p1.1 rfl
    dsimp only at hG2 hB2
    obtain ⟨ν2, p2, e2⟩ := hm D j (E ++ l) _ (d + 6) none hD hG2 hB2 bs1 (by rw [List.length_append]; omega) (by omega) hd
    have ev : kBd (true, j, l) (kP kd f 1 D) = ((kP kd f 1 D j).1, (kP kd f 1 D j).2.1, l ++ (kP kd f 1 D j).2.2) := rfl
    rw [ev]
    refine ⟨ν2, mPost_e p2, fun Q => ?_⟩
    have e2' := e2 Q
    simp only [cond_true, cond_false, Option.map_none] at e2'
    refine Iff.trans ?_ e2'
    simp only [x125_0, x125_1, x125_4, x125_7, x125_8, x125_10, x125_12, x125_15, x125_18, x125_19, x125_21, x125_24, x125_27, x125_28, x125_30, x125_33, x125_36, x125_38, x125_41, x125_43a, x125_43b, x125_43c, x125_44, x125_45a, x125_45b, x125_46, x125_49, x125_50, x125_51, x125_54, x125_55, x125_58, x125_61, x125_62, x125_63, x125_64, x125_65, x125_68, x125_71, x125_72, mzi, mInc, mne, mlt9, mrk, mI1, mI2, mI3, mI4, mL1, mL2, mL3, mL4, mQ1, mQ2, mQ3, mQ4, mT1, mcat0, mcat1, mcat2, mcat3, mcat4, mrf1, jK_v, jK_n, JA, mz1, if_true, if_false, ite_true, ite_false, eq_self, not_false_eq_true, Nat.zero_le, true_and, and_true, and_self, Nat.reduceMod, Nat.reduceAdd, Nat.reduceLeDiff, Nat.reduceEqDiff, Nat.reduceLT, e1, cond_true]
  | false =>
    rw [kBd_f (r := (false, j, l)) rfl]
    refine ⟨ν1, mPost_f p1 rfl, fun Q => ?_⟩
    simp only [x125_0, x125_1, x125_4, x125_7, x125_8, x125_10, x125_12, x125_15, x125_18, x125_19, x125_21, x125_24, x125_27, x125_28, x125_30, x125_33, x125_36, x125_38, x125_41, x125_43a, x125_43b, x125_43c, x125_44, x125_45a, x125_45b, x125_46, x125_49, x125_50, x125_51, x125_54, x125_55, x125_58, x125_61, x125_62, x125_63, x125_64, x125_65, x125_68, x125_71, x125_72, mzi, mInc, mne, mlt9, mrk, mI1, mI2, mI3, mI4, mL1, mL2, mL3, mL4, mQ1, mQ2, mQ3, mQ4, mT1, mcat0, mcat1, mcat2, mcat3, mcat4, mrf1, jK_v, jK_n, JA, mz1, if_true, if_false, ite_true, ite_false, eq_self, not_false_eq_true, Nat.zero_le, true_and, and_true, and_self, Nat.reduceMod, Nat.reduceAdd, Nat.reduceLeDiff, Nat.reduceEqDiff, Nat.reduceLT, e1, cond_false]
theorem d_gSumL (h0 : jR0 μ r kd N b sz) (hs : mM μ r kd num N 125 [none] 2 2 f) (hm : mL μ r kd num N 124 true 3 3 f) : mL μ r kd num N 124 true 3 3 (f + 1) := by
  intro D i E ν d b1 hD hG hB hi hE hf hd
  obtain ⟨d, rfl⟩ : ∃ d', d = d' + 6 := ⟨d - 6, by omega⟩
  have hT := h0.2.1
  have hr := h0.2.2.1
  have hN1 := hT.1
  have hN2 := hT.2.1
  have hw := jRf_w h0 hG.1
  unfold jWd at hw
  have ht := hG.2.1
  have his28 : ∀ Q, (Ex (d + 5) 121 0 [some (.ref 4490), some (.int 43)] [] ν Q ↔ Q (.inl (some (.int (if kd i = 28 then 1 else 0)))) ν) := fun Q => d_isSign (K := 28) h0 hG.1 ht hi (by decide) (by decide)
  have his29 : ∀ Q, (Ex (d + 5) 121 0 [some (.ref 4490), some (.int 45)] [] ν Q ↔ Q (.inl (some (.int (if kd i = 29 then 1 else 0)))) ν) := fun Q => d_isSign (K := 29) h0 hG.1 ht hi (by decide) (by decide)
  show ∃ ν', mPost μ r kd num N D E (kLp2 kd (kP kd f) 28 29 2 3 D i) ν' ∧ ∀ Q, (Ex (d + 6) 124 9 [some (.ref 4490), b1.map .int] [] ν Q ↔ Q (.inl (some (.int (bif (kLp2 kd (kP kd f) 28 29 2 3 D i).1 then 1 else 0)))) ν')
  unfold kLp2
  by_cases g : kd i = 28 ∨ kd i = 29
  · have i1 := kTok_lt hT hi (by omega)
    have hG1 := jRr_take hG hr (kRole_0 (by omega) (by omega) (by omega)) (by omega)
    have hB1 : kBef kd (i + 1) := kBef_s (by omega)
    obtain ⟨ν1, p1, e1⟩ := hs D (i + 1) E _ (d + 5) hD hG1 hB1 i1 (by omega) (by omega) (by omega)
    have bs := kP_b hT f 2 D (i + 1) i1
    rw [if_neg (by decide)] at bs
    rw [if_pos g]
    generalize kP kd f 2 D (i + 1) = q at p1 e1 bs ⊢
    obtain ⟨ok, j, l⟩ := q
    cases ok with
    | true =>
      obtain ⟨bs1, bs2⟩ := bs
      obtain ⟨bs3, bs4⟩ := bs2 rfl
      dsimp only at bs1 bs3 bs4
      obtain ⟨hG2, hB2⟩ := p1.1 rfl
      dsimp only at hG2 hB2
      have hw1 := jRf_w h0 hG2.1
      unfold jWd at hw1
      have l1 : kWds (E ++ l) < 799 := kW_lt (i := j) hT (by rw [List.length_append]; omega) bs1
      by_cases ga : kd i = 28
      · have ga' := eq_true ga
        rw [ga]
        have hput : ∀ (Q : jO → jM → Prop), (Ex (d + 5) 120 0 [some (.ref 4490), some (.int 32)] [] ν1 Q ↔ Q (.inl none) (kPutM ν1 r (kWds (E ++ l)) (iN (kCd 28)))) := fun Q => d_put h0 hG2.1 hG2.2.2.2.1 (by omega)
        have hG3 := jRr_put (K := 28) (t := i) hG2 hr (by decide)
        obtain ⟨ν2, p2, e2⟩ := hm D j (E ++ l ++ [(28, i)]) _ (d + 6) (some 32) hD hG3 hB2 bs1 (by rw [List.length_append, List.length_append]; show E.length + l.length + 1 ≤ j; omega) (by omega) hd
        have ev : kBd (kBd (true, j, l) (kEm 28 i)) (kP kd f 3 D) = ((kP kd f 3 D j).1, (kP kd f 3 D j).2.1, (l ++ [(28, i)]) ++ (kP kd f 3 D j).2.2) := rfl
        rw [ev]
        refine ⟨ν2, mPost_e (by rw [← List.append_assoc]; exact p2), fun Q => ?_⟩
        have e2' := e2 Q
        simp only [cond_true, cond_false, Option.map_some] at e2'
        rw [x124_9]
        cases b1 <;> simp only [Option.map_some, Option.map_none, x124_0, x124_1, x124_4, x124_7, x124_8, x124_10, x124_12, x124_15, x124_18, x124_19, x124_21, x124_24, x124_27, x124_28, x124_30, x124_33, x124_36, x124_38, x124_41, x124_43a, x124_43b, x124_43c, x124_44, x124_45a, x124_45b, x124_46, x124_49, x124_50, x124_51, x124_54, x124_55, x124_58, x124_61, x124_62, x124_63, x124_64, x124_65, x124_68, x124_71, x124_72, mzi, mInc, mne, mlt9, mrk, mI1, mI2, mI3, mI4, mL1, mL2, mL3, mL4, mQ1, mQ2, mQ3, mQ4, mT1, mcat0, mcat1, mcat2, mcat3, mcat4, mrf1, jK_v, jK_n, JA, mz1, if_true, if_false, ite_true, ite_false, eq_self, not_false_eq_true, Nat.zero_le, true_and, and_true, and_self, Nat.reduceMod, Nat.reduceAdd, Nat.reduceLeDiff, Nat.reduceEqDiff, Nat.reduceLT, hw, hw1, ht, his28, ga', e1, hput, cond_true, e2']
      · have ga' := eq_false ga
        have gb : kd i = 29 := g.elim (fun h => absurd h ga) id
        have gb' := eq_true gb
        rw [gb]
        have hput : ∀ (Q : jO → jM → Prop), (Ex (d + 5) 120 0 [some (.ref 4490), some (.int 33)] [] ν1 Q ↔ Q (.inl none) (kPutM ν1 r (kWds (E ++ l)) (iN (kCd 29)))) := fun Q => d_put h0 hG2.1 hG2.2.2.2.1 (by omega)
        have hG3 := jRr_put (K := 29) (t := i) hG2 hr (by decide)
        obtain ⟨ν2, p2, e2⟩ := hm D j (E ++ l ++ [(29, i)]) _ (d + 6) (some 33) hD hG3 hB2 bs1 (by rw [List.length_append, List.length_append]; show E.length + l.length + 1 ≤ j; omega) (by omega) hd
        have ev : kBd (kBd (true, j, l) (kEm 29 i)) (kP kd f 3 D) = ((kP kd f 3 D j).1, (kP kd f 3 D j).2.1, (l ++ [(29, i)]) ++ (kP kd f 3 D j).2.2) := rfl
        rw [ev]
        refine ⟨ν2, mPost_e (by rw [← List.append_assoc]; exact p2), fun Q => ?_⟩
        have e2' := e2 Q
        simp only [cond_true, cond_false, Option.map_some] at e2'
        rw [x124_9]
        cases b1 <;> simp only [Option.map_some, Option.map_none, x124_0, x124_1, x124_4, x124_7, x124_8, x124_10, x124_12, x124_15, x124_18, x124_19, x124_21, x124_24, x124_27, x124_28, x124_30, x124_33, x124_36, x124_38, x124_41, x124_43a, x124_43b, x124_43c, x124_44, x124_45a, x124_45b, x124_46, x124_49, x124_50, x124_51, x124_54, x124_55, x124_58, x124_61, x124_62, x124_63, x124_64, x124_65, x124_68, x124_71, x124_72, mzi, mInc, mne, mlt9, mrk, mI1, mI2, mI3, mI4, mL1, mL2, mL3, mL4, mQ1, mQ2, mQ3, mQ4, mT1, mcat0, mcat1, mcat2, mcat3, mcat4, mrf1, jK_v, jK_n, JA, mz1, if_true, if_false, ite_true, ite_false, eq_self, not_false_eq_true, Nat.zero_le, true_and, and_true, and_self, Nat.reduceMod, Nat.reduceAdd, Nat.reduceLeDiff, Nat.reduceEqDiff, Nat.reduceLT, hw, hw1, ht, his28, his29, ga', gb', e1, hput, cond_true, e2']
    | false =>
      rw [kBd_f (r := kBd (false, j, l) (kEm (kd i) i)) rfl, kBd_f (r := (false, j, l)) rfl]
      refine ⟨ν1, mPost_f p1 rfl, fun Q => ?_⟩
      rw [x124_9]
      by_cases ga : kd i = 28
      · have ga' := eq_true ga
        cases b1 <;> simp only [Option.map_some, Option.map_none, x124_0, x124_1, x124_4, x124_7, x124_8, x124_10, x124_12, x124_15, x124_18, x124_19, x124_21, x124_24, x124_27, x124_28, x124_30, x124_33, x124_36, x124_38, x124_41, x124_43a, x124_43b, x124_43c, x124_44, x124_45a, x124_45b, x124_46, x124_49, x124_50, x124_51, x124_54, x124_55, x124_58, x124_61, x124_62, x124_63, x124_64, x124_65, x124_68, x124_71, x124_72, mzi, mInc, mne, mlt9, mrk, mI1, mI2, mI3, mI4, mL1, mL2, mL3, mL4, mQ1, mQ2, mQ3, mQ4, mT1, mcat0, mcat1, mcat2, mcat3, mcat4, mrf1, jK_v, jK_n, JA, mz1, if_true, if_false, ite_true, ite_false, eq_self, not_false_eq_true, Nat.zero_le, true_and, and_true, and_self, Nat.reduceMod, Nat.reduceAdd, Nat.reduceLeDiff, Nat.reduceEqDiff, Nat.reduceLT, hw, ht, his28, ga', e1, cond_false]
      · have ga' := eq_false ga
        have gb' := eq_true (g.elim (fun h => absurd h ga) id)
        cases b1 <;> simp only [Option.map_some, Option.map_none, x124_0, x124_1, x124_4, x124_7, x124_8, x124_10, x124_12, x124_15, x124_18, x124_19, x124_21, x124_24, x124_27, x124_28, x124_30, x124_33, x124_36, x124_38, x124_41, x124_43a, x124_43b, x124_43c, x124_44, x124_45a, x124_45b, x124_46, x124_49, x124_50, x124_51, x124_54, x124_55, x124_58, x124_61, x124_62, x124_63, x124_64, x124_65, x124_68, x124_71, x124_72, mzi, mInc, mne, mlt9, mrk, mI1, mI2, mI3, mI4, mL1, mL2, mL3, mL4, mQ1, mQ2, mQ3, mQ4, mT1, mcat0, mcat1, mcat2, mcat3, mcat4, mrf1, jK_v, jK_n, JA, mz1, if_true, if_false, ite_true, ite_false, eq_self, not_false_eq_true, Nat.zero_le, true_and, and_true, and_self, Nat.reduceMod, Nat.reduceAdd, Nat.reduceLeDiff, Nat.reduceEqDiff, Nat.reduceLT, hw, ht, his28, his29, ga', gb', e1, cond_false]
  · rw [if_neg g]
    refine ⟨ν, mPost_1 (by rw [List.append_nil]; exact hG) hB, fun Q => ?_⟩
    rw [x124_9]
    have ga' : (kd i = 28) = False := eq_false fun h => g (Or.inl h)
    have gb' : (kd i = 29) = False := eq_false fun h => g (Or.inr h)
    simp only [x124_0, x124_1, x124_4, x124_7, x124_8, x124_10, x124_12, x124_15, x124_18, x124_19, x124_21, x124_24, x124_27, x124_28, x124_30, x124_33, x124_36, x124_38, x124_41, x124_43a, x124_43b, x124_43c, x124_44, x124_45a, x124_45b, x124_46, x124_49, x124_50, x124_51, x124_54, x124_55, x124_58, x124_61, x124_62, x124_63, x124_64, x124_65, x124_68, x124_71, x124_72, mzi, mInc, mne, mlt9, mrk, mI1, mI2, mI3, mI4, mL1, mL2, mL3, mL4, mQ1, mQ2, mQ3, mQ4, mT1, mcat0, mcat1, mcat2, mcat3, mcat4, mrf1, jK_v, jK_n, JA, mz1, if_true, if_false, ite_true, ite_false, eq_self, not_false_eq_true, Nat.zero_le, true_and, and_true, and_self, Nat.reduceMod, Nat.reduceAdd, Nat.reduceLeDiff, Nat.reduceEqDiff, Nat.reduceLT, hw, his28, his29, ga', gb', cond_true]
theorem d_gSum (h0 : jR0 μ r kd N b sz) (hs : mM μ r kd num N 125 [none] 2 2 f) (hm : mL μ r kd num N 124 true 3 3 f) : mM μ r kd num N 124 [none] 3 4 (f + 1) := by
  intro D i E ν d hD hG hB hi hE hf hd
  obtain ⟨d, rfl⟩ : ∃ d', d = d' + 6 := ⟨d - 6, by omega⟩
  have hT := h0.2.1
  obtain ⟨ν1, p1, e1⟩ := hs D i E _ (d + 5) hD hG hB hi hE (by omega) (by omega)
  have bs := kP_b hT f 2 D i hi
  rw [if_neg (by decide)] at bs
  show ∃ ν', mPost μ r kd num N D E (kBd (kP kd f 2 D i) (kP kd f 3 D)) ν' ∧ ∀ Q, (Ex (d + 6) 124 0 [some (.ref 4490), none] [] ν Q ↔ Q (.inl (some (.int (bif (kBd (kP kd f 2 D i) (kP kd f 3 D)).1 then 1 else 0)))) ν')
  generalize kP kd f 2 D i = q at p1 e1 bs ⊢
  obtain ⟨ok, j, l⟩ := q
  cases ok with
  | true =>
    obtain ⟨bs1, bs2⟩ := bs
    obtain ⟨bs3, bs4⟩ := bs2 rfl
    dsimp only at bs1 bs3 bs4
    obtain ⟨hG2, hB2⟩ := p1.1 rfl
    dsimp only at hG2 hB2
    obtain ⟨ν2, p2, e2⟩ := hm D j (E ++ l) _ (d + 6) none hD hG2 hB2 bs1 (by rw [List.length_append]; omega) (by omega) hd
    have ev : kBd (true, j, l) (kP kd f 3 D) = ((kP kd f 3 D j).1, (kP kd f 3 D j).2.1, l ++ (kP kd f 3 D j).2.2) := rfl
    rw [ev]
    refine ⟨ν2, mPost_e p2, fun Q => ?_⟩
    have e2' := e2 Q
    simp only [cond_true, cond_false, Option.map_none] at e2'
    refine Iff.trans ?_ e2'
    simp only [x124_0, x124_1, x124_4, x124_7, x124_8, x124_10, x124_12, x124_15, x124_18, x124_19, x124_21, x124_24, x124_27, x124_28, x124_30, x124_33, x124_36, x124_38, x124_41, x124_43a, x124_43b, x124_43c, x124_44, x124_45a, x124_45b, x124_46, x124_49, x124_50, x124_51, x124_54, x124_55, x124_58, x124_61, x124_62, x124_63, x124_64, x124_65, x124_68, x124_71, x124_72, mzi, mInc, mne, mlt9, mrk, mI1, mI2, mI3, mI4, mL1, mL2, mL3, mL4, mQ1, mQ2, mQ3, mQ4, mT1, mcat0, mcat1, mcat2, mcat3, mcat4, mrf1, jK_v, jK_n, JA, mz1, if_true, if_false, ite_true, ite_false, eq_self, not_false_eq_true, Nat.zero_le, true_and, and_true, and_self, Nat.reduceMod, Nat.reduceAdd, Nat.reduceLeDiff, Nat.reduceEqDiff, Nat.reduceLT, e1, cond_true]
  | false =>
    rw [kBd_f (r := (false, j, l)) rfl]
    refine ⟨ν1, mPost_f p1 rfl, fun Q => ?_⟩
    simp only [x124_0, x124_1, x124_4, x124_7, x124_8, x124_10, x124_12, x124_15, x124_18, x124_19, x124_21, x124_24, x124_27, x124_28, x124_30, x124_33, x124_36, x124_38, x124_41, x124_43a, x124_43b, x124_43c, x124_44, x124_45a, x124_45b, x124_46, x124_49, x124_50, x124_51, x124_54, x124_55, x124_58, x124_61, x124_62, x124_63, x124_64, x124_65, x124_68, x124_71, x124_72, mzi, mInc, mne, mlt9, mrk, mI1, mI2, mI3, mI4, mL1, mL2, mL3, mL4, mQ1, mQ2, mQ3, mQ4, mT1, mcat0, mcat1, mcat2, mcat3, mcat4, mrf1, jK_v, jK_n, JA, mz1, if_true, if_false, ite_true, ite_false, eq_self, not_false_eq_true, Nat.zero_le, true_and, and_true, and_self, Nat.reduceMod, Nat.reduceAdd, Nat.reduceLeDiff, Nat.reduceEqDiff, Nat.reduceLT, e1, cond_false]
theorem d_gBothL (h0 : jR0 μ r kd N b sz) (hs : mM μ r kd num N 118 [none] 5 5 f) (hm : mL μ r kd num N 117 false 6 6 f) : mL μ r kd num N 117 false 6 6 (f + 1) := by
  intro D i E ν d b1 hD hG hB hi hE hf hd
  obtain ⟨d, rfl⟩ : ∃ d', d = d' + 6 := ⟨d - 6, by omega⟩
  have hT := h0.2.1
  have hr := h0.2.2.1
  have hN1 := hT.1
  have hN2 := hT.2.1
  have hw := jRf_w h0 hG.1
  unfold jWd at hw
  have ht := hG.2.1
  have hea : ∀ (Q : jO → jM → Prop), (Ex (d + 5) 112 0 [some (.ref 4490), some (.int 18)] [] ν Q ↔ if kd i = 18 then Q (.inl (some (.int 1))) (jsI ν 4490 9 (iN (i + 1))) else Q (.inl (some (.int 0))) ν) := fun Q => d_eat (d := d + 4) (K := 18) h0 hG.1 ht hi (by decide)
  show ∃ ν', mPost μ r kd num N D E (kLp1 kd (kP kd f) 18 5 6 D i) ν' ∧ ∀ Q, (Ex (d + 6) 117 9 [some (.ref 4490)] [] ν Q ↔ Q (.inl (some (.int (bif (kLp1 kd (kP kd f) 18 5 6 D i).1 then 1 else 0)))) ν')
  unfold kLp1
  by_cases g : kd i = 18
  · have i1 := kTok_lt hT hi (by omega)
    have hG1 := jRr_take hG hr (kRole_0 (by omega) (by omega) (by omega)) (by omega)
    have hB1 : kBef kd (i + 1) := kBef_s (by omega)
    obtain ⟨ν1, p1, e1⟩ := hs D (i + 1) E _ (d + 5) hD hG1 hB1 i1 (by omega) (by omega) (by omega)
    have bs := kP_b hT f 5 D (i + 1) i1
    rw [if_neg (by decide)] at bs
    rw [if_pos g]
    generalize kP kd f 5 D (i + 1) = q at p1 e1 bs ⊢
    obtain ⟨ok, j, l⟩ := q
    cases ok with
    | true =>
      obtain ⟨bs1, bs2⟩ := bs
      obtain ⟨bs3, bs4⟩ := bs2 rfl
      dsimp only at bs1 bs3 bs4
      obtain ⟨hG2, hB2⟩ := p1.1 rfl
      dsimp only at hG2 hB2
      have hw1 := jRf_w h0 hG2.1
      unfold jWd at hw1
      have l1 : kWds (E ++ l) < 799 := kW_lt (i := j) hT (by rw [List.length_append]; omega) bs1
      have g' := eq_true g
      have hput : ∀ (Q : jO → jM → Prop), (Ex (d + 5) 120 0 [some (.ref 4490), some (.int 18)] [] ν1 Q ↔ Q (.inl none) (kPutM ν1 r (kWds (E ++ l)) (iN (kCd 18)))) := fun Q => d_put h0 hG2.1 hG2.2.2.2.1 (by omega)
      have hG3 := jRr_put (K := 18) (t := i) hG2 hr (by decide)
      obtain ⟨ν2, p2, e2⟩ := hm D j (E ++ l ++ [(18, i)]) _ (d + 6) none hD hG3 hB2 bs1 (by rw [List.length_append, List.length_append]; show E.length + l.length + 1 ≤ j; omega) (by omega) hd
      have ev : kBd (kBd (true, j, l) (kEm 18 i)) (kP kd f 6 D) = ((kP kd f 6 D j).1, (kP kd f 6 D j).2.1, (l ++ [(18, i)]) ++ (kP kd f 6 D j).2.2) := rfl
      rw [ev]
      refine ⟨ν2, mPost_e (by rw [← List.append_assoc]; exact p2), fun Q => ?_⟩
      have e2' := e2 Q
      simp only [cond_true, cond_false, Option.map_some] at e2'
      rw [x117_9]
      simp only [x117_0, x117_1, x117_4, x117_7, x117_8, x117_10, x117_12, x117_15, x117_18, x117_19, x117_22, x117_25, x117_26, x117_27, x117_28, x117_30, x117_33, x117_36, x117_37, mzi, mInc, mne, mlt9, mrk, mI1, mI2, mI3, mI4, mL1, mL2, mL3, mL4, mQ1, mQ2, mQ3, mQ4, mT1, mcat0, mcat1, mcat2, mcat3, mcat4, mrf1, jK_v, jK_n, JA, mz1, if_true, if_false, ite_true, ite_false, eq_self, not_false_eq_true, Nat.zero_le, true_and, and_true, and_self, Nat.reduceMod, Nat.reduceAdd, Nat.reduceLeDiff, Nat.reduceEqDiff, Nat.reduceLT, hw, hw1, hea, g', e1, hput, cond_true, e2']
    | false =>
      rw [kBd_f (r := kBd (false, j, l) (kEm (18) i)) rfl, kBd_f (r := (false, j, l)) rfl]
      refine ⟨ν1, mPost_f p1 rfl, fun Q => ?_⟩
      rw [x117_9]
      have g' := eq_true g
      simp only [x117_0, x117_1, x117_4, x117_7, x117_8, x117_10, x117_12, x117_15, x117_18, x117_19, x117_22, x117_25, x117_26, x117_27, x117_28, x117_30, x117_33, x117_36, x117_37, mzi, mInc, mne, mlt9, mrk, mI1, mI2, mI3, mI4, mL1, mL2, mL3, mL4, mQ1, mQ2, mQ3, mQ4, mT1, mcat0, mcat1, mcat2, mcat3, mcat4, mrf1, jK_v, jK_n, JA, mz1, if_true, if_false, ite_true, ite_false, eq_self, not_false_eq_true, Nat.zero_le, true_and, and_true, and_self, Nat.reduceMod, Nat.reduceAdd, Nat.reduceLeDiff, Nat.reduceEqDiff, Nat.reduceLT, hw, hea, g', e1, cond_false]
  · rw [if_neg g]
    refine ⟨ν, mPost_1 (by rw [List.append_nil]; exact hG) hB, fun Q => ?_⟩
    rw [x117_9]
    have g' := eq_false g
    simp only [x117_0, x117_1, x117_4, x117_7, x117_8, x117_10, x117_12, x117_15, x117_18, x117_19, x117_22, x117_25, x117_26, x117_27, x117_28, x117_30, x117_33, x117_36, x117_37, mzi, mInc, mne, mlt9, mrk, mI1, mI2, mI3, mI4, mL1, mL2, mL3, mL4, mQ1, mQ2, mQ3, mQ4, mT1, mcat0, mcat1, mcat2, mcat3, mcat4, mrf1, jK_v, jK_n, JA, mz1, if_true, if_false, ite_true, ite_false, eq_self, not_false_eq_true, Nat.zero_le, true_and, and_true, and_self, Nat.reduceMod, Nat.reduceAdd, Nat.reduceLeDiff, Nat.reduceEqDiff, Nat.reduceLT, hw, hea, g', cond_true]
theorem d_gBoth (h0 : jR0 μ r kd N b sz) (hs : mM μ r kd num N 118 [none] 5 5 f) (hm : mL μ r kd num N 117 false 6 6 f) : mM μ r kd num N 117 [] 6 7 (f + 1) := by
  intro D i E ν d hD hG hB hi hE hf hd
  obtain ⟨d, rfl⟩ : ∃ d', d = d' + 6 := ⟨d - 6, by omega⟩
  have hT := h0.2.1
  obtain ⟨ν1, p1, e1⟩ := hs D i E _ (d + 5) hD hG hB hi hE (by omega) (by omega)
  have bs := kP_b hT f 5 D i hi
  rw [if_neg (by decide)] at bs
  show ∃ ν', mPost μ r kd num N D E (kBd (kP kd f 5 D i) (kP kd f 6 D)) ν' ∧ ∀ Q, (Ex (d + 6) 117 0 [some (.ref 4490)] [] ν Q ↔ Q (.inl (some (.int (bif (kBd (kP kd f 5 D i) (kP kd f 6 D)).1 then 1 else 0)))) ν')
  generalize kP kd f 5 D i = q at p1 e1 bs ⊢
  obtain ⟨ok, j, l⟩ := q
  cases ok with
  | true =>
    obtain ⟨bs1, bs2⟩ := bs
    obtain ⟨bs3, bs4⟩ := bs2 rfl
    dsimp only at bs1 bs3 bs4
    obtain ⟨hG2, hB2⟩ := p1.1 rfl
    dsimp only at hG2 hB2
    obtain ⟨ν2, p2, e2⟩ := hm D j (E ++ l) _ (d + 6) none hD hG2 hB2 bs1 (by rw [List.length_append]; omega) (by omega) hd
    have ev : kBd (true, j, l) (kP kd f 6 D) = ((kP kd f 6 D j).1, (kP kd f 6 D j).2.1, l ++ (kP kd f 6 D j).2.2) := rfl
    rw [ev]
    refine ⟨ν2, mPost_e p2, fun Q => ?_⟩
    have e2' := e2 Q
    simp only [cond_true, cond_false, Option.map_none] at e2'
    refine Iff.trans ?_ e2'
    simp only [x117_0, x117_1, x117_4, x117_7, x117_8, x117_10, x117_12, x117_15, x117_18, x117_19, x117_22, x117_25, x117_26, x117_27, x117_28, x117_30, x117_33, x117_36, x117_37, mzi, mInc, mne, mlt9, mrk, mI1, mI2, mI3, mI4, mL1, mL2, mL3, mL4, mQ1, mQ2, mQ3, mQ4, mT1, mcat0, mcat1, mcat2, mcat3, mcat4, mrf1, jK_v, jK_n, JA, mz1, if_true, if_false, ite_true, ite_false, eq_self, not_false_eq_true, Nat.zero_le, true_and, and_true, and_self, Nat.reduceMod, Nat.reduceAdd, Nat.reduceLeDiff, Nat.reduceEqDiff, Nat.reduceLT, e1, cond_true]
  | false =>
    rw [kBd_f (r := (false, j, l)) rfl]
    refine ⟨ν1, mPost_f p1 rfl, fun Q => ?_⟩
    simp only [x117_0, x117_1, x117_4, x117_7, x117_8, x117_10, x117_12, x117_15, x117_18, x117_19, x117_22, x117_25, x117_26, x117_27, x117_28, x117_30, x117_33, x117_36, x117_37, mzi, mInc, mne, mlt9, mrk, mI1, mI2, mI3, mI4, mL1, mL2, mL3, mL4, mQ1, mQ2, mQ3, mQ4, mT1, mcat0, mcat1, mcat2, mcat3, mcat4, mrf1, jK_v, jK_n, JA, mz1, if_true, if_false, ite_true, ite_false, eq_self, not_false_eq_true, Nat.zero_le, true_and, and_true, and_self, Nat.reduceMod, Nat.reduceAdd, Nat.reduceLeDiff, Nat.reduceEqDiff, Nat.reduceLT, e1, cond_false]
theorem d_gTestL (h0 : jR0 μ r kd N b sz) (hs : mM μ r kd num N 117 [] 6 7 f) (hm : mL μ r kd num N 116 false 7 8 f) : mL μ r kd num N 116 false 7 8 (f + 1) := by
  intro D i E ν d b1 hD hG hB hi hE hf hd
  obtain ⟨d, rfl⟩ : ∃ d', d = d' + 6 := ⟨d - 6, by omega⟩
  have hT := h0.2.1
  have hr := h0.2.2.1
  have hN1 := hT.1
  have hN2 := hT.2.1
  have hw := jRf_w h0 hG.1
  unfold jWd at hw
  have ht := hG.2.1
  have hea : ∀ (Q : jO → jM → Prop), (Ex (d + 5) 112 0 [some (.ref 4490), some (.int 19)] [] ν Q ↔ if kd i = 19 then Q (.inl (some (.int 1))) (jsI ν 4490 9 (iN (i + 1))) else Q (.inl (some (.int 0))) ν) := fun Q => d_eat (d := d + 4) (K := 19) h0 hG.1 ht hi (by decide)
  show ∃ ν', mPost μ r kd num N D E (kLp1 kd (kP kd f) 19 7 8 D i) ν' ∧ ∀ Q, (Ex (d + 6) 116 9 [some (.ref 4490)] [] ν Q ↔ Q (.inl (some (.int (bif (kLp1 kd (kP kd f) 19 7 8 D i).1 then 1 else 0)))) ν')
  unfold kLp1
  by_cases g : kd i = 19
  · have i1 := kTok_lt hT hi (by omega)
    have hG1 := jRr_take hG hr (kRole_0 (by omega) (by omega) (by omega)) (by omega)
    have hB1 : kBef kd (i + 1) := kBef_s (by omega)
    obtain ⟨ν1, p1, e1⟩ := hs D (i + 1) E _ (d + 5) hD hG1 hB1 i1 (by omega) (by omega) (by omega)
    have bs := kP_b hT f 7 D (i + 1) i1
    rw [if_neg (by decide)] at bs
    rw [if_pos g]
    generalize kP kd f 7 D (i + 1) = q at p1 e1 bs ⊢
    obtain ⟨ok, j, l⟩ := q
    cases ok with
    | true =>
      obtain ⟨bs1, bs2⟩ := bs
      obtain ⟨bs3, bs4⟩ := bs2 rfl
      dsimp only at bs1 bs3 bs4
      obtain ⟨hG2, hB2⟩ := p1.1 rfl
      dsimp only at hG2 hB2
      have hw1 := jRf_w h0 hG2.1
      unfold jWd at hw1
      have l1 : kWds (E ++ l) < 799 := kW_lt (i := j) hT (by rw [List.length_append]; omega) bs1
      have g' := eq_true g
      have hput : ∀ (Q : jO → jM → Prop), (Ex (d + 5) 120 0 [some (.ref 4490), some (.int 19)] [] ν1 Q ↔ Q (.inl none) (kPutM ν1 r (kWds (E ++ l)) (iN (kCd 19)))) := fun Q => d_put h0 hG2.1 hG2.2.2.2.1 (by omega)
      have hG3 := jRr_put (K := 19) (t := i) hG2 hr (by decide)
      obtain ⟨ν2, p2, e2⟩ := hm D j (E ++ l ++ [(19, i)]) _ (d + 6) none hD hG3 hB2 bs1 (by rw [List.length_append, List.length_append]; show E.length + l.length + 1 ≤ j; omega) (by omega) hd
      have ev : kBd (kBd (true, j, l) (kEm 19 i)) (kP kd f 8 D) = ((kP kd f 8 D j).1, (kP kd f 8 D j).2.1, (l ++ [(19, i)]) ++ (kP kd f 8 D j).2.2) := rfl
      rw [ev]
      refine ⟨ν2, mPost_e (by rw [← List.append_assoc]; exact p2), fun Q => ?_⟩
      have e2' := e2 Q
      simp only [cond_true, cond_false, Option.map_some] at e2'
      rw [x116_9]
      simp only [x116_0, x116_1, x116_4, x116_7, x116_8, x116_10, x116_12, x116_15, x116_18, x116_19, x116_22, x116_25, x116_26, x116_27, x116_28, x116_30, x116_33, x116_36, x116_37, mzi, mInc, mne, mlt9, mrk, mI1, mI2, mI3, mI4, mL1, mL2, mL3, mL4, mQ1, mQ2, mQ3, mQ4, mT1, mcat0, mcat1, mcat2, mcat3, mcat4, mrf1, jK_v, jK_n, JA, mz1, if_true, if_false, ite_true, ite_false, eq_self, not_false_eq_true, Nat.zero_le, true_and, and_true, and_self, Nat.reduceMod, Nat.reduceAdd, Nat.reduceLeDiff, Nat.reduceEqDiff, Nat.reduceLT, hw, hw1, hea, g', e1, hput, cond_true, e2']
    | false =>
      rw [kBd_f (r := kBd (false, j, l) (kEm (19) i)) rfl, kBd_f (r := (false, j, l)) rfl]
      refine ⟨ν1, mPost_f p1 rfl, fun Q => ?_⟩
      rw [x116_9]
      have g' := eq_true g
      simp only [x116_0, x116_1, x116_4, x116_7, x116_8, x116_10, x116_12, x116_15, x116_18, x116_19, x116_22, x116_25, x116_26, x116_27, x116_28, x116_30, x116_33, x116_36, x116_37, mzi, mInc, mne, mlt9, mrk, mI1, mI2, mI3, mI4, mL1, mL2, mL3, mL4, mQ1, mQ2, mQ3, mQ4, mT1, mcat0, mcat1, mcat2, mcat3, mcat4, mrf1, jK_v, jK_n, JA, mz1, if_true, if_false, ite_true, ite_false, eq_self, not_false_eq_true, Nat.zero_le, true_and, and_true, and_self, Nat.reduceMod, Nat.reduceAdd, Nat.reduceLeDiff, Nat.reduceEqDiff, Nat.reduceLT, hw, hea, g', e1, cond_false]
  · rw [if_neg g]
    refine ⟨ν, mPost_1 (by rw [List.append_nil]; exact hG) hB, fun Q => ?_⟩
    rw [x116_9]
    have g' := eq_false g
    simp only [x116_0, x116_1, x116_4, x116_7, x116_8, x116_10, x116_12, x116_15, x116_18, x116_19, x116_22, x116_25, x116_26, x116_27, x116_28, x116_30, x116_33, x116_36, x116_37, mzi, mInc, mne, mlt9, mrk, mI1, mI2, mI3, mI4, mL1, mL2, mL3, mL4, mQ1, mQ2, mQ3, mQ4, mT1, mcat0, mcat1, mcat2, mcat3, mcat4, mrf1, jK_v, jK_n, JA, mz1, if_true, if_false, ite_true, ite_false, eq_self, not_false_eq_true, Nat.zero_le, true_and, and_true, and_self, Nat.reduceMod, Nat.reduceAdd, Nat.reduceLeDiff, Nat.reduceEqDiff, Nat.reduceLT, hw, hea, g', cond_true]
theorem d_gTest (h0 : jR0 μ r kd N b sz) (hs : mM μ r kd num N 117 [] 6 7 f) (hm : mL μ r kd num N 116 false 7 8 f) : mM μ r kd num N 116 [] 7 9 (f + 1) := by
  intro D i E ν d hD hG hB hi hE hf hd
  obtain ⟨d, rfl⟩ : ∃ d', d = d' + 6 := ⟨d - 6, by omega⟩
  have hT := h0.2.1
  obtain ⟨ν1, p1, e1⟩ := hs D i E _ (d + 5) hD hG hB hi hE (by omega) (by omega)
  have bs := kP_b hT f 7 D i hi
  rw [if_neg (by decide)] at bs
  show ∃ ν', mPost μ r kd num N D E (kBd (kP kd f 7 D i) (kP kd f 8 D)) ν' ∧ ∀ Q, (Ex (d + 6) 116 0 [some (.ref 4490)] [] ν Q ↔ Q (.inl (some (.int (bif (kBd (kP kd f 7 D i) (kP kd f 8 D)).1 then 1 else 0)))) ν')
  generalize kP kd f 7 D i = q at p1 e1 bs ⊢
  obtain ⟨ok, j, l⟩ := q
  cases ok with
  | true =>
    obtain ⟨bs1, bs2⟩ := bs
    obtain ⟨bs3, bs4⟩ := bs2 rfl
    dsimp only at bs1 bs3 bs4
    obtain ⟨hG2, hB2⟩ := p1.1 rfl
    dsimp only at hG2 hB2
    obtain ⟨ν2, p2, e2⟩ := hm D j (E ++ l) _ (d + 6) none hD hG2 hB2 bs1 (by rw [List.length_append]; omega) (by omega) hd
    have ev : kBd (true, j, l) (kP kd f 8 D) = ((kP kd f 8 D j).1, (kP kd f 8 D j).2.1, l ++ (kP kd f 8 D j).2.2) := rfl
    rw [ev]
    refine ⟨ν2, mPost_e p2, fun Q => ?_⟩
    have e2' := e2 Q
    simp only [cond_true, cond_false, Option.map_none] at e2'
    refine Iff.trans ?_ e2'
    simp only [x116_0, x116_1, x116_4, x116_7, x116_8, x116_10, x116_12, x116_15, x116_18, x116_19, x116_22, x116_25, x116_26, x116_27, x116_28, x116_30, x116_33, x116_36, x116_37, mzi, mInc, mne, mlt9, mrk, mI1, mI2, mI3, mI4, mL1, mL2, mL3, mL4, mQ1, mQ2, mQ3, mQ4, mT1, mcat0, mcat1, mcat2, mcat3, mcat4, mrf1, jK_v, jK_n, JA, mz1, if_true, if_false, ite_true, ite_false, eq_self, not_false_eq_true, Nat.zero_le, true_and, and_true, and_self, Nat.reduceMod, Nat.reduceAdd, Nat.reduceLeDiff, Nat.reduceEqDiff, Nat.reduceLT, e1, cond_true]
  | false =>
    rw [kBd_f (r := (false, j, l)) rfl]
    refine ⟨ν1, mPost_f p1 rfl, fun Q => ?_⟩
    simp only [x116_0, x116_1, x116_4, x116_7, x116_8, x116_10, x116_12, x116_15, x116_18, x116_19, x116_22, x116_25, x116_26, x116_27, x116_28, x116_30, x116_33, x116_36, x116_37, mzi, mInc, mne, mlt9, mrk, mI1, mI2, mI3, mI4, mL1, mL2, mL3, mL4, mQ1, mQ2, mQ3, mQ4, mT1, mcat0, mcat1, mcat2, mcat3, mcat4, mrf1, jK_v, jK_n, JA, mz1, if_true, if_false, ite_true, ite_false, eq_self, not_false_eq_true, Nat.zero_le, true_and, and_true, and_self, Nat.reduceMod, Nat.reduceAdd, Nat.reduceLeDiff, Nat.reduceEqDiff, Nat.reduceLT, e1, cond_false]
end GRM
