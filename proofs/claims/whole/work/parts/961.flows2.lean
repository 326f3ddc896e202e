/-! THE PURE PART: most, advise. -/
section FLOWS
variable {d p m n t L nh w mk sz r l f k j q a b : Nat} {μ ν μ2 A B : jM} {Q : jO → jM → Prop} {K : Nat → Nat} {T : Nat → List (Nat × Int32)} {x y : Int32} {pn pd : Nat → Int32}
variable {bb P Q2 ww : Nat → Nat} {fv : Int32 → Nat} {wo : Int32}
theorem fw_of (hR : jRP A B p m n t L K nh T) : ∃ bb P Q2 ww : Nat → Nat, (∀ s, s < m → jI A 1812 s = iN (bb s) ∧ bb s ≤ 9) ∧ (∀ k, k < t → jI A 2064 k = iN (P k) ∧ P k < 6) ∧ (∀ k, k < t → jI A 2128 k = iN (Q2 k) ∧ Q2 k < 6) ∧ (∀ k, k < t → jI A 2192 k = iN (ww k) ∧ ww k ≤ 9) ∧ kPlF B p m t bb P Q2 ww := by
  have hb := hR.2.2.2.2.2.2.2.1
  have hs := hR.2.2.2.2.2.2.2.2.2.2.1
  have h6 := hR.1.2.2.1
  have hB : ∀ s, s < m → jI A 1812 s = iN (jI A 1812 s).toNatClampNeg ∧ (jI A 1812 s).toNatClampNeg ≤ 9 := fun s hs => by
    obtain ⟨_, r, r1, r9, e⟩ := hb s hs
    rw [e, iN_cl (by omega)]
    exact ⟨rfl, r9⟩
  have hS : ∀ k, k < t → (jI A 2064 k = iN (jI A 2064 k).toNatClampNeg ∧ (jI A 2064 k).toNatClampNeg < 6) ∧ (jI A 2128 k = iN (jI A 2128 k).toNatClampNeg ∧ (jI A 2128 k).toNatClampNeg < 6) ∧ (jI A 2192 k = iN (jI A 2192 k).toNatClampNeg ∧ (jI A 2192 k).toNatClampNeg ≤ 9) ∧ ¬ (jI A 2064 k).toNatClampNeg = (jI A 2128 k).toNatClampNeg := fun k hk => by
    obtain ⟨_, _, ⟨u, hu, e1⟩, ⟨v, hv, e2⟩, hne, _, ⟨r, r1, r9, e3⟩, _⟩ := hs k hk
    have c1 : (iN u).toNatClampNeg = u := iN_cl (by omega)
    have c2 : (iN v).toNatClampNeg = v := iN_cl (by omega)
    have c3 : (iN r).toNatClampNeg = r := iN_cl (by omega)
    rw [e1, e2] at hne
    rw [e1, e2, e3, c1, c2, c3]
    exact ⟨⟨rfl, by omega⟩, ⟨rfl, by omega⟩, ⟨rfl, r9⟩, fun g => hne (by rw [g])⟩
  refine ⟨_, _, _, _, hB, fun k hk => (hS k hk).1, fun k hk => (hS k hk).2.1, fun k hk => (hS k hk).2.2.1, hR.2.1, hR.2.2.1, h6, hR.2.2.2.2.1, hR.1.2.2.2.2.2.2.1, fun s hs => ?_, fun k hk => ?_⟩
  · rw [← (hb s hs).1]
    exact hB s hs
  · obtain ⟨g1, g2, g3, g4⟩ := hS k hk
    obtain ⟨a1, a2, _, _, _, a6, _⟩ := hs k hk
    rw [← a1, ← a2, ← a6]
    exact ⟨g1.1, g1.2, g2.1, g2.2, g3.1, g3.2, g4⟩
theorem kGr_9 {s z : Nat} : ∀ (r k : Nat) (g : Nat → Int32), (kGr s z r k g).1 ≤ k + r
  | 0, k, g => Nat.le_refl _
  | r + 1, k, g => by
    unfold kGr
    rcases kPush z 12 s (0, g) with ⟨b, c⟩
    cases b with
    | true =>
      have := kGr_9 (s := s) (z := z) r (k + 1) c.2
      show (kGr s z r (k + 1) c.2).1 ≤ _
      omega
    | false => exact Nat.le_add_right _ _
def kFlM (μ : jM) (P Q2 : Nat → Nat) (m t a b : Nat) (wo : Int32) : jM := jsR (jsI μ 4361 2 (kFlow μ P Q2 m t a b wo).2.1) 4438 (kFlow μ P Q2 m t a b wo).2.2
/-- what flows is the least cut -/
def kCutM (bb P Q2 ww : Nat → Nat) (m t a b : Nat) (wo : Int32) (f : Nat) : Prop := (∀ S : Nat → Bool, S (2 * a) = true → S (2 * b + 1) = false → f ≤ kCut (kR0 bb P Q2 (kW1 ww wo) m t) S) ∧ ∃ S : Nat → Bool, S (2 * a) = true ∧ S (2 * b + 1) = false ∧ kCut (kR0 bb P Q2 (kW1 ww wo) m t) S = f
theorem kCutM_u {f g : Nat} (h : kCutM bb P Q2 ww m t a b wo f) (h2 : kCutM bb P Q2 ww m t a b wo g) : f = g := by
  obtain ⟨h1, S, s1, s2, s3⟩ := h
  obtain ⟨g1, Z, z1, z2, z3⟩ := h2
  have := h1 Z z1 z2
  have := g1 S s1 s2
  omega
def jScF (μ ν : jM) : Prop := (∀ a, ¬ a = 4361 → ¬ a = 4438 → jI ν a = jI μ a) ∧ jQ ν = jQ μ ∧ jL ν = jL μ ∧ jA ν = jA μ ∧ jX ν = jX μ
theorem jScF_f {ν : jM} {x : Int32} {g : Nat → Int32} (h : jScF μ ν) : jScF μ (jsR (jsI ν 4361 2 x) 4438 g) := by
  obtain ⟨s1, s2, s3, s4, s5⟩ := h
  exact ⟨fun a n1 n2 => by rw [mR2 n2, mI2 n1]; exact s1 a n1 n2, s2, s3, s4, s5⟩
theorem jScF_s (h : jScF μ ν) : jSc μ ν := by
  obtain ⟨s1, s2, s3, s4, s5⟩ := h
  exact ⟨fun a _ n => s1 a (by unfold kScr at n; omega) (by unfold kScr at n; omega), by rw [s1 2308 (by decide) (by decide)], fun k _ => by rw [s1 4490 (by decide) (by decide)], fun k _ => by rw [s1 5836 (by decide) (by decide)], fun a _ => by rw [s2], by rw [s4]; exact Nat.le_refl _⟩
/-- what the class knows of the plan as it reckons -/
def kFwA (μ : jM) (m t : Nat) (bb P Q2 ww : Nat → Nat) : Prop := jWd μ ∧ jI μ 1731 0 = iN m ∧ m ≤ 6 ∧ jI μ 1731 2 = iN t ∧ t ≤ 10 ∧ (∀ s, s < m → jI μ 1812 s = iN (bb s) ∧ bb s ≤ 9) ∧ (∀ k, k < t → jI μ 2064 k = iN (P k) ∧ P k < 6) ∧ (∀ k, k < t → jI μ 2128 k = iN (Q2 k) ∧ Q2 k < 6) ∧ ∀ k, k < t → jI μ 2192 k = iN (ww k) ∧ ww k ≤ 9
theorem kFwA_s (h : kFwA μ m t bb P Q2 ww) (hs : jScF μ ν) : kFwA ν m t bb P Q2 ww := by
  obtain ⟨s1, s2, s3, s4, s5⟩ := hs
  unfold kFwA at h ⊢
  rw [s1 1731 (by decide) (by decide), s1 1812 (by decide) (by decide), s1 2064 (by decide) (by decide), s1 2128 (by decide) (by decide), s1 2192 (by decide) (by decide)]
  exact ⟨jWd_c s2 h.1, h.2⟩
theorem c_flowF {f : Nat} (h : kFwA μ m t bb P Q2 ww) (ha : a < m) (hb : b < m) (hab : ¬ a = b) (hf : kCutM bb P Q2 ww m t a b wo f) : Ex (d + 15) 236 0 [some (.ref 4361), some (.int (iN a)), some (.int (iN b)), some (.int wo), none] [] μ Q ↔ Q (.inl (some (.int (iN f)))) (kFlM μ P Q2 m t a b wo) := by
  obtain ⟨h1, h2, h3, h4, h5, h6, h7, h8, h9⟩ := h
  have e : (kFlow μ P Q2 m t a b wo).1 = f := kFlow_eq h3 h5 ha hb hab h6 h9 (fun k hk => (h7 k hk).2) (fun k hk => (h8 k hk).2) hf.1 hf.2
  rw [← e]
  exact c_flow h1 h2 h3 h4 h5 h7 h8 (by omega) (by omega)
theorem c_most {f : Nat} (h : kFwA μ m t bb P Q2 ww) (ha : a < m) (hb : b < m) (hab : ¬ a = b) (hf : kCutM bb P Q2 ww m t a b (-1) f) : Ex (d + 16) 234 0 [some (.ref 0), some (.int (iN a)), some (.int (iN b))] [] μ Q ↔ Q (.inl (some (.int (iN f)))) (kFlM μ P Q2 m t a b (-1)) := by
  have h236 := fun (d : Nat) (Q : jO → jM → Prop) => c_flowF (d := d) (Q := Q) h ha hb hab hf
  obtain ⟨hW, hm, h6, _⟩ := h
  have hw := hW
  unfold jWd at hw
  have hnd := fun (d : Nat) (x y : Int32) (Q : jO → jM → Prop) => c_need2 (d := d) (x := x) (y := y) (Q := Q) hW
  have hj : jhas (iN a) (iN m) 6 = 1 := jhas_in ha h6 (by decide)
  have hj2 : jhas (iN b) (iN m) 6 = 1 := jhas_in hb h6 (by decide)
  have hne : ¬ iN a = iN b := fun g => hab ((iN_eq (by omega) (by omega)).mp g)
  simp only [x234_0, x234_1, x234_2, x234_3, x234_6, x234_7, x234_10, x234_11, x234_12, x234_13, x234_16, mzi, mInc, mne, mlt9, mrk, mI1, mI2, mI3, mI4, mL1, mL2, mL3, mL4, mQ1, mQ2, mQ3, mQ4, mT1, mcat0, mcat1, mcat2, mcat3, mcat4, mrf1, jK_v, jK_n, JA, mz1, if_true, if_false, ite_true, ite_false, eq_self, not_false_eq_true, Nat.zero_le, true_and, and_true, and_self, Nat.reduceMod, Nat.reduceAdd, Nat.reduceLeDiff, Nat.reduceEqDiff, Nat.reduceLT, hw, hnd, hm, hj, hj2, hne, h236]
theorem d_most {f : Nat} (hM : jMp μ p) (hm : jI μ (64 * p + 11) 0 = iN m) (h6 : m ≤ 6) (ha : a < m) (hb : b < m) (hab : ¬ a = b) (h243 : ∀ (d : Nat) (Q : jO → jM → Prop), (Ex (d + 1) 243 0 [some (.ref 4490), some (.int (iN a)), some (.int (iN b)), some (.int (-1)), none, none, none] [] (jsI μ 4490 0 0) Q ↔ Q (.inl (some (.int (iN f)))) ν)) : Ex (d + 2) 242 0 [some (.ref 4490), some (.int (iN a)), some (.int (iN b))] [] μ Q ↔ Q (.inl (some (.int (iN f)))) ν := by
  have hf := hM.2.1
  have hM' : jMp (jsI μ 4490 0 0) p := by rw [jMp_I]; exact hM
  have hm' : jI (jsI μ 4490 0 0) (64 * p + 11) 0 = iN m := by rw [mI2 (by omega)]; exact hm
  have hL := fun (d : Nat) (x : Int32) (Q : jO → jM → Prop) => d_isS (d := d) (x := x) (Q := Q) hM' hm' h6
  have hj : jhas (iN a) (iN m) 6 = 1 := jhas_in ha h6 (by decide)
  have hj2 : jhas (iN b) (iN m) 6 = 1 := jhas_in hb h6 (by decide)
  have hne : ¬ iN a = iN b := fun g => hab ((iN_eq (by omega) (by omega)).mp g)
  simp only [x242_0, x242_1, x242_2, x242_5, x242_6, x242_7, x242_10, x242_13, x242_14, x242_15, x242_18, x242_21, x242_22, x242_23, x242_26, x242_27, x242_28, x242_29, x242_32, x242_33, x242_34, x242_37, x242_40, x242_41, x242_42, x242_43, x242_44, x242_47, mzi, mInc, mne, mlt9, mrk, mI1, mI2, mI3, mI4, mL1, mL2, mL3, mL4, mQ1, mQ2, mQ3, mQ4, mT1, mcat0, mcat1, mcat2, mcat3, mcat4, mrf1, jK_v, jK_n, JA, mz1, if_true, if_false, ite_true, ite_false, eq_self, not_false_eq_true, Nat.zero_le, true_and, and_true, and_self, Nat.reduceMod, Nat.reduceAdd, Nat.reduceLeDiff, Nat.reduceEqDiff, Nat.reduceLT, hL, hj, hj2, hne, h243]
theorem op_most (x y : Int32) (hJ : jJp μ p m n t L K nh T w mk sz) : jPair μ 233 242 [some (.ref 0), some (.int x), some (.int y), some (.ref 7647), none] [some (.ref 4490), some (.int x), some (.int y)] := by
  have hJ' := hJ
  obtain ⟨h09, ⟨z1, z2⟩, h120, hR, hX, hp⟩ := hJ'
  have hW : jWd μ := hR.1.1
  obtain ⟨P1, P2, P3, P4, P5, P6, P7, _⟩ := hR.1
  by_cases h1 : (∃ l, l < m ∧ x = iN l) ∧ ∃ l, l < m ∧ y = iN l
  · obtain ⟨⟨a, ha, rfl⟩, b, hb, rfl⟩ := h1
    by_cases hab : a = b
    · subst hab
      have eA := fun (Q : jO → jM → Prop) => c_most_x2 (d := 48 + 97) (μ := μ) (Q := Q) hW P2 P3 ha
      have eB := fun (Q : jO → jM → Prop) => d_most_x2 (d := 48 + 99) (μ := jthr μ) (Q := Q) (jMp_c rfl hR.2.1) hR.2.2.1 P3 ha
      exact pair_no hJ (k := 2) (by decide) (by decide) (fun Q => l_most_1 (d := 48 + 100) eA) eB
    · obtain ⟨bb, P, Q2, ww, f1, f2, f3, f4, f5⟩ := fw_of hR
      obtain ⟨_, f, _, _, _, _, _, k1, k2, _⟩ := d_flow (wo := -1) rfl h120 hp f5 ha hb hab
      have hA : kFwA μ m t bb P Q2 ww := ⟨hW, P2, P3, P6, P7, f1, f2, f3, f4⟩
      have hs1 : jScF μ (kFlM μ P Q2 m t a b (-1)) := jScF_f ⟨fun _ _ _ => rfl, rfl, rfl, rfl, rfl⟩
      have eA := fun (Q : jO → jM → Prop) => c_most (d := 48 + 84) (Q := Q) hA ha hb hab ⟨k1, k2⟩
      obtain ⟨m1, _⟩ := jJp_mix (ν := jsL (kFlM μ P Q2 m t a b (-1)) 7647 0 (iN f).toInt64) (jSc_t (jScF_s hs1) jSc_L) hJ
      obtain ⟨m3, _⟩ := jJp_mix (ν := jsI (jsL (kFlM μ P Q2 m t a b (-1)) 7647 0 (iN f).toInt64) 4490 0 0) (jSc_t (jSc_t (jScF_s hs1) jSc_L) jSc_0) hJ
      have hF2 : kPlF (jsI (jsL (kFlM μ P Q2 m t a b (-1)) 7647 0 (iN f).toInt64) 4490 0 0) p m t bb P Q2 ww := by
        obtain ⟨q1, q2, q3, q4, q5, q6, q7⟩ := f5
        have hs := m3.2.2.2.2.2.2.2.2.2.2.1
        refine ⟨m3.2.1, m3.2.2.1, P3, m3.2.2.2.2.1, P7, fun s hs => ?_, fun k hk => ?_⟩
        · rw [← (m3.2.2.2.2.2.2.2.1 s hs).1]
          exact f1 s hs
        · obtain ⟨a1, a2, _, _, _, a6, _⟩ := hs k hk
          rw [← a1, ← a2, ← a6]
          exact ⟨(f2 k hk).1, (f2 k hk).2, (f3 k hk).1, (f3 k hk).2, (f4 k hk).1, (f4 k hk).2, (q7 k hk).2.2.2.2.2.2⟩
      obtain ⟨ν, g, c, s, c33, s400, hg, k3, k4, e243⟩ := d_flow (μ := jsI (jsL (kFlM μ P Q2 m t a b (-1)) 7647 0 (iN f).toInt64) 4490 0 0) (wo := -1) (q := (jA μ).length) rfl h120 hp hF2 ha hb hab
      have hgf : g = f := kCutM_u (wo := -1) ⟨k3, k4⟩ ⟨k1, k2⟩
      subst hgf
      have eB := fun (Q : jO → jM → Prop) => d_most (d := 48 + 99) (Q := Q) (μ := jsL (kFlM μ P Q2 m t a b (-1)) 7647 0 (iN g).toInt64) m1.2.1 m1.2.2.1 P3 ha hb hab e243
      refine pair_0 hJ (iN g) (jScF_s hs1) rfl rfl (fun Q => l_most_v (d := 48 + 100) eA) (jSc_g (r := (jA μ).length) rfl hg h120) ?_ ?_ ?_ ?_ eB
      · rw [(hg.1 4490 (by omega)).1, mI1, if_pos rfl]
      · rw [(hg.1 7647 (by omega)).2.1, mI3, mL1, if_pos rfl]
      · unfold jnc
        rw [hg.2.1, hg.2.2.1]
        show (jA μ).length + c + jX μ ≤ (jA μ).length + jX μ + 400
        omega
      · refine Nat.le_trans hg.2.2.2 ?_
        show jns μ + s ≤ _
        omega
  · have eA := fun (Q : jO → jM → Prop) => c_most_x1 (d := 48 + 97) (μ := μ) (Q := Q) hW P2 P3 h1
    have eB := fun (Q : jO → jM → Prop) => d_most_x1 (d := 48 + 99) (μ := jthr μ) (x := x) (y := y) (Q := Q) (jMp_c rfl hR.2.1) hR.2.2.1 P3 h1
    exact pair_no hJ (k := 1) (by decide) (by decide) (fun Q => l_most_2 (d := 48 + 100) eA) eB
/-- a trunk with which more would flow -/
def kAdv (fv : Int32 → Nat) (j r : Nat) : Int32 := jfst (fun k => decide (fv (-1) < fv (iN k))) j r
theorem c_advL (h : kFwA μ m t bb P Q2 ww) (ha : a < m) (hb : b < m) (hab : ¬ a = b) (hf : ∀ wo, kCutM bb P Q2 ww m t a b wo (fv wo)) (h10 : ∀ wo, fv wo < 1000) : ∀ (r j : Nat) (ν : jM), j + r = t → jScF μ ν → ∃ ν', jScF μ ν' ∧ ∀ (d : Nat) (Q : jO → jM → Prop), (Ex (d + 16) 253 20 [some (.ref 0), some (.int (iN a)), some (.int (iN b)), some (.int (iN (fv (-1)))), some (.int (iN j))] [] ν Q ↔ Q (.inl (some (.int (kAdv fv j r)))) ν')
  | 0, j, ν, e, hs => by
    have e' : j = t := e
    subst e'
    refine ⟨ν, hs, fun d Q => ?_⟩
    have hA := kFwA_s h hs
    obtain ⟨hW, hm, h6, ht, ht10, _⟩ := hA
    have hw := hW
    unfold jWd at hw
    have hge : ¬ iN j < iN j := iN_irr (by omega)
    simp only [↓if_neg hge, x253_20, x253_0, x253_1, x253_2, x253_3, x253_6, x253_7, x253_10, x253_11, x253_12, x253_13, x253_16a, x253_16b, x253_16c, x253_17, x253_18a, x253_18b, x253_18c, x253_22, x253_23, x253_26, x253_29, x253_32, x253_33, x253_36, x253_37, x253_38, x253_40, x253_43, x253_44, x253_47, x253_49, x253_50a, x253_50b, x253_50c, x253_53, x253_56, x253_57, mzi, mInc, mne, mlt9, mrk, mI1, mI2, mI3, mI4, mL1, mL2, mL3, mL4, mQ1, mQ2, mQ3, mQ4, mT1, mcat0, mcat1, mcat2, mcat3, mcat4, mrf1, jK_v, jK_n, JA, mz1, if_true, if_false, ite_true, ite_false, eq_self, not_false_eq_true, Nat.zero_le, true_and, and_true, and_self, Nat.reduceMod, Nat.reduceAdd, Nat.reduceLeDiff, Nat.reduceEqDiff, Nat.reduceLT, hw, ht, hge]
    rfl
  | r + 1, j, ν, e, hs => by
    have hA := kFwA_s h hs
    have h236 := fun (d : Nat) (Q : jO → jM → Prop) => c_flowF (d := d) (Q := Q) hA ha hb hab (hf (iN j))
    have hq : jQ (kFlM ν P Q2 m t a b (iN j)) = jQ ν := rfl
    obtain ⟨hW, hm, h6, ht, ht10, _⟩ := hA
    have hw := hW
    unfold jWd at hw
    have hlt : iN j < iN t := (iN_lt (by omega) (by omega)).mpr (by omega)
    have h1000 := h10 (-1)
    have h1001 := h10 (iN j)
    by_cases g : fv (-1) < fv (iN j)
    · refine ⟨kFlM ν P Q2 m t a b (iN j), jScF_f hs, fun d Q => ?_⟩
      have g' : iN (fv (-1)) < iN (fv (iN j)) := (iN_lt (by omega) (by omega)).mpr g
      have hv : kAdv fv j (r + 1) = iN j := by
        unfold kAdv jfst
        rw [decide_eq_true g]
        rfl
      rw [hv, x253_20]
      simp only [x253_0, x253_1, x253_2, x253_3, x253_6, x253_7, x253_10, x253_11, x253_12, x253_13, x253_16a, x253_16b, x253_16c, x253_17, x253_18a, x253_18b, x253_18c, x253_22, x253_23, x253_26, x253_29, x253_32, x253_33, x253_36, x253_37, x253_38, x253_40, x253_43, x253_44, x253_47, x253_49, x253_50a, x253_50b, x253_50c, x253_53, x253_56, x253_57, mzi, mInc, mne, mlt9, mrk, mI1, mI2, mI3, mI4, mL1, mL2, mL3, mL4, mQ1, mQ2, mQ3, mQ4, mT1, mcat0, mcat1, mcat2, mcat3, mcat4, mrf1, jK_v, jK_n, JA, mz1, if_true, if_false, ite_true, ite_false, eq_self, not_false_eq_true, Nat.zero_le, true_and, and_true, and_self, Nat.reduceMod, Nat.reduceAdd, Nat.reduceLeDiff, Nat.reduceEqDiff, Nat.reduceLT, hw, ht, hlt, h236, g']
    · obtain ⟨ν', s', e'⟩ := c_advL h ha hb hab hf h10 r (j + 1) (kFlM ν P Q2 m t a b (iN j)) (by omega) (jScF_f hs)
      refine ⟨ν', s', fun d Q => ?_⟩
      have g' : ¬ iN (fv (-1)) < iN (fv (iN j)) := by rw [iN_lt (by omega) (by omega)]; exact g
      have hv : kAdv fv j (r + 1) = kAdv fv (j + 1) r := by
        show jfst _ j (r + 1) = _
        unfold jfst
        rw [decide_eq_false g]
        rfl
      rw [hv, ← e' d Q, x253_20]
      simp only [x253_0, x253_1, x253_2, x253_3, x253_6, x253_7, x253_10, x253_11, x253_12, x253_13, x253_16a, x253_16b, x253_16c, x253_17, x253_18a, x253_18b, x253_18c, x253_22, x253_23, x253_26, x253_29, x253_32, x253_33, x253_36, x253_37, x253_38, x253_40, x253_43, x253_44, x253_47, x253_49, x253_50a, x253_50b, x253_50c, x253_53, x253_56, x253_57, mzi, mInc, mne, mlt9, mrk, mI1, mI2, mI3, mI4, mL1, mL2, mL3, mL4, mQ1, mQ2, mQ3, mQ4, mT1, mcat0, mcat1, mcat2, mcat3, mcat4, mrf1, jK_v, jK_n, JA, mz1, if_true, if_false, ite_true, ite_false, eq_self, not_false_eq_true, Nat.zero_le, true_and, and_true, and_self, Nat.reduceMod, Nat.reduceAdd, Nat.reduceLeDiff, Nat.reduceEqDiff, Nat.reduceLT, hw, ht, hlt, h236, g']
theorem c_advise (h : kFwA μ m t bb P Q2 ww) (ha : a < m) (hb : b < m) (hab : ¬ a = b) (hf : ∀ wo, kCutM bb P Q2 ww m t a b wo (fv wo)) (h10 : ∀ wo, fv wo < 1000) : ∃ ν, jScF μ ν ∧ ∀ (d : Nat) (Q : jO → jM → Prop), (Ex (d + 16) 253 0 [some (.ref 0), some (.int (iN a)), some (.int (iN b)), none, none] [] μ Q ↔ Q (.inl (some (.int (kAdv fv 0 t)))) ν) := by
  obtain ⟨ν, hs, e⟩ := c_advL h ha hb hab hf h10 t 0 (kFlM μ P Q2 m t a b (-1)) (by omega) (jScF_f ⟨fun _ _ _ => rfl, rfl, rfl, rfl, rfl⟩)
  refine ⟨ν, hs, fun d Q => ?_⟩
  have h236 := fun (d : Nat) (Q : jO → jM → Prop) => c_flowF (d := d) (Q := Q) h ha hb hab (hf (-1))
  obtain ⟨hW, hm, h6, _⟩ := h
  have hw := hW
  unfold jWd at hw
  have hnd := fun (d : Nat) (x y : Int32) (Q : jO → jM → Prop) => c_need2 (d := d) (x := x) (y := y) (Q := Q) hW
  have hj : jhas (iN a) (iN m) 6 = 1 := jhas_in ha h6 (by decide)
  have hj2 : jhas (iN b) (iN m) 6 = 1 := jhas_in hb h6 (by decide)
  have hne : ¬ iN a = iN b := fun g => hab ((iN_eq (by omega) (by omega)).mp g)
  rw [← e d Q]
  simp only [x253_0, x253_1, x253_2, x253_3, x253_6, x253_7, x253_10, x253_11, x253_12, x253_13, x253_16a, x253_16b, x253_16c, x253_17, x253_18a, x253_18b, x253_18c, x253_22, x253_23, x253_26, x253_29, x253_32, x253_33, x253_36, x253_37, x253_38, x253_40, x253_43, x253_44, x253_47, x253_49, x253_50a, x253_50b, x253_50c, x253_53, x253_56, x253_57, mzi, mInc, mne, mlt9, mrk, mI1, mI2, mI3, mI4, mL1, mL2, mL3, mL4, mQ1, mQ2, mQ3, mQ4, mT1, mcat0, mcat1, mcat2, mcat3, mcat4, mrf1, jK_v, jK_n, JA, mz1, if_true, if_false, ite_true, ite_false, eq_self, not_false_eq_true, Nat.zero_le, true_and, and_true, and_self, Nat.reduceMod, Nat.reduceAdd, Nat.reduceLeDiff, Nat.reduceEqDiff, Nat.reduceLT, hw, hnd, hm, hj, hj2, hne, h236]
theorem jGb_le {q q' c s : Nat} (h : jGb q' c s μ ν) (hq : q ≤ q') : jGb q c s μ ν := ⟨fun a ha => h.1 a (by omega), h.2⟩
theorem d_advL (h120 : 120 ≤ q) (hp : p + 14 ≤ q) (hq : (jA μ).length = q) (h : kPlF μ p m t bb P Q2 ww) (ha : a < m) (hb : b < m) (hab : ¬ a = b) (hf : ∀ wo, kCutM bb P Q2 ww m t a b wo (fv wo)) (h10 : ∀ wo, fv wo < 1000) : ∀ (r j c s : Nat) (ν : jM), j + r = t → jGb q c s μ ν → ∃ ν' c' s', c' ≤ c + 33 * r ∧ s' ≤ s + 400 * r ∧ jGb q c' s' μ ν' ∧ ∀ (d : Nat) (Q : jO → jM → Prop), (Ex (d + 2) 254 49 [some (.ref 4490), some (.int (iN a)), some (.int (iN b)), some (.int (iN (fv (-1)))), some (.int (iN j))] [] ν Q ↔ Q (.inl (some (.int (kAdv fv j r)))) ν')
  | 0, j, c, s, ν, e, hs => by
    have e' : j = t := e
    subst e'
    refine ⟨ν, c, s, by omega, by omega, hs, fun d Q => ?_⟩
    have hA := jGb_p h120 hp hs h
    obtain ⟨hM, hm, h6, ht, ht10, _⟩ := hA
    obtain ⟨hW, hp2, hpl, hq1⟩ := hM
    have hw := hW
    unfold jWd at hw
    have jpm := (JPm p).1
    have hge : ¬ iN j < iN j := iN_irr (by omega)
    simp only [↓if_neg hge, x254_49, x254_0, x254_1, x254_2, x254_5, x254_6, x254_7, x254_10, x254_13, x254_14, x254_15, x254_18, x254_21, x254_22, x254_23, x254_26, x254_27, x254_28, x254_29, x254_32, x254_33, x254_34, x254_37, x254_38, x254_39, x254_40, x254_41, x254_42, x254_45a, x254_45b, x254_45c, x254_46, x254_47a, x254_47b, x254_47c, x254_51, x254_52, x254_55, x254_58, x254_61, x254_62, x254_63, x254_64, x254_66, x254_69, x254_70, x254_73, x254_75, x254_76a, x254_76b, x254_76c, x254_79, x254_82, x254_83, mzi, mInc, mne, mlt9, mrk, mI1, mI2, mI3, mI4, mL1, mL2, mL3, mL4, mQ1, mQ2, mQ3, mQ4, mT1, mcat0, mcat1, mcat2, mcat3, mcat4, mrf1, jK_v, jK_n, JA, mz1, if_true, if_false, ite_true, ite_false, eq_self, not_false_eq_true, Nat.zero_le, true_and, and_true, and_self, Nat.reduceMod, Nat.reduceAdd, Nat.reduceLeDiff, Nat.reduceEqDiff, Nat.reduceLT, hw, hpl, jpm, ht, hge]
    rfl
  | r + 1, j, c, s, ν, e, hs => by
    have hA := jGb_p h120 hp hs h
    obtain ⟨ν1, f, c1, s1, c33, s400, hg, k1, k2, e243⟩ := d_flow (μ := ν) (wo := iN j) rfl (by have := hs.2.1; omega) (by have := hs.2.1; omega) hA ha hb hab
    have hff : f = fv (iN j) := kCutM_u (wo := iN j) ⟨k1, k2⟩ (hf (iN j))
    subst hff
    have hs1 : jGb q (c + c1) (s + s1) μ ν1 := jGb_t hs (jGb_le hg (by have := hs.2.1; omega))
    obtain ⟨hM, hm, h6, ht, ht10, _⟩ := hA
    obtain ⟨hW, hp2, hpl, hq1⟩ := hM
    have hw := hW
    unfold jWd at hw
    have jpm := (JPm p).1
    have hlt : iN j < iN t := (iN_lt (by omega) (by omega)).mpr (by omega)
    have h1000 := h10 (-1)
    have h1001 := h10 (iN j)
    by_cases g : fv (-1) < fv (iN j)
    · refine ⟨ν1, c + c1, s + s1, by omega, by omega, hs1, fun d Q => ?_⟩
      have g' : iN (fv (-1)) < iN (fv (iN j)) := (iN_lt (by omega) (by omega)).mpr g
      have hv : kAdv fv j (r + 1) = iN j := by
        unfold kAdv jfst
        rw [decide_eq_true g]
        rfl
      rw [hv, x254_49]
      simp only [x254_0, x254_1, x254_2, x254_5, x254_6, x254_7, x254_10, x254_13, x254_14, x254_15, x254_18, x254_21, x254_22, x254_23, x254_26, x254_27, x254_28, x254_29, x254_32, x254_33, x254_34, x254_37, x254_38, x254_39, x254_40, x254_41, x254_42, x254_45a, x254_45b, x254_45c, x254_46, x254_47a, x254_47b, x254_47c, x254_51, x254_52, x254_55, x254_58, x254_61, x254_62, x254_63, x254_64, x254_66, x254_69, x254_70, x254_73, x254_75, x254_76a, x254_76b, x254_76c, x254_79, x254_82, x254_83, mzi, mInc, mne, mlt9, mrk, mI1, mI2, mI3, mI4, mL1, mL2, mL3, mL4, mQ1, mQ2, mQ3, mQ4, mT1, mcat0, mcat1, mcat2, mcat3, mcat4, mrf1, jK_v, jK_n, JA, mz1, if_true, if_false, ite_true, ite_false, eq_self, not_false_eq_true, Nat.zero_le, true_and, and_true, and_self, Nat.reduceMod, Nat.reduceAdd, Nat.reduceLeDiff, Nat.reduceEqDiff, Nat.reduceLT, hw, hpl, jpm, ht, hlt, e243, g']
    · obtain ⟨ν', c', s', hc', hs', hg', e'⟩ := d_advL h120 hp hq h ha hb hab hf h10 r (j + 1) (c + c1) (s + s1) ν1 (by omega) hs1
      refine ⟨ν', c', s', by omega, by omega, hg', fun d Q => ?_⟩
      have g' : ¬ iN (fv (-1)) < iN (fv (iN j)) := by rw [iN_lt (by omega) (by omega)]; exact g
      have hv : kAdv fv j (r + 1) = kAdv fv (j + 1) r := by
        show jfst _ j (r + 1) = _
        unfold jfst
        rw [decide_eq_false g]
        rfl
      rw [hv, ← e' d Q, x254_49]
      simp only [x254_0, x254_1, x254_2, x254_5, x254_6, x254_7, x254_10, x254_13, x254_14, x254_15, x254_18, x254_21, x254_22, x254_23, x254_26, x254_27, x254_28, x254_29, x254_32, x254_33, x254_34, x254_37, x254_38, x254_39, x254_40, x254_41, x254_42, x254_45a, x254_45b, x254_45c, x254_46, x254_47a, x254_47b, x254_47c, x254_51, x254_52, x254_55, x254_58, x254_61, x254_62, x254_63, x254_64, x254_66, x254_69, x254_70, x254_73, x254_75, x254_76a, x254_76b, x254_76c, x254_79, x254_82, x254_83, mzi, mInc, mne, mlt9, mrk, mI1, mI2, mI3, mI4, mL1, mL2, mL3, mL4, mQ1, mQ2, mQ3, mQ4, mT1, mcat0, mcat1, mcat2, mcat3, mcat4, mrf1, jK_v, jK_n, JA, mz1, if_true, if_false, ite_true, ite_false, eq_self, not_false_eq_true, Nat.zero_le, true_and, and_true, and_self, Nat.reduceMod, Nat.reduceAdd, Nat.reduceLeDiff, Nat.reduceEqDiff, Nat.reduceLT, hw, hpl, jpm, ht, hlt, e243, g']
theorem d_advise (h120 : 120 ≤ q) (hp : p + 14 ≤ q) (hq : (jA μ).length = q) (hM : jMp μ p) (hm : jI μ (64 * p + 11) 0 = iN m) (h6 : m ≤ 6) (h : kPlF (jsI μ 4490 0 0) p m t bb P Q2 ww) (ha : a < m) (hb : b < m) (hab : ¬ a = b) (hf : ∀ wo, kCutM bb P Q2 ww m t a b wo (fv wo)) (h10 : ∀ wo, fv wo < 1000) : ∃ ν c s, c ≤ 33 + 33 * t ∧ s ≤ 400 + 400 * t ∧ jGb q c s (jsI μ 4490 0 0) ν ∧ ∀ (d : Nat) (Q : jO → jM → Prop), (Ex (d + 2) 254 0 [some (.ref 4490), some (.int (iN a)), some (.int (iN b)), none, none] [] μ Q ↔ Q (.inl (some (.int (kAdv fv 0 t)))) ν) := by
  have hfp := hM.2.1
  have hM' : jMp (jsI μ 4490 0 0) p := by rw [jMp_I]; exact hM
  have hm' : jI (jsI μ 4490 0 0) (64 * p + 11) 0 = iN m := by rw [mI2 (by omega)]; exact hm
  obtain ⟨ν1, f, c1, s1, c33, s400, hg, k1, k2, e243⟩ := d_flow (μ := jsI μ 4490 0 0) (wo := -1) (q := q) hq h120 hp h ha hb hab
  have hff : f = fv (-1) := kCutM_u (wo := -1) ⟨k1, k2⟩ (hf (-1))
  subst hff
  obtain ⟨ν, c, s, hc, hs, hg2, e⟩ := d_advL (μ := jsI μ 4490 0 0) h120 hp hq h ha hb hab hf h10 t 0 c1 s1 ν1 (by omega) hg
  refine ⟨ν, c, s, by omega, by omega, hg2, fun d Q => ?_⟩
  have hL := fun (d : Nat) (x : Int32) (Q : jO → jM → Prop) => d_isS (d := d) (x := x) (Q := Q) hM' hm' h6
  have hj : jhas (iN a) (iN m) 6 = 1 := jhas_in ha h6 (by decide)
  have hj2 : jhas (iN b) (iN m) 6 = 1 := jhas_in hb h6 (by decide)
  have hne : ¬ iN a = iN b := fun g => hab ((iN_eq (by omega) (by omega)).mp g)
  rw [← e d Q]
  simp only [x254_0, x254_1, x254_2, x254_5, x254_6, x254_7, x254_10, x254_13, x254_14, x254_15, x254_18, x254_21, x254_22, x254_23, x254_26, x254_27, x254_28, x254_29, x254_32, x254_33, x254_34, x254_37, x254_38, x254_39, x254_40, x254_41, x254_42, x254_45a, x254_45b, x254_45c, x254_46, x254_47a, x254_47b, x254_47c, x254_51, x254_52, x254_55, x254_58, x254_61, x254_62, x254_63, x254_64, x254_66, x254_69, x254_70, x254_73, x254_75, x254_76a, x254_76b, x254_76c, x254_79, x254_82, x254_83, mzi, mInc, mne, mlt9, mrk, mI1, mI2, mI3, mI4, mL1, mL2, mL3, mL4, mQ1, mQ2, mQ3, mQ4, mT1, mcat0, mcat1, mcat2, mcat3, mcat4, mrf1, jK_v, jK_n, JA, mz1, if_true, if_false, ite_true, ite_false, eq_self, not_false_eq_true, Nat.zero_le, true_and, and_true, and_self, Nat.reduceMod, Nat.reduceAdd, Nat.reduceLeDiff, Nat.reduceEqDiff, Nat.reduceLT, hL, hj, hj2, hne, e243]
theorem op_advise (x y : Int32) (hJ : jJp μ p m n t L K nh T w mk sz) : jPair μ 252 254 [some (.ref 0), some (.int x), some (.int y), some (.ref 7647), none] [some (.ref 4490), some (.int x), some (.int y), none, none] := by
  have hJ' := hJ
  obtain ⟨h09, ⟨z1, z2⟩, h120, hR, hX, hp⟩ := hJ'
  have hW : jWd μ := hR.1.1
  obtain ⟨P1, P2, P3, P4, P5, P6, P7, _⟩ := hR.1
  by_cases h1 : (∃ l, l < m ∧ x = iN l) ∧ ∃ l, l < m ∧ y = iN l
  · obtain ⟨⟨a, ha, rfl⟩, b, hb, rfl⟩ := h1
    by_cases hab : a = b
    · subst hab
      have eA := fun (Q : jO → jM → Prop) => c_advise_x2 (d := 48 + 97) (μ := μ) (Q := Q) hW P2 P3 ha
      have eB := fun (Q : jO → jM → Prop) => d_advise_x2 (d := 48 + 99) (μ := jthr μ) (Q := Q) (jMp_c rfl hR.2.1) hR.2.2.1 P3 ha
      exact pair_no hJ (k := 2) (by decide) (by decide) (fun Q => l_advise_1 (d := 48 + 100) eA) eB
    · obtain ⟨bb, P, Q2, ww, f1, f2, f3, f4, f5⟩ := fw_of hR
      have hex : ∀ wo, ∃ f, kCutM bb P Q2 ww m t a b wo f := fun wo => by
        obtain ⟨_, f, _, _, _, _, _, k1, k2, _⟩ := d_flow (wo := wo) rfl h120 hp f5 ha hb hab
        exact ⟨f, k1, k2⟩
      have hf : ∀ wo, kCutM bb P Q2 ww m t a b wo (Classical.choose (hex wo)) := fun wo => Classical.choose_spec (hex wo)
      generalize hfv : (fun wo => Classical.choose (hex wo)) = fv
      have hf' : ∀ wo, kCutM bb P Q2 ww m t a b wo (fv wo) := fun wo => by rw [← hfv]; exact hf wo
      have hA : kFwA μ m t bb P Q2 ww := ⟨hW, P2, P3, P6, P7, f1, f2, f3, f4⟩
      have h1000 : ∀ wo, fv wo < 1000 := fun wo => by
        have e := kFlow_eq (wo := wo) (g := jI μ 4438) P3 P7 ha hb hab f1 f4 (fun k hk => (f2 k hk).2) (fun k hk => (f3 k hk).2) (hf' wo).1 (hf' wo).2
        have := kGr_9 (s := 2 * a) (z := 2 * b + 1) 9 0 (kFill (jI μ 1812) P Q2 (jI μ 2192) wo m t (jI μ 4438))
        omega
      obtain ⟨μc, hsc, eA⟩ := c_advise hA ha hb hab hf' h1000
      have eA' := fun (Q : jO → jM → Prop) => eA (48 + 84) Q
      generalize hv : kAdv fv 0 t = v at eA'
      obtain ⟨m1, _⟩ := jJp_mix (ν := jsL μc 7647 0 v.toInt64) (jSc_t (jScF_s hsc) jSc_L) hJ
      obtain ⟨m3, _⟩ := jJp_mix (ν := jsI (jsL μc 7647 0 v.toInt64) 4490 0 0) (jSc_t (jSc_t (jScF_s hsc) jSc_L) jSc_0) hJ
      have hF2 : kPlF (jsI (jsL μc 7647 0 v.toInt64) 4490 0 0) p m t bb P Q2 ww := by
        obtain ⟨q1, q2, q3, q4, q5, q6, q7⟩ := f5
        have hs := m3.2.2.2.2.2.2.2.2.2.2.1
        refine ⟨m3.2.1, m3.2.2.1, P3, m3.2.2.2.2.1, P7, fun s hs => ?_, fun k hk => ?_⟩
        · rw [← (m3.2.2.2.2.2.2.2.1 s hs).1]
          exact f1 s hs
        · obtain ⟨a1, a2, _, _, _, a6, _⟩ := hs k hk
          rw [← a1, ← a2, ← a6]
          exact ⟨(f2 k hk).1, (f2 k hk).2, (f3 k hk).1, (f3 k hk).2, (f4 k hk).1, (f4 k hk).2, (q7 k hk).2.2.2.2.2.2⟩
      have hlq : (jA (jsL μc 7647 0 v.toInt64)).length = (jA μ).length := by rw [mL5, hsc.2.2.2.1]
      obtain ⟨ν, c, s, c33, s400, hg, e254⟩ := d_advise (μ := jsL μc 7647 0 v.toInt64) (q := (jA μ).length) h120 hp hlq m1.2.1 m1.2.2.1 P3 hF2 ha hb hab hf' h1000
      have eB := fun (Q : jO → jM → Prop) => e254 (48 + 99) Q
      rw [hv] at eB
      have hlq2 : (jA μ).length = (jA (jsI (jsL μc 7647 0 v.toInt64) 4490 0 0)).length := hlq.symm
      refine pair_0 hJ v (jScF_s hsc) hsc.2.2.2.1 hsc.2.2.2.2 (fun Q => l_advise_v (d := 48 + 100) eA') (jSc_g hlq2 hg h120) ?_ ?_ ?_ ?_ eB
      · rw [(hg.1 4490 (by omega)).1, mI1, if_pos rfl]
      · rw [(hg.1 7647 (by omega)).2.1, mI3, mL1, if_pos rfl]
      · unfold jnc
        rw [hg.2.1, hg.2.2.1, mI6, mL6, hsc.2.2.2.2, ← hlq2]
        omega
      · refine Nat.le_trans hg.2.2.2 ?_
        rw [jns_e (μ := μ) (by rw [mI5, mL5, hsc.2.2.2.1]) (by rw [mI6, mL6, hsc.2.2.2.2])]
        omega
  · have eA := fun (Q : jO → jM → Prop) => c_advise_x1 (d := 48 + 97) (μ := μ) (Q := Q) hW P2 P3 h1
    have eB := fun (Q : jO → jM → Prop) => d_advise_x1 (d := 48 + 99) (μ := jthr μ) (x := x) (y := y) (Q := Q) (jMp_c rfl hR.2.1) hR.2.2.1 P3 h1
    exact pair_no hJ (k := 1) (by decide) (by decide) (fun Q => l_advise_2 (d := 48 + 100) eA) eB
end FLOWS
