/-! THE PURE PART: a plan (reference). -/
/-- the reference as a plan's parts are read: what is told of tests, and their code so far -/
def jPr (μ ν : jM) (r : Nat) (kd : Nat → Nat) (num : Nat → Int32) (N i : Nat) (Ls : List (List (Nat × Nat) × Nat)) : Prop := jRg r μ ν ∧ jRr ν ν r kd num N i 0 (kCat Ls) ∧ jI ν (64 * r + 11) 13 = iN Ls.length ∧ ∀ k, k < Ls.length → k < 12 → jI ν (64 * r + 659) k = iN (kWds (kCat (Ls.take k))) ∧ jI ν (64 * r + 723) k = iN (kWds (kCat (Ls.take (k + 1))))
/-- the tests that a plan's parts tell -/
def kShs (kd : Nat → Nat) (f i : Nat) : List (List (Nat × Nat) × Nat) := if kd i = 10 then [((kP kd f 9 0 (i + 1 + 1 + 1)).2.2, i + 1)] else []
def kPls (kd : Nat → Nat) (f : Nat) : Nat → Nat → List (List (Nat × Nat) × Nat)
  | 0, _ => []
  | g + 1, i => if kd i = 39 then [] else kShs kd f i ++ kPls kd f g (kBd (kPiece kd f i) (kT1 kd 26)).2.1
def pPost (μ : jM) (r : Nat) (kd : Nat → Nat) (num : Nat → Int32) (N : Nat) (Ls T : List (List (Nat × Nat) × Nat)) (q : kR) (ν : jM) : Prop := (q.1 = true → q.2.2 = kFl T ∧ jPr μ ν r kd num N q.2.1 (Ls ++ T) ∧ kBef kd q.2.1) ∧ (q.1 = false → jRg r μ ν ∧ jI ν 4490 9 = iN q.2.1)
section PLANM
variable {μ ν ν0 : jM} {r : Nat} {kd : Nat → Nat} {num : Nat → Int32} {N f sz i D : Nat} {E : List (Nat × Nat)} {b : Nat → Int32} {Ls : List (List (Nat × Nat) × Nat)}
theorem pPost_m {q : kR} (h : jPr μ ν0 r kd num N i Ls) (p : mPost ν0 r kd num N 0 (kCat Ls) q ν) (he : q.2.2 = []) : pPost μ r kd num N Ls [] q ν := by
  obtain ⟨a1, a2, a3, a4⟩ := h
  refine ⟨fun hh => ⟨he, ?_, (p.1 hh).2⟩, fun hh => ?_⟩
  · obtain ⟨g, _⟩ := p.1 hh
    rw [he, List.append_nil] at g
    have gf := g.1
    rw [List.append_nil]
    refine ⟨jRg_trans a1 (jRg_f gf), jRr_self g, by rw [gf.2.2.1 13 (by decide) (by decide)]; exact a3, fun k h1 h2 => ?_⟩
    have hr1 : ¬ 64 * r + 659 = 4490 ∧ ¬ 64 * r + 659 = 4825 ∧ ¬ 64 * r + 723 = 4490 ∧ ¬ 64 * r + 723 = 4825 := by omega
    rw [gf.1 (64 * r + 659) hr1.1 hr1.2.1 (by omega) (by omega) (by omega), gf.1 (64 * r + 723) hr1.2.2.1 hr1.2.2.2 (by omega) (by omega) (by omega)]
    exact a4 k h1 h2
  · obtain ⟨g1, g2⟩ := p.2 hh
    exact ⟨jRg_trans a1 (jRg_f g1), g2⟩
theorem kMin12 (n : Nat) (hn : n ≤ 401) : ∃ p, p ≤ 12 ∧ (p = if n < 12 then n else 12) ∧ (if iN n < 12 then iN n else 12) = iN p ∧ (if (12 : Int32) < iN n then (12 : Int32) else iN n) = iN p := by
  by_cases g : n < 12
  · refine ⟨n, by omega, by rw [if_pos g], ?_, ?_⟩
    · rw [if_pos (show iN n < (12 : Int32) from (iN_lt (b := 12) (by omega) (by omega)).mpr g)]
    · rw [if_neg (show ¬ (12 : Int32) < iN n from fun h => by have := (iN_lt (a := 12) (by omega) (by omega)).mp h; omega)]
  · refine ⟨12, by omega, by rw [if_neg g], ?_, ?_⟩
    · rw [if_neg (show ¬ iN n < (12 : Int32) from fun h => g ((iN_lt (b := 12) (by omega) (by omega)).mp h))]
      rfl
    · by_cases e : 12 < n
      · rw [if_pos (show (12 : Int32) < iN n from (iN_lt (a := 12) (by omega) (by omega)).mpr e)]
        rfl
      · have e2 : n = 12 := by omega
        rw [e2]
        rfl
theorem kTks_nil {kd : Nat → Nat} : ∀ (L : List Nat) (i : Nat), (kTks kd L i).2.2 = []
  | [], _ => rfl
  | K :: q, i => by
    unfold kTks
    by_cases g : kd i = K
    · rw [if_pos g]
      exact kTks_nil q (i + 1)
    · rw [if_neg g]
      rfl
theorem d_pShut (h0 : jR0 μ r kd N b sz) (hnum : ∀ t, num t = kNm b (kTs b sz t) (kTl b sz t)) (hP : jPr μ ν r kd num N i Ls) (hk : kd i = 10) (hi : i ≤ N - 1) (hE : (kFl Ls).length ≤ i) (hf : 8 * 402 ≤ f) {d : Nat} (hd : 70 ≤ d) : ∃ ν', pPost μ r kd num N Ls [((kP kd f 9 0 (i + 1 + 1 + 1)).2.2, i + 1)] (kBd (kBd (kTks kd [37, 11] (i + 1)) (kP kd f 9 0)) (kEm 10 (i + 1))) ν' ∧ ∀ (Q : jO → jM → Prop), (Ex d 115 0 [some (.ref 4490), none] [] ν Q ↔ Q (.inl (some (.int (bif (kBd (kBd (kTks kd [37, 11] (i + 1)) (kP kd f 9 0)) (kEm 10 (i + 1))).1 then 1 else 0)))) ν') := by
  obtain ⟨hg, hG, htold, hrow⟩ := hP
  obtain ⟨d, rfl⟩ : ∃ d', d = d' + 6 := ⟨d - 6, by omega⟩
  have h0' := jR0_g h0 hg
  have hT := h0.2.1
  have hr := h0.2.2.1
  have hN1 := hT.1
  have hN2 := hT.2.1
  have hlen := kFl_len Ls
  have hw := h0'.1
  unfold jWd at hw
  have ht := hG.2.1
  have i1 := kTok_lt hT hi (by omega)
  have hq := h0'.2.2.2.2.1
  unfold jMq at hq
  have hrd := h0'.2.2.2.1
  have hle := hG.2.2.2.1
  have ic : (iN i).toNatClampNeg = i := iN_cl (by omega)
  have ij : jin (iN i) 401 = true := iN_in (by omega) (by omega)
  obtain ⟨p, hp12, hp, hpm1, hpm2⟩ := kMin12 Ls.length (by omega)
  have pc : (iN p).toNatClampNeg = p := iN_cl (by omega)
  have pj : jin (iN p) 13 = true := iN_in (by omega) (by omega)
  have hinc : iN Ls.length + 1 = iN (Ls.length + 1) := iN_add (b := 1)
  -- the memory as the test begins
  obtain ⟨ν1, hν1⟩ : ∃ m, m = jsI (jsI (jsI (jsI ν 4825 i 4) 4490 9 (iN (i + 1))) (64 * r + 11) 13 (iN (Ls.length + 1))) (64 * r + 659) p (iN (kWds (kCat Ls))) := ⟨_, rfl⟩
  have e1 : ¬ 4490 = 64 * r + 659 := by omega
  have e2 : ¬ 4825 = 64 * r + 659 := by omega
  have e3 : ¬ 4490 = 64 * r + 11 := by omega
  have e4 : ¬ 4825 = 64 * r + 11 := by omega
  have e5 : ¬ 64 * r + 11 = 4490 := by omega
  have e6 : ¬ 64 * r + 11 = 4825 := by omega
  have e7 : ¬ 64 * r + 11 = 64 * r + 659 := by omega
  have e8 : ¬ 64 * r + 11 = 64 * r + 723 := by omega
  have e9 : ¬ 64 * r + 659 = 64 * r + 11 := by omega
  have e10 : ¬ 64 * r + 723 = 64 * r + 11 := by omega
  have e11 : ¬ 64 * r + 659 = 64 * r + 723 := by omega
  have e12 : ¬ 64 * r + 723 = 64 * r + 659 := by omega
  have e13 : ¬ 64 * r + 659 = 4490 := by omega
  have e14 : ¬ 64 * r + 659 = 4825 := by omega
  have e15 : ¬ 64 * r + 723 = 4490 := by omega
  have e16 : ¬ 64 * r + 723 = 4825 := by omega
  have hg1 : jRg r ν ν1 := by
    rw [hν1]
    exact jRg_trans (jRg_trans (jRg_trans (jRg_I hr (Or.inr (Or.inl rfl))) (jRg_I hr (Or.inl ⟨rfl, Or.inl rfl⟩))) (jRg_I hr (Or.inr (Or.inr (Or.inl ⟨rfl, Or.inl rfl⟩))))) (jRg_I hr (Or.inr (Or.inr (Or.inr (Or.inl rfl)))))
  have hG1 : jRr ν1 ν1 r kd num N (i + 1) 0 (kCat Ls) := by
    have h := jRr_role (x := 4) hG hr (by unfold kRole; rw [if_neg (by omega), if_neg (by omega), if_pos hk]) (by omega)
    obtain ⟨f1, f2, f3, f4, f5, f6, f7, f8, f9⟩ := h
    have n794 : ¬ 64 * r + 794 = 64 * r + 659 := by omega
    have n794b : ¬ 64 * r + 794 = 64 * r + 11 := by omega
    have n856 : ¬ 64 * r + 856 = 64 * r + 659 := by omega
    have n856b : ¬ 64 * r + 856 = 64 * r + 11 := by omega
    rw [hν1]
    refine ⟨jRf_refl, by rw [mI2 e1, mI2 e3]; exact f2, by rw [mI2 e1, mI2 e3]; exact f3, by rw [mI2 e7, mI1, if_neg (by decide)]; exact f4, by rw [mI2 n794, mI2 n794b]; exact f5, by rw [mI2 e7, mI1, if_neg (by decide)]; exact f6, by rw [mI2 n856, mI2 n856b]; exact f7, fun t ht => by rw [mI2 e2, mI2 e4]; exact f8 t ht, fun t ht hN => by rw [mI2 e2, mI2 e4]; exact f9 t ht hN⟩
  have h01 := jR0_g h0' hg1
  have hw1 := h01.1
  unfold jWd at hw1
  have hq1 := h01.2.2.2.2.1
  unfold jMq at hq1
  have hrd1 := h01.2.2.2.1
  have htl1 : jI ν1 (64 * r + 11) 13 = iN (Ls.length + 1) := by rw [hν1, mI2 e7, mI1, if_pos rfl]
  have hrow1 : ∀ k, k < Ls.length → k < 12 → jI ν1 (64 * r + 659) k = iN (kWds (kCat (Ls.take k))) ∧ jI ν1 (64 * r + 723) k = iN (kWds (kCat (Ls.take (k + 1)))) := by
    intro k h1 h2
    rw [hν1, mI1, if_neg (by rw [hp]; split <;> omega), mI2 e9, mI2 e13, mI2 e14, mI2 e12, mI2 e10, mI2 e15, mI2 e16]
    exact hrow k h1 h2
  have hrow2 : jI ν1 (64 * r + 659) p = iN (kWds (kCat Ls)) := by rw [hν1, mI1, if_pos rfl]
  have hpre : ∀ (Q : jO → jM → Prop), Ex (d + 6) 115 0 [some (.ref 4490), none] [] ν Q ↔ Ex (d + 6) 115 62 [some (.ref 4490), some (.int (iN p))] [] ν1 Q := by
    intro Q
    rw [hν1]
    have jp := JP r
    have jpm := JPm r
    simp only [x115_0, x115_1, x115_4, x115_5, x115_8, x115_9, x115_10, x115_11a, x115_11b, x115_12, x115_15, x115_16, x115_17, x115_20, x115_21, x115_24, x115_27, x115_29, x115_32a, x115_32b, x115_32c, x115_33, x115_34, x115_37a, x115_37b, x115_38, x115_41, x115_42, x115_43, x115_46, x115_47, x115_50, x115_53, x115_54, x115_55, x115_58, x115_61, mzi, mInc, mne, mlt9, mrk, mI1, mI2, mI3, mI4, mL1, mL2, mL3, mL4, mQ1, mQ2, mQ3, mQ4, mT1, mcat0, mcat1, mcat2, mcat3, mcat4, mrf1, jK_v, jK_n, JA, mz1, if_true, if_false, ite_true, ite_false, eq_self, not_false_eq_true, Nat.zero_le, true_and, and_true, and_self, Nat.reduceMod, Nat.reduceAdd, Nat.reduceLeDiff, Nat.reduceEqDiff, Nat.reduceLT, hw, hq, hrd, jp, jpm, ht, ic, ij, htold, hpm1, hpm2, hinc, hle, pc, pj, e1, e2, e3, e4, e5, e6, e7, e9, mI2]
  have hc1 : ∀ (Q : jO → jM → Prop), (Ex (d + 5) 111 0 [some (.ref 4490), some (.int 40), some (.int 12)] [] ν1 Q ↔ if kd (i + 1) = 37 then Q (.inl (some (.int 1))) (jsI (jsI ν1 4825 (i + 1) 12) 4490 9 (iN (i + 1 + 1))) else Q (.inl (some (.int 0))) (jsI ν1 4825 (i + 1) 12)) := fun Q => d_eatAs (d := d + 3) (K := 37) (x := 12) h01 hG1.1 hG1.2.1 i1 (by decide)
  simp only [kTks]
  have fz : ∀ {m : jM} {j : Nat}, jRz ν1 m r j → jRg r μ m ∧ jI m 4490 9 = iN j := fun h => ⟨jRg_trans (jRg_trans hg hg1) (jRg_f h.1), h.2⟩
  by_cases q1 : kd (i + 1) = 37
  · have q1' := eq_true q1
    rw [if_pos q1]
    have i2 := kTok_lt hT i1 (by omega)
    have G1 : jRr ν1 (jsI (jsI ν1 4825 (i + 1) 12) 4490 9 (iN (i + 1 + 1))) r kd num N (i + 1 + 1) 0 (kCat Ls) := jRr_role (x := 12) hG1 hr (by unfold kRole; rw [if_pos q1, Nat.add_sub_cancel, hk]; rfl) (by omega)
    have hc2 : ∀ (Q : jO → jM → Prop), (Ex (d + 5) 112 0 [some (.ref 4490), some (.int 11)] [] (jsI (jsI ν1 4825 (i + 1) 12) 4490 9 (iN (i + 1 + 1))) Q ↔ if kd (i + 1 + 1) = 11 then Q (.inl (some (.int 1))) (jsI (jsI (jsI ν1 4825 (i + 1) 12) 4490 9 (iN (i + 1 + 1))) 4490 9 (iN (i + 1 + 1 + 1))) else Q (.inl (some (.int 0))) (jsI (jsI ν1 4825 (i + 1) 12) 4490 9 (iN (i + 1 + 1)))) := fun Q => d_eat (d := d + 4) (K := 11) h01 G1.1 G1.2.1 i2 (by decide)
    by_cases q2 : kd (i + 1 + 1) = 11
    · have q2' := eq_true q2
      rw [if_pos q2]
      have i3 := kTok_lt hT i2 (by omega)
      have G2 := jRr_take G1 hr (kRole_0 (by omega) (by omega) (by omega)) (by omega)
      obtain ⟨ν2, p2, e2'⟩ := (m_all h01 hnum f).2.2.2.2.2.2.2.2.2 0 (i + 1 + 1 + 1) (kCat Ls) _ (d + 5) (Nat.zero_le _) G2 (kBef_s (i := i + 1 + 1) (by omega)) i3 (by omega) (by omega) (by omega)
      have bs := kP_b hT f 9 0 (i + 1 + 1 + 1) i3
      rw [if_neg (by decide)] at bs
      have ev : kBd (true, i + 1 + 1 + 1, []) (kP kd f 9 0) = kP kd f 9 0 (i + 1 + 1 + 1) := rfl
      rw [ev]
      generalize kP kd f 9 0 (i + 1 + 1 + 1) = q at p2 e2' bs ⊢
      obtain ⟨ok, j, l⟩ := q
      cases ok with
      | true =>
        obtain ⟨bs1, bs2⟩ := bs
        obtain ⟨bs3, bs4⟩ := bs2 rfl
        dsimp only at bs1 bs3 bs4
        obtain ⟨hG3, hB3⟩ := p2.1 rfl
        dsimp only at hG3 hB3
        have hg3 : jRg r ν ν2 := jRg_trans hg1 (jRg_f hG3.1)
        have h03 := jR0_g h0' hg3
        have hw3 := h03.1
        unfold jWd at hw3
        have hq3 := h03.2.2.2.2.1
        unfold jMq at hq3
        have hrd3 := h03.2.2.2.1
        have hle3 : jI ν2 (64 * r + 11) 17 = iN (kWds (kCat Ls ++ l)) := hG3.2.2.2.1
        have hcat : kCat (Ls ++ [(l, i + 1)]) = kCat Ls ++ l := by rw [kCat_app]; show kCat Ls ++ (l ++ []) = _; rw [List.append_nil]
        refine ⟨jsI ν2 (64 * r + 723) p (iN (kWds (kCat Ls ++ l))), ⟨fun _ => ⟨rfl, ⟨jRg_trans (jRg_trans hg hg3) (jRg_I hr (Or.inr (Or.inr (Or.inr (Or.inr rfl))))), ?_, ?_, ?_⟩, hB3⟩, fun hh => Bool.noConfusion (show true = false from hh)⟩, fun Q => ?_⟩
        · rw [hcat]
          obtain ⟨f1, f2, f3, f4, f5, f6, f7, f8, f9⟩ := hG3
          have n794 : ¬ 64 * r + 794 = 64 * r + 723 := by omega
          have n856 : ¬ 64 * r + 856 = 64 * r + 723 := by omega
          have m1 : ¬ 4490 = 64 * r + 723 := by omega
          have m2 : ¬ 4825 = 64 * r + 723 := by omega
          exact ⟨jRf_refl, by rw [mI2 m1]; exact f2, by rw [mI2 m1]; exact f3, by rw [mI2 e8]; exact f4, by rw [mI2 n794]; exact f5, by rw [mI2 e8]; exact f6, by rw [mI2 n856]; exact f7, fun t ht => by rw [mI2 m2]; exact f8 t ht, fun t ht hN => by rw [mI2 m2]; exact f9 t ht hN⟩
        · rw [mI2 e8, hG3.1.2.2.1 13 (by decide) (by decide), List.length_append]
          exact htl1
        · intro k h1 h2
          rw [List.length_append] at h1
          have h1' : k < Ls.length + 1 := h1
          have w1 : ∀ a, a = 64 * r + 659 ∨ a = 64 * r + 723 → jI ν2 a = jI ν1 a := fun a ha => hG3.1.1 a (by omega) (by omega) (by omega) (by omega) (by omega)
          have w2 : ∀ k, jI ν2 (64 * r + 659) k = jI ν1 (64 * r + 659) k ∧ jI ν2 (64 * r + 723) k = jI ν1 (64 * r + 723) k := fun k => ⟨by rw [w1 _ (Or.inl rfl)], by rw [w1 _ (Or.inr rfl)]⟩
          rw [mI2 e11, mI1, (w2 k).1, (w2 k).2]
          by_cases e : k = Ls.length
          · have ep : p = Ls.length := by rw [hp, if_pos (by omega)]
            rw [if_pos (by omega), e, List.take_append_of_le_length (Nat.le_refl _), List.take_length, ← ep, hrow2, ep]
            refine ⟨rfl, ?_⟩
            rw [show Ls.length + 1 = (Ls ++ [(l, i + 1)]).length by rw [List.length_append]; rfl, List.take_length, hcat]
          · have hk2 : k < Ls.length := by omega
            rw [if_neg (by rw [hp]; split <;> omega), List.take_append_of_le_length (by omega), List.take_append_of_le_length (by omega)]
            exact hrow1 k hk2 h2
        · rw [hpre]
          have jp := JP r
          have jpm := JPm r
          simp only [x115_62, x115_63, x115_65, x115_67, x115_70, x115_73, x115_74, x115_76, x115_79, x115_82, x115_83, x115_86, x115_89, x115_90, x115_91, x115_92, x115_95, x115_98, x115_99, x115_100, x115_103, x115_106, x115_107, x115_108, mzi, mInc, mne, mlt9, mrk, mI1, mI2, mI3, mI4, mL1, mL2, mL3, mL4, mQ1, mQ2, mQ3, mQ4, mT1, mcat0, mcat1, mcat2, mcat3, mcat4, mrf1, jK_v, jK_n, JA, mz1, if_true, if_false, ite_true, ite_false, eq_self, not_false_eq_true, Nat.zero_le, true_and, and_true, and_self, Nat.reduceMod, Nat.reduceAdd, Nat.reduceLeDiff, Nat.reduceEqDiff, Nat.reduceLT, hw1, hw3, hq3, hrd3, jp, jpm, hle3, hc1, q1', hc2, q2', e2', cond_true, pc, pj]
          rfl
      | false =>
        rw [kBd_f (r := (false, j, l)) rfl]
        refine ⟨ν2, ⟨fun hh => Bool.noConfusion (show false = true from hh), fun _ => fz (p2.2 rfl)⟩, fun Q => ?_⟩
        rw [hpre]
        simp only [x115_62, x115_63, x115_65, x115_67, x115_70, x115_73, x115_74, x115_76, x115_79, x115_82, x115_83, x115_86, x115_89, x115_90, x115_91, x115_92, x115_95, x115_98, x115_99, x115_100, x115_103, x115_106, x115_107, x115_108, mzi, mInc, mne, mlt9, mrk, mI1, mI2, mI3, mI4, mL1, mL2, mL3, mL4, mQ1, mQ2, mQ3, mQ4, mT1, mcat0, mcat1, mcat2, mcat3, mcat4, mrf1, jK_v, jK_n, JA, mz1, if_true, if_false, ite_true, ite_false, eq_self, not_false_eq_true, Nat.zero_le, true_and, and_true, and_self, Nat.reduceMod, Nat.reduceAdd, Nat.reduceLeDiff, Nat.reduceEqDiff, Nat.reduceLT, hw1, hc1, q1', hc2, q2', e2', cond_false]
    · have q2' := eq_false q2
      rw [if_neg q2, kBd_f (r := kBd (kNo (i + 1 + 1)) (kP kd f 9 0)) rfl, kBd_f (r := kNo (i + 1 + 1)) rfl]
      refine ⟨_, ⟨fun hh => Bool.noConfusion (show false = true from hh), fun _ => fz (jRr_z G1)⟩, fun Q => ?_⟩
      rw [hpre]
      simp only [x115_62, x115_63, x115_65, x115_67, x115_70, x115_73, x115_74, x115_76, x115_79, x115_82, x115_83, x115_86, x115_89, x115_90, x115_91, x115_92, x115_95, x115_98, x115_99, x115_100, x115_103, x115_106, x115_107, x115_108, mzi, mInc, mne, mlt9, mrk, mI1, mI2, mI3, mI4, mL1, mL2, mL3, mL4, mQ1, mQ2, mQ3, mQ4, mT1, mcat0, mcat1, mcat2, mcat3, mcat4, mrf1, jK_v, jK_n, JA, mz1, if_true, if_false, ite_true, ite_false, eq_self, not_false_eq_true, Nat.zero_le, true_and, and_true, and_self, Nat.reduceMod, Nat.reduceAdd, Nat.reduceLeDiff, Nat.reduceEqDiff, Nat.reduceLT, hw1, hc1, q1', hc2, q2']
      rfl
  · have q1' := eq_false q1
    rw [if_neg q1, kBd_f (r := kBd (kNo (i + 1)) (kP kd f 9 0)) rfl, kBd_f (r := kNo (i + 1)) rfl]
    refine ⟨_, ⟨fun hh => Bool.noConfusion (show false = true from hh), fun _ => fz (jRr_rz (x := 12) hG1)⟩, fun Q => ?_⟩
    rw [hpre]
    simp only [x115_62, x115_63, x115_65, x115_67, x115_70, x115_73, x115_74, x115_76, x115_79, x115_82, x115_83, x115_86, x115_89, x115_90, x115_91, x115_92, x115_95, x115_98, x115_99, x115_100, x115_103, x115_106, x115_107, x115_108, mzi, mInc, mne, mlt9, mrk, mI1, mI2, mI3, mI4, mL1, mL2, mL3, mL4, mQ1, mQ2, mQ3, mQ4, mT1, mcat0, mcat1, mcat2, mcat3, mcat4, mrf1, jK_v, jK_n, JA, mz1, if_true, if_false, ite_true, ite_false, eq_self, not_false_eq_true, Nat.zero_le, true_and, and_true, and_self, Nat.reduceMod, Nat.reduceAdd, Nat.reduceLeDiff, Nat.reduceEqDiff, Nat.reduceLT, hw1, hc1, q1']
    rfl
theorem d_planL (h0 : jR0 μ r kd N b sz) (hnum : ∀ t, num t = kNm b (kTs b sz t) (kTl b sz t)) {d : Nat} (hd : 71 ≤ d) (hf : 8 * 402 ≤ f) : ∀ (g i : Nat) (Ls : List (List (Nat × Nat) × Nat)) (ν : jM) (b1 : Option Int32), jPr μ ν r kd num N i Ls → i ≤ N - 1 → (kFl Ls).length ≤ i → 402 ≤ g + i → ∃ ν', (((kPlan kd f g i).1 = true → (kPlan kd f g i).2.2 = kFl (kPls kd f g i) ∧ jPr μ ν' r kd num N (kPlan kd f g i).2.1 (Ls ++ kPls kd f g i)) ∧ ((kPlan kd f g i).1 = false → jRg r μ ν' ∧ jI ν' 4490 9 = iN (kPlan kd f g i).2.1)) ∧ ∀ Q, (Ex d 108 0 [some (.ref 4490), b1.map .int] [] ν Q ↔ Q (.inl (some (.int (bif (kPlan kd f g i).1 then 1 else 0)))) ν') := by
  obtain ⟨d, rfl⟩ : ∃ d', d = d' + 6 := ⟨d - 6, by omega⟩
  have hT := h0.2.1
  have hr := h0.2.2.1
  have hN1 := hT.1
  have hN2 := hT.2.1
  intro g
  induction g with
  | zero => intro i Ls ν b1 _ hi _ h; exact absurd h (by omega)
  | succ g ih =>
    intro i Ls ν b1 hP hi hE hg
    have h0' := jR0_g h0 hP.1
    have hw := h0'.1
    unfold jWd at hw
    have hG := hP.2.1
    have ht := hG.2.1
    have hi39 : ∀ (Q : jO → jM → Prop), (Ex (d + 5) 109 0 [some (.ref 4490), some (.int 900)] [] ν Q ↔ Q (.inl (some (.int (if kd i = 39 then 1 else 0)))) ν) := fun Q => d_is (K := 39) h0' hG.1 ht hi (by decide)
    have hi0 : ∀ (Q : jO → jM → Prop), (Ex (d + 5) 109 0 [some (.ref 4490), some (.int 0)] [] ν Q ↔ Q (.inl (some (.int (if kd i = 0 then 1 else 0)))) ν) := fun Q => d_is (K := 0) h0' hG.1 ht hi (by decide)
    have hi2 : ∀ (Q : jO → jM → Prop), (Ex (d + 5) 109 0 [some (.ref 4490), some (.int 2)] [] ν Q ↔ Q (.inl (some (.int (if kd i = 2 then 1 else 0)))) ν) := fun Q => d_is (K := 2) h0' hG.1 ht hi (by decide)
    have hi5 : ∀ (Q : jO → jM → Prop), (Ex (d + 5) 109 0 [some (.ref 4490), some (.int 5)] [] ν Q ↔ Q (.inl (some (.int (if kd i = 5 then 1 else 0)))) ν) := fun Q => d_is (K := 5) h0' hG.1 ht hi (by decide)
    have hi10 : ∀ (Q : jO → jM → Prop), (Ex (d + 5) 109 0 [some (.ref 4490), some (.int 10)] [] ν Q ↔ Q (.inl (some (.int (if kd i = 10 then 1 else 0)))) ν) := fun Q => d_is (K := 10) h0' hG.1 ht hi (by decide)
    unfold kPlan kPls
    by_cases a : kd i = 39
    · have a' := eq_true a
      rw [if_pos a, if_pos a]
      refine ⟨ν, ⟨fun _ => ⟨rfl, by rw [List.append_nil]; exact hP⟩, fun hh => Bool.noConfusion (show true = false from hh)⟩, fun Q => ?_⟩
      rw [x108_0]
      simp only [x108_1, x108_4, x108_7, x108_10, x108_11, x108_12, x108_15, x108_18, x108_19, x108_22, x108_25, x108_26, x108_27, x108_30, x108_33, x108_34, x108_37, x108_40, x108_41, x108_42, x108_45, x108_48, x108_49, x108_52, x108_55, x108_56, x108_58, x108_61, x108_64, x108_65, x108_68, x108_71, x108_72, x108_75, x108_76a, x108_76b, x108_76c, x108_77, x108_78, x108_81, x108_82, x108_84, x108_87, x108_90, x108_91, x108_92, x108_95, x108_96, mzi, mInc, mne, mlt9, mrk, mI1, mI2, mI3, mI4, mL1, mL2, mL3, mL4, mQ1, mQ2, mQ3, mQ4, mT1, mcat0, mcat1, mcat2, mcat3, mcat4, mrf1, jK_v, jK_n, JA, mz1, if_true, if_false, ite_true, ite_false, eq_self, not_false_eq_true, Nat.zero_le, true_and, and_true, and_self, Nat.reduceMod, Nat.reduceAdd, Nat.reduceLeDiff, Nat.reduceEqDiff, Nat.reduceLT, hw, hi39, a']
      rfl
    · have a' := eq_false a
      rw [if_neg a, if_neg a]
      -- a part
      have hpart : ∃ ν1, pPost μ r kd num N Ls (kShs kd f i) (kPiece kd f i) ν1 ∧ ∀ Q, (Ex (d + 6) 108 0 [some (.ref 4490), b1.map .int] [] ν Q ↔ Ex (d + 6) 108 76 [some (.ref 4490), b1.map .int] [.int (bif (kPiece kd f i).1 then 1 else 0)] ν1 Q) := by
        unfold kPiece kShs
        by_cases a0 : kd i = 0
        · have a0' := eq_true a0
          rw [if_pos a0, if_neg (show ¬ kd i = 10 by omega)]
          obtain ⟨ν1, p1, e1⟩ := d_pSwitch h0' hG a0 hi
          refine ⟨ν1, pPost_m hP p1 (kTks_nil _ _), fun Q => ?_⟩
          have e1' := e1 (d - 1)
          obtain ⟨d', rfl⟩ : ∃ d', d = d' + 1 := ⟨d - 1, by omega⟩
          rw [x108_0]
          simp only [x108_1, x108_4, x108_7, x108_10, x108_11, x108_12, x108_15, x108_18, x108_19, x108_22, x108_25, x108_26, x108_27, x108_30, x108_33, x108_34, x108_37, x108_40, x108_41, x108_42, x108_45, x108_48, x108_49, x108_52, x108_55, x108_56, x108_58, x108_61, x108_64, x108_65, x108_68, x108_71, x108_72, x108_75, mzi, mInc, mne, mlt9, mrk, mI1, mI2, mI3, mI4, mL1, mL2, mL3, mL4, mQ1, mQ2, mQ3, mQ4, mT1, mcat0, mcat1, mcat2, mcat3, mcat4, mrf1, jK_v, jK_n, JA, mz1, if_true, if_false, ite_true, ite_false, eq_self, not_false_eq_true, Nat.zero_le, true_and, and_true, and_self, Nat.reduceMod, Nat.reduceAdd, Nat.reduceLeDiff, Nat.reduceEqDiff, Nat.reduceLT, hw, hi39, a', hi0, a0', e1 d']
        · have a0' := eq_false a0
          rw [if_neg a0]
          by_cases a2 : kd i = 2
          · have a2' := eq_true a2
            rw [if_pos a2, if_neg (show ¬ kd i = 10 by omega)]
            obtain ⟨ν1, p1, e1⟩ := d_pLine h0' hG a2 hi
            refine ⟨ν1, pPost_m hP p1 (kTks_nil _ _), fun Q => ?_⟩
            obtain ⟨d', rfl⟩ : ∃ d', d = d' + 1 := ⟨d - 1, by omega⟩
            rw [x108_0]
            simp only [x108_1, x108_4, x108_7, x108_10, x108_11, x108_12, x108_15, x108_18, x108_19, x108_22, x108_25, x108_26, x108_27, x108_30, x108_33, x108_34, x108_37, x108_40, x108_41, x108_42, x108_45, x108_48, x108_49, x108_52, x108_55, x108_56, x108_58, x108_61, x108_64, x108_65, x108_68, x108_71, x108_72, x108_75, mzi, mInc, mne, mlt9, mrk, mI1, mI2, mI3, mI4, mL1, mL2, mL3, mL4, mQ1, mQ2, mQ3, mQ4, mT1, mcat0, mcat1, mcat2, mcat3, mcat4, mrf1, jK_v, jK_n, JA, mz1, if_true, if_false, ite_true, ite_false, eq_self, not_false_eq_true, Nat.zero_le, true_and, and_true, and_self, Nat.reduceMod, Nat.reduceAdd, Nat.reduceLeDiff, Nat.reduceEqDiff, Nat.reduceLT, hw, hi39, a', hi0, a0', hi2, a2', e1 d']
          · have a2' := eq_false a2
            rw [if_neg a2]
            by_cases a5 : kd i = 5
            · have a5' := eq_true a5
              rw [if_pos a5, if_neg (show ¬ kd i = 10 by omega)]
              obtain ⟨ν1, p1, e1⟩ := d_pTrunk h0' hG a5 hi
              refine ⟨ν1, pPost_m hP p1 (kTks_nil _ _), fun Q => ?_⟩
              obtain ⟨d', rfl⟩ : ∃ d', d = d' + 1 := ⟨d - 1, by omega⟩
              rw [x108_0]
              simp only [x108_1, x108_4, x108_7, x108_10, x108_11, x108_12, x108_15, x108_18, x108_19, x108_22, x108_25, x108_26, x108_27, x108_30, x108_33, x108_34, x108_37, x108_40, x108_41, x108_42, x108_45, x108_48, x108_49, x108_52, x108_55, x108_56, x108_58, x108_61, x108_64, x108_65, x108_68, x108_71, x108_72, x108_75, mzi, mInc, mne, mlt9, mrk, mI1, mI2, mI3, mI4, mL1, mL2, mL3, mL4, mQ1, mQ2, mQ3, mQ4, mT1, mcat0, mcat1, mcat2, mcat3, mcat4, mrf1, jK_v, jK_n, JA, mz1, if_true, if_false, ite_true, ite_false, eq_self, not_false_eq_true, Nat.zero_le, true_and, and_true, and_self, Nat.reduceMod, Nat.reduceAdd, Nat.reduceLeDiff, Nat.reduceEqDiff, Nat.reduceLT, hw, hi39, a', hi0, a0', hi2, a2', hi5, a5', e1 d']
            · have a5' := eq_false a5
              rw [if_neg a5]
              by_cases a10 : kd i = 10
              · have a10' := eq_true a10
                rw [if_pos a10, if_pos a10]
                obtain ⟨ν1, p1, e1⟩ := d_pShut h0 hnum hP a10 hi hE hf (d := d + 5) (by omega)
                refine ⟨ν1, p1, fun Q => ?_⟩
                rw [x108_0]
                cases hb : (kBd (kBd (kTks kd [37, 11] (i + 1)) (kP kd f 9 0)) (kEm 10 (i + 1))).1
                all_goals rw [hb] at e1
                all_goals simp only [x108_1, x108_4, x108_7, x108_10, x108_11, x108_12, x108_15, x108_18, x108_19, x108_22, x108_25, x108_26, x108_27, x108_30, x108_33, x108_34, x108_37, x108_40, x108_41, x108_42, x108_45, x108_48, x108_49, x108_52, x108_55, x108_56, x108_58, x108_61, x108_64, x108_65, x108_68, x108_71, x108_72, x108_75, mzi, mInc, mne, mlt9, mrk, mI1, mI2, mI3, mI4, mL1, mL2, mL3, mL4, mQ1, mQ2, mQ3, mQ4, mT1, mcat0, mcat1, mcat2, mcat3, mcat4, mrf1, jK_v, jK_n, JA, mz1, if_true, if_false, ite_true, ite_false, eq_self, not_false_eq_true, Nat.zero_le, true_and, and_true, and_self, Nat.reduceMod, Nat.reduceAdd, Nat.reduceLeDiff, Nat.reduceEqDiff, Nat.reduceLT, hw, hi39, a', hi0, a0', hi2, a2', hi5, a5', hi10, a10', e1, cond_true, cond_false]
              · have a10' := eq_false a10
                rw [if_neg a10, if_neg a10]
                refine ⟨ν, ⟨fun hh => Bool.noConfusion (show false = true from hh), fun _ => ⟨hP.1, ht⟩⟩, fun Q => ?_⟩
                rw [x108_0]
                simp only [x108_1, x108_4, x108_7, x108_10, x108_11, x108_12, x108_15, x108_18, x108_19, x108_22, x108_25, x108_26, x108_27, x108_30, x108_33, x108_34, x108_37, x108_40, x108_41, x108_42, x108_45, x108_48, x108_49, x108_52, x108_55, x108_56, x108_58, x108_61, x108_64, x108_65, x108_68, x108_71, x108_72, x108_75, mzi, mInc, mne, mlt9, mrk, mI1, mI2, mI3, mI4, mL1, mL2, mL3, mL4, mQ1, mQ2, mQ3, mQ4, mT1, mcat0, mcat1, mcat2, mcat3, mcat4, mrf1, jK_v, jK_n, JA, mz1, if_true, if_false, ite_true, ite_false, eq_self, not_false_eq_true, Nat.zero_le, true_and, and_true, and_self, Nat.reduceMod, Nat.reduceAdd, Nat.reduceLeDiff, Nat.reduceEqDiff, Nat.reduceLT, hw, hi39, a', hi0, a0', hi2, a2', hi5, a5', hi10, a10']
                rfl
      obtain ⟨ν1, p1, e1⟩ := hpart
      have bs := kPiece_b hT (f := f) hi
      generalize kShs kd f i = T at p1 ⊢
      generalize kPiece kd f i = q at p1 e1 bs ⊢
      obtain ⟨ok, j, l⟩ := q
      cases ok with
      | true =>
        obtain ⟨bs1, bs2⟩ := bs
        obtain ⟨bs3, bs4⟩ := bs2 rfl
        dsimp only at bs1 bs3 bs4
        obtain ⟨hT1, hP1, hB1⟩ := p1.1 rfl
        dsimp only at hT1 hP1 hB1
        have h01 := jR0_g h0 hP1.1
        have hw1 := h01.1
        unfold jWd at hw1
        have hse : ∀ (Q : jO → jM → Prop), (Ex (d + 5) 122 0 [some (.ref 4490), some (.int 59)] [] ν1 Q ↔ if kd j = 26 then Q (.inl (some (.int 1))) (jsI ν1 4490 9 (iN (j + 1))) else Q (.inl (some (.int 0))) ν1) := fun Q => d_eatSign (d := d + 3) (K := 26) h01 hP1.2.1.1 hP1.2.1.2.1 bs1 (by decide) (by decide)
        have ev : kBd (true, j, l) (kT1 kd 26) = if kd j = 26 then (true, j + 1, l) else (false, j, l) := by
          unfold kT1 kBd
          by_cases q : kd j = 26
          · simp only [if_true, if_pos q, List.append_nil]
          · simp only [if_true, if_neg q, List.append_nil]
        rw [ev]
        by_cases q : kd j = 26
        · have q' := eq_true q
          rw [if_pos q]
          have j1 := kTok_lt hT bs1 (by omega)
          have hP2 : jPr μ (jsI ν1 4490 9 (iN (j + 1))) r kd num N (j + 1) (Ls ++ T) := by
            obtain ⟨c1, c2, c3, c4⟩ := hP1
            have n1 : ¬ 64 * r + 11 = 4490 ∧ ¬ 64 * r + 659 = 4490 ∧ ¬ 64 * r + 723 = 4490 := by omega
            exact ⟨jRg_trans c1 (jRg_I hr (Or.inl ⟨rfl, Or.inl rfl⟩)), jRr_self (jRr_take c2 hr (kRole_0 (by omega) (by omega) (by omega)) (by omega)), by rw [mI2 n1.1]; exact c3, fun k h1 h2 => by rw [mI2 n1.2.1, mI2 n1.2.2]; exact c4 k h1 h2⟩
          obtain ⟨ν2, p2, e2⟩ := ih (j + 1) (Ls ++ T) _ (some 1) hP2 j1 (by rw [kFl_app, List.length_append, ← hT1]; omega) (by omega)
          have ev2 : kBd (true, j + 1, l) (kPlan kd f g) = ((kPlan kd f g (j + 1)).1, (kPlan kd f g (j + 1)).2.1, l ++ (kPlan kd f g (j + 1)).2.2) := rfl
          rw [ev2]
          refine ⟨ν2, ⟨fun hh => ?_, p2.2⟩, fun Q => ?_⟩
          · obtain ⟨t1, t2⟩ := p2.1 hh
            refine ⟨?_, ?_⟩
            · show l ++ _ = _
              rw [kFl_app, t1, hT1]
            · rw [← List.append_assoc]
              exact t2
          · rw [e1]
            have e2' := e2 Q
            simp only [Option.map_some] at e2'
            cases b1 <;> simp only [Option.map_some, Option.map_none, x108_1, x108_4, x108_7, x108_10, x108_11, x108_12, x108_15, x108_18, x108_19, x108_22, x108_25, x108_26, x108_27, x108_30, x108_33, x108_34, x108_37, x108_40, x108_41, x108_42, x108_45, x108_48, x108_49, x108_52, x108_55, x108_56, x108_58, x108_61, x108_64, x108_65, x108_68, x108_71, x108_72, x108_75, x108_76a, x108_76b, x108_76c, x108_77, x108_78, x108_81, x108_82, x108_84, x108_87, x108_90, x108_91, x108_92, x108_95, x108_96, mzi, mInc, mne, mlt9, mrk, mI1, mI2, mI3, mI4, mL1, mL2, mL3, mL4, mQ1, mQ2, mQ3, mQ4, mT1, mcat0, mcat1, mcat2, mcat3, mcat4, mrf1, jK_v, jK_n, JA, mz1, if_true, if_false, ite_true, ite_false, eq_self, not_false_eq_true, Nat.zero_le, true_and, and_true, and_self, Nat.reduceMod, Nat.reduceAdd, Nat.reduceLeDiff, Nat.reduceEqDiff, Nat.reduceLT, hw1, hse, q', e2', cond_true]
        · have q' := eq_false q
          rw [if_neg q, kBd_f (r := (false, j, l)) rfl]
          refine ⟨ν1, ⟨fun hh => Bool.noConfusion (show false = true from hh), fun _ => ⟨hP1.1, hP1.2.1.2.1⟩⟩, fun Q => ?_⟩
          rw [e1]
          cases b1 <;> simp only [Option.map_some, Option.map_none, x108_1, x108_4, x108_7, x108_10, x108_11, x108_12, x108_15, x108_18, x108_19, x108_22, x108_25, x108_26, x108_27, x108_30, x108_33, x108_34, x108_37, x108_40, x108_41, x108_42, x108_45, x108_48, x108_49, x108_52, x108_55, x108_56, x108_58, x108_61, x108_64, x108_65, x108_68, x108_71, x108_72, x108_75, x108_76a, x108_76b, x108_76c, x108_77, x108_78, x108_81, x108_82, x108_84, x108_87, x108_90, x108_91, x108_92, x108_95, x108_96, mzi, mInc, mne, mlt9, mrk, mI1, mI2, mI3, mI4, mL1, mL2, mL3, mL4, mQ1, mQ2, mQ3, mQ4, mT1, mcat0, mcat1, mcat2, mcat3, mcat4, mrf1, jK_v, jK_n, JA, mz1, if_true, if_false, ite_true, ite_false, eq_self, not_false_eq_true, Nat.zero_le, true_and, and_true, and_self, Nat.reduceMod, Nat.reduceAdd, Nat.reduceLeDiff, Nat.reduceEqDiff, Nat.reduceLT, hw1, hse, q', cond_true, cond_false]
      | false =>
        rw [kBd_f (r := kBd (false, j, l) (kT1 kd 26)) rfl, kBd_f (r := (false, j, l)) rfl]
        refine ⟨ν1, ⟨fun hh => Bool.noConfusion (show false = true from hh), fun _ => p1.2 rfl⟩, fun Q => ?_⟩
        rw [e1]
        cases b1 <;> simp only [Option.map_some, Option.map_none, x108_1, x108_4, x108_7, x108_10, x108_11, x108_12, x108_15, x108_18, x108_19, x108_22, x108_25, x108_26, x108_27, x108_30, x108_33, x108_34, x108_37, x108_40, x108_41, x108_42, x108_45, x108_48, x108_49, x108_52, x108_55, x108_56, x108_58, x108_61, x108_64, x108_65, x108_68, x108_71, x108_72, x108_75, x108_76a, x108_76b, x108_76c, x108_77, x108_78, x108_81, x108_82, x108_84, x108_87, x108_90, x108_91, x108_92, x108_95, x108_96, mzi, mInc, mne, mlt9, mrk, mI1, mI2, mI3, mI4, mL1, mL2, mL3, mL4, mQ1, mQ2, mQ3, mQ4, mT1, mcat0, mcat1, mcat2, mcat3, mcat4, mrf1, jK_v, jK_n, JA, mz1, if_true, if_false, ite_true, ite_false, eq_self, not_false_eq_true, Nat.zero_le, true_and, and_true, and_self, Nat.reduceMod, Nat.reduceAdd, Nat.reduceLeDiff, Nat.reduceEqDiff, Nat.reduceLT, cond_false]
end PLANM
