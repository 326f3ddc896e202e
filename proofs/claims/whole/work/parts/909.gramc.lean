/-! THE PURE PART: the grammar (class). -/
def cPost (μ ν : jM) (E : List (Nat × Nat)) (r : kR) : Prop := (r.1 = true → jGr μ ν r.2.1 (E ++ r.2.2)) ∧ (r.1 = false → jGz μ ν r.2.1)
/-- a part of the grammar, carried out -/
def cM (μ : jM) (kd : Nat → Nat) (N m : Nat) (tail : List (Option Value)) (rk mode f : Nat) : Prop := ∀ (D i : Nat) (E : List (Nat × Nat)) (ν : jM) (d : Nat), D ≤ 8 → jGr μ ν i E → i ≤ N - 1 → E.length ≤ i → 8 * (402 - i) + rk ≤ f → 7 * (8 - D) + rk + 4 ≤ d → ∃ ν', cPost μ ν' E (kP kd f mode D i) ∧ ∀ Q, (Ex d m 0 (some (.ref 1413) :: some (.int (iN D)) :: tail) [] ν Q ↔ Q (.inl (some (.int (bif (kP kd f mode D i).1 then 1 else 0)))) ν')
def cL (μ : jM) (kd : Nat → Nat) (N m rk mode f : Nat) : Prop := ∀ (D i : Nat) (E : List (Nat × Nat)) (ν : jM) (d c : Nat) (b4 : Option Int32), D ≤ 8 → jGr μ ν i E → i ≤ N - 1 → E.length ≤ i → 8 * (402 - i) ≤ f → 7 * (8 - D) + rk + 4 ≤ d → c + 1 ≤ i → ∃ ν', cPost μ ν' E (kP kd f mode D i) ∧ ∀ Q, (Ex d m 8 [some (.ref 1413), some (.int (iN D)), some (.int 1), some (.int (iN c)), b4.map .int] [] ν Q ↔ Q (.inl (some (.int (bif (kP kd f mode D i).1 then 1 else 0)))) ν')
theorem kBd_t {r : kR} {k : Nat → kR} (h : r.1 = true) : kBd r k = ((k r.2.1).1, (k r.2.1).2.1, r.2.2 ++ (k r.2.1).2.2) := if_pos h
theorem kBd_f {r : kR} {k : Nat → kR} (h : r.1 = false) : kBd r k = r := if_neg (by rw [h]; exact Bool.false_ne_true)
theorem cPost_e {μ ν : jM} {E l : List (Nat × Nat)} {r : kR} (h : cPost μ ν (E ++ l) r) : cPost μ ν E (r.1, r.2.1, l ++ r.2.2) := ⟨fun hh => by
  have := h.1 hh
  rw [List.append_assoc] at this
  exact this, h.2⟩
theorem cPost_f {μ ν : jM} {E E' : List (Nat × Nat)} {r : kR} (h : cPost μ ν E' r) (hf : r.1 = false) : cPost μ ν E r := ⟨fun hh => by rw [hf] at hh; exact Bool.noConfusion hh, h.2⟩
theorem cPost_no {μ ν : jM} {E E' : List (Nat × Nat)} {i : Nat} (h : jGr μ ν i E') : cPost μ ν E (kNo i) := ⟨fun hh => Bool.noConfusion (show false = true from hh), fun _ => ⟨h.1, h.2.1⟩⟩
theorem cPost_1 {μ ν : jM} {E l : List (Nat × Nat)} {i : Nat} (h : jGr μ ν i (E ++ l)) : cPost μ ν E (true, i, l) := ⟨fun _ => h, fun hh => Bool.noConfusion (show true = false from hh)⟩
section GRAM
variable {μ : jM} {kd : Nat → Nat} {N f : Nat}
theorem c_gProdL (h0 : jG0 μ kd N) (hs : cM μ kd N 61 [none, none] 1 0 f) (hm : cL μ kd N 60 2 1 f) : cL μ kd N 60 2 1 (f + 1) := by
  intro D i E ν d c b4 hD hG hi hE hf hd hc
  obtain ⟨d, rfl⟩ : ∃ d', d = d' + 5 := ⟨d - 5, by omega⟩
  have hT := h0.2.1
  have hN2 := hT.2.1
  have hw := jGr_w h0 hG
  unfold jWd at hw
  have hx := hG.2.1
  have hcl : iN c < (400 : Int32) := (iN_lt (b := 400) (by omega) (by decide)).mpr (by omega)
  have his30 : ∀ Q, (Ex (d + 4) 49 0 [some (.ref 1413), some (.ref 1960)] [] ν Q ↔ Q (.inl (some (.int (if kd i = 30 then 1 else 0)))) ν) := fun Q => c_is (d := d + 3) (K := 30) h0 hG hi
  have his31 : ∀ Q, (Ex (d + 4) 49 0 [some (.ref 1413), some (.ref 2024)] [] ν Q ↔ Q (.inl (some (.int (if kd i = 31 then 1 else 0)))) ν) := fun Q => c_is (d := d + 3) (K := 31) h0 hG hi
  show ∃ ν', cPost μ ν' E (kLp2 kd (kP kd f) 30 31 0 1 D i) ∧ ∀ Q, (Ex (d + 5) 60 8 [some (.ref 1413), some (.int (iN D)), some (.int 1), some (.int (iN c)), b4.map .int] [] ν Q ↔ Q (.inl (some (.int (bif (kLp2 kd (kP kd f) 30 31 0 1 D i).1 then 1 else 0)))) ν')
  unfold kLp2
  by_cases g : kd i = 30 ∨ kd i = 31
  · have i1 := kTok_lt hT hi (by omega)
    have hG1 := jGr_take (j := i + 1) hG
    obtain ⟨ν1, p1, e1⟩ := hs D (i + 1) E _ (d + 4) hD hG1 i1 (by omega) (by omega) (by omega)
    have bs := kP_b hT f 0 D (i + 1) i1
    rw [if_neg (by decide)] at bs
    rw [if_pos g]
    generalize kP kd f 0 D (i + 1) = r at p1 e1 bs ⊢
    obtain ⟨ok, j, l⟩ := r
    cases ok with
    | true =>
      obtain ⟨bs1, bs2⟩ := bs
      obtain ⟨bs3, bs4⟩ := bs2 rfl
      dsimp only at bs1 bs3 bs4
      have hG2 : jGr μ ν1 j (E ++ l) := p1.1 rfl
      have l1 : (E ++ l).length < 400 := by rw [List.length_append]; omega
      have hadd : ∀ (Q : jO → jM → Prop), (Ex (d + 4) 58 0 [some (.ref 1156), some (.ref (64 * (kd i) + 40)), some (.int (iN i))] [] ν1 Q ↔ Q (.inl (some (.int 1))) (kAdM ν1 (E ++ l).length (kd i) i)) := fun Q => c_add (K := kd i) (t := i) h0 hG2 l1
      have hG3 := jGr_add (K := kd i) (t := i) hG2
      obtain ⟨ν2, p2, e2⟩ := hm D j (E ++ l ++ [(kd i, i)]) _ (d + 5) (c + 1) (some (iN i)) hD hG3 bs1 (by rw [List.length_append, List.length_append]; show E.length + l.length + 1 ≤ j; omega) (by omega) hd (by omega)
      have ev : kBd (kBd (true, j, l) (kEm (kd i) i)) (kP kd f 1 D) = ((kP kd f 1 D j).1, (kP kd f 1 D j).2.1, (l ++ [(kd i, i)]) ++ (kP kd f 1 D j).2.2) := rfl
      rw [ev]
      refine ⟨ν2, cPost_e (by rw [← List.append_assoc]; exact p2), fun Q => ?_⟩
      have e2' := e2 Q
      simp only [Option.map_some] at e2'
      have hw1 := jGr_w h0 hG2
      unfold jWd at hw1
      have hkk : ∀ (Q : jO → jM → Prop), (Ex (d + 4) 50 0 [some (.ref 194), some (.int (iN i))] [] ν1 Q ↔ Q (.inl (some (.ref (64 * kd i + 40)))) ν1) := fun Q => c_kind h0 hG2 hi
      rw [x60_8]
      by_cases ga : kd i = 30
      · have ga' := eq_true ga
        cases b4 <;> simp only [Option.map_some, Option.map_none, x60_0, x60_1, x60_2, x60_5a, x60_5b, x60_5c, x60_6, x60_7a, x60_7b, x60_7c, x60_9, x60_12, x60_15, x60_16, x60_19, x60_20, x60_23, x60_26, x60_29, x60_30, x60_33, x60_36, x60_39, x60_40, x60_43a, x60_43b, x60_44, x60_47a, x60_47b, x60_47c, x60_47d, x60_48, x60_49, x60_50, x60_53a, x60_53b, x60_53c, x60_55, x60_56, x60_57, x60_60, x60_63, x60_64, x60_67, x60_68, x60_71, x60_73, x60_76, x60_78, x60_81, x60_84, x60_85, x60_88, x60_89a, x60_89b, x60_89c, x60_90a, x60_90b, x60_90c, x60_93, x60_96, x60_97, mzi, mInc, mne, mlt9, mrk, mI1, mI2, mI3, mI4, mL1, mL2, mL3, mL4, mQ1, mQ2, mQ3, mQ4, mT1, mcat0, mcat1, mcat2, mcat3, mcat4, mrf1, jK_v, jK_n, JA, mz1, if_true, if_false, ite_true, ite_false, eq_self, not_false_eq_true, Nat.zero_le, true_and, and_true, and_self, Nat.reduceMod, Nat.reduceAdd, Nat.reduceLeDiff, Nat.reduceEqDiff, Nat.reduceLT, hw, hw1, hx, hcl, his30, ga', e1, hkk, hadd, cond_true, e2']
      · have ga' := eq_false ga
        have gb' := eq_true (g.elim (fun h => absurd h ga) id)
        cases b4 <;> simp only [Option.map_some, Option.map_none, x60_0, x60_1, x60_2, x60_5a, x60_5b, x60_5c, x60_6, x60_7a, x60_7b, x60_7c, x60_9, x60_12, x60_15, x60_16, x60_19, x60_20, x60_23, x60_26, x60_29, x60_30, x60_33, x60_36, x60_39, x60_40, x60_43a, x60_43b, x60_44, x60_47a, x60_47b, x60_47c, x60_47d, x60_48, x60_49, x60_50, x60_53a, x60_53b, x60_53c, x60_55, x60_56, x60_57, x60_60, x60_63, x60_64, x60_67, x60_68, x60_71, x60_73, x60_76, x60_78, x60_81, x60_84, x60_85, x60_88, x60_89a, x60_89b, x60_89c, x60_90a, x60_90b, x60_90c, x60_93, x60_96, x60_97, mzi, mInc, mne, mlt9, mrk, mI1, mI2, mI3, mI4, mL1, mL2, mL3, mL4, mQ1, mQ2, mQ3, mQ4, mT1, mcat0, mcat1, mcat2, mcat3, mcat4, mrf1, jK_v, jK_n, JA, mz1, if_true, if_false, ite_true, ite_false, eq_self, not_false_eq_true, Nat.zero_le, true_and, and_true, and_self, Nat.reduceMod, Nat.reduceAdd, Nat.reduceLeDiff, Nat.reduceEqDiff, Nat.reduceLT, hw, hw1, hx, hcl, his30, his31, ga', gb', e1, hkk, hadd, cond_true, e2']
    | false =>
      have hG2 : jGz μ ν1 j := p1.2 rfl
      rw [kBd_f (r := kBd (false, j, l) (kEm (kd i) i)) rfl, kBd_f (r := (false, j, l)) rfl]
      refine ⟨ν1, cPost_f p1 rfl, fun Q => ?_⟩
      have hfin : ∀ s : Int32, Ex (d + 5) 60 8 [some (.ref 1413), some (.int (iN D)), some (.int 0), some (.int (iN (c + 1))), some (.int s)] [] ν1 Q ↔ Q (.inl (some (.int 0))) ν1 := by
        intro s
        rw [x60_8]
        simp only [x60_0, x60_1, x60_2, x60_5a, x60_5b, x60_5c, x60_6, x60_7a, x60_7b, x60_7c, x60_9, x60_12, x60_15, x60_16, x60_19, x60_20, x60_23, x60_26, x60_29, x60_30, x60_33, x60_36, x60_39, x60_40, x60_43a, x60_43b, x60_44, x60_47a, x60_47b, x60_47c, x60_47d, x60_48, x60_49, x60_50, x60_53a, x60_53b, x60_53c, x60_55, x60_56, x60_57, x60_60, x60_63, x60_64, x60_67, x60_68, x60_71, x60_73, x60_76, x60_78, x60_81, x60_84, x60_85, x60_88, x60_89a, x60_89b, x60_89c, x60_90a, x60_90b, x60_90c, x60_93, x60_96, x60_97, mzi, mInc, mne, mlt9, mrk, mI1, mI2, mI3, mI4, mL1, mL2, mL3, mL4, mQ1, mQ2, mQ3, mQ4, mT1, mcat0, mcat1, mcat2, mcat3, mcat4, mrf1, jK_v, jK_n, JA, mz1, if_true, if_false, ite_true, ite_false, eq_self, not_false_eq_true, Nat.zero_le, true_and, and_true, and_self, Nat.reduceMod, Nat.reduceAdd, Nat.reduceLeDiff, Nat.reduceEqDiff, Nat.reduceLT, ite_self]
      rw [x60_8]
      by_cases ga : kd i = 30
      · have ga' := eq_true ga
        cases b4 <;> simp only [Option.map_some, Option.map_none, x60_0, x60_1, x60_2, x60_5a, x60_5b, x60_5c, x60_6, x60_7a, x60_7b, x60_7c, x60_9, x60_12, x60_15, x60_16, x60_19, x60_20, x60_23, x60_26, x60_29, x60_30, x60_33, x60_36, x60_39, x60_40, x60_43a, x60_43b, x60_44, x60_47a, x60_47b, x60_47c, x60_47d, x60_48, x60_49, x60_50, x60_53a, x60_53b, x60_53c, x60_55, x60_56, x60_57, x60_60, x60_63, x60_64, x60_67, x60_68, x60_71, x60_73, x60_76, x60_78, x60_81, x60_84, x60_85, x60_88, x60_89a, x60_89b, x60_89c, x60_90a, x60_90b, x60_90c, x60_93, x60_96, x60_97, mzi, mInc, mne, mlt9, mrk, mI1, mI2, mI3, mI4, mL1, mL2, mL3, mL4, mQ1, mQ2, mQ3, mQ4, mT1, mcat0, mcat1, mcat2, mcat3, mcat4, mrf1, jK_v, jK_n, JA, mz1, if_true, if_false, ite_true, ite_false, eq_self, not_false_eq_true, Nat.zero_le, true_and, and_true, and_self, Nat.reduceMod, Nat.reduceAdd, Nat.reduceLeDiff, Nat.reduceEqDiff, Nat.reduceLT, hw, hx, hcl, his30, ga', e1, cond_false, hfin]
      · have ga' := eq_false ga
        have gb' := eq_true (g.elim (fun h => absurd h ga) id)
        cases b4 <;> simp only [Option.map_some, Option.map_none, x60_0, x60_1, x60_2, x60_5a, x60_5b, x60_5c, x60_6, x60_7a, x60_7b, x60_7c, x60_9, x60_12, x60_15, x60_16, x60_19, x60_20, x60_23, x60_26, x60_29, x60_30, x60_33, x60_36, x60_39, x60_40, x60_43a, x60_43b, x60_44, x60_47a, x60_47b, x60_47c, x60_47d, x60_48, x60_49, x60_50, x60_53a, x60_53b, x60_53c, x60_55, x60_56, x60_57, x60_60, x60_63, x60_64, x60_67, x60_68, x60_71, x60_73, x60_76, x60_78, x60_81, x60_84, x60_85, x60_88, x60_89a, x60_89b, x60_89c, x60_90a, x60_90b, x60_90c, x60_93, x60_96, x60_97, mzi, mInc, mne, mlt9, mrk, mI1, mI2, mI3, mI4, mL1, mL2, mL3, mL4, mQ1, mQ2, mQ3, mQ4, mT1, mcat0, mcat1, mcat2, mcat3, mcat4, mrf1, jK_v, jK_n, JA, mz1, if_true, if_false, ite_true, ite_false, eq_self, not_false_eq_true, Nat.zero_le, true_and, and_true, and_self, Nat.reduceMod, Nat.reduceAdd, Nat.reduceLeDiff, Nat.reduceEqDiff, Nat.reduceLT, hw, hx, hcl, his30, his31, ga', gb', e1, cond_false, hfin]
  · rw [if_neg g]
    refine ⟨ν, cPost_1 (by rw [List.append_nil]; exact hG), fun Q => ?_⟩
    have ga' : (kd i = 30) = False := eq_false fun h => g (Or.inl h)
    have gb' : (kd i = 31) = False := eq_false fun h => g (Or.inr h)
    rw [x60_8]
    simp only [x60_0, x60_1, x60_2, x60_5a, x60_5b, x60_5c, x60_6, x60_7a, x60_7b, x60_7c, x60_9, x60_12, x60_15, x60_16, x60_19, x60_20, x60_23, x60_26, x60_29, x60_30, x60_33, x60_36, x60_39, x60_40, x60_43a, x60_43b, x60_44, x60_47a, x60_47b, x60_47c, x60_47d, x60_48, x60_49, x60_50, x60_53a, x60_53b, x60_53c, x60_55, x60_56, x60_57, x60_60, x60_63, x60_64, x60_67, x60_68, x60_71, x60_73, x60_76, x60_78, x60_81, x60_84, x60_85, x60_88, x60_89a, x60_89b, x60_89c, x60_90a, x60_90b, x60_90c, x60_93, x60_96, x60_97, mzi, mInc, mne, mlt9, mrk, mI1, mI2, mI3, mI4, mL1, mL2, mL3, mL4, mQ1, mQ2, mQ3, mQ4, mT1, mcat0, mcat1, mcat2, mcat3, mcat4, mrf1, jK_v, jK_n, JA, mz1, if_true, if_false, ite_true, ite_false, eq_self, not_false_eq_true, Nat.zero_le, true_and, and_true, and_self, Nat.reduceMod, Nat.reduceAdd, Nat.reduceLeDiff, Nat.reduceEqDiff, Nat.reduceLT, hw, hcl, his30, his31, ga', gb', cond_true]
theorem c_gProd (h0 : jG0 μ kd N) (hs : cM μ kd N 61 [none, none] 1 0 f) (hm : cL μ kd N 60 2 1 f) : cM μ kd N 60 [none, none, none] 2 2 (f + 1) := by
  intro D i E ν d hD hG hi hE hf hd
  obtain ⟨d, rfl⟩ : ∃ d', d = d' + 5 := ⟨d - 5, by omega⟩
  have hT := h0.2.1
  obtain ⟨ν1, p1, e1⟩ := hs D i E _ (d + 4) hD hG hi hE (by omega) (by omega)
  have bs := kP_b hT f 0 D i hi
  rw [if_neg (by decide)] at bs
  show ∃ ν', cPost μ ν' E (kBd (kP kd f 0 D i) (kP kd f 1 D)) ∧ ∀ Q, (Ex (d + 5) 60 0 [some (.ref 1413), some (.int (iN D)), none, none, none] [] ν Q ↔ Q (.inl (some (.int (bif (kBd (kP kd f 0 D i) (kP kd f 1 D)).1 then 1 else 0)))) ν')
  generalize kP kd f 0 D i = r at p1 e1 bs ⊢
  obtain ⟨ok, j, l⟩ := r
  have hz : (0 : Int32) = iN 0 := rfl
  cases ok with
  | true =>
    obtain ⟨bs1, bs2⟩ := bs
    obtain ⟨bs3, bs4⟩ := bs2 rfl
    dsimp only at bs1 bs3 bs4
    have hG2 : jGr μ ν1 j (E ++ l) := p1.1 rfl
    obtain ⟨ν2, p2, e2⟩ := hm D j (E ++ l) _ (d + 5) 0 none hD hG2 bs1 (by rw [List.length_append]; omega) (by omega) hd (by omega)
    have ev : kBd (true, j, l) (kP kd f 1 D) = ((kP kd f 1 D j).1, (kP kd f 1 D j).2.1, l ++ (kP kd f 1 D j).2.2) := rfl
    rw [ev]
    refine ⟨ν2, cPost_e p2, fun Q => ?_⟩
    have e2' := e2 Q
    simp only [Option.map_none] at e2'
    refine Iff.trans ?_ e2'
    simp only [x60_0, x60_1, x60_2, x60_5a, x60_5b, x60_5c, x60_6, x60_7a, x60_7b, x60_7c, x60_9, x60_12, x60_15, x60_16, x60_19, x60_20, x60_23, x60_26, x60_29, x60_30, x60_33, x60_36, x60_39, x60_40, x60_43a, x60_43b, x60_44, x60_47a, x60_47b, x60_47c, x60_47d, x60_48, x60_49, x60_50, x60_53a, x60_53b, x60_53c, x60_55, x60_56, x60_57, x60_60, x60_63, x60_64, x60_67, x60_68, x60_71, x60_73, x60_76, x60_78, x60_81, x60_84, x60_85, x60_88, x60_89a, x60_89b, x60_89c, x60_90a, x60_90b, x60_90c, x60_93, x60_96, x60_97, mzi, mInc, mne, mlt9, mrk, mI1, mI2, mI3, mI4, mL1, mL2, mL3, mL4, mQ1, mQ2, mQ3, mQ4, mT1, mcat0, mcat1, mcat2, mcat3, mcat4, mrf1, jK_v, jK_n, JA, mz1, if_true, if_false, ite_true, ite_false, eq_self, not_false_eq_true, Nat.zero_le, true_and, and_true, and_self, Nat.reduceMod, Nat.reduceAdd, Nat.reduceLeDiff, Nat.reduceEqDiff, Nat.reduceLT, e1, cond_true]
  | false =>
    rw [kBd_f (r := (false, j, l)) rfl]
    refine ⟨ν1, cPost_f p1 rfl, fun Q => ?_⟩
    have hfin : Ex (d + 5) 60 8 [some (.ref 1413), some (.int (iN D)), some (.int 0), some (.int 0), none] [] ν1 Q ↔ Q (.inl (some (.int 0))) ν1 := by
      rw [x60_8]
      simp only [x60_0, x60_1, x60_2, x60_5a, x60_5b, x60_5c, x60_6, x60_7a, x60_7b, x60_7c, x60_9, x60_12, x60_15, x60_16, x60_19, x60_20, x60_23, x60_26, x60_29, x60_30, x60_33, x60_36, x60_39, x60_40, x60_43a, x60_43b, x60_44, x60_47a, x60_47b, x60_47c, x60_47d, x60_48, x60_49, x60_50, x60_53a, x60_53b, x60_53c, x60_55, x60_56, x60_57, x60_60, x60_63, x60_64, x60_67, x60_68, x60_71, x60_73, x60_76, x60_78, x60_81, x60_84, x60_85, x60_88, x60_89a, x60_89b, x60_89c, x60_90a, x60_90b, x60_90c, x60_93, x60_96, x60_97, mzi, mInc, mne, mlt9, mrk, mI1, mI2, mI3, mI4, mL1, mL2, mL3, mL4, mQ1, mQ2, mQ3, mQ4, mT1, mcat0, mcat1, mcat2, mcat3, mcat4, mrf1, jK_v, jK_n, JA, mz1, if_true, if_false, ite_true, ite_false, eq_self, not_false_eq_true, Nat.zero_le, true_and, and_true, and_self, Nat.reduceMod, Nat.reduceAdd, Nat.reduceLeDiff, Nat.reduceEqDiff, Nat.reduceLT, ite_self]
    simp only [x60_0, x60_1, x60_2, x60_5a, x60_5b, x60_5c, x60_6, x60_7a, x60_7b, x60_7c, x60_9, x60_12, x60_15, x60_16, x60_19, x60_20, x60_23, x60_26, x60_29, x60_30, x60_33, x60_36, x60_39, x60_40, x60_43a, x60_43b, x60_44, x60_47a, x60_47b, x60_47c, x60_47d, x60_48, x60_49, x60_50, x60_53a, x60_53b, x60_53c, x60_55, x60_56, x60_57, x60_60, x60_63, x60_64, x60_67, x60_68, x60_71, x60_73, x60_76, x60_78, x60_81, x60_84, x60_85, x60_88, x60_89a, x60_89b, x60_89c, x60_90a, x60_90b, x60_90c, x60_93, x60_96, x60_97, mzi, mInc, mne, mlt9, mrk, mI1, mI2, mI3, mI4, mL1, mL2, mL3, mL4, mQ1, mQ2, mQ3, mQ4, mT1, mcat0, mcat1, mcat2, mcat3, mcat4, mrf1, jK_v, jK_n, JA, mz1, if_true, if_false, ite_true, ite_false, eq_self, not_false_eq_true, Nat.zero_le, true_and, and_true, and_self, Nat.reduceMod, Nat.reduceAdd, Nat.reduceLeDiff, Nat.reduceEqDiff, Nat.reduceLT, e1, cond_false, hfin]
theorem c_gSumL (h0 : jG0 μ kd N) (hs : cM μ kd N 60 [none, none, none] 2 2 f) (hm : cL μ kd N 59 3 3 f) : cL μ kd N 59 3 3 (f + 1) := by
  intro D i E ν d c b4 hD hG hi hE hf hd hc
  obtain ⟨d, rfl⟩ : ∃ d', d = d' + 5 := ⟨d - 5, by omega⟩
  have hT := h0.2.1
  have hN2 := hT.2.1
  have hw := jGr_w h0 hG
  unfold jWd at hw
  have hx := hG.2.1
  have hcl : iN c < (400 : Int32) := (iN_lt (b := 400) (by omega) (by decide)).mpr (by omega)
  have his28 : ∀ Q, (Ex (d + 4) 49 0 [some (.ref 1413), some (.ref 1832)] [] ν Q ↔ Q (.inl (some (.int (if kd i = 28 then 1 else 0)))) ν) := fun Q => c_is (d := d + 3) (K := 28) h0 hG hi
  have his29 : ∀ Q, (Ex (d + 4) 49 0 [some (.ref 1413), some (.ref 1896)] [] ν Q ↔ Q (.inl (some (.int (if kd i = 29 then 1 else 0)))) ν) := fun Q => c_is (d := d + 3) (K := 29) h0 hG hi
  show ∃ ν', cPost μ ν' E (kLp2 kd (kP kd f) 28 29 2 3 D i) ∧ ∀ Q, (Ex (d + 5) 59 8 [some (.ref 1413), some (.int (iN D)), some (.int 1), some (.int (iN c)), b4.map .int] [] ν Q ↔ Q (.inl (some (.int (bif (kLp2 kd (kP kd f) 28 29 2 3 D i).1 then 1 else 0)))) ν')
  unfold kLp2
  by_cases g : kd i = 28 ∨ kd i = 29
  · have i1 := kTok_lt hT hi (by omega)
    have hG1 := jGr_take (j := i + 1) hG
    obtain ⟨ν1, p1, e1⟩ := hs D (i + 1) E _ (d + 4) hD hG1 i1 (by omega) (by omega) (by omega)
    have bs := kP_b hT f 2 D (i + 1) i1
    rw [if_neg (by decide)] at bs
    rw [if_pos g]
    generalize kP kd f 2 D (i + 1) = r at p1 e1 bs ⊢
    obtain ⟨ok, j, l⟩ := r
    cases ok with
    | true =>
      obtain ⟨bs1, bs2⟩ := bs
      obtain ⟨bs3, bs4⟩ := bs2 rfl
      dsimp only at bs1 bs3 bs4
      have hG2 : jGr μ ν1 j (E ++ l) := p1.1 rfl
      have l1 : (E ++ l).length < 400 := by rw [List.length_append]; omega
      have hadd : ∀ (Q : jO → jM → Prop), (Ex (d + 4) 58 0 [some (.ref 1156), some (.ref (64 * (kd i) + 40)), some (.int (iN i))] [] ν1 Q ↔ Q (.inl (some (.int 1))) (kAdM ν1 (E ++ l).length (kd i) i)) := fun Q => c_add (K := kd i) (t := i) h0 hG2 l1
      have hG3 := jGr_add (K := kd i) (t := i) hG2
      obtain ⟨ν2, p2, e2⟩ := hm D j (E ++ l ++ [(kd i, i)]) _ (d + 5) (c + 1) (some (iN i)) hD hG3 bs1 (by rw [List.length_append, List.length_append]; show E.length + l.length + 1 ≤ j; omega) (by omega) hd (by omega)
      have ev : kBd (kBd (true, j, l) (kEm (kd i) i)) (kP kd f 3 D) = ((kP kd f 3 D j).1, (kP kd f 3 D j).2.1, (l ++ [(kd i, i)]) ++ (kP kd f 3 D j).2.2) := rfl
      rw [ev]
      refine ⟨ν2, cPost_e (by rw [← List.append_assoc]; exact p2), fun Q => ?_⟩
      have e2' := e2 Q
      simp only [Option.map_some] at e2'
      have hw1 := jGr_w h0 hG2
      unfold jWd at hw1
      have hkk : ∀ (Q : jO → jM → Prop), (Ex (d + 4) 50 0 [some (.ref 194), some (.int (iN i))] [] ν1 Q ↔ Q (.inl (some (.ref (64 * kd i + 40)))) ν1) := fun Q => c_kind h0 hG2 hi
      rw [x59_8]
      by_cases ga : kd i = 28
      · have ga' := eq_true ga
        cases b4 <;> simp only [Option.map_some, Option.map_none, x59_0, x59_1, x59_2, x59_5a, x59_5b, x59_5c, x59_6, x59_7a, x59_7b, x59_7c, x59_9, x59_12, x59_15, x59_16, x59_19, x59_20, x59_23, x59_26, x59_29, x59_30, x59_33, x59_36, x59_39, x59_40, x59_43a, x59_43b, x59_44, x59_47a, x59_47b, x59_47c, x59_47d, x59_48, x59_49, x59_50, x59_53a, x59_53b, x59_53c, x59_55, x59_56, x59_57, x59_60, x59_63, x59_64, x59_67, x59_68, x59_71, x59_73, x59_76, x59_78, x59_81, x59_84, x59_85, x59_88, x59_89a, x59_89b, x59_89c, x59_90a, x59_90b, x59_90c, x59_93, x59_96, x59_97, mzi, mInc, mne, mlt9, mrk, mI1, mI2, mI3, mI4, mL1, mL2, mL3, mL4, mQ1, mQ2, mQ3, mQ4, mT1, mcat0, mcat1, mcat2, mcat3, mcat4, mrf1, jK_v, jK_n, JA, mz1, if_true, if_false, ite_true, ite_false, eq_self, not_false_eq_true, Nat.zero_le, true_and, and_true, and_self, Nat.reduceMod, Nat.reduceAdd, Nat.reduceLeDiff, Nat.reduceEqDiff, Nat.reduceLT, hw, hw1, hx, hcl, his28, ga', e1, hkk, hadd, cond_true, e2']
      · have ga' := eq_false ga
        have gb' := eq_true (g.elim (fun h => absurd h ga) id)
        cases b4 <;> simp only [Option.map_some, Option.map_none, x59_0, x59_1, x59_2, x59_5a, x59_5b, x59_5c, x59_6, x59_7a, x59_7b, x59_7c, x59_9, x59_12, x59_15, x59_16, x59_19, x59_20, x59_23, x59_26, x59_29, x59_30, x59_33, x59_36, x59_39, x59_40, x59_43a, x59_43b, x59_44, x59_47a, x59_47b, x59_47c, x59_47d, x59_48, x59_49, x59_50, x59_53a, x59_53b, x59_53c, x59_55, x59_56, x59_57, x59_60, x59_63, x59_64, x59_67, x59_68, x59_71, x59_73, x59_76, x59_78, x59_81, x59_84, x59_85, x59_88, x59_89a, x59_89b, x59_89c, x59_90a, x59_90b, x59_90c, x59_93, x59_96, x59_97, mzi, mInc, mne, mlt9, mrk, mI1, mI2, mI3, mI4, mL1, mL2, mL3, mL4, mQ1, mQ2, mQ3, mQ4, mT1, mcat0, mcat1, mcat2, mcat3, mcat4, mrf1, jK_v, jK_n, JA, mz1, if_true, if_false, ite_true, ite_false, eq_self, not_false_eq_true, Nat.zero_le, true_and, and_true, and_self, Nat.reduceMod, Nat.reduceAdd, Nat.reduceLeDiff, Nat.reduceEqDiff, Nat.reduceLT, hw, hw1, hx, hcl, his28, his29, ga', gb', e1, hkk, hadd, cond_true, e2']
    | false =>
      have hG2 : jGz μ ν1 j := p1.2 rfl
      rw [kBd_f (r := kBd (false, j, l) (kEm (kd i) i)) rfl, kBd_f (r := (false, j, l)) rfl]
      refine ⟨ν1, cPost_f p1 rfl, fun Q => ?_⟩
      have hfin : ∀ s : Int32, Ex (d + 5) 59 8 [some (.ref 1413), some (.int (iN D)), some (.int 0), some (.int (iN (c + 1))), some (.int s)] [] ν1 Q ↔ Q (.inl (some (.int 0))) ν1 := by
        intro s
        rw [x59_8]
        simp only [x59_0, x59_1, x59_2, x59_5a, x59_5b, x59_5c, x59_6, x59_7a, x59_7b, x59_7c, x59_9, x59_12, x59_15, x59_16, x59_19, x59_20, x59_23, x59_26, x59_29, x59_30, x59_33, x59_36, x59_39, x59_40, x59_43a, x59_43b, x59_44, x59_47a, x59_47b, x59_47c, x59_47d, x59_48, x59_49, x59_50, x59_53a, x59_53b, x59_53c, x59_55, x59_56, x59_57, x59_60, x59_63, x59_64, x59_67, x59_68, x59_71, x59_73, x59_76, x59_78, x59_81, x59_84, x59_85, x59_88, x59_89a, x59_89b, x59_89c, x59_90a, x59_90b, x59_90c, x59_93, x59_96, x59_97, mzi, mInc, mne, mlt9, mrk, mI1, mI2, mI3, mI4, mL1, mL2, mL3, mL4, mQ1, mQ2, mQ3, mQ4, mT1, mcat0, mcat1, mcat2, mcat3, mcat4, mrf1, jK_v, jK_n, JA, mz1, if_true, if_false, ite_true, ite_false, eq_self, not_false_eq_true, Nat.zero_le, true_and, and_true, and_self, Nat.reduceMod, Nat.reduceAdd, Nat.reduceLeDiff, Nat.reduceEqDiff, Nat.reduceLT, ite_self]
      rw [x59_8]
      by_cases ga : kd i = 28
      · have ga' := eq_true ga
        cases b4 <;> simp only [Option.map_some, Option.map_none, x59_0, x59_1, x59_2, x59_5a, x59_5b, x59_5c, x59_6, x59_7a, x59_7b, x59_7c, x59_9, x59_12, x59_15, x59_16, x59_19, x59_20, x59_23, x59_26, x59_29, x59_30, x59_33, x59_36, x59_39, x59_40, x59_43a, x59_43b, x59_44, x59_47a, x59_47b, x59_47c, x59_47d, x59_48, x59_49, x59_50, x59_53a, x59_53b, x59_53c, x59_55, x59_56, x59_57, x59_60, x59_63, x59_64, x59_67, x59_68, x59_71, x59_73, x59_76, x59_78, x59_81, x59_84, x59_85, x59_88, x59_89a, x59_89b, x59_89c, x59_90a, x59_90b, x59_90c, x59_93, x59_96, x59_97, mzi, mInc, mne, mlt9, mrk, mI1, mI2, mI3, mI4, mL1, mL2, mL3, mL4, mQ1, mQ2, mQ3, mQ4, mT1, mcat0, mcat1, mcat2, mcat3, mcat4, mrf1, jK_v, jK_n, JA, mz1, if_true, if_false, ite_true, ite_false, eq_self, not_false_eq_true, Nat.zero_le, true_and, and_true, and_self, Nat.reduceMod, Nat.reduceAdd, Nat.reduceLeDiff, Nat.reduceEqDiff, Nat.reduceLT, hw, hx, hcl, his28, ga', e1, cond_false, hfin]
      · have ga' := eq_false ga
        have gb' := eq_true (g.elim (fun h => absurd h ga) id)
        cases b4 <;> simp only [Option.map_some, Option.map_none, x59_0, x59_1, x59_2, x59_5a, x59_5b, x59_5c, x59_6, x59_7a, x59_7b, x59_7c, x59_9, x59_12, x59_15, x59_16, x59_19, x59_20, x59_23, x59_26, x59_29, x59_30, x59_33, x59_36, x59_39, x59_40, x59_43a, x59_43b, x59_44, x59_47a, x59_47b, x59_47c, x59_47d, x59_48, x59_49, x59_50, x59_53a, x59_53b, x59_53c, x59_55, x59_56, x59_57, x59_60, x59_63, x59_64, x59_67, x59_68, x59_71, x59_73, x59_76, x59_78, x59_81, x59_84, x59_85, x59_88, x59_89a, x59_89b, x59_89c, x59_90a, x59_90b, x59_90c, x59_93, x59_96, x59_97, mzi, mInc, mne, mlt9, mrk, mI1, mI2, mI3, mI4, mL1, mL2, mL3, mL4, mQ1, mQ2, mQ3, mQ4, mT1, mcat0, mcat1, mcat2, mcat3, mcat4, mrf1, jK_v, jK_n, JA, mz1, if_true, if_false, ite_true, ite_false, eq_self, not_false_eq_true, Nat.zero_le, true_and, and_true, and_self, Nat.reduceMod, Nat.reduceAdd, Nat.reduceLeDiff, Nat.reduceEqDiff, Nat.reduceLT, hw, hx, hcl, his28, his29, ga', gb', e1, cond_false, hfin]
  · rw [if_neg g]
    refine ⟨ν, cPost_1 (by rw [List.append_nil]; exact hG), fun Q => ?_⟩
    have ga' : (kd i = 28) = False := eq_false fun h => g (Or.inl h)
    have gb' : (kd i = 29) = False := eq_false fun h => g (Or.inr h)
    rw [x59_8]
    simp only [x59_0, x59_1, x59_2, x59_5a, x59_5b, x59_5c, x59_6, x59_7a, x59_7b, x59_7c, x59_9, x59_12, x59_15, x59_16, x59_19, x59_20, x59_23, x59_26, x59_29, x59_30, x59_33, x59_36, x59_39, x59_40, x59_43a, x59_43b, x59_44, x59_47a, x59_47b, x59_47c, x59_47d, x59_48, x59_49, x59_50, x59_53a, x59_53b, x59_53c, x59_55, x59_56, x59_57, x59_60, x59_63, x59_64, x59_67, x59_68, x59_71, x59_73, x59_76, x59_78, x59_81, x59_84, x59_85, x59_88, x59_89a, x59_89b, x59_89c, x59_90a, x59_90b, x59_90c, x59_93, x59_96, x59_97, mzi, mInc, mne, mlt9, mrk, mI1, mI2, mI3, mI4, mL1, mL2, mL3, mL4, mQ1, mQ2, mQ3, mQ4, mT1, mcat0, mcat1, mcat2, mcat3, mcat4, mrf1, jK_v, jK_n, JA, mz1, if_true, if_false, ite_true, ite_false, eq_self, not_false_eq_true, Nat.zero_le, true_and, and_true, and_self, Nat.reduceMod, Nat.reduceAdd, Nat.reduceLeDiff, Nat.reduceEqDiff, Nat.reduceLT, hw, hcl, his28, his29, ga', gb', cond_true]
theorem c_gSum (h0 : jG0 μ kd N) (hs : cM μ kd N 60 [none, none, none] 2 2 f) (hm : cL μ kd N 59 3 3 f) : cM μ kd N 59 [none, none, none] 3 4 (f + 1) := by
  intro D i E ν d hD hG hi hE hf hd
  obtain ⟨d, rfl⟩ : ∃ d', d = d' + 5 := ⟨d - 5, by omega⟩
  have hT := h0.2.1
  obtain ⟨ν1, p1, e1⟩ := hs D i E _ (d + 4) hD hG hi hE (by omega) (by omega)
  have bs := kP_b hT f 2 D i hi
  rw [if_neg (by decide)] at bs
  show ∃ ν', cPost μ ν' E (kBd (kP kd f 2 D i) (kP kd f 3 D)) ∧ ∀ Q, (Ex (d + 5) 59 0 [some (.ref 1413), some (.int (iN D)), none, none, none] [] ν Q ↔ Q (.inl (some (.int (bif (kBd (kP kd f 2 D i) (kP kd f 3 D)).1 then 1 else 0)))) ν')
  generalize kP kd f 2 D i = r at p1 e1 bs ⊢
  obtain ⟨ok, j, l⟩ := r
  have hz : (0 : Int32) = iN 0 := rfl
  cases ok with
  | true =>
    obtain ⟨bs1, bs2⟩ := bs
    obtain ⟨bs3, bs4⟩ := bs2 rfl
    dsimp only at bs1 bs3 bs4
    have hG2 : jGr μ ν1 j (E ++ l) := p1.1 rfl
    obtain ⟨ν2, p2, e2⟩ := hm D j (E ++ l) _ (d + 5) 0 none hD hG2 bs1 (by rw [List.length_append]; omega) (by omega) hd (by omega)
    have ev : kBd (true, j, l) (kP kd f 3 D) = ((kP kd f 3 D j).1, (kP kd f 3 D j).2.1, l ++ (kP kd f 3 D j).2.2) := rfl
    rw [ev]
    refine ⟨ν2, cPost_e p2, fun Q => ?_⟩
    have e2' := e2 Q
    simp only [Option.map_none] at e2'
    refine Iff.trans ?_ e2'
    simp only [x59_0, x59_1, x59_2, x59_5a, x59_5b, x59_5c, x59_6, x59_7a, x59_7b, x59_7c, x59_9, x59_12, x59_15, x59_16, x59_19, x59_20, x59_23, x59_26, x59_29, x59_30, x59_33, x59_36, x59_39, x59_40, x59_43a, x59_43b, x59_44, x59_47a, x59_47b, x59_47c, x59_47d, x59_48, x59_49, x59_50, x59_53a, x59_53b, x59_53c, x59_55, x59_56, x59_57, x59_60, x59_63, x59_64, x59_67, x59_68, x59_71, x59_73, x59_76, x59_78, x59_81, x59_84, x59_85, x59_88, x59_89a, x59_89b, x59_89c, x59_90a, x59_90b, x59_90c, x59_93, x59_96, x59_97, mzi, mInc, mne, mlt9, mrk, mI1, mI2, mI3, mI4, mL1, mL2, mL3, mL4, mQ1, mQ2, mQ3, mQ4, mT1, mcat0, mcat1, mcat2, mcat3, mcat4, mrf1, jK_v, jK_n, JA, mz1, if_true, if_false, ite_true, ite_false, eq_self, not_false_eq_true, Nat.zero_le, true_and, and_true, and_self, Nat.reduceMod, Nat.reduceAdd, Nat.reduceLeDiff, Nat.reduceEqDiff, Nat.reduceLT, e1, cond_true]
  | false =>
    rw [kBd_f (r := (false, j, l)) rfl]
    refine ⟨ν1, cPost_f p1 rfl, fun Q => ?_⟩
    have hfin : Ex (d + 5) 59 8 [some (.ref 1413), some (.int (iN D)), some (.int 0), some (.int 0), none] [] ν1 Q ↔ Q (.inl (some (.int 0))) ν1 := by
      rw [x59_8]
      simp only [x59_0, x59_1, x59_2, x59_5a, x59_5b, x59_5c, x59_6, x59_7a, x59_7b, x59_7c, x59_9, x59_12, x59_15, x59_16, x59_19, x59_20, x59_23, x59_26, x59_29, x59_30, x59_33, x59_36, x59_39, x59_40, x59_43a, x59_43b, x59_44, x59_47a, x59_47b, x59_47c, x59_47d, x59_48, x59_49, x59_50, x59_53a, x59_53b, x59_53c, x59_55, x59_56, x59_57, x59_60, x59_63, x59_64, x59_67, x59_68, x59_71, x59_73, x59_76, x59_78, x59_81, x59_84, x59_85, x59_88, x59_89a, x59_89b, x59_89c, x59_90a, x59_90b, x59_90c, x59_93, x59_96, x59_97, mzi, mInc, mne, mlt9, mrk, mI1, mI2, mI3, mI4, mL1, mL2, mL3, mL4, mQ1, mQ2, mQ3, mQ4, mT1, mcat0, mcat1, mcat2, mcat3, mcat4, mrf1, jK_v, jK_n, JA, mz1, if_true, if_false, ite_true, ite_false, eq_self, not_false_eq_true, Nat.zero_le, true_and, and_true, and_self, Nat.reduceMod, Nat.reduceAdd, Nat.reduceLeDiff, Nat.reduceEqDiff, Nat.reduceLT, ite_self]
    simp only [x59_0, x59_1, x59_2, x59_5a, x59_5b, x59_5c, x59_6, x59_7a, x59_7b, x59_7c, x59_9, x59_12, x59_15, x59_16, x59_19, x59_20, x59_23, x59_26, x59_29, x59_30, x59_33, x59_36, x59_39, x59_40, x59_43a, x59_43b, x59_44, x59_47a, x59_47b, x59_47c, x59_47d, x59_48, x59_49, x59_50, x59_53a, x59_53b, x59_53c, x59_55, x59_56, x59_57, x59_60, x59_63, x59_64, x59_67, x59_68, x59_71, x59_73, x59_76, x59_78, x59_81, x59_84, x59_85, x59_88, x59_89a, x59_89b, x59_89c, x59_90a, x59_90b, x59_90c, x59_93, x59_96, x59_97, mzi, mInc, mne, mlt9, mrk, mI1, mI2, mI3, mI4, mL1, mL2, mL3, mL4, mQ1, mQ2, mQ3, mQ4, mT1, mcat0, mcat1, mcat2, mcat3, mcat4, mrf1, jK_v, jK_n, JA, mz1, if_true, if_false, ite_true, ite_false, eq_self, not_false_eq_true, Nat.zero_le, true_and, and_true, and_self, Nat.reduceMod, Nat.reduceAdd, Nat.reduceLeDiff, Nat.reduceEqDiff, Nat.reduceLT, e1, cond_false, hfin]
theorem c_gBothL (h0 : jG0 μ kd N) (hs : cM μ kd N 56 [none, none] 5 5 f) (hm : cL μ kd N 55 6 6 f) : cL μ kd N 55 6 6 (f + 1) := by
  intro D i E ν d c b4 hD hG hi hE hf hd hc
  obtain ⟨d, rfl⟩ : ∃ d', d = d' + 5 := ⟨d - 5, by omega⟩
  have hT := h0.2.1
  have hN2 := hT.2.1
  have hw := jGr_w h0 hG
  unfold jWd at hw
  have hx := hG.2.1
  have hcl : iN c < (400 : Int32) := (iN_lt (b := 400) (by omega) (by decide)).mpr (by omega)
  have his18 : ∀ Q, (Ex (d + 4) 49 0 [some (.ref 1413), some (.ref 1192)] [] ν Q ↔ Q (.inl (some (.int (if kd i = 18 then 1 else 0)))) ν) := fun Q => c_is (d := d + 3) (K := 18) h0 hG hi
  show ∃ ν', cPost μ ν' E (kLp1 kd (kP kd f) 18 5 6 D i) ∧ ∀ Q, (Ex (d + 5) 55 8 [some (.ref 1413), some (.int (iN D)), some (.int 1), some (.int (iN c)), b4.map .int] [] ν Q ↔ Q (.inl (some (.int (bif (kLp1 kd (kP kd f) 18 5 6 D i).1 then 1 else 0)))) ν')
  unfold kLp1
  by_cases g : kd i = 18
  · have i1 := kTok_lt hT hi (by omega)
    have hG1 := jGr_take (j := i + 1) hG
    obtain ⟨ν1, p1, e1⟩ := hs D (i + 1) E _ (d + 4) hD hG1 i1 (by omega) (by omega) (by omega)
    have bs := kP_b hT f 5 D (i + 1) i1
    rw [if_neg (by decide)] at bs
    rw [if_pos g]
    generalize kP kd f 5 D (i + 1) = r at p1 e1 bs ⊢
    obtain ⟨ok, j, l⟩ := r
    cases ok with
    | true =>
      obtain ⟨bs1, bs2⟩ := bs
      obtain ⟨bs3, bs4⟩ := bs2 rfl
      dsimp only at bs1 bs3 bs4
      have hG2 : jGr μ ν1 j (E ++ l) := p1.1 rfl
      have l1 : (E ++ l).length < 400 := by rw [List.length_append]; omega
      have hadd : ∀ (Q : jO → jM → Prop), (Ex (d + 4) 58 0 [some (.ref 1156), some (.ref (64 * (18) + 40)), some (.int (iN i))] [] ν1 Q ↔ Q (.inl (some (.int 1))) (kAdM ν1 (E ++ l).length (18) i)) := fun Q => c_add (K := 18) (t := i) h0 hG2 l1
      have hG3 := jGr_add (K := 18) (t := i) hG2
      obtain ⟨ν2, p2, e2⟩ := hm D j (E ++ l ++ [(18, i)]) _ (d + 5) (c + 1) (some (iN i)) hD hG3 bs1 (by rw [List.length_append, List.length_append]; show E.length + l.length + 1 ≤ j; omega) (by omega) hd (by omega)
      have ev : kBd (kBd (true, j, l) (kEm (18) i)) (kP kd f 6 D) = ((kP kd f 6 D j).1, (kP kd f 6 D j).2.1, (l ++ [(18, i)]) ++ (kP kd f 6 D j).2.2) := rfl
      rw [ev]
      refine ⟨ν2, cPost_e (by rw [← List.append_assoc]; exact p2), fun Q => ?_⟩
      have e2' := e2 Q
      simp only [Option.map_some] at e2'
      have hw1 := jGr_w h0 hG2
      unfold jWd at hw1
      simp only [Nat.reduceMul, Nat.reduceAdd] at hadd
      rw [x55_8]
      have g' := eq_true g
      cases b4 <;> simp only [Option.map_some, Option.map_none, x55_0, x55_1, x55_2, x55_5a, x55_5b, x55_5c, x55_6, x55_7a, x55_7b, x55_7c, x55_9, x55_12, x55_15, x55_16, x55_19, x55_20, x55_23, x55_26, x55_29, x55_30, x55_33a, x55_33b, x55_34, x55_37a, x55_37b, x55_37c, x55_37d, x55_38, x55_39, x55_40, x55_43a, x55_43b, x55_43c, x55_45, x55_46, x55_47, x55_50, x55_53, x55_54, x55_57, x55_60, x55_62, x55_65, x55_68, x55_69, x55_72, x55_73a, x55_73b, x55_73c, x55_74a, x55_74b, x55_74c, x55_77, x55_80, x55_81, mzi, mInc, mne, mlt9, mrk, mI1, mI2, mI3, mI4, mL1, mL2, mL3, mL4, mQ1, mQ2, mQ3, mQ4, mT1, mcat0, mcat1, mcat2, mcat3, mcat4, mrf1, jK_v, jK_n, JA, mz1, if_true, if_false, ite_true, ite_false, eq_self, not_false_eq_true, Nat.zero_le, true_and, and_true, and_self, Nat.reduceMod, Nat.reduceAdd, Nat.reduceLeDiff, Nat.reduceEqDiff, Nat.reduceLT, hw, hw1, hx, hcl, his18, g', e1, hadd, cond_true, e2']
    | false =>
      have hG2 : jGz μ ν1 j := p1.2 rfl
      rw [kBd_f (r := kBd (false, j, l) (kEm (18) i)) rfl, kBd_f (r := (false, j, l)) rfl]
      refine ⟨ν1, cPost_f p1 rfl, fun Q => ?_⟩
      have hfin : ∀ s : Int32, Ex (d + 5) 55 8 [some (.ref 1413), some (.int (iN D)), some (.int 0), some (.int (iN (c + 1))), some (.int s)] [] ν1 Q ↔ Q (.inl (some (.int 0))) ν1 := by
        intro s
        rw [x55_8]
        simp only [x55_0, x55_1, x55_2, x55_5a, x55_5b, x55_5c, x55_6, x55_7a, x55_7b, x55_7c, x55_9, x55_12, x55_15, x55_16, x55_19, x55_20, x55_23, x55_26, x55_29, x55_30, x55_33a, x55_33b, x55_34, x55_37a, x55_37b, x55_37c, x55_37d, x55_38, x55_39, x55_40, x55_43a, x55_43b, x55_43c, x55_45, x55_46, x55_47, x55_50, x55_53, x55_54, x55_57, x55_60, x55_62, x55_65, x55_68, x55_69, x55_72, x55_73a, x55_73b, x55_73c, x55_74a, x55_74b, x55_74c, x55_77, x55_80, x55_81, mzi, mInc, mne, mlt9, mrk, mI1, mI2, mI3, mI4, mL1, mL2, mL3, mL4, mQ1, mQ2, mQ3, mQ4, mT1, mcat0, mcat1, mcat2, mcat3, mcat4, mrf1, jK_v, jK_n, JA, mz1, if_true, if_false, ite_true, ite_false, eq_self, not_false_eq_true, Nat.zero_le, true_and, and_true, and_self, Nat.reduceMod, Nat.reduceAdd, Nat.reduceLeDiff, Nat.reduceEqDiff, Nat.reduceLT, ite_self]
      rw [x55_8]
      have g' := eq_true g
      cases b4 <;> simp only [Option.map_some, Option.map_none, x55_0, x55_1, x55_2, x55_5a, x55_5b, x55_5c, x55_6, x55_7a, x55_7b, x55_7c, x55_9, x55_12, x55_15, x55_16, x55_19, x55_20, x55_23, x55_26, x55_29, x55_30, x55_33a, x55_33b, x55_34, x55_37a, x55_37b, x55_37c, x55_37d, x55_38, x55_39, x55_40, x55_43a, x55_43b, x55_43c, x55_45, x55_46, x55_47, x55_50, x55_53, x55_54, x55_57, x55_60, x55_62, x55_65, x55_68, x55_69, x55_72, x55_73a, x55_73b, x55_73c, x55_74a, x55_74b, x55_74c, x55_77, x55_80, x55_81, mzi, mInc, mne, mlt9, mrk, mI1, mI2, mI3, mI4, mL1, mL2, mL3, mL4, mQ1, mQ2, mQ3, mQ4, mT1, mcat0, mcat1, mcat2, mcat3, mcat4, mrf1, jK_v, jK_n, JA, mz1, if_true, if_false, ite_true, ite_false, eq_self, not_false_eq_true, Nat.zero_le, true_and, and_true, and_self, Nat.reduceMod, Nat.reduceAdd, Nat.reduceLeDiff, Nat.reduceEqDiff, Nat.reduceLT, hw, hx, hcl, his18, g', e1, cond_false, hfin]
  · rw [if_neg g]
    refine ⟨ν, cPost_1 (by rw [List.append_nil]; exact hG), fun Q => ?_⟩
    have g' := eq_false g
    rw [x55_8]
    simp only [x55_0, x55_1, x55_2, x55_5a, x55_5b, x55_5c, x55_6, x55_7a, x55_7b, x55_7c, x55_9, x55_12, x55_15, x55_16, x55_19, x55_20, x55_23, x55_26, x55_29, x55_30, x55_33a, x55_33b, x55_34, x55_37a, x55_37b, x55_37c, x55_37d, x55_38, x55_39, x55_40, x55_43a, x55_43b, x55_43c, x55_45, x55_46, x55_47, x55_50, x55_53, x55_54, x55_57, x55_60, x55_62, x55_65, x55_68, x55_69, x55_72, x55_73a, x55_73b, x55_73c, x55_74a, x55_74b, x55_74c, x55_77, x55_80, x55_81, mzi, mInc, mne, mlt9, mrk, mI1, mI2, mI3, mI4, mL1, mL2, mL3, mL4, mQ1, mQ2, mQ3, mQ4, mT1, mcat0, mcat1, mcat2, mcat3, mcat4, mrf1, jK_v, jK_n, JA, mz1, if_true, if_false, ite_true, ite_false, eq_self, not_false_eq_true, Nat.zero_le, true_and, and_true, and_self, Nat.reduceMod, Nat.reduceAdd, Nat.reduceLeDiff, Nat.reduceEqDiff, Nat.reduceLT, hw, hcl, his18, g', cond_true]
theorem c_gBoth (h0 : jG0 μ kd N) (hs : cM μ kd N 56 [none, none] 5 5 f) (hm : cL μ kd N 55 6 6 f) : cM μ kd N 55 [none, none, none] 6 7 (f + 1) := by
  intro D i E ν d hD hG hi hE hf hd
  obtain ⟨d, rfl⟩ : ∃ d', d = d' + 5 := ⟨d - 5, by omega⟩
  have hT := h0.2.1
  obtain ⟨ν1, p1, e1⟩ := hs D i E _ (d + 4) hD hG hi hE (by omega) (by omega)
  have bs := kP_b hT f 5 D i hi
  rw [if_neg (by decide)] at bs
  show ∃ ν', cPost μ ν' E (kBd (kP kd f 5 D i) (kP kd f 6 D)) ∧ ∀ Q, (Ex (d + 5) 55 0 [some (.ref 1413), some (.int (iN D)), none, none, none] [] ν Q ↔ Q (.inl (some (.int (bif (kBd (kP kd f 5 D i) (kP kd f 6 D)).1 then 1 else 0)))) ν')
  generalize kP kd f 5 D i = r at p1 e1 bs ⊢
  obtain ⟨ok, j, l⟩ := r
  have hz : (0 : Int32) = iN 0 := rfl
  cases ok with
  | true =>
    obtain ⟨bs1, bs2⟩ := bs
    obtain ⟨bs3, bs4⟩ := bs2 rfl
    dsimp only at bs1 bs3 bs4
    have hG2 : jGr μ ν1 j (E ++ l) := p1.1 rfl
    obtain ⟨ν2, p2, e2⟩ := hm D j (E ++ l) _ (d + 5) 0 none hD hG2 bs1 (by rw [List.length_append]; omega) (by omega) hd (by omega)
    have ev : kBd (true, j, l) (kP kd f 6 D) = ((kP kd f 6 D j).1, (kP kd f 6 D j).2.1, l ++ (kP kd f 6 D j).2.2) := rfl
    rw [ev]
    refine ⟨ν2, cPost_e p2, fun Q => ?_⟩
    have e2' := e2 Q
    simp only [Option.map_none] at e2'
    refine Iff.trans ?_ e2'
    simp only [x55_0, x55_1, x55_2, x55_5a, x55_5b, x55_5c, x55_6, x55_7a, x55_7b, x55_7c, x55_9, x55_12, x55_15, x55_16, x55_19, x55_20, x55_23, x55_26, x55_29, x55_30, x55_33a, x55_33b, x55_34, x55_37a, x55_37b, x55_37c, x55_37d, x55_38, x55_39, x55_40, x55_43a, x55_43b, x55_43c, x55_45, x55_46, x55_47, x55_50, x55_53, x55_54, x55_57, x55_60, x55_62, x55_65, x55_68, x55_69, x55_72, x55_73a, x55_73b, x55_73c, x55_74a, x55_74b, x55_74c, x55_77, x55_80, x55_81, mzi, mInc, mne, mlt9, mrk, mI1, mI2, mI3, mI4, mL1, mL2, mL3, mL4, mQ1, mQ2, mQ3, mQ4, mT1, mcat0, mcat1, mcat2, mcat3, mcat4, mrf1, jK_v, jK_n, JA, mz1, if_true, if_false, ite_true, ite_false, eq_self, not_false_eq_true, Nat.zero_le, true_and, and_true, and_self, Nat.reduceMod, Nat.reduceAdd, Nat.reduceLeDiff, Nat.reduceEqDiff, Nat.reduceLT, e1, cond_true]
  | false =>
    rw [kBd_f (r := (false, j, l)) rfl]
    refine ⟨ν1, cPost_f p1 rfl, fun Q => ?_⟩
    have hfin : Ex (d + 5) 55 8 [some (.ref 1413), some (.int (iN D)), some (.int 0), some (.int 0), none] [] ν1 Q ↔ Q (.inl (some (.int 0))) ν1 := by
      rw [x55_8]
      simp only [x55_0, x55_1, x55_2, x55_5a, x55_5b, x55_5c, x55_6, x55_7a, x55_7b, x55_7c, x55_9, x55_12, x55_15, x55_16, x55_19, x55_20, x55_23, x55_26, x55_29, x55_30, x55_33a, x55_33b, x55_34, x55_37a, x55_37b, x55_37c, x55_37d, x55_38, x55_39, x55_40, x55_43a, x55_43b, x55_43c, x55_45, x55_46, x55_47, x55_50, x55_53, x55_54, x55_57, x55_60, x55_62, x55_65, x55_68, x55_69, x55_72, x55_73a, x55_73b, x55_73c, x55_74a, x55_74b, x55_74c, x55_77, x55_80, x55_81, mzi, mInc, mne, mlt9, mrk, mI1, mI2, mI3, mI4, mL1, mL2, mL3, mL4, mQ1, mQ2, mQ3, mQ4, mT1, mcat0, mcat1, mcat2, mcat3, mcat4, mrf1, jK_v, jK_n, JA, mz1, if_true, if_false, ite_true, ite_false, eq_self, not_false_eq_true, Nat.zero_le, true_and, and_true, and_self, Nat.reduceMod, Nat.reduceAdd, Nat.reduceLeDiff, Nat.reduceEqDiff, Nat.reduceLT, ite_self]
    simp only [x55_0, x55_1, x55_2, x55_5a, x55_5b, x55_5c, x55_6, x55_7a, x55_7b, x55_7c, x55_9, x55_12, x55_15, x55_16, x55_19, x55_20, x55_23, x55_26, x55_29, x55_30, x55_33a, x55_33b, x55_34, x55_37a, x55_37b, x55_37c, x55_37d, x55_38, x55_39, x55_40, x55_43a, x55_43b, x55_43c, x55_45, x55_46, x55_47, x55_50, x55_53, x55_54, x55_57, x55_60, x55_62, x55_65, x55_68, x55_69, x55_72, x55_73a, x55_73b, x55_73c, x55_74a, x55_74b, x55_74c, x55_77, x55_80, x55_81, mzi, mInc, mne, mlt9, mrk, mI1, mI2, mI3, mI4, mL1, mL2, mL3, mL4, mQ1, mQ2, mQ3, mQ4, mT1, mcat0, mcat1, mcat2, mcat3, mcat4, mrf1, jK_v, jK_n, JA, mz1, if_true, if_false, ite_true, ite_false, eq_self, not_false_eq_true, Nat.zero_le, true_and, and_true, and_self, Nat.reduceMod, Nat.reduceAdd, Nat.reduceLeDiff, Nat.reduceEqDiff, Nat.reduceLT, e1, cond_false, hfin]
theorem c_gTestL (h0 : jG0 μ kd N) (hs : cM μ kd N 55 [none, none, none] 6 7 f) (hm : cL μ kd N 54 7 8 f) : cL μ kd N 54 7 8 (f + 1) := by
  intro D i E ν d c b4 hD hG hi hE hf hd hc
  obtain ⟨d, rfl⟩ : ∃ d', d = d' + 5 := ⟨d - 5, by omega⟩
  have hT := h0.2.1
  have hN2 := hT.2.1
  have hw := jGr_w h0 hG
  unfold jWd at hw
  have hx := hG.2.1
  have hcl : iN c < (400 : Int32) := (iN_lt (b := 400) (by omega) (by decide)).mpr (by omega)
  have his19 : ∀ Q, (Ex (d + 4) 49 0 [some (.ref 1413), some (.ref 1256)] [] ν Q ↔ Q (.inl (some (.int (if kd i = 19 then 1 else 0)))) ν) := fun Q => c_is (d := d + 3) (K := 19) h0 hG hi
  show ∃ ν', cPost μ ν' E (kLp1 kd (kP kd f) 19 7 8 D i) ∧ ∀ Q, (Ex (d + 5) 54 8 [some (.ref 1413), some (.int (iN D)), some (.int 1), some (.int (iN c)), b4.map .int] [] ν Q ↔ Q (.inl (some (.int (bif (kLp1 kd (kP kd f) 19 7 8 D i).1 then 1 else 0)))) ν')
  unfold kLp1
  by_cases g : kd i = 19
  · have i1 := kTok_lt hT hi (by omega)
    have hG1 := jGr_take (j := i + 1) hG
    obtain ⟨ν1, p1, e1⟩ := hs D (i + 1) E _ (d + 4) hD hG1 i1 (by omega) (by omega) (by omega)
    have bs := kP_b hT f 7 D (i + 1) i1
    rw [if_neg (by decide)] at bs
    rw [if_pos g]
    generalize kP kd f 7 D (i + 1) = r at p1 e1 bs ⊢
    obtain ⟨ok, j, l⟩ := r
    cases ok with
    | true =>
      obtain ⟨bs1, bs2⟩ := bs
      obtain ⟨bs3, bs4⟩ := bs2 rfl
      dsimp only at bs1 bs3 bs4
      have hG2 : jGr μ ν1 j (E ++ l) := p1.1 rfl
      have l1 : (E ++ l).length < 400 := by rw [List.length_append]; omega
      have hadd : ∀ (Q : jO → jM → Prop), (Ex (d + 4) 58 0 [some (.ref 1156), some (.ref (64 * (19) + 40)), some (.int (iN i))] [] ν1 Q ↔ Q (.inl (some (.int 1))) (kAdM ν1 (E ++ l).length (19) i)) := fun Q => c_add (K := 19) (t := i) h0 hG2 l1
      have hG3 := jGr_add (K := 19) (t := i) hG2
      obtain ⟨ν2, p2, e2⟩ := hm D j (E ++ l ++ [(19, i)]) _ (d + 5) (c + 1) (some (iN i)) hD hG3 bs1 (by rw [List.length_append, List.length_append]; show E.length + l.length + 1 ≤ j; omega) (by omega) hd (by omega)
      have ev : kBd (kBd (true, j, l) (kEm (19) i)) (kP kd f 8 D) = ((kP kd f 8 D j).1, (kP kd f 8 D j).2.1, (l ++ [(19, i)]) ++ (kP kd f 8 D j).2.2) := rfl
      rw [ev]
      refine ⟨ν2, cPost_e (by rw [← List.append_assoc]; exact p2), fun Q => ?_⟩
      have e2' := e2 Q
      simp only [Option.map_some] at e2'
      have hw1 := jGr_w h0 hG2
      unfold jWd at hw1
      simp only [Nat.reduceMul, Nat.reduceAdd] at hadd
      rw [x54_8]
      have g' := eq_true g
      cases b4 <;> simp only [Option.map_some, Option.map_none, x54_0, x54_1, x54_2, x54_5a, x54_5b, x54_5c, x54_6, x54_7a, x54_7b, x54_7c, x54_9, x54_12, x54_15, x54_16, x54_19, x54_20, x54_23, x54_26, x54_29, x54_30, x54_33a, x54_33b, x54_34, x54_37a, x54_37b, x54_37c, x54_37d, x54_38, x54_39, x54_40, x54_43a, x54_43b, x54_43c, x54_45, x54_46, x54_47, x54_50, x54_53, x54_54, x54_57, x54_60, x54_62, x54_65, x54_68, x54_69, x54_72, x54_73a, x54_73b, x54_73c, x54_74a, x54_74b, x54_74c, x54_77, x54_80, x54_81, mzi, mInc, mne, mlt9, mrk, mI1, mI2, mI3, mI4, mL1, mL2, mL3, mL4, mQ1, mQ2, mQ3, mQ4, mT1, mcat0, mcat1, mcat2, mcat3, mcat4, mrf1, jK_v, jK_n, JA, mz1, if_true, if_false, ite_true, ite_false, eq_self, not_false_eq_true, Nat.zero_le, true_and, and_true, and_self, Nat.reduceMod, Nat.reduceAdd, Nat.reduceLeDiff, Nat.reduceEqDiff, Nat.reduceLT, hw, hw1, hx, hcl, his19, g', e1, hadd, cond_true, e2']
    | false =>
      have hG2 : jGz μ ν1 j := p1.2 rfl
      rw [kBd_f (r := kBd (false, j, l) (kEm (19) i)) rfl, kBd_f (r := (false, j, l)) rfl]
      refine ⟨ν1, cPost_f p1 rfl, fun Q => ?_⟩
      have hfin : ∀ s : Int32, Ex (d + 5) 54 8 [some (.ref 1413), some (.int (iN D)), some (.int 0), some (.int (iN (c + 1))), some (.int s)] [] ν1 Q ↔ Q (.inl (some (.int 0))) ν1 := by
        intro s
        rw [x54_8]
        simp only [x54_0, x54_1, x54_2, x54_5a, x54_5b, x54_5c, x54_6, x54_7a, x54_7b, x54_7c, x54_9, x54_12, x54_15, x54_16, x54_19, x54_20, x54_23, x54_26, x54_29, x54_30, x54_33a, x54_33b, x54_34, x54_37a, x54_37b, x54_37c, x54_37d, x54_38, x54_39, x54_40, x54_43a, x54_43b, x54_43c, x54_45, x54_46, x54_47, x54_50, x54_53, x54_54, x54_57, x54_60, x54_62, x54_65, x54_68, x54_69, x54_72, x54_73a, x54_73b, x54_73c, x54_74a, x54_74b, x54_74c, x54_77, x54_80, x54_81, mzi, mInc, mne, mlt9, mrk, mI1, mI2, mI3, mI4, mL1, mL2, mL3, mL4, mQ1, mQ2, mQ3, mQ4, mT1, mcat0, mcat1, mcat2, mcat3, mcat4, mrf1, jK_v, jK_n, JA, mz1, if_true, if_false, ite_true, ite_false, eq_self, not_false_eq_true, Nat.zero_le, true_and, and_true, and_self, Nat.reduceMod, Nat.reduceAdd, Nat.reduceLeDiff, Nat.reduceEqDiff, Nat.reduceLT, ite_self]
      rw [x54_8]
      have g' := eq_true g
      cases b4 <;> simp only [Option.map_some, Option.map_none, x54_0, x54_1, x54_2, x54_5a, x54_5b, x54_5c, x54_6, x54_7a, x54_7b, x54_7c, x54_9, x54_12, x54_15, x54_16, x54_19, x54_20, x54_23, x54_26, x54_29, x54_30, x54_33a, x54_33b, x54_34, x54_37a, x54_37b, x54_37c, x54_37d, x54_38, x54_39, x54_40, x54_43a, x54_43b, x54_43c, x54_45, x54_46, x54_47, x54_50, x54_53, x54_54, x54_57, x54_60, x54_62, x54_65, x54_68, x54_69, x54_72, x54_73a, x54_73b, x54_73c, x54_74a, x54_74b, x54_74c, x54_77, x54_80, x54_81, mzi, mInc, mne, mlt9, mrk, mI1, mI2, mI3, mI4, mL1, mL2, mL3, mL4, mQ1, mQ2, mQ3, mQ4, mT1, mcat0, mcat1, mcat2, mcat3, mcat4, mrf1, jK_v, jK_n, JA, mz1, if_true, if_false, ite_true, ite_false, eq_self, not_false_eq_true, Nat.zero_le, true_and, and_true, and_self, Nat.reduceMod, Nat.reduceAdd, Nat.reduceLeDiff, Nat.reduceEqDiff, Nat.reduceLT, hw, hx, hcl, his19, g', e1, cond_false, hfin]
  · rw [if_neg g]
    refine ⟨ν, cPost_1 (by rw [List.append_nil]; exact hG), fun Q => ?_⟩
    have g' := eq_false g
    rw [x54_8]
    simp only [x54_0, x54_1, x54_2, x54_5a, x54_5b, x54_5c, x54_6, x54_7a, x54_7b, x54_7c, x54_9, x54_12, x54_15, x54_16, x54_19, x54_20, x54_23, x54_26, x54_29, x54_30, x54_33a, x54_33b, x54_34, x54_37a, x54_37b, x54_37c, x54_37d, x54_38, x54_39, x54_40, x54_43a, x54_43b, x54_43c, x54_45, x54_46, x54_47, x54_50, x54_53, x54_54, x54_57, x54_60, x54_62, x54_65, x54_68, x54_69, x54_72, x54_73a, x54_73b, x54_73c, x54_74a, x54_74b, x54_74c, x54_77, x54_80, x54_81, mzi, mInc, mne, mlt9, mrk, mI1, mI2, mI3, mI4, mL1, mL2, mL3, mL4, mQ1, mQ2, mQ3, mQ4, mT1, mcat0, mcat1, mcat2, mcat3, mcat4, mrf1, jK_v, jK_n, JA, mz1, if_true, if_false, ite_true, ite_false, eq_self, not_false_eq_true, Nat.zero_le, true_and, and_true, and_self, Nat.reduceMod, Nat.reduceAdd, Nat.reduceLeDiff, Nat.reduceEqDiff, Nat.reduceLT, hw, hcl, his19, g', cond_true]
theorem c_gTest (h0 : jG0 μ kd N) (hs : cM μ kd N 55 [none, none, none] 6 7 f) (hm : cL μ kd N 54 7 8 f) : cM μ kd N 54 [none, none, none] 7 9 (f + 1) := by
  intro D i E ν d hD hG hi hE hf hd
  obtain ⟨d, rfl⟩ : ∃ d', d = d' + 5 := ⟨d - 5, by omega⟩
  have hT := h0.2.1
  obtain ⟨ν1, p1, e1⟩ := hs D i E _ (d + 4) hD hG hi hE (by omega) (by omega)
  have bs := kP_b hT f 7 D i hi
  rw [if_neg (by decide)] at bs
  show ∃ ν', cPost μ ν' E (kBd (kP kd f 7 D i) (kP kd f 8 D)) ∧ ∀ Q, (Ex (d + 5) 54 0 [some (.ref 1413), some (.int (iN D)), none, none, none] [] ν Q ↔ Q (.inl (some (.int (bif (kBd (kP kd f 7 D i) (kP kd f 8 D)).1 then 1 else 0)))) ν')
  generalize kP kd f 7 D i = r at p1 e1 bs ⊢
  obtain ⟨ok, j, l⟩ := r
  have hz : (0 : Int32) = iN 0 := rfl
  cases ok with
  | true =>
    obtain ⟨bs1, bs2⟩ := bs
    obtain ⟨bs3, bs4⟩ := bs2 rfl
    dsimp only at bs1 bs3 bs4
    have hG2 : jGr μ ν1 j (E ++ l) := p1.1 rfl
    obtain ⟨ν2, p2, e2⟩ := hm D j (E ++ l) _ (d + 5) 0 none hD hG2 bs1 (by rw [List.length_append]; omega) (by omega) hd (by omega)
    have ev : kBd (true, j, l) (kP kd f 8 D) = ((kP kd f 8 D j).1, (kP kd f 8 D j).2.1, l ++ (kP kd f 8 D j).2.2) := rfl
    rw [ev]
    refine ⟨ν2, cPost_e p2, fun Q => ?_⟩
    have e2' := e2 Q
    simp only [Option.map_none] at e2'
    refine Iff.trans ?_ e2'
    simp only [x54_0, x54_1, x54_2, x54_5a, x54_5b, x54_5c, x54_6, x54_7a, x54_7b, x54_7c, x54_9, x54_12, x54_15, x54_16, x54_19, x54_20, x54_23, x54_26, x54_29, x54_30, x54_33a, x54_33b, x54_34, x54_37a, x54_37b, x54_37c, x54_37d, x54_38, x54_39, x54_40, x54_43a, x54_43b, x54_43c, x54_45, x54_46, x54_47, x54_50, x54_53, x54_54, x54_57, x54_60, x54_62, x54_65, x54_68, x54_69, x54_72, x54_73a, x54_73b, x54_73c, x54_74a, x54_74b, x54_74c, x54_77, x54_80, x54_81, mzi, mInc, mne, mlt9, mrk, mI1, mI2, mI3, mI4, mL1, mL2, mL3, mL4, mQ1, mQ2, mQ3, mQ4, mT1, mcat0, mcat1, mcat2, mcat3, mcat4, mrf1, jK_v, jK_n, JA, mz1, if_true, if_false, ite_true, ite_false, eq_self, not_false_eq_true, Nat.zero_le, true_and, and_true, and_self, Nat.reduceMod, Nat.reduceAdd, Nat.reduceLeDiff, Nat.reduceEqDiff, Nat.reduceLT, e1, cond_true]
  | false =>
    rw [kBd_f (r := (false, j, l)) rfl]
    refine ⟨ν1, cPost_f p1 rfl, fun Q => ?_⟩
    have hfin : Ex (d + 5) 54 8 [some (.ref 1413), some (.int (iN D)), some (.int 0), some (.int 0), none] [] ν1 Q ↔ Q (.inl (some (.int 0))) ν1 := by
      rw [x54_8]
      simp only [x54_0, x54_1, x54_2, x54_5a, x54_5b, x54_5c, x54_6, x54_7a, x54_7b, x54_7c, x54_9, x54_12, x54_15, x54_16, x54_19, x54_20, x54_23, x54_26, x54_29, x54_30, x54_33a, x54_33b, x54_34, x54_37a, x54_37b, x54_37c, x54_37d, x54_38, x54_39, x54_40, x54_43a, x54_43b, x54_43c, x54_45, x54_46, x54_47, x54_50, x54_53, x54_54, x54_57, x54_60, x54_62, x54_65, x54_68, x54_69, x54_72, x54_73a, x54_73b, x54_73c, x54_74a, x54_74b, x54_74c, x54_77, x54_80, x54_81, mzi, mInc, mne, mlt9, mrk, mI1, mI2, mI3, mI4, mL1, mL2, mL3, mL4, mQ1, mQ2, mQ3, mQ4, mT1, mcat0, mcat1, mcat2, mcat3, mcat4, mrf1, jK_v, jK_n, JA, mz1, if_true, if_false, ite_true, ite_false, eq_self, not_false_eq_true, Nat.zero_le, true_and, and_true, and_self, Nat.reduceMod, Nat.reduceAdd, Nat.reduceLeDiff, Nat.reduceEqDiff, Nat.reduceLT, ite_self]
    simp only [x54_0, x54_1, x54_2, x54_5a, x54_5b, x54_5c, x54_6, x54_7a, x54_7b, x54_7c, x54_9, x54_12, x54_15, x54_16, x54_19, x54_20, x54_23, x54_26, x54_29, x54_30, x54_33a, x54_33b, x54_34, x54_37a, x54_37b, x54_37c, x54_37d, x54_38, x54_39, x54_40, x54_43a, x54_43b, x54_43c, x54_45, x54_46, x54_47, x54_50, x54_53, x54_54, x54_57, x54_60, x54_62, x54_65, x54_68, x54_69, x54_72, x54_73a, x54_73b, x54_73c, x54_74a, x54_74b, x54_74c, x54_77, x54_80, x54_81, mzi, mInc, mne, mlt9, mrk, mI1, mI2, mI3, mI4, mL1, mL2, mL3, mL4, mQ1, mQ2, mQ3, mQ4, mT1, mcat0, mcat1, mcat2, mcat3, mcat4, mrf1, jK_v, jK_n, JA, mz1, if_true, if_false, ite_true, ite_false, eq_self, not_false_eq_true, Nat.zero_le, true_and, and_true, and_self, Nat.reduceMod, Nat.reduceAdd, Nat.reduceLeDiff, Nat.reduceEqDiff, Nat.reduceLT, e1, cond_false, hfin]
end GRAM
