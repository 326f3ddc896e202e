/-! THE PURE PART: dialling (class). -/
/-- line k's digits begin with these -/
def kPre (f g : Nat → Int32) (k : Nat) (x c : Int32) : Prop := ¬ g k < c ∧ jcut (f k) (g k - c) = x
theorem iN_n1 {q : Nat} (h : q < 2 ^ 31) : ¬ iN q = -1 := fun e => absurd (congrArg Int32.toInt e) (by rw [Int32.toInt_ofNat_of_lt h]; show ¬ _ = (-1 : Int); omega)
theorem jfst_at {p : Nat → Bool} {q : Nat} (hq : q < 2 ^ 31) : ∀ m k, k + m ≤ 2 ^ 31 → jfst p k m = iN q → k ≤ q ∧ q < k + m ∧ p q = true ∧ ∀ j, k ≤ j → j < q → p j = false
  | 0, k, _, h => absurd h.symm (iN_n1 hq)
  | m + 1, k, hb, h => by
    unfold jfst at h
    cases hp : p k with
    | true =>
      rw [hp] at h
      have e : k = q := (iN_eq (by omega) hq).mp h
      subst e
      exact ⟨Nat.le_refl _, by omega, hp, fun j h1 h2 => absurd h1 (by omega)⟩
    | false =>
      rw [hp] at h
      obtain ⟨h1, h2, h3, h4⟩ := jfst_at hq m (k + 1) (by omega) h
      refine ⟨by omega, by omega, h3, fun j h5 h6 => ?_⟩
      by_cases e : j = k
      · rw [e]; exact hp
      · exact h4 j (by omega) h6
theorem jfst_no {p : Nat → Bool} : ∀ m k, k + m ≤ 2 ^ 31 → (jfst p k m = -1 ↔ ∀ j, k ≤ j → j < k + m → p j = false)
  | 0, k, _ => ⟨fun _ j h1 h2 => absurd h1 (by omega), fun _ => rfl⟩
  | m + 1, k, hb => by
    unfold jfst
    cases hp : p k with
    | true =>
      refine ⟨fun h => absurd h (iN_n1 (by omega)), fun h => ?_⟩
      rw [h k (Nat.le_refl _) (by omega)] at hp
      exact absurd hp (by decide)
    | false =>
      refine (jfst_no m (k + 1) (by omega)).trans ⟨fun h j h1 h2 => ?_, fun h j h1 h2 => h j (by omega) (by omega)⟩
      by_cases e : j = k
      · rw [e]; exact hp
      · exact h j (by omega) (by omega)
theorem jfst_cases {p : Nat → Bool} : ∀ m k, jfst p k m = -1 ∨ ∃ q, k ≤ q ∧ q < k + m ∧ jfst p k m = iN q
  | 0, k => Or.inl rfl
  | m + 1, k => by
    unfold jfst
    cases hp : p k with
    | true => exact Or.inr ⟨k, Nat.le_refl _, by omega, rfl⟩
    | false =>
      rcases jfst_cases m (k + 1) (p := p) with h | ⟨q, h1, h2, h3⟩
      · exact Or.inl h
      · exact Or.inr ⟨q, by omega, by omega, h3⟩
section C10
variable {d : Nat} {μ : jM} {Q : jO → jM → Prop} {n m t L w : Nat} {K : Nat → Nat}
theorem c_sw {k : Nat} {x c : Int32} (hW : jWd μ) (hn : jI μ 1731 1 = iN n) (h10 : n ≤ 10) (hk : k < n) : Ex (d + 1) 83 0 [some (.ref 1731), some (.int (iN k)), some (.int x), some (.int c)] [] μ Q ↔ Q (.inl (some (.int (if jI μ 2000 k < c then 0 else if jcut (jI μ 1936 k) (jI μ 2000 k - c) = x then 1 else 0)))) μ := by
  have hw := hW
  unfold jWd at hw
  have kc : (iN k).toNatClampNeg = k := iN_cl (by omega)
  have kj : jin (iN k) 10 = true := iN_in (by omega) (by omega)
  have hh : jhas (iN k) (iN n) 10 = 1 := jhas_in (m := 10) hk h10 (by decide)
  by_cases g1 : jI μ 2000 k < c
  · simp only [x83_0, x83_1, x83_2, x83_5, x83_8, x83_9, x83_10, x83_13, x83_14, x83_15, x83_18, x83_19, x83_22, x83_23, x83_24, x83_25, x83_28, x83_29, x83_30, x83_31, x83_32, x83_35, x83_36, x83_39, x83_40, x83_43, x83_44, mzi, mInc, mne, mlt9, mrk, mI1, mI2, mI3, mI4, mL1, mL2, mL3, mL4, mQ1, mQ2, mQ3, mQ4, mT1, mcat0, mcat1, mcat2, mcat3, mcat4, mrf1, jK_v, jK_n, JA, mz1, if_true, if_false, ite_true, ite_false, eq_self, not_false_eq_true, Nat.zero_le, true_and, and_true, and_self, Nat.reduceMod, Nat.reduceAdd, Nat.reduceLeDiff, Nat.reduceEqDiff, Nat.reduceLT, hw, kc, kj, hh, c_hasLine (x := 1731) rfl, hn, c_wl, g1]
  · by_cases g2 : jcut (jI μ 1936 k) (jI μ 2000 k - c) = x
    all_goals simp only [x83_0, x83_1, x83_2, x83_5, x83_8, x83_9, x83_10, x83_13, x83_14, x83_15, x83_18, x83_19, x83_22, x83_23, x83_24, x83_25, x83_28, x83_29, x83_30, x83_31, x83_32, x83_35, x83_36, x83_39, x83_40, x83_43, x83_44, mzi, mInc, mne, mlt9, mrk, mI1, mI2, mI3, mI4, mL1, mL2, mL3, mL4, mQ1, mQ2, mQ3, mQ4, mT1, mcat0, mcat1, mcat2, mcat3, mcat4, mrf1, jK_v, jK_n, JA, mz1, if_true, if_false, ite_true, ite_false, eq_self, not_false_eq_true, Nat.zero_le, true_and, and_true, and_self, Nat.reduceMod, Nat.reduceAdd, Nat.reduceLeDiff, Nat.reduceEqDiff, Nat.reduceLT, hw, kc, kj, hh, c_hasLine (x := 1731) rfl, hn, c_wl, g1, g2]
def kDln (μ : jM) (l : Nat) (c : Int32) : jM := jsI (jsI (jsI μ 2768 l (jI μ 2768 l * 10 + c)) 2832 l (jI μ 2832 l + 1)) 2640 l 7
/-- a digit is dialled, and this line found -/
def kDialn (μ : jM) (l w : Nat) (c : Int32) (o : Option Nat) : jM := match o with
  | none => kDln μ l c
  | some k => if jI μ 2832 l + 1 = jI μ 2000 k then jsI (jsI (jsI (jsI (jsI (kDln μ l c) 2640 l 1) 2640 l 2) 2896 l (iN k)) 3344 w (iN l)) 2567 16 (iN (w + 1)) else jsI (kDln μ l c) 2640 l 1
def kDiaAn (μ : jM) (l : Nat) (o : Option Nat) : Int32 := match o with
  | none => 7
  | some k => if jI μ 2832 l + 1 = jI μ 2000 k then 2 else 1
theorem c_dialn {l : Nat} {c : Int32} {o : Option Nat} (hW : jWd μ) (hn : jI μ 1731 1 = iN n) (h10 : n ≤ 10) (hl : l < 10) (hw1 : jI μ 2567 16 = iN w) (hw2 : w < 10) (ho : jfst (fun k => decide (¬ jI μ 2000 k < jI μ 2832 l + 1 ∧ jcut (jI μ 1936 k) (jI μ 2000 k - (jI μ 2832 l + 1)) = jI μ 2768 l * 10 + c)) 0 n = jox o) (ho2 : ∀ k, o = some k → k < n) : Ex (d + 2) 160 0 [some (.ref 2567), some (.int (iN l)), some (.int c), none] [] μ Q ↔ Q (.inl (some (.int (kDiaAn μ l o)))) (kDialn μ l w c o) := by
  have hw := hW
  unfold jWd at hw
  have lc : (iN l).toNatClampNeg = l := iN_cl (by omega)
  have lj : jin (iN l) 10 = true := iN_in (by omega) (by omega)
  have wc : (iN w).toNatClampNeg = w := iN_cl (by omega)
  have w0 : ¬ iN w < 0 := iN_nn (by omega)
  have w9 : iN w < iN 10 := (iN_lt (by omega) (by omega)).mpr hw2
  have hIo : ∀ a, ¬ a = 2768 → ¬ a = 2832 → ¬ a = 2640 → jI (kDln μ l c) a = jI μ a := by
    intro a h1 h2 h3
    unfold kDln
    rw [mI2 h3, mI2 h2, mI2 h1]
  have hQo : jQ (kDln μ l c) = jQ μ := rfl
  have hN : jI (kDln μ l c) 2768 l = jI μ 2768 l * 10 + c := by
    unfold kDln
    simp only [mI1, mI2, Nat.reduceEqDiff, not_false_eq_true, if_true]
  have hD : jI (kDln μ l c) 2832 l = jI μ 2832 l + 1 := by
    unfold kDln
    simp only [mI1, mI2, Nat.reduceEqDiff, not_false_eq_true, if_true]
  have h7 : jI (kDln μ l c) 2640 l = 7 := by
    unfold kDln
    simp only [mI1, if_true]
  have hne : ∀ q, q < 10 → ¬ iN q = -1 := fun q h e => absurd (congrArg Int32.toInt e) (by rw [Int32.toInt_ofNat_of_lt (by omega)]; show ¬ _ = (-1 : Int); omega)
  have hsw : ∀ (k : Nat) (d : Nat) (Q : jO → jM → Prop) (x c' : Int32), k < n → (Ex (d + 1) 83 0 [some (.ref 1731), some (.int (iN k)), some (.int x), some (.int c')] [] (kDln μ l c) Q ↔ Q (.inl (some (.int (if jI μ 2000 k < c' then 0 else if jcut (jI μ 1936 k) (jI μ 2000 k - c') = x then 1 else 0)))) (kDln μ l c)) := by
    intro k d Q x c' hk
    have h := c_sw (d := d) (μ := kDln μ l c) (Q := Q) (n := n) (k := k) (x := x) (c := c') (jWd_c rfl hW) (by rw [hIo 1731 (by decide) (by decide) (by decide)]; exact hn) h10 hk
    rw [hIo 2000 (by decide) (by decide) (by decide), hIo 1936 (by decide) (by decide) (by decide)] at h
    exact h
  have hyes : ∀ k, 0 ≤ k → k < n → (¬ jI μ 2000 k < jI μ 2832 l + 1 ∧ jcut (jI μ 1936 k) (jI μ 2000 k - (jI μ 2832 l + 1)) = jI μ 2768 l * 10 + c) → (Ex (d + 2) 160 37 [some (.ref 2567), some (.int (iN l)), some (.int c), some (.int (iN k))] [] (kDln μ l c) Q ↔ (fun x : Int32 => if x = -1 then Q (.inl (some (.int 7))) (kDln μ l c) else Q (.inl (some (.int (kDiaAn μ l (some x.toNatClampNeg))))) (kDialn μ l w c (some x.toNatClampNeg))) (iN k)) := by
    intro k hlo hk hp
    have hlt : iN k < iN n := (iN_lt (by omega) (by omega)).mpr hk
    have kc : (iN k).toNatClampNeg = k := iN_cl (by omega)
    have kj : jin (iN k) 10 = true := iN_in (by omega) (by omega)
    have hk1 := hne k (by omega)
    simp only [kc, hk1, if_false]
    unfold kDialn kDiaAn
    have hswk := fun d Q x c' => hsw k d Q x c' hk
    obtain ⟨hp1, hp2⟩ := hp
    rw [x160_37]
    by_cases g : jI μ 2832 l + 1 = jI μ 2000 k
    · have g' := eq_true g
      simp only [x160_0, x160_1, x160_4, x160_5, x160_6, x160_9, x160_10, x160_11, x160_13, x160_14, x160_15, x160_16, x160_17, x160_18, x160_21, x160_22a, x160_22b, x160_23, x160_24, x160_25, x160_26, x160_27, x160_28, x160_31, x160_32, x160_34, x160_35, x160_36a, x160_36b, x160_36c, x160_38, x160_39, x160_42, x160_45, x160_48, x160_49, x160_52, x160_53, x160_54, x160_57, x160_58, x160_59, x160_60, x160_63, x160_64, x160_65, x160_68, x160_71, x160_72, x160_75, x160_76, x160_77, x160_78, x160_79, x160_82, x160_83, x160_84, x160_85, x160_88, x160_91, x160_92, x160_93, x160_96, x160_97, x160_98, x160_99, x160_102, x160_103, x160_106, x160_107, x160_108, x160_109a, x160_109b, x160_109c, x160_112, x160_115, x160_116, x160_119, x160_120, x160_121, x161_0, x161_1, x161_4, x161_5, x161_6, x161_7, x161_8, x161_11, x161_12, x161_13, x161_14, x161_15, x161_18, x161_19, x161_22, x161_23, x161_26, x161_27a, x161_27b, x161_28, x161_31, x161_32, x161_33, x161_36, mzi, mInc, mne, mlt9, mrk, mI1, mI2, mI3, mI4, mL1, mL2, mL3, mL4, mQ1, mQ2, mQ3, mQ4, mT1, mcat0, mcat1, mcat2, mcat3, mcat4, mrf1, jK_v, jK_n, JA, mz1, if_true, if_false, ite_true, ite_false, eq_self, not_false_eq_true, Nat.zero_le, true_and, and_true, and_self, Nat.reduceMod, Nat.reduceAdd, Nat.reduceLeDiff, Nat.reduceEqDiff, Nat.reduceLT, hw, hQo, hn, lc, lj, kc, kj, hlt, hIo, hN, hD, h7, hswk, hp1, hp2, g', c_put (n := 10) (a := 3344) rfl rfl (fun _ => rfl) (by decide), hw1, w0, w9, wc]
    · have g' := eq_false g
      simp only [x160_0, x160_1, x160_4, x160_5, x160_6, x160_9, x160_10, x160_11, x160_13, x160_14, x160_15, x160_16, x160_17, x160_18, x160_21, x160_22a, x160_22b, x160_23, x160_24, x160_25, x160_26, x160_27, x160_28, x160_31, x160_32, x160_34, x160_35, x160_36a, x160_36b, x160_36c, x160_38, x160_39, x160_42, x160_45, x160_48, x160_49, x160_52, x160_53, x160_54, x160_57, x160_58, x160_59, x160_60, x160_63, x160_64, x160_65, x160_68, x160_71, x160_72, x160_75, x160_76, x160_77, x160_78, x160_79, x160_82, x160_83, x160_84, x160_85, x160_88, x160_91, x160_92, x160_93, x160_96, x160_97, x160_98, x160_99, x160_102, x160_103, x160_106, x160_107, x160_108, x160_109a, x160_109b, x160_109c, x160_112, x160_115, x160_116, x160_119, x160_120, x160_121, x161_0, x161_1, x161_4, x161_5, x161_6, x161_7, x161_8, x161_11, x161_12, x161_13, x161_14, x161_15, x161_18, x161_19, x161_22, x161_23, x161_26, x161_27a, x161_27b, x161_28, x161_31, x161_32, x161_33, x161_36, mzi, mInc, mne, mlt9, mrk, mI1, mI2, mI3, mI4, mL1, mL2, mL3, mL4, mQ1, mQ2, mQ3, mQ4, mT1, mcat0, mcat1, mcat2, mcat3, mcat4, mrf1, jK_v, jK_n, JA, mz1, if_true, if_false, ite_true, ite_false, eq_self, not_false_eq_true, Nat.zero_le, true_and, and_true, and_self, Nat.reduceMod, Nat.reduceAdd, Nat.reduceLeDiff, Nat.reduceEqDiff, Nat.reduceLT, hw, hQo, hn, lc, lj, kc, kj, hlt, hIo, hN, hD, h7, hswk, hp1, hp2, g', c_put (n := 10) (a := 3344) rfl rfl (fun _ => rfl) (by decide), hw1, w0, w9, wc]
  have hno : ∀ k, 0 ≤ k → k < n → ¬ (¬ jI μ 2000 k < jI μ 2832 l + 1 ∧ jcut (jI μ 1936 k) (jI μ 2000 k - (jI μ 2832 l + 1)) = jI μ 2768 l * 10 + c) → (Ex (d + 2) 160 37 [some (.ref 2567), some (.int (iN l)), some (.int c), some (.int (iN k))] [] (kDln μ l c) Q ↔ Ex (d + 2) 160 37 [some (.ref 2567), some (.int (iN l)), some (.int c), some (.int (iN (k + 1)))] [] (kDln μ l c) Q) := by
    intro k hlo hk hp
    have hlt : iN k < iN n := (iN_lt (by omega) (by omega)).mpr hk
    have hp' : (if jI μ 2000 k < jI μ 2832 l + 1 then (0 : Int32) else if jcut (jI μ 1936 k) (jI μ 2000 k - (jI μ 2832 l + 1)) = jI μ 2768 l * 10 + c then 1 else 0) = 0 := by
      by_cases g1 : jI μ 2000 k < jI μ 2832 l + 1
      · rw [if_pos g1]
      · rw [if_neg g1, if_neg (fun g2 => hp ⟨g1, g2⟩)]
    have hswk := fun d Q x c' => hsw k d Q x c' hk
    rw [x160_37]
    simp only [x160_0, x160_1, x160_4, x160_5, x160_6, x160_9, x160_10, x160_11, x160_13, x160_14, x160_15, x160_16, x160_17, x160_18, x160_21, x160_22a, x160_22b, x160_23, x160_24, x160_25, x160_26, x160_27, x160_28, x160_31, x160_32, x160_34, x160_35, x160_36a, x160_36b, x160_36c, x160_38, x160_39, x160_42, x160_45, x160_48, x160_49, x160_52, x160_53, x160_54, x160_57, x160_58, x160_59, x160_60, x160_63, x160_64, x160_65, x160_68, x160_71, x160_72, x160_75, x160_76, x160_77, x160_78, x160_79, x160_82, x160_83, x160_84, x160_85, x160_88, x160_91, x160_92, x160_93, x160_96, x160_97, x160_98, x160_99, x160_102, x160_103, x160_106, x160_107, x160_108, x160_109a, x160_109b, x160_109c, x160_112, x160_115, x160_116, x160_119, x160_120, x160_121, x161_0, x161_1, x161_4, x161_5, x161_6, x161_7, x161_8, x161_11, x161_12, x161_13, x161_14, x161_15, x161_18, x161_19, x161_22, x161_23, x161_26, x161_27a, x161_27b, x161_28, x161_31, x161_32, x161_33, x161_36, mzi, mInc, mne, mlt9, mrk, mI1, mI2, mI3, mI4, mL1, mL2, mL3, mL4, mQ1, mQ2, mQ3, mQ4, mT1, mcat0, mcat1, mcat2, mcat3, mcat4, mrf1, jK_v, jK_n, JA, mz1, if_true, if_false, ite_true, ite_false, eq_self, not_false_eq_true, Nat.zero_le, true_and, and_true, and_self, Nat.reduceMod, Nat.reduceAdd, Nat.reduceLeDiff, Nat.reduceEqDiff, Nat.reduceLT, hw, hQo, hn, lc, lj, hlt, hIo, hN, hD, h7, hswk, hp']
  have hge : ¬ iN n < iN n := iN_irr (by omega)
  have hend : Ex (d + 2) 160 37 [some (.ref 2567), some (.int (iN l)), some (.int c), some (.int (iN n))] [] (kDln μ l c) Q ↔ (fun x : Int32 => if x = -1 then Q (.inl (some (.int 7))) (kDln μ l c) else Q (.inl (some (.int (kDiaAn μ l (some x.toNatClampNeg))))) (kDialn μ l w c (some x.toNatClampNeg))) (-1) := by
    simp only [x160_37, x160_0, x160_1, x160_4, x160_5, x160_6, x160_9, x160_10, x160_11, x160_13, x160_14, x160_15, x160_16, x160_17, x160_18, x160_21, x160_22a, x160_22b, x160_23, x160_24, x160_25, x160_26, x160_27, x160_28, x160_31, x160_32, x160_34, x160_35, x160_36a, x160_36b, x160_36c, x160_38, x160_39, x160_42, x160_45, x160_48, x160_49, x160_52, x160_53, x160_54, x160_57, x160_58, x160_59, x160_60, x160_63, x160_64, x160_65, x160_68, x160_71, x160_72, x160_75, x160_76, x160_77, x160_78, x160_79, x160_82, x160_83, x160_84, x160_85, x160_88, x160_91, x160_92, x160_93, x160_96, x160_97, x160_98, x160_99, x160_102, x160_103, x160_106, x160_107, x160_108, x160_109a, x160_109b, x160_109c, x160_112, x160_115, x160_116, x160_119, x160_120, x160_121, x161_0, x161_1, x161_4, x161_5, x161_6, x161_7, x161_8, x161_11, x161_12, x161_13, x161_14, x161_15, x161_18, x161_19, x161_22, x161_23, x161_26, x161_27a, x161_27b, x161_28, x161_31, x161_32, x161_33, x161_36, mzi, mInc, mne, mlt9, mrk, mI1, mI2, mI3, mI4, mL1, mL2, mL3, mL4, mQ1, mQ2, mQ3, mQ4, mT1, mcat0, mcat1, mcat2, mcat3, mcat4, mrf1, jK_v, jK_n, JA, mz1, if_true, if_false, ite_true, ite_false, eq_self, not_false_eq_true, Nat.zero_le, true_and, and_true, and_self, Nat.reduceMod, Nat.reduceAdd, Nat.reduceLeDiff, Nat.reduceEqDiff, Nat.reduceLT, hw, hQo, hn, lc, lj, hIo, hge, h7]
  have h1 : Ex (d + 2) 160 0 [some (.ref 2567), some (.int (iN l)), some (.int c), none] [] μ Q ↔ Ex (d + 2) 160 37 [some (.ref 2567), some (.int (iN l)), some (.int c), some (.int (iN 0))] [] (kDln μ l c) Q := by
    unfold kDln
    simp only [x160_0, x160_1, x160_4, x160_5, x160_6, x160_9, x160_10, x160_11, x160_13, x160_14, x160_15, x160_16, x160_17, x160_18, x160_21, x160_22a, x160_22b, x160_23, x160_24, x160_25, x160_26, x160_27, x160_28, x160_31, x160_32, x160_34, x160_35, x160_36a, x160_36b, x160_36c, x160_38, x160_39, x160_42, x160_45, x160_48, x160_49, x160_52, x160_53, x160_54, x160_57, x160_58, x160_59, x160_60, x160_63, x160_64, x160_65, x160_68, x160_71, x160_72, x160_75, x160_76, x160_77, x160_78, x160_79, x160_82, x160_83, x160_84, x160_85, x160_88, x160_91, x160_92, x160_93, x160_96, x160_97, x160_98, x160_99, x160_102, x160_103, x160_106, x160_107, x160_108, x160_109a, x160_109b, x160_109c, x160_112, x160_115, x160_116, x160_119, x160_120, x160_121, x161_0, x161_1, x161_4, x161_5, x161_6, x161_7, x161_8, x161_11, x161_12, x161_13, x161_14, x161_15, x161_18, x161_19, x161_22, x161_23, x161_26, x161_27a, x161_27b, x161_28, x161_31, x161_32, x161_33, x161_36, mzi, mInc, mne, mlt9, mrk, mI1, mI2, mI3, mI4, mL1, mL2, mL3, mL4, mQ1, mQ2, mQ3, mQ4, mT1, mcat0, mcat1, mcat2, mcat3, mcat4, mrf1, jK_v, jK_n, JA, mz1, if_true, if_false, ite_true, ite_false, eq_self, not_false_eq_true, Nat.zero_le, true_and, and_true, and_self, Nat.reduceMod, Nat.reduceAdd, Nat.reduceLeDiff, Nat.reduceEqDiff, Nat.reduceLT, hw, lc, lj]
  rw [h1]
  have hz : Ex (d + 2) 160 37 [some (.ref 2567), some (.int (iN l)), some (.int c), some (.int (iN 0))] [] (kDln μ l c) Q ↔ (fun x : Int32 => if x = -1 then Q (.inl (some (.int 7))) (kDln μ l c) else Q (.inl (some (.int (kDiaAn μ l (some x.toNatClampNeg))))) (kDialn μ l w c (some x.toNatClampNeg))) (jfst (fun k => decide (¬ jI μ 2000 k < jI μ 2832 l + 1 ∧ jcut (jI μ 1936 k) (jI μ 2000 k - (jI μ 2832 l + 1)) = jI μ 2768 l * 10 + c)) 0 (n - 0)) := jfst_loop (P := fun k => Ex (d + 2) 160 37 [some (.ref 2567), some (.int (iN l)), some (.int c), some (.int (iN k))] [] (kDln μ l c) Q) (R := fun x : Int32 => if x = -1 then Q (.inl (some (.int 7))) (kDln μ l c) else Q (.inl (some (.int (kDiaAn μ l (some x.toNatClampNeg))))) (kDialn μ l w c (some x.toNatClampNeg))) hyes hno hend (by omega)
  rw [Nat.sub_zero] at hz
  rw [hz, ho]
  cases o with
  | none => rfl
  | some k =>
    have hk := ho2 k rfl
    simp only [jox, hne k (by omega), if_false, iN_cl (show k < 2 ^ 31 by omega)]
def kDla (μ : jM) (l : Nat) (c : Int32) : jM := jsI (jsI (jsI μ 3664 l (jI μ 3664 l * 10 + c)) 3728 l (jI μ 3728 l + 1)) 3536 l 7
/-- a digit is dialled, and this line found -/
def kDiala (μ : jM) (l w : Nat) (c : Int32) (o : Option Nat) : jM := match o with
  | none => kDla μ l c
  | some k => if jI μ 3728 l + 1 = jI μ 2000 k then jsI (jsI (jsI (jsI (jsI (kDla μ l c) 3536 l 1) 3536 l 2) 3792 l (iN k)) 4240 w (iN l)) 3463 16 (iN (w + 1)) else jsI (kDla μ l c) 3536 l 1
def kDiaAa (μ : jM) (l : Nat) (o : Option Nat) : Int32 := match o with
  | none => 7
  | some k => if jI μ 3728 l + 1 = jI μ 2000 k then 2 else 1
theorem c_diala {l : Nat} {c : Int32} {o : Option Nat} (hW : jWd μ) (hn : jI μ 1731 1 = iN n) (h10 : n ≤ 10) (hl : l < 10) (hw1 : jI μ 3463 16 = iN w) (hw2 : w < 10) (ho : jfst (fun k => decide (¬ jI μ 2000 k < jI μ 3728 l + 1 ∧ jcut (jI μ 1936 k) (jI μ 2000 k - (jI μ 3728 l + 1)) = jI μ 3664 l * 10 + c)) 0 n = jox o) (ho2 : ∀ k, o = some k → k < n) : Ex (d + 2) 160 0 [some (.ref 3463), some (.int (iN l)), some (.int c), none] [] μ Q ↔ Q (.inl (some (.int (kDiaAa μ l o)))) (kDiala μ l w c o) := by
  have hw := hW
  unfold jWd at hw
  have lc : (iN l).toNatClampNeg = l := iN_cl (by omega)
  have lj : jin (iN l) 10 = true := iN_in (by omega) (by omega)
  have wc : (iN w).toNatClampNeg = w := iN_cl (by omega)
  have w0 : ¬ iN w < 0 := iN_nn (by omega)
  have w9 : iN w < iN 10 := (iN_lt (by omega) (by omega)).mpr hw2
  have hIo : ∀ a, ¬ a = 3664 → ¬ a = 3728 → ¬ a = 3536 → jI (kDla μ l c) a = jI μ a := by
    intro a h1 h2 h3
    unfold kDla
    rw [mI2 h3, mI2 h2, mI2 h1]
  have hQo : jQ (kDla μ l c) = jQ μ := rfl
  have hN : jI (kDla μ l c) 3664 l = jI μ 3664 l * 10 + c := by
    unfold kDla
    simp only [mI1, mI2, Nat.reduceEqDiff, not_false_eq_true, if_true]
  have hD : jI (kDla μ l c) 3728 l = jI μ 3728 l + 1 := by
    unfold kDla
    simp only [mI1, mI2, Nat.reduceEqDiff, not_false_eq_true, if_true]
  have h7 : jI (kDla μ l c) 3536 l = 7 := by
    unfold kDla
    simp only [mI1, if_true]
  have hne : ∀ q, q < 10 → ¬ iN q = -1 := fun q h e => absurd (congrArg Int32.toInt e) (by rw [Int32.toInt_ofNat_of_lt (by omega)]; show ¬ _ = (-1 : Int); omega)
  have hsw : ∀ (k : Nat) (d : Nat) (Q : jO → jM → Prop) (x c' : Int32), k < n → (Ex (d + 1) 83 0 [some (.ref 1731), some (.int (iN k)), some (.int x), some (.int c')] [] (kDla μ l c) Q ↔ Q (.inl (some (.int (if jI μ 2000 k < c' then 0 else if jcut (jI μ 1936 k) (jI μ 2000 k - c') = x then 1 else 0)))) (kDla μ l c)) := by
    intro k d Q x c' hk
    have h := c_sw (d := d) (μ := kDla μ l c) (Q := Q) (n := n) (k := k) (x := x) (c := c') (jWd_c rfl hW) (by rw [hIo 1731 (by decide) (by decide) (by decide)]; exact hn) h10 hk
    rw [hIo 2000 (by decide) (by decide) (by decide), hIo 1936 (by decide) (by decide) (by decide)] at h
    exact h
  have hyes : ∀ k, 0 ≤ k → k < n → (¬ jI μ 2000 k < jI μ 3728 l + 1 ∧ jcut (jI μ 1936 k) (jI μ 2000 k - (jI μ 3728 l + 1)) = jI μ 3664 l * 10 + c) → (Ex (d + 2) 160 37 [some (.ref 3463), some (.int (iN l)), some (.int c), some (.int (iN k))] [] (kDla μ l c) Q ↔ (fun x : Int32 => if x = -1 then Q (.inl (some (.int 7))) (kDla μ l c) else Q (.inl (some (.int (kDiaAa μ l (some x.toNatClampNeg))))) (kDiala μ l w c (some x.toNatClampNeg))) (iN k)) := by
    intro k hlo hk hp
    have hlt : iN k < iN n := (iN_lt (by omega) (by omega)).mpr hk
    have kc : (iN k).toNatClampNeg = k := iN_cl (by omega)
    have kj : jin (iN k) 10 = true := iN_in (by omega) (by omega)
    have hk1 := hne k (by omega)
    simp only [kc, hk1, if_false]
    unfold kDiala kDiaAa
    have hswk := fun d Q x c' => hsw k d Q x c' hk
    obtain ⟨hp1, hp2⟩ := hp
    rw [x160_37]
    by_cases g : jI μ 3728 l + 1 = jI μ 2000 k
    · have g' := eq_true g
      simp only [x160_0, x160_1, x160_4, x160_5, x160_6, x160_9, x160_10, x160_11, x160_13, x160_14, x160_15, x160_16, x160_17, x160_18, x160_21, x160_22a, x160_22b, x160_23, x160_24, x160_25, x160_26, x160_27, x160_28, x160_31, x160_32, x160_34, x160_35, x160_36a, x160_36b, x160_36c, x160_38, x160_39, x160_42, x160_45, x160_48, x160_49, x160_52, x160_53, x160_54, x160_57, x160_58, x160_59, x160_60, x160_63, x160_64, x160_65, x160_68, x160_71, x160_72, x160_75, x160_76, x160_77, x160_78, x160_79, x160_82, x160_83, x160_84, x160_85, x160_88, x160_91, x160_92, x160_93, x160_96, x160_97, x160_98, x160_99, x160_102, x160_103, x160_106, x160_107, x160_108, x160_109a, x160_109b, x160_109c, x160_112, x160_115, x160_116, x160_119, x160_120, x160_121, x161_0, x161_1, x161_4, x161_5, x161_6, x161_7, x161_8, x161_11, x161_12, x161_13, x161_14, x161_15, x161_18, x161_19, x161_22, x161_23, x161_26, x161_27a, x161_27b, x161_28, x161_31, x161_32, x161_33, x161_36, mzi, mInc, mne, mlt9, mrk, mI1, mI2, mI3, mI4, mL1, mL2, mL3, mL4, mQ1, mQ2, mQ3, mQ4, mT1, mcat0, mcat1, mcat2, mcat3, mcat4, mrf1, jK_v, jK_n, JA, mz1, if_true, if_false, ite_true, ite_false, eq_self, not_false_eq_true, Nat.zero_le, true_and, and_true, and_self, Nat.reduceMod, Nat.reduceAdd, Nat.reduceLeDiff, Nat.reduceEqDiff, Nat.reduceLT, hw, hQo, hn, lc, lj, kc, kj, hlt, hIo, hN, hD, h7, hswk, hp1, hp2, g', c_put (n := 10) (a := 4240) rfl rfl (fun _ => rfl) (by decide), hw1, w0, w9, wc]
    · have g' := eq_false g
      simp only [x160_0, x160_1, x160_4, x160_5, x160_6, x160_9, x160_10, x160_11, x160_13, x160_14, x160_15, x160_16, x160_17, x160_18, x160_21, x160_22a, x160_22b, x160_23, x160_24, x160_25, x160_26, x160_27, x160_28, x160_31, x160_32, x160_34, x160_35, x160_36a, x160_36b, x160_36c, x160_38, x160_39, x160_42, x160_45, x160_48, x160_49, x160_52, x160_53, x160_54, x160_57, x160_58, x160_59, x160_60, x160_63, x160_64, x160_65, x160_68, x160_71, x160_72, x160_75, x160_76, x160_77, x160_78, x160_79, x160_82, x160_83, x160_84, x160_85, x160_88, x160_91, x160_92, x160_93, x160_96, x160_97, x160_98, x160_99, x160_102, x160_103, x160_106, x160_107, x160_108, x160_109a, x160_109b, x160_109c, x160_112, x160_115, x160_116, x160_119, x160_120, x160_121, x161_0, x161_1, x161_4, x161_5, x161_6, x161_7, x161_8, x161_11, x161_12, x161_13, x161_14, x161_15, x161_18, x161_19, x161_22, x161_23, x161_26, x161_27a, x161_27b, x161_28, x161_31, x161_32, x161_33, x161_36, mzi, mInc, mne, mlt9, mrk, mI1, mI2, mI3, mI4, mL1, mL2, mL3, mL4, mQ1, mQ2, mQ3, mQ4, mT1, mcat0, mcat1, mcat2, mcat3, mcat4, mrf1, jK_v, jK_n, JA, mz1, if_true, if_false, ite_true, ite_false, eq_self, not_false_eq_true, Nat.zero_le, true_and, and_true, and_self, Nat.reduceMod, Nat.reduceAdd, Nat.reduceLeDiff, Nat.reduceEqDiff, Nat.reduceLT, hw, hQo, hn, lc, lj, kc, kj, hlt, hIo, hN, hD, h7, hswk, hp1, hp2, g', c_put (n := 10) (a := 4240) rfl rfl (fun _ => rfl) (by decide), hw1, w0, w9, wc]
  have hno : ∀ k, 0 ≤ k → k < n → ¬ (¬ jI μ 2000 k < jI μ 3728 l + 1 ∧ jcut (jI μ 1936 k) (jI μ 2000 k - (jI μ 3728 l + 1)) = jI μ 3664 l * 10 + c) → (Ex (d + 2) 160 37 [some (.ref 3463), some (.int (iN l)), some (.int c), some (.int (iN k))] [] (kDla μ l c) Q ↔ Ex (d + 2) 160 37 [some (.ref 3463), some (.int (iN l)), some (.int c), some (.int (iN (k + 1)))] [] (kDla μ l c) Q) := by
    intro k hlo hk hp
    have hlt : iN k < iN n := (iN_lt (by omega) (by omega)).mpr hk
    have hp' : (if jI μ 2000 k < jI μ 3728 l + 1 then (0 : Int32) else if jcut (jI μ 1936 k) (jI μ 2000 k - (jI μ 3728 l + 1)) = jI μ 3664 l * 10 + c then 1 else 0) = 0 := by
      by_cases g1 : jI μ 2000 k < jI μ 3728 l + 1
      · rw [if_pos g1]
      · rw [if_neg g1, if_neg (fun g2 => hp ⟨g1, g2⟩)]
    have hswk := fun d Q x c' => hsw k d Q x c' hk
    rw [x160_37]
    simp only [x160_0, x160_1, x160_4, x160_5, x160_6, x160_9, x160_10, x160_11, x160_13, x160_14, x160_15, x160_16, x160_17, x160_18, x160_21, x160_22a, x160_22b, x160_23, x160_24, x160_25, x160_26, x160_27, x160_28, x160_31, x160_32, x160_34, x160_35, x160_36a, x160_36b, x160_36c, x160_38, x160_39, x160_42, x160_45, x160_48, x160_49, x160_52, x160_53, x160_54, x160_57, x160_58, x160_59, x160_60, x160_63, x160_64, x160_65, x160_68, x160_71, x160_72, x160_75, x160_76, x160_77, x160_78, x160_79, x160_82, x160_83, x160_84, x160_85, x160_88, x160_91, x160_92, x160_93, x160_96, x160_97, x160_98, x160_99, x160_102, x160_103, x160_106, x160_107, x160_108, x160_109a, x160_109b, x160_109c, x160_112, x160_115, x160_116, x160_119, x160_120, x160_121, x161_0, x161_1, x161_4, x161_5, x161_6, x161_7, x161_8, x161_11, x161_12, x161_13, x161_14, x161_15, x161_18, x161_19, x161_22, x161_23, x161_26, x161_27a, x161_27b, x161_28, x161_31, x161_32, x161_33, x161_36, mzi, mInc, mne, mlt9, mrk, mI1, mI2, mI3, mI4, mL1, mL2, mL3, mL4, mQ1, mQ2, mQ3, mQ4, mT1, mcat0, mcat1, mcat2, mcat3, mcat4, mrf1, jK_v, jK_n, JA, mz1, if_true, if_false, ite_true, ite_false, eq_self, not_false_eq_true, Nat.zero_le, true_and, and_true, and_self, Nat.reduceMod, Nat.reduceAdd, Nat.reduceLeDiff, Nat.reduceEqDiff, Nat.reduceLT, hw, hQo, hn, lc, lj, hlt, hIo, hN, hD, h7, hswk, hp']
  have hge : ¬ iN n < iN n := iN_irr (by omega)
  have hend : Ex (d + 2) 160 37 [some (.ref 3463), some (.int (iN l)), some (.int c), some (.int (iN n))] [] (kDla μ l c) Q ↔ (fun x : Int32 => if x = -1 then Q (.inl (some (.int 7))) (kDla μ l c) else Q (.inl (some (.int (kDiaAa μ l (some x.toNatClampNeg))))) (kDiala μ l w c (some x.toNatClampNeg))) (-1) := by
    simp only [x160_37, x160_0, x160_1, x160_4, x160_5, x160_6, x160_9, x160_10, x160_11, x160_13, x160_14, x160_15, x160_16, x160_17, x160_18, x160_21, x160_22a, x160_22b, x160_23, x160_24, x160_25, x160_26, x160_27, x160_28, x160_31, x160_32, x160_34, x160_35, x160_36a, x160_36b, x160_36c, x160_38, x160_39, x160_42, x160_45, x160_48, x160_49, x160_52, x160_53, x160_54, x160_57, x160_58, x160_59, x160_60, x160_63, x160_64, x160_65, x160_68, x160_71, x160_72, x160_75, x160_76, x160_77, x160_78, x160_79, x160_82, x160_83, x160_84, x160_85, x160_88, x160_91, x160_92, x160_93, x160_96, x160_97, x160_98, x160_99, x160_102, x160_103, x160_106, x160_107, x160_108, x160_109a, x160_109b, x160_109c, x160_112, x160_115, x160_116, x160_119, x160_120, x160_121, x161_0, x161_1, x161_4, x161_5, x161_6, x161_7, x161_8, x161_11, x161_12, x161_13, x161_14, x161_15, x161_18, x161_19, x161_22, x161_23, x161_26, x161_27a, x161_27b, x161_28, x161_31, x161_32, x161_33, x161_36, mzi, mInc, mne, mlt9, mrk, mI1, mI2, mI3, mI4, mL1, mL2, mL3, mL4, mQ1, mQ2, mQ3, mQ4, mT1, mcat0, mcat1, mcat2, mcat3, mcat4, mrf1, jK_v, jK_n, JA, mz1, if_true, if_false, ite_true, ite_false, eq_self, not_false_eq_true, Nat.zero_le, true_and, and_true, and_self, Nat.reduceMod, Nat.reduceAdd, Nat.reduceLeDiff, Nat.reduceEqDiff, Nat.reduceLT, hw, hQo, hn, lc, lj, hIo, hge, h7]
  have h1 : Ex (d + 2) 160 0 [some (.ref 3463), some (.int (iN l)), some (.int c), none] [] μ Q ↔ Ex (d + 2) 160 37 [some (.ref 3463), some (.int (iN l)), some (.int c), some (.int (iN 0))] [] (kDla μ l c) Q := by
    unfold kDla
    simp only [x160_0, x160_1, x160_4, x160_5, x160_6, x160_9, x160_10, x160_11, x160_13, x160_14, x160_15, x160_16, x160_17, x160_18, x160_21, x160_22a, x160_22b, x160_23, x160_24, x160_25, x160_26, x160_27, x160_28, x160_31, x160_32, x160_34, x160_35, x160_36a, x160_36b, x160_36c, x160_38, x160_39, x160_42, x160_45, x160_48, x160_49, x160_52, x160_53, x160_54, x160_57, x160_58, x160_59, x160_60, x160_63, x160_64, x160_65, x160_68, x160_71, x160_72, x160_75, x160_76, x160_77, x160_78, x160_79, x160_82, x160_83, x160_84, x160_85, x160_88, x160_91, x160_92, x160_93, x160_96, x160_97, x160_98, x160_99, x160_102, x160_103, x160_106, x160_107, x160_108, x160_109a, x160_109b, x160_109c, x160_112, x160_115, x160_116, x160_119, x160_120, x160_121, x161_0, x161_1, x161_4, x161_5, x161_6, x161_7, x161_8, x161_11, x161_12, x161_13, x161_14, x161_15, x161_18, x161_19, x161_22, x161_23, x161_26, x161_27a, x161_27b, x161_28, x161_31, x161_32, x161_33, x161_36, mzi, mInc, mne, mlt9, mrk, mI1, mI2, mI3, mI4, mL1, mL2, mL3, mL4, mQ1, mQ2, mQ3, mQ4, mT1, mcat0, mcat1, mcat2, mcat3, mcat4, mrf1, jK_v, jK_n, JA, mz1, if_true, if_false, ite_true, ite_false, eq_self, not_false_eq_true, Nat.zero_le, true_and, and_true, and_self, Nat.reduceMod, Nat.reduceAdd, Nat.reduceLeDiff, Nat.reduceEqDiff, Nat.reduceLT, hw, lc, lj]
  rw [h1]
  have hz : Ex (d + 2) 160 37 [some (.ref 3463), some (.int (iN l)), some (.int c), some (.int (iN 0))] [] (kDla μ l c) Q ↔ (fun x : Int32 => if x = -1 then Q (.inl (some (.int 7))) (kDla μ l c) else Q (.inl (some (.int (kDiaAa μ l (some x.toNatClampNeg))))) (kDiala μ l w c (some x.toNatClampNeg))) (jfst (fun k => decide (¬ jI μ 2000 k < jI μ 3728 l + 1 ∧ jcut (jI μ 1936 k) (jI μ 2000 k - (jI μ 3728 l + 1)) = jI μ 3664 l * 10 + c)) 0 (n - 0)) := jfst_loop (P := fun k => Ex (d + 2) 160 37 [some (.ref 3463), some (.int (iN l)), some (.int c), some (.int (iN k))] [] (kDla μ l c) Q) (R := fun x : Int32 => if x = -1 then Q (.inl (some (.int 7))) (kDla μ l c) else Q (.inl (some (.int (kDiaAa μ l (some x.toNatClampNeg))))) (kDiala μ l w c (some x.toNatClampNeg))) hyes hno hend (by omega)
  rw [Nat.sub_zero] at hz
  rw [hz, ho]
  cases o with
  | none => rfl
  | some k =>
    have hk := ho2 k rfl
    simp only [jox, hne k (by omega), if_false, iN_cl (show k < 2 ^ 31 by omega)]
end C10
