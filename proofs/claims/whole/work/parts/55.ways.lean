/-! THE PURE PART: ways. -/
theorem jfold_loopG {α β : Type} {P : Nat → α → β → Prop} {f : Nat → α → α} {n : Nat} (h : ∀ k a b, k < n → ∃ b', (P k a b ↔ P (k + 1) (f k a) b')) : ∀ m k a b, k + m = n → ∃ b', (P k a b ↔ P n (jfold f k m a) b')
  | 0, k, a, b, e => ⟨b, by rw [show k = n by omega]; rfl⟩
  | m + 1, k, a, b, e => by
    obtain ⟨b1, h1⟩ := h k a b (by omega)
    obtain ⟨b2, h2⟩ := jfold_loopG h m (k + 1) (f k a) b1 (by omega)
    exact ⟨b2, h1.trans h2⟩
/-- the switch behind trunk t from x -/
def kAcr (f g : Nat → Int32) (x : Int32) (t : Nat) : Int32 := if f t = x then g t else if g t = x then f t else -1
/-- keep a way if it is better -/
def kKeep (p g c s : Int32) (W : Nat → Int32) : Nat → Int32 := if W 4 = -1 ∨ c < W 4 ∨ c = W 4 ∧ s < W 7 then (fun j => if j = 7 then s else if j = 6 then g else if j = 5 then p else if j = 4 then c else W j) else W
/-- all ways on from a switch, the best kept -/
def kExp (f g c : Nat → Int32) (n : Nat) : Nat → Int32 → Int32 → Int32 → Int32 → Nat → (Nat → Int32) → (Nat → Int32)
  | 0, _, _, _, _, _, W => W
  | m + 1, x, p, o, r, e, W => if x = W 1 then kKeep p o r (iN e) W else
    jfold (fun t W => if kAcr f g x t = -1 then W else if jbit (W 3) (iN t) = 0 then W else if jbit (W 2 &&& (p ^^^ (-1))) (kAcr f g x t) = 0 then W else
      kExp f g c n m (kAcr f g x t) (p ||| 1 <<< (kAcr f g x t &&& 31)) (o ||| 1 <<< (iN t &&& 31)) (r + c t) (e + 1) W) 0 n W
/-- look for a way: what the row of the ways then holds -/
def kLook (f g c : Nat → Int32) (n : Nat) (x z fr op : Int32) (W : Nat → Int32) : Nat → Int32 :=
  if jbit fr x = 0 then (fun j => if j = 7 then 0 else if j = 6 then 0 else if j = 5 then 0 else if j = 4 then -1 else if j = 3 then op else if j = 2 then fr else if j = 1 then z else W j)
  else kExp f g c n 7 x (1 <<< (x &&& 31)) 0 0 0 (fun j => if j = 7 then 0 else if j = 6 then 0 else if j = 5 then 0 else if j = 4 then -1 else if j = 3 then op else if j = 2 then fr else if j = 1 then z else W j)
theorem jWd_c {μ μ' : jM} (h : jQ μ' = jQ μ) (hW : jWd μ) : jWd μ' := by
  unfold jWd at hW ⊢
  rw [h]
  exact hW
theorem jor_lt {c w s l : Int32} : (w = -1 ∨ c < w ∨ c = w ∧ s < l) ↔ ¬ (¬ w = -1 ∧ ¬ c < w ∧ (¬ c = w ∨ ¬ s < l)) := by
  by_cases a : w = -1 <;> by_cases b : c < w <;> by_cases d : c = w <;> by_cases e : s < l <;> simp [a, b, d, e]
section C5
variable {d : Nat} {μ : jM} {Q : jO → jM → Prop} {n w m : Nat}
theorem c_freeSwn (hW : jWd μ) (hn : jI μ 1731 1 = iN n) (h10 : n ≤ 10) (hm : jI μ 1731 0 = iN m) (h6 : m ≤ 6) : Ex (d + 2) 222 0 [some (.ref 2567), none, none] [] μ Q ↔ Q (.inl (some (.int (jfold (fun k a => a ||| (if rsum (fun l => jI μ 3024 l >>> (iN k &&& 31) &&& 1) n < jI μ 1812 k then 1 <<< (iN k &&& 31) else 0)) 0 m 0)))) μ := by
  have hw := hW
  unfold jWd at hw
  have loop : ∀ (k : Nat) (a : Int32), k < m → (Ex (d + 2) 222 4 [some (.ref 2567), some (.int a), some (.int (iN k))] [] μ Q ↔ Ex (d + 2) 222 4 [some (.ref 2567), some (.int (a ||| (if rsum (fun l => jI μ 3024 l >>> (iN k &&& 31) &&& 1) n < jI μ 1812 k then 1 <<< (iN k &&& 31) else 0))), some (.int (iN (k + 1)))] [] μ Q) := by
    intro k a hk
    have hlt : iN k < iN m := (iN_lt (by omega) (by omega)).mpr hk
    have hkc : (iN k).toNatClampNeg = k := iN_cl (by omega)
    have hkj : jin (iN k) 6 = true := iN_in (by omega) (by omega)
    all_goals rw [x222_4]
    all_goals by_cases g : rsum (fun l => jI μ 3024 l >>> (iN k &&& 31) &&& 1) n < jI μ 1812 k
    all_goals simp only [x222_0, x222_1a, x222_1b, x222_1c, x222_2, x222_3a, x222_3b, x222_3c, x222_5, x222_6, x222_9, x222_12, x222_15, x222_16, x222_17, x222_18, x222_21, x222_22, x222_25, x222_28, x222_29, x222_30, x222_33, x222_34, x222_35, x222_36, x222_39, x222_40, x222_41a, x222_41b, x222_41c, x222_42a, x222_42b, x222_42c, x222_45, x222_48, x222_49, mzi, mInc, mne, mlt9, mrk, mI1, mI2, mI3, mI4, mL1, mL2, mL3, mL4, mQ1, mQ2, mQ3, mQ4, mT1, mcat0, mcat1, mcat2, mcat3, mcat4, mrf1, jK_v, jK_n, JA, mz1, if_true, if_false, ite_true, ite_false, eq_self, not_false_eq_true, Nat.zero_le, true_and, and_true, and_self, Nat.reduceMod, Nat.reduceAdd, Nat.reduceLeDiff, Nat.reduceEqDiff, Nat.reduceLT, hlt, hkc, hkj, hw, hm, c_barsn hW hn h10, g]
  have h0 := jfold_loop (P := fun k a => Ex (d + 2) 222 4 [some (.ref 2567), some (.int a), some (.int (iN k))] [] μ Q) loop m 0 0 (by omega)
  have hge : ¬ iN m < iN m := iN_irr (by omega)
  have h1 : Ex (d + 2) 222 0 [some (.ref 2567), none, none] [] μ Q ↔ Ex (d + 2) 222 4 [some (.ref 2567), some (.int 0), some (.int (iN 0))] [] μ Q := by
    simp only [x222_0, x222_1a, x222_1b, x222_1c, x222_2, x222_3a, x222_3b, x222_3c, x222_5, x222_6, x222_9, x222_12, x222_15, x222_16, x222_17, x222_18, x222_21, x222_22, x222_25, x222_28, x222_29, x222_30, x222_33, x222_34, x222_35, x222_36, x222_39, x222_40, x222_41a, x222_41b, x222_41c, x222_42a, x222_42b, x222_42c, x222_45, x222_48, x222_49, mzi, mInc, mne, mlt9, mrk, mI1, mI2, mI3, mI4, mL1, mL2, mL3, mL4, mQ1, mQ2, mQ3, mQ4, mT1, mcat0, mcat1, mcat2, mcat3, mcat4, mrf1, jK_v, jK_n, JA, mz1, if_true, if_false, ite_true, ite_false, eq_self, not_false_eq_true, Nat.zero_le, true_and, and_true, and_self, Nat.reduceMod, Nat.reduceAdd, Nat.reduceLeDiff, Nat.reduceEqDiff, Nat.reduceLT, hw, hm, c_barsn hW hn h10]
  rw [h1, h0]
  simp only [x222_4, x222_0, x222_1a, x222_1b, x222_1c, x222_2, x222_3a, x222_3b, x222_3c, x222_5, x222_6, x222_9, x222_12, x222_15, x222_16, x222_17, x222_18, x222_21, x222_22, x222_25, x222_28, x222_29, x222_30, x222_33, x222_34, x222_35, x222_36, x222_39, x222_40, x222_41a, x222_41b, x222_41c, x222_42a, x222_42b, x222_42c, x222_45, x222_48, x222_49, mzi, mInc, mne, mlt9, mrk, mI1, mI2, mI3, mI4, mL1, mL2, mL3, mL4, mQ1, mQ2, mQ3, mQ4, mT1, mcat0, mcat1, mcat2, mcat3, mcat4, mrf1, jK_v, jK_n, JA, mz1, if_true, if_false, ite_true, ite_false, eq_self, not_false_eq_true, Nat.zero_le, true_and, and_true, and_self, Nat.reduceMod, Nat.reduceAdd, Nat.reduceLeDiff, Nat.reduceEqDiff, Nat.reduceLT, hge, hw, hm, c_barsn hW hn h10]
theorem c_keepn {W : Nat → Int32} {p g c s : Int32} : Ex d 226 0 [some (.ref 3400), some (.int p), some (.int g), some (.int c), some (.int s)] [] (jsR μ 3400 W) Q ↔ Q (.inl none) (jsR μ 3400 (kKeep p g c s W)) := by
  unfold kKeep
  have hir : ∀ y : Int32, ¬ y < y := fun y h => Int32.lt_irrefl h
  by_cases a : W 4 = -1 <;> by_cases b : c < W 4 <;> by_cases e : c = W 4 <;> by_cases f : s < W 7
  all_goals simp only [x226_0, x226_1, x226_4, x226_5, x226_8, x226_9, x226_10, x226_13, x226_16, x226_17, x226_18, x226_21, x226_24, x226_26, x226_27, x226_30, x226_33, x226_34, x226_35, x226_38, x226_39, x226_40, x226_43, x226_44, x226_45, x226_48, x226_49, x226_51, x226_54, mzi, mInc, mne, mlt9, mrk, mI1, mI2, mI3, mI4, mL1, mL2, mL3, mL4, mQ1, mQ2, mQ3, mQ4, mT1, mcat0, mcat1, mcat2, mcat3, mcat4, mrf1, jK_v, jK_n, JA, mz1, if_true, if_false, ite_true, ite_false, eq_self, not_false_eq_true, Nat.zero_le, true_and, and_true, and_self, Nat.reduceMod, Nat.reduceAdd, Nat.reduceLeDiff, Nat.reduceEqDiff, Nat.reduceLT, mR1, mR2, mR3, mRI, hir, a, b, e, f, or_true, true_or, or_false, false_or, and_false, false_and]
theorem c_expln (hW : jWd μ) (hn : jI μ 1731 2 = iN n) (h10 : n ≤ 10) : ∀ (F e : Nat) (d : Nat) (x p o r : Int32) (W : Nat → Int32) (Q : jO → jM → Prop), F + e = 6 → (Ex (d + F + 2) 225 0 [some (.ref 3400), some (.int x), some (.int p), some (.int o), some (.int r), some (.int (iN e)), none, none] [] (jsR μ 3400 W) Q ↔ Q (.inl none) (jsR μ 3400 (kExp (jI μ 2064) (jI μ 2128) (jI μ 2256) n (F + 1) x p o r e W))) := by
  have hw := hW
  unfold jWd at hw
  intro F
  induction F with
  | zero =>
    intro e d x p o r W Q hF
    have he : e = 6 := by omega
    subst he
    have he6 : ¬ iN 6 < 6 := by decide
    unfold kExp
    by_cases hg : x = W 1
    · simp only [x225_0, x225_1, x225_2, x225_5, x225_8, x225_9, x225_10, x225_11, x225_13, x225_15, x225_18, x225_19, x225_20a, x225_20b, x225_20c, x225_24, x225_25, x225_28, x225_31, x225_34, x225_36, x225_38, x225_41, x225_42, x225_45, x225_47, x225_48, x225_51a, x225_51b, x225_51c, x225_53, x225_55, x225_56, x225_59, x225_60, x225_63, x225_65, x225_68, x225_71, x225_72, x225_75, x225_76, x225_77, x225_78, x225_79, x225_81, x225_84, x225_87, x225_88, x225_90, x225_91, x225_92, x225_94, x225_95, x225_96, x225_97, x225_98, x225_100, x225_101, x225_102, x225_104, x225_105, x225_108, x225_111, x225_113, x225_114, x225_115, x225_117, x225_118, x225_119, x225_122a, x225_122b, x225_122c, x225_125, x225_128, mzi, mInc, mne, mlt9, mrk, mI1, mI2, mI3, mI4, mL1, mL2, mL3, mL4, mQ1, mQ2, mQ3, mQ4, mT1, mcat0, mcat1, mcat2, mcat3, mcat4, mrf1, jK_v, jK_n, JA, mz1, if_true, if_false, ite_true, ite_false, eq_self, not_false_eq_true, Nat.zero_le, true_and, and_true, and_self, Nat.reduceMod, Nat.reduceAdd, Nat.reduceLeDiff, Nat.reduceEqDiff, Nat.reduceLT, hw, mR1, mR2, mR3, hg, c_keepn]
    · have hid : ∀ m k, jfold (fun t W => if kAcr (jI μ 2064) (jI μ 2128) x t = -1 then W else if jbit (W 3) (iN t) = 0 then W else if jbit (W 2 &&& (p ^^^ (-1))) (kAcr (jI μ 2064) (jI μ 2128) x t) = 0 then W else
      kExp (jI μ 2064) (jI μ 2128) (jI μ 2256) n 0 (kAcr (jI μ 2064) (jI μ 2128) x t) (p ||| 1 <<< (kAcr (jI μ 2064) (jI μ 2128) x t &&& 31)) (o ||| 1 <<< (iN t &&& 31)) (r + jI μ 2256 t) (6 + 1) W) k m W = W := by
        intro m
        induction m with
        | zero => intro k; rfl
        | succ m ih =>
          intro k
          show jfold _ (k + 1) m _ = W
          simp only [kExp, ite_self] at ih ⊢
          exact ih (k + 1)
      rw [if_neg hg, hid]
      by_cases h0 : (0 : Int32) < iN n
      all_goals simp only [x225_22, x225_0, x225_1, x225_2, x225_5, x225_8, x225_9, x225_10, x225_11, x225_13, x225_15, x225_18, x225_19, x225_20a, x225_20b, x225_20c, x225_24, x225_25, x225_28, x225_31, x225_34, x225_36, x225_38, x225_41, x225_42, x225_45, x225_47, x225_48, x225_51a, x225_51b, x225_51c, x225_53, x225_55, x225_56, x225_59, x225_60, x225_63, x225_65, x225_68, x225_71, x225_72, x225_75, x225_76, x225_77, x225_78, x225_79, x225_81, x225_84, x225_87, x225_88, x225_90, x225_91, x225_92, x225_94, x225_95, x225_96, x225_97, x225_98, x225_100, x225_101, x225_102, x225_104, x225_105, x225_108, x225_111, x225_113, x225_114, x225_115, x225_117, x225_118, x225_119, x225_122a, x225_122b, x225_122c, x225_125, x225_128, mzi, mInc, mne, mlt9, mrk, mI1, mI2, mI3, mI4, mL1, mL2, mL3, mL4, mQ1, mQ2, mQ3, mQ4, mT1, mcat0, mcat1, mcat2, mcat3, mcat4, mrf1, jK_v, jK_n, JA, mz1, if_true, if_false, ite_true, ite_false, eq_self, not_false_eq_true, Nat.zero_le, true_and, and_true, and_self, Nat.reduceMod, Nat.reduceAdd, Nat.reduceLeDiff, Nat.reduceEqDiff, Nat.reduceLT, hw, hn, mR1, mR2, mR3, hg, he6, h0]
  | succ F ih =>
    intro e d x p o r W Q hF
    unfold kExp
    by_cases hg : x = W 1
    · simp only [x225_0, x225_1, x225_2, x225_5, x225_8, x225_9, x225_10, x225_11, x225_13, x225_15, x225_18, x225_19, x225_20a, x225_20b, x225_20c, x225_24, x225_25, x225_28, x225_31, x225_34, x225_36, x225_38, x225_41, x225_42, x225_45, x225_47, x225_48, x225_51a, x225_51b, x225_51c, x225_53, x225_55, x225_56, x225_59, x225_60, x225_63, x225_65, x225_68, x225_71, x225_72, x225_75, x225_76, x225_77, x225_78, x225_79, x225_81, x225_84, x225_87, x225_88, x225_90, x225_91, x225_92, x225_94, x225_95, x225_96, x225_97, x225_98, x225_100, x225_101, x225_102, x225_104, x225_105, x225_108, x225_111, x225_113, x225_114, x225_115, x225_117, x225_118, x225_119, x225_122a, x225_122b, x225_122c, x225_125, x225_128, mzi, mInc, mne, mlt9, mrk, mI1, mI2, mI3, mI4, mL1, mL2, mL3, mL4, mQ1, mQ2, mQ3, mQ4, mT1, mcat0, mcat1, mcat2, mcat3, mcat4, mrf1, jK_v, jK_n, JA, mz1, if_true, if_false, ite_true, ite_false, eq_self, not_false_eq_true, Nat.zero_le, true_and, and_true, and_self, Nat.reduceMod, Nat.reduceAdd, Nat.reduceLeDiff, Nat.reduceEqDiff, Nat.reduceLT, hw, mR1, mR2, mR3, hg, c_keepn]
    · rw [if_neg hg]
      have he6 : iN e < (6 : Int32) := (iN_lt (b := 6) (by omega) (by decide)).mpr (by omega)
      have hg1 : ∀ W' : Nat → Int32, W' 1 = W 1 → ¬ x = W' 1 := fun W' h => by rw [h]; exact hg
      have hloop := jfold_loopG (P := fun k W v => Ex (d + (F + 1) + 2) 225 22 [some (.ref 3400), some (.int x), some (.int p), some (.int o), some (.int r), some (.int (iN e)), some (.int (iN k)), v] [] (jsR μ 3400 W) Q)
        (f := fun t W => if kAcr (jI μ 2064) (jI μ 2128) x t = -1 then W else if jbit (W 3) (iN t) = 0 then W else if jbit (W 2 &&& (p ^^^ (-1))) (kAcr (jI μ 2064) (jI μ 2128) x t) = 0 then W else
          kExp (jI μ 2064) (jI μ 2128) (jI μ 2256) n (F + 1) (kAcr (jI μ 2064) (jI μ 2128) x t) (p ||| 1 <<< (kAcr (jI μ 2064) (jI μ 2128) x t &&& 31)) (o ||| 1 <<< (iN t &&& 31)) (r + jI μ 2256 t) (e + 1) W) (n := n) (by
        intro k W v hk
        refine ⟨some (.int (kAcr (jI μ 2064) (jI μ 2128) x k)), ?_⟩
        have hlt : iN k < iN n := (iN_lt (by omega) (by omega)).mpr hk
        have hkc : (iN k).toNatClampNeg = k := iN_cl (by omega)
        have hkj : jin (iN k) 10 = true := iN_in (by omega) (by omega)
        have hac : ∀ (d : Nat) (Q : jO → jM → Prop), Ex (d + 1) 190 0 [some (.ref 1731), some (.int (iN k)), some (.int x)] [] (jsR μ 3400 W) Q ↔ Q (.inl (some (.int (kAcr (jI μ 2064) (jI μ 2128) x k)))) (jsR μ 3400 W) := by
          intro d Q
          have hm : ∀ a, ¬ a = 3400 → jI (jsR μ 3400 W) a = jI μ a := fun a h => mR2 h
          have h := c_across (d := d) (μ := jsR μ 3400 W) (Q := Q) (n := n) (t := k) (w := x) (jWd_c mR3.2.1 hW) (by rw [hm 1731 (by decide)]; exact hn) h10 hk
          rw [hm 2064 (by decide), hm 2128 (by decide)] at h
          exact h
        have ih2 : ∀ (x' p' o' r' : Int32) (W' : Nat → Int32) (Q : jO → jM → Prop), Ex (d + F + 1 + 1) 225 0 [some (.ref 3400), some (.int x'), some (.int p'), some (.int o'), some (.int r'), some (.int (iN (e + 1))), none, none] [] (jsR μ 3400 W') Q ↔ Q (.inl none) (jsR μ 3400 (kExp (jI μ 2064) (jI μ 2128) (jI μ 2256) n (F + 1) x' p' o' r' (e + 1) W')) := fun x' p' o' r' W' Q => ih (e + 1) d x' p' o' r' W' Q (by omega)
        show Ex (d + F + 1 + 1 + 1) _ _ _ _ _ _ ↔ Ex (d + F + 1 + 1 + 1) _ _ _ _ _ _
        rw [x225_22]
        by_cases g1 : kAcr (jI μ 2064) (jI μ 2128) x k = -1
        · simp only [x225_0, x225_1, x225_2, x225_5, x225_8, x225_9, x225_10, x225_11, x225_13, x225_15, x225_18, x225_19, x225_20a, x225_20b, x225_20c, x225_24, x225_25, x225_28, x225_31, x225_34, x225_36, x225_38, x225_41, x225_42, x225_45, x225_47, x225_48, x225_51a, x225_51b, x225_51c, x225_53, x225_55, x225_56, x225_59, x225_60, x225_63, x225_65, x225_68, x225_71, x225_72, x225_75, x225_76, x225_77, x225_78, x225_79, x225_81, x225_84, x225_87, x225_88, x225_90, x225_91, x225_92, x225_94, x225_95, x225_96, x225_97, x225_98, x225_100, x225_101, x225_102, x225_104, x225_105, x225_108, x225_111, x225_113, x225_114, x225_115, x225_117, x225_118, x225_119, x225_122a, x225_122b, x225_122c, x225_125, x225_128, mzi, mInc, mne, mlt9, mrk, mI1, mI2, mI3, mI4, mL1, mL2, mL3, mL4, mQ1, mQ2, mQ3, mQ4, mT1, mcat0, mcat1, mcat2, mcat3, mcat4, mrf1, jK_v, jK_n, JA, mz1, if_true, if_false, ite_true, ite_false, eq_self, not_false_eq_true, Nat.zero_le, true_and, and_true, and_self, Nat.reduceMod, Nat.reduceAdd, Nat.reduceLeDiff, Nat.reduceEqDiff, Nat.reduceLT, hw, hn, mR1, mR2, mR3, he6, hlt, hkc, hkj, hac, c_has, g1]
        · by_cases g2 : jbit (W 3) (iN k) = 0
          · simp only [x225_0, x225_1, x225_2, x225_5, x225_8, x225_9, x225_10, x225_11, x225_13, x225_15, x225_18, x225_19, x225_20a, x225_20b, x225_20c, x225_24, x225_25, x225_28, x225_31, x225_34, x225_36, x225_38, x225_41, x225_42, x225_45, x225_47, x225_48, x225_51a, x225_51b, x225_51c, x225_53, x225_55, x225_56, x225_59, x225_60, x225_63, x225_65, x225_68, x225_71, x225_72, x225_75, x225_76, x225_77, x225_78, x225_79, x225_81, x225_84, x225_87, x225_88, x225_90, x225_91, x225_92, x225_94, x225_95, x225_96, x225_97, x225_98, x225_100, x225_101, x225_102, x225_104, x225_105, x225_108, x225_111, x225_113, x225_114, x225_115, x225_117, x225_118, x225_119, x225_122a, x225_122b, x225_122c, x225_125, x225_128, mzi, mInc, mne, mlt9, mrk, mI1, mI2, mI3, mI4, mL1, mL2, mL3, mL4, mQ1, mQ2, mQ3, mQ4, mT1, mcat0, mcat1, mcat2, mcat3, mcat4, mrf1, jK_v, jK_n, JA, mz1, if_true, if_false, ite_true, ite_false, eq_self, not_false_eq_true, Nat.zero_le, true_and, and_true, and_self, Nat.reduceMod, Nat.reduceAdd, Nat.reduceLeDiff, Nat.reduceEqDiff, Nat.reduceLT, hw, hn, mR1, mR2, mR3, he6, hlt, hkc, hkj, hac, c_has, g1, g2]
          · by_cases g3 : jbit (W 2 &&& (p ^^^ (-1))) (kAcr (jI μ 2064) (jI μ 2128) x k) = 0
            · simp only [x225_0, x225_1, x225_2, x225_5, x225_8, x225_9, x225_10, x225_11, x225_13, x225_15, x225_18, x225_19, x225_20a, x225_20b, x225_20c, x225_24, x225_25, x225_28, x225_31, x225_34, x225_36, x225_38, x225_41, x225_42, x225_45, x225_47, x225_48, x225_51a, x225_51b, x225_51c, x225_53, x225_55, x225_56, x225_59, x225_60, x225_63, x225_65, x225_68, x225_71, x225_72, x225_75, x225_76, x225_77, x225_78, x225_79, x225_81, x225_84, x225_87, x225_88, x225_90, x225_91, x225_92, x225_94, x225_95, x225_96, x225_97, x225_98, x225_100, x225_101, x225_102, x225_104, x225_105, x225_108, x225_111, x225_113, x225_114, x225_115, x225_117, x225_118, x225_119, x225_122a, x225_122b, x225_122c, x225_125, x225_128, mzi, mInc, mne, mlt9, mrk, mI1, mI2, mI3, mI4, mL1, mL2, mL3, mL4, mQ1, mQ2, mQ3, mQ4, mT1, mcat0, mcat1, mcat2, mcat3, mcat4, mrf1, jK_v, jK_n, JA, mz1, if_true, if_false, ite_true, ite_false, eq_self, not_false_eq_true, Nat.zero_le, true_and, and_true, and_self, Nat.reduceMod, Nat.reduceAdd, Nat.reduceLeDiff, Nat.reduceEqDiff, Nat.reduceLT, hw, hn, mR1, mR2, mR3, he6, hlt, hkc, hkj, hac, c_has, g1, g2, g3]
            · simp only [x225_0, x225_1, x225_2, x225_5, x225_8, x225_9, x225_10, x225_11, x225_13, x225_15, x225_18, x225_19, x225_20a, x225_20b, x225_20c, x225_24, x225_25, x225_28, x225_31, x225_34, x225_36, x225_38, x225_41, x225_42, x225_45, x225_47, x225_48, x225_51a, x225_51b, x225_51c, x225_53, x225_55, x225_56, x225_59, x225_60, x225_63, x225_65, x225_68, x225_71, x225_72, x225_75, x225_76, x225_77, x225_78, x225_79, x225_81, x225_84, x225_87, x225_88, x225_90, x225_91, x225_92, x225_94, x225_95, x225_96, x225_97, x225_98, x225_100, x225_101, x225_102, x225_104, x225_105, x225_108, x225_111, x225_113, x225_114, x225_115, x225_117, x225_118, x225_119, x225_122a, x225_122b, x225_122c, x225_125, x225_128, mzi, mInc, mne, mlt9, mrk, mI1, mI2, mI3, mI4, mL1, mL2, mL3, mL4, mQ1, mQ2, mQ3, mQ4, mT1, mcat0, mcat1, mcat2, mcat3, mcat4, mrf1, jK_v, jK_n, JA, mz1, if_true, if_false, ite_true, ite_false, eq_self, not_false_eq_true, Nat.zero_le, true_and, and_true, and_self, Nat.reduceMod, Nat.reduceAdd, Nat.reduceLeDiff, Nat.reduceEqDiff, Nat.reduceLT, hw, hn, mR1, mR2, mR3, he6, hlt, hkc, hkj, hac, c_has, g1, g2, g3, ih2])
      obtain ⟨v, hv⟩ := hloop n 0 W none (by omega)
      have hge : ¬ iN n < iN n := iN_irr (by omega)
      have h1 : Ex (d + (F + 1) + 2) 225 0 [some (.ref 3400), some (.int x), some (.int p), some (.int o), some (.int r), some (.int (iN e)), none, none] [] (jsR μ 3400 W) Q ↔ Ex (d + (F + 1) + 2) 225 22 [some (.ref 3400), some (.int x), some (.int p), some (.int o), some (.int r), some (.int (iN e)), some (.int (iN 0)), none] [] (jsR μ 3400 W) Q := by
        simp only [x225_0, x225_1, x225_2, x225_5, x225_8, x225_9, x225_10, x225_11, x225_13, x225_15, x225_18, x225_19, x225_20a, x225_20b, x225_20c, x225_24, x225_25, x225_28, x225_31, x225_34, x225_36, x225_38, x225_41, x225_42, x225_45, x225_47, x225_48, x225_51a, x225_51b, x225_51c, x225_53, x225_55, x225_56, x225_59, x225_60, x225_63, x225_65, x225_68, x225_71, x225_72, x225_75, x225_76, x225_77, x225_78, x225_79, x225_81, x225_84, x225_87, x225_88, x225_90, x225_91, x225_92, x225_94, x225_95, x225_96, x225_97, x225_98, x225_100, x225_101, x225_102, x225_104, x225_105, x225_108, x225_111, x225_113, x225_114, x225_115, x225_117, x225_118, x225_119, x225_122a, x225_122b, x225_122c, x225_125, x225_128, mzi, mInc, mne, mlt9, mrk, mI1, mI2, mI3, mI4, mL1, mL2, mL3, mL4, mQ1, mQ2, mQ3, mQ4, mT1, mcat0, mcat1, mcat2, mcat3, mcat4, mrf1, jK_v, jK_n, JA, mz1, if_true, if_false, ite_true, ite_false, eq_self, not_false_eq_true, Nat.zero_le, true_and, and_true, and_self, Nat.reduceMod, Nat.reduceAdd, Nat.reduceLeDiff, Nat.reduceEqDiff, Nat.reduceLT, hw, mR1, mR2, mR3, hg]
      rw [h1, hv]
      simp only [x225_22, x225_0, x225_1, x225_2, x225_5, x225_8, x225_9, x225_10, x225_11, x225_13, x225_15, x225_18, x225_19, x225_20a, x225_20b, x225_20c, x225_24, x225_25, x225_28, x225_31, x225_34, x225_36, x225_38, x225_41, x225_42, x225_45, x225_47, x225_48, x225_51a, x225_51b, x225_51c, x225_53, x225_55, x225_56, x225_59, x225_60, x225_63, x225_65, x225_68, x225_71, x225_72, x225_75, x225_76, x225_77, x225_78, x225_79, x225_81, x225_84, x225_87, x225_88, x225_90, x225_91, x225_92, x225_94, x225_95, x225_96, x225_97, x225_98, x225_100, x225_101, x225_102, x225_104, x225_105, x225_108, x225_111, x225_113, x225_114, x225_115, x225_117, x225_118, x225_119, x225_122a, x225_122b, x225_122c, x225_125, x225_128, mzi, mInc, mne, mlt9, mrk, mI1, mI2, mI3, mI4, mL1, mL2, mL3, mL4, mQ1, mQ2, mQ3, mQ4, mT1, mcat0, mcat1, mcat2, mcat3, mcat4, mrf1, jK_v, jK_n, JA, mz1, if_true, if_false, ite_true, ite_false, eq_self, not_false_eq_true, Nat.zero_le, true_and, and_true, and_self, Nat.reduceMod, Nat.reduceAdd, Nat.reduceLeDiff, Nat.reduceEqDiff, Nat.reduceLT, hw, hn, mR1, mR2, mR3, hge]
theorem c_lookn {x z fr op : Int32} (hW : jWd μ) (hn : jI μ 1731 2 = iN n) (h10 : n ≤ 10) : Ex (d + 9) 224 0 [some (.ref 3400), some (.int x), some (.int z), some (.int fr), some (.int op)] [] μ Q ↔ Q (.inl none) (jsR μ 3400 (kLook (jI μ 2064) (jI μ 2128) (jI μ 2256) n x z fr op (jI μ 3400))) := by
  have hw := hW
  unfold jWd at hw
  have h0 : Ex (d + 9) 224 0 [some (.ref 3400), some (.int x), some (.int z), some (.int fr), some (.int op)] [] μ Q ↔ Ex (d + 9) 224 0 [some (.ref 3400), some (.int x), some (.int z), some (.int fr), some (.int op)] [] (jsR μ 3400 (jI μ 3400)) Q := by
    rw [jsR_id rfl]
  have hex : ∀ (x p o r : Int32) (W : Nat → Int32) (Q : jO → jM → Prop), Ex (d + 8) 225 0 [some (.ref 3400), some (.int x), some (.int p), some (.int o), some (.int r), some (.int 0), none, none] [] (jsR μ 3400 W) Q ↔ Q (.inl none) (jsR μ 3400 (kExp (jI μ 2064) (jI μ 2128) (jI μ 2256) n 7 x p o r 0 W)) := fun x p o r W Q => c_expln hW hn h10 6 0 d x p o r W Q rfl
  rw [h0]
  unfold kLook
  by_cases g : jbit fr x = 0
  all_goals simp only [x224_0, x224_1, x224_2, x224_5, x224_6, x224_7, x224_10, x224_11, x224_13, x224_16, x224_17, x224_18, x224_21, x224_22, x224_23, x224_26, x224_27, x224_28, x224_31, x224_32, x224_33, x224_36, x224_37, x224_38, x224_41, x224_44, x224_45, x224_46, x224_47, x224_48, x224_49, x224_50, x224_51, x224_52, x224_55, mzi, mInc, mne, mlt9, mrk, mI1, mI2, mI3, mI4, mL1, mL2, mL3, mL4, mQ1, mQ2, mQ3, mQ4, mT1, mcat0, mcat1, mcat2, mcat3, mcat4, mrf1, jK_v, jK_n, JA, mz1, if_true, if_false, ite_true, ite_false, eq_self, not_false_eq_true, Nat.zero_le, true_and, and_true, and_self, Nat.reduceMod, Nat.reduceAdd, Nat.reduceLeDiff, Nat.reduceEqDiff, Nat.reduceLT, hw, mR1, mR2, mR3, mRI, c_has, g, hex]
theorem c_freeSwa (hW : jWd μ) (hn : jI μ 1731 1 = iN n) (h10 : n ≤ 10) (hm : jI μ 1731 0 = iN m) (h6 : m ≤ 6) : Ex (d + 2) 222 0 [some (.ref 3463), none, none] [] μ Q ↔ Q (.inl (some (.int (jfold (fun k a => a ||| (if rsum (fun l => jI μ 3920 l >>> (iN k &&& 31) &&& 1) n < jI μ 1812 k then 1 <<< (iN k &&& 31) else 0)) 0 m 0)))) μ := by
  have hw := hW
  unfold jWd at hw
  have loop : ∀ (k : Nat) (a : Int32), k < m → (Ex (d + 2) 222 4 [some (.ref 3463), some (.int a), some (.int (iN k))] [] μ Q ↔ Ex (d + 2) 222 4 [some (.ref 3463), some (.int (a ||| (if rsum (fun l => jI μ 3920 l >>> (iN k &&& 31) &&& 1) n < jI μ 1812 k then 1 <<< (iN k &&& 31) else 0))), some (.int (iN (k + 1)))] [] μ Q) := by
    intro k a hk
    have hlt : iN k < iN m := (iN_lt (by omega) (by omega)).mpr hk
    have hkc : (iN k).toNatClampNeg = k := iN_cl (by omega)
    have hkj : jin (iN k) 6 = true := iN_in (by omega) (by omega)
    all_goals rw [x222_4]
    all_goals by_cases g : rsum (fun l => jI μ 3920 l >>> (iN k &&& 31) &&& 1) n < jI μ 1812 k
    all_goals simp only [x222_0, x222_1a, x222_1b, x222_1c, x222_2, x222_3a, x222_3b, x222_3c, x222_5, x222_6, x222_9, x222_12, x222_15, x222_16, x222_17, x222_18, x222_21, x222_22, x222_25, x222_28, x222_29, x222_30, x222_33, x222_34, x222_35, x222_36, x222_39, x222_40, x222_41a, x222_41b, x222_41c, x222_42a, x222_42b, x222_42c, x222_45, x222_48, x222_49, mzi, mInc, mne, mlt9, mrk, mI1, mI2, mI3, mI4, mL1, mL2, mL3, mL4, mQ1, mQ2, mQ3, mQ4, mT1, mcat0, mcat1, mcat2, mcat3, mcat4, mrf1, jK_v, jK_n, JA, mz1, if_true, if_false, ite_true, ite_false, eq_self, not_false_eq_true, Nat.zero_le, true_and, and_true, and_self, Nat.reduceMod, Nat.reduceAdd, Nat.reduceLeDiff, Nat.reduceEqDiff, Nat.reduceLT, hlt, hkc, hkj, hw, hm, c_barsa hW hn h10, g]
  have h0 := jfold_loop (P := fun k a => Ex (d + 2) 222 4 [some (.ref 3463), some (.int a), some (.int (iN k))] [] μ Q) loop m 0 0 (by omega)
  have hge : ¬ iN m < iN m := iN_irr (by omega)
  have h1 : Ex (d + 2) 222 0 [some (.ref 3463), none, none] [] μ Q ↔ Ex (d + 2) 222 4 [some (.ref 3463), some (.int 0), some (.int (iN 0))] [] μ Q := by
    simp only [x222_0, x222_1a, x222_1b, x222_1c, x222_2, x222_3a, x222_3b, x222_3c, x222_5, x222_6, x222_9, x222_12, x222_15, x222_16, x222_17, x222_18, x222_21, x222_22, x222_25, x222_28, x222_29, x222_30, x222_33, x222_34, x222_35, x222_36, x222_39, x222_40, x222_41a, x222_41b, x222_41c, x222_42a, x222_42b, x222_42c, x222_45, x222_48, x222_49, mzi, mInc, mne, mlt9, mrk, mI1, mI2, mI3, mI4, mL1, mL2, mL3, mL4, mQ1, mQ2, mQ3, mQ4, mT1, mcat0, mcat1, mcat2, mcat3, mcat4, mrf1, jK_v, jK_n, JA, mz1, if_true, if_false, ite_true, ite_false, eq_self, not_false_eq_true, Nat.zero_le, true_and, and_true, and_self, Nat.reduceMod, Nat.reduceAdd, Nat.reduceLeDiff, Nat.reduceEqDiff, Nat.reduceLT, hw, hm, c_barsa hW hn h10]
  rw [h1, h0]
  simp only [x222_4, x222_0, x222_1a, x222_1b, x222_1c, x222_2, x222_3a, x222_3b, x222_3c, x222_5, x222_6, x222_9, x222_12, x222_15, x222_16, x222_17, x222_18, x222_21, x222_22, x222_25, x222_28, x222_29, x222_30, x222_33, x222_34, x222_35, x222_36, x222_39, x222_40, x222_41a, x222_41b, x222_41c, x222_42a, x222_42b, x222_42c, x222_45, x222_48, x222_49, mzi, mInc, mne, mlt9, mrk, mI1, mI2, mI3, mI4, mL1, mL2, mL3, mL4, mQ1, mQ2, mQ3, mQ4, mT1, mcat0, mcat1, mcat2, mcat3, mcat4, mrf1, jK_v, jK_n, JA, mz1, if_true, if_false, ite_true, ite_false, eq_self, not_false_eq_true, Nat.zero_le, true_and, and_true, and_self, Nat.reduceMod, Nat.reduceAdd, Nat.reduceLeDiff, Nat.reduceEqDiff, Nat.reduceLT, hge, hw, hm, c_barsa hW hn h10]
theorem c_keepa {W : Nat → Int32} {p g c s : Int32} : Ex d 226 0 [some (.ref 4296), some (.int p), some (.int g), some (.int c), some (.int s)] [] (jsR μ 4296 W) Q ↔ Q (.inl none) (jsR μ 4296 (kKeep p g c s W)) := by
  unfold kKeep
  have hir : ∀ y : Int32, ¬ y < y := fun y h => Int32.lt_irrefl h
  by_cases a : W 4 = -1 <;> by_cases b : c < W 4 <;> by_cases e : c = W 4 <;> by_cases f : s < W 7
  all_goals simp only [x226_0, x226_1, x226_4, x226_5, x226_8, x226_9, x226_10, x226_13, x226_16, x226_17, x226_18, x226_21, x226_24, x226_26, x226_27, x226_30, x226_33, x226_34, x226_35, x226_38, x226_39, x226_40, x226_43, x226_44, x226_45, x226_48, x226_49, x226_51, x226_54, mzi, mInc, mne, mlt9, mrk, mI1, mI2, mI3, mI4, mL1, mL2, mL3, mL4, mQ1, mQ2, mQ3, mQ4, mT1, mcat0, mcat1, mcat2, mcat3, mcat4, mrf1, jK_v, jK_n, JA, mz1, if_true, if_false, ite_true, ite_false, eq_self, not_false_eq_true, Nat.zero_le, true_and, and_true, and_self, Nat.reduceMod, Nat.reduceAdd, Nat.reduceLeDiff, Nat.reduceEqDiff, Nat.reduceLT, mR1, mR2, mR3, mRI, hir, a, b, e, f, or_true, true_or, or_false, false_or, and_false, false_and]
theorem c_expla (hW : jWd μ) (hn : jI μ 1731 2 = iN n) (h10 : n ≤ 10) : ∀ (F e : Nat) (d : Nat) (x p o r : Int32) (W : Nat → Int32) (Q : jO → jM → Prop), F + e = 6 → (Ex (d + F + 2) 225 0 [some (.ref 4296), some (.int x), some (.int p), some (.int o), some (.int r), some (.int (iN e)), none, none] [] (jsR μ 4296 W) Q ↔ Q (.inl none) (jsR μ 4296 (kExp (jI μ 2064) (jI μ 2128) (jI μ 2256) n (F + 1) x p o r e W))) := by
  have hw := hW
  unfold jWd at hw
  intro F
  induction F with
  | zero =>
    intro e d x p o r W Q hF
    have he : e = 6 := by omega
    subst he
    have he6 : ¬ iN 6 < 6 := by decide
    unfold kExp
    by_cases hg : x = W 1
    · simp only [x225_0, x225_1, x225_2, x225_5, x225_8, x225_9, x225_10, x225_11, x225_13, x225_15, x225_18, x225_19, x225_20a, x225_20b, x225_20c, x225_24, x225_25, x225_28, x225_31, x225_34, x225_36, x225_38, x225_41, x225_42, x225_45, x225_47, x225_48, x225_51a, x225_51b, x225_51c, x225_53, x225_55, x225_56, x225_59, x225_60, x225_63, x225_65, x225_68, x225_71, x225_72, x225_75, x225_76, x225_77, x225_78, x225_79, x225_81, x225_84, x225_87, x225_88, x225_90, x225_91, x225_92, x225_94, x225_95, x225_96, x225_97, x225_98, x225_100, x225_101, x225_102, x225_104, x225_105, x225_108, x225_111, x225_113, x225_114, x225_115, x225_117, x225_118, x225_119, x225_122a, x225_122b, x225_122c, x225_125, x225_128, mzi, mInc, mne, mlt9, mrk, mI1, mI2, mI3, mI4, mL1, mL2, mL3, mL4, mQ1, mQ2, mQ3, mQ4, mT1, mcat0, mcat1, mcat2, mcat3, mcat4, mrf1, jK_v, jK_n, JA, mz1, if_true, if_false, ite_true, ite_false, eq_self, not_false_eq_true, Nat.zero_le, true_and, and_true, and_self, Nat.reduceMod, Nat.reduceAdd, Nat.reduceLeDiff, Nat.reduceEqDiff, Nat.reduceLT, hw, mR1, mR2, mR3, hg, c_keepa]
    · have hid : ∀ m k, jfold (fun t W => if kAcr (jI μ 2064) (jI μ 2128) x t = -1 then W else if jbit (W 3) (iN t) = 0 then W else if jbit (W 2 &&& (p ^^^ (-1))) (kAcr (jI μ 2064) (jI μ 2128) x t) = 0 then W else
      kExp (jI μ 2064) (jI μ 2128) (jI μ 2256) n 0 (kAcr (jI μ 2064) (jI μ 2128) x t) (p ||| 1 <<< (kAcr (jI μ 2064) (jI μ 2128) x t &&& 31)) (o ||| 1 <<< (iN t &&& 31)) (r + jI μ 2256 t) (6 + 1) W) k m W = W := by
        intro m
        induction m with
        | zero => intro k; rfl
        | succ m ih =>
          intro k
          show jfold _ (k + 1) m _ = W
          simp only [kExp, ite_self] at ih ⊢
          exact ih (k + 1)
      rw [if_neg hg, hid]
      by_cases h0 : (0 : Int32) < iN n
      all_goals simp only [x225_22, x225_0, x225_1, x225_2, x225_5, x225_8, x225_9, x225_10, x225_11, x225_13, x225_15, x225_18, x225_19, x225_20a, x225_20b, x225_20c, x225_24, x225_25, x225_28, x225_31, x225_34, x225_36, x225_38, x225_41, x225_42, x225_45, x225_47, x225_48, x225_51a, x225_51b, x225_51c, x225_53, x225_55, x225_56, x225_59, x225_60, x225_63, x225_65, x225_68, x225_71, x225_72, x225_75, x225_76, x225_77, x225_78, x225_79, x225_81, x225_84, x225_87, x225_88, x225_90, x225_91, x225_92, x225_94, x225_95, x225_96, x225_97, x225_98, x225_100, x225_101, x225_102, x225_104, x225_105, x225_108, x225_111, x225_113, x225_114, x225_115, x225_117, x225_118, x225_119, x225_122a, x225_122b, x225_122c, x225_125, x225_128, mzi, mInc, mne, mlt9, mrk, mI1, mI2, mI3, mI4, mL1, mL2, mL3, mL4, mQ1, mQ2, mQ3, mQ4, mT1, mcat0, mcat1, mcat2, mcat3, mcat4, mrf1, jK_v, jK_n, JA, mz1, if_true, if_false, ite_true, ite_false, eq_self, not_false_eq_true, Nat.zero_le, true_and, and_true, and_self, Nat.reduceMod, Nat.reduceAdd, Nat.reduceLeDiff, Nat.reduceEqDiff, Nat.reduceLT, hw, hn, mR1, mR2, mR3, hg, he6, h0]
  | succ F ih =>
    intro e d x p o r W Q hF
    unfold kExp
    by_cases hg : x = W 1
    · simp only [x225_0, x225_1, x225_2, x225_5, x225_8, x225_9, x225_10, x225_11, x225_13, x225_15, x225_18, x225_19, x225_20a, x225_20b, x225_20c, x225_24, x225_25, x225_28, x225_31, x225_34, x225_36, x225_38, x225_41, x225_42, x225_45, x225_47, x225_48, x225_51a, x225_51b, x225_51c, x225_53, x225_55, x225_56, x225_59, x225_60, x225_63, x225_65, x225_68, x225_71, x225_72, x225_75, x225_76, x225_77, x225_78, x225_79, x225_81, x225_84, x225_87, x225_88, x225_90, x225_91, x225_92, x225_94, x225_95, x225_96, x225_97, x225_98, x225_100, x225_101, x225_102, x225_104, x225_105, x225_108, x225_111, x225_113, x225_114, x225_115, x225_117, x225_118, x225_119, x225_122a, x225_122b, x225_122c, x225_125, x225_128, mzi, mInc, mne, mlt9, mrk, mI1, mI2, mI3, mI4, mL1, mL2, mL3, mL4, mQ1, mQ2, mQ3, mQ4, mT1, mcat0, mcat1, mcat2, mcat3, mcat4, mrf1, jK_v, jK_n, JA, mz1, if_true, if_false, ite_true, ite_false, eq_self, not_false_eq_true, Nat.zero_le, true_and, and_true, and_self, Nat.reduceMod, Nat.reduceAdd, Nat.reduceLeDiff, Nat.reduceEqDiff, Nat.reduceLT, hw, mR1, mR2, mR3, hg, c_keepa]
    · rw [if_neg hg]
      have he6 : iN e < (6 : Int32) := (iN_lt (b := 6) (by omega) (by decide)).mpr (by omega)
      have hg1 : ∀ W' : Nat → Int32, W' 1 = W 1 → ¬ x = W' 1 := fun W' h => by rw [h]; exact hg
      have hloop := jfold_loopG (P := fun k W v => Ex (d + (F + 1) + 2) 225 22 [some (.ref 4296), some (.int x), some (.int p), some (.int o), some (.int r), some (.int (iN e)), some (.int (iN k)), v] [] (jsR μ 4296 W) Q)
        (f := fun t W => if kAcr (jI μ 2064) (jI μ 2128) x t = -1 then W else if jbit (W 3) (iN t) = 0 then W else if jbit (W 2 &&& (p ^^^ (-1))) (kAcr (jI μ 2064) (jI μ 2128) x t) = 0 then W else
          kExp (jI μ 2064) (jI μ 2128) (jI μ 2256) n (F + 1) (kAcr (jI μ 2064) (jI μ 2128) x t) (p ||| 1 <<< (kAcr (jI μ 2064) (jI μ 2128) x t &&& 31)) (o ||| 1 <<< (iN t &&& 31)) (r + jI μ 2256 t) (e + 1) W) (n := n) (by
        intro k W v hk
        refine ⟨some (.int (kAcr (jI μ 2064) (jI μ 2128) x k)), ?_⟩
        have hlt : iN k < iN n := (iN_lt (by omega) (by omega)).mpr hk
        have hkc : (iN k).toNatClampNeg = k := iN_cl (by omega)
        have hkj : jin (iN k) 10 = true := iN_in (by omega) (by omega)
        have hac : ∀ (d : Nat) (Q : jO → jM → Prop), Ex (d + 1) 190 0 [some (.ref 1731), some (.int (iN k)), some (.int x)] [] (jsR μ 4296 W) Q ↔ Q (.inl (some (.int (kAcr (jI μ 2064) (jI μ 2128) x k)))) (jsR μ 4296 W) := by
          intro d Q
          have hm : ∀ a, ¬ a = 4296 → jI (jsR μ 4296 W) a = jI μ a := fun a h => mR2 h
          have h := c_across (d := d) (μ := jsR μ 4296 W) (Q := Q) (n := n) (t := k) (w := x) (jWd_c mR3.2.1 hW) (by rw [hm 1731 (by decide)]; exact hn) h10 hk
          rw [hm 2064 (by decide), hm 2128 (by decide)] at h
          exact h
        have ih2 : ∀ (x' p' o' r' : Int32) (W' : Nat → Int32) (Q : jO → jM → Prop), Ex (d + F + 1 + 1) 225 0 [some (.ref 4296), some (.int x'), some (.int p'), some (.int o'), some (.int r'), some (.int (iN (e + 1))), none, none] [] (jsR μ 4296 W') Q ↔ Q (.inl none) (jsR μ 4296 (kExp (jI μ 2064) (jI μ 2128) (jI μ 2256) n (F + 1) x' p' o' r' (e + 1) W')) := fun x' p' o' r' W' Q => ih (e + 1) d x' p' o' r' W' Q (by omega)
        show Ex (d + F + 1 + 1 + 1) _ _ _ _ _ _ ↔ Ex (d + F + 1 + 1 + 1) _ _ _ _ _ _
        rw [x225_22]
        by_cases g1 : kAcr (jI μ 2064) (jI μ 2128) x k = -1
        · simp only [x225_0, x225_1, x225_2, x225_5, x225_8, x225_9, x225_10, x225_11, x225_13, x225_15, x225_18, x225_19, x225_20a, x225_20b, x225_20c, x225_24, x225_25, x225_28, x225_31, x225_34, x225_36, x225_38, x225_41, x225_42, x225_45, x225_47, x225_48, x225_51a, x225_51b, x225_51c, x225_53, x225_55, x225_56, x225_59, x225_60, x225_63, x225_65, x225_68, x225_71, x225_72, x225_75, x225_76, x225_77, x225_78, x225_79, x225_81, x225_84, x225_87, x225_88, x225_90, x225_91, x225_92, x225_94, x225_95, x225_96, x225_97, x225_98, x225_100, x225_101, x225_102, x225_104, x225_105, x225_108, x225_111, x225_113, x225_114, x225_115, x225_117, x225_118, x225_119, x225_122a, x225_122b, x225_122c, x225_125, x225_128, mzi, mInc, mne, mlt9, mrk, mI1, mI2, mI3, mI4, mL1, mL2, mL3, mL4, mQ1, mQ2, mQ3, mQ4, mT1, mcat0, mcat1, mcat2, mcat3, mcat4, mrf1, jK_v, jK_n, JA, mz1, if_true, if_false, ite_true, ite_false, eq_self, not_false_eq_true, Nat.zero_le, true_and, and_true, and_self, Nat.reduceMod, Nat.reduceAdd, Nat.reduceLeDiff, Nat.reduceEqDiff, Nat.reduceLT, hw, hn, mR1, mR2, mR3, he6, hlt, hkc, hkj, hac, c_has, g1]
        · by_cases g2 : jbit (W 3) (iN k) = 0
          · simp only [x225_0, x225_1, x225_2, x225_5, x225_8, x225_9, x225_10, x225_11, x225_13, x225_15, x225_18, x225_19, x225_20a, x225_20b, x225_20c, x225_24, x225_25, x225_28, x225_31, x225_34, x225_36, x225_38, x225_41, x225_42, x225_45, x225_47, x225_48, x225_51a, x225_51b, x225_51c, x225_53, x225_55, x225_56, x225_59, x225_60, x225_63, x225_65, x225_68, x225_71, x225_72, x225_75, x225_76, x225_77, x225_78, x225_79, x225_81, x225_84, x225_87, x225_88, x225_90, x225_91, x225_92, x225_94, x225_95, x225_96, x225_97, x225_98, x225_100, x225_101, x225_102, x225_104, x225_105, x225_108, x225_111, x225_113, x225_114, x225_115, x225_117, x225_118, x225_119, x225_122a, x225_122b, x225_122c, x225_125, x225_128, mzi, mInc, mne, mlt9, mrk, mI1, mI2, mI3, mI4, mL1, mL2, mL3, mL4, mQ1, mQ2, mQ3, mQ4, mT1, mcat0, mcat1, mcat2, mcat3, mcat4, mrf1, jK_v, jK_n, JA, mz1, if_true, if_false, ite_true, ite_false, eq_self, not_false_eq_true, Nat.zero_le, true_and, and_true, and_self, Nat.reduceMod, Nat.reduceAdd, Nat.reduceLeDiff, Nat.reduceEqDiff, Nat.reduceLT, hw, hn, mR1, mR2, mR3, he6, hlt, hkc, hkj, hac, c_has, g1, g2]
          · by_cases g3 : jbit (W 2 &&& (p ^^^ (-1))) (kAcr (jI μ 2064) (jI μ 2128) x k) = 0
            · simp only [x225_0, x225_1, x225_2, x225_5, x225_8, x225_9, x225_10, x225_11, x225_13, x225_15, x225_18, x225_19, x225_20a, x225_20b, x225_20c, x225_24, x225_25, x225_28, x225_31, x225_34, x225_36, x225_38, x225_41, x225_42, x225_45, x225_47, x225_48, x225_51a, x225_51b, x225_51c, x225_53, x225_55, x225_56, x225_59, x225_60, x225_63, x225_65, x225_68, x225_71, x225_72, x225_75, x225_76, x225_77, x225_78, x225_79, x225_81, x225_84, x225_87, x225_88, x225_90, x225_91, x225_92, x225_94, x225_95, x225_96, x225_97, x225_98, x225_100, x225_101, x225_102, x225_104, x225_105, x225_108, x225_111, x225_113, x225_114, x225_115, x225_117, x225_118, x225_119, x225_122a, x225_122b, x225_122c, x225_125, x225_128, mzi, mInc, mne, mlt9, mrk, mI1, mI2, mI3, mI4, mL1, mL2, mL3, mL4, mQ1, mQ2, mQ3, mQ4, mT1, mcat0, mcat1, mcat2, mcat3, mcat4, mrf1, jK_v, jK_n, JA, mz1, if_true, if_false, ite_true, ite_false, eq_self, not_false_eq_true, Nat.zero_le, true_and, and_true, and_self, Nat.reduceMod, Nat.reduceAdd, Nat.reduceLeDiff, Nat.reduceEqDiff, Nat.reduceLT, hw, hn, mR1, mR2, mR3, he6, hlt, hkc, hkj, hac, c_has, g1, g2, g3]
            · simp only [x225_0, x225_1, x225_2, x225_5, x225_8, x225_9, x225_10, x225_11, x225_13, x225_15, x225_18, x225_19, x225_20a, x225_20b, x225_20c, x225_24, x225_25, x225_28, x225_31, x225_34, x225_36, x225_38, x225_41, x225_42, x225_45, x225_47, x225_48, x225_51a, x225_51b, x225_51c, x225_53, x225_55, x225_56, x225_59, x225_60, x225_63, x225_65, x225_68, x225_71, x225_72, x225_75, x225_76, x225_77, x225_78, x225_79, x225_81, x225_84, x225_87, x225_88, x225_90, x225_91, x225_92, x225_94, x225_95, x225_96, x225_97, x225_98, x225_100, x225_101, x225_102, x225_104, x225_105, x225_108, x225_111, x225_113, x225_114, x225_115, x225_117, x225_118, x225_119, x225_122a, x225_122b, x225_122c, x225_125, x225_128, mzi, mInc, mne, mlt9, mrk, mI1, mI2, mI3, mI4, mL1, mL2, mL3, mL4, mQ1, mQ2, mQ3, mQ4, mT1, mcat0, mcat1, mcat2, mcat3, mcat4, mrf1, jK_v, jK_n, JA, mz1, if_true, if_false, ite_true, ite_false, eq_self, not_false_eq_true, Nat.zero_le, true_and, and_true, and_self, Nat.reduceMod, Nat.reduceAdd, Nat.reduceLeDiff, Nat.reduceEqDiff, Nat.reduceLT, hw, hn, mR1, mR2, mR3, he6, hlt, hkc, hkj, hac, c_has, g1, g2, g3, ih2])
      obtain ⟨v, hv⟩ := hloop n 0 W none (by omega)
      have hge : ¬ iN n < iN n := iN_irr (by omega)
      have h1 : Ex (d + (F + 1) + 2) 225 0 [some (.ref 4296), some (.int x), some (.int p), some (.int o), some (.int r), some (.int (iN e)), none, none] [] (jsR μ 4296 W) Q ↔ Ex (d + (F + 1) + 2) 225 22 [some (.ref 4296), some (.int x), some (.int p), some (.int o), some (.int r), some (.int (iN e)), some (.int (iN 0)), none] [] (jsR μ 4296 W) Q := by
        simp only [x225_0, x225_1, x225_2, x225_5, x225_8, x225_9, x225_10, x225_11, x225_13, x225_15, x225_18, x225_19, x225_20a, x225_20b, x225_20c, x225_24, x225_25, x225_28, x225_31, x225_34, x225_36, x225_38, x225_41, x225_42, x225_45, x225_47, x225_48, x225_51a, x225_51b, x225_51c, x225_53, x225_55, x225_56, x225_59, x225_60, x225_63, x225_65, x225_68, x225_71, x225_72, x225_75, x225_76, x225_77, x225_78, x225_79, x225_81, x225_84, x225_87, x225_88, x225_90, x225_91, x225_92, x225_94, x225_95, x225_96, x225_97, x225_98, x225_100, x225_101, x225_102, x225_104, x225_105, x225_108, x225_111, x225_113, x225_114, x225_115, x225_117, x225_118, x225_119, x225_122a, x225_122b, x225_122c, x225_125, x225_128, mzi, mInc, mne, mlt9, mrk, mI1, mI2, mI3, mI4, mL1, mL2, mL3, mL4, mQ1, mQ2, mQ3, mQ4, mT1, mcat0, mcat1, mcat2, mcat3, mcat4, mrf1, jK_v, jK_n, JA, mz1, if_true, if_false, ite_true, ite_false, eq_self, not_false_eq_true, Nat.zero_le, true_and, and_true, and_self, Nat.reduceMod, Nat.reduceAdd, Nat.reduceLeDiff, Nat.reduceEqDiff, Nat.reduceLT, hw, mR1, mR2, mR3, hg]
      rw [h1, hv]
      simp only [x225_22, x225_0, x225_1, x225_2, x225_5, x225_8, x225_9, x225_10, x225_11, x225_13, x225_15, x225_18, x225_19, x225_20a, x225_20b, x225_20c, x225_24, x225_25, x225_28, x225_31, x225_34, x225_36, x225_38, x225_41, x225_42, x225_45, x225_47, x225_48, x225_51a, x225_51b, x225_51c, x225_53, x225_55, x225_56, x225_59, x225_60, x225_63, x225_65, x225_68, x225_71, x225_72, x225_75, x225_76, x225_77, x225_78, x225_79, x225_81, x225_84, x225_87, x225_88, x225_90, x225_91, x225_92, x225_94, x225_95, x225_96, x225_97, x225_98, x225_100, x225_101, x225_102, x225_104, x225_105, x225_108, x225_111, x225_113, x225_114, x225_115, x225_117, x225_118, x225_119, x225_122a, x225_122b, x225_122c, x225_125, x225_128, mzi, mInc, mne, mlt9, mrk, mI1, mI2, mI3, mI4, mL1, mL2, mL3, mL4, mQ1, mQ2, mQ3, mQ4, mT1, mcat0, mcat1, mcat2, mcat3, mcat4, mrf1, jK_v, jK_n, JA, mz1, if_true, if_false, ite_true, ite_false, eq_self, not_false_eq_true, Nat.zero_le, true_and, and_true, and_self, Nat.reduceMod, Nat.reduceAdd, Nat.reduceLeDiff, Nat.reduceEqDiff, Nat.reduceLT, hw, hn, mR1, mR2, mR3, hge]
theorem c_looka {x z fr op : Int32} (hW : jWd μ) (hn : jI μ 1731 2 = iN n) (h10 : n ≤ 10) : Ex (d + 9) 224 0 [some (.ref 4296), some (.int x), some (.int z), some (.int fr), some (.int op)] [] μ Q ↔ Q (.inl none) (jsR μ 4296 (kLook (jI μ 2064) (jI μ 2128) (jI μ 2256) n x z fr op (jI μ 4296))) := by
  have hw := hW
  unfold jWd at hw
  have h0 : Ex (d + 9) 224 0 [some (.ref 4296), some (.int x), some (.int z), some (.int fr), some (.int op)] [] μ Q ↔ Ex (d + 9) 224 0 [some (.ref 4296), some (.int x), some (.int z), some (.int fr), some (.int op)] [] (jsR μ 4296 (jI μ 4296)) Q := by
    rw [jsR_id rfl]
  have hex : ∀ (x p o r : Int32) (W : Nat → Int32) (Q : jO → jM → Prop), Ex (d + 8) 225 0 [some (.ref 4296), some (.int x), some (.int p), some (.int o), some (.int r), some (.int 0), none, none] [] (jsR μ 4296 W) Q ↔ Q (.inl none) (jsR μ 4296 (kExp (jI μ 2064) (jI μ 2128) (jI μ 2256) n 7 x p o r 0 W)) := fun x p o r W Q => c_expla hW hn h10 6 0 d x p o r W Q rfl
  rw [h0]
  unfold kLook
  by_cases g : jbit fr x = 0
  all_goals simp only [x224_0, x224_1, x224_2, x224_5, x224_6, x224_7, x224_10, x224_11, x224_13, x224_16, x224_17, x224_18, x224_21, x224_22, x224_23, x224_26, x224_27, x224_28, x224_31, x224_32, x224_33, x224_36, x224_37, x224_38, x224_41, x224_44, x224_45, x224_46, x224_47, x224_48, x224_49, x224_50, x224_51, x224_52, x224_55, mzi, mInc, mne, mlt9, mrk, mI1, mI2, mI3, mI4, mL1, mL2, mL3, mL4, mQ1, mQ2, mQ3, mQ4, mT1, mcat0, mcat1, mcat2, mcat3, mcat4, mrf1, jK_v, jK_n, JA, mz1, if_true, if_false, ite_true, ite_false, eq_self, not_false_eq_true, Nat.zero_le, true_and, and_true, and_self, Nat.reduceMod, Nat.reduceAdd, Nat.reduceLeDiff, Nat.reduceEqDiff, Nat.reduceLT, hw, mR1, mR2, mR3, mRI, c_has, g, hex]
end C5
