/-! THE PURE PART: how much goes through (class). -/
theorem iN_mul {a b : Nat} : iN a * iN b = iN (a * b) := (Int32.ofNat_mul a b).symm
theorem iN_ix {u v : Nat} : iN u * 12 + iN v = iN (u * 12 + v) := by
  rw [show (12 : Int32) = iN 12 from rfl, iN_mul, iN_add]
section C14
variable {d : Nat} {μ : jM} {Q : jO → jM → Prop} {n m : Nat}
theorem c_afill {a : Nat} {v : Int32} (ha : jty a = 0) (hm : jmade a = true) (hl : ∀ μ, jln a μ = n) (hn : n < 2 ^ 31) : Ex d 238 0 [some (.ref a), some (.int v), none, none] [] μ Q ↔ Q (.inl none) (jsR μ a (fun j => if j < n then v else jI μ a j)) := by
  have h9 : jty a < 9 := by omega
  have loop : ∀ k, 0 ≤ k → k < n → (Ex d 238 5 [some (.ref a), some (.int v), some (.int (iN k)), some (.int (iN n))] [] (jsR μ a (fun j => if j < k then v else jI μ a j)) Q ↔ Ex d 238 5 [some (.ref a), some (.int v), some (.int (iN (k + 1))), some (.int (iN n))] [] (jsR μ a (fun j => if j < k + 1 then v else jI μ a j)) Q) := by
    intro k _ hk
    have hlt : iN k < iN n := (iN_lt (by omega) (by omega)).mpr hk
    have kc : (iN k).toNatClampNeg = k := iN_cl (by omega)
    have kj : jin (iN k) n = true := iN_in (by omega) (by omega)
    rw [x238_5]
    simp only [x238_0, x238_1a, x238_1b, x238_1c, x238_2, x238_3, x238_4a, x238_4b, x238_4c, x238_6, x238_7, x238_10, x238_11, x238_12, x238_13, x238_14a, x238_14b, x238_14c, x238_17, x238_20, mzi, mInc, mne, mlt9, mrk, mI1, mI2, mI3, mI4, mL1, mL2, mL3, mL4, mQ1, mQ2, mQ3, mQ4, mT1, mcat0, mcat1, mcat2, mcat3, mcat4, mrf1, jK_v, jK_n, JA, mz1, if_true, if_false, ite_true, ite_false, eq_self, not_false_eq_true, Nat.zero_le, true_and, and_true, and_self, Nat.reduceMod, Nat.reduceAdd, Nat.reduceLeDiff, Nat.reduceEqDiff, Nat.reduceLT, hlt, kc, kj, ha, hm, hl, mRI, jrowfn]
  have h0 := jclimb (P := fun k => Ex d 238 5 [some (.ref a), some (.int v), some (.int (iN k)), some (.int (iN n))] [] (jsR μ a (fun j => if j < k then v else jI μ a j)) Q) loop (Nat.zero_le n)
  have hz : jsR μ a (fun j => if j < 0 then v else jI μ a j) = μ := jsR_id (by simp only [Nat.not_lt_zero, if_false])
  have h1 : Ex d 238 0 [some (.ref a), some (.int v), none, none] [] μ Q ↔ Ex d 238 5 [some (.ref a), some (.int v), some (.int (iN 0)), some (.int (iN n))] [] (jsR μ a (fun j => if j < 0 then v else jI μ a j)) Q := by
    rw [hz]
    simp only [x238_0, x238_1a, x238_1b, x238_1c, x238_2, x238_3, x238_4a, x238_4b, x238_4c, x238_6, x238_7, x238_10, x238_11, x238_12, x238_13, x238_14a, x238_14b, x238_14c, x238_17, x238_20, mzi, mInc, mne, mlt9, mrk, mI1, mI2, mI3, mI4, mL1, mL2, mL3, mL4, mQ1, mQ2, mQ3, mQ4, mT1, mcat0, mcat1, mcat2, mcat3, mcat4, mrf1, jK_v, jK_n, JA, mz1, if_true, if_false, ite_true, ite_false, eq_self, not_false_eq_true, Nat.zero_le, true_and, and_true, and_self, Nat.reduceMod, Nat.reduceAdd, Nat.reduceLeDiff, Nat.reduceEqDiff, Nat.reduceLT, ha, hm, hl, h9]
  have hge : ¬ iN n < iN n := iN_irr hn
  rw [h1, h0]
  simp only [x238_5, x238_0, x238_1a, x238_1b, x238_1c, x238_2, x238_3, x238_4a, x238_4b, x238_4c, x238_6, x238_7, x238_10, x238_11, x238_12, x238_13, x238_14a, x238_14b, x238_14c, x238_17, x238_20, mzi, mInc, mne, mlt9, mrk, mI1, mI2, mI3, mI4, mL1, mL2, mL3, mL4, mQ1, mQ2, mQ3, mQ4, mT1, mcat0, mcat1, mcat2, mcat3, mcat4, mrf1, jK_v, jK_n, JA, mz1, if_true, if_false, ite_true, ite_false, eq_self, not_false_eq_true, Nat.zero_le, true_and, and_true, and_self, Nat.reduceMod, Nat.reduceAdd, Nat.reduceLeDiff, Nat.reduceEqDiff, Nat.reduceLT, hge]
theorem c_left {u v : Nat} (hQ : jQ μ 4361 1 = some 4438) (hu : u < 12) (hv : v < 12) : Ex d 240 0 [some (.ref 4361), some (.int (iN u)), some (.int (iN v)), none] [] μ Q ↔ Q (.inl (some (.int (jI μ 4438 (u * 12 + v))))) μ := by
  have kc : (iN (u * 12 + v)).toNatClampNeg = u * 12 + v := iN_cl (by omega)
  have kj : jin (iN (u * 12 + v)) 144 = true := iN_in (by omega) (by omega)
  have k0 : ¬ iN (u * 12 + v) < 0 := iN_nn (by omega)
  have k1 : iN (u * 12 + v) < Int32.ofNat 144 := (iN_lt (by omega) (by omega)).mpr (by omega)
  simp only [x240_0, x240_1, x240_3, x240_4, x240_5, x240_6a, x240_6b, x240_6c, x240_7, x240_8, x240_11, x240_12, x240_13, x240_16, x240_17, x240_20, x240_21, x240_24, x240_25, x240_26, x240_29, x240_30, mzi, mInc, mne, mlt9, mrk, mI1, mI2, mI3, mI4, mL1, mL2, mL3, mL4, mQ1, mQ2, mQ3, mQ4, mT1, mcat0, mcat1, mcat2, mcat3, mcat4, mrf1, jK_v, jK_n, JA, mz1, if_true, if_false, ite_true, ite_false, eq_self, not_false_eq_true, Nat.zero_le, true_and, and_true, and_self, Nat.reduceMod, Nat.reduceAdd, Nat.reduceLeDiff, Nat.reduceEqDiff, Nat.reduceLT, hQ, iN_ix, kc, kj, k0, k1]
theorem c_widen {u v : Nat} {w : Int32} (hQ : jQ μ 4361 1 = some 4438) (hu : u < 12) (hv : v < 12) : Ex (d + 1) 239 0 [some (.ref 4361), some (.int (iN u)), some (.int (iN v)), some (.int w)] [] μ Q ↔ Q (.inl none) (jsI μ 4438 (u * 12 + v) (jI μ 4438 (u * 12 + v) + w)) := by
  have kc : (iN (u * 12 + v)).toNatClampNeg = u * 12 + v := iN_cl (by omega)
  have k0 : ¬ iN (u * 12 + v) < 0 := iN_nn (by omega)
  have k1 : iN (u * 12 + v) < iN 144 := (iN_lt (by omega) (by omega)).mpr (by omega)
  simp only [x239_0, x239_1, x239_4, x239_5, x239_7, x239_8, x239_9, x239_10, x239_11, x239_12, x239_13, x239_16, x239_17, x239_18, x239_21, mzi, mInc, mne, mlt9, mrk, mI1, mI2, mI3, mI4, mL1, mL2, mL3, mL4, mQ1, mQ2, mQ3, mQ4, mT1, mcat0, mcat1, mcat2, mcat3, mcat4, mrf1, jK_v, jK_n, JA, mz1, if_true, if_false, ite_true, ite_false, eq_self, not_false_eq_true, Nat.zero_le, true_and, and_true, and_self, Nat.reduceMod, Nat.reduceAdd, Nat.reduceLeDiff, Nat.reduceEqDiff, Nat.reduceLT, hQ, iN_ix, c_left hQ hu hv, c_put (n := 144) (a := 4438) rfl rfl (fun _ => rfl) (by decide), kc, k0, k1]
/-- what leads from place to place: switches, then trunks -/
def kFs (b : Nat → Int32) (s : Nat) (g : Nat → Int32) : Nat → Int32 := fun j => if j = 2 * s * 12 + (2 * s + 1) then g (2 * s * 12 + (2 * s + 1)) + b s else g j
def kAdd (g : Nat → Int32) (u v : Nat) (w : Int32) : Nat → Int32 := fun j => if j = u * 12 + v then g (u * 12 + v) + w else g j
def kFt (p q : Nat → Nat) (c : Nat → Int32) (wo : Int32) (t : Nat) (g : Nat → Int32) : Nat → Int32 := kAdd (kAdd g (2 * p t + 1) (2 * q t) (c t + (if iN t = wo then 1 else 0))) (2 * q t + 1) (2 * p t) (c t + (if iN t = wo then 1 else 0))
def kFill (b : Nat → Int32) (p q : Nat → Nat) (c : Nat → Int32) (wo : Int32) (m n : Nat) (g : Nat → Int32) : Nat → Int32 := jfold (fun t g => kFt p q c wo t g) 0 n (jfold (fun s g => kAdd g (2 * s) (2 * s + 1) (b s)) 0 m (fun j => if j < 144 then 0 else g j))
theorem iN_two {a : Nat} : 2 * iN a = iN (2 * a) := by rw [show (2 : Int32) = iN 2 from rfl, iN_mul]
theorem c_ffill {wo : Int32} {p q : Nat → Nat} (hW : jWd μ) (hm : jI μ 1731 0 = iN m) (h6 : m ≤ 6) (hn : jI μ 1731 2 = iN n) (h10 : n ≤ 10) (hp : ∀ t, t < n → jI μ 2064 t = iN (p t) ∧ p t < 6) (hq : ∀ t, t < n → jI μ 2128 t = iN (q t) ∧ q t < 6) : Ex (d + 2) 237 0 [some (.ref 4361), some (.int wo), none, none] [] μ Q ↔ Q (.inl none) (jsR μ 4438 (kFill (jI μ 1812) p q (jI μ 2192) wo m n (jI μ 4438))) := by
  have hw := hW
  unfold jWd at hw
  have hQ1 : ∀ g, jQ (jsR μ 4438 g) 4361 1 = some 4438 := by
    intro g
    simp only [mR3, hw]
  have hwd : ∀ (d : Nat) (u v : Nat) (w : Int32) (g : Nat → Int32) (Q : jO → jM → Prop), u < 12 → v < 12 → (Ex (d + 1) 239 0 [some (.ref 4361), some (.int (iN u)), some (.int (iN v)), some (.int w)] [] (jsR μ 4438 g) Q ↔ Q (.inl none) (jsR μ 4438 (kAdd g u v w))) := by
    intro d u v w g Q hu hv
    rw [c_widen (hQ1 g) hu hv, mRI, mR1]
    rfl
  have l1 : ∀ (k : Nat) (g : Nat → Int32), k < m → (Ex (d + 2) 237 10 [some (.ref 4361), some (.int wo), some (.int (iN k)), none] [] (jsR μ 4438 g) Q ↔ Ex (d + 2) 237 10 [some (.ref 4361), some (.int wo), some (.int (iN (k + 1))), none] [] (jsR μ 4438 (kAdd g (2 * k) (2 * k + 1) (jI μ 1812 k))) Q) := by
    intro k g hk
    have hlt : iN k < iN m := (iN_lt (by omega) (by omega)).mpr hk
    have kc : (iN k).toNatClampNeg = k := iN_cl (by omega)
    have kj : jin (iN k) 6 = true := iN_in (by omega) (by omega)
    have hd := fun d Q => hwd d (2 * k) (2 * k + 1) (jI μ 1812 k) g Q (by omega) (by omega)
    rw [x237_10]
    simp only [x237_0, x237_1, x237_4, x237_5, x237_8, x237_9a, x237_9b, x237_9c, x237_11, x237_12, x237_15, x237_18, x237_21, x237_22, x237_23, x237_24, x237_25, x237_26, x237_27, x237_28, x237_29, x237_30, x237_31, x237_34, x237_37, x237_38, x237_39, x237_42a, x237_42b, x237_42c, x237_45, x237_48, x237_49a, x237_49b, x237_49c, x237_51, x237_52, x237_55, x237_58, x237_61, x237_62, x237_65, x237_68, x237_69, x237_70, x237_71, x237_72, x237_75, x237_76, x237_79, x237_80, x237_81a, x237_81b, x237_81c, x237_82, x237_83, x237_84, x237_85, x237_88, x237_91, x237_92, x237_93, x237_94, x237_95, x237_96, x237_97, x237_98, x237_101, x237_104, x237_105, x237_106, x237_107, x237_108, x237_111, x237_112, x237_113, x237_114, x237_117, x237_120, x237_121, x237_122, x237_123, x237_124, x237_125, x237_126, x237_127, x237_130, x237_133, x237_134, x237_135, x237_136, x237_137, x237_140a, x237_140b, x237_140c, x237_143, x237_146, mzi, mInc, mne, mlt9, mrk, mI1, mI2, mI3, mI4, mL1, mL2, mL3, mL4, mQ1, mQ2, mQ3, mQ4, mT1, mcat0, mcat1, mcat2, mcat3, mcat4, mrf1, jK_v, jK_n, JA, mz1, if_true, if_false, ite_true, ite_false, eq_self, not_false_eq_true, Nat.zero_le, true_and, and_true, and_self, Nat.reduceMod, Nat.reduceAdd, Nat.reduceLeDiff, Nat.reduceEqDiff, Nat.reduceLT, hw, hm, hlt, kc, kj, mR1, mR2, mR3, iN_two, hd]
  have l2 : ∀ (k : Nat) (g : Nat → Int32) (b : Option Value), k < n → ∃ b', (Ex (d + 2) 237 50 [some (.ref 4361), some (.int wo), some (.int (iN k)), b] [] (jsR μ 4438 g) Q ↔ Ex (d + 2) 237 50 [some (.ref 4361), some (.int wo), some (.int (iN (k + 1))), b'] [] (jsR μ 4438 (kFt p q (jI μ 2192) wo k g)) Q) := by
    intro k g b hk
    refine ⟨some (.int (jI μ 2192 k + (if iN k = wo then 1 else 0))), ?_⟩
    have hlt : iN k < iN n := (iN_lt (by omega) (by omega)).mpr hk
    have kc : (iN k).toNatClampNeg = k := iN_cl (by omega)
    have kj : jin (iN k) 10 = true := iN_in (by omega) (by omega)
    obtain ⟨hpk, hpk6⟩ := hp k hk
    obtain ⟨hqk, hqk6⟩ := hq k hk
    have hd1 := fun d w g Q => hwd d (2 * p k + 1) (2 * q k) w g Q (by omega) (by omega)
    have hd2 := fun d w g Q => hwd d (2 * q k + 1) (2 * p k) w g Q (by omega) (by omega)
    unfold kFt
    rw [x237_50]
    by_cases g1 : iN k = wo
    · have g1' := eq_true g1
      simp only [x237_0, x237_1, x237_4, x237_5, x237_8, x237_9a, x237_9b, x237_9c, x237_11, x237_12, x237_15, x237_18, x237_21, x237_22, x237_23, x237_24, x237_25, x237_26, x237_27, x237_28, x237_29, x237_30, x237_31, x237_34, x237_37, x237_38, x237_39, x237_42a, x237_42b, x237_42c, x237_45, x237_48, x237_49a, x237_49b, x237_49c, x237_51, x237_52, x237_55, x237_58, x237_61, x237_62, x237_65, x237_68, x237_69, x237_70, x237_71, x237_72, x237_75, x237_76, x237_79, x237_80, x237_81a, x237_81b, x237_81c, x237_82, x237_83, x237_84, x237_85, x237_88, x237_91, x237_92, x237_93, x237_94, x237_95, x237_96, x237_97, x237_98, x237_101, x237_104, x237_105, x237_106, x237_107, x237_108, x237_111, x237_112, x237_113, x237_114, x237_117, x237_120, x237_121, x237_122, x237_123, x237_124, x237_125, x237_126, x237_127, x237_130, x237_133, x237_134, x237_135, x237_136, x237_137, x237_140a, x237_140b, x237_140c, x237_143, x237_146, mzi, mInc, mne, mlt9, mrk, mI1, mI2, mI3, mI4, mL1, mL2, mL3, mL4, mQ1, mQ2, mQ3, mQ4, mT1, mcat0, mcat1, mcat2, mcat3, mcat4, mrf1, jK_v, jK_n, JA, mz1, if_true, if_false, ite_true, ite_false, eq_self, not_false_eq_true, Nat.zero_le, true_and, and_true, and_self, Nat.reduceMod, Nat.reduceAdd, Nat.reduceLeDiff, Nat.reduceEqDiff, Nat.reduceLT, hw, hn, hlt, kc, kj, mR1, mR2, mR3, iN_two, hpk, hqk, hd1, hd2, g1']
    · simp only [x237_0, x237_1, x237_4, x237_5, x237_8, x237_9a, x237_9b, x237_9c, x237_11, x237_12, x237_15, x237_18, x237_21, x237_22, x237_23, x237_24, x237_25, x237_26, x237_27, x237_28, x237_29, x237_30, x237_31, x237_34, x237_37, x237_38, x237_39, x237_42a, x237_42b, x237_42c, x237_45, x237_48, x237_49a, x237_49b, x237_49c, x237_51, x237_52, x237_55, x237_58, x237_61, x237_62, x237_65, x237_68, x237_69, x237_70, x237_71, x237_72, x237_75, x237_76, x237_79, x237_80, x237_81a, x237_81b, x237_81c, x237_82, x237_83, x237_84, x237_85, x237_88, x237_91, x237_92, x237_93, x237_94, x237_95, x237_96, x237_97, x237_98, x237_101, x237_104, x237_105, x237_106, x237_107, x237_108, x237_111, x237_112, x237_113, x237_114, x237_117, x237_120, x237_121, x237_122, x237_123, x237_124, x237_125, x237_126, x237_127, x237_130, x237_133, x237_134, x237_135, x237_136, x237_137, x237_140a, x237_140b, x237_140c, x237_143, x237_146, mzi, mInc, mne, mlt9, mrk, mI1, mI2, mI3, mI4, mL1, mL2, mL3, mL4, mQ1, mQ2, mQ3, mQ4, mT1, mcat0, mcat1, mcat2, mcat3, mcat4, mrf1, jK_v, jK_n, JA, mz1, if_true, if_false, ite_true, ite_false, eq_self, not_false_eq_true, Nat.zero_le, true_and, and_true, and_self, Nat.reduceMod, Nat.reduceAdd, Nat.reduceLeDiff, Nat.reduceEqDiff, Nat.reduceLT, hw, hn, hlt, kc, kj, mR1, mR2, mR3, iN_two, hpk, hqk, hd1, hd2, g1]
  have e1 := jfold_loop (P := fun k g => Ex (d + 2) 237 10 [some (.ref 4361), some (.int wo), some (.int (iN k)), none] [] (jsR μ 4438 g) Q) l1 m 0 (fun j => if j < 144 then 0 else jI μ 4438 j) (by omega)
  obtain ⟨b', e2⟩ := jfold_loopG (P := fun k g b => Ex (d + 2) 237 50 [some (.ref 4361), some (.int wo), some (.int (iN k)), b] [] (jsR μ 4438 g) Q) l2 n 0 (jfold (fun s g => kAdd g (2 * s) (2 * s + 1) (jI μ 1812 s)) 0 m (fun j => if j < 144 then 0 else jI μ 4438 j)) none (by omega)
  have h1 : Ex (d + 2) 237 0 [some (.ref 4361), some (.int wo), none, none] [] μ Q ↔ Ex (d + 2) 237 10 [some (.ref 4361), some (.int wo), some (.int (iN 0)), none] [] (jsR μ 4438 (fun j => if j < 144 then 0 else jI μ 4438 j)) Q := by
    simp only [x237_0, x237_1, x237_4, x237_5, x237_8, x237_9a, x237_9b, x237_9c, x237_11, x237_12, x237_15, x237_18, x237_21, x237_22, x237_23, x237_24, x237_25, x237_26, x237_27, x237_28, x237_29, x237_30, x237_31, x237_34, x237_37, x237_38, x237_39, x237_42a, x237_42b, x237_42c, x237_45, x237_48, x237_49a, x237_49b, x237_49c, x237_51, x237_52, x237_55, x237_58, x237_61, x237_62, x237_65, x237_68, x237_69, x237_70, x237_71, x237_72, x237_75, x237_76, x237_79, x237_80, x237_81a, x237_81b, x237_81c, x237_82, x237_83, x237_84, x237_85, x237_88, x237_91, x237_92, x237_93, x237_94, x237_95, x237_96, x237_97, x237_98, x237_101, x237_104, x237_105, x237_106, x237_107, x237_108, x237_111, x237_112, x237_113, x237_114, x237_117, x237_120, x237_121, x237_122, x237_123, x237_124, x237_125, x237_126, x237_127, x237_130, x237_133, x237_134, x237_135, x237_136, x237_137, x237_140a, x237_140b, x237_140c, x237_143, x237_146, mzi, mInc, mne, mlt9, mrk, mI1, mI2, mI3, mI4, mL1, mL2, mL3, mL4, mQ1, mQ2, mQ3, mQ4, mT1, mcat0, mcat1, mcat2, mcat3, mcat4, mrf1, jK_v, jK_n, JA, mz1, if_true, if_false, ite_true, ite_false, eq_self, not_false_eq_true, Nat.zero_le, true_and, and_true, and_self, Nat.reduceMod, Nat.reduceAdd, Nat.reduceLeDiff, Nat.reduceEqDiff, Nat.reduceLT, hw, c_afill (a := 4438) (n := 144) rfl rfl (fun _ => rfl) (by decide)]
  have hge1 : ¬ iN m < iN m := iN_irr (by omega)
  have hge2 : ¬ iN n < iN n := iN_irr (by omega)
  have h2 : ∀ g, Ex (d + 2) 237 10 [some (.ref 4361), some (.int wo), some (.int (iN m)), none] [] (jsR μ 4438 g) Q ↔ Ex (d + 2) 237 50 [some (.ref 4361), some (.int wo), some (.int (iN 0)), none] [] (jsR μ 4438 g) Q := by
    intro g
    simp only [x237_10, x237_0, x237_1, x237_4, x237_5, x237_8, x237_9a, x237_9b, x237_9c, x237_11, x237_12, x237_15, x237_18, x237_21, x237_22, x237_23, x237_24, x237_25, x237_26, x237_27, x237_28, x237_29, x237_30, x237_31, x237_34, x237_37, x237_38, x237_39, x237_42a, x237_42b, x237_42c, x237_45, x237_48, x237_49a, x237_49b, x237_49c, x237_51, x237_52, x237_55, x237_58, x237_61, x237_62, x237_65, x237_68, x237_69, x237_70, x237_71, x237_72, x237_75, x237_76, x237_79, x237_80, x237_81a, x237_81b, x237_81c, x237_82, x237_83, x237_84, x237_85, x237_88, x237_91, x237_92, x237_93, x237_94, x237_95, x237_96, x237_97, x237_98, x237_101, x237_104, x237_105, x237_106, x237_107, x237_108, x237_111, x237_112, x237_113, x237_114, x237_117, x237_120, x237_121, x237_122, x237_123, x237_124, x237_125, x237_126, x237_127, x237_130, x237_133, x237_134, x237_135, x237_136, x237_137, x237_140a, x237_140b, x237_140c, x237_143, x237_146, mzi, mInc, mne, mlt9, mrk, mI1, mI2, mI3, mI4, mL1, mL2, mL3, mL4, mQ1, mQ2, mQ3, mQ4, mT1, mcat0, mcat1, mcat2, mcat3, mcat4, mrf1, jK_v, jK_n, JA, mz1, if_true, if_false, ite_true, ite_false, eq_self, not_false_eq_true, Nat.zero_le, true_and, and_true, and_self, Nat.reduceMod, Nat.reduceAdd, Nat.reduceLeDiff, Nat.reduceEqDiff, Nat.reduceLT, hw, hm, mR1, mR2, mR3, hge1]
  rw [h1, e1, h2, e2]
  simp only [x237_50, x237_0, x237_1, x237_4, x237_5, x237_8, x237_9a, x237_9b, x237_9c, x237_11, x237_12, x237_15, x237_18, x237_21, x237_22, x237_23, x237_24, x237_25, x237_26, x237_27, x237_28, x237_29, x237_30, x237_31, x237_34, x237_37, x237_38, x237_39, x237_42a, x237_42b, x237_42c, x237_45, x237_48, x237_49a, x237_49b, x237_49c, x237_51, x237_52, x237_55, x237_58, x237_61, x237_62, x237_65, x237_68, x237_69, x237_70, x237_71, x237_72, x237_75, x237_76, x237_79, x237_80, x237_81a, x237_81b, x237_81c, x237_82, x237_83, x237_84, x237_85, x237_88, x237_91, x237_92, x237_93, x237_94, x237_95, x237_96, x237_97, x237_98, x237_101, x237_104, x237_105, x237_106, x237_107, x237_108, x237_111, x237_112, x237_113, x237_114, x237_117, x237_120, x237_121, x237_122, x237_123, x237_124, x237_125, x237_126, x237_127, x237_130, x237_133, x237_134, x237_135, x237_136, x237_137, x237_140a, x237_140b, x237_140c, x237_143, x237_146, mzi, mInc, mne, mlt9, mrk, mI1, mI2, mI3, mI4, mL1, mL2, mL3, mL4, mQ1, mQ2, mQ3, mQ4, mT1, mcat0, mcat1, mcat2, mcat3, mcat4, mrf1, jK_v, jK_n, JA, mz1, if_true, if_false, ite_true, ite_false, eq_self, not_false_eq_true, Nat.zero_le, true_and, and_true, and_self, Nat.reduceMod, Nat.reduceAdd, Nat.reduceLeDiff, Nat.reduceEqDiff, Nat.reduceLT, hw, hn, mR1, mR2, mR3, hge2]
  rfl
/-- one after the other: the next places of at -/
def kTry (rec : Nat → Int32 × (Nat → Int32) → Bool × Int32 × (Nat → Int32)) (u : Nat) : Nat → Nat → Int32 × (Nat → Int32) → Bool × Int32 × (Nat → Int32)
  | _, 0, a => (false, a)
  | k, r + 1, a => if jbit a.1 (iN k) = 0 then (if 0 < a.2 (u * 12 + k) then (match rec k a with
      | (true, b) => (true, b.1, kAdd (kAdd b.2 u k (-1)) k u 1)
      | (false, b) => kTry rec u (k + 1) r b) else kTry rec u (k + 1) r a) else kTry rec u (k + 1) r a
/-- one more pushed through -/
def kPush (z : Nat) : Nat → Nat → Int32 × (Nat → Int32) → Bool × Int32 × (Nat → Int32)
  | 0, u, a => if u = z then (true, a) else (false, a.1 ||| 1 <<< (iN u &&& 31), a.2)
  | F + 1, u, a => if u = z then (true, a) else kTry (kPush z F) u 0 12 (a.1 ||| 1 <<< (iN u &&& 31), a.2)
theorem c_push (hW : jWd μ) {z : Nat} (hz : z < 12) : ∀ (F d u e : Nat) (a : Int32 × (Nat → Int32)) (Q : jO → jM → Prop), F + e = 12 → u < 12 → (Ex (d + F + 2) 241 0 [some (.ref 4361), some (.int (iN u)), some (.int (iN z)), some (.int (iN e)), none] [] (jsR (jsI μ 4361 2 a.1) 4438 a.2) Q ↔ Q (.inl (some (.int (bif (kPush z F u a).1 then 1 else 0)))) (jsR (jsI μ 4361 2 (kPush z F u a).2.1) 4438 (kPush z F u a).2.2)) := by
  have hw := hW
  unfold jWd at hw
  have hQ1 : ∀ s g, jQ (jsR (jsI μ 4361 2 s) 4438 g) 4361 1 = some 4438 := by
    intro s g
    simp only [mR3, mI4, hw]
  have hwd : ∀ (d : Nat) (u v : Nat) (w s : Int32) (g : Nat → Int32) (Q : jO → jM → Prop), u < 12 → v < 12 → (Ex (d + 1) 239 0 [some (.ref 4361), some (.int (iN u)), some (.int (iN v)), some (.int w)] [] (jsR (jsI μ 4361 2 s) 4438 g) Q ↔ Q (.inl none) (jsR (jsI μ 4361 2 s) 4438 (kAdd g u v w))) := by
    intro d u v w s g Q hu hv
    rw [c_widen (hQ1 s g) hu hv, mRI, mR1]
    rfl
  have hlf : ∀ (d : Nat) (u v : Nat) (s : Int32) (g : Nat → Int32) (Q : jO → jM → Prop), u < 12 → v < 12 → (Ex d 240 0 [some (.ref 4361), some (.int (iN u)), some (.int (iN v)), none] [] (jsR (jsI μ 4361 2 s) 4438 g) Q ↔ Q (.inl (some (.int (g (u * 12 + v))))) (jsR (jsI μ 4361 2 s) 4438 g)) := by
    intro d u v s g Q hu hv
    rw [c_left (hQ1 s g) hu hv, mR1]
  intro F
  induction F with
  | zero =>
    intro d u e a Q hF hu
    have he : e = 12 := by omega
    subst he
    have he12 : ¬ iN 12 < (12 : Int32) := by decide
    have h012 : (0 : Int32) < (12 : Int32) := by decide
    unfold kPush
    by_cases g : u = z
    · subst g
      simp only [x241_0, x241_1, x241_2, x241_5, x241_6, x241_7, x241_8a, x241_8b, x241_9, x241_12, x241_13, x241_14, x241_15, x241_16, x241_19, x241_20a, x241_20b, x241_20c, x241_24, x241_26, x241_29, x241_30, x241_32, x241_35, x241_36, x241_39, x241_41, x241_44, x241_47, x241_48, x241_49, x241_51, x241_54, x241_57, x241_58, x241_60, x241_61, x241_62, x241_63, x241_64, x241_67, x241_70, x241_71, x241_72, x241_74, x241_75, x241_78, x241_79, x241_81, x241_82, x241_83, x241_86, x241_87, x241_88a, x241_88b, x241_88c, x241_91, x241_94, x241_95, mzi, mInc, mne, mlt9, mrk, mI1, mI2, mI3, mI4, mL1, mL2, mL3, mL4, mQ1, mQ2, mQ3, mQ4, mT1, mcat0, mcat1, mcat2, mcat3, mcat4, mrf1, jK_v, jK_n, JA, mz1, if_true, if_false, ite_true, ite_false, eq_self, not_false_eq_true, Nat.zero_le, true_and, and_true, and_self, Nat.reduceMod, Nat.reduceAdd, Nat.reduceLeDiff, Nat.reduceEqDiff, Nat.reduceLT, cond_true]
    · have g' : ¬ iN u = iN z := fun h => g ((iN_eq (by omega) (by omega)).mp h)
      simp only [x241_22, x241_0, x241_1, x241_2, x241_5, x241_6, x241_7, x241_8a, x241_8b, x241_9, x241_12, x241_13, x241_14, x241_15, x241_16, x241_19, x241_20a, x241_20b, x241_20c, x241_24, x241_26, x241_29, x241_30, x241_32, x241_35, x241_36, x241_39, x241_41, x241_44, x241_47, x241_48, x241_49, x241_51, x241_54, x241_57, x241_58, x241_60, x241_61, x241_62, x241_63, x241_64, x241_67, x241_70, x241_71, x241_72, x241_74, x241_75, x241_78, x241_79, x241_81, x241_82, x241_83, x241_86, x241_87, x241_88a, x241_88b, x241_88c, x241_91, x241_94, x241_95, mzi, mInc, mne, mlt9, mrk, mI1, mI2, mI3, mI4, mL1, mL2, mL3, mL4, mQ1, mQ2, mQ3, mQ4, mT1, mcat0, mcat1, mcat2, mcat3, mcat4, mrf1, jK_v, jK_n, JA, mz1, if_true, if_false, ite_true, ite_false, eq_self, not_false_eq_true, Nat.zero_le, true_and, and_true, and_self, Nat.reduceMod, Nat.reduceAdd, Nat.reduceLeDiff, Nat.reduceEqDiff, Nat.reduceLT, mR1, mR2, mR3, mRI, mRIc, mII, g, g', he12, h012, cond_false]
  | succ F ih =>
    intro d u e a Q hF hu
    unfold kPush
    by_cases g : u = z
    · subst g
      simp only [x241_0, x241_1, x241_2, x241_5, x241_6, x241_7, x241_8a, x241_8b, x241_9, x241_12, x241_13, x241_14, x241_15, x241_16, x241_19, x241_20a, x241_20b, x241_20c, x241_24, x241_26, x241_29, x241_30, x241_32, x241_35, x241_36, x241_39, x241_41, x241_44, x241_47, x241_48, x241_49, x241_51, x241_54, x241_57, x241_58, x241_60, x241_61, x241_62, x241_63, x241_64, x241_67, x241_70, x241_71, x241_72, x241_74, x241_75, x241_78, x241_79, x241_81, x241_82, x241_83, x241_86, x241_87, x241_88a, x241_88b, x241_88c, x241_91, x241_94, x241_95, mzi, mInc, mne, mlt9, mrk, mI1, mI2, mI3, mI4, mL1, mL2, mL3, mL4, mQ1, mQ2, mQ3, mQ4, mT1, mcat0, mcat1, mcat2, mcat3, mcat4, mrf1, jK_v, jK_n, JA, mz1, if_true, if_false, ite_true, ite_false, eq_self, not_false_eq_true, Nat.zero_le, true_and, and_true, and_self, Nat.reduceMod, Nat.reduceAdd, Nat.reduceLeDiff, Nat.reduceEqDiff, Nat.reduceLT, cond_true]
    · have g' : ¬ iN u = iN z := fun h => g ((iN_eq (by omega) (by omega)).mp h)
      have he12 : iN e < (12 : Int32) := (iN_lt (b := 12) (by omega) (by decide)).mpr (by omega)
      have hlf' := fun d v s g Q hv => hlf d u v s g Q hu hv
      have loop : ∀ (r k : Nat) (a : Int32 × (Nat → Int32)), k + r = 12 → (Ex (d + F + 1 + 1 + 1) 241 22 [some (.ref 4361), some (.int (iN u)), some (.int (iN z)), some (.int (iN e)), some (.int (iN k))] [] (jsR (jsI μ 4361 2 a.1) 4438 a.2) Q ↔ Q (.inl (some (.int (bif (kTry (kPush z F) u k r a).1 then 1 else 0)))) (jsR (jsI μ 4361 2 (kTry (kPush z F) u k r a).2.1) 4438 (kTry (kPush z F) u k r a).2.2)) := by
        intro r
        induction r with
        | zero =>
          intro k a hk
          have hk12 : k = 12 := by omega
          subst hk12
          have h12 : ¬ iN 12 < (12 : Int32) := by decide
          unfold kTry
          simp only [x241_22, x241_0, x241_1, x241_2, x241_5, x241_6, x241_7, x241_8a, x241_8b, x241_9, x241_12, x241_13, x241_14, x241_15, x241_16, x241_19, x241_20a, x241_20b, x241_20c, x241_24, x241_26, x241_29, x241_30, x241_32, x241_35, x241_36, x241_39, x241_41, x241_44, x241_47, x241_48, x241_49, x241_51, x241_54, x241_57, x241_58, x241_60, x241_61, x241_62, x241_63, x241_64, x241_67, x241_70, x241_71, x241_72, x241_74, x241_75, x241_78, x241_79, x241_81, x241_82, x241_83, x241_86, x241_87, x241_88a, x241_88b, x241_88c, x241_91, x241_94, x241_95, mzi, mInc, mne, mlt9, mrk, mI1, mI2, mI3, mI4, mL1, mL2, mL3, mL4, mQ1, mQ2, mQ3, mQ4, mT1, mcat0, mcat1, mcat2, mcat3, mcat4, mrf1, jK_v, jK_n, JA, mz1, if_true, if_false, ite_true, ite_false, eq_self, not_false_eq_true, Nat.zero_le, true_and, and_true, and_self, Nat.reduceMod, Nat.reduceAdd, Nat.reduceLeDiff, Nat.reduceEqDiff, Nat.reduceLT, h12, cond_false]
        | succ r ihr =>
          intro k a hk
          have hk12 : iN k < (12 : Int32) := (iN_lt (b := 12) (by omega) (by decide)).mpr (by omega)
          have hlk := fun d s g Q => hlf' d k s g Q (by omega)
          have hrec : ∀ (a : Int32 × (Nat → Int32)) (Q : jO → jM → Prop), Ex (d + F + 1 + 1) 241 0 [some (.ref 4361), some (.int (iN k)), some (.int (iN z)), some (.int (iN (e + 1))), none] [] (jsR (jsI μ 4361 2 a.1) 4438 a.2) Q ↔ Q (.inl (some (.int (bif (kPush z F k a).1 then 1 else 0)))) (jsR (jsI μ 4361 2 (kPush z F k a).2.1) 4438 (kPush z F k a).2.2) := fun a Q => ih d k (e + 1) a Q (by omega) (by omega)
          have hn := ihr (k + 1)
          rw [x241_22]
          unfold kTry
          by_cases g1 : jbit a.1 (iN k) = 0
          · by_cases g2 : 0 < a.2 (u * 12 + k)
            · have hra := hrec a
              rcases hv : kPush z F k a with ⟨v, b⟩
              rw [hv] at hra
              have hd1 := fun d g Q => hwd d u k (-1) b.1 g Q hu (by omega)
              have hd2 := fun d g Q => hwd d k u 1 b.1 g Q (by omega) hu
              cases v with
              | true => simp only [x241_0, x241_1, x241_2, x241_5, x241_6, x241_7, x241_8a, x241_8b, x241_9, x241_12, x241_13, x241_14, x241_15, x241_16, x241_19, x241_20a, x241_20b, x241_20c, x241_24, x241_26, x241_29, x241_30, x241_32, x241_35, x241_36, x241_39, x241_41, x241_44, x241_47, x241_48, x241_49, x241_51, x241_54, x241_57, x241_58, x241_60, x241_61, x241_62, x241_63, x241_64, x241_67, x241_70, x241_71, x241_72, x241_74, x241_75, x241_78, x241_79, x241_81, x241_82, x241_83, x241_86, x241_87, x241_88a, x241_88b, x241_88c, x241_91, x241_94, x241_95, mzi, mInc, mne, mlt9, mrk, mI1, mI2, mI3, mI4, mL1, mL2, mL3, mL4, mQ1, mQ2, mQ3, mQ4, mT1, mcat0, mcat1, mcat2, mcat3, mcat4, mrf1, jK_v, jK_n, JA, mz1, if_true, if_false, ite_true, ite_false, eq_self, not_false_eq_true, Nat.zero_le, true_and, and_true, and_self, Nat.reduceMod, Nat.reduceAdd, Nat.reduceLeDiff, Nat.reduceEqDiff, Nat.reduceLT, mR1, mR2, mR3, mRI, mRIc, mII, hw, hk12, he12, c_has, g1, g2, hlk, hra, hd1, hd2, cond_true]
              | false =>
                have hnb := hn b (by omega)
                simp only [x241_0, x241_1, x241_2, x241_5, x241_6, x241_7, x241_8a, x241_8b, x241_9, x241_12, x241_13, x241_14, x241_15, x241_16, x241_19, x241_20a, x241_20b, x241_20c, x241_24, x241_26, x241_29, x241_30, x241_32, x241_35, x241_36, x241_39, x241_41, x241_44, x241_47, x241_48, x241_49, x241_51, x241_54, x241_57, x241_58, x241_60, x241_61, x241_62, x241_63, x241_64, x241_67, x241_70, x241_71, x241_72, x241_74, x241_75, x241_78, x241_79, x241_81, x241_82, x241_83, x241_86, x241_87, x241_88a, x241_88b, x241_88c, x241_91, x241_94, x241_95, mzi, mInc, mne, mlt9, mrk, mI1, mI2, mI3, mI4, mL1, mL2, mL3, mL4, mQ1, mQ2, mQ3, mQ4, mT1, mcat0, mcat1, mcat2, mcat3, mcat4, mrf1, jK_v, jK_n, JA, mz1, if_true, if_false, ite_true, ite_false, eq_self, not_false_eq_true, Nat.zero_le, true_and, and_true, and_self, Nat.reduceMod, Nat.reduceAdd, Nat.reduceLeDiff, Nat.reduceEqDiff, Nat.reduceLT, mR1, mR2, mR3, mRI, mRIc, mII, hw, hk12, he12, c_has, g1, g2, hlk, hra, cond_false]
                exact hnb
            · have hnb := hn a (by omega)
              simp only [x241_0, x241_1, x241_2, x241_5, x241_6, x241_7, x241_8a, x241_8b, x241_9, x241_12, x241_13, x241_14, x241_15, x241_16, x241_19, x241_20a, x241_20b, x241_20c, x241_24, x241_26, x241_29, x241_30, x241_32, x241_35, x241_36, x241_39, x241_41, x241_44, x241_47, x241_48, x241_49, x241_51, x241_54, x241_57, x241_58, x241_60, x241_61, x241_62, x241_63, x241_64, x241_67, x241_70, x241_71, x241_72, x241_74, x241_75, x241_78, x241_79, x241_81, x241_82, x241_83, x241_86, x241_87, x241_88a, x241_88b, x241_88c, x241_91, x241_94, x241_95, mzi, mInc, mne, mlt9, mrk, mI1, mI2, mI3, mI4, mL1, mL2, mL3, mL4, mQ1, mQ2, mQ3, mQ4, mT1, mcat0, mcat1, mcat2, mcat3, mcat4, mrf1, jK_v, jK_n, JA, mz1, if_true, if_false, ite_true, ite_false, eq_self, not_false_eq_true, Nat.zero_le, true_and, and_true, and_self, Nat.reduceMod, Nat.reduceAdd, Nat.reduceLeDiff, Nat.reduceEqDiff, Nat.reduceLT, mR1, mR2, mR3, mRI, mRIc, mII, hw, hk12, he12, c_has, g1, g2, hlk]
              exact hnb
          · have hnb := hn a (by omega)
            simp only [x241_0, x241_1, x241_2, x241_5, x241_6, x241_7, x241_8a, x241_8b, x241_9, x241_12, x241_13, x241_14, x241_15, x241_16, x241_19, x241_20a, x241_20b, x241_20c, x241_24, x241_26, x241_29, x241_30, x241_32, x241_35, x241_36, x241_39, x241_41, x241_44, x241_47, x241_48, x241_49, x241_51, x241_54, x241_57, x241_58, x241_60, x241_61, x241_62, x241_63, x241_64, x241_67, x241_70, x241_71, x241_72, x241_74, x241_75, x241_78, x241_79, x241_81, x241_82, x241_83, x241_86, x241_87, x241_88a, x241_88b, x241_88c, x241_91, x241_94, x241_95, mzi, mInc, mne, mlt9, mrk, mI1, mI2, mI3, mI4, mL1, mL2, mL3, mL4, mQ1, mQ2, mQ3, mQ4, mT1, mcat0, mcat1, mcat2, mcat3, mcat4, mrf1, jK_v, jK_n, JA, mz1, if_true, if_false, ite_true, ite_false, eq_self, not_false_eq_true, Nat.zero_le, true_and, and_true, and_self, Nat.reduceMod, Nat.reduceAdd, Nat.reduceLeDiff, Nat.reduceEqDiff, Nat.reduceLT, mR1, mR2, mR3, mRI, mRIc, mII, hw, hk12, he12, c_has, g1, hlk]
            exact hnb
      have h1 : Ex (d + (F + 1) + 2) 241 0 [some (.ref 4361), some (.int (iN u)), some (.int (iN z)), some (.int (iN e)), none] [] (jsR (jsI μ 4361 2 a.1) 4438 a.2) Q ↔ Ex (d + F + 1 + 1 + 1) 241 22 [some (.ref 4361), some (.int (iN u)), some (.int (iN z)), some (.int (iN e)), some (.int (iN 0))] [] (jsR (jsI μ 4361 2 (a.1 ||| 1 <<< (iN u &&& 31))) 4438 a.2) Q := by
        show Ex (d + F + 1 + 1 + 1) _ _ _ _ _ _ ↔ _
        simp only [x241_0, x241_1, x241_2, x241_5, x241_6, x241_7, x241_8a, x241_8b, x241_9, x241_12, x241_13, x241_14, x241_15, x241_16, x241_19, x241_20a, x241_20b, x241_20c, x241_24, x241_26, x241_29, x241_30, x241_32, x241_35, x241_36, x241_39, x241_41, x241_44, x241_47, x241_48, x241_49, x241_51, x241_54, x241_57, x241_58, x241_60, x241_61, x241_62, x241_63, x241_64, x241_67, x241_70, x241_71, x241_72, x241_74, x241_75, x241_78, x241_79, x241_81, x241_82, x241_83, x241_86, x241_87, x241_88a, x241_88b, x241_88c, x241_91, x241_94, x241_95, mzi, mInc, mne, mlt9, mrk, mI1, mI2, mI3, mI4, mL1, mL2, mL3, mL4, mQ1, mQ2, mQ3, mQ4, mT1, mcat0, mcat1, mcat2, mcat3, mcat4, mrf1, jK_v, jK_n, JA, mz1, if_true, if_false, ite_true, ite_false, eq_self, not_false_eq_true, Nat.zero_le, true_and, and_true, and_self, Nat.reduceMod, Nat.reduceAdd, Nat.reduceLeDiff, Nat.reduceEqDiff, Nat.reduceLT, mR1, mR2, mR3, mRI, mRIc, mII, g']
      rw [h1, if_neg g]
      exact loop 12 0 (a.1 ||| 1 <<< (iN u &&& 31), a.2) rfl
/-- how often it goes: at most r times more -/
def kGr (s z : Nat) : Nat → Nat → (Nat → Int32) → Nat × Int32 × (Nat → Int32)
  | 0, p, g => (p, 0, g)
  | r + 1, p, g => match kPush z 12 s (0, g) with
    | (true, b) => kGr s z r (p + 1) b.2
    | (false, b) => (p, b)
def kFlow (μ : jM) (p q : Nat → Nat) (m n a b : Nat) (wo : Int32) : Nat × Int32 × (Nat → Int32) := kGr (2 * a) (2 * b + 1) 9 0 (kFill (jI μ 1812) p q (jI μ 2192) wo m n (jI μ 4438))
theorem c_flow {wo : Int32} {p q : Nat → Nat} {a b : Nat} (hW : jWd μ) (hm : jI μ 1731 0 = iN m) (h6 : m ≤ 6) (hn : jI μ 1731 2 = iN n) (h10 : n ≤ 10) (hp : ∀ t, t < n → jI μ 2064 t = iN (p t) ∧ p t < 6) (hq : ∀ t, t < n → jI μ 2128 t = iN (q t) ∧ q t < 6) (ha : a < 6) (hb : b < 6) : Ex (d + 15) 236 0 [some (.ref 4361), some (.int (iN a)), some (.int (iN b)), some (.int wo), none] [] μ Q ↔ Q (.inl (some (.int (iN (kFlow μ p q m n a b wo).1)))) (jsR (jsI μ 4361 2 (kFlow μ p q m n a b wo).2.1) 4438 (kFlow μ p q m n a b wo).2.2) := by
  have hw := hW
  unfold jWd at hw
  have hps : ∀ (g : Nat → Int32) (Q : jO → jM → Prop), Ex (d + 14) 241 0 [some (.ref 4361), some (.int (iN (2 * a))), some (.int (iN (2 * b + 1))), some (.int 0), none] [] (jsR (jsI μ 4361 2 0) 4438 g) Q ↔ Q (.inl (some (.int (bif (kPush (2 * b + 1) 12 (2 * a) (0, g)).1 then 1 else 0)))) (jsR (jsI μ 4361 2 (kPush (2 * b + 1) 12 (2 * a) (0, g)).2.1) 4438 (kPush (2 * b + 1) 12 (2 * a) (0, g)).2.2) := fun g Q => c_push hW (z := 2 * b + 1) (by omega) 12 d (2 * a) 0 (0, g) Q rfl (by omega)
  have loop : ∀ (r k : Nat) (g : Nat → Int32), k + r = 9 → (Ex (d + 15) 236 13 [some (.ref 4361), some (.int (iN a)), some (.int (iN b)), some (.int wo), some (.int (iN k))] [] (jsR (jsI μ 4361 2 0) 4438 g) Q ↔ Q (.inl (some (.int (iN (kGr (2 * a) (2 * b + 1) r k g).1)))) (jsR (jsI μ 4361 2 (kGr (2 * a) (2 * b + 1) r k g).2.1) 4438 (kGr (2 * a) (2 * b + 1) r k g).2.2)) := by
    intro r
    induction r with
    | zero =>
      intro k g hk
      have hk9 : k = 9 := by omega
      subst hk9
      have h9 : ¬ iN 9 < (9 : Int32) := by decide
      unfold kGr
      simp only [x236_13, x236_0, x236_1, x236_2, x236_5, x236_6a, x236_6b, x236_6c, x236_8, x236_9, x236_10, x236_15, x236_17, x236_20, x236_21, x236_22, x236_23, x236_24, x236_25, x236_26, x236_27, x236_28, x236_29, x236_30, x236_33, x236_36a, x236_36b, x236_36c, x236_39, x236_40, x236_41, x236_44, x236_47, x236_49, mzi, mInc, mne, mlt9, mrk, mI1, mI2, mI3, mI4, mL1, mL2, mL3, mL4, mQ1, mQ2, mQ3, mQ4, mT1, mcat0, mcat1, mcat2, mcat3, mcat4, mrf1, jK_v, jK_n, JA, mz1, if_true, if_false, ite_true, ite_false, eq_self, not_false_eq_true, Nat.zero_le, true_and, and_true, and_self, Nat.reduceMod, Nat.reduceAdd, Nat.reduceLeDiff, Nat.reduceEqDiff, Nat.reduceLT, h9]
    | succ r ihr =>
      intro k g hk
      have hk9 : iN k < (9 : Int32) := (iN_lt (b := 9) (by omega) (by decide)).mpr (by omega)
      have hpg := hps g
      have hnx := fun g => ihr (k + 1) g (by omega)
      rw [x236_13]
      unfold kGr
      rcases hv : kPush (2 * b + 1) 12 (2 * a) (0, g) with ⟨v, c⟩
      rw [hv] at hpg
      cases v with
      | true => simp only [x236_0, x236_1, x236_2, x236_5, x236_6a, x236_6b, x236_6c, x236_8, x236_9, x236_10, x236_15, x236_17, x236_20, x236_21, x236_22, x236_23, x236_24, x236_25, x236_26, x236_27, x236_28, x236_29, x236_30, x236_33, x236_36a, x236_36b, x236_36c, x236_39, x236_40, x236_41, x236_44, x236_47, x236_49, mzi, mInc, mne, mlt9, mrk, mI1, mI2, mI3, mI4, mL1, mL2, mL3, mL4, mQ1, mQ2, mQ3, mQ4, mT1, mcat0, mcat1, mcat2, mcat3, mcat4, mrf1, jK_v, jK_n, JA, mz1, if_true, if_false, ite_true, ite_false, eq_self, not_false_eq_true, Nat.zero_le, true_and, and_true, and_self, Nat.reduceMod, Nat.reduceAdd, Nat.reduceLeDiff, Nat.reduceEqDiff, Nat.reduceLT, mR1, mR2, mR3, mRI, mRIc, mII, hw, iN_two, hk9, hpg, cond_true, hnx]
      | false => simp only [x236_0, x236_1, x236_2, x236_5, x236_6a, x236_6b, x236_6c, x236_8, x236_9, x236_10, x236_15, x236_17, x236_20, x236_21, x236_22, x236_23, x236_24, x236_25, x236_26, x236_27, x236_28, x236_29, x236_30, x236_33, x236_36a, x236_36b, x236_36c, x236_39, x236_40, x236_41, x236_44, x236_47, x236_49, mzi, mInc, mne, mlt9, mrk, mI1, mI2, mI3, mI4, mL1, mL2, mL3, mL4, mQ1, mQ2, mQ3, mQ4, mT1, mcat0, mcat1, mcat2, mcat3, mcat4, mrf1, jK_v, jK_n, JA, mz1, if_true, if_false, ite_true, ite_false, eq_self, not_false_eq_true, Nat.zero_le, true_and, and_true, and_self, Nat.reduceMod, Nat.reduceAdd, Nat.reduceLeDiff, Nat.reduceEqDiff, Nat.reduceLT, mR1, mR2, mR3, mRI, mRIc, mII, hw, iN_two, hk9, hpg, cond_false]
  have h1 : Ex (d + 15) 236 0 [some (.ref 4361), some (.int (iN a)), some (.int (iN b)), some (.int wo), none] [] μ Q ↔ Ex (d + 15) 236 13 [some (.ref 4361), some (.int (iN a)), some (.int (iN b)), some (.int wo), some (.int (iN 0))] [] (jsR (jsI μ 4361 2 0) 4438 (kFill (jI μ 1812) p q (jI μ 2192) wo m n (jI μ 4438))) Q := by
    simp only [x236_0, x236_1, x236_2, x236_5, x236_6a, x236_6b, x236_6c, x236_8, x236_9, x236_10, x236_15, x236_17, x236_20, x236_21, x236_22, x236_23, x236_24, x236_25, x236_26, x236_27, x236_28, x236_29, x236_30, x236_33, x236_36a, x236_36b, x236_36c, x236_39, x236_40, x236_41, x236_44, x236_47, x236_49, mzi, mInc, mne, mlt9, mrk, mI1, mI2, mI3, mI4, mL1, mL2, mL3, mL4, mQ1, mQ2, mQ3, mQ4, mT1, mcat0, mcat1, mcat2, mcat3, mcat4, mrf1, jK_v, jK_n, JA, mz1, if_true, if_false, ite_true, ite_false, eq_self, not_false_eq_true, Nat.zero_le, true_and, and_true, and_self, Nat.reduceMod, Nat.reduceAdd, Nat.reduceLeDiff, Nat.reduceEqDiff, Nat.reduceLT, hw, c_ffill hW hm h6 hn h10 hp hq, mRIc]
  rw [h1]
  exact loop 9 0 _ rfl
end C14
