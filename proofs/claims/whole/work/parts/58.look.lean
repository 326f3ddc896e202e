/-! THE PURE PART: looking for a way (class). -/
/-- the plan that is taught: m switches, n lines, t trunks, L steps of tests of the kinds K -/
def jPl (μ : jM) (m n t L : Nat) (K : Nat → Nat) : Prop := jWd μ ∧ jI μ 1731 0 = iN m ∧ m ≤ 6 ∧ jI μ 1731 1 = iN n ∧ n ≤ 10 ∧ jI μ 1731 2 = iN t ∧ t ≤ 10 ∧ jI μ 2308 3 = iN L ∧ L ≤ 400 ∧ (∀ k, k < L → jQ μ 2400 k = some (64 * K k + 40)) ∧ (∀ k, k < L → kOk (K k)) ∧ (∀ k, k < L → K k = 14 → ∃ t, t < 10 ∧ jI μ 2456 k = iN t) ∧ (∀ k, k < L → K k = 16 → ∃ t, t < n ∧ jI μ 2456 k = iN t)
theorem jPl_c {μ μ' : jM} {m n t L : Nat} {K : Nat → Nat} (hQ : jQ μ' = jQ μ) (h1 : jI μ' 1731 = jI μ 1731) (h2 : jI μ' 2308 3 = jI μ 2308 3) (h3 : jI μ' 2456 = jI μ 2456) (h : jPl μ m n t L K) : jPl μ' m n t L K := by
  obtain ⟨a0, a1, a2, a3, a4, a5, a6, a7, a8, a9, a10, a11, a12⟩ := h
  refine ⟨jWd_c hQ a0, ?_, a2, ?_, a4, ?_, a6, ?_, a8, ?_, a10, ?_, ?_⟩
  · rw [h1]; exact a1
  · rw [h1]; exact a3
  · rw [h1]; exact a5
  · rw [h2]; exact a7
  · rw [hQ]; exact a9
  · rw [h3]; exact a11
  · rw [h3]; exact a12
section C8
variable {d : Nat} {μ : jM} {Q : jO → jM → Prop} {n m t L : Nat} {K : Nat → Nat}
/-- switches with a bar, trunks with a wire, as sets -/
def kFreen (μ : jM) (n m : Nat) : Int32 := jfold (fun k a => a ||| (if rsum (fun l => jI μ 3024 l >>> (iN k &&& 31) &&& 1) n < jI μ 1812 k then 1 <<< (iN k &&& 31) else 0)) 0 m 0
def kWiredn (μ : jM) (n t : Nat) : Int32 := jfold (fun k a => a ||| (if 0 < jI μ 2192 k - rsum (fun l => jI μ 3088 l >>> (iN k &&& 31) &&& 1) n then 1 <<< (iN k &&& 31) else 0)) 0 t 0
/-- the memory when the tests were reckoned -/
def kShMn (μ : jM) (n L : Nat) (K : Nat → Nat) : jM := jsR (jsI μ 2308 4 (iN (kShutn μ n L K).2.1)) 2520 (kShutn μ n L K).2.2
def kOpenn (μ : jM) (n t L : Nat) (K : Nat → Nat) : Int32 := kWiredn μ n t &&& ((kShutn μ n L K).1 ^^^ (-1))
theorem c_openn (hP : jPl μ m n t L K) : Ex (d + 5) 223 0 [some (.ref 2567), none, none] [] μ Q ↔ Q (.inl (some (.int (kOpenn μ n t L K)))) (kShMn μ n L K) := by
  obtain ⟨hW, hm, h6, hn, h10, ht, ht10, hL, hL4, hK, hok, h14, h16⟩ := hP
  have hw := hW
  unfold jWd at hw
  have loop : ∀ (k : Nat) (a : Int32), k < t → (Ex (d + 5) 223 4 [some (.ref 2567), some (.int a), some (.int (iN k))] [] μ Q ↔ Ex (d + 5) 223 4 [some (.ref 2567), some (.int (a ||| (if 0 < jI μ 2192 k - rsum (fun l => jI μ 3088 l >>> (iN k &&& 31) &&& 1) n then 1 <<< (iN k &&& 31) else 0))), some (.int (iN (k + 1)))] [] μ Q) := by
    intro k a hk
    have hlt : iN k < iN t := (iN_lt (by omega) (by omega)).mpr hk
    have hkc : (iN k).toNatClampNeg = k := iN_cl (by omega)
    have hkj : jin (iN k) 10 = true := iN_in (by omega) (by omega)
    all_goals rw [x223_4]
    all_goals by_cases g : 0 < jI μ 2192 k - rsum (fun l => jI μ 3088 l >>> (iN k &&& 31) &&& 1) n
    all_goals simp only [x223_0, x223_1a, x223_1b, x223_1c, x223_2, x223_3a, x223_3b, x223_3c, x223_5, x223_6, x223_9, x223_12, x223_15, x223_16, x223_17, x223_18, x223_21, x223_24, x223_25, x223_26, x223_27, x223_30, x223_31, x223_32a, x223_32b, x223_32c, x223_33a, x223_33b, x223_33c, x223_36, x223_39, x223_40, x223_41, x223_44, x223_47, x223_48, x223_51, x223_52, x223_53, x223_54, mzi, mInc, mne, mlt9, mrk, mI1, mI2, mI3, mI4, mL1, mL2, mL3, mL4, mQ1, mQ2, mQ3, mQ4, mT1, mcat0, mcat1, mcat2, mcat3, mcat4, mrf1, jK_v, jK_n, JA, mz1, if_true, if_false, ite_true, ite_false, eq_self, not_false_eq_true, Nat.zero_le, true_and, and_true, and_self, Nat.reduceMod, Nat.reduceAdd, Nat.reduceLeDiff, Nat.reduceEqDiff, Nat.reduceLT, hlt, hkc, hkj, hw, ht, c_shutn hW hn h10 hL hL4 hK hok h14 h16, c_freen hW hn h10 (show k < 10 by omega), g]
  have h0 := jfold_loop (P := fun k a => Ex (d + 5) 223 4 [some (.ref 2567), some (.int a), some (.int (iN k))] [] μ Q) loop t 0 0 (by omega)
  have hge : ¬ iN t < iN t := iN_irr (by omega)
  have h1 : Ex (d + 5) 223 0 [some (.ref 2567), none, none] [] μ Q ↔ Ex (d + 5) 223 4 [some (.ref 2567), some (.int 0), some (.int (iN 0))] [] μ Q := by
    simp only [x223_0, x223_1a, x223_1b, x223_1c, x223_2, x223_3a, x223_3b, x223_3c, x223_5, x223_6, x223_9, x223_12, x223_15, x223_16, x223_17, x223_18, x223_21, x223_24, x223_25, x223_26, x223_27, x223_30, x223_31, x223_32a, x223_32b, x223_32c, x223_33a, x223_33b, x223_33c, x223_36, x223_39, x223_40, x223_41, x223_44, x223_47, x223_48, x223_51, x223_52, x223_53, x223_54, mzi, mInc, mne, mlt9, mrk, mI1, mI2, mI3, mI4, mL1, mL2, mL3, mL4, mQ1, mQ2, mQ3, mQ4, mT1, mcat0, mcat1, mcat2, mcat3, mcat4, mrf1, jK_v, jK_n, JA, mz1, if_true, if_false, ite_true, ite_false, eq_self, not_false_eq_true, Nat.zero_le, true_and, and_true, and_self, Nat.reduceMod, Nat.reduceAdd, Nat.reduceLeDiff, Nat.reduceEqDiff, Nat.reduceLT, hw, ht, c_shutn hW hn h10 hL hL4 hK hok h14 h16]
  rw [h1, h0]
  simp only [x223_4, x223_0, x223_1a, x223_1b, x223_1c, x223_2, x223_3a, x223_3b, x223_3c, x223_5, x223_6, x223_9, x223_12, x223_15, x223_16, x223_17, x223_18, x223_21, x223_24, x223_25, x223_26, x223_27, x223_30, x223_31, x223_32a, x223_32b, x223_32c, x223_33a, x223_33b, x223_33c, x223_36, x223_39, x223_40, x223_41, x223_44, x223_47, x223_48, x223_51, x223_52, x223_53, x223_54, mzi, mInc, mne, mlt9, mrk, mI1, mI2, mI3, mI4, mL1, mL2, mL3, mL4, mQ1, mQ2, mQ3, mQ4, mT1, mcat0, mcat1, mcat2, mcat3, mcat4, mrf1, jK_v, jK_n, JA, mz1, if_true, if_false, ite_true, ite_false, eq_self, not_false_eq_true, Nat.zero_le, true_and, and_true, and_self, Nat.reduceMod, Nat.reduceAdd, Nat.reduceLeDiff, Nat.reduceEqDiff, Nat.reduceLT, hge, hw, ht, c_shutn hW hn h10 hL hL4 hK hok h14 h16]
  rfl
theorem c_lookWn {a b : Nat} (hP : jPl μ m n t L K) (ha : a < n) (hb : b < n) : Ex (d + 10) 221 0 [some (.ref 2567), some (.int (iN a)), some (.int (iN b))] [] μ Q ↔ Q (.inl none) (jsR (kShMn μ n L K) 3400 (kLook (jI μ 2064) (jI μ 2128) (jI μ 2256) t (jI μ 1872 a) (jI μ 1872 b) (kFreen μ n m) (kOpenn μ n t L K) (jI μ 3400))) := by
  have hP' := hP
  obtain ⟨hW, hm, h6, hn, h10, ht, ht10, hL, hL4, hK, hok, h14, h16⟩ := hP
  have hw := hW
  unfold jWd at hw
  have hca : (iN a).toNatClampNeg = a := iN_cl (by omega)
  have hja : jin (iN a) 10 = true := iN_in (by omega) (by omega)
  have hcb : (iN b).toNatClampNeg = b := iN_cl (by omega)
  have hjb : jin (iN b) 10 = true := iN_in (by omega) (by omega)
  have hha : jhas (iN a) (iN n) 10 = 1 := jhas_in (m := 10) ha h10 (by decide)
  have hhb : jhas (iN b) (iN n) 10 = 1 := jhas_in (m := 10) hb h10 (by decide)
  have hfr : ∀ (d : Nat) (Q : jO → jM → Prop), Ex (d + 2) 222 0 [some (.ref 2567), none, none] [] μ Q ↔ Q (.inl (some (.int (kFreen μ n m)))) μ := fun d Q => c_freeSwn hW hn h10 hm h6
  have hop : ∀ (d : Nat) (Q : jO → jM → Prop), Ex (d + 5) 223 0 [some (.ref 2567), none, none] [] μ Q ↔ Q (.inl (some (.int (kOpenn μ n t L K)))) (kShMn μ n L K) := fun d Q => c_openn hP'
  have hI : ∀ a, ¬ a = 2308 → ¬ a = 2520 → jI (kShMn μ n L K) a = jI μ a := by
    intro a h1 h2
    unfold kShMn
    rw [mR2 h2, mI2 h1]
  have hlk : ∀ (d : Nat) (x z fr op : Int32) (Q : jO → jM → Prop), Ex (d + 9) 224 0 [some (.ref 3400), some (.int x), some (.int z), some (.int fr), some (.int op)] [] (kShMn μ n L K) Q ↔ Q (.inl none) (jsR (kShMn μ n L K) 3400 (kLook (jI μ 2064) (jI μ 2128) (jI μ 2256) t x z fr op (jI μ 3400))) := by
    intro d x z fr op Q
    have h := c_lookn (d := d) (μ := kShMn μ n L K) (Q := Q) (n := t) (x := x) (z := z) (fr := fr) (op := op) (jWd_c rfl hW) (by rw [hI 1731 (by decide) (by decide)]; exact ht) ht10
    rw [hI 2064 (by decide) (by decide), hI 2128 (by decide) (by decide), hI 2256 (by decide) (by decide), hI 3400 (by decide) (by decide)] at h
    exact h
  simp only [x221_0, x221_1, x221_4, x221_5, x221_8, x221_11, x221_12, x221_15, x221_16, x221_19, x221_22, x221_23, x221_26, x221_27, x221_30, x221_33, x221_34, x221_35, x221_36, x221_39, x221_42, x221_43, x221_44, x221_45, x221_48, x221_49, x221_52, x221_55, mzi, mInc, mne, mlt9, mrk, mI1, mI2, mI3, mI4, mL1, mL2, mL3, mL4, mQ1, mQ2, mQ3, mQ4, mT1, mcat0, mcat1, mcat2, mcat3, mcat4, mrf1, jK_v, jK_n, JA, mz1, if_true, if_false, ite_true, ite_false, eq_self, not_false_eq_true, Nat.zero_le, true_and, and_true, and_self, Nat.reduceMod, Nat.reduceAdd, Nat.reduceLeDiff, Nat.reduceEqDiff, Nat.reduceLT, hw, hn, c_hasLine (x := 1731) rfl, hha, hhb, hca, hja, hcb, hjb, hfr, hop, hlk]
/-- switches with a bar, trunks with a wire, as sets -/
def kFreea (μ : jM) (n m : Nat) : Int32 := jfold (fun k a => a ||| (if rsum (fun l => jI μ 3920 l >>> (iN k &&& 31) &&& 1) n < jI μ 1812 k then 1 <<< (iN k &&& 31) else 0)) 0 m 0
def kWireda (μ : jM) (n t : Nat) : Int32 := jfold (fun k a => a ||| (if 0 < jI μ 2192 k - rsum (fun l => jI μ 3984 l >>> (iN k &&& 31) &&& 1) n then 1 <<< (iN k &&& 31) else 0)) 0 t 0
/-- the memory when the tests were reckoned -/
def kShMa (μ : jM) (n L : Nat) (K : Nat → Nat) : jM := jsR (jsI μ 2308 4 (iN (kShuta μ n L K).2.1)) 2520 (kShuta μ n L K).2.2
def kOpena (μ : jM) (n t L : Nat) (K : Nat → Nat) : Int32 := kWireda μ n t &&& ((kShuta μ n L K).1 ^^^ (-1))
theorem c_opena (hP : jPl μ m n t L K) : Ex (d + 5) 223 0 [some (.ref 3463), none, none] [] μ Q ↔ Q (.inl (some (.int (kOpena μ n t L K)))) (kShMa μ n L K) := by
  obtain ⟨hW, hm, h6, hn, h10, ht, ht10, hL, hL4, hK, hok, h14, h16⟩ := hP
  have hw := hW
  unfold jWd at hw
  have loop : ∀ (k : Nat) (a : Int32), k < t → (Ex (d + 5) 223 4 [some (.ref 3463), some (.int a), some (.int (iN k))] [] μ Q ↔ Ex (d + 5) 223 4 [some (.ref 3463), some (.int (a ||| (if 0 < jI μ 2192 k - rsum (fun l => jI μ 3984 l >>> (iN k &&& 31) &&& 1) n then 1 <<< (iN k &&& 31) else 0))), some (.int (iN (k + 1)))] [] μ Q) := by
    intro k a hk
    have hlt : iN k < iN t := (iN_lt (by omega) (by omega)).mpr hk
    have hkc : (iN k).toNatClampNeg = k := iN_cl (by omega)
    have hkj : jin (iN k) 10 = true := iN_in (by omega) (by omega)
    all_goals rw [x223_4]
    all_goals by_cases g : 0 < jI μ 2192 k - rsum (fun l => jI μ 3984 l >>> (iN k &&& 31) &&& 1) n
    all_goals simp only [x223_0, x223_1a, x223_1b, x223_1c, x223_2, x223_3a, x223_3b, x223_3c, x223_5, x223_6, x223_9, x223_12, x223_15, x223_16, x223_17, x223_18, x223_21, x223_24, x223_25, x223_26, x223_27, x223_30, x223_31, x223_32a, x223_32b, x223_32c, x223_33a, x223_33b, x223_33c, x223_36, x223_39, x223_40, x223_41, x223_44, x223_47, x223_48, x223_51, x223_52, x223_53, x223_54, mzi, mInc, mne, mlt9, mrk, mI1, mI2, mI3, mI4, mL1, mL2, mL3, mL4, mQ1, mQ2, mQ3, mQ4, mT1, mcat0, mcat1, mcat2, mcat3, mcat4, mrf1, jK_v, jK_n, JA, mz1, if_true, if_false, ite_true, ite_false, eq_self, not_false_eq_true, Nat.zero_le, true_and, and_true, and_self, Nat.reduceMod, Nat.reduceAdd, Nat.reduceLeDiff, Nat.reduceEqDiff, Nat.reduceLT, hlt, hkc, hkj, hw, ht, c_shuta hW hn h10 hL hL4 hK hok h14 h16, c_freea hW hn h10 (show k < 10 by omega), g]
  have h0 := jfold_loop (P := fun k a => Ex (d + 5) 223 4 [some (.ref 3463), some (.int a), some (.int (iN k))] [] μ Q) loop t 0 0 (by omega)
  have hge : ¬ iN t < iN t := iN_irr (by omega)
  have h1 : Ex (d + 5) 223 0 [some (.ref 3463), none, none] [] μ Q ↔ Ex (d + 5) 223 4 [some (.ref 3463), some (.int 0), some (.int (iN 0))] [] μ Q := by
    simp only [x223_0, x223_1a, x223_1b, x223_1c, x223_2, x223_3a, x223_3b, x223_3c, x223_5, x223_6, x223_9, x223_12, x223_15, x223_16, x223_17, x223_18, x223_21, x223_24, x223_25, x223_26, x223_27, x223_30, x223_31, x223_32a, x223_32b, x223_32c, x223_33a, x223_33b, x223_33c, x223_36, x223_39, x223_40, x223_41, x223_44, x223_47, x223_48, x223_51, x223_52, x223_53, x223_54, mzi, mInc, mne, mlt9, mrk, mI1, mI2, mI3, mI4, mL1, mL2, mL3, mL4, mQ1, mQ2, mQ3, mQ4, mT1, mcat0, mcat1, mcat2, mcat3, mcat4, mrf1, jK_v, jK_n, JA, mz1, if_true, if_false, ite_true, ite_false, eq_self, not_false_eq_true, Nat.zero_le, true_and, and_true, and_self, Nat.reduceMod, Nat.reduceAdd, Nat.reduceLeDiff, Nat.reduceEqDiff, Nat.reduceLT, hw, ht, c_shuta hW hn h10 hL hL4 hK hok h14 h16]
  rw [h1, h0]
  simp only [x223_4, x223_0, x223_1a, x223_1b, x223_1c, x223_2, x223_3a, x223_3b, x223_3c, x223_5, x223_6, x223_9, x223_12, x223_15, x223_16, x223_17, x223_18, x223_21, x223_24, x223_25, x223_26, x223_27, x223_30, x223_31, x223_32a, x223_32b, x223_32c, x223_33a, x223_33b, x223_33c, x223_36, x223_39, x223_40, x223_41, x223_44, x223_47, x223_48, x223_51, x223_52, x223_53, x223_54, mzi, mInc, mne, mlt9, mrk, mI1, mI2, mI3, mI4, mL1, mL2, mL3, mL4, mQ1, mQ2, mQ3, mQ4, mT1, mcat0, mcat1, mcat2, mcat3, mcat4, mrf1, jK_v, jK_n, JA, mz1, if_true, if_false, ite_true, ite_false, eq_self, not_false_eq_true, Nat.zero_le, true_and, and_true, and_self, Nat.reduceMod, Nat.reduceAdd, Nat.reduceLeDiff, Nat.reduceEqDiff, Nat.reduceLT, hge, hw, ht, c_shuta hW hn h10 hL hL4 hK hok h14 h16]
  rfl
theorem c_lookWa {a b : Nat} (hP : jPl μ m n t L K) (ha : a < n) (hb : b < n) : Ex (d + 10) 221 0 [some (.ref 3463), some (.int (iN a)), some (.int (iN b))] [] μ Q ↔ Q (.inl none) (jsR (kShMa μ n L K) 4296 (kLook (jI μ 2064) (jI μ 2128) (jI μ 2256) t (jI μ 1872 a) (jI μ 1872 b) (kFreea μ n m) (kOpena μ n t L K) (jI μ 4296))) := by
  have hP' := hP
  obtain ⟨hW, hm, h6, hn, h10, ht, ht10, hL, hL4, hK, hok, h14, h16⟩ := hP
  have hw := hW
  unfold jWd at hw
  have hca : (iN a).toNatClampNeg = a := iN_cl (by omega)
  have hja : jin (iN a) 10 = true := iN_in (by omega) (by omega)
  have hcb : (iN b).toNatClampNeg = b := iN_cl (by omega)
  have hjb : jin (iN b) 10 = true := iN_in (by omega) (by omega)
  have hha : jhas (iN a) (iN n) 10 = 1 := jhas_in (m := 10) ha h10 (by decide)
  have hhb : jhas (iN b) (iN n) 10 = 1 := jhas_in (m := 10) hb h10 (by decide)
  have hfr : ∀ (d : Nat) (Q : jO → jM → Prop), Ex (d + 2) 222 0 [some (.ref 3463), none, none] [] μ Q ↔ Q (.inl (some (.int (kFreea μ n m)))) μ := fun d Q => c_freeSwa hW hn h10 hm h6
  have hop : ∀ (d : Nat) (Q : jO → jM → Prop), Ex (d + 5) 223 0 [some (.ref 3463), none, none] [] μ Q ↔ Q (.inl (some (.int (kOpena μ n t L K)))) (kShMa μ n L K) := fun d Q => c_opena hP'
  have hI : ∀ a, ¬ a = 2308 → ¬ a = 2520 → jI (kShMa μ n L K) a = jI μ a := by
    intro a h1 h2
    unfold kShMa
    rw [mR2 h2, mI2 h1]
  have hlk : ∀ (d : Nat) (x z fr op : Int32) (Q : jO → jM → Prop), Ex (d + 9) 224 0 [some (.ref 4296), some (.int x), some (.int z), some (.int fr), some (.int op)] [] (kShMa μ n L K) Q ↔ Q (.inl none) (jsR (kShMa μ n L K) 4296 (kLook (jI μ 2064) (jI μ 2128) (jI μ 2256) t x z fr op (jI μ 4296))) := by
    intro d x z fr op Q
    have h := c_looka (d := d) (μ := kShMa μ n L K) (Q := Q) (n := t) (x := x) (z := z) (fr := fr) (op := op) (jWd_c rfl hW) (by rw [hI 1731 (by decide) (by decide)]; exact ht) ht10
    rw [hI 2064 (by decide) (by decide), hI 2128 (by decide) (by decide), hI 2256 (by decide) (by decide), hI 4296 (by decide) (by decide)] at h
    exact h
  simp only [x221_0, x221_1, x221_4, x221_5, x221_8, x221_11, x221_12, x221_15, x221_16, x221_19, x221_22, x221_23, x221_26, x221_27, x221_30, x221_33, x221_34, x221_35, x221_36, x221_39, x221_42, x221_43, x221_44, x221_45, x221_48, x221_49, x221_52, x221_55, mzi, mInc, mne, mlt9, mrk, mI1, mI2, mI3, mI4, mL1, mL2, mL3, mL4, mQ1, mQ2, mQ3, mQ4, mT1, mcat0, mcat1, mcat2, mcat3, mcat4, mrf1, jK_v, jK_n, JA, mz1, if_true, if_false, ite_true, ite_false, eq_self, not_false_eq_true, Nat.zero_le, true_and, and_true, and_self, Nat.reduceMod, Nat.reduceAdd, Nat.reduceLeDiff, Nat.reduceEqDiff, Nat.reduceLT, hw, hn, c_hasLine (x := 1731) rfl, hha, hhb, hca, hja, hcb, hjb, hfr, hop, hlk]
end C8
