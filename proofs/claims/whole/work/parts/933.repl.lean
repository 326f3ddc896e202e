/-! THE PURE PART: names in the code become what they mean, reference. -/
/-- the code with what its names mean -/
def kLf (w : Nat → Nat → Int32) (c : Nat → Int32) : Nat → List (Nat × Nat) → Prop
  | _, [] => True
  | i, (K, t) :: q => c i = iN (kCd K) ∧ (bif kTwo K then c (i + 1) = w K t ∧ kLf w c (i + 2) q else kLf w c (i + 1) q)
theorem kLf_app {w : Nat → Nat → Int32} {c : Nat → Int32} : ∀ (L M : List (Nat × Nat)) (i : Nat), kLf w c i (L ++ M) → kLf w c i L ∧ kLf w c (i + kWds L) M
  | [], M, i, h => ⟨trivial, h⟩
  | (K, t) :: q, M, i, h => by
    obtain ⟨h1, h2⟩ := h
    have hw : kWds ((K, t) :: q) = (bif kTwo K then 2 else 1) + kWds q := rfl
    rw [hw]
    cases hk : kTwo K with
    | true =>
      have h2' : (bif kTwo K then c (i + 1) = w K t ∧ kLf w c (i + 2) (q ++ M) else kLf w c (i + 1) (q ++ M)) := h2
      rw [hk] at h2'
      obtain ⟨h3, h4⟩ := h2'
      obtain ⟨g1, g2⟩ := kLf_app q M (i + 2) h4
      refine ⟨⟨h1, by rw [hk]; exact ⟨h3, g1⟩⟩, ?_⟩
      rw [cond_true, show i + (2 + kWds q) = i + 2 + kWds q by omega]
      exact g2
    | false =>
      have h2' : (bif kTwo K then c (i + 1) = w K t ∧ kLf w c (i + 2) (q ++ M) else kLf w c (i + 1) (q ++ M)) := h2
      rw [hk] at h2'
      obtain ⟨g1, g2⟩ := kLf_app q M (i + 1) h2'
      refine ⟨⟨h1, by rw [hk]; exact g1⟩, ?_⟩
      rw [cond_false, show i + (1 + kWds q) = i + 1 + kWds q by omega]
      exact g2
theorem kLf_lay {w : Nat → Nat → Int32} {c mean : Nat → Int32} : ∀ (L : List (Nat × Nat)) (i : Nat), (∀ x ∈ L, kTwo x.1 = true → w x.1 x.2 = mean x.2) → kLf w c i L → kLay c i (kVs mean L) (i + kWds L)
  | [], i, _, _ => rfl
  | (K, t) :: q, i, hm, h => by
    obtain ⟨h1, h2⟩ := h
    have hw : kWds ((K, t) :: q) = (bif kTwo K then 2 else 1) + kWds q := rfl
    have hm' := fun x hx => hm x (List.mem_cons_of_mem _ hx)
    have hmt := hm (K, t) (List.mem_cons_self ..)
    rw [hw]
    show c i = iN (kCd K) ∧ (bif kTwo K then c (i + 1) = mean t ∧ kLay c (i + 2) (kVs mean q) _ else kLay c (i + 1) (kVs mean q) _)
    refine ⟨h1, ?_⟩
    cases hk : kTwo K with
    | true =>
      rw [hk] at h2
      obtain ⟨h3, h4⟩ := h2
      refine ⟨h3.trans (hmt hk), ?_⟩
      have := kLf_lay (mean := mean) q (i + 2) hm' h4
      rw [cond_true, show i + (2 + kWds q) = i + 2 + kWds q by omega]
      exact this
    | false =>
      rw [hk] at h2
      have := kLf_lay (mean := mean) q (i + 1) hm' h2
      show kLay c (i + 1) (kVs mean q) (i + (1 + kWds q))
      rw [show i + (1 + kWds q) = i + 1 + kWds q by omega]
      exact this
section REPL
variable {ν : jM} {r e : Nat} {num : Nat → Int32}
/-- what the replacing leaves as it is -/
def jCo (r : Nat) (ν ν' : jM) : Prop := (∀ a, ¬ a = 64 * r + 794 → jI ν' a = jI ν a) ∧ jQ ν' = jQ ν ∧ jL ν' = jL ν ∧ jA ν' = jA ν ∧ jX ν' = jX ν
theorem d_repl (hr : 120 ≤ r) {M : Nat} (hM : M ≤ 400) : ∀ (L : List (Nat × Nat)) (n i : Nat) (ν : jM), jWd ν → jMq ν r → jQ ν 4490 12 = some (64 * r + 11) → jI ν (64 * r + 11) 19 = iN M → n + kNs L = M → i + kWds L ≤ 800 → (∀ x ∈ L, (x.1 = 14 ∨ x.1 = 15 ∨ x.1 = 16) → x.2 < 401) → kLm num (jI ν (64 * r + 794)) i L → kOp (jI ν (64 * r + 856)) n i L →
    ∃ ν', jCo r ν ν' ∧ (∀ j, j < i → jI ν' (64 * r + 794) j = jI ν (64 * r + 794) j) ∧ kLf (fun K t => if K = 38 then num t else jI ν 4889 t) (jI ν' (64 * r + 794)) i L ∧ ∀ (d : Nat) (Q : jO → jM → Prop), (Ex d 96 111 [some (.ref 4490), some (.int (iN e)), some (.int (iN n))] [] ν Q ↔ Ex d 96 111 [some (.ref 4490), some (.int (iN e)), some (.int (iN M))] [] ν' Q)
  | [], n, i, ν, _, _, _, _, hn, _, _, _, _ => by
    have e : n = M := hn
    subst e
    exact ⟨ν, ⟨fun _ _ => rfl, rfl, rfl, rfl, rfl⟩, fun _ _ => rfl, trivial, fun _ _ => Iff.rfl⟩
  | (K, t) :: q, n, i, ν, hW, hq, hrd, ho, hn, hi, hm, hl, hp => by
    have hm' := fun x hx => hm x (List.mem_cons_of_mem _ hx)
    have hw : kWds ((K, t) :: q) = (bif kTwo K then 2 else 1) + kWds q := rfl
    have hs : kNs ((K, t) :: q) = (if K = 14 ∨ K = 15 ∨ K = 16 then 1 else 0) + kNs q := rfl
    obtain ⟨h1, h2⟩ := hl
    have hp' : (if K = 14 ∨ K = 15 ∨ K = 16 then jI ν (64 * r + 856) n = iN (i + 1) ∧ kOp (jI ν (64 * r + 856)) (n + 1) (i + 2) q else kOp (jI ν (64 * r + 856)) n (i + (bif kTwo K then 2 else 1)) q) := hp
    by_cases g : K = 14 ∨ K = 15 ∨ K = 16
    · have hk : kTwo K = true := by rcases g with g | g | g <;> rw [g] <;> rfl
      rw [if_pos g] at hp' hs
      rw [hk, cond_true] at hw
      have h2' : jI ν (64 * r + 794) (i + 1) = kCw num K t ∧ kLm num (jI ν (64 * r + 794)) (i + 2) q := by
        have : (bif kTwo K then jI ν (64 * r + 794) (i + 1) = kCw num K t ∧ kLm num (jI ν (64 * r + 794)) (i + 2) q else kLm num (jI ν (64 * r + 794)) (i + 1) q) := h2
        rw [hk] at this
        exact this
      obtain ⟨h3, h4⟩ := h2'
      obtain ⟨p1, p2⟩ := hp'
      have ht := hm (K, t) (List.mem_cons_self ..) g
      have ht' : t < 401 := ht
      have hc : jI ν (64 * r + 794) (i + 1) = iN t := by
        rw [h3]
        unfold kCw
        rw [if_neg (by omega)]
      have e1 : ¬ 64 * r + 11 = 64 * r + 794 := by omega
      have e2 : ¬ 64 * r + 856 = 64 * r + 794 := by omega
      have e3 : ¬ 4889 = 64 * r + 794 := by omega
      obtain ⟨ν', c1, c2, c3, c4⟩ := d_repl hr hM q (n + 1) (i + 2) (jsI ν (64 * r + 794) (i + 1) (jI ν 4889 t)) (jWd_c rfl hW) hq hrd (by rw [mI2 e1]; exact ho) (by omega) (by omega) hm' (kLm_congr q (i + 2) (fun j h _ => by rw [mI1, if_neg (by omega)]) h4) (by rw [mI2 e2]; exact p2)
      refine ⟨ν', ⟨fun a ha => by rw [c1.1 a ha, mI2 ha], c1.2⟩, fun j hj => by rw [c2 j (by omega), mI1, if_neg (by omega)], ?_, fun d Q => ?_⟩
      · rw [mI2 e3] at c3
        show _ ∧ (bif kTwo K then _ else _)
        rw [hk]
        refine ⟨by rw [c2 i (by omega), mI1, if_neg (by omega)]; exact h1, ?_, c3⟩
        show _ = if K = 38 then num t else jI ν 4889 t
        rw [c2 (i + 1) (by omega), mI1, if_pos rfl, if_neg (by omega)]
      · have hw' := hW
        unfold jWd at hw'
        have hq' := hq
        unfold jMq at hq'
        have lt : iN n < iN M := (iN_lt (by omega) (by omega)).mpr (by omega)
        have nc : (iN n).toNatClampNeg = n := iN_cl (by omega)
        have nj : jin (iN n) 400 = true := iN_in (by omega) (by omega)
        have vc : (iN (i + 1)).toNatClampNeg = i + 1 := iN_cl (by omega)
        have vj : jin (iN (i + 1)) 800 = true := iN_in (by omega) (by omega)
        have tc : (iN t).toNatClampNeg = t := iN_cl (by omega)
        have tj : jin (iN t) 401 = true := iN_in (by omega) (by omega)
        have jp := JP r
        have jpm := JPm r
        refine Iff.trans ?_ (c4 d Q)
        rw [x96_111]
        simp only [x96_0, x96_1, x96_4a, x96_4b, x96_5, x96_8, x96_11, x96_12, x96_15, x96_16, x96_17, x96_20, x96_21, x96_22, x96_25, x96_26, x96_29, x96_32, x96_33, x96_34, x96_37, x96_38, x96_41, x96_42, x96_45, x96_46, x96_47, x96_48, x96_51a, x96_51b, x96_51c, x96_52, x96_53, x96_54, x96_58, x96_61, x96_62, x96_65, x96_66, x96_67, x96_70, x96_73a, x96_73b, x96_73c, x96_74, x96_75, x96_78, x96_81, x96_82, x96_83, x96_86, x96_87, x96_90, x96_91, x96_94, x96_95, x96_96, x96_97a, x96_97b, x96_98, x96_101, x96_102, x96_103, x96_106, x96_109, x96_110a, x96_110b, x96_110c, x96_112, x96_113, x96_116, x96_119, x96_122, x96_123, x96_126, x96_129, x96_130, x96_133, x96_136, x96_137, x96_138, x96_139, x96_142, x96_143, x96_146, x96_149, x96_150, x96_153, x96_156, x96_157, x96_158, x96_159, x96_160, x96_161a, x96_161b, x96_161c, x96_164, x96_167, x96_168, mzi, mInc, mne, mlt9, mrk, mI1, mI2, mI3, mI4, mL1, mL2, mL3, mL4, mQ1, mQ2, mQ3, mQ4, mT1, mcat0, mcat1, mcat2, mcat3, mcat4, mrf1, jK_v, jK_n, JA, mz1, if_true, if_false, ite_true, ite_false, eq_self, not_false_eq_true, Nat.zero_le, true_and, and_true, and_self, Nat.reduceMod, Nat.reduceAdd, Nat.reduceLeDiff, Nat.reduceEqDiff, Nat.reduceLT, hw', hq', hrd, jp, jpm, ho, lt, nc, nj, p1, vc, vj, hc, tc, tj]
    · rw [if_neg g] at hp' hs
      rw [hw] at hi
      have h2' : kLm num (jI ν (64 * r + 794)) (i + (bif kTwo K then 2 else 1)) q ∧ (kTwo K = true → jI ν (64 * r + 794) (i + 1) = kCw num K t) := by
        have h3 : (bif kTwo K then jI ν (64 * r + 794) (i + 1) = kCw num K t ∧ kLm num (jI ν (64 * r + 794)) (i + 2) q else kLm num (jI ν (64 * r + 794)) (i + 1) q) := h2
        cases hk : kTwo K with
        | true =>
          rw [hk] at h3
          exact ⟨h3.2, fun _ => h3.1⟩
        | false =>
          rw [hk] at h3
          exact ⟨h3, fun hh => Bool.noConfusion hh⟩
      obtain ⟨ν', c1, c2, c3, c4⟩ := d_repl hr hM q n (i + (bif kTwo K then 2 else 1)) ν hW hq hrd ho (by omega) (by omega) hm' h2'.1 hp'
      refine ⟨ν', c1, fun j hj => c2 j (by cases kTwo K <;> simp only [cond_true, cond_false] <;> omega), ?_, c4⟩
      show _ ∧ (bif kTwo K then _ else _)
      refine ⟨(c2 i (by cases kTwo K <;> simp only [cond_true, cond_false] <;> omega)).trans h1, ?_⟩
      cases hk : kTwo K with
      | true =>
        rw [hk, cond_true] at c2 c3
        have hK : K = 38 := by
          unfold kTwo at hk
          simp only [Bool.or_eq_true, beq_iff_eq] at hk
          omega
        refine ⟨?_, c3⟩
        show _ = if K = 38 then num t else jI ν 4889 t
        rw [if_pos hK, c2 (i + 1) (by omega), h2'.2 hk]
        unfold kCw
        rw [if_pos hK]
      | false =>
        rw [hk, cond_false] at c3
        exact c3
theorem d_replE {d : Nat} {Q : jO → jM → Prop} {M : Nat} (hW : jWd ν) (hrd : jQ ν 4490 12 = some (64 * r + 11)) (hM : M ≤ 400) (ho : jI ν (64 * r + 11) 19 = iN M) : Ex d 96 111 [some (.ref 4490), some (.int (iN e)), some (.int (iN M))] [] ν Q ↔ Q (.inl (some (.int 0))) ν := by
  have hw := hW
  unfold jWd at hw
  have hge : ¬ iN M < iN M := iN_irr (by omega)
  have jp := JP r
  have jpm := JPm r
  rw [x96_111]
  simp only [x96_0, x96_1, x96_4a, x96_4b, x96_5, x96_8, x96_11, x96_12, x96_15, x96_16, x96_17, x96_20, x96_21, x96_22, x96_25, x96_26, x96_29, x96_32, x96_33, x96_34, x96_37, x96_38, x96_41, x96_42, x96_45, x96_46, x96_47, x96_48, x96_51a, x96_51b, x96_51c, x96_52, x96_53, x96_54, x96_58, x96_61, x96_62, x96_65, x96_66, x96_67, x96_70, x96_73a, x96_73b, x96_73c, x96_74, x96_75, x96_78, x96_81, x96_82, x96_83, x96_86, x96_87, x96_90, x96_91, x96_94, x96_95, x96_96, x96_97a, x96_97b, x96_98, x96_101, x96_102, x96_103, x96_106, x96_109, x96_110a, x96_110b, x96_110c, x96_112, x96_113, x96_116, x96_119, x96_122, x96_123, x96_126, x96_129, x96_130, x96_133, x96_136, x96_137, x96_138, x96_139, x96_142, x96_143, x96_146, x96_149, x96_150, x96_153, x96_156, x96_157, x96_158, x96_159, x96_160, x96_161a, x96_161b, x96_161c, x96_164, x96_167, x96_168, mzi, mInc, mne, mlt9, mrk, mI1, mI2, mI3, mI4, mL1, mL2, mL3, mL4, mQ1, mQ2, mQ3, mQ4, mT1, mcat0, mcat1, mcat2, mcat3, mcat4, mrf1, jK_v, jK_n, JA, mz1, if_true, if_false, ite_true, ite_false, eq_self, not_false_eq_true, Nat.zero_le, true_and, and_true, and_self, Nat.reduceMod, Nat.reduceAdd, Nat.reduceLeDiff, Nat.reduceEqDiff, Nat.reduceLT, hw, hrd, jp, jpm, ho, hge]
/-- the tokens are all told: on to the replacing -/
theorem d_exit57 {d m : Nat} {b2 : Option Int32} {Q : jO → jM → Prop} (hW : jWd ν) (ht : jI ν 4490 9 = iN m) (hm : m < 401) : Ex d 96 57 [some (.ref 4490), some (.int (iN m)), b2.map .int] [] ν Q ↔ Ex d 96 111 [some (.ref 4490), some (.int (iN m)), some (.int (iN 0))] [] ν Q := by
  have hw := hW
  unfold jWd at hw
  have hge : ¬ iN m < iN m := iN_irr (by omega)
  rw [x96_57]
  cases b2 <;> simp only [Option.map_some, Option.map_none, x96_0, x96_1, x96_4a, x96_4b, x96_5, x96_8, x96_11, x96_12, x96_15, x96_16, x96_17, x96_20, x96_21, x96_22, x96_25, x96_26, x96_29, x96_32, x96_33, x96_34, x96_37, x96_38, x96_41, x96_42, x96_45, x96_46, x96_47, x96_48, x96_51a, x96_51b, x96_51c, x96_52, x96_53, x96_54, x96_58, x96_61, x96_62, x96_65, x96_66, x96_67, x96_70, x96_73a, x96_73b, x96_73c, x96_74, x96_75, x96_78, x96_81, x96_82, x96_83, x96_86, x96_87, x96_90, x96_91, x96_94, x96_95, x96_96, x96_97a, x96_97b, x96_98, x96_101, x96_102, x96_103, x96_106, x96_109, x96_110a, x96_110b, x96_110c, x96_112, x96_113, x96_116, x96_119, x96_122, x96_123, x96_126, x96_129, x96_130, x96_133, x96_136, x96_137, x96_138, x96_139, x96_142, x96_143, x96_146, x96_149, x96_150, x96_153, x96_156, x96_157, x96_158, x96_159, x96_160, x96_161a, x96_161b, x96_161c, x96_164, x96_167, x96_168, mzi, mInc, mne, mlt9, mrk, mI1, mI2, mI3, mI4, mL1, mL2, mL3, mL4, mQ1, mQ2, mQ3, mQ4, mT1, mcat0, mcat1, mcat2, mcat3, mcat4, mrf1, jK_v, jK_n, JA, mz1, if_true, if_false, ite_true, ite_false, eq_self, not_false_eq_true, Nat.zero_le, true_and, and_true, and_self, Nat.reduceMod, Nat.reduceAdd, Nat.reduceLeDiff, Nat.reduceEqDiff, Nat.reduceLT, hw, ht, hge]
end REPL
