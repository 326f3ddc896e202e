/-! THE PURE PART: trunk, wire. -/
section TRUNKS
variable {d p m n t L nh w mk sz r l f k j q : Nat} {μ ν μ2 A B : jM} {Q : jO → jM → Prop} {K : Nat → Nat} {T : Nat → List (Nat × Int32)} {x y : Int32} {pn pd : Nat → Int32}
theorem seen_of (h : jRXn A B n w mk pn pd) : kSeen A B n := by
  refine ⟨h.1, fun l hl => ?_, h.2.2.2.2.2.2.2.2.2.1⟩
  obtain ⟨e1, e2, e3, e4, e5, e6, e7, e8⟩ := h.2.2.2.2.2.2.2.1 l hl
  exact ⟨⟨by rw [e1], by rw [e1]⟩, e6, fun g => (e7 g).1, fun g => ⟨(e8 g).1, (e8 g).2.1⟩⟩
/-- the class as it was, the reference as it is -/
theorem jJp_mix (h : jSc μ ν) (hJ : jJp μ p m n t L K nh T w mk sz) : jRP μ ν p m n t L K nh T ∧ jRXn μ ν n w mk (jI μ 1936) (jI μ 2000) := by
  obtain ⟨_, _, h120, hR, hX, hp⟩ := hJ
  have hf := jRP_f hR
  have hW := jSc_w h hR.1.1 h120
  obtain ⟨s1, s2, s3, s4, s5, s6⟩ := h
  exact ⟨jRP_g hR hR.1.1 rfl (fun _ _ => rfl) rfl hW (by rw [s5 4490 (by omega)]) (s5 _ (by omega)) fun c hc => s1 _ (by omega) (by unfold kScr; omega), jRXn_g hX (fun _ _ _ => rfl) ⟨s4 0 (by decide), s4 1 (by decide), s4 7 (by decide)⟩ fun a g1 g2 => s1 a (by omega) (by unfold kScr; omega)⟩
def kTrA (μ : jM) (n L : Nat) (K : Nat → Nat) (j : Nat) : List Int32 := [jI μ 2064 j, jI μ 2128 j, jI μ 2192 j, rsum (fun k => jI μ 3088 k >>> (iN j &&& 31) &&& 1) n, jI μ 2256 j, jbit (kShutn μ n L K).1 (iN j)]
def kTrMA (μ : jM) (n L : Nat) (K : Nat → Nat) (k : Nat) : jM := if k = 5 then kShMn μ n L K else μ
def kTrB (μ : jM) (p n nh : Nat) (T : Nat → List (Nat × Int32)) (j : Nat) : List Int32 := [jI μ (64 * p + 336) j, jI μ (64 * p + 400) j, jI μ (64 * p + 464) j, rsum (fun k => if jI μ 6288 k = 1 then jI μ 6352 k >>> (iN j &&& 31) &&& 1 else 0) n, jI μ (64 * p + 528) j, bif (kIsh (kEnvMs μ p n) (jI μ (64 * p + 594)) T (iN j) 0 nh (jI μ 6680)).1 then 1 else 0]
def kTrMB (μ : jM) (p n nh : Nat) (T : Nat → List (Nat × Int32)) (j k : Nat) : jM := if k = 5 then jsR μ 6680 (kIsh (kEnvMs μ p n) (jI μ (64 * p + 594)) T (iN j) 0 nh (jI μ 6680)).2 else μ
theorem kTr_eq (hR : jRP A B p m n t L K nh T) (h : jRXn A B n w mk pn pd) (hj : j < t) : kTrA A n L K j = kTrB B p n nh T j := by
  have ht := hR.1.2.2.2.2.2.2.1
  obtain ⟨a1, a2, _, _, _, a6, _, a8, _⟩ := hR.2.2.2.2.2.2.2.2.2.2.1 j hj
  have hs := kShut_eqn hR (seen_of h) (j := j) (by omega) (jI B 6680)
  unfold kTrA kTrB
  rw [a1, a2, a6, a8, E_heldn h, jbit_bt (by omega)]
  have h5 : (if jbt (kShutn A n L K).1 j = true then (1 : Int32) else 0) = bif (kIsh (kEnvMs B p n) (jI B (64 * p + 594)) T (iN j) 0 nh (jI B 6680)).1 then 1 else 0 := by
    by_cases g : jbt (kShutn A n L K).1 j = true
    · rw [if_pos g, hs.mp g]
      rfl
    · rw [if_neg g, Bool.eq_false_iff.mpr fun q => g (hs.mpr q)]
      rfl
  rw [h5]
theorem jSc_s : jSc μ (kShMn μ n L K) := by
  unfold kShMn
  exact jSc_t (jSc_I (Or.inl ⟨rfl, by decide⟩)) (jSc_R (Or.inl rfl))
theorem jbitz (s v : Int32) : jbit s v = 0 ∨ jbit s v = 1 := by
  unfold jbit
  split
  · exact Or.inr rfl
  · exact Or.inl rfl
theorem c_shutP (hP : jPl μ m n t L K) : Ex (d + 4) 199 0 [some (.ref 2308), some (.ref 2567), none, none, none, none, none] [] μ Q ↔ Q (.inl (some (.int (kShutn μ n L K).1))) (kShMn μ n L K) := by
  obtain ⟨P1, P2, P3, P4, P5, P6, P7, P8, P9, P10, P11, P12, P13⟩ := hP
  exact c_shutn P1 P4 P5 P8 P9 P10 P11 P12 P13
theorem c_trunk (hP : jPl μ m n t L K) (hl : j < t) (hk : k < 6) : Ex (d + 6) 196 0 [some (.ref 0), some (.int (iN j)), some (.int (iN k))] [] μ Q ↔ Q (.inl (some (.int ((kTrA μ n L K j).getD k 0)))) (kTrMA μ n L K k) := by
  have h199 := fun (d : Nat) (Q : jO → jM → Prop) => c_shutP (d := d) (Q := Q) hP
  obtain ⟨hW, P2, P3, hn, h10, ht, ht10, P8, P9, P10, P11, P12, P13⟩ := hP
  have hw := hW
  unfold jWd at hw
  have hnd := fun (d : Nat) (x : Int32) (Q : jO → jM → Prop) => c_needT (d := d) (x := x) (Q := Q) hW
  have hj : jhas (iN j) (iN t) 10 = 1 := jhas_in hl ht10 (by decide)
  have lc : (iN j).toNatClampNeg = j := iN_cl (by omega)
  have lj : jin (iN j) 10 = true := iN_in (by omega) (by omega)
  have h198 := fun (d : Nat) (v : Int32) (Q : jO → jM → Prop) => c_heldn (d := d) (w := v) (Q := Q) hW hn h10
  have h188 := fun (d : Nat) (μ : jM) (s v : Int32) (Q : jO → jM → Prop) => c_has (d := d) (μ := μ) (s := s) (m := v) (Q := Q)
  have hc : k = 0 ∨ k = 1 ∨ k = 2 ∨ k = 3 ∨ k = 4 ∨ k = 5 := by omega
  rcases hc with rfl | rfl | rfl | rfl | rfl | rfl
  · have hs : jsw [(0, 44), (1, 54), (2, 64), (3, 74), (4, 83), (5, 93)] 120 ((0 : Int32)) = 44 := by decide
    simp only [x196_0, x196_1, x196_2, x196_5, x196_6, x196_44, x196_45, x196_48, x196_51, x196_52, x196_53, mzi, mInc, mne, mlt9, mrk, mI1, mI2, mI3, mI4, mL1, mL2, mL3, mL4, mQ1, mQ2, mQ3, mQ4, mT1, mcat0, mcat1, mcat2, mcat3, mcat4, mrf1, jK_v, jK_n, JA, mz1, if_true, if_false, ite_true, ite_false, eq_self, not_false_eq_true, Nat.zero_le, true_and, and_true, and_self, Nat.reduceMod, Nat.reduceAdd, Nat.reduceLeDiff, Nat.reduceEqDiff, Nat.reduceLT, hs, hw, hnd, ht, hj, lc, lj, h198, h199, h188]
    rfl
  · have hs : jsw [(0, 44), (1, 54), (2, 64), (3, 74), (4, 83), (5, 93)] 120 (iN 1) = 54 := by decide
    simp only [x196_0, x196_1, x196_2, x196_5, x196_6, x196_54, x196_55, x196_58, x196_61, x196_62, x196_63, mzi, mInc, mne, mlt9, mrk, mI1, mI2, mI3, mI4, mL1, mL2, mL3, mL4, mQ1, mQ2, mQ3, mQ4, mT1, mcat0, mcat1, mcat2, mcat3, mcat4, mrf1, jK_v, jK_n, JA, mz1, if_true, if_false, ite_true, ite_false, eq_self, not_false_eq_true, Nat.zero_le, true_and, and_true, and_self, Nat.reduceMod, Nat.reduceAdd, Nat.reduceLeDiff, Nat.reduceEqDiff, Nat.reduceLT, hs, hw, hnd, ht, hj, lc, lj, h198, h199, h188]
    rfl
  · have hs : jsw [(0, 44), (1, 54), (2, 64), (3, 74), (4, 83), (5, 93)] 120 (iN 2) = 64 := by decide
    simp only [x196_0, x196_1, x196_2, x196_5, x196_6, x196_64, x196_65, x196_68, x196_71, x196_72, x196_73, mzi, mInc, mne, mlt9, mrk, mI1, mI2, mI3, mI4, mL1, mL2, mL3, mL4, mQ1, mQ2, mQ3, mQ4, mT1, mcat0, mcat1, mcat2, mcat3, mcat4, mrf1, jK_v, jK_n, JA, mz1, if_true, if_false, ite_true, ite_false, eq_self, not_false_eq_true, Nat.zero_le, true_and, and_true, and_self, Nat.reduceMod, Nat.reduceAdd, Nat.reduceLeDiff, Nat.reduceEqDiff, Nat.reduceLT, hs, hw, hnd, ht, hj, lc, lj, h198, h199, h188]
    rfl
  · have hs : jsw [(0, 44), (1, 54), (2, 64), (3, 74), (4, 83), (5, 93)] 120 (iN 3) = 74 := by decide
    simp only [x196_0, x196_1, x196_2, x196_5, x196_6, x196_74, x196_75, x196_78, x196_79, x196_82, mzi, mInc, mne, mlt9, mrk, mI1, mI2, mI3, mI4, mL1, mL2, mL3, mL4, mQ1, mQ2, mQ3, mQ4, mT1, mcat0, mcat1, mcat2, mcat3, mcat4, mrf1, jK_v, jK_n, JA, mz1, if_true, if_false, ite_true, ite_false, eq_self, not_false_eq_true, Nat.zero_le, true_and, and_true, and_self, Nat.reduceMod, Nat.reduceAdd, Nat.reduceLeDiff, Nat.reduceEqDiff, Nat.reduceLT, hs, hw, hnd, ht, hj, lc, lj, h198, h199, h188]
    rfl
  · have hs : jsw [(0, 44), (1, 54), (2, 64), (3, 74), (4, 83), (5, 93)] 120 (iN 4) = 83 := by decide
    simp only [x196_0, x196_1, x196_2, x196_5, x196_6, x196_83, x196_84, x196_87, x196_90, x196_91, x196_92, mzi, mInc, mne, mlt9, mrk, mI1, mI2, mI3, mI4, mL1, mL2, mL3, mL4, mQ1, mQ2, mQ3, mQ4, mT1, mcat0, mcat1, mcat2, mcat3, mcat4, mrf1, jK_v, jK_n, JA, mz1, if_true, if_false, ite_true, ite_false, eq_self, not_false_eq_true, Nat.zero_le, true_and, and_true, and_self, Nat.reduceMod, Nat.reduceAdd, Nat.reduceLeDiff, Nat.reduceEqDiff, Nat.reduceLT, hs, hw, hnd, ht, hj, lc, lj, h198, h199, h188]
    rfl
  · have hs : jsw [(0, 44), (1, 54), (2, 64), (3, 74), (4, 83), (5, 93)] 120 (iN 5) = 93 := by decide
    rcases jbitz (kShutn μ n L K).1 (iN j) with hb | hb
    · simp only [x196_0, x196_1, x196_2, x196_5, x196_6, x196_93, x196_94, x196_97, x196_100, x196_101, x196_104, x196_107, x196_108, x196_111, x196_114, x196_115, x196_118, x196_119, mzi, mInc, mne, mlt9, mrk, mI1, mI2, mI3, mI4, mL1, mL2, mL3, mL4, mQ1, mQ2, mQ3, mQ4, mT1, mcat0, mcat1, mcat2, mcat3, mcat4, mrf1, jK_v, jK_n, JA, mz1, if_true, if_false, ite_true, ite_false, eq_self, not_false_eq_true, Nat.zero_le, true_and, and_true, and_self, Nat.reduceMod, Nat.reduceAdd, Nat.reduceLeDiff, Nat.reduceEqDiff, Nat.reduceLT, hs, hw, hnd, ht, hj, lc, lj, h198, h199, h188, hb]
      show Q (.inl (some (.int 0))) _ ↔ Q (.inl (some (.int (jbit (kShutn μ n L K).1 (iN j))))) _
      rw [hb]
      rfl
    · simp only [x196_0, x196_1, x196_2, x196_5, x196_6, x196_93, x196_94, x196_97, x196_100, x196_101, x196_104, x196_107, x196_108, x196_111, x196_114, x196_115, x196_118, x196_119, mzi, mInc, mne, mlt9, mrk, mI1, mI2, mI3, mI4, mL1, mL2, mL3, mL4, mQ1, mQ2, mQ3, mQ4, mT1, mcat0, mcat1, mcat2, mcat3, mcat4, mrf1, jK_v, jK_n, JA, mz1, if_true, if_false, ite_true, ite_false, eq_self, not_false_eq_true, Nat.zero_le, true_and, and_true, and_self, Nat.reduceMod, Nat.reduceAdd, Nat.reduceLeDiff, Nat.reduceEqDiff, Nat.reduceLT, hs, hw, hnd, ht, hj, lc, lj, h198, h199, h188, hb]
      show Q (.inl (some (.int 1))) _ ↔ Q (.inl (some (.int (jbit (kShutn μ n L K).1 (iN j))))) _
      rw [hb]
      rfl

theorem c_trunk_x1 (hW : jWd μ) (ht : jI μ 1731 2 = iN t) (h10 : t ≤ 10) (h : ¬ ∃ l, l < t ∧ x = iN l) : Ex (d + 2) 196 0 [some (.ref 0), some (.int x), some (.int y)] [] μ Q ↔ Q (.inr 2) (jthr μ) := by
  have hnd := fun (d : Nat) (x : Int32) (Q : jO → jM → Prop) => c_needT (d := d) (x := x) (Q := Q) hW
  have hj : jhas x (iN t) 10 = 0 := jhas_no h h10 (by decide)
  have hx : jhs 196 = [] := rfl
  simp only [x196_0, x196_1, x196_2, x196_5, x196_6, x196_44, x196_45, x196_48, x196_51, x196_52, x196_53, x196_54, x196_55, x196_58, x196_61, x196_62, x196_63, x196_64, x196_65, x196_68, x196_71, x196_72, x196_73, x196_74, x196_75, x196_78, x196_79, x196_82, x196_83, x196_84, x196_87, x196_90, x196_91, x196_92, x196_93, x196_94, x196_97, x196_100, x196_101, x196_104, x196_107, x196_108, x196_111, x196_114, x196_115, x196_118, x196_119, x196_120, mzi, mInc, mne, mlt9, mrk, mI1, mI2, mI3, mI4, mL1, mL2, mL3, mL4, mQ1, mQ2, mQ3, mQ4, mT1, mcat0, mcat1, mcat2, mcat3, mcat4, mrf1, jK_v, jK_n, JA, mz1, if_true, if_false, ite_true, ite_false, eq_self, not_false_eq_true, Nat.zero_le, true_and, and_true, and_self, Nat.reduceMod, Nat.reduceAdd, Nat.reduceLeDiff, Nat.reduceEqDiff, Nat.reduceLT, hnd, ht, hj, hx, jK_x]
theorem c_trunk_x2 (hW : jWd μ) (ht : jI μ 1731 2 = iN t) (h10 : t ≤ 10) (hl : j < t) (h : ¬ ∃ k, k < 6 ∧ x = iN k) : Ex (d + 2) 196 0 [some (.ref 0), some (.int (iN j)), some (.int x)] [] μ Q ↔ Q (.inr 2) (jthr μ) := by
  have hnd := fun (d : Nat) (x : Int32) (Q : jO → jM → Prop) => c_needT (d := d) (x := x) (Q := Q) hW
  have hj : jhas (iN j) (iN t) 10 = 1 := jhas_in hl h10 (by decide)
  have hs : jsw [(0, 44), (1, 54), (2, 64), (3, 74), (4, 83), (5, 93)] 120 x = 120 := by
    have ha : ∀ q ∈ [(0, 44), (1, 54), (2, 64), (3, 74), (4, 83), (5, 93)], ∃ k, k < 6 ∧ q.1 = iN k := by decide
    refine jsw_no fun q hq e => ?_
    obtain ⟨k, hk, he⟩ := ha q hq
    exact h ⟨k, hk, e.trans he⟩
  simp only [x196_0, x196_1, x196_2, x196_5, x196_6, x196_44, x196_45, x196_48, x196_51, x196_52, x196_53, x196_54, x196_55, x196_58, x196_61, x196_62, x196_63, x196_64, x196_65, x196_68, x196_71, x196_72, x196_73, x196_74, x196_75, x196_78, x196_79, x196_82, x196_83, x196_84, x196_87, x196_90, x196_91, x196_92, x196_93, x196_94, x196_97, x196_100, x196_101, x196_104, x196_107, x196_108, x196_111, x196_114, x196_115, x196_118, x196_119, x196_120, mzi, mInc, mne, mlt9, mrk, mI1, mI2, mI3, mI4, mL1, mL2, mL3, mL4, mQ1, mQ2, mQ3, mQ4, mT1, mcat0, mcat1, mcat2, mcat3, mcat4, mrf1, jK_v, jK_n, JA, mz1, if_true, if_false, ite_true, ite_false, eq_self, not_false_eq_true, Nat.zero_le, true_and, and_true, and_self, Nat.reduceMod, Nat.reduceAdd, Nat.reduceLeDiff, Nat.reduceEqDiff, Nat.reduceLT, hnd, ht, hj, hs]
theorem d_trunkT (hM : jMp μ p) (hn : jI μ (64 * p + 11) 2 = iN n) (h10 : n ≤ 10) (hT : jMt μ p nh T) (hl : j < 10) (hk : k < 6) : Ex (d + 6) 207 0 [some (.ref 4490), some (.int (iN j)), some (.int (iN k))] [] μ Q ↔ Q (.inl (some (.int ((kTrB μ p n nh T j).getD k 0)))) (kTrMB μ p n nh T j k) := by
  have hh := fun (d : Nat) (v : Int32) (Q : jO → jM → Prop) => d_helds (d := d) (v := v) (Q := Q) hM hn h10
  have h209 : ∀ (d : Nat) (Q : jO → jM → Prop), Ex (d + 5) 209 0 [some (.ref 5836), some (.int (iN j)), none] [] μ Q ↔ Q (.inl (some (.int (bif (kIsh (kEnvMs μ p n) (jI μ (64 * p + 594)) T (iN j) 0 nh (jI μ 6680)).1 then 1 else 0)))) (jsR μ 6680 (kIsh (kEnvMs μ p n) (jI μ (64 * p + 594)) T (iN j) 0 nh (jI μ 6680)).2) := fun d Q => by
    have e := d_shuts (d := d) (v := iN j) (g := jI μ 6680) (Q := Q) hM hn h10 hT
    rwa [jsR_id rfl] at e
  obtain ⟨hW, hp2, hpl, hq⟩ := hM
  have hw := hW
  unfold jWd at hw
  unfold jMq at hq
  have jp := JP p
  have jpm := JPm p
  have lc : (iN j).toNatClampNeg = j := iN_cl (by omega)
  have lj : jin (iN j) 10 = true := iN_in (by omega) (by omega)
  have hc : k = 0 ∨ k = 1 ∨ k = 2 ∨ k = 3 ∨ k = 4 ∨ k = 5 := by omega
  rcases hc with rfl | rfl | rfl | rfl | rfl | rfl
  · have hs : jsw [(0, 36), (1, 46), (2, 56), (3, 66), (4, 75)] 85 ((0 : Int32)) = 36 := by decide
    simp only [x207_0, x207_1, x207_36, x207_37, x207_40, x207_43, x207_44, x207_45, mzi, mInc, mne, mlt9, mrk, mI1, mI2, mI3, mI4, mL1, mL2, mL3, mL4, mQ1, mQ2, mQ3, mQ4, mT1, mcat0, mcat1, mcat2, mcat3, mcat4, mrf1, jK_v, jK_n, JA, mz1, if_true, if_false, ite_true, ite_false, eq_self, not_false_eq_true, Nat.zero_le, true_and, and_true, and_self, Nat.reduceMod, Nat.reduceAdd, Nat.reduceLeDiff, Nat.reduceEqDiff, Nat.reduceLT, hs, hw, hpl, hq, jp, jpm, lc, lj, hh, h209]
    rfl
  · have hs : jsw [(0, 36), (1, 46), (2, 56), (3, 66), (4, 75)] 85 (iN 1) = 46 := by decide
    simp only [x207_0, x207_1, x207_46, x207_47, x207_50, x207_53, x207_54, x207_55, mzi, mInc, mne, mlt9, mrk, mI1, mI2, mI3, mI4, mL1, mL2, mL3, mL4, mQ1, mQ2, mQ3, mQ4, mT1, mcat0, mcat1, mcat2, mcat3, mcat4, mrf1, jK_v, jK_n, JA, mz1, if_true, if_false, ite_true, ite_false, eq_self, not_false_eq_true, Nat.zero_le, true_and, and_true, and_self, Nat.reduceMod, Nat.reduceAdd, Nat.reduceLeDiff, Nat.reduceEqDiff, Nat.reduceLT, hs, hw, hpl, hq, jp, jpm, lc, lj, hh, h209]
    rfl
  · have hs : jsw [(0, 36), (1, 46), (2, 56), (3, 66), (4, 75)] 85 (iN 2) = 56 := by decide
    simp only [x207_0, x207_1, x207_56, x207_57, x207_60, x207_63, x207_64, x207_65, mzi, mInc, mne, mlt9, mrk, mI1, mI2, mI3, mI4, mL1, mL2, mL3, mL4, mQ1, mQ2, mQ3, mQ4, mT1, mcat0, mcat1, mcat2, mcat3, mcat4, mrf1, jK_v, jK_n, JA, mz1, if_true, if_false, ite_true, ite_false, eq_self, not_false_eq_true, Nat.zero_le, true_and, and_true, and_self, Nat.reduceMod, Nat.reduceAdd, Nat.reduceLeDiff, Nat.reduceEqDiff, Nat.reduceLT, hs, hw, hpl, hq, jp, jpm, lc, lj, hh, h209]
    rfl
  · have hs : jsw [(0, 36), (1, 46), (2, 56), (3, 66), (4, 75)] 85 (iN 3) = 66 := by decide
    simp only [x207_0, x207_1, x207_66, x207_67, x207_70, x207_71, x207_74, mzi, mInc, mne, mlt9, mrk, mI1, mI2, mI3, mI4, mL1, mL2, mL3, mL4, mQ1, mQ2, mQ3, mQ4, mT1, mcat0, mcat1, mcat2, mcat3, mcat4, mrf1, jK_v, jK_n, JA, mz1, if_true, if_false, ite_true, ite_false, eq_self, not_false_eq_true, Nat.zero_le, true_and, and_true, and_self, Nat.reduceMod, Nat.reduceAdd, Nat.reduceLeDiff, Nat.reduceEqDiff, Nat.reduceLT, hs, hw, hpl, hq, jp, jpm, lc, lj, hh, h209]
    rfl
  · have hs : jsw [(0, 36), (1, 46), (2, 56), (3, 66), (4, 75)] 85 (iN 4) = 75 := by decide
    simp only [x207_0, x207_1, x207_75, x207_76, x207_79, x207_82, x207_83, x207_84, mzi, mInc, mne, mlt9, mrk, mI1, mI2, mI3, mI4, mL1, mL2, mL3, mL4, mQ1, mQ2, mQ3, mQ4, mT1, mcat0, mcat1, mcat2, mcat3, mcat4, mrf1, jK_v, jK_n, JA, mz1, if_true, if_false, ite_true, ite_false, eq_self, not_false_eq_true, Nat.zero_le, true_and, and_true, and_self, Nat.reduceMod, Nat.reduceAdd, Nat.reduceLeDiff, Nat.reduceEqDiff, Nat.reduceLT, hs, hw, hpl, hq, jp, jpm, lc, lj, hh, h209]
    rfl
  · have hs : jsw [(0, 36), (1, 46), (2, 56), (3, 66), (4, 75)] 85 (iN 5) = 85 := by decide
    cases hb : (kIsh (kEnvMs μ p n) (jI μ (64 * p + 594)) T (iN j) 0 nh (jI μ 6680)).1
    · simp only [x207_0, x207_1, x207_85, x207_86, x207_89, x207_90, x207_93, x207_96, x207_97, x207_100, x207_101, mzi, mInc, mne, mlt9, mrk, mI1, mI2, mI3, mI4, mL1, mL2, mL3, mL4, mQ1, mQ2, mQ3, mQ4, mT1, mcat0, mcat1, mcat2, mcat3, mcat4, mrf1, jK_v, jK_n, JA, mz1, if_true, if_false, ite_true, ite_false, eq_self, not_false_eq_true, Nat.zero_le, true_and, and_true, and_self, Nat.reduceMod, Nat.reduceAdd, Nat.reduceLeDiff, Nat.reduceEqDiff, Nat.reduceLT, hs, hw, hpl, hq, jp, jpm, lc, lj, hh, h209, hb, cond_false, cond_true]
      show Q (.inl (some (.int 0))) _ ↔ Q (.inl (some (.int (bif (kIsh (kEnvMs μ p n) (jI μ (64 * p + 594)) T (iN j) 0 nh (jI μ 6680)).1 then 1 else 0)))) _
      rw [hb]
      rfl
    · simp only [x207_0, x207_1, x207_85, x207_86, x207_89, x207_90, x207_93, x207_96, x207_97, x207_100, x207_101, mzi, mInc, mne, mlt9, mrk, mI1, mI2, mI3, mI4, mL1, mL2, mL3, mL4, mQ1, mQ2, mQ3, mQ4, mT1, mcat0, mcat1, mcat2, mcat3, mcat4, mrf1, jK_v, jK_n, JA, mz1, if_true, if_false, ite_true, ite_false, eq_self, not_false_eq_true, Nat.zero_le, true_and, and_true, and_self, Nat.reduceMod, Nat.reduceAdd, Nat.reduceLeDiff, Nat.reduceEqDiff, Nat.reduceLT, hs, hw, hpl, hq, jp, jpm, lc, lj, hh, h209, hb, cond_false, cond_true]
      show Q (.inl (some (.int 1))) _ ↔ Q (.inl (some (.int (bif (kIsh (kEnvMs μ p n) (jI μ (64 * p + 594)) T (iN j) 0 nh (jI μ 6680)).1 then 1 else 0)))) _
      rw [hb]
      rfl

theorem d_trunk (hM : jMp μ p) (ht : jI μ (64 * p + 11) 6 = iN t) (ht10 : t ≤ 10) (hn : jI μ (64 * p + 11) 2 = iN n) (h10 : n ≤ 10) (hT : jMt μ p nh T) (hl : j < t) (hk : k < 6) : Ex (d + 7) 205 0 [some (.ref 4490), some (.int (iN j)), some (.int (iN k))] [] μ Q ↔ Q (.inl (some (.int ((kTrB (jsI μ 4490 0 0) p n nh T j).getD k 0)))) (kTrMB (jsI μ 4490 0 0) p n nh T j k) := by
  have hf := hM.2.1
  have hM' : jMp (jsI μ 4490 0 0) p := by rw [jMp_I]; exact hM
  have ht' : jI (jsI μ 4490 0 0) (64 * p + 11) 6 = iN t := by rw [mI2 (by omega)]; exact ht
  have hTt : jMt (jsI μ 4490 0 0) p nh T := by
    unfold jMt at hT ⊢
    rw [mI2 (by omega), mI2 (by omega), mI2 (by omega), mI2 (by omega)]
    exact hT
  have hTT := fun (d : Nat) (Q : jO → jM → Prop) => d_trunkT (d := d) (j := j) (k := k) (n := n) (nh := nh) (T := T) (μ := jsI μ 4490 0 0) (Q := Q) hM' (by rw [mI2 (by omega)]; exact hn) h10 hTt (by omega) hk
  have hL := fun (d : Nat) (x : Int32) (Q : jO → jM → Prop) => d_isT (d := d) (x := x) (Q := Q) hM' ht' ht10
  have hin := fun (d : Nat) (μ : jM) (v lo hi : Int32) (Q : jO → jM → Prop) => d_isIn (d := d) (μ := μ) (v := v) (lo := lo) (hi := hi) (Q := Q)
  have hj : jhas (iN j) (iN t) 10 = 1 := jhas_in hl ht10 (by decide)
  have hj2 : jhas (iN k) (iN 6) (iN 6) = 1 := jhas_in hk (by decide) (by decide)
  simp only [x205_0, x205_1, x205_2, x205_5, x205_6, x205_7, x205_10, x205_13, x205_14, x205_15, x205_16, x205_19, x205_22, x205_23, x205_24, x205_25, x205_28, x205_31, x205_32, x205_33, x205_36, mzi, mInc, mne, mlt9, mrk, mI1, mI2, mI3, mI4, mL1, mL2, mL3, mL4, mQ1, mQ2, mQ3, mQ4, mT1, mcat0, mcat1, mcat2, mcat3, mcat4, mrf1, jK_v, jK_n, JA, mz1, if_true, if_false, ite_true, ite_false, eq_self, not_false_eq_true, Nat.zero_le, true_and, and_true, and_self, Nat.reduceMod, Nat.reduceAdd, Nat.reduceLeDiff, Nat.reduceEqDiff, Nat.reduceLT, hL, hj, hin, isIn5, hj2, hTT]
theorem d_trunk_x (hM : jMp μ p) (ht : jI μ (64 * p + 11) 6 = iN t) (ht10 : t ≤ 10) (h : ¬ ((∃ l, l < t ∧ x = iN l) ∧ ∃ k, k < 6 ∧ y = iN k)) : Ex (d + 2) 205 0 [some (.ref 4490), some (.int x), some (.int y)] [] μ Q ↔ Q (.inl (some (.int 0))) (jsI (jsI μ 4490 0 0) 4490 0 1) := by
  have hf := hM.2.1
  have hM' : jMp (jsI μ 4490 0 0) p := by rw [jMp_I]; exact hM
  have ht' : jI (jsI μ 4490 0 0) (64 * p + 11) 6 = iN t := by rw [mI2 (by omega)]; exact ht
  have hL := fun (d : Nat) (x : Int32) (Q : jO → jM → Prop) => d_isT (d := d) (x := x) (Q := Q) hM' ht' ht10
  have hin := fun (d : Nat) (μ : jM) (v lo hi : Int32) (Q : jO → jM → Prop) => d_isIn (d := d) (μ := μ) (v := v) (lo := lo) (hi := hi) (Q := Q)
  have hno := fun (d : Nat) (μ : jM) (k : Int32) (Q : jO → jM → Prop) => d_no (d := d) (μ := μ) (k := k) (Q := Q)
  by_cases h1 : ∃ l, l < t ∧ x = iN l
  · have hj2 : jhas y (iN 6) (iN 6) = 0 := jhas_no (fun q => h ⟨h1, q⟩) (by decide) (by decide)
    obtain ⟨l, hl, rfl⟩ := h1
    have hj : jhas (iN l) (iN t) 10 = 1 := jhas_in hl ht10 (by decide)
    simp only [x205_0, x205_1, x205_2, x205_5, x205_6, x205_7, x205_10, x205_13, x205_14, x205_15, x205_16, x205_19, x205_22, x205_23, x205_24, x205_25, x205_28, x205_31, x205_32, x205_33, x205_36, mzi, mInc, mne, mlt9, mrk, mI1, mI2, mI3, mI4, mL1, mL2, mL3, mL4, mQ1, mQ2, mQ3, mQ4, mT1, mcat0, mcat1, mcat2, mcat3, mcat4, mrf1, jK_v, jK_n, JA, mz1, if_true, if_false, ite_true, ite_false, eq_self, not_false_eq_true, Nat.zero_le, true_and, and_true, and_self, Nat.reduceMod, Nat.reduceAdd, Nat.reduceLeDiff, Nat.reduceEqDiff, Nat.reduceLT, hL, hj, hin, isIn5, hj2, hno]
  · have hj : jhas x (iN t) 10 = 0 := jhas_no h1 ht10 (by decide)
    simp only [x205_0, x205_1, x205_2, x205_5, x205_6, x205_7, x205_10, x205_13, x205_14, x205_15, x205_16, x205_19, x205_22, x205_23, x205_24, x205_25, x205_28, x205_31, x205_32, x205_33, x205_36, mzi, mInc, mne, mlt9, mrk, mI1, mI2, mI3, mI4, mL1, mL2, mL3, mL4, mQ1, mQ2, mQ3, mQ4, mT1, mcat0, mcat1, mcat2, mcat3, mcat4, mrf1, jK_v, jK_n, JA, mz1, if_true, if_false, ite_true, ite_false, eq_self, not_false_eq_true, Nat.zero_le, true_and, and_true, and_self, Nat.reduceMod, Nat.reduceAdd, Nat.reduceLeDiff, Nat.reduceEqDiff, Nat.reduceLT, hL, hj, hno]
theorem jSc_tb : jSc ν (kTrMB ν p n nh T j k) := by
  unfold kTrMB
  split
  · exact jSc_R (by omega)
  · exact jSc_r
theorem jSc_ta : jSc μ (kTrMA μ n L K k) := by
  unfold kTrMA
  split
  · exact jSc_s
  · exact jSc_r
theorem kTrMA_q : jA (kTrMA μ n L K k) = jA μ ∧ jX (kTrMA μ n L K k) = jX μ ∧ jL (kTrMA μ n L K k) = jL μ := by
  unfold kTrMA
  split
  · exact ⟨mR3.2.2.1, mR3.2.2.2, mR3.1⟩
  · exact ⟨rfl, rfl, rfl⟩
theorem kTrMB_q : jA (kTrMB μ p n nh T j k) = jA μ ∧ jX (kTrMB μ p n nh T j k) = jX μ ∧ jL (kTrMB μ p n nh T j k) = jL μ ∧ jI (kTrMB μ p n nh T j k) 4490 = jI μ 4490 := by
  unfold kTrMB
  split
  · exact ⟨mR3.2.2.1, mR3.2.2.2, mR3.1, mR2 (by decide)⟩
  · exact ⟨rfl, rfl, rfl, rfl⟩
theorem op_trunk (x y : Int32) (hJ : jJp μ p m n t L K nh T w mk sz) : jPair μ 195 205 [some (.ref 0), some (.int x), some (.int y), some (.ref 7647), none] [some (.ref 4490), some (.int x), some (.int y)] := by
  have hJ' := hJ
  obtain ⟨h09, ⟨z1, z2⟩, h120, hR, hX, hp⟩ := hJ'
  have hW : jWd μ := hR.1.1
  obtain ⟨P1, P2, P3, P4, P5, P6, P7, _⟩ := hR.1
  by_cases h1 : ∃ l, l < t ∧ x = iN l
  · by_cases h2 : ∃ k, k < 6 ∧ y = iN k
    · obtain ⟨j, hl, rfl⟩ := h1
      obtain ⟨k, hk, rfl⟩ := h2
      have eA := fun (Q : jO → jM → Prop) => c_trunk (d := 48 + 94) (Q := Q) hR.1 hl hk
      generalize hv : (kTrA μ n L K j).getD k 0 = v at eA
      have s1 : jSc μ (jsL (kTrMA μ n L K k) 7647 0 v.toInt64) := jSc_t jSc_ta jSc_L
      have s2 : jSc μ (jsI (jsL (kTrMA μ n L K k) 7647 0 v.toInt64) 4490 0 0) := jSc_t s1 jSc_0
      obtain ⟨m1, m2⟩ := jJp_mix s1 hJ
      obtain ⟨m3, m4⟩ := jJp_mix s2 hJ
      have eB := fun (Q : jO → jM → Prop) => d_trunk (d := 48 + 94) (Q := Q) (n := n) (t := t) m1.2.1 m1.2.2.2.2.1 P7 m1.2.2.2.1 P5 m1.2.2.2.2.2.1 hl hk
      rw [← kTr_eq m3 m4 hl, hv] at eB
      have q1 := kTrMA_q (μ := μ) (n := n) (L := L) (K := K) (k := k)
      have q2 := kTrMB_q (μ := jsI (jsL (kTrMA μ n L K k) 7647 0 v.toInt64) 4490 0 0) (p := p) (n := n) (nh := nh) (T := T) (j := j) (k := k)
      refine pair_0 hJ v jSc_ta q1.1 q1.2.1 (fun Q => l_trunk_v (d := 48 + 100) eA) jSc_tb ?_ ?_ ?_ ?_ eB
      · rw [q2.2.2.2, mI1, if_pos rfl]
      · rw [q2.2.2.1, mI3, mL1, if_pos rfl]
      · unfold jnc
        rw [q2.1, q2.2.1, mI5, mL5, mI6, mL6, q1.1, q1.2.1]
        omega
      · rw [jns_e (μ := μ) (by rw [q2.1, mI5, mL5, q1.1]) (by rw [q2.2.1, mI6, mL6, q1.2.1])]
        omega
    · obtain ⟨l, hl, rfl⟩ := h1
      have eA := fun (Q : jO → jM → Prop) => c_trunk_x2 (d := 48 + 98) (μ := μ) (Q := Q) hW P6 P7 hl h2
      have eB := fun (Q : jO → jM → Prop) => d_trunk_x (d := 48 + 99) (μ := jthr μ) (x := iN l) (y := y) (Q := Q) (jMp_c rfl hR.2.1) hR.2.2.2.2.1 P7 (fun q => h2 q.2)
      exact pair_no hJ (k := 1) (by decide) (by decide) (fun Q => l_trunk_2 (d := 48 + 100) eA) eB
  · have eA := fun (Q : jO → jM → Prop) => c_trunk_x1 (d := 48 + 98) (μ := μ) (y := y) (Q := Q) hW P6 P7 h1
    have eB := fun (Q : jO → jM → Prop) => d_trunk_x (d := 48 + 99) (μ := jthr μ) (x := x) (y := y) (Q := Q) (jMp_c rfl hR.2.1) hR.2.2.2.2.1 P7 (fun q => h1 q.1)
    exact pair_no hJ (k := 1) (by decide) (by decide) (fun Q => l_trunk_2 (d := 48 + 100) eA) eB
end TRUNKS
section WIRES
variable {d p m n t L nh w mk sz r l f k j q : Nat} {μ ν μ2 A B : jM} {Q : jO → jM → Prop} {K : Nat → Nat} {T : Nat → List (Nat × Int32)} {x y : Int32} {pn pd : Nat → Int32}
def kWiC (μ : jM) (l : Nat) : Int32 := if jI μ 3024 l = 0 then jI μ 2704 l else iN l
def kWiA (μ : jM) (l k : Nat) : Int32 := if kWiC μ l = -1 then 0 else [jI μ 3024 (kWiC μ l).toNatClampNeg, jI μ 3152 (kWiC μ l).toNatClampNeg, jI μ 3216 (kWiC μ l).toNatClampNeg, jI μ 3280 (kWiC μ l).toNatClampNeg].getD k 0
def kWiD (μ : jM) (l : Nat) : Int32 := if jI μ 6288 l = 1 then iN l else jI μ 6224 l
def kWiB (μ : jM) (l k : Nat) : Int32 := if jI μ 6224 l = -1 then 0 else [jI μ 6416 (kWiD μ l).toNatClampNeg, jI μ 6480 (kWiD μ l).toNatClampNeg, jI μ 6544 (kWiD μ l).toNatClampNeg, jI μ 6608 (kWiD μ l).toNatClampNeg].getD k 0
theorem kWi_ok (h : jRXn A B n w mk pn pd) (hn : n ≤ 10) (hl : l < n) : (kWiC A l = -1 ∨ ∃ q, q < n ∧ kWiC A l = iN q) ∧ (jI B 6224 l = -1 ∨ ((∃ q, q < n ∧ kWiD B l = iN q) ∧ ¬ jI B 6224 l = -1)) ∧ kWiA A l = kWiB B l := by
  have hE := h.2.2.2.2.2.2.2.1
  obtain ⟨e1, e2, e3, e4, e5, e6, e7, e8⟩ := hE l hl
  rcases h.2.2.2.2.2.2.2.2.2.1 l hl with ⟨a1, a2, _⟩ | ⟨j, a1, a2, a3, a4, a5⟩
  · have c : kWiC A l = -1 := by unfold kWiC; rw [if_pos a2, a1]
    refine ⟨Or.inl c, Or.inl (e5.trans a1), ?_⟩
    funext k
    unfold kWiA kWiB
    rw [if_pos c, if_pos (e5.trans a1)]
  · have nn : ∀ q, q < n → ¬ iN q = -1 := fun q hq g => iN_nn (k := q) (by omega) (by rw [g]; decide)
    have ho : ¬ jI B 6224 l = -1 := by rw [e5, a3]; exact nn j a1
    have hq : ∃ q, q < n ∧ kWiC A l = iN q ∧ kWiD B l = iN q ∧ ¬ jI A 3024 q = 0 := by
      unfold kWiC kWiD
      rcases a5 with ⟨b1, b2, _⟩ | ⟨b1, b2, _⟩
      · exact ⟨l, hl, if_neg b1, by rw [e6, if_neg b1, if_pos rfl], b1⟩
      · exact ⟨j, a1, by rw [if_pos b1, a3], by rw [e6, if_pos b1, if_neg (by decide), e5, a3], b2⟩
    obtain ⟨q, q1, q2, q3, q4⟩ := hq
    refine ⟨Or.inr ⟨q, q1, q2⟩, Or.inr ⟨⟨q, q1, q3⟩, ho⟩, ?_⟩
    obtain ⟨_, _, _, _, _, _, _, g8⟩ := hE q q1
    obtain ⟨g1, g2, g3, g4, g5⟩ := g8 q4
    funext k
    unfold kWiA kWiB
    rw [if_neg ho, q2, q3, if_neg (nn q q1), iN_cl (by omega), g1, g3, g4, g5]
theorem c_wire (hW : jWd μ) (hn : jI μ 1731 1 = iN n) (h10 : n ≤ 10) (hl : l < n) (hk : k < 4) (hC : kWiC μ l = -1 ∨ ∃ q, q < n ∧ kWiC μ l = iN q) : Ex (d + 2) 215 0 [some (.ref 0), some (.int (iN l)), some (.int (iN k)), none] [] μ Q ↔ Q (.inl (some (.int (kWiA μ l k)))) μ := by
  have hw := hW
  unfold jWd at hw
  have hnd := fun (d : Nat) (x : Int32) (Q : jO → jM → Prop) => c_needL (d := d) (x := x) (Q := Q) hW
  have hj : jhas (iN l) (iN n) 10 = 1 := jhas_in hl h10 (by decide)
  have hca : ∀ (d : Nat) (Q : jO → jM → Prop), Ex (d + 1) 216 0 [some (.ref 2567), some (.int (iN l))] [] μ Q ↔ Q (.inl (some (.int (kWiC μ l)))) μ := fun d Q => c_callern (d := d) (l := l) (Q := Q) hW hn h10 hl
  have h84 := fun (d : Nat) (μ : jM) (l : Int32) (Q : jO → jM → Prop) => c_hasLine (d := d) (μ := μ) (x := 1731) (l := l) (Q := Q) (by decide)
  have hq1 : ¬ iN k < 0 := iN_nn (by omega)
  have hq2 : ¬ (3 : Int32) < iN k := by
    rw [show (3 : Int32) = iN 3 from rfl, iN_lt (by decide) (by omega)]
    omega
  rcases hC with hc | ⟨q, hq, hc⟩
  · have hj2 : jhas (-1) (iN n) 10 = 0 := if_pos (by decide)
    have hv : kWiA μ l k = 0 := if_pos hc
    rw [hv]
    simp only [x215_0, x215_1, x215_2, x215_5, x215_6, x215_9, x215_10, x215_11, x215_14, x215_24, x215_25, x215_28, x215_29, x215_32a, x215_32b, x215_32c, x215_33, x215_34, x215_37, x215_38, x215_41, x215_44, x215_45, x215_46, x215_47, x215_72, x215_73, x215_76, x215_79, x215_80, x215_81, x215_82, x215_83, x215_86, x215_89, x215_90, x215_91, x215_92, x215_93, x215_96, x215_99, x215_100, x215_101, x215_102, x215_103, x215_106, x215_109, x215_110, x215_111, mzi, mInc, mne, mlt9, mrk, mI1, mI2, mI3, mI4, mL1, mL2, mL3, mL4, mQ1, mQ2, mQ3, mQ4, mT1, mcat0, mcat1, mcat2, mcat3, mcat4, mrf1, jK_v, jK_n, JA, mz1, if_true, if_false, ite_true, ite_false, eq_self, not_false_eq_true, Nat.zero_le, true_and, and_true, and_self, Nat.reduceMod, Nat.reduceAdd, Nat.reduceLeDiff, Nat.reduceEqDiff, Nat.reduceLT, hw, hnd, hn, hj, hca, hc, hj2, h84, hq1, hq2]
  · have hj2 : jhas (iN q) (iN n) 10 = 1 := jhas_in hq h10 (by decide)
    have lc : (iN q).toNatClampNeg = q := iN_cl (by omega)
    have lj : jin (iN q) 10 = true := iN_in (by omega) (by omega)
    have h30 : ¬ (3 : Int32) < 0 := by decide
    have nn : ¬ iN q = -1 := fun g => iN_nn (k := q) (by omega) (by rw [g]; decide)
    have hv : kWiA μ l k = [jI μ 3024 q, jI μ 3152 q, jI μ 3216 q, jI μ 3280 q].getD k 0 := by
      unfold kWiA
      rw [hc, if_neg nn, lc]
    rw [hv]
    have hcc : k = 0 ∨ k = 1 ∨ k = 2 ∨ k = 3 := by omega
    rcases hcc with rfl | rfl | rfl | rfl
    · have hs : jsw [(0, 72), (1, 82), (2, 92)] 102 ((0 : Int32)) = 72 := by decide
      simp only [x215_0, x215_1, x215_2, x215_5, x215_6, x215_9, x215_10, x215_11, x215_14, x215_24, x215_25, x215_28, x215_29, x215_32a, x215_32b, x215_32c, x215_33, x215_34, x215_37, x215_38, x215_41, x215_44, x215_45, x215_46, x215_47, x215_72, x215_73, x215_76, x215_79, x215_80, x215_81, mzi, mInc, mne, mlt9, mrk, mI1, mI2, mI3, mI4, mL1, mL2, mL3, mL4, mQ1, mQ2, mQ3, mQ4, mT1, mcat0, mcat1, mcat2, mcat3, mcat4, mrf1, jK_v, jK_n, JA, mz1, if_true, if_false, ite_true, ite_false, eq_self, not_false_eq_true, Nat.zero_le, true_and, and_true, and_self, Nat.reduceMod, Nat.reduceAdd, Nat.reduceLeDiff, Nat.reduceEqDiff, Nat.reduceLT, hs, hw, hnd, hn, hj, hca, hc, hj2, lc, lj, h84, hq1, hq2, h30]
      rfl
    · have hs : jsw [(0, 72), (1, 82), (2, 92)] 102 (iN 1) = 82 := by decide
      simp only [x215_0, x215_1, x215_2, x215_5, x215_6, x215_9, x215_10, x215_11, x215_14, x215_24, x215_25, x215_28, x215_29, x215_32a, x215_32b, x215_32c, x215_33, x215_34, x215_37, x215_38, x215_41, x215_44, x215_45, x215_46, x215_47, x215_82, x215_83, x215_86, x215_89, x215_90, x215_91, mzi, mInc, mne, mlt9, mrk, mI1, mI2, mI3, mI4, mL1, mL2, mL3, mL4, mQ1, mQ2, mQ3, mQ4, mT1, mcat0, mcat1, mcat2, mcat3, mcat4, mrf1, jK_v, jK_n, JA, mz1, if_true, if_false, ite_true, ite_false, eq_self, not_false_eq_true, Nat.zero_le, true_and, and_true, and_self, Nat.reduceMod, Nat.reduceAdd, Nat.reduceLeDiff, Nat.reduceEqDiff, Nat.reduceLT, hs, hw, hnd, hn, hj, hca, hc, hj2, lc, lj, h84, hq1, hq2, h30]
      rfl
    · have hs : jsw [(0, 72), (1, 82), (2, 92)] 102 (iN 2) = 92 := by decide
      simp only [x215_0, x215_1, x215_2, x215_5, x215_6, x215_9, x215_10, x215_11, x215_14, x215_24, x215_25, x215_28, x215_29, x215_32a, x215_32b, x215_32c, x215_33, x215_34, x215_37, x215_38, x215_41, x215_44, x215_45, x215_46, x215_47, x215_92, x215_93, x215_96, x215_99, x215_100, x215_101, mzi, mInc, mne, mlt9, mrk, mI1, mI2, mI3, mI4, mL1, mL2, mL3, mL4, mQ1, mQ2, mQ3, mQ4, mT1, mcat0, mcat1, mcat2, mcat3, mcat4, mrf1, jK_v, jK_n, JA, mz1, if_true, if_false, ite_true, ite_false, eq_self, not_false_eq_true, Nat.zero_le, true_and, and_true, and_self, Nat.reduceMod, Nat.reduceAdd, Nat.reduceLeDiff, Nat.reduceEqDiff, Nat.reduceLT, hs, hw, hnd, hn, hj, hca, hc, hj2, lc, lj, h84, hq1, hq2, h30]
      rfl
    · have hs : jsw [(0, 72), (1, 82), (2, 92)] 102 (iN 3) = 102 := by decide
      simp only [x215_0, x215_1, x215_2, x215_5, x215_6, x215_9, x215_10, x215_11, x215_14, x215_24, x215_25, x215_28, x215_29, x215_32a, x215_32b, x215_32c, x215_33, x215_34, x215_37, x215_38, x215_41, x215_44, x215_45, x215_46, x215_47, x215_102, x215_103, x215_106, x215_109, x215_110, x215_111, mzi, mInc, mne, mlt9, mrk, mI1, mI2, mI3, mI4, mL1, mL2, mL3, mL4, mQ1, mQ2, mQ3, mQ4, mT1, mcat0, mcat1, mcat2, mcat3, mcat4, mrf1, jK_v, jK_n, JA, mz1, if_true, if_false, ite_true, ite_false, eq_self, not_false_eq_true, Nat.zero_le, true_and, and_true, and_self, Nat.reduceMod, Nat.reduceAdd, Nat.reduceLeDiff, Nat.reduceEqDiff, Nat.reduceLT, hs, hw, hnd, hn, hj, hca, hc, hj2, lc, lj, h84, hq1, hq2, h30]
      rfl

theorem c_wire_x1 (hW : jWd μ) (hn : jI μ 1731 1 = iN n) (h10 : n ≤ 10) (h : ¬ ∃ l, l < n ∧ x = iN l) : Ex (d + 2) 215 0 [some (.ref 0), some (.int x), some (.int y), none] [] μ Q ↔ Q (.inr 2) (jthr μ) := by
  have hnd := fun (d : Nat) (x : Int32) (Q : jO → jM → Prop) => c_needL (d := d) (x := x) (Q := Q) hW
  have hj : jhas x (iN n) 10 = 0 := jhas_no h h10 (by decide)
  have hx : jhs 215 = [] := rfl
  simp only [x215_0, x215_1, x215_2, x215_5, x215_6, x215_9, x215_10, x215_11, x215_14, x215_24, x215_25, x215_28, x215_29, x215_32a, x215_32b, x215_32c, x215_33, x215_34, x215_37, x215_38, x215_41, x215_44, x215_45, x215_46, x215_47, x215_72, x215_73, x215_76, x215_79, x215_80, x215_81, x215_82, x215_83, x215_86, x215_89, x215_90, x215_91, x215_92, x215_93, x215_96, x215_99, x215_100, x215_101, x215_102, x215_103, x215_106, x215_109, x215_110, x215_111, mzi, mInc, mne, mlt9, mrk, mI1, mI2, mI3, mI4, mL1, mL2, mL3, mL4, mQ1, mQ2, mQ3, mQ4, mT1, mcat0, mcat1, mcat2, mcat3, mcat4, mrf1, jK_v, jK_n, JA, mz1, if_true, if_false, ite_true, ite_false, eq_self, not_false_eq_true, Nat.zero_le, true_and, and_true, and_self, Nat.reduceMod, Nat.reduceAdd, Nat.reduceLeDiff, Nat.reduceEqDiff, Nat.reduceLT, hnd, hn, hj, hx, jK_x]
theorem c_wire_x2 (hW : jWd μ) (hn : jI μ 1731 1 = iN n) (h10 : n ≤ 10) (hl : l < n) (h : ¬ ∃ k, k < 4 ∧ x = iN k) : Ex (d + 2) 215 0 [some (.ref 0), some (.int (iN l)), some (.int x), none] [] μ Q ↔ Q (.inr 2) (jthr μ) := by
  have hnd := fun (d : Nat) (x : Int32) (Q : jO → jM → Prop) => c_needL (d := d) (x := x) (Q := Q) hW
  have hj : jhas (iN l) (iN n) 10 = 1 := jhas_in hl h10 (by decide)
  by_cases h0 : x < 0
  · simp only [x215_0, x215_1, x215_2, x215_5, x215_6, x215_9, x215_10, x215_11, x215_14, x215_24, x215_25, x215_28, x215_29, x215_32a, x215_32b, x215_32c, x215_33, x215_34, x215_37, x215_38, x215_41, x215_44, x215_45, x215_46, x215_47, x215_72, x215_73, x215_76, x215_79, x215_80, x215_81, x215_82, x215_83, x215_86, x215_89, x215_90, x215_91, x215_92, x215_93, x215_96, x215_99, x215_100, x215_101, x215_102, x215_103, x215_106, x215_109, x215_110, x215_111, mzi, mInc, mne, mlt9, mrk, mI1, mI2, mI3, mI4, mL1, mL2, mL3, mL4, mQ1, mQ2, mQ3, mQ4, mT1, mcat0, mcat1, mcat2, mcat3, mcat4, mrf1, jK_v, jK_n, JA, mz1, if_true, if_false, ite_true, ite_false, eq_self, not_false_eq_true, Nat.zero_le, true_and, and_true, and_self, Nat.reduceMod, Nat.reduceAdd, Nat.reduceLeDiff, Nat.reduceEqDiff, Nat.reduceLT, hnd, hn, hj, h0]
  · have h3 : (3 : Int32) < x := by
      obtain ⟨k, hk, rfl⟩ := iN_pos h0
      rw [show (3 : Int32) = iN 3 from rfl, iN_lt (by decide) hk]
      exact Nat.lt_of_not_le fun g => h ⟨k, by omega, rfl⟩
    simp only [x215_0, x215_1, x215_2, x215_5, x215_6, x215_9, x215_10, x215_11, x215_14, x215_24, x215_25, x215_28, x215_29, x215_32a, x215_32b, x215_32c, x215_33, x215_34, x215_37, x215_38, x215_41, x215_44, x215_45, x215_46, x215_47, x215_72, x215_73, x215_76, x215_79, x215_80, x215_81, x215_82, x215_83, x215_86, x215_89, x215_90, x215_91, x215_92, x215_93, x215_96, x215_99, x215_100, x215_101, x215_102, x215_103, x215_106, x215_109, x215_110, x215_111, mzi, mInc, mne, mlt9, mrk, mI1, mI2, mI3, mI4, mL1, mL2, mL3, mL4, mQ1, mQ2, mQ3, mQ4, mT1, mcat0, mcat1, mcat2, mcat3, mcat4, mrf1, jK_v, jK_n, JA, mz1, if_true, if_false, ite_true, ite_false, eq_self, not_false_eq_true, Nat.zero_le, true_and, and_true, and_self, Nat.reduceMod, Nat.reduceAdd, Nat.reduceLeDiff, Nat.reduceEqDiff, Nat.reduceLT, hnd, hn, hj, h0, h3]
theorem d_wireT (hW : jWd μ) (hl : l < 10) (hk : k < 4) (hC : jI μ 6224 l = -1 ∨ ((∃ q, q < 10 ∧ kWiD μ l = iN q) ∧ ¬ jI μ 6224 l = -1)) : Ex d 218 0 [some (.ref 4490), some (.int (iN l)), some (.int (iN k)), none] [] μ Q ↔ Q (.inl (some (.int (kWiB μ l k)))) μ := by
  have hw := hW
  unfold jWd at hw
  have lc : (iN l).toNatClampNeg = l := iN_cl (by omega)
  have lj : jin (iN l) 10 = true := iN_in (by omega) (by omega)
  have q0 : ¬ iN 2 = 0 ∧ ¬ iN 3 = 0 ∧ ¬ iN 1 = 0 ∧ ¬ iN 2 = 1 ∧ ¬ iN 3 = 1 ∧ ¬ iN 3 = 2 ∧ iN 1 = 1 ∧ iN 2 = 2 ∧ ¬ (2 : Int32) = 0 ∧ ¬ (2 : Int32) = 1 := by decide
  rcases hC with hc | ⟨⟨q, hq, ho⟩, hne⟩
  · have hv : kWiB μ l k = 0 := if_pos hc
    rw [hv]
    simp only [x218_0, x218_1, x218_4, x218_7, x218_8, x218_9, x218_10, x218_13, x218_14, x218_15, x218_16, x218_19, x218_22, x218_23, x218_24, x218_25, x218_28, x218_29, x218_32, x218_33, x218_36, x218_39, x218_40, x218_41a, x218_41b, x218_41c, x218_42, x218_43, x218_46, x218_47, x218_50, x218_53, x218_54, x218_55, x218_58, x218_59, x218_60, x218_63, x218_64, x218_67, x218_70, x218_71, x218_72, x218_75, x218_76, x218_77, x218_80, x218_81, x218_84, x218_87, x218_88, x218_89, x218_92, x218_93, x218_96, x218_99, x218_100, x218_101, mzi, mInc, mne, mlt9, mrk, mI1, mI2, mI3, mI4, mL1, mL2, mL3, mL4, mQ1, mQ2, mQ3, mQ4, mT1, mcat0, mcat1, mcat2, mcat3, mcat4, mrf1, jK_v, jK_n, JA, mz1, if_true, if_false, ite_true, ite_false, eq_self, not_false_eq_true, Nat.zero_le, true_and, and_true, and_self, Nat.reduceMod, Nat.reduceAdd, Nat.reduceLeDiff, Nat.reduceEqDiff, Nat.reduceLT, hw, lc, lj, hc]
  · have nq : ¬ iN q = -1 := fun g => iN_nn (k := q) (by omega) (by rw [g]; decide)
    have lo : (iN q).toNatClampNeg = q := iN_cl (by omega)
    have loj : jin (iN q) 10 = true := iN_in (by omega) (by omega)
    have hv : kWiB μ l k = [jI μ 6416 q, jI μ 6480 q, jI μ 6544 q, jI μ 6608 q].getD k 0 := by
      unfold kWiB
      rw [if_neg hne, ho, lo]
    rw [hv]
    unfold kWiD at ho
    have hcc : k = 0 ∨ k = 1 ∨ k = 2 ∨ k = 3 := by omega
    by_cases hcl : jI μ 6288 l = 1
    · rw [if_pos hcl] at ho
      have e : l = q := (iN_eq (by omega) (by omega)).mp ho
      subst e
      rcases hcc with rfl | rfl | rfl | rfl
      · simp only [x218_0, x218_1, x218_4, x218_7, x218_8, x218_9, x218_10, x218_13, x218_14, x218_15, x218_16, x218_19, x218_22, x218_23, x218_24, x218_25, x218_28, x218_29, x218_32, x218_33, x218_36, x218_39, x218_40, x218_41a, x218_41b, x218_41c, x218_42, x218_43, x218_46, x218_47, x218_50, x218_53, x218_54, x218_55, x218_58, x218_59, x218_60, x218_63, x218_64, x218_67, x218_70, x218_71, x218_72, x218_75, x218_76, x218_77, x218_80, x218_81, x218_84, x218_87, x218_88, x218_89, x218_92, x218_93, x218_96, x218_99, x218_100, x218_101, mzi, mInc, mne, mlt9, mrk, mI1, mI2, mI3, mI4, mL1, mL2, mL3, mL4, mQ1, mQ2, mQ3, mQ4, mT1, mcat0, mcat1, mcat2, mcat3, mcat4, mrf1, jK_v, jK_n, JA, mz1, if_true, if_false, ite_true, ite_false, eq_self, not_false_eq_true, Nat.zero_le, true_and, and_true, and_self, Nat.reduceMod, Nat.reduceAdd, Nat.reduceLeDiff, Nat.reduceEqDiff, Nat.reduceLT, hw, lc, lj, hne, ho, hcl, lo, loj, q0, nq]
        rfl
      · simp only [x218_0, x218_1, x218_4, x218_7, x218_8, x218_9, x218_10, x218_13, x218_14, x218_15, x218_16, x218_19, x218_22, x218_23, x218_24, x218_25, x218_28, x218_29, x218_32, x218_33, x218_36, x218_39, x218_40, x218_41a, x218_41b, x218_41c, x218_42, x218_43, x218_46, x218_47, x218_50, x218_53, x218_54, x218_55, x218_58, x218_59, x218_60, x218_63, x218_64, x218_67, x218_70, x218_71, x218_72, x218_75, x218_76, x218_77, x218_80, x218_81, x218_84, x218_87, x218_88, x218_89, x218_92, x218_93, x218_96, x218_99, x218_100, x218_101, mzi, mInc, mne, mlt9, mrk, mI1, mI2, mI3, mI4, mL1, mL2, mL3, mL4, mQ1, mQ2, mQ3, mQ4, mT1, mcat0, mcat1, mcat2, mcat3, mcat4, mrf1, jK_v, jK_n, JA, mz1, if_true, if_false, ite_true, ite_false, eq_self, not_false_eq_true, Nat.zero_le, true_and, and_true, and_self, Nat.reduceMod, Nat.reduceAdd, Nat.reduceLeDiff, Nat.reduceEqDiff, Nat.reduceLT, hw, lc, lj, hne, ho, hcl, lo, loj, q0, nq]
        rfl
      · simp only [x218_0, x218_1, x218_4, x218_7, x218_8, x218_9, x218_10, x218_13, x218_14, x218_15, x218_16, x218_19, x218_22, x218_23, x218_24, x218_25, x218_28, x218_29, x218_32, x218_33, x218_36, x218_39, x218_40, x218_41a, x218_41b, x218_41c, x218_42, x218_43, x218_46, x218_47, x218_50, x218_53, x218_54, x218_55, x218_58, x218_59, x218_60, x218_63, x218_64, x218_67, x218_70, x218_71, x218_72, x218_75, x218_76, x218_77, x218_80, x218_81, x218_84, x218_87, x218_88, x218_89, x218_92, x218_93, x218_96, x218_99, x218_100, x218_101, mzi, mInc, mne, mlt9, mrk, mI1, mI2, mI3, mI4, mL1, mL2, mL3, mL4, mQ1, mQ2, mQ3, mQ4, mT1, mcat0, mcat1, mcat2, mcat3, mcat4, mrf1, jK_v, jK_n, JA, mz1, if_true, if_false, ite_true, ite_false, eq_self, not_false_eq_true, Nat.zero_le, true_and, and_true, and_self, Nat.reduceMod, Nat.reduceAdd, Nat.reduceLeDiff, Nat.reduceEqDiff, Nat.reduceLT, hw, lc, lj, hne, ho, hcl, lo, loj, q0, nq]
        rfl
      · simp only [x218_0, x218_1, x218_4, x218_7, x218_8, x218_9, x218_10, x218_13, x218_14, x218_15, x218_16, x218_19, x218_22, x218_23, x218_24, x218_25, x218_28, x218_29, x218_32, x218_33, x218_36, x218_39, x218_40, x218_41a, x218_41b, x218_41c, x218_42, x218_43, x218_46, x218_47, x218_50, x218_53, x218_54, x218_55, x218_58, x218_59, x218_60, x218_63, x218_64, x218_67, x218_70, x218_71, x218_72, x218_75, x218_76, x218_77, x218_80, x218_81, x218_84, x218_87, x218_88, x218_89, x218_92, x218_93, x218_96, x218_99, x218_100, x218_101, mzi, mInc, mne, mlt9, mrk, mI1, mI2, mI3, mI4, mL1, mL2, mL3, mL4, mQ1, mQ2, mQ3, mQ4, mT1, mcat0, mcat1, mcat2, mcat3, mcat4, mrf1, jK_v, jK_n, JA, mz1, if_true, if_false, ite_true, ite_false, eq_self, not_false_eq_true, Nat.zero_le, true_and, and_true, and_self, Nat.reduceMod, Nat.reduceAdd, Nat.reduceLeDiff, Nat.reduceEqDiff, Nat.reduceLT, hw, lc, lj, hne, ho, hcl, lo, loj, q0, nq]
        rfl
    · rw [if_neg hcl] at ho
      rcases hcc with rfl | rfl | rfl | rfl
      · simp only [x218_0, x218_1, x218_4, x218_7, x218_8, x218_9, x218_10, x218_13, x218_14, x218_15, x218_16, x218_19, x218_22, x218_23, x218_24, x218_25, x218_28, x218_29, x218_32, x218_33, x218_36, x218_39, x218_40, x218_41a, x218_41b, x218_41c, x218_42, x218_43, x218_46, x218_47, x218_50, x218_53, x218_54, x218_55, x218_58, x218_59, x218_60, x218_63, x218_64, x218_67, x218_70, x218_71, x218_72, x218_75, x218_76, x218_77, x218_80, x218_81, x218_84, x218_87, x218_88, x218_89, x218_92, x218_93, x218_96, x218_99, x218_100, x218_101, mzi, mInc, mne, mlt9, mrk, mI1, mI2, mI3, mI4, mL1, mL2, mL3, mL4, mQ1, mQ2, mQ3, mQ4, mT1, mcat0, mcat1, mcat2, mcat3, mcat4, mrf1, jK_v, jK_n, JA, mz1, if_true, if_false, ite_true, ite_false, eq_self, not_false_eq_true, Nat.zero_le, true_and, and_true, and_self, Nat.reduceMod, Nat.reduceAdd, Nat.reduceLeDiff, Nat.reduceEqDiff, Nat.reduceLT, hw, lc, lj, hne, ho, hcl, lo, loj, q0, nq]
        rfl
      · simp only [x218_0, x218_1, x218_4, x218_7, x218_8, x218_9, x218_10, x218_13, x218_14, x218_15, x218_16, x218_19, x218_22, x218_23, x218_24, x218_25, x218_28, x218_29, x218_32, x218_33, x218_36, x218_39, x218_40, x218_41a, x218_41b, x218_41c, x218_42, x218_43, x218_46, x218_47, x218_50, x218_53, x218_54, x218_55, x218_58, x218_59, x218_60, x218_63, x218_64, x218_67, x218_70, x218_71, x218_72, x218_75, x218_76, x218_77, x218_80, x218_81, x218_84, x218_87, x218_88, x218_89, x218_92, x218_93, x218_96, x218_99, x218_100, x218_101, mzi, mInc, mne, mlt9, mrk, mI1, mI2, mI3, mI4, mL1, mL2, mL3, mL4, mQ1, mQ2, mQ3, mQ4, mT1, mcat0, mcat1, mcat2, mcat3, mcat4, mrf1, jK_v, jK_n, JA, mz1, if_true, if_false, ite_true, ite_false, eq_self, not_false_eq_true, Nat.zero_le, true_and, and_true, and_self, Nat.reduceMod, Nat.reduceAdd, Nat.reduceLeDiff, Nat.reduceEqDiff, Nat.reduceLT, hw, lc, lj, hne, ho, hcl, lo, loj, q0, nq]
        rfl
      · simp only [x218_0, x218_1, x218_4, x218_7, x218_8, x218_9, x218_10, x218_13, x218_14, x218_15, x218_16, x218_19, x218_22, x218_23, x218_24, x218_25, x218_28, x218_29, x218_32, x218_33, x218_36, x218_39, x218_40, x218_41a, x218_41b, x218_41c, x218_42, x218_43, x218_46, x218_47, x218_50, x218_53, x218_54, x218_55, x218_58, x218_59, x218_60, x218_63, x218_64, x218_67, x218_70, x218_71, x218_72, x218_75, x218_76, x218_77, x218_80, x218_81, x218_84, x218_87, x218_88, x218_89, x218_92, x218_93, x218_96, x218_99, x218_100, x218_101, mzi, mInc, mne, mlt9, mrk, mI1, mI2, mI3, mI4, mL1, mL2, mL3, mL4, mQ1, mQ2, mQ3, mQ4, mT1, mcat0, mcat1, mcat2, mcat3, mcat4, mrf1, jK_v, jK_n, JA, mz1, if_true, if_false, ite_true, ite_false, eq_self, not_false_eq_true, Nat.zero_le, true_and, and_true, and_self, Nat.reduceMod, Nat.reduceAdd, Nat.reduceLeDiff, Nat.reduceEqDiff, Nat.reduceLT, hw, lc, lj, hne, ho, hcl, lo, loj, q0, nq]
        rfl
      · simp only [x218_0, x218_1, x218_4, x218_7, x218_8, x218_9, x218_10, x218_13, x218_14, x218_15, x218_16, x218_19, x218_22, x218_23, x218_24, x218_25, x218_28, x218_29, x218_32, x218_33, x218_36, x218_39, x218_40, x218_41a, x218_41b, x218_41c, x218_42, x218_43, x218_46, x218_47, x218_50, x218_53, x218_54, x218_55, x218_58, x218_59, x218_60, x218_63, x218_64, x218_67, x218_70, x218_71, x218_72, x218_75, x218_76, x218_77, x218_80, x218_81, x218_84, x218_87, x218_88, x218_89, x218_92, x218_93, x218_96, x218_99, x218_100, x218_101, mzi, mInc, mne, mlt9, mrk, mI1, mI2, mI3, mI4, mL1, mL2, mL3, mL4, mQ1, mQ2, mQ3, mQ4, mT1, mcat0, mcat1, mcat2, mcat3, mcat4, mrf1, jK_v, jK_n, JA, mz1, if_true, if_false, ite_true, ite_false, eq_self, not_false_eq_true, Nat.zero_le, true_and, and_true, and_self, Nat.reduceMod, Nat.reduceAdd, Nat.reduceLeDiff, Nat.reduceEqDiff, Nat.reduceLT, hw, lc, lj, hne, ho, hcl, lo, loj, q0, nq]
        rfl

theorem d_wire (hM : jMp μ p) (hn : jI μ (64 * p + 11) 2 = iN n) (h10 : n ≤ 10) (hl : l < n) (hk : k < 4) (hC : jI μ 6224 l = -1 ∨ ((∃ q, q < 10 ∧ kWiD μ l = iN q) ∧ ¬ jI μ 6224 l = -1)) : Ex (d + 2) 217 0 [some (.ref 4490), some (.int (iN l)), some (.int (iN k))] [] μ Q ↔ Q (.inl (some (.int (kWiB μ l k)))) (jsI μ 4490 0 0) := by
  have hf := hM.2.1
  have hM' : jMp (jsI μ 4490 0 0) p := by rw [jMp_I]; exact hM
  have hn' : jI (jsI μ 4490 0 0) (64 * p + 11) 2 = iN n := by rw [mI2 (by omega)]; exact hn
  have eD : kWiD (jsI μ 4490 0 0) l = kWiD μ l := by
    unfold kWiD
    rw [mI2 (by decide), mI2 (by decide)]
  have hT := fun (d : Nat) (Q : jO → jM → Prop) => d_wireT (d := d) (l := l) (k := k) (μ := jsI μ 4490 0 0) (Q := Q) hM'.1 (by omega) hk (by rw [mI2 (by decide), eD]; exact hC)
  have e0 : kWiB (jsI μ 4490 0 0) l k = kWiB μ l k := by
    unfold kWiB
    rw [eD, mI2 (by decide), mI2 (by decide), mI2 (by decide), mI2 (by decide), mI2 (by decide)]
  rw [e0] at hT
  have hL := fun (d : Nat) (x : Int32) (Q : jO → jM → Prop) => d_isL (d := d) (x := x) (Q := Q) hM' hn' h10
  have hin := fun (d : Nat) (μ : jM) (v lo hi : Int32) (Q : jO → jM → Prop) => d_isIn (d := d) (μ := μ) (v := v) (lo := lo) (hi := hi) (Q := Q)
  have hj : jhas (iN l) (iN n) 10 = 1 := jhas_in hl h10 (by decide)
  have hj2 : jhas (iN k) (iN 4) (iN 4) = 1 := jhas_in hk (by decide) (by decide)
  simp only [x217_0, x217_1, x217_2, x217_5, x217_6, x217_7, x217_10, x217_13, x217_14, x217_15, x217_16, x217_19, x217_22, x217_23, x217_24, x217_25, x217_28, x217_31, x217_32, x217_33, x217_36, mzi, mInc, mne, mlt9, mrk, mI1, mI2, mI3, mI4, mL1, mL2, mL3, mL4, mQ1, mQ2, mQ3, mQ4, mT1, mcat0, mcat1, mcat2, mcat3, mcat4, mrf1, jK_v, jK_n, JA, mz1, if_true, if_false, ite_true, ite_false, eq_self, not_false_eq_true, Nat.zero_le, true_and, and_true, and_self, Nat.reduceMod, Nat.reduceAdd, Nat.reduceLeDiff, Nat.reduceEqDiff, Nat.reduceLT, hL, hj, hin, isIn3, hj2, hT]
theorem d_wire_x (hM : jMp μ p) (hn : jI μ (64 * p + 11) 2 = iN n) (h10 : n ≤ 10) (h : ¬ ((∃ l, l < n ∧ x = iN l) ∧ ∃ k, k < 4 ∧ y = iN k)) : Ex (d + 2) 217 0 [some (.ref 4490), some (.int x), some (.int y)] [] μ Q ↔ Q (.inl (some (.int 0))) (jsI (jsI μ 4490 0 0) 4490 0 1) := by
  have hf := hM.2.1
  have hM' : jMp (jsI μ 4490 0 0) p := by rw [jMp_I]; exact hM
  have hn' : jI (jsI μ 4490 0 0) (64 * p + 11) 2 = iN n := by rw [mI2 (by omega)]; exact hn
  have hL := fun (d : Nat) (x : Int32) (Q : jO → jM → Prop) => d_isL (d := d) (x := x) (Q := Q) hM' hn' h10
  have hin := fun (d : Nat) (μ : jM) (v lo hi : Int32) (Q : jO → jM → Prop) => d_isIn (d := d) (μ := μ) (v := v) (lo := lo) (hi := hi) (Q := Q)
  have hno := fun (d : Nat) (μ : jM) (k : Int32) (Q : jO → jM → Prop) => d_no (d := d) (μ := μ) (k := k) (Q := Q)
  by_cases h1 : ∃ l, l < n ∧ x = iN l
  · have hj2 : jhas y (iN 4) (iN 4) = 0 := jhas_no (fun q => h ⟨h1, q⟩) (by decide) (by decide)
    obtain ⟨l, hl, rfl⟩ := h1
    have hj : jhas (iN l) (iN n) 10 = 1 := jhas_in hl h10 (by decide)
    simp only [x217_0, x217_1, x217_2, x217_5, x217_6, x217_7, x217_10, x217_13, x217_14, x217_15, x217_16, x217_19, x217_22, x217_23, x217_24, x217_25, x217_28, x217_31, x217_32, x217_33, x217_36, mzi, mInc, mne, mlt9, mrk, mI1, mI2, mI3, mI4, mL1, mL2, mL3, mL4, mQ1, mQ2, mQ3, mQ4, mT1, mcat0, mcat1, mcat2, mcat3, mcat4, mrf1, jK_v, jK_n, JA, mz1, if_true, if_false, ite_true, ite_false, eq_self, not_false_eq_true, Nat.zero_le, true_and, and_true, and_self, Nat.reduceMod, Nat.reduceAdd, Nat.reduceLeDiff, Nat.reduceEqDiff, Nat.reduceLT, hL, hj, hin, isIn3, hj2, hno]
  · have hj : jhas x (iN n) 10 = 0 := jhas_no h1 h10 (by decide)
    simp only [x217_0, x217_1, x217_2, x217_5, x217_6, x217_7, x217_10, x217_13, x217_14, x217_15, x217_16, x217_19, x217_22, x217_23, x217_24, x217_25, x217_28, x217_31, x217_32, x217_33, x217_36, mzi, mInc, mne, mlt9, mrk, mI1, mI2, mI3, mI4, mL1, mL2, mL3, mL4, mQ1, mQ2, mQ3, mQ4, mT1, mcat0, mcat1, mcat2, mcat3, mcat4, mrf1, jK_v, jK_n, JA, mz1, if_true, if_false, ite_true, ite_false, eq_self, not_false_eq_true, Nat.zero_le, true_and, and_true, and_self, Nat.reduceMod, Nat.reduceAdd, Nat.reduceLeDiff, Nat.reduceEqDiff, Nat.reduceLT, hL, hj, hno]
theorem op_wire (x y : Int32) (hJ : jJp μ p m n t L K nh T w mk sz) : jPair μ 214 217 [some (.ref 0), some (.int x), some (.int y), some (.ref 7647), none] [some (.ref 4490), some (.int x), some (.int y)] := by
  have hJ' := hJ
  obtain ⟨h09, ⟨z1, z2⟩, h120, hR, hX, hp⟩ := hJ'
  have hW : jWd μ := hR.1.1
  have hn := hR.1.2.2.2.2.1
  have hn1 := hR.1.2.2.2.1
  by_cases h1 : ∃ l, l < n ∧ x = iN l
  · by_cases h2 : ∃ k, k < 4 ∧ y = iN k
    · obtain ⟨l, hl, rfl⟩ := h1
      obtain ⟨k, hk, rfl⟩ := h2
      obtain ⟨o1, o2, o3⟩ := kWi_ok hX hn hl
      have eA := fun (Q : jO → jM → Prop) => c_wire (d := 48 + 98) (Q := Q) hW hn1 hn hl hk o1
      generalize hv : kWiA μ l k = v at eA
      have hM : jMp (jsL μ 7647 0 v.toInt64) p := jMp_c rfl hR.2.1
      have eB := fun (Q : jO → jM → Prop) => d_wire (d := 48 + 99) (Q := Q) (μ := jsL μ 7647 0 v.toInt64) (n := n) (k := k) hM hR.2.2.2.1 hn hl hk (o2.imp id fun g => ⟨g.1.imp fun q hq => ⟨Nat.lt_of_lt_of_le hq.1 hn, hq.2⟩, g.2⟩)
      have e1 : kWiB (jsL μ 7647 0 v.toInt64) l k = kWiB μ l k := rfl
      rw [e1, ← o3, hv] at eB
      exact pair_1 hJ v (fun Q => l_wire_v (d := 48 + 100) eA) eB
    · obtain ⟨l, hl, rfl⟩ := h1
      have eA := fun (Q : jO → jM → Prop) => c_wire_x2 (d := 48 + 98) (μ := μ) (Q := Q) hW hn1 hn hl h2
      have eB := fun (Q : jO → jM → Prop) => d_wire_x (d := 48 + 99) (μ := jthr μ) (x := iN l) (y := y) (Q := Q) (jMp_c rfl hR.2.1) hR.2.2.2.1 hn (fun q => h2 q.2)
      exact pair_no hJ (k := 1) (by decide) (by decide) (fun Q => l_wire_2 (d := 48 + 100) eA) eB
  · have eA := fun (Q : jO → jM → Prop) => c_wire_x1 (d := 48 + 98) (μ := μ) (y := y) (Q := Q) hW hn1 hn h1
    have eB := fun (Q : jO → jM → Prop) => d_wire_x (d := 48 + 99) (μ := jthr μ) (x := x) (y := y) (Q := Q) (jMp_c rfl hR.2.1) hR.2.2.2.1 hn (fun q => h1 q.1)
    exact pair_no hJ (k := 1) (by decide) (by decide) (fun Q => l_wire_2 (d := 48 + 100) eA) eB
end WIRES
