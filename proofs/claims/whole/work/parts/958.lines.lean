/-! THE PURE PART: line, frame. -/
section PAIR0
variable {d p m n t L nh w mk sz : Nat} {μ μ1 μ2 A B : jM} {Q : jO → jM → Prop} {K : Nat → Nat} {T : Nat → List (Nat × Int32)} {pn pd : Nat → Int32}
/-- a call that tells, and thinks in rows that are told nobody -/
theorem pair_0 {mL mM : Nat} {eL eM : List (Option Value)} (hJ : jJp μ p m n t L K nh T w mk sz) (v : Int32) (h1 : jSc μ μ1) (ha : jA μ1 = jA μ) (hx : jX μ1 = jX μ) (hA : ∀ (Q : jO → jM → Prop), (Ex (48 + 101) mL 0 eL [] μ Q ↔ Q (.inl (some (.int (iN 0)))) (jsL μ1 7647 0 v.toInt64))) (h2 : jSc (jsI (jsL μ1 7647 0 v.toInt64) 4490 0 0) μ2) (hz : jI μ2 4490 0 = 0) (hL : jL μ2 7647 0 = v.toInt64) (hc : jnc μ2 ≤ jnc μ + 400) (hs : jns μ2 ≤ jns μ + 5000) (hB : ∀ (Q : jO → jM → Prop), (Ex (48 + 101) mM 0 eM [] (jsL μ1 7647 0 v.toInt64) Q ↔ Q (.inl (some (.int v))) μ2)) : jPair μ mL mM eL eM := by
  have h120 := hJ.2.2.1
  refine ⟨0, v, _, _, by decide, hA, ?_, ?_, hB, hz, fun _ => hL, jGo_s (jSc_t h1 (jSc_t jSc_L (jSc_t jSc_0 h2))) hJ hc hs⟩
  · rw [mL3]; exact h1.1 44 (by omega) (by unfold kScr; omega)
  · rw [mL3]; exact h1.1 45 (by omega) (by unfold kScr; omega)
theorem pair_1 {mL mM : Nat} {eL eM : List (Option Value)} (hJ : jJp μ p m n t L K nh T w mk sz) (v : Int32) (hA : ∀ (Q : jO → jM → Prop), (Ex (48 + 101) mL 0 eL [] μ Q ↔ Q (.inl (some (.int (iN 0)))) (jsL μ 7647 0 v.toInt64))) (hB : ∀ (Q : jO → jM → Prop), (Ex (48 + 101) mM 0 eM [] (jsL μ 7647 0 v.toInt64) Q ↔ Q (.inl (some (.int v))) (jsI (jsL μ 7647 0 v.toInt64) 4490 0 0))) : jPair μ mL mM eL eM :=
  pair_0 hJ v jSc_r rfl rfl hA jSc_r (by rw [mI1, if_pos rfl]) (by rw [mI3, mL1, if_pos rfl]) (Nat.le_add_right _ _) (Nat.le_add_right _ _) hB
end PAIR0
section LINES
variable {d p m n t L nh w mk sz r l f k : Nat} {μ μ2 A B : jM} {Q : jO → jM → Prop} {K : Nat → Nat} {T : Nat → List (Nat × Int32)} {x y : Int32} {pn pd : Nat → Int32}
def kLnA (μ : jM) (w l : Nat) : List Int32 := [jI μ 2640 l, jI μ 1872 l, jI μ 2704 l, jI μ 2832 l, jI μ 2896 l, jfst (fun k => decide (jI μ 3344 k = iN l)) 0 (w - 0), jI μ 2960 l]
def kLnB (μ : jM) (p n w l : Nat) : List Int32 := [jI μ 5904 l, jI μ (64 * p + 144) l, jI μ 6224 l, jI μ 6032 l, jfst (fun k => decide (0 < jI μ 6032 l ∧ jI μ (64 * p + 272) k = jI μ 6032 l ∧ jI μ (64 * p + 208) k = jI μ 5968 l)) 0 (n - 0), jfst (fun k => decide (jI μ 6160 k = iN l)) 0 (w - 0), jI μ 6096 l]
def kFrA (μ : jM) (n t f : Nat) : List Int32 := [jI μ 1812 f, rsum (fun k => jI μ 3024 k >>> (iN f &&& 31) &&& 1) n, rsum (fun k => jbit (1 <<< (iN f &&& 31)) (jI μ 1872 k)) n, rsum (fun k => if (if jI μ 2064 k = iN f then jI μ 2128 k else if jI μ 2128 k = iN f then jI μ 2064 k else -1) = -1 then 0 else 1) t]
def kFrB (μ : jM) (p n t f : Nat) : List Int32 := [jI μ (64 * p + 84) f, rsum (fun k => if jI μ 6288 k = 1 then jI μ 6416 k >>> (iN f &&& 31) &&& 1 else 0) n, rsum (fun k => if jI μ (64 * p + 144) k = iN f then 1 else 0) n, rsum (fun k => if jI μ (64 * p + 336) k = iN f then 1 else if jI μ (64 * p + 400) k = iN f then 1 else 0) t]
theorem kLn_eq (hR : jRP A B p m n t L K nh T) (h : jRXn A B n w mk (jI A 1936) (jI A 2000)) (hl : l < n) : kLnA A w l = kLnB B p n w l := by
  obtain ⟨e1, e2, e3, e4, e5, e6, e7, e8⟩ := h.2.2.2.2.2.2.2.1 l hl
  have hD := (h.2.2.2.2.2.2.2.2.1 l hl).2.1
  have hr := hR.2.2.2.2.2.2.2.2.1
  have hc : jfst (fun k => decide (0 < jI B 6032 l ∧ jI B (64 * p + 272) k = jI B 6032 l ∧ jI B (64 * p + 208) k = jI B 5968 l)) 0 (n - 0) = jI A 2896 l := by
    rw [hD, e2, e3]
    exact kFind_congr fun k hk => ⟨(hr k hk).2.2.1.symm, (hr k hk).2.2.2.1.symm⟩
  unfold kLnA kLnB
  rw [hc, E_placen h, e1, e5, e3, e4, (hr l hl).1]
theorem jbit_1 : ∀ f, f < 6 → ∀ u, u < 6 → jbit (1 <<< (iN f &&& 31)) (iN u) = if iN u = iN f then 1 else 0 := by decide +kernel
theorem kFr_eq (hR : jRP A B p m n t L K nh T) (h : jRXn A B n w mk pn pd) (hf : f < m) : kFrA A n t f = kFrB B p n t f := by
  have h6 := hR.1.2.2.1
  have hr := hR.2.2.2.2.2.2.2.2.1
  have hs := hR.2.2.2.2.2.2.2.2.2.2.1
  unfold kFrA kFrB
  rw [(hR.2.2.2.2.2.2.2.1 f hf).1, E_loadn h]
  have h1 : rsum (fun k => jbit (1 <<< (iN f &&& 31)) (jI A 1872 k)) n = rsum (fun k => if jI B (64 * p + 144) k = iN f then 1 else 0) n := rsum_congr n fun k hk => by
    obtain ⟨u, hu, hv⟩ := (hr k hk).2.1
    rw [← (hr k hk).1, hv]
    exact jbit_1 f (by omega) u (by omega)
  have h2 : rsum (fun k => if (if jI A 2064 k = iN f then jI A 2128 k else if jI A 2128 k = iN f then jI A 2064 k else -1) = -1 then 0 else 1) t = rsum (fun k => if jI B (64 * p + 336) k = iN f then 1 else if jI B (64 * p + 400) k = iN f then 1 else 0) t := rsum_congr t fun k hk => by
    obtain ⟨a1, a2, ⟨u, hu, hv⟩, ⟨z, hz, hx⟩, _⟩ := hs k hk
    have nu : ¬ iN u = -1 := fun q => iN_nn (k := u) (by omega) (by rw [q]; decide)
    have nz : ¬ iN z = -1 := fun q => iN_nn (k := z) (by omega) (by rw [q]; decide)
    rw [← a1, ← a2, hv, hx]
    by_cases g : iN u = iN f
    · rw [if_pos g, if_pos g, if_neg nz]
    · rw [if_neg g, if_neg g]
      by_cases g2 : iN z = iN f
      · rw [if_pos g2, if_pos g2, if_neg nu]
      · rw [if_neg g2, if_neg g2, if_pos rfl]
  rw [h1, h2]
theorem c_line (hW : jWd μ) (hn : jI μ 1731 1 = iN n) (h10 : n ≤ 10) (hw1 : jI μ 2567 16 = iN w) (hw2 : w ≤ 10) (hl : l < n) (hk : k < 7) : Ex (d + 2) 178 0 [some (.ref 0), some (.int (iN l)), some (.int (iN k))] [] μ Q ↔ Q (.inl (some (.int ((kLnA μ w l).getD k 0)))) μ := by
  have hw := hW
  unfold jWd at hw
  have hnd := fun (d : Nat) (x : Int32) (Q : jO → jM → Prop) => c_needL (d := d) (x := x) (Q := Q) hW
  have hj : jhas (iN l) (iN n) 10 = 1 := jhas_in hl h10 (by decide)
  have lc : (iN l).toNatClampNeg = l := iN_cl (by omega)
  have lj : jin (iN l) 10 = true := iN_in (by omega) (by omega)
  have hpl := fun (d : Nat) (v : Int32) (Q : jO → jM → Prop) => c_placen (d := d) (v := v) (Q := Q) hW hw1 hw2
  have hc : k = 0 ∨ k = 1 ∨ k = 2 ∨ k = 3 ∨ k = 4 ∨ k = 5 ∨ k = 6 := by omega
  rcases hc with rfl | rfl | rfl | rfl | rfl | rfl | rfl
  · have hs : jsw [(0, 48), (1, 58), (2, 68), (3, 78), (4, 88), (5, 98), (6, 107)] 117 ((0 : Int32)) = 48 := by decide
    simp only [x178_0, x178_1, x178_2, x178_5, x178_6, x178_48, x178_49, x178_52, x178_55, x178_56, x178_57, mzi, mInc, mne, mlt9, mrk, mI1, mI2, mI3, mI4, mL1, mL2, mL3, mL4, mQ1, mQ2, mQ3, mQ4, mT1, mcat0, mcat1, mcat2, mcat3, mcat4, mrf1, jK_v, jK_n, JA, mz1, if_true, if_false, ite_true, ite_false, eq_self, not_false_eq_true, Nat.zero_le, true_and, and_true, and_self, Nat.reduceMod, Nat.reduceAdd, Nat.reduceLeDiff, Nat.reduceEqDiff, Nat.reduceLT, hs, hw, hnd, hn, hj, lc, lj, hpl]
    rfl
  · have hs : jsw [(0, 48), (1, 58), (2, 68), (3, 78), (4, 88), (5, 98), (6, 107)] 117 (iN 1) = 58 := by decide
    simp only [x178_0, x178_1, x178_2, x178_5, x178_6, x178_58, x178_59, x178_62, x178_65, x178_66, x178_67, mzi, mInc, mne, mlt9, mrk, mI1, mI2, mI3, mI4, mL1, mL2, mL3, mL4, mQ1, mQ2, mQ3, mQ4, mT1, mcat0, mcat1, mcat2, mcat3, mcat4, mrf1, jK_v, jK_n, JA, mz1, if_true, if_false, ite_true, ite_false, eq_self, not_false_eq_true, Nat.zero_le, true_and, and_true, and_self, Nat.reduceMod, Nat.reduceAdd, Nat.reduceLeDiff, Nat.reduceEqDiff, Nat.reduceLT, hs, hw, hnd, hn, hj, lc, lj, hpl]
    rfl
  · have hs : jsw [(0, 48), (1, 58), (2, 68), (3, 78), (4, 88), (5, 98), (6, 107)] 117 (iN 2) = 68 := by decide
    simp only [x178_0, x178_1, x178_2, x178_5, x178_6, x178_68, x178_69, x178_72, x178_75, x178_76, x178_77, mzi, mInc, mne, mlt9, mrk, mI1, mI2, mI3, mI4, mL1, mL2, mL3, mL4, mQ1, mQ2, mQ3, mQ4, mT1, mcat0, mcat1, mcat2, mcat3, mcat4, mrf1, jK_v, jK_n, JA, mz1, if_true, if_false, ite_true, ite_false, eq_self, not_false_eq_true, Nat.zero_le, true_and, and_true, and_self, Nat.reduceMod, Nat.reduceAdd, Nat.reduceLeDiff, Nat.reduceEqDiff, Nat.reduceLT, hs, hw, hnd, hn, hj, lc, lj, hpl]
    rfl
  · have hs : jsw [(0, 48), (1, 58), (2, 68), (3, 78), (4, 88), (5, 98), (6, 107)] 117 (iN 3) = 78 := by decide
    simp only [x178_0, x178_1, x178_2, x178_5, x178_6, x178_78, x178_79, x178_82, x178_85, x178_86, x178_87, mzi, mInc, mne, mlt9, mrk, mI1, mI2, mI3, mI4, mL1, mL2, mL3, mL4, mQ1, mQ2, mQ3, mQ4, mT1, mcat0, mcat1, mcat2, mcat3, mcat4, mrf1, jK_v, jK_n, JA, mz1, if_true, if_false, ite_true, ite_false, eq_self, not_false_eq_true, Nat.zero_le, true_and, and_true, and_self, Nat.reduceMod, Nat.reduceAdd, Nat.reduceLeDiff, Nat.reduceEqDiff, Nat.reduceLT, hs, hw, hnd, hn, hj, lc, lj, hpl]
    rfl
  · have hs : jsw [(0, 48), (1, 58), (2, 68), (3, 78), (4, 88), (5, 98), (6, 107)] 117 (iN 4) = 88 := by decide
    simp only [x178_0, x178_1, x178_2, x178_5, x178_6, x178_88, x178_89, x178_92, x178_95, x178_96, x178_97, mzi, mInc, mne, mlt9, mrk, mI1, mI2, mI3, mI4, mL1, mL2, mL3, mL4, mQ1, mQ2, mQ3, mQ4, mT1, mcat0, mcat1, mcat2, mcat3, mcat4, mrf1, jK_v, jK_n, JA, mz1, if_true, if_false, ite_true, ite_false, eq_self, not_false_eq_true, Nat.zero_le, true_and, and_true, and_self, Nat.reduceMod, Nat.reduceAdd, Nat.reduceLeDiff, Nat.reduceEqDiff, Nat.reduceLT, hs, hw, hnd, hn, hj, lc, lj, hpl]
    rfl
  · have hs : jsw [(0, 48), (1, 58), (2, 68), (3, 78), (4, 88), (5, 98), (6, 107)] 117 (iN 5) = 98 := by decide
    simp only [x178_0, x178_1, x178_2, x178_5, x178_6, x178_98, x178_99, x178_102, x178_103, x178_106, mzi, mInc, mne, mlt9, mrk, mI1, mI2, mI3, mI4, mL1, mL2, mL3, mL4, mQ1, mQ2, mQ3, mQ4, mT1, mcat0, mcat1, mcat2, mcat3, mcat4, mrf1, jK_v, jK_n, JA, mz1, if_true, if_false, ite_true, ite_false, eq_self, not_false_eq_true, Nat.zero_le, true_and, and_true, and_self, Nat.reduceMod, Nat.reduceAdd, Nat.reduceLeDiff, Nat.reduceEqDiff, Nat.reduceLT, hs, hw, hnd, hn, hj, lc, lj, hpl]
    rfl
  · have hs : jsw [(0, 48), (1, 58), (2, 68), (3, 78), (4, 88), (5, 98), (6, 107)] 117 (iN 6) = 107 := by decide
    simp only [x178_0, x178_1, x178_2, x178_5, x178_6, x178_107, x178_108, x178_111, x178_114, x178_115, x178_116, mzi, mInc, mne, mlt9, mrk, mI1, mI2, mI3, mI4, mL1, mL2, mL3, mL4, mQ1, mQ2, mQ3, mQ4, mT1, mcat0, mcat1, mcat2, mcat3, mcat4, mrf1, jK_v, jK_n, JA, mz1, if_true, if_false, ite_true, ite_false, eq_self, not_false_eq_true, Nat.zero_le, true_and, and_true, and_self, Nat.reduceMod, Nat.reduceAdd, Nat.reduceLeDiff, Nat.reduceEqDiff, Nat.reduceLT, hs, hw, hnd, hn, hj, lc, lj, hpl]
    rfl

theorem c_line_x1 (hW : jWd μ) (hn : jI μ 1731 1 = iN n) (h10 : n ≤ 10) (h : ¬ ∃ l, l < n ∧ x = iN l) : Ex (d + 2) 178 0 [some (.ref 0), some (.int x), some (.int y)] [] μ Q ↔ Q (.inr 2) (jthr μ) := by
  have hw := hW
  unfold jWd at hw
  have hnd := fun (d : Nat) (x : Int32) (Q : jO → jM → Prop) => c_needL (d := d) (x := x) (Q := Q) hW
  have hj : jhas x (iN n) 10 = 0 := jhas_no h h10 (by decide)
  have hx : jhs 178 = [] := rfl
  simp only [x178_0, x178_1, x178_2, x178_5, x178_6, x178_48, x178_49, x178_52, x178_55, x178_56, x178_57, x178_58, x178_59, x178_62, x178_65, x178_66, x178_67, x178_68, x178_69, x178_72, x178_75, x178_76, x178_77, x178_78, x178_79, x178_82, x178_85, x178_86, x178_87, x178_88, x178_89, x178_92, x178_95, x178_96, x178_97, x178_98, x178_99, x178_102, x178_103, x178_106, x178_107, x178_108, x178_111, x178_114, x178_115, x178_116, x178_117, mzi, mInc, mne, mlt9, mrk, mI1, mI2, mI3, mI4, mL1, mL2, mL3, mL4, mQ1, mQ2, mQ3, mQ4, mT1, mcat0, mcat1, mcat2, mcat3, mcat4, mrf1, jK_v, jK_n, JA, mz1, if_true, if_false, ite_true, ite_false, eq_self, not_false_eq_true, Nat.zero_le, true_and, and_true, and_self, Nat.reduceMod, Nat.reduceAdd, Nat.reduceLeDiff, Nat.reduceEqDiff, Nat.reduceLT, hnd, hn, hj, hx, jK_x]
theorem c_line_x2 (hW : jWd μ) (hn : jI μ 1731 1 = iN n) (h10 : n ≤ 10) (hl : l < n) (h : ¬ ∃ k, k < 7 ∧ x = iN k) : Ex (d + 2) 178 0 [some (.ref 0), some (.int (iN l)), some (.int x)] [] μ Q ↔ Q (.inr 2) (jthr μ) := by
  have hw := hW
  unfold jWd at hw
  have hnd := fun (d : Nat) (x : Int32) (Q : jO → jM → Prop) => c_needL (d := d) (x := x) (Q := Q) hW
  have hj : jhas (iN l) (iN n) 10 = 1 := jhas_in hl h10 (by decide)
  have hs : jsw [(0, 48), (1, 58), (2, 68), (3, 78), (4, 88), (5, 98), (6, 107)] 117 x = 117 := by
    have ha : ∀ q ∈ [(0, 48), (1, 58), (2, 68), (3, 78), (4, 88), (5, 98), (6, 107)], ∃ k, k < 7 ∧ q.1 = iN k := by decide
    refine jsw_no fun q hq e => ?_
    obtain ⟨k, hk, he⟩ := ha q hq
    exact h ⟨k, hk, e.trans he⟩
  simp only [x178_0, x178_1, x178_2, x178_5, x178_6, x178_48, x178_49, x178_52, x178_55, x178_56, x178_57, x178_58, x178_59, x178_62, x178_65, x178_66, x178_67, x178_68, x178_69, x178_72, x178_75, x178_76, x178_77, x178_78, x178_79, x178_82, x178_85, x178_86, x178_87, x178_88, x178_89, x178_92, x178_95, x178_96, x178_97, x178_98, x178_99, x178_102, x178_103, x178_106, x178_107, x178_108, x178_111, x178_114, x178_115, x178_116, x178_117, mzi, mInc, mne, mlt9, mrk, mI1, mI2, mI3, mI4, mL1, mL2, mL3, mL4, mQ1, mQ2, mQ3, mQ4, mT1, mcat0, mcat1, mcat2, mcat3, mcat4, mrf1, jK_v, jK_n, JA, mz1, if_true, if_false, ite_true, ite_false, eq_self, not_false_eq_true, Nat.zero_le, true_and, and_true, and_self, Nat.reduceMod, Nat.reduceAdd, Nat.reduceLeDiff, Nat.reduceEqDiff, Nat.reduceLT, hnd, hn, hj, hs]
theorem d_lineT (hM : jMp μ p) (hn : jI μ (64 * p + 11) 2 = iN n) (h10 : n ≤ 10) (hw1 : jI μ 5836 7 = iN w) (hw2 : w ≤ 10) (hl : l < n) (hk : k < 7) : Ex (d + 1) 180 0 [some (.ref 4490), some (.int (iN l)), some (.int (iN k))] [] μ Q ↔ Q (.inl (some (.int ((kLnB μ p n w l).getD k 0)))) μ := by
  have hcl := fun (d : Nat) (Q : jO → jM → Prop) => d_calleds (d := d) (l := l) (Q := Q) (by omega) hM hn h10
  have hpla := fun (d : Nat) (v : Int32) (Q : jO → jM → Prop) => d_places (d := d) (v := v) (Q := Q) hM.1 hw1 hw2
  obtain ⟨hW, hp2, hpl, hq⟩ := hM
  have hw := hW
  unfold jWd at hw
  unfold jMq at hq
  have jp := JP p
  have jpm := JPm p
  have lc : (iN l).toNatClampNeg = l := iN_cl (by omega)
  have lj : jin (iN l) 10 = true := iN_in (by omega) (by omega)
  have hc : k = 0 ∨ k = 1 ∨ k = 2 ∨ k = 3 ∨ k = 4 ∨ k = 5 ∨ k = 6 := by omega
  rcases hc with rfl | rfl | rfl | rfl | rfl | rfl | rfl
  · have hs : jsw [(0, 40), (1, 50), (2, 60), (3, 70), (4, 80), (5, 89)] 98 ((0 : Int32)) = 40 := by decide
    simp only [x180_0, x180_1, x180_40, x180_41, x180_44, x180_47, x180_48, x180_49, mzi, mInc, mne, mlt9, mrk, mI1, mI2, mI3, mI4, mL1, mL2, mL3, mL4, mQ1, mQ2, mQ3, mQ4, mT1, mcat0, mcat1, mcat2, mcat3, mcat4, mrf1, jK_v, jK_n, JA, mz1, if_true, if_false, ite_true, ite_false, eq_self, not_false_eq_true, Nat.zero_le, true_and, and_true, and_self, Nat.reduceMod, Nat.reduceAdd, Nat.reduceLeDiff, Nat.reduceEqDiff, Nat.reduceLT, hs, hw, hpl, hq, jp, jpm, lc, lj, hcl, hpla]
    rfl
  · have hs : jsw [(0, 40), (1, 50), (2, 60), (3, 70), (4, 80), (5, 89)] 98 (iN 1) = 50 := by decide
    simp only [x180_0, x180_1, x180_50, x180_51, x180_54, x180_57, x180_58, x180_59, mzi, mInc, mne, mlt9, mrk, mI1, mI2, mI3, mI4, mL1, mL2, mL3, mL4, mQ1, mQ2, mQ3, mQ4, mT1, mcat0, mcat1, mcat2, mcat3, mcat4, mrf1, jK_v, jK_n, JA, mz1, if_true, if_false, ite_true, ite_false, eq_self, not_false_eq_true, Nat.zero_le, true_and, and_true, and_self, Nat.reduceMod, Nat.reduceAdd, Nat.reduceLeDiff, Nat.reduceEqDiff, Nat.reduceLT, hs, hw, hpl, hq, jp, jpm, lc, lj, hcl, hpla]
    rfl
  · have hs : jsw [(0, 40), (1, 50), (2, 60), (3, 70), (4, 80), (5, 89)] 98 (iN 2) = 60 := by decide
    simp only [x180_0, x180_1, x180_60, x180_61, x180_64, x180_67, x180_68, x180_69, mzi, mInc, mne, mlt9, mrk, mI1, mI2, mI3, mI4, mL1, mL2, mL3, mL4, mQ1, mQ2, mQ3, mQ4, mT1, mcat0, mcat1, mcat2, mcat3, mcat4, mrf1, jK_v, jK_n, JA, mz1, if_true, if_false, ite_true, ite_false, eq_self, not_false_eq_true, Nat.zero_le, true_and, and_true, and_self, Nat.reduceMod, Nat.reduceAdd, Nat.reduceLeDiff, Nat.reduceEqDiff, Nat.reduceLT, hs, hw, hpl, hq, jp, jpm, lc, lj, hcl, hpla]
    rfl
  · have hs : jsw [(0, 40), (1, 50), (2, 60), (3, 70), (4, 80), (5, 89)] 98 (iN 3) = 70 := by decide
    simp only [x180_0, x180_1, x180_70, x180_71, x180_74, x180_77, x180_78, x180_79, mzi, mInc, mne, mlt9, mrk, mI1, mI2, mI3, mI4, mL1, mL2, mL3, mL4, mQ1, mQ2, mQ3, mQ4, mT1, mcat0, mcat1, mcat2, mcat3, mcat4, mrf1, jK_v, jK_n, JA, mz1, if_true, if_false, ite_true, ite_false, eq_self, not_false_eq_true, Nat.zero_le, true_and, and_true, and_self, Nat.reduceMod, Nat.reduceAdd, Nat.reduceLeDiff, Nat.reduceEqDiff, Nat.reduceLT, hs, hw, hpl, hq, jp, jpm, lc, lj, hcl, hpla]
    rfl
  · have hs : jsw [(0, 40), (1, 50), (2, 60), (3, 70), (4, 80), (5, 89)] 98 (iN 4) = 80 := by decide
    simp only [x180_0, x180_1, x180_80, x180_81, x180_84, x180_85, x180_88, mzi, mInc, mne, mlt9, mrk, mI1, mI2, mI3, mI4, mL1, mL2, mL3, mL4, mQ1, mQ2, mQ3, mQ4, mT1, mcat0, mcat1, mcat2, mcat3, mcat4, mrf1, jK_v, jK_n, JA, mz1, if_true, if_false, ite_true, ite_false, eq_self, not_false_eq_true, Nat.zero_le, true_and, and_true, and_self, Nat.reduceMod, Nat.reduceAdd, Nat.reduceLeDiff, Nat.reduceEqDiff, Nat.reduceLT, hs, hw, hpl, hq, jp, jpm, lc, lj, hcl, hpla]
    rfl
  · have hs : jsw [(0, 40), (1, 50), (2, 60), (3, 70), (4, 80), (5, 89)] 98 (iN 5) = 89 := by decide
    simp only [x180_0, x180_1, x180_89, x180_90, x180_93, x180_94, x180_97, mzi, mInc, mne, mlt9, mrk, mI1, mI2, mI3, mI4, mL1, mL2, mL3, mL4, mQ1, mQ2, mQ3, mQ4, mT1, mcat0, mcat1, mcat2, mcat3, mcat4, mrf1, jK_v, jK_n, JA, mz1, if_true, if_false, ite_true, ite_false, eq_self, not_false_eq_true, Nat.zero_le, true_and, and_true, and_self, Nat.reduceMod, Nat.reduceAdd, Nat.reduceLeDiff, Nat.reduceEqDiff, Nat.reduceLT, hs, hw, hpl, hq, jp, jpm, lc, lj, hcl, hpla]
    rfl
  · have hs : jsw [(0, 40), (1, 50), (2, 60), (3, 70), (4, 80), (5, 89)] 98 (iN 6) = 98 := by decide
    simp only [x180_0, x180_1, x180_98, x180_99, x180_102, x180_105, x180_106, x180_107, mzi, mInc, mne, mlt9, mrk, mI1, mI2, mI3, mI4, mL1, mL2, mL3, mL4, mQ1, mQ2, mQ3, mQ4, mT1, mcat0, mcat1, mcat2, mcat3, mcat4, mrf1, jK_v, jK_n, JA, mz1, if_true, if_false, ite_true, ite_false, eq_self, not_false_eq_true, Nat.zero_le, true_and, and_true, and_self, Nat.reduceMod, Nat.reduceAdd, Nat.reduceLeDiff, Nat.reduceEqDiff, Nat.reduceLT, hs, hw, hpl, hq, jp, jpm, lc, lj, hcl, hpla]
    rfl

theorem d_line (hM : jMp μ p) (hn : jI μ (64 * p + 11) 2 = iN n) (h10 : n ≤ 10) (hw1 : jI μ 5836 7 = iN w) (hw2 : w ≤ 10) (hl : l < n) (hk : k < 7) : Ex (d + 2) 179 0 [some (.ref 4490), some (.int (iN l)), some (.int (iN k))] [] μ Q ↔ Q (.inl (some (.int ((kLnB μ p n w l).getD k 0)))) (jsI μ 4490 0 0) := by
  have hf := hM.2.1
  have hM' : jMp (jsI μ 4490 0 0) p := by rw [jMp_I]; exact hM
  have hn' : jI (jsI μ 4490 0 0) (64 * p + 11) 2 = iN n := by rw [mI2 (by omega)]; exact hn
  have hT := fun (d : Nat) (Q : jO → jM → Prop) => d_lineT (d := d) (l := l) (k := k) (μ := jsI μ 4490 0 0) (Q := Q) hM' hn' h10 (by rw [mI2 (by decide)]; exact hw1) hw2 hl hk
  have e0 : kLnB (jsI μ 4490 0 0) p n w l = kLnB μ p n w l := by
    unfold kLnB
    rw [mI2 (by decide), mI2 (by omega), mI2 (by decide), mI2 (by decide), mI2 (by omega), mI2 (by omega), mI2 (by decide), mI2 (by decide), mI2 (by decide)]
  rw [e0] at hT
  have hL := fun (d : Nat) (x : Int32) (Q : jO → jM → Prop) => d_isL (d := d) (x := x) (Q := Q) hM' hn' h10
  have hin := fun (d : Nat) (μ : jM) (v lo hi : Int32) (Q : jO → jM → Prop) => d_isIn (d := d) (μ := μ) (v := v) (lo := lo) (hi := hi) (Q := Q)
  have hj : jhas (iN l) (iN n) 10 = 1 := jhas_in hl h10 (by decide)
  have hj2 : jhas (iN k) (iN 7) (iN 7) = 1 := jhas_in hk (by decide) (by decide)
  simp only [x179_0, x179_1, x179_2, x179_5, x179_6, x179_7, x179_10, x179_13, x179_14, x179_15, x179_17, x179_20, x179_23, x179_24, x179_25, x179_26, x179_29, x179_32, x179_33, x179_34, x179_37, mzi, mInc, mne, mlt9, mrk, mI1, mI2, mI3, mI4, mL1, mL2, mL3, mL4, mQ1, mQ2, mQ3, mQ4, mT1, mcat0, mcat1, mcat2, mcat3, mcat4, mrf1, jK_v, jK_n, JA, mz1, if_true, if_false, ite_true, ite_false, eq_self, not_false_eq_true, Nat.zero_le, true_and, and_true, and_self, Nat.reduceMod, Nat.reduceAdd, Nat.reduceLeDiff, Nat.reduceEqDiff, Nat.reduceLT, hL, hj, hin, isIn6, hj2, hT]
theorem d_line_x (hM : jMp μ p) (hn : jI μ (64 * p + 11) 2 = iN n) (h10 : n ≤ 10) (h : ¬ ((∃ l, l < n ∧ x = iN l) ∧ ∃ k, k < 7 ∧ y = iN k)) : Ex (d + 2) 179 0 [some (.ref 4490), some (.int x), some (.int y)] [] μ Q ↔ Q (.inl (some (.int 0))) (jsI (jsI μ 4490 0 0) 4490 0 1) := by
  have hf := hM.2.1
  have hM' : jMp (jsI μ 4490 0 0) p := by rw [jMp_I]; exact hM
  have hn' : jI (jsI μ 4490 0 0) (64 * p + 11) 2 = iN n := by rw [mI2 (by omega)]; exact hn
  have hL := fun (d : Nat) (x : Int32) (Q : jO → jM → Prop) => d_isL (d := d) (x := x) (Q := Q) hM' hn' h10
  have hin := fun (d : Nat) (μ : jM) (v lo hi : Int32) (Q : jO → jM → Prop) => d_isIn (d := d) (μ := μ) (v := v) (lo := lo) (hi := hi) (Q := Q)
  have hno := fun (d : Nat) (μ : jM) (k : Int32) (Q : jO → jM → Prop) => d_no (d := d) (μ := μ) (k := k) (Q := Q)
  by_cases h1 : ∃ l, l < n ∧ x = iN l
  · have hj2 : jhas y (iN 7) (iN 7) = 0 := jhas_no (fun q => h ⟨h1, q⟩) (by decide) (by decide)
    obtain ⟨l, hl, rfl⟩ := h1
    have hj : jhas (iN l) (iN n) 10 = 1 := jhas_in hl h10 (by decide)
    simp only [x179_0, x179_1, x179_2, x179_5, x179_6, x179_7, x179_10, x179_13, x179_14, x179_15, x179_17, x179_20, x179_23, x179_24, x179_25, x179_26, x179_29, x179_32, x179_33, x179_34, x179_37, mzi, mInc, mne, mlt9, mrk, mI1, mI2, mI3, mI4, mL1, mL2, mL3, mL4, mQ1, mQ2, mQ3, mQ4, mT1, mcat0, mcat1, mcat2, mcat3, mcat4, mrf1, jK_v, jK_n, JA, mz1, if_true, if_false, ite_true, ite_false, eq_self, not_false_eq_true, Nat.zero_le, true_and, and_true, and_self, Nat.reduceMod, Nat.reduceAdd, Nat.reduceLeDiff, Nat.reduceEqDiff, Nat.reduceLT, hL, hj, hin, isIn6, hj2, hno]
  · have hj : jhas x (iN n) 10 = 0 := jhas_no h1 h10 (by decide)
    simp only [x179_0, x179_1, x179_2, x179_5, x179_6, x179_7, x179_10, x179_13, x179_14, x179_15, x179_17, x179_20, x179_23, x179_24, x179_25, x179_26, x179_29, x179_32, x179_33, x179_34, x179_37, mzi, mInc, mne, mlt9, mrk, mI1, mI2, mI3, mI4, mL1, mL2, mL3, mL4, mQ1, mQ2, mQ3, mQ4, mT1, mcat0, mcat1, mcat2, mcat3, mcat4, mrf1, jK_v, jK_n, JA, mz1, if_true, if_false, ite_true, ite_false, eq_self, not_false_eq_true, Nat.zero_le, true_and, and_true, and_self, Nat.reduceMod, Nat.reduceAdd, Nat.reduceLeDiff, Nat.reduceEqDiff, Nat.reduceLT, hL, hj, hno]
theorem op_line (x y : Int32) (hJ : jJp μ p m n t L K nh T w mk sz) : jPair μ 177 179 [some (.ref 0), some (.int x), some (.int y), some (.ref 7647), none] [some (.ref 4490), some (.int x), some (.int y)] := by
  have hJ' := hJ
  obtain ⟨h09, ⟨z1, z2⟩, h120, hR, hX, hp⟩ := hJ'
  have hW : jWd μ := hR.1.1
  have hn := hR.1.2.2.2.2.1
  have hn1 := hR.1.2.2.2.1
  have hw10 : w ≤ n := kQu_n hX.2.2.2.2.2.2.2.2.2.2.1 (by omega)
  by_cases h1 : ∃ l, l < n ∧ x = iN l
  · by_cases h2 : ∃ k, k < 7 ∧ y = iN k
    · obtain ⟨l, hl, rfl⟩ := h1
      obtain ⟨k, hk, rfl⟩ := h2
      have eA := fun (Q : jO → jM → Prop) => c_line (d := 48 + 98) (Q := Q) hW hn1 hn hX.2.2.2.2.2.1 (by omega) hl hk
      generalize hv : (kLnA μ w l).getD k 0 = v at eA
      have hM : jMp (jsL μ 7647 0 v.toInt64) p := jMp_c rfl hR.2.1
      have eB := fun (Q : jO → jM → Prop) => d_line (d := 48 + 99) (Q := Q) (μ := jsL μ 7647 0 v.toInt64) (n := n) (w := w) hM hR.2.2.2.1 hn hX.2.2.2.2.2.2.1 (by omega) hl hk
      have e1 : kLnB (jsL μ 7647 0 v.toInt64) p n w l = kLnB μ p n w l := rfl
      rw [e1, ← kLn_eq hR hX hl, hv] at eB
      exact pair_1 hJ v (fun Q => l_line_v (d := 48 + 100) eA) eB
    · obtain ⟨l, hl, rfl⟩ := h1
      have eA := fun (Q : jO → jM → Prop) => c_line_x2 (d := 48 + 98) (μ := μ) (Q := Q) hW hn1 hn hl h2
      have eB := fun (Q : jO → jM → Prop) => d_line_x (d := 48 + 99) (μ := jthr μ) (x := iN l) (y := y) (Q := Q) (jMp_c rfl hR.2.1) hR.2.2.2.1 hn (fun q => h2 q.2)
      exact pair_no hJ (k := 1) (by decide) (by decide) (fun Q => l_line_2 (d := 48 + 100) eA) eB
  · have eA := fun (Q : jO → jM → Prop) => c_line_x1 (d := 48 + 98) (μ := μ) (y := y) (Q := Q) hW hn1 hn h1
    have eB := fun (Q : jO → jM → Prop) => d_line_x (d := 48 + 99) (μ := jthr μ) (x := x) (y := y) (Q := Q) (jMp_c rfl hR.2.1) hR.2.2.2.1 hn (fun q => h1 q.1)
    exact pair_no hJ (k := 1) (by decide) (by decide) (fun Q => l_line_2 (d := 48 + 100) eA) eB
end LINES
section FRAMES
variable {d p m n t L nh w mk sz r l f k : Nat} {μ μ2 A B : jM} {Q : jO → jM → Prop} {K : Nat → Nat} {T : Nat → List (Nat × Int32)} {x y : Int32} {pn pd : Nat → Int32}
theorem c_frame (hW : jWd μ) (hm : jI μ 1731 0 = iN m) (h6 : m ≤ 6) (hn : jI μ 1731 1 = iN n) (h10 : n ≤ 10) (ht : jI μ 1731 2 = iN t) (ht10 : t ≤ 10) (hl : f < m) (hk : k < 4) : Ex (d + 3) 182 0 [some (.ref 0), some (.int (iN f)), some (.int (iN k))] [] μ Q ↔ Q (.inl (some (.int ((kFrA μ n t f).getD k 0)))) μ := by
  have hw := hW
  unfold jWd at hw
  have hnd := fun (d : Nat) (x : Int32) (Q : jO → jM → Prop) => c_needS (d := d) (x := x) (Q := Q) hW
  have hj : jhas (iN f) (iN m) 6 = 1 := jhas_in hl h6 (by decide)
  have lc : (iN f).toNatClampNeg = f := iN_cl (by omega)
  have lj : jin (iN f) 6 = true := iN_in (by omega) (by omega)
  have h185 := fun (d : Nat) (v : Int32) (Q : jO → jM → Prop) => c_barsn (d := d) (w := v) (Q := Q) hW hn h10
  have h187 := fun (d : Nat) (v : Int32) (Q : jO → jM → Prop) => c_linesIn (d := d) (w := v) (Q := Q) hW hn h10
  have h189 := fun (d : Nat) (v : Int32) (Q : jO → jM → Prop) => c_trunksAt (d := d) (w := v) (Q := Q) hW ht ht10
  have hc : k = 0 ∨ k = 1 ∨ k = 2 ∨ k = 3 := by omega
  rcases hc with rfl | rfl | rfl | rfl
  · have hs : jsw [(0, 36), (1, 46), (2, 55), (3, 66)] 75 ((0 : Int32)) = 36 := by decide
    simp only [x182_0, x182_1, x182_2, x182_5, x182_6, x182_36, x182_37, x182_40, x182_43, x182_44, x182_45, mzi, mInc, mne, mlt9, mrk, mI1, mI2, mI3, mI4, mL1, mL2, mL3, mL4, mQ1, mQ2, mQ3, mQ4, mT1, mcat0, mcat1, mcat2, mcat3, mcat4, mrf1, jK_v, jK_n, JA, mz1, if_true, if_false, ite_true, ite_false, eq_self, not_false_eq_true, Nat.zero_le, true_and, and_true, and_self, Nat.reduceMod, Nat.reduceAdd, Nat.reduceLeDiff, Nat.reduceEqDiff, Nat.reduceLT, hs, hw, hnd, hm, hj, lc, lj, h185, h187, h189]
    rfl
  · have hs : jsw [(0, 36), (1, 46), (2, 55), (3, 66)] 75 (iN 1) = 46 := by decide
    simp only [x182_0, x182_1, x182_2, x182_5, x182_6, x182_46, x182_47, x182_50, x182_51, x182_54, mzi, mInc, mne, mlt9, mrk, mI1, mI2, mI3, mI4, mL1, mL2, mL3, mL4, mQ1, mQ2, mQ3, mQ4, mT1, mcat0, mcat1, mcat2, mcat3, mcat4, mrf1, jK_v, jK_n, JA, mz1, if_true, if_false, ite_true, ite_false, eq_self, not_false_eq_true, Nat.zero_le, true_and, and_true, and_self, Nat.reduceMod, Nat.reduceAdd, Nat.reduceLeDiff, Nat.reduceEqDiff, Nat.reduceLT, hs, hw, hnd, hm, hj, lc, lj, h185, h187, h189]
    rfl
  · have hs : jsw [(0, 36), (1, 46), (2, 55), (3, 66)] 75 (iN 2) = 55 := by decide
    simp only [x182_0, x182_1, x182_2, x182_5, x182_6, x182_55, x182_56, x182_59, x182_60, x182_61, x182_62, x182_65, mzi, mInc, mne, mlt9, mrk, mI1, mI2, mI3, mI4, mL1, mL2, mL3, mL4, mQ1, mQ2, mQ3, mQ4, mT1, mcat0, mcat1, mcat2, mcat3, mcat4, mrf1, jK_v, jK_n, JA, mz1, if_true, if_false, ite_true, ite_false, eq_self, not_false_eq_true, Nat.zero_le, true_and, and_true, and_self, Nat.reduceMod, Nat.reduceAdd, Nat.reduceLeDiff, Nat.reduceEqDiff, Nat.reduceLT, hs, hw, hnd, hm, hj, lc, lj, h185, h187, h189]
    rfl
  · have hs : jsw [(0, 36), (1, 46), (2, 55), (3, 66)] 75 (iN 3) = 66 := by decide
    simp only [x182_0, x182_1, x182_2, x182_5, x182_6, x182_66, x182_67, x182_70, x182_71, x182_74, mzi, mInc, mne, mlt9, mrk, mI1, mI2, mI3, mI4, mL1, mL2, mL3, mL4, mQ1, mQ2, mQ3, mQ4, mT1, mcat0, mcat1, mcat2, mcat3, mcat4, mrf1, jK_v, jK_n, JA, mz1, if_true, if_false, ite_true, ite_false, eq_self, not_false_eq_true, Nat.zero_le, true_and, and_true, and_self, Nat.reduceMod, Nat.reduceAdd, Nat.reduceLeDiff, Nat.reduceEqDiff, Nat.reduceLT, hs, hw, hnd, hm, hj, lc, lj, h185, h187, h189]
    rfl

theorem c_frame_x1 (hW : jWd μ) (hm : jI μ 1731 0 = iN m) (h6 : m ≤ 6) (h : ¬ ∃ l, l < m ∧ x = iN l) : Ex (d + 2) 182 0 [some (.ref 0), some (.int x), some (.int y)] [] μ Q ↔ Q (.inr 2) (jthr μ) := by
  have hnd := fun (d : Nat) (x : Int32) (Q : jO → jM → Prop) => c_needS (d := d) (x := x) (Q := Q) hW
  have hj : jhas x (iN m) 6 = 0 := jhas_no h h6 (by decide)
  have hx : jhs 182 = [] := rfl
  simp only [x182_0, x182_1, x182_2, x182_5, x182_6, x182_36, x182_37, x182_40, x182_43, x182_44, x182_45, x182_46, x182_47, x182_50, x182_51, x182_54, x182_55, x182_56, x182_59, x182_60, x182_61, x182_62, x182_65, x182_66, x182_67, x182_70, x182_71, x182_74, x182_75, mzi, mInc, mne, mlt9, mrk, mI1, mI2, mI3, mI4, mL1, mL2, mL3, mL4, mQ1, mQ2, mQ3, mQ4, mT1, mcat0, mcat1, mcat2, mcat3, mcat4, mrf1, jK_v, jK_n, JA, mz1, if_true, if_false, ite_true, ite_false, eq_self, not_false_eq_true, Nat.zero_le, true_and, and_true, and_self, Nat.reduceMod, Nat.reduceAdd, Nat.reduceLeDiff, Nat.reduceEqDiff, Nat.reduceLT, hnd, hm, hj, hx, jK_x]
theorem c_frame_x2 (hW : jWd μ) (hm : jI μ 1731 0 = iN m) (h6 : m ≤ 6) (hl : f < m) (h : ¬ ∃ k, k < 4 ∧ x = iN k) : Ex (d + 2) 182 0 [some (.ref 0), some (.int (iN f)), some (.int x)] [] μ Q ↔ Q (.inr 2) (jthr μ) := by
  have hnd := fun (d : Nat) (x : Int32) (Q : jO → jM → Prop) => c_needS (d := d) (x := x) (Q := Q) hW
  have hj : jhas (iN f) (iN m) 6 = 1 := jhas_in hl h6 (by decide)
  have hs : jsw [(0, 36), (1, 46), (2, 55), (3, 66)] 75 x = 75 := by
    have ha : ∀ q ∈ [(0, 36), (1, 46), (2, 55), (3, 66)], ∃ k, k < 4 ∧ q.1 = iN k := by decide
    refine jsw_no fun q hq e => ?_
    obtain ⟨k, hk, he⟩ := ha q hq
    exact h ⟨k, hk, e.trans he⟩
  simp only [x182_0, x182_1, x182_2, x182_5, x182_6, x182_36, x182_37, x182_40, x182_43, x182_44, x182_45, x182_46, x182_47, x182_50, x182_51, x182_54, x182_55, x182_56, x182_59, x182_60, x182_61, x182_62, x182_65, x182_66, x182_67, x182_70, x182_71, x182_74, x182_75, mzi, mInc, mne, mlt9, mrk, mI1, mI2, mI3, mI4, mL1, mL2, mL3, mL4, mQ1, mQ2, mQ3, mQ4, mT1, mcat0, mcat1, mcat2, mcat3, mcat4, mrf1, jK_v, jK_n, JA, mz1, if_true, if_false, ite_true, ite_false, eq_self, not_false_eq_true, Nat.zero_le, true_and, and_true, and_self, Nat.reduceMod, Nat.reduceAdd, Nat.reduceLeDiff, Nat.reduceEqDiff, Nat.reduceLT, hnd, hm, hj, hs]
theorem d_frameT (hM : jMp μ p) (hn : jI μ (64 * p + 11) 2 = iN n) (h10 : n ≤ 10) (ht : jI μ (64 * p + 11) 6 = iN t) (ht10 : t ≤ 10) (hl : f < 6) (hk : k < 4) : Ex (d + 1) 193 0 [some (.ref 4490), some (.int (iN f)), some (.int (iN k)), none, none, none] [] μ Q ↔ Q (.inl (some (.int ((kFrB μ p n t f).getD k 0)))) μ := by
  have hld := fun (d : Nat) (v : Int32) (Q : jO → jM → Prop) => d_loads (d := d) (v := v) (Q := Q) hM hn h10
  obtain ⟨hW, hp2, hpl, hq⟩ := hM
  have hw := hW
  unfold jWd at hw
  unfold jMq at hq
  have jp := JP p
  have jpm := JPm p
  have lc : (iN f).toNatClampNeg = f := iN_cl (by omega)
  have lj : jin (iN f) 6 = true := iN_in (by omega) (by omega)
  have loop1 : ∀ (j : Nat) (a : Int32), j < n → (Ex (d + 1) 193 8 [some (.ref 4490), some (.int (iN f)), some (.int (iN k)), some (.int a), some (.int 0), some (.int (iN j))] [] μ Q ↔ Ex (d + 1) 193 8 [some (.ref 4490), some (.int (iN f)), some (.int (iN k)), some (.int (a + (if jI μ (64 * p + 144) j = iN f then 1 else 0))), some (.int 0), some (.int (iN (j + 1)))] [] μ Q) := by
    intro j a hj
    have hlt : iN j < iN n := (iN_lt (by omega) (by omega)).mpr hj
    have kc : (iN j).toNatClampNeg = j := iN_cl (by omega)
    have kj : jin (iN j) 10 = true := iN_in (by omega) (by omega)
    rw [x193_8]
    by_cases g : jI μ (64 * p + 144) j = iN f
    · simp only [x193_0, x193_1a, x193_1b, x193_1c, x193_2, x193_3a, x193_3b, x193_3c, x193_5, x193_6a, x193_6b, x193_6c, x193_10, x193_11, x193_14, x193_17, x193_20, x193_21, x193_22, x193_25, x193_28, x193_30, x193_31, x193_32, x193_35, x193_36, x193_39, x193_40, x193_41a, x193_41b, x193_41c, x193_42a, x193_42b, x193_42c, x193_45, x193_48, x193_49a, x193_49b, x193_49c, x193_53, x193_54, x193_57, x193_60, x193_63, x193_65, x193_66, x193_69, x193_72, x193_74, x193_75, x193_76, x193_79, x193_80, x193_83, x193_86, x193_88, x193_89, x193_90, x193_93, x193_94, x193_97, x193_98, x193_99a, x193_99b, x193_99c, x193_101a, x193_101b, x193_101c, x193_104, x193_107, x193_108, x193_111, x193_112, x193_115, x193_118, x193_119, x193_120, x193_123, x193_124, x193_125, x193_128, x193_129, x193_132, x193_133, x193_136, x193_139, x193_140, x193_141, x193_144, x193_145, x193_148, x193_150, mzi, mInc, mne, mlt9, mrk, mI1, mI2, mI3, mI4, mL1, mL2, mL3, mL4, mQ1, mQ2, mQ3, mQ4, mT1, mcat0, mcat1, mcat2, mcat3, mcat4, mrf1, jK_v, jK_n, JA, mz1, if_true, if_false, ite_true, ite_false, eq_self, not_false_eq_true, Nat.zero_le, true_and, and_true, and_self, Nat.reduceMod, Nat.reduceAdd, Nat.reduceLeDiff, Nat.reduceEqDiff, Nat.reduceLT, hw, hpl, hq, jp, jpm, hn, hlt, kc, kj, g]
    · simp only [x193_0, x193_1a, x193_1b, x193_1c, x193_2, x193_3a, x193_3b, x193_3c, x193_5, x193_6a, x193_6b, x193_6c, x193_10, x193_11, x193_14, x193_17, x193_20, x193_21, x193_22, x193_25, x193_28, x193_30, x193_31, x193_32, x193_35, x193_36, x193_39, x193_40, x193_41a, x193_41b, x193_41c, x193_42a, x193_42b, x193_42c, x193_45, x193_48, x193_49a, x193_49b, x193_49c, x193_53, x193_54, x193_57, x193_60, x193_63, x193_65, x193_66, x193_69, x193_72, x193_74, x193_75, x193_76, x193_79, x193_80, x193_83, x193_86, x193_88, x193_89, x193_90, x193_93, x193_94, x193_97, x193_98, x193_99a, x193_99b, x193_99c, x193_101a, x193_101b, x193_101c, x193_104, x193_107, x193_108, x193_111, x193_112, x193_115, x193_118, x193_119, x193_120, x193_123, x193_124, x193_125, x193_128, x193_129, x193_132, x193_133, x193_136, x193_139, x193_140, x193_141, x193_144, x193_145, x193_148, x193_150, mzi, mInc, mne, mlt9, mrk, mI1, mI2, mI3, mI4, mL1, mL2, mL3, mL4, mQ1, mQ2, mQ3, mQ4, mT1, mcat0, mcat1, mcat2, mcat3, mcat4, mrf1, jK_v, jK_n, JA, mz1, if_true, if_false, ite_true, ite_false, eq_self, not_false_eq_true, Nat.zero_le, true_and, and_true, and_self, Nat.reduceMod, Nat.reduceAdd, Nat.reduceLeDiff, Nat.reduceEqDiff, Nat.reduceLT, hw, hpl, hq, jp, jpm, hn, hlt, kc, kj, g]
  have loop2 : ∀ (j : Nat) (a : Int32), j < t → (Ex (d + 1) 193 51 [some (.ref 4490), some (.int (iN f)), some (.int (iN k)), some (.int (rsum (fun k => if jI μ (64 * p + 144) k = iN f then 1 else 0) n)), some (.int a), some (.int (iN j))] [] μ Q ↔ Ex (d + 1) 193 51 [some (.ref 4490), some (.int (iN f)), some (.int (iN k)), some (.int (rsum (fun k => if jI μ (64 * p + 144) k = iN f then 1 else 0) n)), some (.int (a + (if jI μ (64 * p + 336) j = iN f then 1 else if jI μ (64 * p + 400) j = iN f then 1 else 0))), some (.int (iN (j + 1)))] [] μ Q) := by
    intro j a hj
    have hlt : iN j < iN t := (iN_lt (by omega) (by omega)).mpr hj
    have kc : (iN j).toNatClampNeg = j := iN_cl (by omega)
    have kj : jin (iN j) 10 = true := iN_in (by omega) (by omega)
    rw [x193_51]
    by_cases g : jI μ (64 * p + 336) j = iN f
    · simp only [x193_0, x193_1a, x193_1b, x193_1c, x193_2, x193_3a, x193_3b, x193_3c, x193_5, x193_6a, x193_6b, x193_6c, x193_10, x193_11, x193_14, x193_17, x193_20, x193_21, x193_22, x193_25, x193_28, x193_30, x193_31, x193_32, x193_35, x193_36, x193_39, x193_40, x193_41a, x193_41b, x193_41c, x193_42a, x193_42b, x193_42c, x193_45, x193_48, x193_49a, x193_49b, x193_49c, x193_53, x193_54, x193_57, x193_60, x193_63, x193_65, x193_66, x193_69, x193_72, x193_74, x193_75, x193_76, x193_79, x193_80, x193_83, x193_86, x193_88, x193_89, x193_90, x193_93, x193_94, x193_97, x193_98, x193_99a, x193_99b, x193_99c, x193_101a, x193_101b, x193_101c, x193_104, x193_107, x193_108, x193_111, x193_112, x193_115, x193_118, x193_119, x193_120, x193_123, x193_124, x193_125, x193_128, x193_129, x193_132, x193_133, x193_136, x193_139, x193_140, x193_141, x193_144, x193_145, x193_148, x193_150, mzi, mInc, mne, mlt9, mrk, mI1, mI2, mI3, mI4, mL1, mL2, mL3, mL4, mQ1, mQ2, mQ3, mQ4, mT1, mcat0, mcat1, mcat2, mcat3, mcat4, mrf1, jK_v, jK_n, JA, mz1, if_true, if_false, ite_true, ite_false, eq_self, not_false_eq_true, Nat.zero_le, true_and, and_true, and_self, Nat.reduceMod, Nat.reduceAdd, Nat.reduceLeDiff, Nat.reduceEqDiff, Nat.reduceLT, hw, hpl, hq, jp, jpm, ht, hlt, kc, kj, g]
    · by_cases g2 : jI μ (64 * p + 400) j = iN f
      · simp only [x193_0, x193_1a, x193_1b, x193_1c, x193_2, x193_3a, x193_3b, x193_3c, x193_5, x193_6a, x193_6b, x193_6c, x193_10, x193_11, x193_14, x193_17, x193_20, x193_21, x193_22, x193_25, x193_28, x193_30, x193_31, x193_32, x193_35, x193_36, x193_39, x193_40, x193_41a, x193_41b, x193_41c, x193_42a, x193_42b, x193_42c, x193_45, x193_48, x193_49a, x193_49b, x193_49c, x193_53, x193_54, x193_57, x193_60, x193_63, x193_65, x193_66, x193_69, x193_72, x193_74, x193_75, x193_76, x193_79, x193_80, x193_83, x193_86, x193_88, x193_89, x193_90, x193_93, x193_94, x193_97, x193_98, x193_99a, x193_99b, x193_99c, x193_101a, x193_101b, x193_101c, x193_104, x193_107, x193_108, x193_111, x193_112, x193_115, x193_118, x193_119, x193_120, x193_123, x193_124, x193_125, x193_128, x193_129, x193_132, x193_133, x193_136, x193_139, x193_140, x193_141, x193_144, x193_145, x193_148, x193_150, mzi, mInc, mne, mlt9, mrk, mI1, mI2, mI3, mI4, mL1, mL2, mL3, mL4, mQ1, mQ2, mQ3, mQ4, mT1, mcat0, mcat1, mcat2, mcat3, mcat4, mrf1, jK_v, jK_n, JA, mz1, if_true, if_false, ite_true, ite_false, eq_self, not_false_eq_true, Nat.zero_le, true_and, and_true, and_self, Nat.reduceMod, Nat.reduceAdd, Nat.reduceLeDiff, Nat.reduceEqDiff, Nat.reduceLT, hw, hpl, hq, jp, jpm, ht, hlt, kc, kj, g, g2]
      · simp only [x193_0, x193_1a, x193_1b, x193_1c, x193_2, x193_3a, x193_3b, x193_3c, x193_5, x193_6a, x193_6b, x193_6c, x193_10, x193_11, x193_14, x193_17, x193_20, x193_21, x193_22, x193_25, x193_28, x193_30, x193_31, x193_32, x193_35, x193_36, x193_39, x193_40, x193_41a, x193_41b, x193_41c, x193_42a, x193_42b, x193_42c, x193_45, x193_48, x193_49a, x193_49b, x193_49c, x193_53, x193_54, x193_57, x193_60, x193_63, x193_65, x193_66, x193_69, x193_72, x193_74, x193_75, x193_76, x193_79, x193_80, x193_83, x193_86, x193_88, x193_89, x193_90, x193_93, x193_94, x193_97, x193_98, x193_99a, x193_99b, x193_99c, x193_101a, x193_101b, x193_101c, x193_104, x193_107, x193_108, x193_111, x193_112, x193_115, x193_118, x193_119, x193_120, x193_123, x193_124, x193_125, x193_128, x193_129, x193_132, x193_133, x193_136, x193_139, x193_140, x193_141, x193_144, x193_145, x193_148, x193_150, mzi, mInc, mne, mlt9, mrk, mI1, mI2, mI3, mI4, mL1, mL2, mL3, mL4, mQ1, mQ2, mQ3, mQ4, mT1, mcat0, mcat1, mcat2, mcat3, mcat4, mrf1, jK_v, jK_n, JA, mz1, if_true, if_false, ite_true, ite_false, eq_self, not_false_eq_true, Nat.zero_le, true_and, and_true, and_self, Nat.reduceMod, Nat.reduceAdd, Nat.reduceLeDiff, Nat.reduceEqDiff, Nat.reduceLT, hw, hpl, hq, jp, jpm, ht, hlt, kc, kj, g, g2]
  have e1 := jfold_loop (P := fun j a => Ex (d + 1) 193 8 [some (.ref 4490), some (.int (iN f)), some (.int (iN k)), some (.int a), some (.int 0), some (.int (iN j))] [] μ Q) loop1 n 0 0 (by omega)
  have e2 := jfold_loop (P := fun j a => Ex (d + 1) 193 51 [some (.ref 4490), some (.int (iN f)), some (.int (iN k)), some (.int (rsum (fun k => if jI μ (64 * p + 144) k = iN f then 1 else 0) n)), some (.int a), some (.int (iN j))] [] μ Q) loop2 t 0 0 (by omega)
  have ge1 : ¬ iN n < iN n := iN_irr (by omega)
  have ge2 : ¬ iN t < iN t := iN_irr (by omega)
  have h1 : Ex (d + 1) 193 0 [some (.ref 4490), some (.int (iN f)), some (.int (iN k)), none, none, none] [] μ Q ↔ Ex (d + 1) 193 8 [some (.ref 4490), some (.int (iN f)), some (.int (iN k)), some (.int 0), some (.int 0), some (.int (iN 0))] [] μ Q := by
    simp only [x193_0, x193_1a, x193_1b, x193_1c, x193_2, x193_3a, x193_3b, x193_3c, x193_5, x193_6a, x193_6b, x193_6c, x193_10, x193_11, x193_14, x193_17, x193_20, x193_21, x193_22, x193_25, x193_28, x193_30, x193_31, x193_32, x193_35, x193_36, x193_39, x193_40, x193_41a, x193_41b, x193_41c, x193_42a, x193_42b, x193_42c, x193_45, x193_48, x193_49a, x193_49b, x193_49c, x193_53, x193_54, x193_57, x193_60, x193_63, x193_65, x193_66, x193_69, x193_72, x193_74, x193_75, x193_76, x193_79, x193_80, x193_83, x193_86, x193_88, x193_89, x193_90, x193_93, x193_94, x193_97, x193_98, x193_99a, x193_99b, x193_99c, x193_101a, x193_101b, x193_101c, x193_104, x193_107, x193_108, x193_111, x193_112, x193_115, x193_118, x193_119, x193_120, x193_123, x193_124, x193_125, x193_128, x193_129, x193_132, x193_133, x193_136, x193_139, x193_140, x193_141, x193_144, x193_145, x193_148, x193_150, mzi, mInc, mne, mlt9, mrk, mI1, mI2, mI3, mI4, mL1, mL2, mL3, mL4, mQ1, mQ2, mQ3, mQ4, mT1, mcat0, mcat1, mcat2, mcat3, mcat4, mrf1, jK_v, jK_n, JA, mz1, if_true, if_false, ite_true, ite_false, eq_self, not_false_eq_true, Nat.zero_le, true_and, and_true, and_self, Nat.reduceMod, Nat.reduceAdd, Nat.reduceLeDiff, Nat.reduceEqDiff, Nat.reduceLT, hw, hpl, hq, jp, jpm]
  have h2 : Ex (d + 1) 193 8 [some (.ref 4490), some (.int (iN f)), some (.int (iN k)), some (.int (rsum (fun k => if jI μ (64 * p + 144) k = iN f then 1 else 0) n)), some (.int 0), some (.int (iN n))] [] μ Q ↔ Ex (d + 1) 193 51 [some (.ref 4490), some (.int (iN f)), some (.int (iN k)), some (.int (rsum (fun k => if jI μ (64 * p + 144) k = iN f then 1 else 0) n)), some (.int 0), some (.int (iN 0))] [] μ Q := by
    simp only [↓if_neg ge1, x193_8, x193_0, x193_1a, x193_1b, x193_1c, x193_2, x193_3a, x193_3b, x193_3c, x193_5, x193_6a, x193_6b, x193_6c, x193_10, x193_11, x193_14, x193_17, x193_20, x193_21, x193_22, x193_25, x193_28, x193_30, x193_31, x193_32, x193_35, x193_36, x193_39, x193_40, x193_41a, x193_41b, x193_41c, x193_42a, x193_42b, x193_42c, x193_45, x193_48, x193_49a, x193_49b, x193_49c, x193_53, x193_54, x193_57, x193_60, x193_63, x193_65, x193_66, x193_69, x193_72, x193_74, x193_75, x193_76, x193_79, x193_80, x193_83, x193_86, x193_88, x193_89, x193_90, x193_93, x193_94, x193_97, x193_98, x193_99a, x193_99b, x193_99c, x193_101a, x193_101b, x193_101c, x193_104, x193_107, x193_108, x193_111, x193_112, x193_115, x193_118, x193_119, x193_120, x193_123, x193_124, x193_125, x193_128, x193_129, x193_132, x193_133, x193_136, x193_139, x193_140, x193_141, x193_144, x193_145, x193_148, x193_150, mzi, mInc, mne, mlt9, mrk, mI1, mI2, mI3, mI4, mL1, mL2, mL3, mL4, mQ1, mQ2, mQ3, mQ4, mT1, mcat0, mcat1, mcat2, mcat3, mcat4, mrf1, jK_v, jK_n, JA, mz1, if_true, if_false, ite_true, ite_false, eq_self, not_false_eq_true, Nat.zero_le, true_and, and_true, and_self, Nat.reduceMod, Nat.reduceAdd, Nat.reduceLeDiff, Nat.reduceEqDiff, Nat.reduceLT, hw, hpl, hq, jp, jpm, hn, ge1]
  have h3 : Ex (d + 1) 193 51 [some (.ref 4490), some (.int (iN f)), some (.int (iN k)), some (.int (rsum (fun k => if jI μ (64 * p + 144) k = iN f then 1 else 0) n)), some (.int (rsum (fun j => if jI μ (64 * p + 336) j = iN f then 1 else if jI μ (64 * p + 400) j = iN f then 1 else 0) t)), some (.int (iN t))] [] μ Q ↔ Q (.inl (some (.int ((kFrB μ p n t f).getD k 0)))) μ := by
    have hc : k = 0 ∨ k = 1 ∨ k = 2 ∨ k = 3 := by omega
    have q1 : ¬ iN 2 = 0 ∧ ¬ iN 3 = 0 ∧ ¬ iN 1 = 0 ∧ ¬ iN 2 = 1 ∧ ¬ iN 3 = 1 ∧ ¬ iN 3 = 2 ∧ iN 1 = 1 ∧ iN 2 = 2 := by decide
    rcases hc with rfl | rfl | rfl | rfl
    · simp only [↓if_neg ge2, x193_51, x193_0, x193_1a, x193_1b, x193_1c, x193_2, x193_3a, x193_3b, x193_3c, x193_5, x193_6a, x193_6b, x193_6c, x193_10, x193_11, x193_14, x193_17, x193_20, x193_21, x193_22, x193_25, x193_28, x193_30, x193_31, x193_32, x193_35, x193_36, x193_39, x193_40, x193_41a, x193_41b, x193_41c, x193_42a, x193_42b, x193_42c, x193_45, x193_48, x193_49a, x193_49b, x193_49c, x193_53, x193_54, x193_57, x193_60, x193_63, x193_65, x193_66, x193_69, x193_72, x193_74, x193_75, x193_76, x193_79, x193_80, x193_83, x193_86, x193_88, x193_89, x193_90, x193_93, x193_94, x193_97, x193_98, x193_99a, x193_99b, x193_99c, x193_101a, x193_101b, x193_101c, x193_104, x193_107, x193_108, x193_111, x193_112, x193_115, x193_118, x193_119, x193_120, x193_123, x193_124, x193_125, x193_128, x193_129, x193_132, x193_133, x193_136, x193_139, x193_140, x193_141, x193_144, x193_145, x193_148, x193_150, mzi, mInc, mne, mlt9, mrk, mI1, mI2, mI3, mI4, mL1, mL2, mL3, mL4, mQ1, mQ2, mQ3, mQ4, mT1, mcat0, mcat1, mcat2, mcat3, mcat4, mrf1, jK_v, jK_n, JA, mz1, if_true, if_false, ite_true, ite_false, eq_self, not_false_eq_true, Nat.zero_le, true_and, and_true, and_self, Nat.reduceMod, Nat.reduceAdd, Nat.reduceLeDiff, Nat.reduceEqDiff, Nat.reduceLT, hw, hpl, hq, jp, jpm, ht, ge2, lc, lj]
      rfl
    · simp only [↓if_neg ge2, x193_51, x193_0, x193_1a, x193_1b, x193_1c, x193_2, x193_3a, x193_3b, x193_3c, x193_5, x193_6a, x193_6b, x193_6c, x193_10, x193_11, x193_14, x193_17, x193_20, x193_21, x193_22, x193_25, x193_28, x193_30, x193_31, x193_32, x193_35, x193_36, x193_39, x193_40, x193_41a, x193_41b, x193_41c, x193_42a, x193_42b, x193_42c, x193_45, x193_48, x193_49a, x193_49b, x193_49c, x193_53, x193_54, x193_57, x193_60, x193_63, x193_65, x193_66, x193_69, x193_72, x193_74, x193_75, x193_76, x193_79, x193_80, x193_83, x193_86, x193_88, x193_89, x193_90, x193_93, x193_94, x193_97, x193_98, x193_99a, x193_99b, x193_99c, x193_101a, x193_101b, x193_101c, x193_104, x193_107, x193_108, x193_111, x193_112, x193_115, x193_118, x193_119, x193_120, x193_123, x193_124, x193_125, x193_128, x193_129, x193_132, x193_133, x193_136, x193_139, x193_140, x193_141, x193_144, x193_145, x193_148, x193_150, mzi, mInc, mne, mlt9, mrk, mI1, mI2, mI3, mI4, mL1, mL2, mL3, mL4, mQ1, mQ2, mQ3, mQ4, mT1, mcat0, mcat1, mcat2, mcat3, mcat4, mrf1, jK_v, jK_n, JA, mz1, if_true, if_false, ite_true, ite_false, eq_self, not_false_eq_true, Nat.zero_le, true_and, and_true, and_self, Nat.reduceMod, Nat.reduceAdd, Nat.reduceLeDiff, Nat.reduceEqDiff, Nat.reduceLT, hw, hpl, hq, jp, jpm, ht, ge2, q1, hld]
      rfl
    · simp only [↓if_neg ge2, x193_51, x193_0, x193_1a, x193_1b, x193_1c, x193_2, x193_3a, x193_3b, x193_3c, x193_5, x193_6a, x193_6b, x193_6c, x193_10, x193_11, x193_14, x193_17, x193_20, x193_21, x193_22, x193_25, x193_28, x193_30, x193_31, x193_32, x193_35, x193_36, x193_39, x193_40, x193_41a, x193_41b, x193_41c, x193_42a, x193_42b, x193_42c, x193_45, x193_48, x193_49a, x193_49b, x193_49c, x193_53, x193_54, x193_57, x193_60, x193_63, x193_65, x193_66, x193_69, x193_72, x193_74, x193_75, x193_76, x193_79, x193_80, x193_83, x193_86, x193_88, x193_89, x193_90, x193_93, x193_94, x193_97, x193_98, x193_99a, x193_99b, x193_99c, x193_101a, x193_101b, x193_101c, x193_104, x193_107, x193_108, x193_111, x193_112, x193_115, x193_118, x193_119, x193_120, x193_123, x193_124, x193_125, x193_128, x193_129, x193_132, x193_133, x193_136, x193_139, x193_140, x193_141, x193_144, x193_145, x193_148, x193_150, mzi, mInc, mne, mlt9, mrk, mI1, mI2, mI3, mI4, mL1, mL2, mL3, mL4, mQ1, mQ2, mQ3, mQ4, mT1, mcat0, mcat1, mcat2, mcat3, mcat4, mrf1, jK_v, jK_n, JA, mz1, if_true, if_false, ite_true, ite_false, eq_self, not_false_eq_true, Nat.zero_le, true_and, and_true, and_self, Nat.reduceMod, Nat.reduceAdd, Nat.reduceLeDiff, Nat.reduceEqDiff, Nat.reduceLT, hw, hpl, hq, jp, jpm, ht, ge2, q1, (show ¬ (2 : Int32) = 0 by decide), (show ¬ (2 : Int32) = 1 by decide)]
      rfl
    · simp only [↓if_neg ge2, x193_51, x193_0, x193_1a, x193_1b, x193_1c, x193_2, x193_3a, x193_3b, x193_3c, x193_5, x193_6a, x193_6b, x193_6c, x193_10, x193_11, x193_14, x193_17, x193_20, x193_21, x193_22, x193_25, x193_28, x193_30, x193_31, x193_32, x193_35, x193_36, x193_39, x193_40, x193_41a, x193_41b, x193_41c, x193_42a, x193_42b, x193_42c, x193_45, x193_48, x193_49a, x193_49b, x193_49c, x193_53, x193_54, x193_57, x193_60, x193_63, x193_65, x193_66, x193_69, x193_72, x193_74, x193_75, x193_76, x193_79, x193_80, x193_83, x193_86, x193_88, x193_89, x193_90, x193_93, x193_94, x193_97, x193_98, x193_99a, x193_99b, x193_99c, x193_101a, x193_101b, x193_101c, x193_104, x193_107, x193_108, x193_111, x193_112, x193_115, x193_118, x193_119, x193_120, x193_123, x193_124, x193_125, x193_128, x193_129, x193_132, x193_133, x193_136, x193_139, x193_140, x193_141, x193_144, x193_145, x193_148, x193_150, mzi, mInc, mne, mlt9, mrk, mI1, mI2, mI3, mI4, mL1, mL2, mL3, mL4, mQ1, mQ2, mQ3, mQ4, mT1, mcat0, mcat1, mcat2, mcat3, mcat4, mrf1, jK_v, jK_n, JA, mz1, if_true, if_false, ite_true, ite_false, eq_self, not_false_eq_true, Nat.zero_le, true_and, and_true, and_self, Nat.reduceMod, Nat.reduceAdd, Nat.reduceLeDiff, Nat.reduceEqDiff, Nat.reduceLT, hw, hpl, hq, jp, jpm, ht, ge2, q1]
      rfl
  rw [h1, e1]
  show Ex (d + 1) 193 8 [some (.ref 4490), some (.int (iN f)), some (.int (iN k)), some (.int (rsum (fun k => if jI μ (64 * p + 144) k = iN f then 1 else 0) n)), some (.int 0), some (.int (iN n))] [] μ Q ↔ _
  rw [h2, e2]
  exact h3
theorem d_frame (hM : jMp μ p) (hm : jI μ (64 * p + 11) 0 = iN m) (h6 : m ≤ 6) (hn : jI μ (64 * p + 11) 2 = iN n) (h10 : n ≤ 10) (ht : jI μ (64 * p + 11) 6 = iN t) (ht10 : t ≤ 10) (hl : f < m) (hk : k < 4) : Ex (d + 2) 191 0 [some (.ref 4490), some (.int (iN f)), some (.int (iN k))] [] μ Q ↔ Q (.inl (some (.int ((kFrB μ p n t f).getD k 0)))) (jsI μ 4490 0 0) := by
  have hf := hM.2.1
  have hM' : jMp (jsI μ 4490 0 0) p := by rw [jMp_I]; exact hM
  have hm' : jI (jsI μ 4490 0 0) (64 * p + 11) 0 = iN m := by rw [mI2 (by omega)]; exact hm
  have hT := fun (d : Nat) (Q : jO → jM → Prop) => d_frameT (d := d) (f := f) (k := k) (n := n) (t := t) (μ := jsI μ 4490 0 0) (Q := Q) hM' (by rw [mI2 (by omega)]; exact hn) h10 (by rw [mI2 (by omega)]; exact ht) ht10 (by omega) hk
  have e0 : kFrB (jsI μ 4490 0 0) p n t f = kFrB μ p n t f := by
    unfold kFrB
    rw [mI2 (by omega), mI2 (by decide), mI2 (by decide), mI2 (by omega), mI2 (by omega), mI2 (by omega)]
  rw [e0] at hT
  have hL := fun (d : Nat) (x : Int32) (Q : jO → jM → Prop) => d_isS (d := d) (x := x) (Q := Q) hM' hm' h6
  have hin := fun (d : Nat) (μ : jM) (v lo hi : Int32) (Q : jO → jM → Prop) => d_isIn (d := d) (μ := μ) (v := v) (lo := lo) (hi := hi) (Q := Q)
  have hj : jhas (iN f) (iN m) 6 = 1 := jhas_in hl h6 (by decide)
  have hj2 : jhas (iN k) (iN 4) (iN 4) = 1 := jhas_in hk (by decide) (by decide)
  simp only [x191_0, x191_1, x191_2, x191_5, x191_6, x191_7, x191_10, x191_13, x191_14, x191_15, x191_16, x191_19, x191_22, x191_23, x191_24, x191_25, x191_28, x191_31, x191_32, x191_33, x191_36, mzi, mInc, mne, mlt9, mrk, mI1, mI2, mI3, mI4, mL1, mL2, mL3, mL4, mQ1, mQ2, mQ3, mQ4, mT1, mcat0, mcat1, mcat2, mcat3, mcat4, mrf1, jK_v, jK_n, JA, mz1, if_true, if_false, ite_true, ite_false, eq_self, not_false_eq_true, Nat.zero_le, true_and, and_true, and_self, Nat.reduceMod, Nat.reduceAdd, Nat.reduceLeDiff, Nat.reduceEqDiff, Nat.reduceLT, hL, hj, hin, isIn3, hj2, hT]
theorem d_frame_x (hM : jMp μ p) (hm : jI μ (64 * p + 11) 0 = iN m) (h6 : m ≤ 6) (h : ¬ ((∃ l, l < m ∧ x = iN l) ∧ ∃ k, k < 4 ∧ y = iN k)) : Ex (d + 2) 191 0 [some (.ref 4490), some (.int x), some (.int y)] [] μ Q ↔ Q (.inl (some (.int 0))) (jsI (jsI μ 4490 0 0) 4490 0 1) := by
  have hf := hM.2.1
  have hM' : jMp (jsI μ 4490 0 0) p := by rw [jMp_I]; exact hM
  have hm' : jI (jsI μ 4490 0 0) (64 * p + 11) 0 = iN m := by rw [mI2 (by omega)]; exact hm
  have hL := fun (d : Nat) (x : Int32) (Q : jO → jM → Prop) => d_isS (d := d) (x := x) (Q := Q) hM' hm' h6
  have hin := fun (d : Nat) (μ : jM) (v lo hi : Int32) (Q : jO → jM → Prop) => d_isIn (d := d) (μ := μ) (v := v) (lo := lo) (hi := hi) (Q := Q)
  have hno := fun (d : Nat) (μ : jM) (k : Int32) (Q : jO → jM → Prop) => d_no (d := d) (μ := μ) (k := k) (Q := Q)
  by_cases h1 : ∃ l, l < m ∧ x = iN l
  · have hj2 : jhas y (iN 4) (iN 4) = 0 := jhas_no (fun q => h ⟨h1, q⟩) (by decide) (by decide)
    obtain ⟨l, hl, rfl⟩ := h1
    have hj : jhas (iN l) (iN m) 6 = 1 := jhas_in hl h6 (by decide)
    simp only [x191_0, x191_1, x191_2, x191_5, x191_6, x191_7, x191_10, x191_13, x191_14, x191_15, x191_16, x191_19, x191_22, x191_23, x191_24, x191_25, x191_28, x191_31, x191_32, x191_33, x191_36, mzi, mInc, mne, mlt9, mrk, mI1, mI2, mI3, mI4, mL1, mL2, mL3, mL4, mQ1, mQ2, mQ3, mQ4, mT1, mcat0, mcat1, mcat2, mcat3, mcat4, mrf1, jK_v, jK_n, JA, mz1, if_true, if_false, ite_true, ite_false, eq_self, not_false_eq_true, Nat.zero_le, true_and, and_true, and_self, Nat.reduceMod, Nat.reduceAdd, Nat.reduceLeDiff, Nat.reduceEqDiff, Nat.reduceLT, hL, hj, hin, isIn3, hj2, hno]
  · have hj : jhas x (iN m) 6 = 0 := jhas_no h1 h6 (by decide)
    simp only [x191_0, x191_1, x191_2, x191_5, x191_6, x191_7, x191_10, x191_13, x191_14, x191_15, x191_16, x191_19, x191_22, x191_23, x191_24, x191_25, x191_28, x191_31, x191_32, x191_33, x191_36, mzi, mInc, mne, mlt9, mrk, mI1, mI2, mI3, mI4, mL1, mL2, mL3, mL4, mQ1, mQ2, mQ3, mQ4, mT1, mcat0, mcat1, mcat2, mcat3, mcat4, mrf1, jK_v, jK_n, JA, mz1, if_true, if_false, ite_true, ite_false, eq_self, not_false_eq_true, Nat.zero_le, true_and, and_true, and_self, Nat.reduceMod, Nat.reduceAdd, Nat.reduceLeDiff, Nat.reduceEqDiff, Nat.reduceLT, hL, hj, hno]
theorem op_frame (x y : Int32) (hJ : jJp μ p m n t L K nh T w mk sz) : jPair μ 181 191 [some (.ref 0), some (.int x), some (.int y), some (.ref 7647), none] [some (.ref 4490), some (.int x), some (.int y)] := by
  have hJ' := hJ
  obtain ⟨h09, ⟨z1, z2⟩, h120, hR, hX, hp⟩ := hJ'
  have hW : jWd μ := hR.1.1
  obtain ⟨P1, P2, P3, P4, P5, P6, P7, _⟩ := hR.1
  by_cases h1 : ∃ l, l < m ∧ x = iN l
  · by_cases h2 : ∃ k, k < 4 ∧ y = iN k
    · obtain ⟨f, hl, rfl⟩ := h1
      obtain ⟨k, hk, rfl⟩ := h2
      have eA := fun (Q : jO → jM → Prop) => c_frame (d := 48 + 97) (Q := Q) hW P2 P3 P4 P5 P6 P7 hl hk
      generalize hv : (kFrA μ n t f).getD k 0 = v at eA
      have hM : jMp (jsL μ 7647 0 v.toInt64) p := jMp_c rfl hR.2.1
      have eB := fun (Q : jO → jM → Prop) => d_frame (d := 48 + 99) (Q := Q) (μ := jsL μ 7647 0 v.toInt64) (n := n) (t := t) hM hR.2.2.1 P3 hR.2.2.2.1 P5 hR.2.2.2.2.1 P7 hl hk
      have e1 : kFrB (jsL μ 7647 0 v.toInt64) p n t f = kFrB μ p n t f := rfl
      rw [e1, ← kFr_eq hR hX hl, hv] at eB
      exact pair_1 hJ v (fun Q => l_frame_v (d := 48 + 100) eA) eB
    · obtain ⟨l, hl, rfl⟩ := h1
      have eA := fun (Q : jO → jM → Prop) => c_frame_x2 (d := 48 + 98) (μ := μ) (Q := Q) hW P2 P3 hl h2
      have eB := fun (Q : jO → jM → Prop) => d_frame_x (d := 48 + 99) (μ := jthr μ) (x := iN l) (y := y) (Q := Q) (jMp_c rfl hR.2.1) hR.2.2.1 P3 (fun q => h2 q.2)
      exact pair_no hJ (k := 1) (by decide) (by decide) (fun Q => l_frame_2 (d := 48 + 100) eA) eB
  · have eA := fun (Q : jO → jM → Prop) => c_frame_x1 (d := 48 + 98) (μ := μ) (y := y) (Q := Q) hW P2 P3 h1
    have eB := fun (Q : jO → jM → Prop) => d_frame_x (d := 48 + 99) (μ := jthr μ) (x := x) (y := y) (Q := Q) (jMp_c rfl hR.2.1) hR.2.2.1 P3 (fun q => h1 q.1)
    exact pair_no hJ (k := 1) (by decide) (by decide) (fun Q => l_frame_2 (d := 48 + 100) eA) eB
end FRAMES
