/-! THE PURE PART: the law over a script. -/
section LAWL
variable {i L : Nat} {μ : jM} {t5 t6 t7 t8 : Option Value}
theorem iN_sub6 {L : Nat} (h : 6 ≤ L) : iN L - 6 = iN (L - 6) := by
  have e : iN (L - 6) + 6 = iN L := by
    rw [show (6 : Int32) = iN 6 from rfl, iN_add, show L - 6 + 6 = L by omega]
  rw [← e, Int32.add_sub_cancel]
theorem iN_lt6 : ∀ L, L < 6 → iN L - 6 < 0 := by decide
theorem law_end (h : L < i + 6) (hi : i ≤ 3072) (hL : L ≤ 3072) : iN L - 6 < iN i := by
  by_cases h6 : 6 ≤ L
  · rw [iN_sub6 h6, iN_lt (by omega) (by omega)]
    omega
  · exact Int32.lt_of_lt_of_le (iN_lt6 L (by omega)) (Int32.not_lt.mp (iN_nn (by omega)))
theorem law_cont (h : i + 6 ≤ L) (hL : L ≤ 3072) : ¬ iN L - 6 < iN i := by
  rw [iN_sub6 (by omega), iN_lt (by omega) (by omega)]
  omega
/-- one call of the script -/
theorem law_it (hJ : jJ μ) (h45 : jI μ 45 0 = iN L) (hi : i + 6 ≤ L) (hL : L ≤ 3072) : ∃ (μ2 : jM) (u5 u6 u7 u8 : Option Value), jGk μ μ2 ∧ ∀ (Q : jO → jM → Prop), (Ex (48 + 101 + 1) 0 23 [some (.ref 44), some (.ref 0), some (.ref 4490), some (.ref 7647), some (.int (iN i)), t5, t6, t7, t8] [] μ Q ↔ Ex (48 + 101 + 1) 0 23 [some (.ref 44), some (.ref 0), some (.ref 4490), some (.ref 7647), some (.int (iN (i + 6))), u5, u6, u7, u8] [] μ2 Q) := by
  obtain ⟨p, m, n, t, L', K, nh, T, w, mk, sz, hJp⟩ := jJ_to hJ
  obtain ⟨e1, e2, e3⟩ := j44
  have a0 := iN_at hL (show i < L by omega)
  have hl : (iN L).toNatClampNeg = L := iN_cl (by omega)
  have hc := law_cont hi hL
  have f6 : iN i + 6 = iN (i + 6) := (iN_p i).2.2.2.2
  have h0 : ∀ (Q : jO → jM → Prop), Ex (48 + 101 + 1) 0 23 [some (.ref 44), some (.ref 0), some (.ref 4490), some (.ref 7647), some (.int (iN i)), t5, t6, t7, t8] [] μ Q ↔ Ex (48 + 101 + 1) 0 (jsw [(0, 144), (1, 248), (2, 304), (3, 317), (4, 330), (5, 386), (6, 442), (7, 498), (8, 566), (9, 622), (10, 690), (11, 758), (12, 826), (13, 894), (14, 962), (15, 1030), (16, 1098), (17, 1154), (18, 1222), (19, 1278), (20, 1346), (21, 1387)] 1401 (jI μ 44 i &&& 31)) [some (.ref 44), some (.ref 0), some (.ref 4490), some (.ref 7647), some (.int (iN i)), t5, t6, t7, t8] [] μ Q := fun Q => by
    rw [x0_23]
    simp only [x0_25, x0_26, x0_27, x0_29, x0_30, x0_33, x0_34, x0_36, x0_37, x0_39, x0_40, mzi, mInc, mne, mlt9, mrk, mI1, mI2, mI3, mI4, mL1, mL2, mL3, mL4, mQ1, mQ2, mQ3, mQ4, mT1, mcat0, mcat1, mcat2, mcat3, mcat4, mrf1, jK_v, jK_n, JA, mz1, if_true, if_false, ite_true, ite_false, eq_self, not_false_eq_true, Nat.zero_le, true_and, and_true, and_self, Nat.reduceMod, Nat.reduceAdd, Nat.reduceLeDiff, Nat.reduceEqDiff, Nat.reduceLT, e1, e2, e3, a0, hl, h45, hc]
  have h1 : ∀ (ν : jM) (u5 u6 u7 u8 : Option Value) (Q : jO → jM → Prop), Ex (48 + 101 + 1) 0 1401 [some (.ref 44), some (.ref 0), some (.ref 4490), some (.ref 7647), some (.int (iN i)), u5, u6, u7, u8] [] ν Q ↔ Ex (48 + 101 + 1) 0 23 [some (.ref 44), some (.ref 0), some (.ref 4490), some (.ref 7647), some (.int (iN (i + 6))), u5, u6, u7, u8] [] ν Q := fun ν u5 u6 u7 u8 Q => by
    simp only [x0_1401a, x0_1401b, x0_1401c, x0_1404, f6]
  have fin : ∀ (pc : Nat), jsw [(0, 144), (1, 248), (2, 304), (3, 317), (4, 330), (5, 386), (6, 442), (7, 498), (8, 566), (9, 622), (10, 690), (11, 758), (12, 826), (13, 894), (14, 962), (15, 1030), (16, 1098), (17, 1154), (18, 1222), (19, 1278), (20, 1346), (21, 1387)] 1401 (jI μ 44 i &&& 31) = pc → (∃ (μ2 : jM) (u5 u6 u7 u8 : Option Value), jGk μ μ2 ∧ ∀ (Q : jO → jM → Prop), (Ex (48 + 101 + 1) 0 pc [some (.ref 44), some (.ref 0), some (.ref 4490), some (.ref 7647), some (.int (iN i)), t5, t6, t7, t8] [] μ Q ↔ Ex (48 + 101 + 1) 0 1401 [some (.ref 44), some (.ref 0), some (.ref 4490), some (.ref 7647), some (.int (iN i)), u5, u6, u7, u8] [] μ2 Q)) → ∃ (μ2 : jM) (u5 u6 u7 u8 : Option Value), jGk μ μ2 ∧ ∀ (Q : jO → jM → Prop), (Ex (48 + 101 + 1) 0 23 [some (.ref 44), some (.ref 0), some (.ref 4490), some (.ref 7647), some (.int (iN i)), t5, t6, t7, t8] [] μ Q ↔ Ex (48 + 101 + 1) 0 23 [some (.ref 44), some (.ref 0), some (.ref 4490), some (.ref 7647), some (.int (iN (i + 6))), u5, u6, u7, u8] [] μ2 Q) := by
    intro pc hpc ⟨μ2, u5, u6, u7, u8, hG, hE⟩
    refine ⟨μ2, u5, u6, u7, u8, hG, fun Q => ?_⟩
    rw [h0, hpc, hE, h1]
  by_cases c0 : jI μ 44 i &&& 31 = 0
  · refine fin 144 (by rw [c0]; decide) ?_
    obtain ⟨k, v, μ1, μ2, hk, hA, g44, g45, hB, ht, hv, hG⟩ := op_feed (jI μ 44 (i + 1)) (jI μ 44 (i + 2)) (jI μ 44 (i + 3)) (jI μ 44 (i + 4)) (jI μ 44 (i + 5)) hJp
    exact ⟨μ2, _, _, _, _, hG, fun Q => lw_feed hi hL h45 rfl rfl rfl rfl rfl hA g44 g45 hB ht hk hv⟩
  by_cases c1 : jI μ 44 i &&& 31 = 1
  · refine fin 248 (by rw [c1]; decide) ?_
    obtain ⟨k, v, μ1, μ2, hk, hA, g44, g45, hB, ht, hv, hG⟩ := op_trim (jI μ 44 (i + 1)) hJp
    exact ⟨μ2, _, _, _, _, hG, fun Q => lw_trim hi hL h45 rfl hA g44 g45 hB ht hk hv⟩
  by_cases c2 : jI μ 44 i &&& 31 = 2
  · refine fin 304 (by rw [c2]; decide) ?_
    obtain ⟨e, μ1, μ2, _, hG, hA, hB⟩ := op_teach hJ
    exact ⟨μ2, _, _, _, _, hG, fun Q => lw_teach hA hB⟩
  by_cases c3 : jI μ 44 i &&& 31 = 3
  · refine fin 317 (by rw [c3]; decide) ?_
    obtain ⟨v, μ2, hG, hA, hB⟩ := op_errorAt hJp
    exact ⟨μ2, _, _, _, _, hG, fun Q => lw_errorAt hA hB⟩
  by_cases c4 : jI μ 44 i &&& 31 = 4
  · refine fin 330 (by rw [c4]; decide) ?_
    obtain ⟨k, v, μ1, μ2, hk, hA, g44, g45, hB, ht, hv, hG⟩ := op_count (jI μ 44 (i + 1)) hJp
    exact ⟨μ2, _, _, _, _, hG, fun Q => lw_count hi hL h45 rfl hA g44 g45 hB ht hk hv⟩
  by_cases c5 : jI μ 44 i &&& 31 = 5
  · refine fin 386 (by rw [c5]; decide) ?_
    obtain ⟨k, v, μ1, μ2, hk, hA, g44, g45, hB, ht, hv, hG⟩ := op_setMarkers (jI μ 44 (i + 1)) hJp
    exact ⟨μ2, _, _, _, _, hG, fun Q => lw_setMarkers hi hL h45 rfl hA g44 g45 hB ht hk hv⟩
  by_cases c6 : jI μ 44 i &&& 31 = 6
  · refine fin 442 (by rw [c6]; decide) ?_
    obtain ⟨k, v, μ1, μ2, hk, hA, g44, g45, hB, ht, hv, hG⟩ := op_lift (jI μ 44 (i + 1)) hJp
    exact ⟨μ2, _, _, _, _, hG, fun Q => lw_lift hi hL h45 rfl hA g44 g45 hB ht hk hv⟩
  by_cases c7 : jI μ 44 i &&& 31 = 7
  · refine fin 498 (by rw [c7]; decide) ?_
    obtain ⟨k, v, μ1, μ2, hk, hA, g44, g45, hB, ht, hv, hG⟩ := op_dial (jI μ 44 (i + 1)) (jI μ 44 (i + 2)) hJp
    exact ⟨μ2, _, _, _, _, hG, fun Q => lw_dial hi hL h45 rfl rfl hA g44 g45 hB ht hk hv⟩
  by_cases c8 : jI μ 44 i &&& 31 = 8
  · refine fin 566 (by rw [c8]; decide) ?_
    obtain ⟨k, v, μ1, μ2, hk, hA, g44, g45, hB, ht, hv, hG⟩ := op_hang (jI μ 44 (i + 1)) hJp
    exact ⟨μ2, _, _, _, _, hG, fun Q => lw_hang hi hL h45 rfl hA g44 g45 hB ht hk hv⟩
  by_cases c9 : jI μ 44 i &&& 31 = 9
  · refine fin 622 (by rw [c9]; decide) ?_
    obtain ⟨k, v, μ1, μ2, hk, hA, g44, g45, hB, ht, hv, hG⟩ := op_line (jI μ 44 (i + 1)) (jI μ 44 (i + 2)) hJp
    exact ⟨μ2, _, _, _, _, hG, fun Q => lw_line hi hL h45 rfl rfl hA g44 g45 hB ht hk hv⟩
  by_cases c10 : jI μ 44 i &&& 31 = 10
  · refine fin 690 (by rw [c10]; decide) ?_
    obtain ⟨k, v, μ1, μ2, hk, hA, g44, g45, hB, ht, hv, hG⟩ := op_frame (jI μ 44 (i + 1)) (jI μ 44 (i + 2)) hJp
    exact ⟨μ2, _, _, _, _, hG, fun Q => lw_frame hi hL h45 rfl rfl hA g44 g45 hB ht hk hv⟩
  by_cases c11 : jI μ 44 i &&& 31 = 11
  · refine fin 758 (by rw [c11]; decide) ?_
    obtain ⟨k, v, μ1, μ2, hk, hA, g44, g45, hB, ht, hv, hG⟩ := op_trunk (jI μ 44 (i + 1)) (jI μ 44 (i + 2)) hJp
    exact ⟨μ2, _, _, _, _, hG, fun Q => lw_trunk hi hL h45 rfl rfl hA g44 g45 hB ht hk hv⟩
  by_cases c12 : jI μ 44 i &&& 31 = 12
  · refine fin 826 (by rw [c12]; decide) ?_
    obtain ⟨k, v, μ1, μ2, hk, hA, g44, g45, hB, ht, hv, hG⟩ := op_wire (jI μ 44 (i + 1)) (jI μ 44 (i + 2)) hJp
    exact ⟨μ2, _, _, _, _, hG, fun Q => lw_wire hi hL h45 rfl rfl hA g44 g45 hB ht hk hv⟩
  by_cases c13 : jI μ 44 i &&& 31 = 13
  · refine fin 894 (by rw [c13]; decide) ?_
    obtain ⟨k, v, μ1, μ2, hk, hA, g44, g45, hB, ht, hv, hG⟩ := op_way (jI μ 44 (i + 1)) (jI μ 44 (i + 2)) hJp
    exact ⟨μ2, _, _, _, _, hG, fun Q => lw_way hi hL h45 rfl rfl hA g44 g45 hB ht hk hv⟩
  by_cases c14 : jI μ 44 i &&& 31 = 14
  · refine fin 962 (by rw [c14]; decide) ?_
    obtain ⟨k, v, μ1, μ2, hk, hA, g44, g45, hB, ht, hv, hG⟩ := op_through (jI μ 44 (i + 1)) (jI μ 44 (i + 2)) hJp
    exact ⟨μ2, _, _, _, _, hG, fun Q => lw_through hi hL h45 rfl rfl hA g44 g45 hB ht hk hv⟩
  by_cases c15 : jI μ 44 i &&& 31 = 15
  · refine fin 1030 (by rw [c15]; decide) ?_
    obtain ⟨k, v, μ1, μ2, hk, hA, g44, g45, hB, ht, hv, hG⟩ := op_most (jI μ 44 (i + 1)) (jI μ 44 (i + 2)) hJp
    exact ⟨μ2, _, _, _, _, hG, fun Q => lw_most hi hL h45 rfl rfl hA g44 g45 hB ht hk hv⟩
  by_cases c16 : jI μ 44 i &&& 31 = 16
  · refine fin 1098 (by rw [c16]; decide) ?_
    obtain ⟨k, v, μ1, μ2, hk, hA, g44, g45, hB, ht, hv, hG⟩ := op_parts (jI μ 44 (i + 1)) hJp
    exact ⟨μ2, _, _, _, _, hG, fun Q => lw_parts hi hL h45 rfl hA g44 g45 hB ht hk hv⟩
  by_cases c17 : jI μ 44 i &&& 31 = 17
  · refine fin 1154 (by rw [c17]; decide) ?_
    obtain ⟨k, v, μ1, μ2, hk, hA, g44, g45, hB, ht, hv, hG⟩ := op_advise (jI μ 44 (i + 1)) (jI μ 44 (i + 2)) hJp
    exact ⟨μ2, _, _, _, _, hG, fun Q => lw_advise hi hL h45 rfl rfl hA g44 g45 hB ht hk hv⟩
  by_cases c18 : jI μ 44 i &&& 31 = 18
  · refine fin 1222 (by rw [c18]; decide) ?_
    obtain ⟨k, v, μ1, μ2, hk, hA, g44, g45, hB, ht, hv, hG⟩ := op_pass (jI μ 44 (i + 1)) hJp
    exact ⟨μ2, _, _, _, _, hG, fun Q => lw_pass hi hL h45 rfl hA g44 g45 hB ht hk hv⟩
  by_cases c19 : jI μ 44 i &&& 31 = 19
  · refine fin 1278 (by rw [c19]; decide) ?_
    obtain ⟨k, v, μ1, μ2, hk, hA, g44, g45, hB, ht, hv, hG⟩ := op_foresee (jI μ 44 (i + 1)) (jI μ 44 (i + 2)) hJp
    exact ⟨μ2, _, _, _, _, hG, fun Q => lw_foresee hi hL h45 rfl rfl hA g44 g45 hB ht hk hv⟩
  by_cases c20 : jI μ 44 i &&& 31 = 20
  · refine fin 1346 (by rw [c20]; decide) ?_
    obtain ⟨v, μ2, hG, hA, hB⟩ := op_mean hJp
    exact ⟨μ2, _, _, _, _, hG, fun Q => lw_mean hA hB⟩
  by_cases c21 : jI μ 44 i &&& 31 = 21
  · refine fin 1387 (by rw [c21]; decide) ?_
    obtain ⟨v, μ1, μ2, hG, hA, hB⟩ := op_digest hJp
    exact ⟨μ2, _, _, _, _, hG, fun Q => lw_digest hA hB⟩
  refine fin 1401 (jsw_no fun q hq e => ?_) ⟨μ, _, _, _, _, jGo_s jSc_r hJp (Nat.le_add_right _ _) (Nat.le_add_right _ _), fun _ => Iff.rfl⟩
  have ha : ∀ q ∈ ([(0, 144), (1, 248), (2, 304), (3, 317), (4, 330), (5, 386), (6, 442), (7, 498), (8, 566), (9, 622), (10, 690), (11, 758), (12, 826), (13, 894), (14, 962), (15, 1030), (16, 1098), (17, 1154), (18, 1222), (19, 1278), (20, 1346), (21, 1387)] : List (Int32 × Nat)), q.1 = 0 ∨ q.1 = 1 ∨ q.1 = 2 ∨ q.1 = 3 ∨ q.1 = 4 ∨ q.1 = 5 ∨ q.1 = 6 ∨ q.1 = 7 ∨ q.1 = 8 ∨ q.1 = 9 ∨ q.1 = 10 ∨ q.1 = 11 ∨ q.1 = 12 ∨ q.1 = 13 ∨ q.1 = 14 ∨ q.1 = 15 ∨ q.1 = 16 ∨ q.1 = 17 ∨ q.1 = 18 ∨ q.1 = 19 ∨ q.1 = 20 ∨ q.1 = 21 := by decide
  rcases ha q hq with h | h | h | h | h | h | h | h | h | h | h | h | h | h | h | h | h | h | h | h | h | h
  · exact c0 (e.trans h)
  · exact c1 (e.trans h)
  · exact c2 (e.trans h)
  · exact c3 (e.trans h)
  · exact c4 (e.trans h)
  · exact c5 (e.trans h)
  · exact c6 (e.trans h)
  · exact c7 (e.trans h)
  · exact c8 (e.trans h)
  · exact c9 (e.trans h)
  · exact c10 (e.trans h)
  · exact c11 (e.trans h)
  · exact c12 (e.trans h)
  · exact c13 (e.trans h)
  · exact c14 (e.trans h)
  · exact c15 (e.trans h)
  · exact c16 (e.trans h)
  · exact c17 (e.trans h)
  · exact c18 (e.trans h)
  · exact c19 (e.trans h)
  · exact c20 (e.trans h)
  · exact c21 (e.trans h)
/-- the whole script -/
theorem law_all (hL : L ≤ 3072) : ∀ (r i : Nat) (μ : jM) (t5 t6 t7 t8 : Option Value), i + 6 * r ≤ L → L < i + 6 * r + 6 → jJ μ → jI μ 45 0 = iN L → Ex (48 + 101 + 1) 0 23 [some (.ref 44), some (.ref 0), some (.ref 4490), some (.ref 7647), some (.int (iN i)), t5, t6, t7, t8] [] μ (fun o μ' => o = .inl (some (.int 1)) ∧ jnc μ' ≤ jnc μ + 400 * r ∧ jns μ' ≤ jns μ + 5000 * r)
  | 0, i, μ, t5, t6, t7, t8, h1, h2, hJ, h45 => by
    obtain ⟨e1, e2, e3⟩ := j44
    have hl : (iN L).toNatClampNeg = L := iN_cl (by omega)
    have hc := law_end (L := L) (i := i) (by omega) (by omega) hL
    rw [x0_23]
    simp only [x0_25, x0_26, x0_27, x0_29, x0_30, x0_33, x0_34, x0_36, x0_37, x0_39, x0_40, x0_1407, x0_1408, mzi, mInc, mne, mlt9, mrk, mI1, mI2, mI3, mI4, mL1, mL2, mL3, mL4, mQ1, mQ2, mQ3, mQ4, mT1, mcat0, mcat1, mcat2, mcat3, mcat4, mrf1, jK_v, jK_n, JA, mz1, if_true, if_false, ite_true, ite_false, eq_self, not_false_eq_true, Nat.zero_le, true_and, and_true, and_self, Nat.reduceMod, Nat.reduceAdd, Nat.reduceLeDiff, Nat.reduceEqDiff, Nat.reduceLT, e1, e2, e3, hl, h45, hc]
    exact ⟨Nat.le_refl _, Nat.le_refl _⟩
  | r + 1, i, μ, t5, t6, t7, t8, h1, h2, hJ, h45 => by
    obtain ⟨μ2, u5, u6, u7, u8, hG, hE⟩ := law_it (i := i) (L := L) (t5 := t5) (t6 := t6) (t7 := t7) (t8 := t8) hJ h45 (by omega) hL
    rw [hE]
    refine Ex.mono (law_all hL r (i + 6) μ2 u5 u6 u7 u8 (by omega) (by omega) hG.1 (by rw [hG.2.2.1]; exact h45)) fun o μ' h => ⟨h.1, ?_, ?_⟩
    · have := h.2.1
      have := hG.2.2.2.1
      omega
    · have := h.2.2
      have := hG.2.2.2.2
      omega
end LAWL
