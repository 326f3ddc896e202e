/-! THE PURE PART: teach, up to the grammar. -/
section TEA
variable {A A' B B' : jM} {N sz r : Nat} {b : Nat → Int32}
theorem jns_e {μ μ' : jM} (h : jA μ' = jA μ) (h2 : jX μ' = jX μ) : jns μ' = jns μ := by unfold jns; rw [h, h2]
theorem kBy_ok {t : Nat → Int32} : ∀ i, i < sz → ∃ v, v < 256 ∧ kBy t sz i = iN v := by
  intro i hi
  unfold kBy
  rw [if_pos hi]
  refine ⟨(t i &&& 255).toBitVec.toNat, ?_, ?_⟩
  · rw [Int32.toBitVec_and, BitVec.toNat_and]
    exact Nat.lt_of_le_of_lt Nat.and_le_right (by decide)
  · apply Int32.toBitVec_inj.mp
    show _ = BitVec.ofNat 32 _
    rw [BitVec.ofNat_toNat, BitVec.setWidth_eq]
/-- what the class changes as it reads -/
def kEc (A A' : jM) : Prop := (∀ a, 1731 ≤ a ∨ a = 44 ∨ a = 45 → jI A' a = jI A a) ∧ (∀ a, ¬ a = 289 → ¬ a = 1248 → jQ A' a = jQ A a) ∧ (∀ a, 4490 ≤ a → jL A' a = jL A a) ∧ jA A' = jA A ∧ jX A' = jX A
/-- what the reference changes as it reads -/
def kEd (B B' : jM) : Prop := (∀ a, a < 64 * (jA B).length → ¬ a = 4490 → ¬ a = 4633 → ¬ a = 4697 → ¬ a = 4761 → ¬ a = 4825 → ¬ a = 4889 → jI B' a = jI B a) ∧ (∀ k, ¬ k = 0 → ¬ k = 2 → ¬ k = 3 → ¬ k = 9 → ¬ k = 10 → jI B' 4490 k = jI B 4490 k) ∧ (∀ a, a < 64 * (jA B).length → ¬ a = 4490 → jQ B' a = jQ B a) ∧ (∀ k, ¬ k = 12 → jQ B' 4490 k = jQ B 4490 k) ∧ (∀ a, a < 64 * (jA B).length → jL B' a = jL B a) ∧ (jA B').length = (jA B).length + 14 ∧ jX B' = jX B ∧ jns B' ≤ jns B + 2000
theorem kEc_t {C : jM} (h : kEc A B) (h2 : kEc B C) : kEc A C := ⟨fun a n => (h2.1 a n).trans (h.1 a n), fun a n m => (h2.2.1 a n m).trans (h.2.1 a n m), fun a n => (h2.2.2.1 a n).trans (h.2.2.1 a n), h2.2.2.2.1.trans h.2.2.2.1, h2.2.2.2.2.trans h.2.2.2.2⟩
theorem kEc_I {a k : Nat} {v : Int32} (ha : a < 1731) (h1 : ¬ a = 44) (h2 : ¬ a = 45) : kEc A (jsI A a k v) := ⟨fun c n => mI2 (by omega), fun _ _ _ => rfl, fun _ _ => rfl, rfl, rfl⟩
/-- the class reads -/
theorem tc_0 (hb : b = kBy (jI A 155) sz) (hW : jWd A) (hz : jI A 65 1 = iN sz) (h2 : sz ≤ 2000) (hN : kTN b sz N) : ∃ μ1 μ3, jWd μ1 ∧ jWd (kClM μ1) ∧ jWd μ3 ∧ kEc A μ3 ∧ (∀ k, k < N → jI μ3 345 k = iN (kTs b sz k)) ∧
    (∀ (Q : jO → jM → Prop), (Ex (48 + 100) 27 0 [some (.ref 194), none, none, none, none] [] A Q ↔ Q (.inl none) μ1)) ∧ (∀ (Q : jO → jM → Prop), (Ex (48 + 100) 46 0 [some (.ref 579)] [] μ1 Q ↔ Q (.inl none) (kClM μ1))) ∧
    (∀ (Q : jO → jM → Prop), (Ex (48 + 100) 48 0 [some (.ref 1413), none] [] (kClM μ1) Q ↔ Q (.inl (some (.int (bif (kPlan (kTk b sz) (8 * 402) 402 0).1 then 1 else 0)))) μ3)) ∧
    ((kPlan (kTk b sz) (8 * 402) 402 0).1 = false → jI μ3 194 7 = iN (kPlan (kTk b sz) (8 * 402) 402 0).2.1 ∧ (kPlan (kTk b sz) (8 * 402) 402 0).2.1 ≤ N - 1) ∧
    ((kPlan (kTk b sz) (8 * 402) 402 0).1 = true → jC0 μ3 (kTk b sz) N b sz ∧ (jI μ3 579 0 = 0 ∧ jI μ3 579 1 = 0 ∧ jI μ3 579 2 = 0 ∧ jI μ3 579 3 = 0) ∧ jI μ3 1156 3 = iN (kFl (kPls (kTk b sz) (8 * 402) 402 0)).length ∧ (kFl (kPls (kTk b sz) (8 * 402) 402 0)).length ≤ 400 ∧ kSq (jQ μ3 1248) (jI μ3 1304) 0 (kFl (kPls (kTk b sz) (8 * 402) 402 0))) := by
  obtain ⟨μ1, μ3, t1, hW1, hW2, gf, hW3, e27, e46, e48, hno, hyes⟩ := front_c (d := 48) hb hW hz h2 hN
  obtain ⟨i1, i2, i3, i4, i5, i6, i7, i8⟩ := t1
  obtain ⟨k1, k2, k3, k4, k5, k6, k7, k8⟩ := kClM_0 (μ := μ1)
  obtain ⟨g1, g2, g3, g4, g5, g6, g7⟩ := gf
  refine ⟨μ1, μ3, hW1, hW2, hW3, ⟨fun a ha => ?_, fun a n1 n2 => ?_, fun a ha => ?_, ?_, ?_⟩, fun k hk => ?_, e27, e46, e48, hno, hyes⟩
  · rw [g1 a (by omega) (by omega) (by omega), k3 a (by omega) (by omega), i1 a (by omega) (by omega) (by omega) (by omega)]
  · rw [g4 a n2, k5, i2 a n1]
  · rw [g5, k6, i3 a (by omega)]
  · rw [g6, k7, i4]
  · rw [g7, k8, i5]
  · rw [g1 345 (by decide) (by decide) (by decide), k3 345 (by decide) (by decide)]
    exact (i8 k hk).2.1
/-- no plan, class -/
theorem tc_bad (hb : b = kBy (jI A 155) sz) (hW : jWd A) (hz : jI A 65 1 = iN sz) (h2 : sz ≤ 2000) (hN : kTN b sz N) (hq : (kPlan (kTk b sz) (8 * 402) 402 0).1 = false) : ∃ A', kEc A A' ∧ jI A' 65 1 = 0 ∧ jI A' 0 9 = iN (kTs b sz (kPlan (kTk b sz) (8 * 402) 402 0).2.1) ∧ ∀ (Q : jO → jM → Prop), (Ex (48 + 101) 26 0 [some (.ref 0), none] [] A Q ↔ Q (.inl (some (.int (iN 1)))) A') := by
  obtain ⟨μ1, μ3, hW1, hW2, hW3, hE, h345, e27, e46, e48, hno, _⟩ := tc_0 hb hW hz h2 hN
  obtain ⟨t7, tle⟩ := hno hq
  have hN2 := hN.2.1
  have hN1 := hN.1
  rw [hq] at e48
  refine ⟨_, kEc_t hE (kEc_t (kEc_I (a := 0) (by decide) (by decide) (by decide)) (kEc_I (a := 65) (by decide) (by decide) (by decide))), ?_, ?_, fun Q => c_teach_1 (d := 48) (Q := Q) hW hW1 hW2 hW3 e27 e46 e48 t7 (by omega)⟩
  · rw [mI1, if_pos rfl]
  · rw [mI2 (by decide), mI1, if_pos rfl]
    exact h345 _ (by omega)
theorem kNwM_n (hr : r = (jA B).length) : jns (kNwM B) ≤ jns B + 2000 := by
  have hl : (jA (jnew B 11)).length = r + 1 := by
    show (jA B ++ [jadr B 11]).length = r + 1
    rw [List.length_append, hr]
    rfl
  have h1 := (jmk_gb (x := 64 * r + 11) (b := r) (by omega) kPlFs (jnew B 11) (by omega) (by decide)).2.2.2
  have h2 := jns_new B 11
  have h3 : jsz (jadr B 11) ≤ 100 := by
    unfold jsz jadr
    rw [show (64 * (jA B).length + 11) % 64 = 11 by omega]
    decide
  have h4 : jmkS kPlFs ≤ 1800 := by decide
  have h5 : jns (kNwM B) = jns (jmk (64 * r + 11) kPlFs (jnew B 11)) := by
    unfold kNwM
    rw [← hr]
    exact jns_e mQ5 mQ6
  omega
/-- a plan -/
theorem pl_ok (hN : kTN b sz N) (hq : (kPlan (kTk b sz) (8 * 402) 402 0).1 = true) : (kPlan (kTk b sz) (8 * 402) 402 0).2.1 = N - 1 ∧ kTk b sz (N - 1) = 39 ∧ (∀ t, t < N - 1 → kDue (kTk b sz) t) ∧ kEven (kTk b sz) (N - 1) := by
  obtain ⟨h1, h2, h3, h4, _, _⟩ := o_plan (f := 8 * 402) (kTok_of hN) (mean := fun _ => 0) (fun t _ _ _ => ⟨0, by decide, rfl⟩) 402 0 (Nat.zero_le _) ⟨rfl, rfl, rfl, rfl, rfl, rfl, rfl, rfl⟩ hq
  exact ⟨h1, h2, fun t ht => h3 t (Nat.zero_le _) ht, h4⟩
/-- the reference reads -/
theorem td_0 (hr : r = (jA B).length) (h120 : 120 ≤ r) (hW : jWd B) (hT : kTp B b sz) (hB : ∀ i, i < sz → ∃ v, v < 256 ∧ b i = iN v) (hN : kTN b sz N) : ∃ μ' ν, jWd ν ∧ jQ ν 4490 12 = some (64 * r + 11) ∧ kEd B ν ∧ (∀ k, ¬ k = 9 → ¬ k = 10 → jI ν 4490 k = jI B 4490 k) ∧ (∀ k, k < N → jI ν 4697 k = iN (kTs b sz k)) ∧
    ((kPlan (kTk b sz) (8 * 402) 402 0).1 = false → jI ν 4490 9 = iN (kPlan (kTk b sz) (8 * 402) 402 0).2.1 ∧ (kPlan (kTk b sz) (8 * 402) 402 0).2.1 ≤ N - 1) ∧
    ((kPlan (kTk b sz) (8 * 402) 402 0).1 = true → jSb ν r (kTk b sz) N b sz ∧ jPr ν ν r (kTk b sz) (fun t => kNm b (kTs b sz t) (kTl b sz t)) N (N - 1) (kPls (kTk b sz) (8 * 402) 402 0) ∧ (jI ν (64 * r + 11) 0 = 0 ∧ jI ν (64 * r + 11) 2 = 0 ∧ jI ν (64 * r + 11) 6 = 0 ∧ jI ν (64 * r + 11) 11 = 0)) ∧
    (∀ (Q : jO → jM → Prop), (Ex (48 + 100) 96 0 [some (.ref 4490), none, none] [] B Q ↔ Ex (48 + 100) 96 25 [some (.ref 4490), none, none] [] μ' Q)) ∧
    (∀ (Q : jO → jM → Prop), (Ex (48 + 99) 108 0 [some (.ref 4490), none] [] μ' Q ↔ Q (.inl (some (.int (bif (kPlan (kTk b sz) (8 * 402) 402 0).1 then 1 else 0)))) ν)) := by
  obtain ⟨μ1, μ', c, hμ', h0, hP, hz, e96⟩ := front_d (num := fun t => kNm b (kTs b sz t) (kTl b sz t)) hr h120 hW hT hB hN
  have hK := kTok_of hN
  obtain ⟨c1, c2, c3, c4, c5, c6⟩ := c
  obtain ⟨k1, k2, k3, k4, k5, k6, k7⟩ := kNwM_f hr h120
  obtain ⟨ν, pp, e108⟩ := d_planL h0 (fun t => rfl) (d := 48 + 99) (by omega) (f := 8 * 402) (by omega) 402 0 [] μ' none hP (Nat.zero_le _) (Nat.le_refl _) (by omega)
  have bs := kPlan_b (f := 8 * 402) hK 402 0 (Nat.zero_le _)
  have hg : jRg r μ' ν := by
    cases hh : (kPlan (kTk b sz) (8 * 402) 402 0).1 with
    | true => exact (pp.1 hh).2.1
    | false => exact (pp.2 hh).1
  have hg' := hg
  obtain ⟨g1, g2, g3, g4, g5, g6, g7⟩ := hg
  have gg : ∀ a, a < 64 * r → ¬ a = 4490 → ¬ a = 4825 → jI ν a = jI μ' a := fun a ha n1 n2 => g1 a n1 n2 (by omega) (by omega) (by omega) (by omega) (by omega)
  have hm : ∀ a, ¬ a = 4490 → jI μ' a = jI μ1 a := fun a n => by rw [hμ', mI2 n, mI2 n]
  have hmk : ∀ k, ¬ k = 9 → ¬ k = 10 → jI μ' 4490 k = jI μ1 4490 k := fun k n1 n2 => by rw [hμ', mI1, if_neg n2, mI1, if_neg n1]
  have hf : ∀ k, ¬ k = 9 → ¬ k = 10 → jI ν 4490 k = jI B 4490 k := fun k n1 n2 => by rw [g2 k n1 n2, hmk k n1 n2, c1 4490 (by decide) (by decide) (by decide) (by decide) (by decide), (k3 4490 (by omega)).1]
  have hWν : jWd ν := jWd_c g4 h0.1
  have hqm : jQ μ' = jQ (kNwM B) := by rw [hμ', mI4, mI4, c2]
  have hlm : jL μ' = jL (kNwM B) := by rw [hμ', mI3, mI3, c3]
  have ham : jA μ' = jA (kNwM B) := by rw [hμ', mI5, mI5, c4]
  have hxm : jX μ' = jX (kNwM B) := by rw [hμ', mI6, mI6, c5]
  have h97 : ∀ k, k < N → jI ν 4697 k = iN (kTs b sz k) := fun k hk => by rw [gg 4697 (by omega) (by decide) (by decide), hm 4697 (by decide)]; exact (c6 k hk).2.1
  refine ⟨μ', ν, hWν, by rw [g4]; exact h0.2.2.2.1, ⟨fun a ha n1 n2 n3 n4 n5 n6 => ?_, fun k n1 n2 n3 n4 n5 => hf k n4 n5, fun a ha n => ?_, fun k n => ?_, fun a ha => ?_, ?_, ?_, ?_⟩, hf, h97, fun hh => ⟨(pp.2 hh).2, bs.1⟩, fun hh => ?_, fun Q => e96 48 Q, e108⟩
  · rw [gg a (by omega) n1 n5, hm a n1, c1 a n2 n3 n4 n5 n6, (k3 a (by omega)).1]
  · rw [g4, hqm, (k3 a (by omega)).2.2 n]
  · rw [g4, hqm, k4 k n]
  · rw [g5, hlm, (k3 a (by omega)).2.1]
  · rw [g6, ham, k6, hr]
  · rw [g7, hxm, k7]
  · rw [jns_e (g6.trans ham) (g7.trans hxm)]
    exact kNwM_n hr
  · obtain ⟨q1, q2, q3, q4⟩ := pl_ok hN hh
    obtain ⟨_, hPr⟩ := pp.1 hh
    rw [q1, List.nil_append] at hPr
    have hPr2 : jPr ν ν r (kTk b sz) (fun t => kNm b (kTs b sz t) (kTl b sz t)) N (N - 1) (kPls (kTk b sz) (8 * 402) 402 0) := ⟨jRg_refl, hPr.2⟩
    have h0ν : jR0 ν r (kTk b sz) N b sz := by
      obtain ⟨w1, w2, w3, w4, w5, w6, w7⟩ := h0
      obtain ⟨t1, t2, t3, t4⟩ := w6
      refine ⟨hWν, w2, w3, by rw [g4]; exact w4, by unfold jMq at w5 ⊢; rw [g4]; exact w5, ⟨by rw [g2 2 (by decide) (by decide)]; exact t1, t2, fun i hi => by rw [gg 4567 (by omega) (by decide) (by decide)]; exact t3 i hi, t4⟩, fun k hk => ?_⟩
      rw [gg 4633 (by omega) (by decide) (by decide), gg 4697 (by omega) (by decide) (by decide), gg 4761 (by omega) (by decide) (by decide)]
      exact w7 k hk
    refine ⟨sb_of h0ν hPr2.2.1 (fun k hk hs => ?_) hB, hPr2, ?_, ?_, ?_, ?_⟩
    · rw [gg 4761 (by omega) (by decide) (by decide), hm 4761 (by decide)]
      exact (c6 k hk).2.2.1 hs
    · rw [g3 0 (by decide) (by decide) (by decide)]; exact hz 0
    · rw [g3 2 (by decide) (by decide) (by decide)]; exact hz 2
    · rw [g3 6 (by decide) (by decide) (by decide)]; exact hz 6
    · rw [g3 11 (by decide) (by decide) (by decide)]; exact hz 11
theorem kEd_I {k : Nat} {v : Int32} (h : kEd B B') (hk : k = 0 ∨ k = 2 ∨ k = 3 ∨ k = 9 ∨ k = 10) : kEd B (jsI B' 4490 k v) := by
  obtain ⟨h1, h2, h3, h4, h5, h6, h7, h8⟩ := h
  refine ⟨fun a ha n1 n2 n3 n4 n5 n6 => by rw [mI2 n1]; exact h1 a ha n1 n2 n3 n4 n5 n6, fun j n1 n2 n3 n4 n5 => by rw [mI1, if_neg (by omega)]; exact h2 j n1 n2 n3 n4 n5, h3, h4, h5, h6, h7, h8⟩
theorem kEd_0 {k : Nat} {v : Int32} (h : kEd (jsI B 4490 k v) B') (hk : k = 0 ∨ k = 2 ∨ k = 3 ∨ k = 9 ∨ k = 10) : kEd B B' := by
  obtain ⟨h1, h2, h3, h4, h5, h6, h7, h8⟩ := h
  refine ⟨fun a ha n1 n2 n3 n4 n5 n6 => by rw [h1 a ha n1 n2 n3 n4 n5 n6, mI2 n1], fun j n1 n2 n3 n4 n5 => by rw [h2 j n1 n2 n3 n4 n5, mI1, if_neg (by omega)], h3, h4, h5, h6, h7, h8⟩
/-- no plan, reference -/
theorem td_bad (h120 : 120 ≤ (jA B).length) (hW : jWd B) (hT : kTp B b sz) (hB : ∀ i, i < sz → ∃ v, v < 256 ∧ b i = iN v) (hN : kTN b sz N) (hq : (kPlan (kTk b sz) (8 * 402) 402 0).1 = false) : ∃ B', jWd B' ∧ kEd B B' ∧ jI B' 4490 2 = 0 ∧ jI B' 4490 3 = iN (kTs b sz (kPlan (kTk b sz) (8 * 402) 402 0).2.1) ∧ ∀ (Q : jO → jM → Prop), (Ex (48 + 101) 95 0 [some (.ref 4490), none] [] B Q ↔ Q (.inl (some (.int (iN 1)))) B') := by
  have hW0 : jWd (jsI (jsI B 4490 0 0) 4490 3 (-1)) := jWd_c rfl hW
  have hT0 : kTp (jsI (jsI B 4490 0 0) 4490 3 (-1)) b sz := by
    obtain ⟨t1, t2, t3, t4⟩ := hT
    exact ⟨by rw [mI1, if_neg (by decide), mI1, if_neg (by decide)]; exact t1, t2, fun i hi => by rw [mI2 (by decide), mI2 (by decide)]; exact t3 i hi, t4⟩
  obtain ⟨μ', ν, hWν, h12, hE, hf, h97, hno, _, e96, e108⟩ := td_0 (B := jsI (jsI B 4490 0 0) 4490 3 (-1)) (r := (jA B).length) rfl h120 hW0 hT0 hB hN
  obtain ⟨t9, tle⟩ := hno hq
  have hN2 := hN.2.1
  have hN1 := hN.1
  rw [hq] at e108
  have e : ∀ (Q : jO → jM → Prop), (Ex (48 + 100) 96 0 [some (.ref 4490), none, none] [] (jsI (jsI B 4490 0 0) 4490 3 (-1)) Q ↔ Q (.inl (some (.int (iN 1)))) (jsI ν 4490 3 (jI ν 4697 (kPlan (kTk b sz) (8 * 402) 402 0).2.1))) := fun Q => (e96 Q).trans (d_read_1 (d := 48) hWν t9 (by omega) e108)
  refine ⟨_, ?_, kEd_I (k := 2) (kEd_I (k := 3) (kEd_0 (k := 0) (kEd_0 (k := 3) hE (by decide)) (by decide)) (by decide)) (by decide), ?_, ?_, fun Q => d_teach_e (d := 48) (e := 1) hW (jWd_c rfl hWν) (by decide) (by decide) e⟩
  · exact jWd_c rfl hWν
  · rw [mI1, if_pos rfl]
  · rw [mI1, if_neg (by decide), mI1, if_pos rfl]
    exact h97 _ (by omega)
end TEA
