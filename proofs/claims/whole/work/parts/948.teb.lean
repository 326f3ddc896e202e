/-! THE PURE PART: teach, class and reference. -/
section TEB
variable {A A' B B' : jM} {N sz r : Nat} {b : Nat → Int32}
theorem kFl_lt {N : Nat} : ∀ Ls : List (List (Nat × Nat) × Nat), (∀ j, j < Ls.length → (Ls.getD j ([], 0)).2 < N ∧ ∀ x ∈ (Ls.getD j ([], 0)).1, x.2 < N) → ∀ x ∈ kFl Ls, x.2 < N
  | [], _, x, hx => absurd hx (by simp [kFl])
  | (U, t) :: q, h, x, hx => by
    rcases List.mem_append.mp (show x ∈ U ++ (10, t) :: kFl q from hx) with e | e
    · exact (h 0 (by show 0 < q.length + 1; omega)).2 x e
    · rcases List.mem_cons.mp e with e | e
      · rw [e]
        exact (h 0 (by show 0 < q.length + 1; omega)).1
      · exact kFl_lt q (fun j hj => h (j + 1) (by show j + 1 < q.length + 1; omega)) x e
theorem kCat_lt {N : Nat} : ∀ Ls : List (List (Nat × Nat) × Nat), (∀ j, j < Ls.length → ∀ x ∈ (Ls.getD j ([], 0)).1, x.2 < N) → ∀ x ∈ kCat Ls, x.2 < N
  | [], _, x, hx => absurd hx (by simp [kCat])
  | (U, t) :: q, h, x, hx => by
    rcases List.mem_append.mp (show x ∈ U ++ kCat q from hx) with e | e
    · exact h 0 (by show 0 < q.length + 1; omega) x e
    · exact kCat_lt q (fun j hj => h (j + 1) (by show j + 1 < q.length + 1; omega)) x e
theorem kEc_c (h : kEc A B) (h2 : jCf B B') : kEc A B' := by
  obtain ⟨c1, c2, c3, c4, c5, c6, c7⟩ := h2
  refine kEc_t h ⟨fun a ha => c1 a (by omega) (by omega) (by unfold kCa; omega), fun a _ _ => by rw [c4], fun a ha => c5 a (by omega) (by omega) (by omega), c6, c7⟩
theorem kEd_d (h : kEd B B') (h2 : jDf (jA B).length B' A') : kEd B A' := by
  obtain ⟨h1, h2', h3, h4, h5, h6, h7, h8⟩ := h
  obtain ⟨d1, d2, d3, d4, d5, d6, d7⟩ := h2
  refine ⟨fun a ha n1 n2 n3 n4 n5 n6 => ?_, fun k n1 n2 n3 n4 n5 => (d2 k n4).trans (h2' k n1 n2 n3 n4 n5), fun a ha n => by rw [d4]; exact h3 a ha n, fun k n => by rw [d4]; exact h4 k n, fun a ha => by rw [d5]; exact h5 a ha, by rw [d6]; exact h6, d7.trans h7, by rw [jns_e d6 d7]; exact h8⟩
  rw [d1 a n1 (by omega) (by unfold kDa; omega)]
  exact h1 a ha n1 n2 n3 n4 n5 n6
theorem kEd_c (h : kEd B B') (h120 : 120 ≤ (jA B).length) (h2 : jCo (jA B).length B' A') : kEd B A' := by
  obtain ⟨h1, h2', h3, h4, h5, h6, h7, h8⟩ := h
  obtain ⟨d1, d4, d5, d6, d7⟩ := h2
  refine ⟨fun a ha n1 n2 n3 n4 n5 n6 => ?_, fun k n1 n2 n3 n4 n5 => by rw [d1 4490 (by omega)]; exact h2' k n1 n2 n3 n4 n5, fun a ha n => by rw [d4]; exact h3 a ha n, fun k n => by rw [d4]; exact h4 k n, fun a ha => by rw [d5]; exact h5 a ha, by rw [d6]; exact h6, d7.trans h7, by rw [jns_e d6 d7]; exact h8⟩
  rw [d1 a (by omega)]
  exact h1 a ha n1 n2 n3 n4 n5 n6
/-- a plan is told: class and reference -/
def kTaught (A B A' B' : jM) : Prop := ∃ (A5 B4 : jM) (m n t L : Nat) (K : Nat → Nat) (nh : Nat) (T : Nat → List (Nat × Int32)), A' = jsI (kBegn A5 10) 65 1 0 ∧ B' = kBegMs (jsQ (jsI B4 4490 2 0) 4490 11 (some (64 * (jA B).length + 11))) 10 ∧ jRP A5 (jsQ B4 4490 11 (some (64 * (jA B).length + 11))) (jA B).length m n t L K nh T ∧ kEd B B4 ∧ jWd B4 ∧ jI B4 4490 3 = -1 ∧ jI A5 0 9 = -1 ∧ jWd A5 ∧ (∀ a, 2567 ≤ a ∨ a = 44 ∨ a = 45 → jI A5 a = jI A a) ∧ (∀ a, 4490 ≤ a → jL A5 a = jL A a ∧ jQ A5 a = jQ A a) ∧ jA A5 = jA A ∧ jX A5 = jX A
theorem kPcM_q {μ : jM} : jQ (kPcM μ) = jQ μ ∧ jL (kPcM μ) = jL μ ∧ jA (kPcM μ) = jA μ ∧ jX (kPcM μ) = jX μ := by
  unfold kPcM
  simp only [mR3, mI3, mI4, mI5, mI6, and_self]
theorem kBegn_q {μ : jM} : jQ (kBegn μ 10) = jQ μ ∧ jL (kBegn μ 10) = jL μ ∧ jA (kBegn μ 10) = jA μ ∧ jX (kBegn μ 10) = jX μ := by
  unfold kBegn
  simp only [mR3, mI3, mI4, mI5, mI6, and_self]
theorem kBegMs_q {μ : jM} : jQ (kBegMs μ 10) = jQ μ ∧ jL (kBegMs μ 10) = jL μ ∧ jA (kBegMs μ 10) = jA μ ∧ jX (kBegMs μ 10) = jX μ := by
  unfold kBegMs
  simp only [mR3, mI3, mI4, mI5, mI6, and_self]
theorem te_pl (hb : b = kBy (jI A 155) sz) (hWA : jWd A) (hz : jI A 65 1 = iN sz) (h2 : sz ≤ 2000) (hN : kTN b sz N) (h120 : 120 ≤ (jA B).length) (hWB : jWd B) (hT : kTp B b sz) (hq : (kPlan (kTk b sz) (8 * 402) 402 0).1 = true) :
    ∃ (e : Nat) (A' B' : jM), e ≤ 7 ∧ (∀ (Q : jO → jM → Prop), (Ex (48 + 101) 26 0 [some (.ref 0), none] [] A Q ↔ Q (.inl (some (.int (iN e)))) A')) ∧ (∀ (Q : jO → jM → Prop), (Ex (48 + 101) 95 0 [some (.ref 4490), none] [] B Q ↔ Q (.inl (some (.int (iN e)))) B')) ∧
      (¬ e = 0 → kEc A A' ∧ kEd B B' ∧ jI A' 65 1 = 0 ∧ jI B' 4490 2 = 0 ∧ jI A' 0 9 = jI B' 4490 3) ∧ (e = 0 → kTaught A B A' B') := by
  have hB : ∀ i, i < sz → ∃ v, v < 256 ∧ b i = iN v := by rw [hb]; exact kBy_ok
  have hN2 := hN.2.1
  have hN1 := hN.1
  obtain ⟨μ1, μ3, hW1, hW2, hW3, hE, h345, e27, e46, e48, _, hyes⟩ := tc_0 hb hWA hz h2 hN
  obtain ⟨hC, hz4, hL3, hL4, hSq⟩ := hyes hq
  rw [hq] at e48
  have hW0 : jWd (jsI (jsI B 4490 0 0) 4490 3 (-1)) := jWd_c rfl hWB
  have hT0 : kTp (jsI (jsI B 4490 0 0) 4490 3 (-1)) b sz := by
    obtain ⟨t1, t2, t3, t4⟩ := hT
    exact ⟨by rw [mI1, if_neg (by decide), mI1, if_neg (by decide)]; exact t1, t2, fun i hi => by rw [mI2 (by decide), mI2 (by decide)]; exact t3 i hi, t4⟩
  obtain ⟨μ', ν, hWν, h12, hEd, hf, h97, _, hyd, e96, e108⟩ := td_0 (B := jsI (jsI B 4490 0 0) 4490 3 (-1)) (r := (jA B).length) rfl h120 hW0 hT0 hB hN
  obtain ⟨hSb, hPr, hz5⟩ := hyd hq
  rw [hq] at e108
  have hEd' : kEd B ν := kEd_0 (k := 0) (kEd_0 (k := 3) hEd (by decide)) (by decide)
  obtain ⟨p1, p2, p3, p4⟩ := pl_ok hN hq
  obtain ⟨_, hRr, h13, hTs⟩ := hPr
  obtain ⟨_, f2, f3, f4, f5, f6, f7, f8, f9⟩ := hRr
  have e57 : ∀ (Q : jO → jM → Prop), (Ex (48 + 100) 96 0 [some (.ref 4490), none, none] [] (jsI (jsI B 4490 0 0) 4490 3 (-1)) Q ↔ Ex (48 + 100) 96 57 [some (.ref 4490), some (.int (iN (N - 1))), none] [] (jsI ν 4490 9 0) Q) := fun Q => (e96 Q).trans (d_read_0 (d := 48) hWν f2 e108)
  have hD := sb_9 (v := 0) hSb
  have h0 : jMn μ3 (jsI ν 4490 9 0) μ3 (jsI ν 4490 9 0) (jA B).length (kTk b sz) b sz 0 := jMn_0 hz4 (by rw [mI2 (by omega)]; exact hz5)
  obtain ⟨e, j, A2, B3, he7, hok, herr, eA, eB⟩ := loop2 hC hD (fun k _ h38 => kDig_t h38) p3 (N - 1) 0 μ3 (jsI ν 4490 9 0) (by omega) h0 (by rw [mI1, if_pos rfl]; rfl)
  by_cases he : e = 0
  · obtain ⟨hM, h9⟩ := hok he
    obtain ⟨A3, hA3, tl⟩ := tail2 hC ⟨hN.1, hN.2.1⟩ p2 (400 - (N - 1)) (N - 1) (kAh (kTk b sz) (N - 1)) A2 (by omega) (Nat.le_refl _) hM.1 (fun _ => trivial)
    have hM3 : jMn μ3 (jsI ν 4490 9 0) A3 B3 (jA B).length (kTk b sz) b sz (N - 1) := by
      rcases hA3 with rfl | ⟨x, rfl⟩
      · exact hM
      · exact jMn_7 hM
    have hkn : kNam (kTk b sz) N (jI A3 473) := fun t ht h37 hor => by
      obtain ⟨_, _, hR⟩ := hM3
      obtain ⟨f1, f2, f3, f4, f5, f6, f7, f8, f9, f10, f11, f12, f13, f14, f15, f16, f17, f18, f19, f20, f21, f22, f23⟩ := hR
      have g2 := f2.2.2
      have g3 := f3.2.2
      rcases hor with h | h
      · obtain ⟨u, hu, hv⟩ := f20 t ht (by unfold kRole; simp [h37, h])
        exact ⟨u, by omega, hv⟩
      · obtain ⟨u, hu, hv⟩ := f21 t ht (by unfold kRole; simp [h37, h])
        exact ⟨u, by omega, hv⟩
    obtain ⟨_, _, _, hEv, hLn, hc12⟩ := o_plan (f := 8 * 402) (kTok_of hN) hkn 402 0 (Nat.zero_le _) ⟨rfl, rfl, rfl, rfl, rfl, rfl, rfl, rfl⟩ hq
    have hk0 : kCn (kTk b sz) 12 0 = 0 := rfl
    rw [hk0] at hLn hc12
    rw [Nat.zero_add] at hc12
    have hgt : ∀ j, j < ((kPls (kTk b sz) (8 * 402) 402 0)).length → (((kPls (kTk b sz) (8 * 402) 402 0)).getD j ([], 0)).2 < N ∧ ∀ x ∈ (((kPls (kTk b sz) (8 * 402) 402 0)).getD j ([], 0)).1, x.2 < N := fun j hj => by
      obtain ⟨a1, a2, a3, a4, a5, a6⟩ := kLns_get _ _ hLn j hj
      exact ⟨by omega, fun x hx => (a5 x hx).2.2⟩
    have hlt := kFl_lt _ hgt
    have hlc := kCat_lt _ (fun j hj => (hgt j hj).2)
    have hcf := hM3.1
    have hdf := hM3.2.1
    have hW3' : jWd A3 := jWd_c hcf.2.2.2.1 hW3
    have hL3' : jI A3 1156 3 = iN (kFl (kPls (kTk b sz) (8 * 402) 402 0)).length := by rw [hcf.1 1156 (by decide) (by decide) (by unfold kCa; decide)]; exact hL3
    have hSq' : kSq (jQ A3 1248) (jI A3 1304) 0 (kFl (kPls (kTk b sz) (8 * 402) 402 0)) := by rw [hcf.2.2.2.1, hcf.1 1304 (by decide) (by decide) (by unfold kCa; decide)]; exact hSq
    obtain ⟨A4, hSt, e87⟩ := c_settle (s := fun j => ((kFl (kPls (kTk b sz) (8 * 402) 402 0)).getD j (0, 0)).2) hW3' hL3' hL4 (fun j hj => ⟨by have := (kSq_get _ 0 hSq' j hj).2; rwa [Nat.zero_add] at this, by have := hlt _ (getD_mem j hj); omega⟩)
    have e63 : ∀ (Q : jO → jM → Prop), (Ex (48 + 100) 63 0 [some (.ref 1478), none, none, none, none] [] μ3 Q ↔ Q (.inl (some (.int 0))) A4) := fun Q => by
      obtain ⟨b4', hh⟩ := eA (48 + 94) none Q
      rw [if_pos he] at hh
      obtain ⟨J', b4'', hh2⟩ := tl (48 + 94) b4' Q
      exact (c_it1 (d := 48 + 94)).trans (hh.trans (hh2.trans (c_itE (d := 48 + 94) hW3' (fun Q => e87 (48 + 98) Q))))
    have hW4 : jWd A4 := jWd_c hSt.2.1 hW3'
    have hm4 : ∀ a, ¬ a = 0 → jI (jsI A4 0 9 (-1)) a = jI A4 a := fun a h => mI2 h
    have hqp : jQ (kPcM (jsI A4 0 9 (-1))) = jQ A3 := by rw [kPcM_q.1, mI4, hSt.2.1]
    have hLp : jI (kPcM (jsI A4 0 9 (-1))) 1156 3 = iN (kFl (kPls (kTk b sz) (8 * 402) 402 0)).length := by
      unfold kPcM
      simp only [mR2, mI2, Nat.reduceEqDiff, not_false_eq_true]
      rw [hSt.1 1156 (by decide)]
      exact hL3'
    obtain ⟨A5, hI5, hQ5, hQs, hL5, hA5, hX5, e90⟩ := c_tcopy (μ := kPcM (jsI A4 0 9 (-1))) (L := (kFl (kPls (kTk b sz) (8 * 402) 402 0)).length) (x := fun k => 64 * ((kFl (kPls (kTk b sz) (8 * 402) 402 0)).getD k (0, 0)).1 + 40) (jWd_c hqp hW3') hLp hL4 (fun k hk => ⟨by rw [hqp]; have := (kSq_get _ 0 hSq' k hk).1; rwa [Nat.zero_add] at this, by omega⟩)
    have e88 := c_pcopy (μ := jsI A4 0 9 (-1)) (jWd_c rfl hW4) e90
    have hW5 : jWd A5 := jWd_a (fun a _ _ n => by rw [hQ5 a n, hqp]) hW3'
    have hW6 : jWd (kBegn A5 10) := jWd_c kBegn_q.1 hW5
    have hPc : jPcp A4 A5 := by
      have := jPcp_of hI5
      unfold jPcp at this ⊢
      rw [hm4 579 (by decide), hm4 1156 (by decide), hm4 1304 (by decide), hm4 660 (by decide), hm4 720 (by decide), hm4 784 (by decide), hm4 848 (by decide), hm4 912 (by decide), hm4 976 (by decide), hm4 1040 (by decide), hm4 1104 (by decide)] at this
      exact this
    have h3o : ∀ a, a < 64 * (jA B).length → False ∨ True := fun _ _ => Or.inr trivial
    have hWB3 : jWd B3 := jWd_c hdf.2.2.2.1 (jWd_c rfl hWν)
    have hq12 : jQ B3 4490 12 = some (64 * (jA B).length + 11) := by rw [hdf.2.2.2.1]; exact h12
    have hMq : jMq B3 (jA B).length := by
      have := hD.1.2.2.2.2.1
      unfold jMq at this ⊢
      rw [hdf.2.2.2.1]
      exact this
    have hoB : ∀ c, (c = 594 ∨ c = 659 ∨ c = 723 ∨ c = 794 ∨ c = 856) → ¬ c = 594 → jI B3 (64 * (jA B).length + c) = jI ν (64 * (jA B).length + c) := fun c hc n => by
      rw [hdf.1 _ (by omega) (by omega) (by unfold kDa; omega), mI2 (by omega)]
    have h19 : jI B3 (64 * (jA B).length + 11) 19 = iN (kNs (kCat (kPls (kTk b sz) (8 * 402) 402 0))) := by
      rw [hdf.2.2.1 19 (by decide) (by decide) (by decide) (by decide), mI2 (by omega)]
      exact f6
    have hle := kWds_le (kCat (kPls (kTk b sz) (8 * 402) 402 0))
    have hlen := kFl_len (kPls (kTk b sz) (8 * 402) 402 0)
    obtain ⟨B4, hCo, _, hLf, e111⟩ := d_repl (num := fun t => kNm b (kTs b sz t) (kTl b sz t)) (e := N - 1) h120 (M := kNs (kCat (kPls (kTk b sz) (8 * 402) 402 0))) (by omega) (kCat (kPls (kTk b sz) (8 * 402) 402 0)) 0 0 B3 hWB3 hMq hq12 h19 (by omega) (by omega) (fun x hx _ => by have := hlc x hx; omega) (by rw [hoB 794 (by decide) (by decide)]; exact f5) (by rw [hoB 856 (by decide) (by decide)]; exact f7)
    have hWB4 : jWd B4 := jWd_c hCo.2.1 hWB3
    have e96' : ∀ (Q : jO → jM → Prop), (Ex (48 + 100) 96 0 [some (.ref 4490), none, none] [] (jsI (jsI B 4490 0 0) 4490 3 (-1)) Q ↔ Q (.inl (some (.int 0))) B4) := fun Q => by
      obtain ⟨b2', hh⟩ := eB (48 + 96) none Q
      rw [if_pos he] at hh
      exact (e57 Q).trans (hh.trans ((d_exit57 (d := 48 + 100) (m := N - 1) (b2 := b2') hWB3 h9 (by omega)).trans ((e111 (48 + 100) Q).trans (d_replE hWB4 (by rw [hCo.2.1]; exact hq12) (M := kNs (kCat (kPls (kTk b sz) (8 * 402) 402 0))) (by omega) (by rw [hCo.1 _ (by omega)]; exact h19)))))
    have hRP := rp_all hC hD hM3 hEv hLn hc12 hL3' hL4 hSq' hSt hPc (fun a n => by rw [hQ5 a n, hqp, hSt.2.1]) hQs (fun k h1 h2 => by rw [hoB 659 (by decide) (by decide), hoB 723 (by decide) (by decide)]; exact hTs k h1 h2) hCo hLf
    have hEd4 : kEd B B4 := kEd_c (kEd_d (kEd_I hEd' (k := 9) (by decide)) hdf) h120 hCo
    refine ⟨e, jsI (kBegn A5 10) 65 1 0, kBegMs (jsQ (jsI B4 4490 2 0) 4490 11 (some (64 * (jA B).length + 11))) 10, he7, fun Q => ?_, fun Q => ?_, fun h => absurd he h, fun _ => ?_⟩
    · rw [he]
      exact c_teach_0 (d := 48) (Q := Q) hWA hW1 hW2 hW3 e27 e46 e48 hW4 hW5 e63 (fun Q => e88 (48 + 98) Q) hW6
    · rw [he]
      exact d_teach_0 (d := 48) (Q := Q) hWB hWB4 (by rw [hCo.2.1]; exact hq12) e96'
    · have hE3 := kEc_c hE hcf
      refine ⟨A5, B4, _, _, _, _, _, _, _, rfl, rfl, hRP, hEd4, hWB4, ?_, ?_, hW5, fun a ha => ?_, fun a ha => ⟨?_, ?_⟩, ?_, ?_⟩
      · rw [hCo.1 4490 (by omega), hdf.2.1 3 (by decide), mI1, if_neg (by decide), hf 3 (by decide) (by decide), mI1, if_pos rfl]
      · rw [hI5]
        unfold kTcM kPcM
        rw [mR2 (by decide), mI2 (by decide), mR2 (by decide), mR2 (by decide), mR2 (by decide), mR2 (by decide), mR2 (by decide), mR2 (by decide), mR2 (by decide), mR2 (by decide), mI2 (by decide), mI2 (by decide), mI2 (by decide), mI2 (by decide), mI1, if_pos rfl]
      · have h4 : jI A4 a = jI A a := by rw [hSt.1 a (by omega), hE3.1 a (by omega)]
        rw [hI5, ← h4]
        unfold kTcM kPcM
        rw [mR2 (by omega), mI2 (by omega), mR2 (by omega), mR2 (by omega), mR2 (by omega), mR2 (by omega), mR2 (by omega), mR2 (by omega), mR2 (by omega), mR2 (by omega), mI2 (by omega), mI2 (by omega), mI2 (by omega), mI2 (by omega), mI2 (by omega)]
      · rw [hL5, kPcM_q.2.1, mI3, hSt.2.2.1, hE3.2.2.1 a ha]
      · rw [hQ5 a (by omega), hqp, hE3.2.1 a (by omega) (by omega)]
      · rw [hA5, kPcM_q.2.2.1, mI5, hSt.2.2.2.1, hE3.2.2.2.1]
      · rw [hX5, kPcM_q.2.2.2, mI6, hSt.2.2.2.2.1, hE3.2.2.2.2]
  · obtain ⟨hj, hcf, hdf, h7⟩ := herr he
    have e63 : ∀ (Q : jO → jM → Prop), (Ex (48 + 100) 63 0 [some (.ref 1478), none, none, none, none] [] μ3 Q ↔ Q (.inl (some (.int (iN e)))) A2) := fun Q => by
      obtain ⟨b4', hh⟩ := eA (48 + 94) none Q
      rw [if_neg he] at hh
      exact (c_it1 (d := 48 + 94)).trans hh
    have e96' : ∀ (Q : jO → jM → Prop), (Ex (48 + 100) 96 0 [some (.ref 4490), none, none] [] (jsI (jsI B 4490 0 0) 4490 3 (-1)) Q ↔ Q (.inl (some (.int (iN e)))) (jsI B3 4490 3 (iN (kTs b sz j)))) := fun Q => by
      obtain ⟨b2', hh⟩ := eB (48 + 96) none Q
      rw [if_neg he] at hh
      exact (e57 Q).trans hh
    have hW4 : jWd A2 := jWd_c hcf.2.2.2.1 hW3
    have hWB3 : jWd B3 := jWd_c hdf.2.2.2.1 (jWd_c rfl hWν)
    have hE2 := kEc_c hE hcf
    refine ⟨e, _, _, he7, fun Q => c_teach_e (d := 48) (Q := Q) hWA hW1 hW2 hW3 e27 e46 e48 hW4 he he7 e63 h7 (by omega), fun Q => d_teach_e (d := 48) (Q := Q) (ν := jsI B3 4490 3 (iN (kTs b sz j))) hWB (jWd_c rfl hWB3) he he7 e96', fun _ => ⟨?_, ?_, ?_, ?_, ?_⟩, fun h => absurd h he⟩
    · exact kEc_t hE2 (kEc_t (kEc_I (a := 0) (by decide) (by decide) (by decide)) (kEc_I (a := 65) (by decide) (by decide) (by decide)))
    · exact kEd_I (k := 2) (kEd_I (k := 3) (kEd_d (kEd_I hEd' (k := 9) (by decide)) hdf) (by decide)) (by decide)
    · rw [mI1, if_pos rfl]
    · rw [mI1, if_pos rfl]
    · rw [mI2 (by decide), mI1, if_pos rfl, mI1, if_neg (by decide), mI1, if_pos rfl, hcf.1 345 (by decide) (by decide) (by unfold kCa; decide)]
      exact h345 j (by omega)
end TEB
