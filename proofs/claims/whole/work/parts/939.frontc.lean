/-! THE PURE PART: the class reads the tape. -/
theorem kTks_fst {kd : Nat → Nat} {L : List Nat} {i : Nat} {k : Nat → kR} (h : (kBd (kTks kd L i) k).1 = true) : (kTks kd L i).1 = true := by
  by_cases g : (kTks kd L i).1 = true
  · exact g
  · rw [kBd_f (Bool.eq_false_iff.mpr g)] at h
    exact h
theorem kTks_pos {kd : Nat → Nat} : ∀ (L : List Nat) (i : Nat), (kTks kd L i).1 = true → (kTks kd L i).2.1 = i + L.length
  | [], i, _ => rfl
  | K :: q, i, h => by
    unfold kTks at h ⊢
    by_cases g : kd i = K
    · rw [if_pos g] at h ⊢
      rw [kTks_pos q (i + 1) h]
      show i + 1 + q.length = i + (q.length + 1)
      omega
    · rw [if_neg g] at h
      exact Bool.noConfusion (show false = true from h)
theorem kBd_t' {r : kR} {k : Nat → kR} (h : r.1 = true) : kBd r k = ((k r.2.1).1, (k r.2.1).2.1, r.2.2 ++ (k r.2.1).2.2) := if_pos h
theorem kPiece_fl {kd : Nat → Nat} {f i : Nat} (h : (kPiece kd f i).1 = true) : (kPiece kd f i).2.2 = kFl (kShs kd f i) := by
  unfold kPiece at h ⊢
  unfold kShs
  by_cases a0 : kd i = 0
  · rw [if_pos a0, if_neg (by omega)]
    exact kTks_nil _ _
  · rw [if_neg a0] at h ⊢
    by_cases a2 : kd i = 2
    · rw [if_pos a2, if_neg (by omega)]
      exact kTks_nil _ _
    · rw [if_neg a2] at h ⊢
      by_cases a5 : kd i = 5
      · rw [if_pos a5, if_neg (by omega)]
        exact kTks_nil _ _
      · rw [if_neg a5] at h ⊢
        by_cases a10 : kd i = 10
        · rw [if_pos a10] at h ⊢
          rw [if_pos a10]
          have h1 : (kBd (kTks kd [37, 11] (i + 1)) (kP kd f 9 0)).1 = true := by
            by_cases g : (kBd (kTks kd [37, 11] (i + 1)) (kP kd f 9 0)).1 = true
            · exact g
            · rw [kBd_f (Bool.eq_false_iff.mpr g)] at h
              exact h
          have h2 := kTks_fst h1
          have h3 : (kTks kd [37, 11] (i + 1)).2.1 = i + 1 + 1 + 1 := kTks_pos _ _ h2
          rw [kBd_t' h1, kBd_t' h2, h3, kTks_nil]
          rfl
        · rw [if_neg a10] at h
          exact Bool.noConfusion (show false = true from h)
theorem kPlan_fl {kd : Nat → Nat} {f : Nat} : ∀ (g i : Nat), (kPlan kd f g i).1 = true → (kPlan kd f g i).2.2 = kFl (kPls kd f g i)
  | 0, _, h => Bool.noConfusion (show false = true from h)
  | g + 1, i, h => by
    unfold kPlan kPls at *
    by_cases a : kd i = 39
    · rw [if_pos a, if_pos a]
      rfl
    · rw [if_neg a] at h ⊢
      rw [if_neg a]
      have h1 : (kBd (kPiece kd f i) (kT1 kd 26)).1 = true := by
        by_cases q : (kBd (kPiece kd f i) (kT1 kd 26)).1 = true
        · exact q
        · rw [kBd_f (Bool.eq_false_iff.mpr q)] at h
          exact h
      have h2 : (kPiece kd f i).1 = true := by
        by_cases q : (kPiece kd f i).1 = true
        · exact q
        · rw [kBd_f (Bool.eq_false_iff.mpr q)] at h1
          exact h1
      have h3 : (kPlan kd f g (kBd (kPiece kd f i) (kT1 kd 26)).2.1).1 = true := by
        rw [kBd_t' h1] at h
        exact h
      rw [kFl_app, ← kPiece_fl h2, ← kPlan_fl g _ h3, kBd_t' h1]
      show (kBd (kPiece kd f i) (kT1 kd 26)).2.2 ++ _ = _
      have h4 : (kBd (kPiece kd f i) (kT1 kd 26)).2.2 = (kPiece kd f i).2.2 := by
        rw [kBd_t' h2]
        show (kPiece kd f i).2.2 ++ (kT1 kd 26 (kPiece kd f i).2.1).2.2 = _
        have : (kT1 kd 26 (kPiece kd f i).2.1).2.2 = [] := by
          unfold kT1
          split <;> rfl
        rw [this, List.append_nil]
      rw [h4]
section FRONTC
variable {μ : jM} {N sz : Nat} {b : Nat → Int32}
theorem kTok_of (h : kTN b sz N) : kTok (kTk b sz) N := ⟨h.1, h.2.1, h.2.2.1, h.2.2.2, fun i => by
  unfold kTk
  split
  · decide
  · have := kKd_le (b := b) (sz := sz) (a := kTs b sz i) (len := kTl b sz i)
    omega⟩
/-- the class reads the tape: tokens, then the grammar -/
theorem front_c (hb : b = kBy (jI μ 155) sz) (hW : jWd μ) (hz : jI μ 65 1 = iN sz) (h2 : sz ≤ 2000) (hN : kTN b sz N) {d : Nat} : ∃ μ1 μ3, jTk μ μ1 b sz N ∧ jWd μ1 ∧ jWd (kClM μ1) ∧ jGf (kClM μ1) μ3 ∧ jWd μ3 ∧
    (∀ (Q : jO → jM → Prop), (Ex (d + 100) 27 0 [some (.ref 194), none, none, none, none] [] μ Q ↔ Q (.inl none) μ1)) ∧ (∀ (Q : jO → jM → Prop), (Ex (d + 100) 46 0 [some (.ref 579)] [] μ1 Q ↔ Q (.inl none) (kClM μ1))) ∧
    (∀ (Q : jO → jM → Prop), (Ex (d + 100) 48 0 [some (.ref 1413), none] [] (kClM μ1) Q ↔ Q (.inl (some (.int (bif (kPlan (kTk b sz) (8 * 402) 402 0).1 then 1 else 0)))) μ3)) ∧
    ((kPlan (kTk b sz) (8 * 402) 402 0).1 = false → jI μ3 194 7 = iN (kPlan (kTk b sz) (8 * 402) 402 0).2.1 ∧ (kPlan (kTk b sz) (8 * 402) 402 0).2.1 ≤ N - 1) ∧
    ((kPlan (kTk b sz) (8 * 402) 402 0).1 = true → jC0 μ3 (kTk b sz) N b sz ∧ (jI μ3 579 0 = 0 ∧ jI μ3 579 1 = 0 ∧ jI μ3 579 2 = 0 ∧ jI μ3 579 3 = 0) ∧ jI μ3 1156 3 = iN (kFl (kPls (kTk b sz) (8 * 402) 402 0)).length ∧ (kFl (kPls (kTk b sz) (8 * 402) 402 0)).length ≤ 400 ∧ kSq (jQ μ3 1248) (jI μ3 1304) 0 (kFl (kPls (kTk b sz) (8 * 402) 402 0))) := by
  have hT := kTok_of hN
  obtain ⟨μ1, t1, e1⟩ := c_read hb hW hz h2 hN
  obtain ⟨i1, i2, i3, i4, i5, i6, i7, i8⟩ := t1
  have hW1 : jWd μ1 := jWd_a (fun a n _ _ => i2 a n) hW
  obtain ⟨k1, k2, k3, k4, k5, k6, k7, k8⟩ := kClM_0 (μ := μ1)
  have hW2 : jWd (kClM μ1) := jWd_c k5 hW1
  have hG0 : jG0 (kClM μ1) (kTk b sz) N := ⟨hW2, hT, by rw [k3 194 (by decide) (by decide)]; exact i7, fun k hk => by rw [k5]; exact (i8 k hk).1⟩
  obtain ⟨μ3, p3, e3⟩ := c_gPlan hG0 (d := d + 100) (by omega) (ν := kClM μ1) ⟨fun _ _ _ _ => rfl, fun _ _ => rfl, fun _ _ => rfl, fun _ _ => rfl, rfl, rfl, rfl⟩ k2
  have bs := kPlan_b (f := 8 * 402) hT 402 0 (Nat.zero_le _)
  have hfr : jGf (kClM μ1) μ3 := by
    cases hh : (kPlan (kTk b sz) (8 * 402) 402 0).1 with
    | true => exact (p3.1 hh).1
    | false => exact (p3.2 hh).1
  have hW3 : jWd μ3 := jWd_a (fun a _ n _ => hfr.2.2.2.1 a n) hW2
  refine ⟨μ1, μ3, ⟨i1, i2, i3, i4, i5, i6, i7, i8⟩, hW1, hW2, hfr, hW3, fun Q => e1 (d + 92) Q, fun Q => c_clear (d := d + 99) hW1, e3, fun hh => ⟨(p3.2 hh).2, bs.1⟩, fun hh => ?_⟩
  have hGr := p3.1 hh
  rw [List.nil_append, kPlan_fl 402 0 hh] at hGr
  have hbl := (bs.2 hh).2
  rw [kPlan_fl 402 0 hh] at hbl
  have hN2 := hN.2.1
  have hbs1 := bs.1
  have o : ∀ a, ¬ a = 194 → ¬ a = 1156 → ¬ a = 1304 → ¬ a = 579 → jI μ3 a = jI μ1 a := fun a n1 n2 n3 n4 => by rw [hfr.1 a n1 n2 n3, k3 a n4 n2]
  refine ⟨⟨hW3, ?_, fun k hk => ⟨?_, ?_, fun h37 => ?_, fun h38 => ?_⟩⟩, ⟨?_, ?_, ?_, ?_⟩, hGr.2.2.1, by omega, hGr.2.2.2⟩
  · rw [hfr.2.1 6 (by decide), k3 194 (by decide) (by decide)]
    exact i7
  · rw [hfr.2.2.2.1 289 (by decide), k5]
    exact (i8 k hk).1
  · rw [o 409 (by decide) (by decide) (by decide) (by decide)]
    exact (i8 k hk).2.2.1
  · rw [hfr.2.2.2.2.1, k6, (i8 k hk).2.2.2.2, if_pos h37]
  · rw [o 473 (by decide) (by decide) (by decide) (by decide), (i8 k hk).2.2.2.1, if_pos h38]
  all_goals rw [hfr.1 579 (by decide) (by decide) (by decide)]
  · exact k1 0 (by decide)
  · exact k1 1 (by decide)
  · exact k1 2 (by decide)
  · exact k1 3 (by decide)
end FRONTC
