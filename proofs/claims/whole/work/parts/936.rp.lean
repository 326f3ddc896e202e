/-! THE PURE PART: the plan that is taught is the same in both. -/
theorem kFl_all {P : Nat × Nat → Prop} (h10 : ∀ t, P (10, t)) : ∀ Ls : List (List (Nat × Nat) × Nat), (∀ j, j < Ls.length → ∀ x ∈ (Ls.getD j ([], 0)).1, P x) → ∀ x ∈ kFl Ls, P x
  | [], _, x, hx => absurd hx (by simp [kFl])
  | (U, t) :: q, h, x, hx => by
    rcases List.mem_append.mp (show x ∈ U ++ (10, t) :: kFl q from hx) with e | e
    · exact h 0 (by show 0 < q.length + 1; omega) x e
    · rcases List.mem_cons.mp e with e | e
      · rw [e]
        exact h10 t
      · exact kFl_all h10 q (fun j hj => h (j + 1) (by show j + 1 < q.length + 1; omega)) x e
theorem kCat_split : ∀ (Ls : List (List (Nat × Nat) × Nat)) (k : Nat), k < Ls.length → kCat Ls = kCat (Ls.take k) ++ ((Ls.getD k ([], 0)).1 ++ kCat (Ls.drop (k + 1))) ∧ kCat (Ls.take (k + 1)) = kCat (Ls.take k) ++ (Ls.getD k ([], 0)).1
  | [], k, hk => absurd hk (by show ¬ k < 0; omega)
  | (U, t) :: q, k, hk => by
    cases k with
    | zero => exact ⟨rfl, show U ++ [] = [] ++ U by rw [List.append_nil]; rfl⟩
    | succ k =>
      obtain ⟨h1, h2⟩ := kCat_split q k (by have : k + 1 < q.length + 1 := hk; omega)
      constructor
      · show U ++ kCat q = (U ++ kCat (q.take k)) ++ ((q.getD k ([], 0)).1 ++ kCat (q.drop (k + 1)))
        rw [List.append_assoc, ← h1]
      · show U ++ kCat (q.take (k + 1)) = (U ++ kCat (q.take k)) ++ (q.getD k ([], 0)).1
        rw [List.append_assoc, ← h2]
theorem getD_mem {L : List (Nat × Nat)} : ∀ k, k < L.length → L.getD k (0, 0) ∈ L := by
  induction L with
  | nil => intro k hk; exact absurd hk (by show ¬ k < 0; omega)
  | cons a q ih =>
    intro k hk
    cases k with
    | zero => exact List.mem_cons_self ..
    | succ k => exact List.mem_cons_of_mem _ (ih k (by have : k + 1 < q.length + 1 := hk; omega))
theorem jWd_p {μ : jM} {k : Nat} {v : Option Nat} (h : jWd μ) (hk : k = 11 ∨ k = 12) : jWd (jsQ μ 4490 k v) := by
  unfold jWd at h ⊢
  rcases hk with e | e <;> subst e
  · simp only [mQ1, mQ2, Nat.reduceEqDiff, not_false_eq_true, if_false]
    exact h
  · simp only [mQ1, mQ2, Nat.reduceEqDiff, not_false_eq_true, if_false]
    exact h
section RPALL
variable {A0 B0 A3 A4 A5 B3 B4 : jM} {r N sz : Nat} {kd : Nat → Nat} {b : Nat → Int32} {Ls : List (List (Nat × Nat) × Nat)}
/-- the class's plan behind the copying -/
def jPcp (A4 A5 : jM) : Prop := jI A5 1731 0 = jI A4 579 0 ∧ jI A5 1731 1 = jI A4 579 1 ∧ jI A5 1731 2 = jI A4 579 2 ∧ jI A5 1731 3 = jI A4 579 3 ∧ jI A5 2308 3 = jI A4 1156 3 ∧ (∀ k, k < 400 → jI A5 2456 k = jI A4 1304 k) ∧ (∀ k, k < 6 → jI A5 1812 k = jI A4 660 k) ∧ (∀ k, k < 10 → jI A5 1872 k = jI A4 720 k) ∧ (∀ k, k < 10 → jI A5 1936 k = jI A4 784 k) ∧ (∀ k, k < 10 → jI A5 2000 k = jI A4 848 k) ∧ (∀ k, k < 10 → jI A5 2064 k = jI A4 912 k) ∧ (∀ k, k < 10 → jI A5 2128 k = jI A4 976 k) ∧ (∀ k, k < 10 → jI A5 2192 k = jI A4 1040 k) ∧ (∀ k, k < 10 → jI A5 2256 k = jI A4 1104 k)
theorem jPcp_of (h : jI A5 = jI (kTcM (kPcM A4))) : jPcp A4 A5 := by
  unfold jPcp
  rw [h]
  unfold kTcM kPcM
  refine ⟨?_, ?_, ?_, ?_, ?_, fun k hk => ?_, fun k hk => ?_, fun k hk => ?_, fun k hk => ?_, fun k hk => ?_, fun k hk => ?_, fun k hk => ?_, fun k hk => ?_, fun k hk => ?_⟩
  all_goals simp only [mR1, mR2, mI1, mI2, Nat.reduceEqDiff, not_false_eq_true, if_true, if_false]
  all_goals rw [if_pos hk]
theorem rp_all (hC : jC0 A0 kd N b sz) (hD : jSb B0 r kd N b sz) (hM : jMn A0 B0 A3 B3 r kd b sz (N - 1)) (hEv : kEven kd (N - 1)) (hLn : kLns kd N (jI A3 473) 0 Ls) (hc12 : kCn kd 12 (N - 1) = Ls.length)
    (hL3 : jI A3 1156 3 = iN (kFl Ls).length) (hL4 : (kFl Ls).length ≤ 400) (hSq : kSq (jQ A3 1248) (jI A3 1304) 0 (kFl Ls)) (hSt : jSt A3 A4 (fun j => ((kFl Ls).getD j (0, 0)).2) (kFl Ls).length (kFl Ls).length)
    (hPc : jPcp A4 A5) (hQ5 : ∀ a, ¬ a = 2400 → jQ A5 a = jQ A4 a) (hQs : ∀ k, k < (kFl Ls).length → jQ A5 2400 k = some (64 * ((kFl Ls).getD k (0, 0)).1 + 40))
    (hTs : ∀ k, k < Ls.length → k < 12 → jI B3 (64 * r + 659) k = iN (kWds (kCat (Ls.take k))) ∧ jI B3 (64 * r + 723) k = iN (kWds (kCat (Ls.take (k + 1)))))
    (hCo : jCo r B3 B4) (hLf : kLf (fun K t => if K = 38 then kNm b (kTs b sz t) (kTl b sz t) else jI B3 4889 t) (jI B4 (64 * r + 794)) 0 (kCat Ls)) :
    jRP A5 (jsQ B4 4490 11 (some (64 * r + 11))) r (kCn kd 1 (N - 1)) (kCn kd 2 (N - 1)) (kCn kd 3 (N - 1)) (kFl Ls).length (fun k => ((kFl Ls).getD k (0, 0)).1) (kCn kd 4 (N - 1)) (fun k => kVs (jI A3 473) (Ls.getD k ([], 0)).1) := by
  obtain ⟨hfA, hfB, hR⟩ := hM
  obtain ⟨f1, f2, f3, f4, f5, f6, f7, f8, f9, f10, f11, f12, f13, f14, f15, f16, f17, f18, f19, f20, f21, f22, f23⟩ := hR
  obtain ⟨v1, v2, v3, v4, v5, v6, v7, v8⟩ := hEv
  rw [v1] at f8
  rw [v2] at f9
  rw [v3] at f10 f11 f12
  rw [v4] at f13
  rw [v5] at f14
  rw [v6] at f15
  rw [v7] at f16
  rw [v8] at f17
  have hnh : Ls.length = kCn kd 4 (N - 1) := by rw [← hc12, v8]
  obtain ⟨s1, s2, s3, s4, s5, s6⟩ := hSt
  obtain ⟨p1, p2, p3, p4, p5, p6, p7, p8, p9, p10, p11, p12, p13, p14⟩ := hPc
  have o : ∀ a, ¬ a = 1304 → jI A4 a = jI A3 a := s1
  obtain ⟨g1, g2, g3, g4, g5⟩ := hCo
  have og : ∀ a, ¬ a = 64 * r + 794 → jI (jsQ B4 4490 11 (some (64 * r + 11))) a = jI B3 a := fun a ha => g1 a ha
  have hr2 := hD.1.2.2.1
  have hT := hD.1.2.1
  have hN2 := hT.2.1
  have hl4 := f4.2.2
  have hl3 := f3.2.2
  have hl2 := f2.2.2
  have hlen := kFl_len Ls
  -- tests
  have hok : ∀ k, k < Ls.length → kVal 0 (kVs (jI A3 473) (Ls.getD k ([], 0)).1) ∧ kBoo (kVs (jI A3 473) (Ls.getD k ([], 0)).1) ∧ kIn (kCn kd 3 (N - 1)) (kCn kd 2 (N - 1)) (kVs (jI A3 473) (Ls.getD k ([], 0)).1) ∧ ∀ x ∈ (Ls.getD k ([], 0)).1, kOk x.1 := fun k hk => by
    obtain ⟨a1, a2, a3, _, a4, a5⟩ := kLns_get Ls 0 hLn k hk
    exact kTest_ok a4 a5 f20 f21
  have hsh : ∀ k, k < Ls.length → jI B3 (64 * r + 594) k = jI A3 473 (Ls.getD k ([], 0)).2 := fun k hk => by
    obtain ⟨a1, a2, a3, _, _, _⟩ := kLns_get Ls 0 hLn k hk
    rw [f18 _ a2 a1, a3, Nat.zero_add]
  have hsB : jI (jsQ B4 4490 11 (some (64 * r + 11))) (64 * r + 594) = jI B3 (64 * r + 594) := og _ (by omega)
  have hall : kVs (jI A3 473) (kFl Ls) = kAll (fun k => kVs (jI A3 473) (Ls.getD k ([], 0)).1) (jI B3 (64 * r + 594)) 0 (kCn kd 4 (N - 1)) := by
    rw [← hnh]
    exact kAll_fl Ls 0 fun j hj => by
      rw [Nat.zero_add]
      exact ⟨rfl, hsh j hj⟩
  have q1 : ∀ k, k < 6 → jI A5 1812 k = jI A3 660 k := fun k hk => by rw [p7 k hk, o 660 (by decide)]
  have q2 : ∀ k, k < 10 → jI A5 1872 k = jI A3 720 k := fun k hk => by rw [p8 k hk, o 720 (by decide)]
  have q3 : ∀ k, k < 10 → jI A5 1936 k = jI A3 784 k := fun k hk => by rw [p9 k hk, o 784 (by decide)]
  have q4 : ∀ k, k < 10 → jI A5 2000 k = jI A3 848 k := fun k hk => by rw [p10 k hk, o 848 (by decide)]
  have q5 : ∀ k, k < 10 → jI A5 2064 k = jI A3 912 k := fun k hk => by rw [p11 k hk, o 912 (by decide)]
  have q6 : ∀ k, k < 10 → jI A5 2128 k = jI A3 976 k := fun k hk => by rw [p12 k hk, o 976 (by decide)]
  have q7 : ∀ k, k < 10 → jI A5 2192 k = jI A3 1040 k := fun k hk => by rw [p13 k hk, o 1040 (by decide)]
  have q8 : ∀ k, k < 10 → jI A5 2256 k = jI A3 1104 k := fun k hk => by rw [p14 k hk, o 1104 (by decide)]
  have q9 : ∀ k, k < (kFl Ls).length → jI A5 2456 k = jI A3 473 ((kFl Ls).getD k (0, 0)).2 := fun k hk => by rw [p6 k (by omega), s6 k hk, if_pos hk]
  have hP : ∀ x ∈ kFl Ls, kOk x.1 ∧ (x.1 = 14 → ∃ u, u < kCn kd 3 (N - 1) ∧ jI A3 473 x.2 = iN u) ∧ (x.1 = 16 → ∃ u, u < kCn kd 2 (N - 1) ∧ jI A3 473 x.2 = iN u) := kFl_all (fun t => ⟨Or.inl rfl, fun h => absurd (show (10 : Nat) = 14 from h) (by decide), fun h => absurd (show (10 : Nat) = 16 from h) (by decide)⟩) Ls fun j hj x hx => by
    obtain ⟨_, _, k3, k4⟩ := hok j hj
    have := k3 x.1 (jI A3 473 x.2) (List.mem_map.mpr ⟨x, hx, rfl⟩)
    exact ⟨k4 x hx, this.1, this.2⟩
  have hW5 : jWd A5 := jWd_a (fun a _ _ n => by rw [hQ5 a n, s2, hfA.2.2.2.1]) hC.1
  refine ⟨⟨hW5, by rw [p1, o 579 (by decide)]; exact f1.1, f1.2.2, by rw [p2, o 579 (by decide)]; exact f2.1, hl2, by rw [p3, o 579 (by decide)]; exact f3.1, hl3, by rw [p5, o 1156 (by decide)]; exact hL3, hL4, hQs, fun k hk => (hP _ (getD_mem k hk)).1, fun k hk h14 => ?_, fun k hk h16 => ?_⟩, ⟨?_, Or.inr hr2, ?_, ?_⟩, by rw [og _ (by omega)]; exact f1.2.1, by rw [og _ (by omega)]; exact f2.2.1, by rw [og _ (by omega)]; exact f3.2.1, ⟨by rw [og _ (by omega)]; exact f4.2.1, hl4, fun k hk => ?_⟩, by rw [p4, o 579 (by decide)]; exact f4.1, fun k hk => ?_, fun k hk => ?_, fun k j hk hj hkj => ?_, fun k hk => ?_, fun k hk => ?_, ?_, ?_, fun k hk => ?_⟩
  · obtain ⟨u, u1, u2⟩ := (hP _ (getD_mem k hk)).2.1 h14
    exact ⟨u, by omega, by rw [q9 k hk]; exact u2⟩
  · obtain ⟨u, u1, u2⟩ := (hP _ (getD_mem k hk)).2.2 h16
    exact ⟨u, u1, by rw [q9 k hk]; exact u2⟩
  · exact jWd_p (jWd_c (g2.trans hfB.2.2.2.1) hD.1.1) (Or.inl rfl)
  · rw [mQ1, if_pos rfl]
  · have hq := hD.1.2.2.2.2.1
    unfold jMq at hq ⊢
    rw [mQ2 (by omega), g2, hfB.2.2.2.1]
    exact hq
  · have hk' : k < Ls.length := by omega
    obtain ⟨t1, t2⟩ := hTs k hk' (by omega)
    obtain ⟨c1, c2⟩ := kCat_split Ls k hk'
    obtain ⟨a1, a2, a3, a0, a4, a5⟩ := kLns_get Ls 0 hLn k hk'
    have hcode : jI (jsQ B4 4490 11 (some (64 * r + 11))) (64 * r + 794) = jI B4 (64 * r + 794) := rfl
    have w1 : kWds (kCat (Ls.take (k + 1))) = kWds (kCat (Ls.take k)) + kWds (Ls.getD k ([], 0)).1 := by rw [c2, (kWds_app _ _).1]
    have w2 := (kWds_le (kCat Ls)).1
    have w3 : kWds (kCat Ls) = kWds (kCat (Ls.take k)) + (kWds (Ls.getD k ([], 0)).1 + kWds (kCat (Ls.drop (k + 1)))) := by rw [c1, (kWds_app _ _).1, (kWds_app _ _).1]
    refine ⟨kWds (kCat (Ls.take k)), kWds (kCat (Ls.take (k + 1))), by rw [og _ (by omega)]; exact t1, by rw [og _ (by omega)]; exact t2, by omega, ?_, (hok k hk').1, by rw [kVs_len]; exact a0⟩
    rw [hcode, w1]
    rw [c1] at hLf
    have l1 := (kLf_app _ _ _ hLf).2
    have l2 := (kLf_app _ _ _ l1).1
    rw [Nat.zero_add] at l2
    refine kLf_lay _ _ (fun x hx h2 => ?_) l2
    have hmx := a4 x hx
    show (if x.1 = 38 then kNm b (kTs b sz x.2) (kTl b sz x.2) else jI B3 4889 x.2) = jI A3 473 x.2
    by_cases e : x.1 = 38
    · rw [if_pos e]
      obtain ⟨b1, b2⟩ := hmx.2.1 e
      rw [f23 x.2 (by omega)]
      exact ((hC.2.2 x.2 (by omega)).2.2.2 b1).symm
    · rw [if_neg e]
      have h3 : x.1 = 14 ∨ x.1 = 15 ∨ x.1 = 16 := by
        unfold kTwo at h2
        simp only [Bool.or_eq_true, beq_iff_eq] at h2
        omega
      obtain ⟨b1, b2, b3, b4⟩ := hmx.1 h3
      refine (f19 x.2 b4 ?_).symm
      unfold kRole
      rw [if_pos b1, b3]
      rcases h3 with q | q | q <;> rw [q] <;> decide
  · obtain ⟨a, u, u1, u2, u3⟩ := f8 k hk
    rw [q1 k (by omega), og _ (by omega)]
    exact ⟨a, u, u1, u2, u3⟩
  · obtain ⟨a1, u, u1, u2⟩ := f9 k hk
    have a2 := f10 k hk
    obtain ⟨a3, w, w1, w2, w3⟩ := f11 k hk
    rw [q2 k (by omega), q3 k (by omega), q4 k (by omega), og _ (by omega), og _ (by omega), og _ (by omega)]
    exact ⟨a1, ⟨u, u1, u2⟩, a2, a3, w, w1, w2, w3⟩
  · rw [q3 k (by omega), q3 j (by omega), q4 k (by omega), q4 j (by omega)]
    exact f12 k j hk hj hkj
  · obtain ⟨a1, u, u1, u2⟩ := f13 k hk
    obtain ⟨a3, ⟨w, w1, w2⟩, w3⟩ := f14 k hk
    obtain ⟨a5, x, x1, x2, x3⟩ := f15 k hk
    obtain ⟨a6, y, y1, y2, y3⟩ := f16 k hk
    rw [q5 k (by omega), q6 k (by omega), q7 k (by omega), q8 k (by omega), og _ (by omega), og _ (by omega), og _ (by omega), og _ (by omega)]
    exact ⟨a1, a3, ⟨u, u1, u2⟩, ⟨w, w1, w2⟩, w3, a5, ⟨x, x1, x2, x3⟩, a6, y, y1, y2, y3⟩
  · obtain ⟨u, u1, u2⟩ := f17 k (by omega)
    rw [hsB]
    exact ⟨u, u1, u2⟩
  · rw [hsB, ← hall, kVs_len]
  · rw [hsB, ← hall]
    exact kSeq_of _ 0 fun j hj => by
      rw [kVs_len] at hj
      rw [Nat.zero_add, kVs_get _ j hj]
      exact ⟨rfl, q9 j hj⟩
  · obtain ⟨k1, k2, k3, _⟩ := hok k (by omega)
    exact ⟨k1, k2, k3⟩
end RPALL
