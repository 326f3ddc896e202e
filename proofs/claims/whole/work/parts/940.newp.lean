/-! THE PURE PART: a new plan, reference. -/
/-- objects made one behind the other, each told to a field of x -/
def jmk (x : Nat) : List (Nat × Nat) → jM → jM
  | [], μ => μ
  | (f, c) :: l, μ => jmk x l (jsQ (jnew μ c) x f (some (jadr μ c)))
def jmkS : List (Nat × Nat) → Nat
  | [] => 0
  | (_, c) :: l => jsz c + jmkS l
theorem jmk_len {x : Nat} : ∀ (l : List (Nat × Nat)) (μ : jM), (jA (jmk x l μ)).length = (jA μ).length + l.length
  | [], _ => rfl
  | (f, c) :: l, μ => by
    show (jA (jmk x l (jsQ (jnew μ c) x f (some (jadr μ c))))).length = (jA μ).length + (l.length + 1)
    rw [jmk_len l]
    show (jA μ ++ [jadr μ c]).length + l.length = _
    rw [List.length_append]
    show (jA μ).length + 1 + l.length = _
    omega
theorem jmk_gb {x b : Nat} (hx : 64 * b ≤ x) : ∀ (l : List (Nat × Nat)) (μ : jM), b ≤ (jA μ).length → (∀ y ∈ l, y.2 < 64) → jGb b l.length (jmkS l) μ (jmk x l μ)
  | [], _, _, _ => jGb_r
  | (f, c) :: l, μ, hb, hc => by
    have h1 := jnew_b (μ := μ) (b := b) (c := c) (s := jsz c) hb (hc _ (List.mem_cons_self ..)) (Nat.le_refl _)
    have h2 : jGb b 0 0 (jnew μ c) (jsQ (jnew μ c) x f (some (jadr μ c))) := ⟨fun a ha => ⟨rfl, rfl, mQ2 (by omega)⟩, rfl, rfl, Nat.le_refl _⟩
    have hl : (jA (jsQ (jnew μ c) x f (some (jadr μ c)))).length = (jA μ).length + 1 := by
      show (jA μ ++ [jadr μ c]).length = _
      rw [List.length_append]
      rfl
    have h3 := jmk_gb hx l (jsQ (jnew μ c) x f (some (jadr μ c))) (by omega) (fun y hy => hc y (List.mem_cons_of_mem _ hy))
    have := jGb_t (jGb_t h1 h2) h3
    rw [show ((f, c) :: l).length = 1 + 0 + l.length by show l.length + 1 = _; omega, show jmkS ((f, c) :: l) = jsz c + 0 + jmkS l by show jsz c + jmkS l = _; omega]
    exact this
/-- what stays as it is -/
theorem jmk_keep {x : Nat} : ∀ (l : List (Nat × Nat)) (μ : jM), x < 64 * (jA μ).length → (∀ y ∈ l, y.2 < 64) → (∀ a, a < 64 * (jA μ).length → jI (jmk x l μ) a = jI μ a ∧ jL (jmk x l μ) a = jL μ a ∧ (¬ a = x → jQ (jmk x l μ) a = jQ μ a)) ∧ ∀ k, (∀ y ∈ l, ¬ y.1 = k) → jQ (jmk x l μ) x k = jQ μ x k
  | [], _, _, _ => ⟨fun _ _ => ⟨rfl, rfl, fun _ => rfl⟩, fun _ _ => rfl⟩
  | (f, c) :: l, μ, hx, hc => by
    have hl : (jA (jsQ (jnew μ c) x f (some (jadr μ c)))).length = (jA μ).length + 1 := by
      show (jA μ ++ [jadr μ c]).length = _
      rw [List.length_append]
      rfl
    have hx' : x < 64 * (jA (jsQ (jnew μ c) x f (some (jadr μ c)))).length := by rw [hl]; omega
    obtain ⟨h1, h2⟩ := jmk_keep (x := x) l (jsQ (jnew μ c) x f (some (jadr μ c))) hx' (fun y hy => hc y (List.mem_cons_of_mem _ hy))
    have hn : ∀ a, a < 64 * (jA μ).length → ¬ a = jadr μ c := fun a ha => by unfold jadr; omega
    refine ⟨fun a ha => ?_, fun k hk => ?_⟩
    · obtain ⟨g1, g2, g3⟩ := h1 a (by omega)
      obtain ⟨r1, r2, r3⟩ := jnew_r (μ := μ) (c := c) (hn a ha)
      exact ⟨g1.trans r1, g2.trans r2, fun h => (g3 h).trans ((mQ2 h).trans r3)⟩
    · have r3 := (jnew_r (μ := μ) (c := c) (hn x hx)).2.2
      show jQ (jmk x l (jsQ (jnew μ c) x f (some (jadr μ c)))) x k = jQ μ x k
      rw [h2 k (fun y hy => hk y (List.mem_cons_of_mem _ hy)), mQ1, if_neg (fun e => hk (f, c) (List.mem_cons_self ..) e.symm), r3]
/-- what is made: empty rows, and the fields lead there -/
theorem jmk_new {x : Nat} : ∀ (l : List (Nat × Nat)) (μ : jM), x < 64 * (jA μ).length → (∀ y ∈ l, y.2 < 64) → (l.map Prod.fst).Nodup → ∀ i, i < l.length → jQ (jmk x l μ) x (l.getD i (0, 0)).1 = some (64 * ((jA μ).length + i) + (l.getD i (0, 0)).2) ∧ jI (jmk x l μ) (64 * ((jA μ).length + i) + (l.getD i (0, 0)).2) = fun _ => 0
  | [], _, _, _, _, i, hi => absurd hi (by show ¬ i < 0; omega)
  | (f, c) :: l, μ, hx, hc, hd, i, hi => by
    have hl : (jA (jsQ (jnew μ c) x f (some (jadr μ c)))).length = (jA μ).length + 1 := by
      show (jA μ ++ [jadr μ c]).length = _
      rw [List.length_append]
      rfl
    have hc' := fun y hy => hc y (List.mem_cons_of_mem _ hy)
    have hc0 : c < 64 := hc (f, c) (List.mem_cons_self ..)
    have hd' : ¬ f ∈ l.map Prod.fst ∧ (l.map Prod.fst).Nodup := List.nodup_cons.mp hd
    have hx' : x < 64 * (jA (jsQ (jnew μ c) x f (some (jadr μ c)))).length := by rw [hl]; omega
    obtain ⟨k1, k2⟩ := jmk_keep (x := x) l (jsQ (jnew μ c) x f (some (jadr μ c))) hx' hc'
    cases i with
    | zero =>
      show jQ (jmk x l (jsQ (jnew μ c) x f (some (jadr μ c)))) x f = some (64 * ((jA μ).length + 0) + c) ∧ jI (jmk x l (jsQ (jnew μ c) x f (some (jadr μ c)))) (64 * ((jA μ).length + 0) + c) = _
      constructor
      · rw [k2 f (fun y hy e => hd'.1 (List.mem_map.mpr ⟨y, hy, e⟩)), mQ1, if_pos rfl]
        rfl
      · rw [(k1 (64 * ((jA μ).length + 0) + c) (by omega)).1]
        exact jnew_z (μ := μ) (c := c)
    | succ i =>
      have hi' : i < l.length := by
        have : i + 1 < l.length + 1 := hi
        omega
      have := jmk_new (x := x) l (jsQ (jnew μ c) x f (some (jadr μ c))) hx' hc' hd'.2 i hi'
      rw [hl, show (jA μ).length + 1 + i = (jA μ).length + (i + 1) by omega] at this
      exact this
/-- the fields of a plan that is read -/
def kPlFs : List (Nat × Nat) := [(1, 20), (3, 16), (4, 16), (5, 16), (7, 16), (8, 16), (9, 16), (10, 16), (12, 18), (14, 19), (15, 19), (16, 26), (18, 24)]
theorem d_newPlan {μ : jM} {x : Nat} (hx : x % 64 = 11) {d : Nat} {Q : jO → jM → Prop} : Ex d 12 0 [some (.ref x)] [] μ Q ↔ Q (.inl none) (jmk x kPlFs μ) := by
  simp only [x12_0, x12_1, x12_4, x12_5, x12_7, x12_9, x12_12, x12_13, x12_15, x12_17, x12_20, x12_21, x12_23, x12_25, x12_28, x12_29, x12_31, x12_33, x12_36, x12_37, x12_39, x12_41, x12_44, x12_45, x12_47, x12_49, x12_52, x12_53, x12_55, x12_57, x12_60, x12_61, x12_63, x12_65, x12_68, x12_69, x12_71, x12_73, x12_76, x12_77, x12_79, x12_81, x12_84, x12_85, x12_87, x12_89, x12_92, x12_93, x12_96, x12_98, x12_101, x12_102, x12_105, x12_107, x12_110, mzi, mInc, mne, mlt9, mrk, mI1, mI2, mI3, mI4, mL1, mL2, mL3, mL4, mQ1, mQ2, mQ3, mQ4, mT1, mcat0, mcat1, mcat2, mcat3, mcat4, mrf1, jK_v, jK_n, JA, mz1, if_true, if_false, ite_true, ite_false, eq_self, not_false_eq_true, Nat.zero_le, true_and, and_true, and_self, Nat.reduceMod, Nat.reduceAdd, Nat.reduceLeDiff, Nat.reduceEqDiff, Nat.reduceLT, hx]
  rfl
