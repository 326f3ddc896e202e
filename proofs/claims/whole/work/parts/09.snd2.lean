/-! SOUNDNESS, the second part: stores into locals; branches, switches. -/
theorem jcat2 {w : Value} (h : w.category = 2) : (∃ x, w = .long x) ∨ ∃ x, w = .double x := by
  cases w <;> first | exact Or.inl ⟨_, rfl⟩ | exact Or.inr ⟨_, rfl⟩ | (simp [Value.category] at h)
theorem jclr_len (ls : List (Option Value)) (a : Nat) : (jclr ls a).length = ls.length := by
  cases a with
  | zero => rfl
  | succ a =>
    show (match ls[a]? with
      | some (some (.long _)) => ls.set a none
      | some (some (.double _)) => ls.set a none
      | _ => ls).length = ls.length
    split <;> simp
theorem jclr_get {ls : List (Option Value)} {a k : Nat} {w : Value} (h : (jclr ls a)[k]? = some (some w)) : ls[k]? = some (some w) ∧ ¬ (k + 1 = a ∧ w.category = 2) := by
  cases a with
  | zero => exact ⟨h, fun q => by omega⟩
  | succ a =>
    replace h : (match ls[a]? with
      | some (some (.long _)) => ls.set a none
      | some (some (.double _)) => ls.set a none
      | _ => ls)[k]? = some (some w) := h
    split at h
    · next x hx =>
      by_cases hk : a = k
      · subst hk
        rw [List.getElem?_set] at h
        simp at h
      · rw [List.getElem?_set_ne hk] at h
        exact ⟨h, fun q => hk (by omega)⟩
    · next x hx =>
      by_cases hk : a = k
      · subst hk
        rw [List.getElem?_set] at h
        simp at h
      · rw [List.getElem?_set_ne hk] at h
        exact ⟨h, fun q => hk (by omega)⟩
    · next h1 h2 =>
      refine ⟨h, fun q => ?_⟩
      obtain ⟨q1, q2⟩ := q
      have e : k = a := by omega
      subst e
      rcases jcat2 q2 with ⟨x, rfl⟩ | ⟨x, rfl⟩
      · exact h1 x h
      · exact h2 x h
section STO
variable {G : jG} {ad : Nat → Nat} {μ : jM} {lsA lsB : Array Slot} {n a : Nat} {ls : List (Option Value)} {v : Value}
/-- the listed locals of jLoc_has -/
abbrev jlist (G : jG) (ad : Nat → Nat) (n : Nat) (ls : List (Option Value)) : List (Nat × Value) := (List.range n).filterMap fun k => match ls[k]? with
    | some (some v) => some (k, jpv G ad v)
    | _ => none
theorem jlist_mem {k : Nat} {w : Value} (hn : ls.length = n) (h : ls[k]? = some (some w)) : (k, jpv G ad w) ∈ jlist G ad n ls := by
  refine List.mem_filterMap.mpr ⟨k, List.mem_range.mpr ?_, by rw [h]⟩
  have := (List.getElem?_eq_some_iff.mp h).1
  omega
theorem jLoc_st1 (hsio : (gsio G).isRef = true) (h : jLoc G ad μ lsA n ls) (hv : jvok μ v) (ha : a < n)
    (hB : lv_has lsB n ((a, jpv G ad v) :: (jlist G ad n ls).filter (fun q => !(q.1 == a) && !(q.1 + 1 == a && q.2.category == 2)))) : jLoc G ad μ lsB n (jst ls a v) := by
  obtain ⟨h1, h2, h3, h4⟩ := h
  obtain ⟨b1, b2, b3⟩ := hB
  refine ⟨by unfold jst; rw [List.length_set, jclr_len]; exact h1, b1, b2, fun k w hk => ?_⟩
  unfold jst at hk
  by_cases e : a = k
  · subst e
    rw [List.getElem?_set_self (by rw [jclr_len]; omega)] at hk
    cases hk
    exact ⟨b3 (a, jpv G ad v) List.mem_cons_self, hv⟩
  · rw [List.getElem?_set_ne e] at hk
    obtain ⟨g1, g2⟩ := jclr_get hk
    refine ⟨b3 (k, jpv G ad w) (List.mem_cons_of_mem _ (List.mem_filter.mpr ⟨jlist_mem h1 g1, ?_⟩)), (h4 k w g1).2⟩
    simp only [Bool.and_eq_true, Bool.not_eq_true', beq_eq_false_iff_ne, ne_eq, Bool.and_eq_false_iff]
    refine ⟨fun q => e q.symm, ?_⟩
    rw [jpv_cat hsio]
    by_cases q : k + 1 = a
    · exact Or.inr fun z => g2 ⟨q, z⟩
    · exact Or.inl q
theorem jLoc_st2 (hsio : (gsio G).isRef = true) (h : jLoc G ad μ lsA n ls) (hv : jvok μ v) (ha : a + 1 < n)
    (hB : lv_has lsB n ((a, jpv G ad v) :: (jlist G ad n ls).filter (fun q => !(q.1 == a) && (!(q.1 == a + 1) && !(q.1 + 1 == a && q.2.category == 2))))) : jLoc G ad μ lsB n (jst2 ls a v) := by
  obtain ⟨h1, h2, h3, h4⟩ := h
  obtain ⟨b1, b2, b3⟩ := hB
  refine ⟨by unfold jst2; rw [List.length_set, List.length_set, jclr_len]; exact h1, b1, b2, fun k w hk => ?_⟩
  unfold jst2 at hk
  by_cases e2 : a + 1 = k
  · subst e2
    rw [List.getElem?_set_self (by rw [List.length_set, jclr_len]; omega)] at hk
    cases hk
  · rw [List.getElem?_set_ne e2] at hk
    by_cases e : a = k
    · subst e
      rw [List.getElem?_set_self (by rw [jclr_len]; omega)] at hk
      cases hk
      exact ⟨b3 (a, jpv G ad v) List.mem_cons_self, hv⟩
    · rw [List.getElem?_set_ne e] at hk
      obtain ⟨g1, g2⟩ := jclr_get hk
      refine ⟨b3 (k, jpv G ad w) (List.mem_cons_of_mem _ (List.mem_filter.mpr ⟨jlist_mem h1 g1, ?_⟩)), (h4 k w g1).2⟩
      simp only [Bool.and_eq_true, Bool.not_eq_true', beq_eq_false_iff_ne, ne_eq, Bool.and_eq_false_iff]
      refine ⟨fun q => e q.symm, fun q => e2 q.symm, ?_⟩
      rw [jpv_cat hsio]
      by_cases q : k + 1 = a
      · exact Or.inr fun z => g2 ⟨q, z⟩
      · exact Or.inl q
theorem jLoc_none {k : Nat} (h : jLoc G ad μ lsA n ls) : jLoc G ad μ lsA n (ls.set k none) := by
  obtain ⟨h1, h2, h3, h4⟩ := h
  refine ⟨by rw [List.length_set]; exact h1, h2, h3, fun j w hj => ?_⟩
  by_cases e : k = j
  · subst e
    rw [List.getElem?_set] at hj
    simp at hj
  · rw [List.getElem?_set_ne e] at hj
    exact h4 j w hj
end STO
theorem jswt_spec {pc : Nat} {x : Int32} {d t : Nat} : ∀ (sw : List (Int32 × Nat)) (os : List Int) (lo : Int), jswt pc lo sw os = true → -2147483648 ≤ lo → lo + (os.length : Int) ≤ 2147483648 →
    (x.toInt < lo ∨ lo + (os.length : Int) ≤ x.toInt → jsw sw d x = d) ∧ (∀ k : Nat, x.toInt = lo + (k : Int) → k < os.length → ∃ off, os[k]? = some off ∧ (pc : Int) + off = (jsw sw d x : Int))
  | [], [], lo, h, h1, h2 => ⟨fun _ => rfl, fun k _ hk => absurd hk (Nat.not_lt_zero _)⟩
  | (v, u) :: r, o :: q, lo, h, h1, h2 => by
    simp only [jswt, Bool.and_eq_true, decide_eq_true_eq] at h
    obtain ⟨e1, e2, e3⟩ := h
    simp only [List.length_cons] at h2
    have ih := jswt_spec (x := x) (d := d) (t := t) r q (lo + 1) e3 (by omega) (by omega)
    have hv : v.toInt = lo := by rw [e1]; exact Int32.toInt_ofInt_of_le (by omega) (by omega)
    refine ⟨fun hx => ?_, fun k hk hl => ?_⟩
    · have hne : ¬ x = v := fun z => by rw [z, hv] at hx; simp only [List.length_cons] at hx; omega
      unfold jsw
      rw [if_neg hne]
      exact ih.1 (by simp only [List.length_cons] at hx; omega)
    · cases k with
      | zero =>
        have hx : x = v := Int32.toInt_inj.mp (by rw [hk, hv]; simp)
        unfold jsw
        rw [if_pos hx]
        exact ⟨o, rfl, e2⟩
      | succ k =>
        have hne : ¬ x = v := fun z => by rw [z, hv] at hk; omega
        unfold jsw
        rw [if_neg hne]
        simp only [List.length_cons] at hl
        obtain ⟨off, g1, g2⟩ := ih.2 k (by omega) (by omega)
        exact ⟨off, by simpa using g1, g2⟩
  | [], _ :: _, _, h, _, _ => by simp [jswt] at h
  | _ :: _, [], _, h, _, _ => by simp [jswt] at h
