/-! SOUNDNESS, the eleventh part: arrays of arrays; library calls. -/
theorem jrows_spec (o c : Nat) : ∀ (n k : Nat) (μ : jM), (∀ i : Nat, o ≠ 64 * ((jA μ).length + i) + c) →
    jA (jrows o c n k μ) = jA μ ++ (List.range n).map (fun i => 64 * ((jA μ).length + i) + c) ∧ jX (jrows o c n k μ) = jX μ ∧
    (∀ x, (∀ i, i < n → x ≠ 64 * ((jA μ).length + i) + c) → jI (jrows o c n k μ) x = jI μ x ∧ jL (jrows o c n k μ) x = jL μ x ∧ (x ≠ o → jQ (jrows o c n k μ) x = jQ μ x)) ∧
    (∀ i, i < n → jI (jrows o c n k μ) (64 * ((jA μ).length + i) + c) = (fun _ => 0) ∧ jL (jrows o c n k μ) (64 * ((jA μ).length + i) + c) = (fun _ => 0) ∧ jQ (jrows o c n k μ) (64 * ((jA μ).length + i) + c) = (fun _ => none)) ∧
    (∀ j, jQ (jrows o c n k μ) o j = if k ≤ j ∧ j < k + n then some (64 * ((jA μ).length + (j - k)) + c) else jQ μ o j) := by
  intro n
  induction n with
  | zero =>
    intro k μ ho
    refine ⟨by simp [jrows], rfl, fun x _ => ⟨rfl, rfl, fun _ => rfl⟩, fun i hi => absurd hi (Nat.not_lt_zero _), fun j => ?_⟩
    rw [if_neg (by omega)]
    rfl
  | succ n ih =>
    intro k μ ho
    have hl : (jA (jsQ (jnew μ c) o k (some (jadr μ c)))).length = (jA μ).length + 1 := by
      show (jA μ ++ [jadr μ c]).length = _
      simp
    have hoa : o ≠ jadr μ c := ho 0
    obtain ⟨h1, h2, h3, h4, h5⟩ := ih (k + 1) (jsQ (jnew μ c) o k (some (jadr μ c))) (fun i => by rw [hl]; have := ho (1 + i); rwa [← Nat.add_assoc] at this)
    rw [hl] at h1 h3 h4 h5
    have hr : jrows o c (n + 1) k μ = jrows o c n (k + 1) (jsQ (jnew μ c) o k (some (jadr μ c))) := rfl
    rw [hr]
    refine ⟨?_, h2, ?_, ?_, ?_⟩
    · rw [h1]
      show (jA μ ++ [jadr μ c]) ++ _ = _
      rw [List.append_assoc, List.range_succ_eq_map, List.map_cons, List.map_map]
      congr 1
      show jadr μ c :: _ = _
      congr 1
      apply List.map_congr_left
      intro i _
      show 64 * ((jA μ).length + 1 + i) + c = 64 * ((jA μ).length + (i + 1)) + c
      omega
    · intro x hx
      have hx0 : x ≠ jadr μ c := hx 0 (by omega)
      obtain ⟨g1, g2, g3⟩ := h3 x (fun i hi => by have := hx (i + 1) (by omega); intro z; apply this; rw [z]; omega)
      obtain ⟨r1, r2, r3⟩ := jnew_row hx0
      refine ⟨by rw [g1]; exact r1, by rw [g2]; exact r2, fun hxo => ?_⟩
      rw [g3 hxo]
      show j2 (jQ (jnew μ c)) o k (some (jadr μ c)) x = _
      rw [j2_ne _ _ _ hxo]
      exact r3
    · intro i hi
      cases i with
      | zero =>
        obtain ⟨g1, g2, g3⟩ := h3 (64 * ((jA μ).length + 0) + c) (fun i _ => by omega)
        obtain ⟨z1, z2, z3⟩ := jnew_zero μ c
        refine ⟨by rw [g1]; exact z1, by rw [g2]; exact z2, ?_⟩
        rw [g3 (fun z => ho 0 z.symm)]
        show j2 (jQ (jnew μ c)) o k (some (jadr μ c)) _ = _
        rw [j2_ne _ _ _ (fun z => ho 0 z.symm)]
        exact z3
      | succ i =>
        have := h4 i (by omega)
        rwa [show (jA μ).length + 1 + i = (jA μ).length + (i + 1) by omega] at this
    · intro j
      rw [h5 j]
      have e : jQ (jsQ (jnew μ c) o k (some (jadr μ c))) o j = if j = k then some (jadr μ c) else jQ μ o j := by
        show j2 (jQ (jnew μ c)) o k (some (jadr μ c)) o j = _
        rw [j2_self, (jnew_row hoa).2.2]
      rw [e]
      by_cases h : k + 1 ≤ j ∧ j < k + 1 + n
      · rw [if_pos h, if_pos (by omega), show (jA μ).length + 1 + (j - (k + 1)) = (jA μ).length + (j - k) by omega]
      · rw [if_neg h]
        by_cases h2 : j = k
        · rw [if_pos h2, if_pos (by omega), h2, Nat.sub_self]
          rfl
        · rw [if_neg h2, if_neg (by omega)]
theorem jrows_num {μ : jM} {a b : Nat} (ha : jak a = some (4, 12)) (hb : jak b = some (0, 12)) (ha1 : 13 ≤ a ∧ a < 40) (hb1 : 13 ≤ b ∧ b < 40) (hab : a ≠ b) : jnc (jrows (jadr μ a) b 12 0 (jnew μ a)) = jnc μ + 13 ∧ jns (jrows (jadr μ a) b 12 0 (jnew μ a)) = jns μ + 156 := by
  obtain ⟨m1, m2⟩ := jadr_mod (μ := μ) (c := a) (by omega)
  have hl1 : (jA (jnew μ a)).length = (jA μ).length + 1 := by
    show (jA μ ++ [jadr μ a]).length = _
    simp
  obtain ⟨s1, s2, s3, s4, s5⟩ := jrows_spec (jadr μ a) b 12 0 (jnew μ a) (fun i => by rw [hl1]; omega)
  rw [hl1] at s1
  generalize hμ' : jrows (jadr μ a) b 12 0 (jnew μ a) = μ' at s1 s2 s3 s4 s5 ⊢
  have hA : jA μ' = jA μ ++ [jadr μ a] ++ (List.range 12).map (fun i => 64 * ((jA μ).length + 1 + i) + b) := s1
  have s2 : jX μ' = jX μ := s2
  refine ⟨?_, ?_⟩
  · unfold jnc
    rw [hA, s2]
    simp
    show _ + jX μ = _
    omega
  · unfold jns
    rw [hA, s2, List.map_append, List.map_append, List.sum_append, List.sum_append, List.map_map]
    have e1 : jsz (jadr μ a) = 12 := jsz_arr (by omega) (by rw [m1]; exact ha)
    have e2 : (List.range 12).map (jsz ∘ fun i => 64 * ((jA μ).length + 1 + i) + b) = (List.range 12).map (fun _ => 12) := by
      apply List.map_congr_left
      intro i hi
      exact jsz_arr (t := 0) (show 13 ≤ (64 * ((jA μ).length + 1 + i) + b) % 64 by omega) (by rw [show (64 * ((jA μ).length + 1 + i) + b) % 64 = b by omega]; exact hb)
    rw [e2, show ((List.range 12).map (fun _ => 12)).sum = 144 from rfl]
    show _ + [jsz (jadr μ a)].sum + _ + 6 * jX μ = _
    rw [e1]
    simp
    omega
/-- the address map with an outer array and its rows -/
def jur (ad : Nat → Nat) (o b L q : Nat) (r : Nat → Nat) : Nat → Nat := fun x => if x = o then q else if x % 64 = b ∧ (L ≤ x / 64 ∧ x / 64 < L + 12) then r (x / 64 - L) else ad x
theorem jMem_rows {G : jG} {ad : Nat → Nat} {μ : jM} {H H1 : Heap} {q a b : Nat} {r : Nat → Nat} (hM : jMem G ad μ H) (ha : jak a = some (4, 12)) (hb : jak b = some (0, 12)) (ha1 : 13 ≤ a ∧ a < 40) (hb1 : 13 ≤ b ∧ b < 40) (hab : a ≠ b)
    (hP : va_P (gD G) jCl ((jwld G ad μ ++ [(q, .inl (gcy G 4, 12, .inr (.inr (.inr (.inr (fun i => if i < 12 then some (r i) else none))))))]) ++ (List.range 12).map (fun i => (r i, .inl (gcy G 0, 12, .inl fun _ => 0)))) H1)
    (hD : va_D (gA G) ((jwld G ad μ ++ [(q, .inl (gcy G 4, 12, .inr (.inr (.inr (.inr (fun i => if i < 12 then some (r i) else none))))))]) ++ (List.range 12).map (fun i => (r i, .inl (gcy G 0, 12, .inl fun _ => 0))))) :
    jMem G (jur ad (jadr μ a) b ((jA μ).length + 1) q r) (jrows (jadr μ a) b 12 0 (jnew μ a)) H1 ∧ jxt μ ad (jur ad (jadr μ a) b ((jA μ).length + 1) q r) ∧ jur ad (jadr μ a) b ((jA μ).length + 1) q r (jadr μ a) = q ∧ (∀ x, jok μ x → jok (jrows (jadr μ a) b 12 0 (jnew μ a)) x) ∧ jok (jrows (jadr μ a) b 12 0 (jnew μ a)) (jadr μ a) ∧
      jnc (jrows (jadr μ a) b 12 0 (jnew μ a)) = jnc μ + 13 ∧ jns (jrows (jadr μ a) b 12 0 (jnew μ a)) = jns μ + 156 := by
  obtain ⟨m1, m2⟩ := jadr_mod (μ := μ) (c := a) (by omega)
  have hl1 : (jA (jnew μ a)).length = (jA μ).length + 1 := by
    show (jA μ ++ [jadr μ a]).length = _
    simp
  obtain ⟨s1, s2, s3, s4, s5⟩ := jrows_spec (jadr μ a) b 12 0 (jnew μ a) (fun i => by rw [hl1]; omega)
  rw [hl1] at s1 s3 s4 s5
  generalize hμ' : jrows (jadr μ a) b 12 0 (jnew μ a) = μ' at s1 s2 s3 s4 s5 ⊢
  have hA : jA μ' = jA μ ++ [jadr μ a] ++ (List.range 12).map (fun i => 64 * ((jA μ).length + 1 + i) + b) := s1
  have hold : ∀ x, jok μ x → x ≠ jadr μ a ∧ ∀ i, x ≠ 64 * ((jA μ).length + 1 + i) + b := by
    intro x hx
    refine ⟨jadr_new hM (by omega) hx, fun i e => ?_⟩
    obtain ⟨k, hk⟩ := jok_at hx (by omega)
    have h3 := (hM.2.2.2.1 k _ hk).1
    have h4 := (List.getElem?_eq_some_iff.mp hk).1
    omega
  have hxt : jxt μ ad (jur ad (jadr μ a) b ((jA μ).length + 1) q r) := by
    intro x hx
    obtain ⟨e1, e2⟩ := hold x hx
    unfold jur
    rw [if_neg e1, if_neg]
    intro z
    exact e2 (x / 64 - ((jA μ).length + 1)) (by omega)
  have hself : jur ad (jadr μ a) b ((jA μ).length + 1) q r (jadr μ a) = q := by unfold jur; rw [if_pos rfl]
  have hrow : ∀ i, i < 12 → jur ad (jadr μ a) b ((jA μ).length + 1) q r (64 * ((jA μ).length + 1 + i) + b) = r i := by
    intro i hi
    unfold jur
    rw [if_neg (by omega), if_pos (by omega)]
    congr 1
    omega
  have hmono : ∀ x, jok μ x → jok μ' x := by
    intro x hx
    rcases hx with hx | hx
    · exact Or.inl (by rw [hA]; exact List.mem_append_left _ (List.mem_append_left _ hx))
    · exact Or.inr hx
  have hoo : jok μ' (jadr μ a) := Or.inl (by rw [hA]; exact List.mem_append_left _ (List.mem_append_right _ (List.mem_singleton.mpr rfl)))
  have hro : ∀ i, i < 12 → jok μ' (64 * ((jA μ).length + 1 + i) + b) := fun i hi => Or.inl (by rw [hA]; exact List.mem_append_right _ (List.mem_map.mpr ⟨i, List.mem_range.mpr hi, rfl⟩))
  have hQo : ∀ j, jQ μ' (jadr μ a) j = if j < 12 then some (64 * ((jA μ).length + 1 + j) + b) else none := by
    intro j
    rw [s5 j, (jnew_zero μ a).2.2]
    by_cases hj : j < 12
    · rw [if_pos (by omega), if_pos hj, Nat.sub_zero]
    · rw [if_neg (by omega), if_neg hj]
  have hrows : ∀ x, jok μ x → jI μ' x = jI μ x ∧ jL μ' x = jL μ x ∧ jQ μ' x = jQ μ x := by
    intro x hx
    obtain ⟨e1, e2⟩ := hold x hx
    obtain ⟨f1, f2, f3⟩ := s3 x (fun i _ => e2 i)
    obtain ⟨r1, r2, r3⟩ := jnew_row e1
    exact ⟨by rw [f1, r1], by rw [f2, r2], by rw [f3 e1, r3]⟩
  have hw : jwld G (jur ad (jadr μ a) b ((jA μ).length + 1) q r) μ' = (jwld G ad μ ++ [(q, .inl (gcy G 4, 12, .inr (.inr (.inr (.inr (fun i => if i < 12 then some (r i) else none))))))]) ++ (List.range 12).map (fun i => (r i, .inl (gcy G 0, 12, .inl fun _ => 0))) := by
    unfold jwld
    rw [hA, List.map_append, List.map_append, List.map_map]
    congr 1
    · congr 1
      · apply List.map_congr_left
        intro x hx
        rw [hxt x (Or.inl hx), jce_ext (hrows x (Or.inl hx)) (fun k b' hb' => hxt b' (hM.2.2.1 x hx k b' hb'))]
      · show [(_, _)] = _
        have hfun : (fun k => (jQ μ' (jadr μ a) k).map (jur ad (jadr μ a) b ((jA μ).length + 1) q r)) = (fun i => if i < 12 then some (r i) else none) := by
          funext j
          rw [hQo j]
          by_cases hj : j < 12
          · rw [if_pos hj, if_pos hj]
            show some _ = _
            rw [hrow j hj]
          · rw [if_neg hj, if_neg hj]
            rfl
        rw [hself, jce_arr (by omega) (by rw [m1]; exact ha), hfun]
        rfl
    · apply List.map_congr_left
      intro i hi
      have hi := List.mem_range.mp hi
      show (_, _) = _
      rw [hrow i hi, jce_arr (show 13 ≤ (64 * ((jA μ).length + 1 + i) + b) % 64 by omega) (by rw [show (64 * ((jA μ).length + 1 + i) + b) % 64 = b by omega]; exact hb), (s4 i hi).1]
      rfl
  rw [← hw] at hP hD
  refine ⟨⟨hP, hD, ?_, ?_, ?_, ?_, ?_⟩, hxt, hself, hmono, hoo, ?_, ?_⟩
  · intro x hx k b' hb'
    rw [hA] at hx
    rcases List.mem_append.mp hx with hx | hx
    · rcases List.mem_append.mp hx with hx | hx
      · rw [(hrows x (Or.inl hx)).2.2] at hb'
        exact hmono _ (hM.2.2.1 x hx k b' hb')
      · rw [List.mem_singleton.mp hx, hQo] at hb'
        by_cases hk : k < 12
        · rw [if_pos hk] at hb'
          cases hb'
          exact hro k hk
        · rw [if_neg hk] at hb'
          cases hb'
    · obtain ⟨i, hi, rfl⟩ := List.mem_map.mp hx
      rw [(s4 i (List.mem_range.mp hi)).2.2] at hb'
      cases hb'
  · intro k x hk
    rw [hA, List.append_assoc] at hk
    rcases Nat.lt_or_ge k (jA μ).length with h | h
    · rw [List.getElem?_append_left h] at hk
      exact hM.2.2.2.1 k x hk
    · rw [List.getElem?_append_right h] at hk
      rcases Nat.eq_or_lt_of_le h with h2 | h2
      · rw [← h2, Nat.sub_self] at hk
        cases hk
        exact ⟨by omega, Or.inr ⟨by omega, by rw [m1, ha]; rfl⟩⟩
      · rw [List.getElem?_append_right (by simp; omega)] at hk
        simp only [List.length_singleton, List.getElem?_map] at hk
        rcases Nat.lt_or_ge (k - (jA μ).length - 1) 12 with h3 | h3
        · rw [List.getElem?_range h3] at hk
          simp only [Option.map_some, Option.some.injEq] at hk
          subst hk
          refine ⟨by omega, Or.inr ⟨by omega, ?_⟩⟩
          rw [show (64 * ((jA μ).length + 1 + (k - (jA μ).length - 1)) + b) % 64 = b by omega, hb]
          rfl
        · rw [List.getElem?_eq_none (l := List.range 12) (by simp; omega)] at hk
          cases hk
  · intro x hx
    rw [hxt x (Or.inr hx)]
    exact hM.2.2.2.2.1 x hx
  · rw [(s3 45 (fun i _ => by omega)).1, (jnew_row (μ := μ) (c := a) (a := 45) (by omega)).1]
    exact hM.2.2.2.2.2.1
  · rw [(s3 44 (fun i _ => by omega)).1, (jnew_row (μ := μ) (c := a) (a := 44) (by omega)).1]
    exact hM.2.2.2.2.2.2
  · exact hμ' ▸ (jrows_num ha hb ha1 hb1 hab).1
  · exact hμ' ▸ (jrows_num ha hb ha1 hb1 hab).2
section SNN
variable {p : Program} {l : Launch} {e : Env} {R : Room} {s : State} {m : MethodId} {args : Array Value} {below : List Frame} {meth : Method} {c : Code} {Q : State → Prop}
variable {G : jG} {i : Nat} {k0 s0 : Nat} {μ0 : jM} {ad0 : Nat → Nat}
set_option maxHeartbeats 4000000 in
theorem snd_multi (C : jCtx G i p l s m args meth c) {t dd len a b : Nat} {v : Int32} {sw : List (Int32 × Nat)} {pc pc' : Nat} {ls ls' : List (Option Value)} {st st' : List Value} {μ μ' : jM} (hE : jchk i pc (.multianewarray t dd, len, a, b, v, sw) = true) (hs : jstep (.multianewarray t dd, len, a, b, v, sw) pc ls st μ = some (.inl (pc', ls', st', μ'))) (hR : jnc μ' ≤ R.cells + k0 ∧ jns μ' ≤ R.slots + s0)
    (k : jGo G i p l e R s m args below meth c Q k0 s0 μ0 ad0 pc' ls' st' μ') : jGo G i p l e R s m args below meth c Q k0 s0 μ0 ad0 pc ls st μ := by
  obtain ⟨hx, hb, hml, hown, hts, hlk, hFB, hret, hmn, hst, hgb⟩ := C
  have hd := jchk_dec hE
  unfold jchk at hE
  replace hE := (jand hE).2
  obtain ⟨h1, hE⟩ := jand hE
  have h1 : len = 4 := jbeq h1
  subst h1
  obtain ⟨h2, hE⟩ := jand hE
  have h2 : dd = 2 := jbeq h2
  subst h2
  obtain ⟨h3, hE⟩ := jand hE
  obtain ⟨h4, h5⟩ := jand hE
  have h3 : jak a = some (4, 12) := of_decide_eq_true h3
  have h4 : jak b = some (0, 12) := of_decide_eq_true h4
  obtain ⟨C, hC, hw⟩ := jcl1_inv h5
  have hC := of_decide_eq_true hC
  subst hC
  simp only [jstep] at hs
  split at hs
  · next n n2 r =>
    obtain ⟨h0, hs⟩ := jbif hs
    obtain ⟨rfl, rfl, rfl, rfl⟩ := jN_inv hs
    obtain ⟨f1, f2⟩ := jand h0
    have f1 := of_decide_eq_true f1
    have f2 := of_decide_eq_true f2
    subst f1
    subst f2
    have hsm : ∀ {y : Nat} {q : Nat × Nat}, jak y = some q → 13 ≤ y ∧ y < 40 := by
      intro y q hj
      have : y < 64 := by
        rcases Nat.lt_or_ge y 64 with h | h
        · exact h
        · rw [jak_big h] at hj; cases hj
      exact jak_small y this (by rw [hj]; rfl)
    have ha := hsm h3
    have hbb := hsm h4
    have hab : a ≠ b := by
      intro z
      rw [z, h4] at h3
      cases h3
    intro ad H locs cells slots lsA g1 g2 g3 g4 g5 g6 g7 g8
    have hAO : va_AOA .int s := by
      obtain ⟨-, -, -, -, -, -, -, -, -, -, -, -, -, h, -⟩ := hFB
      exact h.2
    have hcy : s.vm.findClass (FieldType.array .int).toString = some (gcy G 0) := ((jFB_K hFB).2 0 _ rfl).2
    obtain ⟨n1, n2⟩ : ¬ (12 : Int32) < 0 ∧ (12 : Int32).toNatClampNeg = 12 := ⟨by decide, by decide⟩
    have hz : ∀ c : ClassId, Jvm.Free.Multi.innerC c 12 (defaultValue .int) = vp_cell c (12, .inl fun _ => 0) := by
      intro c
      show ({ cls := c, slots := Array.replicate 12 (Value.int 0), vm := .none } : Cell) = _
      rw [arrV_new]
      rfl
    obtain ⟨m1, m2⟩ := jadr_mod (μ := μ) (c := a) (by omega)
    have hnum : jnc (jrows (jadr μ a) b 12 0 (jnew μ a)) = jnc μ + 13 ∧ jns (jrows (jadr μ a) b 12 0 (jnew μ a)) = jns μ + 156 := jrows_num h3 h4 ha hbb hab
    rw [hnum.1, hnum.2] at hR
    refine va_mna (X := jwld G ad μ) (L := []) (f := fun _ => .inl (0, 0, .inl fun _ => 0)) hx hb hown (ty := .int) (hts _ (jwin _ hw rfl)) hAO (hts _ jarc_in.1) hcy (jFB_K hFB) (by show va_P _ _ (jwld G ad μ ++ []) _; rw [List.append_nil]; exact g3.1) (by show va_D _ (jwld G ad μ ++ []); rw [List.append_nil]; exact g3.2.1) g4 (fun z hz => Nat.le_trans hgb hz) n1 n1 n2 n2 (by decide) (by decide) (by decide) (by decide) (by decide) (by omega) (by omega) hz hd ?_
    intro q r' cA H1 _ _ hT hP hD hS
    have hcA := jgcy_t (k := 4) hT (jFB_K hFB) rfl
    subst hcA
    have hpl : va_pl ([] ++ (List.range 12).map r') (vr_up (fun _ => .inl (0, 0, .inl fun _ => 0)) ((List.range 12).map r') (.inl (gcy G 0, (12, .inl fun _ => 0)))) = (List.range 12).map (fun i => (r' i, .inl (gcy G 0, 12, .inl fun _ => 0))) := by
      unfold va_pl
      rw [List.nil_append, List.map_map]
      apply List.map_congr_left
      intro i hi
      show (_, _) = _
      rw [vr_up_in (List.mem_map.mpr ⟨i, hi, rfl⟩)]
    rw [hpl] at hP hD
    obtain ⟨t1, t2, t3, t4, t5, t6, t7⟩ := jMem_rows g3 h3 h4 ha hbb hab hP hD
    have h := k (jur ad (jadr μ a) b ((jA μ).length + 1) q r') H1 locs (cells + 1 + 12) (slots + 12 + 12 * 12) lsA (fun x hx0 => by rw [t2 x (g2 x hx0)]; exact g1 x hx0) (fun x h => t4 x (g2 x h)) t1 hS (jLoc_xt t2 t4 g5) (jStk_cons t5 (jStk_mono t4 (jStk_tail (jStk_tail g6)))) (by rw [t6]; omega) (by rw [t7]; omega)
    rw [List.map_cons, jStk_xt t2 (jStk_tail (jStk_tail g6)), show jpv G (jur ad (jadr μ a) b ((jA μ).length + 1) q r') (.ref (jadr μ a)) = .ref q from congrArg Value.ref t3] at h
    exact h
  · cases hs
end SNN
