/-! SOUNDNESS, the tenth part: new objects and arrays. -/
theorem jce_ext {G : jG} {ad ad' : Nat → Nat} {μ μ' : jM} {a : Nat} (h : jI μ' a = jI μ a ∧ jL μ' a = jL μ a ∧ jQ μ' a = jQ μ a) (hq : ∀ k b : Nat, jQ μ a k = some b → ad' b = ad b) : jce G ad' μ' a = jce G ad μ a := by
  obtain ⟨e1, e2, e3⟩ := h
  have e5 : ∀ k, (jQ μ a k).map ad' = (jQ μ a k).map ad := by
    intro k
    cases hk : jQ μ a k with
    | none => rfl
    | some b =>
      show some (ad' b) = some (ad b)
      rw [hq k b hk]
  have e4 : jfv G ad' μ' a = jfv G ad μ a := by
    funext k
    unfold jfv
    rw [e1, e3, e5]
  have e6 : (fun k => (jQ μ a k).map ad') = (fun k => (jQ μ a k).map ad) := funext e5
  unfold jce
  rw [e4, e1, e2, e3, e6]
theorem jadr_mod {μ : jM} {c : Nat} (hc : c < 64) : jadr μ c % 64 = c ∧ jadr μ c / 64 = (jA μ).length := by
  unfold jadr
  omega
theorem jadr_new {G : jG} {ad : Nat → Nat} {μ : jM} {H : Heap} (hM : jMem G ad μ H) {c x : Nat} (hc : c < 40) (hx : jok μ x) : x ≠ jadr μ c := by
  obtain ⟨h1, h2⟩ := jadr_mod (μ := μ) (c := c) (by omega)
  intro e
  subst e
  obtain ⟨k, hk⟩ := jok_at hx (by omega)
  have h3 := (hM.2.2.2.1 k _ hk).1
  have h4 := (List.getElem?_eq_some_iff.mp hk).1
  omega
/-- the address map with one address more -/
def jup (ad : Nat → Nat) (x q : Nat) : Nat → Nat := fun y => if y = x then q else ad y
theorem jup_self (ad : Nat → Nat) (x q : Nat) : jup ad x q x = q := if_pos rfl
theorem jup_ne {ad : Nat → Nat} {x q y : Nat} (h : y ≠ x) : jup ad x q y = ad y := if_neg h
theorem jxt_up {G : jG} {ad : Nat → Nat} {μ : jM} {H : Heap} (hM : jMem G ad μ H) {c : Nat} (hc : c < 40) (q : Nat) : jxt μ ad (jup ad (jadr μ c) q) := fun _ hx => jup_ne (jadr_new hM hc hx)
theorem jnew_row {μ : jM} {c a : Nat} (h : a ≠ jadr μ c) : jI (jnew μ c) a = jI μ a ∧ jL (jnew μ c) a = jL μ a ∧ jQ (jnew μ c) a = jQ μ a := ⟨jrow_ne _ _ h, jrow_ne _ _ h, jrow_ne _ _ h⟩
theorem jnew_zero (μ : jM) (c : Nat) : jI (jnew μ c) (jadr μ c) = (fun _ => 0) ∧ jL (jnew μ c) (jadr μ c) = (fun _ => 0) ∧ jQ (jnew μ c) (jadr μ c) = (fun _ => none) := ⟨jrow_self _ _ _, jrow_self _ _ _, jrow_self _ _ _⟩
theorem jok_new {μ : jM} {c x : Nat} (h : jok μ x) : jok (jnew μ c) x := by
  rcases h with h | h
  · exact Or.inl (List.mem_append_left _ h)
  · exact Or.inr h
theorem jok_adr (μ : jM) (c : Nat) : jok (jnew μ c) (jadr μ c) := Or.inl (List.mem_append_right _ (List.mem_singleton.mpr rfl))
theorem jwld_new {G : jG} {ad : Nat → Nat} {μ : jM} {H : Heap} (hM : jMem G ad μ H) {c : Nat} (hc : c < 40) (q : Nat) : jwld G (jup ad (jadr μ c) q) (jnew μ c) = jwld G ad μ ++ [(q, jce G (jup ad (jadr μ c) q) (jnew μ c) (jadr μ c))] := by
  unfold jwld
  show (jA μ ++ [jadr μ c]).map _ = _
  rw [List.map_append]
  congr 1
  · apply List.map_congr_left
    intro a ha
    have hne := jadr_new hM hc (Or.inl ha)
    rw [jup_ne hne, jce_ext (jnew_row hne) (fun k b hb => jup_ne (jadr_new hM hc (hM.2.2.1 a ha k b hb)))]
  · show [(_, _)] = _
    rw [jup_self]
theorem jMem_new {G : jG} {ad : Nat → Nat} {μ : jM} {H H1 : Heap} {q c : Nat} {E : va_E} (hM : jMem G ad μ H) (hc : c < 13 ∨ (13 ≤ c ∧ c < 40 ∧ (jak c).isSome = true)) (hE : jce G (jup ad (jadr μ c) q) (jnew μ c) (jadr μ c) = E)
    (hP : va_P (gD G) jCl (jwld G ad μ ++ [(q, E)]) H1) (hD : va_D (gA G) (jwld G ad μ ++ [(q, E)])) : jMem G (jup ad (jadr μ c) q) (jnew μ c) H1 := by
  have hc40 : c < 40 := by omega
  obtain ⟨m1, m2⟩ := jadr_mod (μ := μ) (c := c) (by omega)
  subst hE
  rw [← jwld_new hM hc40] at hP hD
  refine ⟨hP, hD, ?_, ?_, ?_, ?_, ?_⟩
  · intro a ha k b hb
    rcases List.mem_append.mp ha with ha | ha
    · rw [(jnew_row (jadr_new hM hc40 (Or.inl ha))).2.2] at hb
      exact jok_new (hM.2.2.1 a ha k b hb)
    · rw [List.mem_singleton.mp ha, (jnew_zero μ c).2.2] at hb
      cases hb
  · intro k a hk
    replace hk : (jA μ ++ [jadr μ c])[k]? = some a := hk
    rcases Nat.lt_trichotomy k (jA μ).length with h | h | h
    · rw [List.getElem?_append_left h] at hk
      exact hM.2.2.2.1 k a hk
    · rw [h, List.getElem?_append_right (Nat.le_refl _), Nat.sub_self] at hk
      cases hk
      refine ⟨by omega, ?_⟩
      rw [m1]
      rcases hc with hc | ⟨h1, -, h2⟩
      · exact Or.inl hc
      · exact Or.inr ⟨h1, h2⟩
    · rw [List.getElem?_eq_none (by simp; omega)] at hk
      cases hk
  · intro x hx
    rw [jup_ne (jadr_new hM hc40 (Or.inr hx))]
    exact hM.2.2.2.2.1 x hx
  · rw [(jnew_row (μ := μ) (c := c) (a := 45) (by omega)).1]; exact hM.2.2.2.2.2.1
  · rw [(jnew_row (μ := μ) (c := c) (a := 44) (by omega)).1]; exact hM.2.2.2.2.2.2
theorem jnc_new (μ : jM) (c : Nat) : jnc (jnew μ c) = jnc μ + 1 := by
  unfold jnc
  show (jA μ ++ [jadr μ c]).length + jX μ = _
  rw [List.length_append]
  simp
  omega
theorem jns_new (μ : jM) (c : Nat) : jns (jnew μ c) = jns μ + jsz (jadr μ c) := by
  unfold jns
  show ((jA μ ++ [jadr μ c]).map jsz).sum + 6 * jX μ = _
  rw [List.map_append, List.sum_append]
  simp
  omega
theorem jsz_obj {x : Nat} {q : vw_C} (h : jCl[x % 64]? = some q) : jsz x = q.2.2 := by unfold jsz; rw [h]
theorem jsz_arr {x t n : Nat} (h : 13 ≤ x % 64) (h2 : jak (x % 64) = some (t, n)) : jsz x = n := by
  unfold jsz
  rw [jCl_none h]
  simp only [h2]
theorem jak_max : ∀ c, c < 64 → ∀ q, jak c = some q → q.2 ≤ 4096 ∧ q.1 ≤ 4 := by decide
theorem jak_big {c : Nat} (h : 64 ≤ c) : jak c = none := by
  have hb : ∀ k, k < 64 → Nat.blt c k = false := by
    intro k hk
    cases h2 : Nat.blt c k
    · rfl
    · have := Nat.le_of_ble_eq_true h2
      omega
  have hq : ∀ k, k < 64 → Nat.beq c k = false := fun k hk => jbne (by omega)
  unfold jak
  simp [hb, hq]
theorem jcl1_inv {i pc idx : Nat} {f : String → Bool} (h : jcl1 i pc idx f = true) : ∃ C, f C = true ∧ tables_1[jw i pc]? = some (.classLink (jY i).cls idx C) := by
  unfold jcl1 at h
  split at h
  · next o x n hw =>
    obtain ⟨h1, h⟩ := jand h
    obtain ⟨h2, h3⟩ := jand h
    exact ⟨n, h3, by rw [hw, of_decide_eq_true h1, jbeq h2]⟩
  · cases h
theorem jCl_make : ∀ q ∈ jCl, (.instantiable q.1 q.2.2 : Jvm.Cond) ∈ jW ∧ (.initialized q.1 : Jvm.Cond) ∈ jW := by
  have h1 : jCl.all (fun q => (decide ((.instantiable q.1 q.2.2 : Jvm.Cond) ∈ tables_1) && goodWord (.instantiable q.1 q.2.2)) && (decide ((.initialized q.1 : Jvm.Cond) ∈ tables_1) && goodWord (.initialized q.1))) = true := by decide +kernel
  intro q hq
  have h2 := List.all_eq_true.mp h1 q hq
  obtain ⟨h3, h4⟩ := jand h2
  obtain ⟨h5, h6⟩ := jand h3
  obtain ⟨h7, h8⟩ := jand h4
  exact ⟨List.mem_filter.mpr ⟨List.mem_append_right _ (of_decide_eq_true h5), h6⟩, List.mem_filter.mpr ⟨List.mem_append_right _ (of_decide_eq_true h7), h8⟩⟩
theorem jarc_in : (.arrayClass .int : Jvm.Cond) ∈ jW ∧ (.arrayClass .byte : Jvm.Cond) ∈ jW ∧ (.arrayClass .long : Jvm.Cond) ∈ jW := by
  have h1 : (decide ((.arrayClass .int : Jvm.Cond) ∈ tables_1) && (goodWord (.arrayClass .int) && (decide ((.arrayClass .byte : Jvm.Cond) ∈ tables_1) && (goodWord (.arrayClass .byte) && (decide ((.arrayClass .long : Jvm.Cond) ∈ tables_1) && goodWord (.arrayClass .long)))))) = true := by decide +kernel
  obtain ⟨a1, h1⟩ := jand h1
  obtain ⟨a2, h1⟩ := jand h1
  obtain ⟨a3, h1⟩ := jand h1
  obtain ⟨a4, h1⟩ := jand h1
  obtain ⟨a5, a6⟩ := jand h1
  exact ⟨List.mem_filter.mpr ⟨List.mem_append_right _ (of_decide_eq_true a1), a2⟩, List.mem_filter.mpr ⟨List.mem_append_right _ (of_decide_eq_true a3), a4⟩, List.mem_filter.mpr ⟨List.mem_append_right _ (of_decide_eq_true a5), a6⟩⟩
section SNM
variable {p : Program} {l : Launch} {e : Env} {R : Room} {s : State} {m : MethodId} {args : Array Value} {below : List Frame} {meth : Method} {c : Code} {Q : State → Prop}
variable {G : jG} {i : Nat} {k0 s0 : Nat} {μ0 : jM} {ad0 : Nat → Nat}
/-- going on with a new cell -/
theorem jnew_go {ad : Nat → Nat} {μ : jM} {H H1 : Heap} {locs1 : List Loc} {cells slots q a pc : Nat} {lsA : Array Slot} {ls : List (Option Value)} {st : List Value} {E : va_E} {N : Nat} (k : jGo G i p l e R s m args below meth c Q k0 s0 μ0 ad0 pc ls (.ref (jadr μ a) :: st) (jnew μ a)) (hM : jMem G ad μ H) (hc : a < 13 ∨ (13 ≤ a ∧ a < 40 ∧ (jak a).isSome = true)) (hE : jce G (jup ad (jadr μ a) q) (jnew μ a) (jadr μ a) = E) (hN : jsz (jadr μ a) = N)
    (g1 : jxt μ0 ad0 ad) (g2 : ∀ x, jok μ0 x → jok μ x) (g5 : jLoc G ad μ lsA (jmL i) ls) (g6 : jStk μ st) (g7 : cells + k0 = jnc μ) (g8 : slots + s0 = jns μ)
    (hP : va_P (gD G) jCl (jwld G ad μ ++ [(q, E)]) H1) (hD : va_D (gA G) (jwld G ad μ ++ [(q, E)])) (g4 : va_S (gA G) s.heap H1 locs1) :
    W p l e R s m args below meth c H1 locs1 (cells + 1) (slots + N) Q (F0 m pc lsA (.ref q :: st.map (jpv G ad))) := by
  have hx := jxt_up hM (c := a) (by omega) q
  have h := k (jup ad (jadr μ a) q) H1 locs1 (cells + 1) (slots + N) lsA (fun x hx0 => by rw [hx x (g2 x hx0)]; exact g1 x hx0) (fun x h => jok_new (g2 x h)) (jMem_new hM hc hE hP hD) g4 (jLoc_xt hx (fun _ h => jok_new h) g5) (jStk_cons (jok_adr μ a) (jStk_mono (fun _ h => jok_new h) g6)) (by rw [jnc_new]; omega) (by rw [jns_new, hN]; omega)
  rw [List.map_cons, jStk_xt hx g6, show jpv G (jup ad (jadr μ a) q) (.ref (jadr μ a)) = .ref q from congrArg Value.ref (jup_self _ _ _)] at h
  exact h
set_option maxHeartbeats 4000000 in
theorem snd_new (C : jCtx G i p l s m args meth c) {n len a b : Nat} {v : Int32} {sw : List (Int32 × Nat)} {pc pc' : Nat} {ls ls' : List (Option Value)} {st st' : List Value} {μ μ' : jM} (hE : jchk i pc (.new n, len, a, b, v, sw) = true) (hs : jstep (.new n, len, a, b, v, sw) pc ls st μ = some (.inl (pc', ls', st', μ'))) (hR : jnc μ' ≤ R.cells + k0 ∧ jns μ' ≤ R.slots + s0)
    (k : jGo G i p l e R s m args below meth c Q k0 s0 μ0 ad0 pc' ls' st' μ') : jGo G i p l e R s m args below meth c Q k0 s0 μ0 ad0 pc ls st μ := by
  obtain ⟨hx, hb, hml, hown, hts, hlk, hFB, hret, hmn, hst, hgb⟩ := C
  have hd := jchk_dec hE
  unfold jchk at hE
  replace hE := (jand hE).2
  obtain ⟨h1, hE⟩ := jand hE
  have h1 : len = 3 := jbeq h1
  subst h1
  simp only [jstep] at hs
  replace hE : (bif Nat.ble 1000 a then Nat.blt a 1003 && (jcl1 i pc n (fun x => decide (x = jexn (a - 1000))) && jthc i pc (a - 1000)) else Nat.blt a 13 && jcl1 i pc n (fun x => decide (some x = (jCl[a]?).map (·.1)))) = true := hE
  cases hb0 : Nat.ble 1000 a with
  | true =>
    rw [hb0] at hs
    simp only [cond_true] at hs
    obtain ⟨-, hs⟩ := jbif hs
    cases hs
  | false =>
    rw [hb0] at hs hE
    simp only [cond_false] at hs hE
    obtain ⟨rfl, rfl, rfl, rfl⟩ := jN_inv hs
    obtain ⟨h2, h3⟩ := jand hE
    have e1 : a < 13 := Nat.le_of_ble_eq_true h2
    obtain ⟨q, hq⟩ := jCl_some e1
    obtain ⟨hqf, hqn⟩ := jCl_at hq
    obtain ⟨C, hC, hw⟩ := jcl1_inv h3
    have hC : some C = (jCl[a]?).map (·.1) := of_decide_eq_true hC
    rw [hq] at hC
    have hC : C = q.1 := Option.some.inj hC
    subst hC
    obtain ⟨w1, w2⟩ := jCl_make q (List.mem_of_getElem? hq)
    intro ad H locs cells slots lsA g1 g2 g3 g4 g5 g6 g7 g8
    obtain ⟨m1, m2⟩ := jadr_mod (μ := μ) (c := a) (by omega)
    obtain ⟨z1, z2, z3⟩ := jnew_zero μ a
    have hqx : jCl[jadr μ a % 64]? = some q := by rw [m1]; exact hq
    have hprs : ∀ k, k < q.2.2 → parseFieldDescriptor (q.2.1 k).2.2.1 = some ((parseFieldDescriptor (q.2.1 k).2.2.1).getD .int) := by
      intro k hk
      have hp := jCl_prs a e1 k (by rw [hqn]; exact hk)
      rw [hqf] at hp
      obtain ⟨t, ht⟩ := Option.isSome_iff_exists.mp hp
      rw [ht]; rfl
    have hEe : ∀ r, jce G (jup ad (jadr μ a) r) (jnew μ a) (jadr μ a) = .inr (a, (List.range q.2.2).map fun k => bif Nat.beq (jft a k) 0 then Value.int 0 else Value.null) := by
      intro r
      rw [jce_obj hqx, m1]
      congr 2
      apply List.map_congr_left
      intro k _
      unfold jfv
      rw [m1, z1, z3]
      rfl
    have hsz : jsz (jadr μ a) = q.2.2 := jsz_obj hqx
    rw [jnc_new, jns_new, hsz] at hR
    refine va_new hx hb hts (jcl_in _ _ hq) _ hprs hown (hts _ (jwin _ hw rfl)) (hts _ w1) (hts _ w2) (jFB_K hFB) g3.1 g3.2.1 g4 (fun z hz => Nat.le_trans hgb hz) hq (fs := (List.range q.2.2).map fun k => bif Nat.beq (jft a k) 0 then Value.int 0 else Value.null) ?_ (by omega) (by omega) hd ?_
    · intro j hj
      obtain ⟨d0, d2, d3⟩ := jCl_des a e1 j (by rw [hqn]; exact hj)
      rw [hqf] at d0 d2
      unfold vp_V
      rw [List.getD_eq_getElem?_getD, List.getElem?_map, List.getElem?_range hj, Option.map_some, Option.getD_some]
      rcases d3 with d3 | d3
      · rw [d0 d3, d3]
        decide
      · rw [d3]
        have hh := d2 d3
        unfold jrk at hh
        split at hh
        · next x hx => rw [hx]; rfl
        · next x hx => rw [hx]; rfl
        · cases hh
    · intro r H1 hP hD hS
      exact jnew_go k g3 (Or.inl e1) (hEe r) hsz g1 g2 g5 g6 g7 g8 hP hD hS
theorem jgcy_t {cA : ClassId} {ty : FieldType} {k : Nat} {U : State} (hT : va_K (gD G) jCl (jtys G ++ [(cA, ty)]) U) (hK : va_K (gD G) jCl (jtys G) U) (hk : (jtys G)[k]? = some (gcy G k, ty)) : cA = gcy G k := by
  have h1 := (hT.2 5 (cA, ty) rfl).2
  have h2 := (hK.2 k _ hk).2
  unfold va_RA at h1 h2
  cases ty with
  | object C =>
    obtain ⟨-, -, -, -, -, f1⟩ := h1
    obtain ⟨-, -, -, -, -, f2⟩ := h2
    rw [f1] at f2
    exact Option.some.inj f2
  | _ =>
    simp only at h1 h2
    rw [h1] at h2
    exact Option.some.inj h2
theorem jclamp {n : Int32} {k : Nat} (h : n = Int32.ofNat k) (hk : k ≤ 4096) : ¬ n < 0 ∧ n.toNatClampNeg = k := by
  subst h
  refine ⟨?_, nI_clamp (by omega)⟩
  intro hn
  have := Int32.lt_iff_toInt_lt.mp hn
  rw [Int32.toInt_ofNat_of_lt (by omega)] at this
  simp at this
  omega
set_option maxHeartbeats 4000000 in
theorem snd_newarray (C : jCtx G i p l s m args meth c) {t : ArrayType} {len a b : Nat} {v : Int32} {sw : List (Int32 × Nat)} {pc pc' : Nat} {ls ls' : List (Option Value)} {st st' : List Value} {μ μ' : jM} (hE : jchk i pc (.newarray t, len, a, b, v, sw) = true) (hs : jstep (.newarray t, len, a, b, v, sw) pc ls st μ = some (.inl (pc', ls', st', μ'))) (hR : jnc μ' ≤ R.cells + k0 ∧ jns μ' ≤ R.slots + s0)
    (k : jGo G i p l e R s m args below meth c Q k0 s0 μ0 ad0 pc' ls' st' μ') : jGo G i p l e R s m args below meth c Q k0 s0 μ0 ad0 pc ls st μ := by
  obtain ⟨hx, hb, hml, hown, hts, hlk, hFB, hret, hmn, hst, hgb⟩ := C
  have hd := jchk_dec hE
  unfold jchk at hE
  replace hE := (jand hE).2
  obtain ⟨h1, hE⟩ := jand hE
  have h1 : len = 2 := jbeq h1
  subst h1
  simp only [jstep] at hs
  split at hs
  · next n r =>
    obtain ⟨h0, hs⟩ := jbif hs
    obtain ⟨rfl, rfl, rfl, rfl⟩ := jN_inv hs
    have h0 : n = v := of_decide_eq_true h0
    subst h0
    replace hE : (match jak a with
      | some (ty, k) => decide (n = Int32.ofNat k) && ((Nat.beq ty 0 && decide (t = .int)) || (Nat.beq ty 1 && decide (t = .byte)) || (Nat.beq ty 2 && decide (t = .long)))
      | none => false) = true := hE
    cases hj : jak a with
    | none => rw [hj] at hE; cases hE
    | some q =>
      obtain ⟨ty, N⟩ := q
      rw [hj] at hE
      obtain ⟨h3, h4⟩ := jand hE
      have ha : 13 ≤ a ∧ a < 40 := by
        have : a < 64 := by
          rcases Nat.lt_or_ge a 64 with h | h
          · exact h
          · rw [jak_big h] at hj; cases hj
        exact jak_small a this (by rw [hj]; rfl)
      obtain ⟨hN4, -⟩ := jak_max a (by omega) _ hj
      obtain ⟨n1, n2⟩ := jclamp (of_decide_eq_true h3) hN4
      intro ad H locs cells slots lsA g1 g2 g3 g4 g5 g6 g7 g8
      obtain ⟨m1, m2⟩ := jadr_mod (μ := μ) (c := a) (by omega)
      obtain ⟨z1, z2, z3⟩ := jnew_zero μ a
      have hjx : jak (jadr μ a % 64) = some (ty, N) := by rw [m1]; exact hj
      have hsz : jsz (jadr μ a) = N := jsz_arr (by omega) hjx
      rw [jnc_new, jns_new, hsz] at hR
      have hce := fun z => jce_arr (G := G) (ad := jup ad (jadr μ a) z) (μ := jnew μ a) (x := jadr μ a) (by omega) hjx
      have hkk : a < 13 ∨ (13 ≤ a ∧ a < 40 ∧ (jak a).isSome = true) := Or.inr ⟨ha.1, ha.2, by rw [hj]; rfl⟩
      obtain ⟨w1, w2, w3⟩ := jarc_in
      rw [Bool.or_eq_true, Bool.or_eq_true] at h4
      rcases h4 with (h4 | h4) | h4
      · obtain ⟨e1, e2⟩ := jand h4
        have e1 : ty = 0 := jbeq e1
        have e2 := of_decide_eq_true e2
        subst e1
        subst e2
        refine va_newa (atype := .int) hx hb (hts _ w1) rfl (jFB_K hFB) g3.1 g3.2.1 g4 (fun z hz => Nat.le_trans hgb hz) (a0 := (N, .inl fun _ => 0)) (fun _ => rfl) n1 n2 (by show N * 4 ≤ _; omega) (by omega) (by omega) hd fun z cA H1 hT hP hD hS => ?_
        have hcA := jgcy_t (k := 0) hT (jFB_K hFB) rfl
        subst hcA
        exact jnew_go k g3 hkk (by rw [hce, z1]; rfl) hsz g1 g2 g5 (jStk_tail g6) g7 g8 hP hD hS
      · obtain ⟨e1, e2⟩ := jand h4
        have e1 : ty = 1 := jbeq e1
        have e2 := of_decide_eq_true e2
        subst e1
        subst e2
        refine va_newa (atype := .byte) hx hb (hts _ w2) rfl (jFB_K hFB) g3.1 g3.2.1 g4 (fun z hz => Nat.le_trans hgb hz) (a0 := (N, .inl fun _ => 0)) (fun _ => rfl) n1 n2 (by show N * 1 ≤ _; omega) (by omega) (by omega) hd fun z cA H1 hT hP hD hS => ?_
        have hcA := jgcy_t (k := 1) hT (jFB_K hFB) rfl
        subst hcA
        exact jnew_go k g3 hkk (by rw [hce, z1]; rfl) hsz g1 g2 g5 (jStk_tail g6) g7 g8 hP hD hS
      · obtain ⟨e1, e2⟩ := jand h4
        have e1 : ty = 2 := jbeq e1
        have e2 := of_decide_eq_true e2
        subst e1
        subst e2
        refine va_newa (atype := .long) hx hb (hts _ w3) rfl (jFB_K hFB) g3.1 g3.2.1 g4 (fun z hz => Nat.le_trans hgb hz) (a0 := (N, .inr (.inl fun _ => 0))) (fun _ => rfl) n1 n2 (by show N * 8 ≤ _; omega) (by omega) (by omega) hd fun z cA H1 hT hP hD hS => ?_
        have hcA := jgcy_t (k := 2) hT (jFB_K hFB) rfl
        subst hcA
        exact jnew_go k g3 hkk (by rw [hce, z2]; rfl) hsz g1 g2 g5 (jStk_tail g6) g7 g8 hP hD hS
  · cases hs
set_option maxHeartbeats 4000000 in
theorem snd_anewarray (C : jCtx G i p l s m args meth c) {t len a b : Nat} {v : Int32} {sw : List (Int32 × Nat)} {pc pc' : Nat} {ls ls' : List (Option Value)} {st st' : List Value} {μ μ' : jM} (hE : jchk i pc (.anewarray t, len, a, b, v, sw) = true) (hs : jstep (.anewarray t, len, a, b, v, sw) pc ls st μ = some (.inl (pc', ls', st', μ'))) (hR : jnc μ' ≤ R.cells + k0 ∧ jns μ' ≤ R.slots + s0)
    (k : jGo G i p l e R s m args below meth c Q k0 s0 μ0 ad0 pc' ls' st' μ') : jGo G i p l e R s m args below meth c Q k0 s0 μ0 ad0 pc ls st μ := by
  obtain ⟨hx, hb, hml, hown, hts, hlk, hFB, hret, hmn, hst, hgb⟩ := C
  have hd := jchk_dec hE
  unfold jchk at hE
  replace hE := (jand hE).2
  obtain ⟨h1, hE⟩ := jand hE
  have h1 : len = 3 := jbeq h1
  subst h1
  simp only [jstep] at hs
  split at hs
  · next n r =>
    obtain ⟨h0, hs⟩ := jbif hs
    obtain ⟨rfl, rfl, rfl, rfl⟩ := jN_inv hs
    have h0 : n = v := of_decide_eq_true h0
    subst h0
    replace hE : (match jak a with
      | some (ty, k) => decide (n = Int32.ofNat k) && (Nat.beq ty 3 && jcl1 i pc t (fun x => decide (x = "CrossBar$Kind")))
      | none => false) = true := hE
    cases hj : jak a with
    | none => rw [hj] at hE; cases hE
    | some q =>
      obtain ⟨ty, N⟩ := q
      rw [hj] at hE
      obtain ⟨h3, h4⟩ := jand hE
      obtain ⟨h4, h5⟩ := jand h4
      have h4 : ty = 3 := jbeq h4
      subst h4
      obtain ⟨C, hC, hw⟩ := jcl1_inv h5
      have hC := of_decide_eq_true hC
      subst hC
      have ha : 13 ≤ a ∧ a < 40 := by
        have : a < 64 := by
          rcases Nat.lt_or_ge a 64 with h | h
          · exact h
          · rw [jak_big h] at hj; cases hj
        exact jak_small a this (by rw [hj]; rfl)
      obtain ⟨hN4, -⟩ := jak_max a (by omega) _ hj
      obtain ⟨n1, n2⟩ := jclamp (of_decide_eq_true h3) hN4
      intro ad H locs cells slots lsA g1 g2 g3 g4 g5 g6 g7 g8
      obtain ⟨m1, m2⟩ := jadr_mod (μ := μ) (c := a) (by omega)
      obtain ⟨z1, z2, z3⟩ := jnew_zero μ a
      have hjx : jak (jadr μ a % 64) = some (3, N) := by rw [m1]; exact hj
      have hsz : jsz (jadr μ a) = N := jsz_arr (by omega) hjx
      rw [jnc_new, jns_new, hsz] at hR
      have hce := fun z => jce_arr (G := G) (ad := jup ad (jadr μ a) z) (μ := jnew μ a) (x := jadr μ a) (by omega) hjx
      have hkk : a < 13 ∨ (13 ≤ a ∧ a < 40 ∧ (jak a).isSome = true) := Or.inr ⟨ha.1, ha.2, by rw [hj]; rfl⟩
      have hAO : va_AO "CrossBar$Kind" s := by
        obtain ⟨-, -, -, -, -, -, -, -, -, -, -, -, -, h, -⟩ := hFB
        exact h.1
      refine va_newq hx hb hown (hts _ (jwin _ hw rfl)) hAO (jFB_K hFB) g3.1 g3.2.1 g4 (fun z hz => Nat.le_trans hgb hz) n1 n2 (by omega) (by omega) (by omega) hd fun z cA H1 hT hP hD hS => ?_
      have hcA := jgcy_t (k := 3) hT (jFB_K hFB) rfl
      subst hcA
      exact jnew_go k g3 hkk (by rw [hce, z3]; rfl) hsz g1 g2 g5 (jStk_tail g6) g7 g8 hP hD hS
  · cases hs
end SNM
