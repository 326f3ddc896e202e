/-! SOUNDNESS, the sixth part: statics, arrays read, constants, comparisons of references, small library calls. -/
section SNG
variable {p : Program} {l : Launch} {e : Env} {R : Room} {s : State} {m : MethodId} {args : Array Value} {below : List Frame} {meth : Method} {c : Code} {Q : State → Prop}
variable {G : jG} {i : Nat} {k0 s0 : Nat} {μ0 : jM} {ad0 : Nat → Nat}
theorem jcat_map (hs : (gsio G).isRef = true) {ad : Nat → Nat} (st : List Value) : ((st.map (jpv G ad)).map fun v => v.category).sum = jcat st := by
  unfold jcat
  rw [List.map_map]
  congr 1
  exact List.map_congr_left fun v _ => jpv_cat hs
theorem jin_vp {i : Int32} {n : Nat} (h : jin i n = true) : vp_in i n := by
  unfold jin at h
  intro q
  rcases q with q | q
  · rw [show decide (i < 0) = true from decide_eq_true q] at h; cases h
  · rw [show Nat.ble n i.toNatClampNeg = true from Nat.ble_eq_true_of_le q, Bool.or_true] at h; cases h
theorem jin_lt {i : Int32} {n : Nat} (h : jin i n = true) : i.toNatClampNeg < n := Nat.not_le.mp fun q => jin_vp h (Or.inr q)
/-- an array's address: a made one, or one of the constants -/
theorem jty_cases {x t : Nat} (h : jty x = t) (ht : t < 9) : (∃ n, jak (x % 64) = some (t, n)) ∨ (jak (x % 64) = none ∧ ((x % 64 = 44 ∧ t = 0) ∨ (x % 64 = 43 ∧ t = 1) ∨ (x = 42 ∧ t = 0) ∨ (x = 106 ∧ t = 3) ∨ (x = 170 ∧ t = 5))) := by
  unfold jty at h
  cases hj : jak (x % 64) with
  | some q =>
    obtain ⟨u, n⟩ := q
    rw [hj] at h
    have h : u = t := h
    subst h
    exact Or.inl ⟨n, rfl⟩
  | none =>
    rw [hj] at h
    refine Or.inr ⟨rfl, ?_⟩
    simp only at h
    cases h1 : Nat.beq (x % 64) 44 with
    | true => rw [h1] at h; exact Or.inl ⟨jbeq h1, h.symm⟩
    | false =>
      rw [h1] at h
      simp only [cond_false] at h
      cases h2 : Nat.beq (x % 64) 43 with
      | true => rw [h2] at h; exact Or.inr (Or.inl ⟨jbeq h2, h.symm⟩)
      | false =>
        rw [h2] at h
        simp only [cond_false] at h
        cases h3 : Nat.beq x 42 with
        | true => rw [h3] at h; exact Or.inr (Or.inr (Or.inl ⟨jbeq h3, h.symm⟩))
        | false =>
          rw [h3] at h
          simp only [cond_false] at h
          cases h4 : Nat.beq x 106 with
          | true => rw [h4] at h; exact Or.inr (Or.inr (Or.inr (Or.inl ⟨jbeq h4, h.symm⟩)))
          | false =>
            rw [h4] at h
            simp only [cond_false] at h
            cases h5 : Nat.beq x 170 with
            | true => rw [h5] at h; exact Or.inr (Or.inr (Or.inr (Or.inr ⟨jbeq h5, h.symm⟩)))
            | false => rw [h5] at h; simp only [cond_false] at h; omega
theorem jln_made {x t n : Nat} {μ : jM} (h : jak (x % 64) = some (t, n)) : jln x μ = n := by unfold jln; rw [h]
theorem jln_none {x : Nat} {μ : jM} (h : jak (x % 64) = none) : jln x μ = bif Nat.beq (x % 64) 44 then (jI μ 45 0).toNatClampNeg else bif Nat.beq (x % 64) 43 then (jstr (x / 64)).length else bif Nat.beq x 170 then 22 else 42 := by unfold jln; rw [h]
theorem jcst_eq {x : Nat} (hx : jcst x = true) : (x % 64 = 44 → x = 44) ∧ (x % 64 = 43 → ∃ k, k < 39 ∧ x = 43 + 64 * k) ∧ (x % 64 = 40 → ∃ k, k < 42 ∧ x = 40 + 64 * k) := by
  refine ⟨fun h => ?_, fun h => ⟨x / 64, jcst_byt hx h, by omega⟩, fun h => ⟨x / 64, jcst_kind hx h, by omega⟩⟩
  simp only [jcst, Bool.or_eq_true, Bool.and_eq_true, Nat.beq_eq] at hx
  omega
theorem jscript {ad : Nat → Nat} {μ : jM} {H : Heap} (hM : jMem G ad μ H) (hFB : jFB G s s.heap) : jI μ 45 0 = Int32.ofNat (gL G) ∧ (∀ j : Nat, j < gL G → jI μ 44 j = gxs G j) ∧ (jI μ 45 0).toNatClampNeg = gL G := by
  obtain ⟨-, -, -, -, -, h1, h2⟩ := hM
  obtain ⟨-, -, -, -, -, -, -, -, -, ⟨-, -, h3⟩, -⟩ := hFB
  refine ⟨h1, h2, ?_⟩
  rw [h1]
  exact nI_clamp (by omega)
set_option maxHeartbeats 4000000 in
theorem snd_getstatic (C : jCtx G i p l s m args meth c) {n len a b : Nat} {v : Int32} {sw : List (Int32 × Nat)} {pc pc' : Nat} {ls ls' : List (Option Value)} {st st' : List Value} {μ μ' : jM} (hE : jchk i pc (.getstatic n, len, a, b, v, sw) = true) (hs : jstep (.getstatic n, len, a, b, v, sw) pc ls st μ = some (.inl (pc', ls', st', μ')))
    (k : jGo G i p l e R s m args below meth c Q k0 s0 μ0 ad0 pc' ls' st' μ') : jGo G i p l e R s m args below meth c Q k0 s0 μ0 ad0 pc ls st μ := by
  obtain ⟨hx, hb, hml, hown, hts, hlk, hFB, -⟩ := C
  have hd := jchk_dec hE
  unfold jchk at hE
  replace hE := (jand hE).2
  obtain ⟨h1, hE⟩ := jand hE
  have h1 : len = 3 := jbeq h1
  subst h1
  obtain ⟨h2, hE⟩ := jand hE
  simp only [jstep] at hs
  obtain ⟨rfl, rfl, rfl, rfl⟩ := jN_inv hs
  intro ad H locs cells slots lsA g1 g2 g3 g4 g5 g6 g7 g8
  have hok : jsok (.getstatic n, 3, a, b, v, sw) = true := hE
  have hval : jvok μ (jsv (.getstatic n, 3, a, b, v, sw)) ∧ jpv G ad (jsv (.getstatic n, 3, a, b, v, sw)) = jpv G (gad G) (jsv (.getstatic n, 3, a, b, v, sw)) := by
    unfold jsv
    unfold jsok at hok
    have hok : (bif Nat.beq b 0 then (Nat.beq (a % 64) 40 && Nat.blt (a / 64) 42) || (Nat.beq a 42 || (Nat.beq a 106 || Nat.beq a 170)) else bif Nat.beq b 1 then decide (v = 1) else Nat.beq b 2) = true := hok
    show jvok μ (bif Nat.beq b 0 then .ref a else bif Nat.beq b 1 then .int v else .retAddr 0) ∧ jpv G ad (bif Nat.beq b 0 then .ref a else bif Nat.beq b 1 then .int v else .retAddr 0) = jpv G (gad G) (bif Nat.beq b 0 then .ref a else bif Nat.beq b 1 then .int v else .retAddr 0)
    cases hb0 : Nat.beq b 0 with
    | true =>
      rw [hb0] at hok
      have hc : jcst a = true := by
        simp only [cond_true, Bool.or_eq_true, Bool.and_eq_true] at hok
        simp only [jcst, Bool.or_eq_true, Bool.and_eq_true]
        rcases hok with hok | hok | hok | hok
        · exact Or.inl hok
        · exact Or.inr (Or.inr (Or.inr (Or.inl hok)))
        · exact Or.inr (Or.inr (Or.inr (Or.inr (Or.inl hok))))
        · exact Or.inr (Or.inr (Or.inr (Or.inr (Or.inr (Or.inl hok)))))
      exact ⟨Or.inr hc, congrArg Value.ref (jad_c g3 hc)⟩
    | false =>
      simp only [cond_false]
      cases Nat.beq b 1 with
      | true => exact ⟨trivial, rfl⟩
      | false => exact ⟨trivial, rfl⟩
  have hcont := k ad H locs cells slots lsA g1 g2 g3 g4 g5 (jStk_cons (v := jsv (.getstatic n, 3, a, b, v, sw)) hval.1 g6) g7 g8
  have hZ := jFB_Z hFB hok
  rw [← hval.2] at hZ
  rcases jfl_inv h2 with hw | ⟨ho, hw⟩
  · exact va_gets hx hb hZ g4 hown (hts _ (jwin _ hw rfl)) (fun _ h => h) hd hcont
  · exact va_getsN hx hb hZ g4 hown (va_Nw.use rfl (jFB_nest hFB hw rfl)) (fun _ h => h) hd hcont
set_option maxHeartbeats 4000000 in
theorem snd_iaload (C : jCtx G i p l s m args meth c) {len a b : Nat} {v : Int32} {sw : List (Int32 × Nat)} {pc pc' : Nat} {ls ls' : List (Option Value)} {st st' : List Value} {μ μ' : jM} (hE : jchk i pc (.iaload, len, a, b, v, sw) = true) (hs : jstep (.iaload, len, a, b, v, sw) pc ls st μ = some (.inl (pc', ls', st', μ')))
    (k : jGo G i p l e R s m args below meth c Q k0 s0 μ0 ad0 pc' ls' st' μ') : jGo G i p l e R s m args below meth c Q k0 s0 μ0 ad0 pc ls st μ := by
  obtain ⟨hx, hb, hml, hown, hts, hlk, hFB, -⟩ := C
  have hd := jchk_dec hE
  unfold jchk at hE
  replace hE := (jand hE).2
  have h1 : len = 1 := jbeq hE
  subst h1
  simp only [jstep] at hs
  split at hs
  · next j x r =>
    obtain ⟨h0, hs⟩ := jbif hs
    obtain ⟨h0, h2⟩ := jand h0
    obtain ⟨rfl, rfl, rfl, rfl⟩ := jN_inv hs
    intro ad H locs cells slots lsA g1 g2 g3 g4 g5 g6 g7 g8
    have hxo : jok μ x := jStk_head (jStk_tail g6)
    have hcont := k ad H locs cells slots lsA g1 g2 g3 g4 g5 (jStk_cons trivial (jStk_tail (jStk_tail g6))) g7 g8
    rcases jty_cases (jbeq h0) (by decide) with ⟨n, hn⟩ | ⟨hn, hc⟩
    · rw [jln_made hn] at h2
      obtain ⟨q0, hq0⟩ := jarr_at (G := G) (ad := ad) hxo hn
      have hr := jak_rng hn
      have e1 : jrdI x j.toNatClampNeg μ = jI μ x j.toNatClampNeg := by
        unfold jrdI
        rw [jbne (by omega), jbne (by omega)]
        rfl
      rw [e1] at hcont
      exact va_iald hx hb (jFB_K hFB) g3.1 q0 0 hq0 rfl (jin_vp h2) hd hcont
    · obtain ⟨-, -, -, -, -, hT42, -, -, -, ⟨hTs, hgs, -⟩, -⟩ := id hFB
      rw [jln_none hn] at h2
      rcases hc with ⟨hc, -⟩ | ⟨-, hc⟩ | ⟨hc, -⟩ | ⟨-, hc⟩ | ⟨-, hc⟩
      · have hxc := jok_c g3 hxo (by omega)
        have e44 := (jcst_eq hxc).1 hc
        obtain ⟨q1, q2, q3⟩ := jscript g3 hFB
        subst e44
        have h2 : jin j (jI μ 45 0).toNatClampNeg = true := h2
        rw [q3] at h2
        have e1 : jrdI 44 j.toNatClampNeg μ = gxs G j.toNatClampNeg := q2 _ (jin_lt h2)
        rw [e1] at hcont
        have e0 : (Value.ref 44 :: r).map (jpv G ad) = .ref (gb G) :: r.map (jpv G ad) := by rw [List.map_cons]; congr 1; rw [← hgs, ← jad_c g3 hxc]; rfl
        rw [List.map_cons, e0]
        exact va_ti hx hb hTs g4 (jin_vp h2) rfl hd hcont
      · omega
      · subst hc
        have hxc := jok_c g3 hxo (by decide)
        have h2 : jin j 42 = true := h2
        have e0 : (Value.ref 42 :: r).map (jpv G ad) = .ref (gad G 42) :: r.map (jpv G ad) := by rw [List.map_cons]; congr 1; rw [← jad_c g3 hxc]; rfl
        rw [List.map_cons, e0]
        exact va_ti hx hb hT42 g4 (jin_vp h2) rfl hd hcont
      · omega
      · omega
  · cases hs
end SNG
