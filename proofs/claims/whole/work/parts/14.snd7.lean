/-! SOUNDNESS, the seventh part: other arrays read, lengths, comparisons of references, constants, small library calls. -/
section SNH
variable {p : Program} {l : Launch} {e : Env} {R : Room} {s : State} {m : MethodId} {args : Array Value} {below : List Frame} {meth : Method} {c : Code} {Q : State → Prop}
variable {G : jG} {i : Nat} {k0 s0 : Nat} {μ0 : jM} {ad0 : Nat → Nat}
theorem jmap_c {ad : Nat → Nat} {μ : jM} {H : Heap} (hM : jMem G ad μ H) {x : Nat} (hx : jcst x = true) (r : List Value) : (Value.ref x :: r).map (jpv G ad) = .ref (gad G x) :: r.map (jpv G ad) := by
  rw [List.map_cons]; congr 1; rw [← jad_c hM hx]; rfl
set_option maxHeartbeats 4000000 in
theorem snd_baload (C : jCtx G i p l s m args meth c) {len a b : Nat} {v : Int32} {sw : List (Int32 × Nat)} {pc pc' : Nat} {ls ls' : List (Option Value)} {st st' : List Value} {μ μ' : jM} (hE : jchk i pc (.baload, len, a, b, v, sw) = true) (hs : jstep (.baload, len, a, b, v, sw) pc ls st μ = some (.inl (pc', ls', st', μ')))
    (k : jGo G i p l e R s m args below meth c Q k0 s0 μ0 ad0 pc' ls' st' μ') : jGo G i p l e R s m args below meth c Q k0 s0 μ0 ad0 pc ls st μ := by
  obtain ⟨hx, hb, hml, hown, hts, hlk, hFB, -⟩ := C
  have hd := jchk_dec hE
  unfold jchk at hE
  replace hE := (jand hE).2
  have h1 : len = 1 := jbeq hE
  subst h1
  simp only [jstep] at hs
  split at hs
  · next j x r =>
    obtain ⟨h0, hs⟩ := jbif hs
    obtain ⟨h0, h2⟩ := jand h0
    obtain ⟨rfl, rfl, rfl, rfl⟩ := jN_inv hs
    intro ad H locs cells slots lsA g1 g2 g3 g4 g5 g6 g7 g8
    have hxo : jok μ x := jStk_head (jStk_tail g6)
    have hcont := k ad H locs cells slots lsA g1 g2 g3 g4 g5 (jStk_cons trivial (jStk_tail (jStk_tail g6))) g7 g8
    rcases jty_cases (jbeq h0) (by decide) with ⟨n, hn⟩ | ⟨hn, hc⟩
    · rw [jln_made hn] at h2
      obtain ⟨q0, hq0⟩ := jarr_at (G := G) (ad := ad) hxo hn
      have hr := jak_rng hn
      have e1 : jrdI x j.toNatClampNeg μ = jI μ x j.toNatClampNeg := by
        unfold jrdI
        rw [jbne (by omega), jbne (by omega)]
        rfl
      rw [e1] at hcont
      exact va_bald hx hb (jFB_K hFB) g3.1 q0 1 hq0 rfl (jin_vp h2) hd hcont
    · obtain ⟨-, -, -, -, -, -, -, -, hTb, -⟩ := id hFB
      rw [jln_none hn] at h2
      rcases hc with ⟨-, hc⟩ | ⟨hc, -⟩ | ⟨-, hc⟩ | ⟨-, hc⟩ | ⟨-, hc⟩
      · omega
      · have hxc := jok_c g3 hxo (by omega)
        obtain ⟨z, hz, e43⟩ := (jcst_eq hxc).2.1 hc
        have q1 : Eq (α := Nat) (x / 64) z := by omega
        have h2 : jin j (jstr z).length = true := by
          rw [jbne (by omega), show Nat.beq (x % 64) 43 = true from by rw [hc]; rfl, q1] at h2
          exact h2
        have e1 : jrdI x j.toNatClampNeg μ = (jstr z).getD j.toNatClampNeg 0 := by
          unfold jrdI
          rw [jbne (by omega), show Nat.beq (x % 64) 43 = true from by rw [hc]; rfl, q1]
          rfl
        rw [e1] at hcont
        rw [List.map_cons, jmap_c g3 hxc, e43]
        exact va_tb hx hb (hTb z hz) g4 (jin_vp h2) rfl hd hcont
      · omega
      · omega
      · omega
  · cases hs
set_option maxHeartbeats 4000000 in
theorem snd_laload (C : jCtx G i p l s m args meth c) {len a b : Nat} {v : Int32} {sw : List (Int32 × Nat)} {pc pc' : Nat} {ls ls' : List (Option Value)} {st st' : List Value} {μ μ' : jM} (hE : jchk i pc (.laload, len, a, b, v, sw) = true) (hs : jstep (.laload, len, a, b, v, sw) pc ls st μ = some (.inl (pc', ls', st', μ')))
    (k : jGo G i p l e R s m args below meth c Q k0 s0 μ0 ad0 pc' ls' st' μ') : jGo G i p l e R s m args below meth c Q k0 s0 μ0 ad0 pc ls st μ := by
  obtain ⟨hx, hb, hml, hown, hts, hlk, hFB, -⟩ := C
  have hd := jchk_dec hE
  unfold jchk at hE
  replace hE := (jand hE).2
  have h1 : len = 1 := jbeq hE
  subst h1
  simp only [jstep] at hs
  split at hs
  · next j x r =>
    obtain ⟨h0, hs⟩ := jbif hs
    obtain ⟨h0, h2⟩ := jand h0
    obtain ⟨rfl, rfl, rfl, rfl⟩ := jN_inv hs
    intro ad H locs cells slots lsA g1 g2 g3 g4 g5 g6 g7 g8
    have hxo : jok μ x := jStk_head (jStk_tail g6)
    have hcont := k ad H locs cells slots lsA g1 g2 g3 g4 g5 (jStk_cons trivial (jStk_tail (jStk_tail g6))) g7 g8
    rcases jty_cases (jbeq h0) (by decide) with ⟨n, hn⟩ | ⟨hn, hc⟩
    · rw [jln_made hn] at h2
      obtain ⟨q0, hq0⟩ := jarr_at (G := G) (ad := ad) hxo hn
      exact va_lald hx hb (jFB_K hFB) g3.1 q0 2 hq0 rfl (jin_vp h2) hd hcont
    · omega
  · cases hs
set_option maxHeartbeats 4000000 in
theorem snd_aaload (C : jCtx G i p l s m args meth c) {len a b : Nat} {v : Int32} {sw : List (Int32 × Nat)} {pc pc' : Nat} {ls ls' : List (Option Value)} {st st' : List Value} {μ μ' : jM} (hE : jchk i pc (.aaload, len, a, b, v, sw) = true) (hs : jstep (.aaload, len, a, b, v, sw) pc ls st μ = some (.inl (pc', ls', st', μ')))
    (k : jGo G i p l e R s m args below meth c Q k0 s0 μ0 ad0 pc' ls' st' μ') : jGo G i p l e R s m args below meth c Q k0 s0 μ0 ad0 pc ls st μ := by
  obtain ⟨hx, hb, hml, hown, hts, hlk, hFB, -⟩ := C
  have hd := jchk_dec hE
  unfold jchk at hE
  replace hE := (jand hE).2
  have h1 : len = 1 := jbeq hE
  subst h1
  simp only [jstep] at hs
  split at hs
  · next j x r =>
    obtain ⟨h0, hs⟩ := jbif hs
    obtain ⟨h0, h2⟩ := jand h0
    obtain ⟨h3, h2⟩ := jand h2
    have h0 := Nat.le_of_ble_eq_true h0
    have h3 := Nat.le_of_ble_eq_true h3
    obtain ⟨rfl, rfl, rfl, rfl⟩ := jN_inv hs
    intro ad H locs cells slots lsA g1 g2 g3 g4 g5 g6 g7 g8
    have hxo : jok μ x := jStk_head (jStk_tail g6)
    rcases jty_cases (x := x) rfl (by omega) with ⟨n, hn⟩ | ⟨hn, hc⟩
    · rw [jln_made hn] at h2
      obtain ⟨q0, hq0⟩ := jarr_at (G := G) (ad := ad) hxo hn
      have hr := jak_rng hn
      have hcc : x ≠ 106 ∧ x ≠ 170 := by constructor <;> intro z <;> rw [z] at hr <;> omega
      have e1 : jrdQ x j.toNatClampNeg μ = jQ μ x j.toNatClampNeg := by
        unfold jrdQ
        rw [jbne hcc.1, jbne hcc.2]
        rfl
      rw [e1] at k
      have hcont := k ad H locs cells slots lsA g1 g2 g3 g4 g5 (jStk_cons (jQ_ok g3 hxo hr.2) (jStk_tail (jStk_tail g6))) g7 g8
      rw [List.map_cons, jpv_rf] at hcont
      have hlt := jin_lt h2
      have ht : jty x = 3 ∨ jty x = 4 ∨ jty x = 5 := by omega
      rcases ht with ht | ht | ht
      · rw [ht] at hq0
        exact va_aldq hx hb (jFB_K hFB) g3.1 q0 3 hq0 rfl (jin_vp h2) hd hcont
      · rw [ht] at hq0
        have hA := ((jFB_K hFB).2 4 (gcy G 4, .array .int) rfl).1
        refine W.aald (ty := .array .int) (v := va_rf ((jQ μ x j.toNatClampNeg).map ad)) hx hb (g3.1 q0 _ hq0) (hA n (fun z => va_rf ((jQ μ x z).map ad))) rfl (fun q => by cases q) (by show ¬ (j < 0 ∨ (arrV _ _ _).slots.size ≤ _); rw [arrV_size]; exact jin_vp h2) (by show (arrV _ _ _).slots[_]? = _; rw [arrV_read _ _ hlt]) rfl rfl hd hcont
      · exfalso
        have hj : ∀ c, c < 64 → (jak c).map (·.1) ≠ some 5 := by decide
        have := hj (x % 64) (Nat.mod_lt _ (by decide))
        rw [hn, ht] at this
        exact this rfl
    · obtain ⟨-, -, -, -, -, -, hTk, hTw, -⟩ := id hFB
      rw [jln_none hn] at h2
      rcases hc with ⟨-, hc⟩ | ⟨-, hc⟩ | ⟨-, hc⟩ | ⟨hc, -⟩ | ⟨hc, -⟩
      · omega
      · omega
      · omega
      · subst hc
        have hxc := jok_c g3 hxo (by decide)
        have h2 : jin j 42 = true := h2
        have hlt := jin_lt h2
        have hz : jcst (40 + 64 * j.toNatClampNeg) = true := by
          have q1 : Eq (α := Nat) ((40 + 64 * j.toNatClampNeg) % 64) 40 := by omega
          have q2 : Eq (α := Nat) ((40 + 64 * j.toNatClampNeg) / 64) j.toNatClampNeg := by omega
          unfold jcst
          rw [q1, q2, show Nat.blt j.toNatClampNeg 42 = true from Nat.ble_eq_true_of_le hlt]
          rfl
        have hcont : W p l e R s m args below meth c H locs cells slots Q (F0 m (pc + 1) lsA ((Value.ref (40 + 64 * j.toNatClampNeg) :: r).map (jpv G ad))) := k ad H locs cells slots lsA g1 g2 g3 g4 g5 (jStk_cons (Or.inr hz) (jStk_tail (jStk_tail g6))) g7 g8
        rw [jmap_c g3 hz] at hcont
        rw [List.map_cons, jmap_c g3 hxc]
        exact vb_tq hx hb hTk g4 (jin_vp h2) rfl hd hcont
      · subst hc
        have hxc := jok_c g3 hxo (by decide)
        have h2 : jin j 22 = true := h2
        have hz := jwrd_ok _ (jin_lt h2)
        have hcont : W p l e R s m args below meth c H locs cells slots Q (F0 m (pc + 1) lsA ((Value.ref (jwrd j.toNatClampNeg) :: r).map (jpv G ad))) := k ad H locs cells slots lsA g1 g2 g3 g4 g5 (jStk_cons (Or.inr hz) (jStk_tail (jStk_tail g6))) g7 g8
        rw [jmap_c g3 hz] at hcont
        rw [List.map_cons, jmap_c g3 hxc]
        exact vb_tq hx hb hTw g4 (jin_vp h2) rfl hd hcont
  · cases hs
set_option maxHeartbeats 4000000 in
theorem snd_arraylength (C : jCtx G i p l s m args meth c) {len a b : Nat} {v : Int32} {sw : List (Int32 × Nat)} {pc pc' : Nat} {ls ls' : List (Option Value)} {st st' : List Value} {μ μ' : jM} (hE : jchk i pc (.arraylength, len, a, b, v, sw) = true) (hs : jstep (.arraylength, len, a, b, v, sw) pc ls st μ = some (.inl (pc', ls', st', μ')))
    (k : jGo G i p l e R s m args below meth c Q k0 s0 μ0 ad0 pc' ls' st' μ') : jGo G i p l e R s m args below meth c Q k0 s0 μ0 ad0 pc ls st μ := by
  obtain ⟨hx, hb, hml, hown, hts, hlk, hFB, -⟩ := C
  have hd := jchk_dec hE
  unfold jchk at hE
  replace hE := (jand hE).2
  have h1 : len = 1 := jbeq hE
  subst h1
  simp only [jstep] at hs
  split at hs
  · next x r =>
    obtain ⟨h0, hs⟩ := jbif hs
    have h0 : jty x < 9 := Nat.le_of_ble_eq_true h0
    obtain ⟨rfl, rfl, rfl, rfl⟩ := jN_inv hs
    intro ad H locs cells slots lsA g1 g2 g3 g4 g5 g6 g7 g8
    have hxo : jok μ x := jStk_head g6
    have hcont := k ad H locs cells slots lsA g1 g2 g3 g4 g5 (jStk_cons trivial (jStk_tail g6)) g7 g8
    rcases jty_cases (x := x) rfl h0 with ⟨n, hn⟩ | ⟨hn, hc⟩
    · rw [jln_made hn] at hcont
      obtain ⟨q0, hq0⟩ := jarr_at (G := G) (ad := ad) hxo hn
      have hj : ∀ c, c < 64 → ∀ q, jak c = some q → q.1 < 5 := by decide
      have ht := hj (x % 64) (Nat.mod_lt _ (by decide)) _ hn
      have ht : jty x = 0 ∨ jty x = 1 ∨ jty x = 2 ∨ jty x = 3 ∨ jty x = 4 := by have ht : jty x < 5 := ht; omega
      rcases ht with ht | ht | ht | ht | ht <;> rw [ht] at hq0
      · exact va_alen hx hb (jFB_K hFB) g3.1 q0 0 hq0 rfl rfl hd hcont
      · exact va_alen hx hb (jFB_K hFB) g3.1 q0 1 hq0 rfl rfl hd hcont
      · exact va_alen hx hb (jFB_K hFB) g3.1 q0 2 hq0 rfl rfl hd hcont
      · exact va_alen hx hb (jFB_K hFB) g3.1 q0 3 hq0 rfl rfl hd hcont
      · exact va_alen hx hb (jFB_K hFB) g3.1 q0 4 hq0 rfl rfl hd hcont
    · obtain ⟨-, -, -, -, -, hT42, hTk, hTw, hTb, ⟨hTs, hgs, -⟩, -⟩ := id hFB
      rw [jln_none hn] at hcont
      rcases hc with ⟨hc, -⟩ | ⟨hc, -⟩ | ⟨hc, -⟩ | ⟨hc, -⟩ | ⟨hc, -⟩
      · have hxc := jok_c g3 hxo (by omega)
        have e44 := (jcst_eq hxc).1 hc
        obtain ⟨q1, q2, q3⟩ := jscript g3 hFB
        subst e44
        have hcont : W p l e R s m args below meth c H locs cells slots Q (F0 m (pc + 1) lsA ((Value.int (Int32.ofNat (jI μ 45 0).toNatClampNeg) :: r).map (jpv G ad))) := hcont
        rw [q3] at hcont
        rw [jmap_c g3 hxc, hgs]
        exact va_tlen hx hb hTs g4 rfl hd hcont
      · have hxc := jok_c g3 hxo (by omega)
        obtain ⟨z, hz, e43⟩ := (jcst_eq hxc).2.1 hc
        have q1 : Eq (α := Nat) (x / 64) z := by omega
        rw [jbne (by omega), show Nat.beq (x % 64) 43 = true from by rw [hc]; rfl, q1] at hcont
        rw [jmap_c g3 hxc, e43]
        exact va_tlen hx hb (hTb z hz) g4 rfl hd hcont
      · subst hc
        rw [jmap_c g3 (jok_c g3 hxo (by decide))]
        exact va_tlen hx hb hT42 g4 rfl hd hcont
      · subst hc
        rw [jmap_c g3 (jok_c g3 hxo (by decide))]
        exact va_tlen hx hb hTk g4 rfl hd hcont
      · subst hc
        rw [jmap_c g3 (jok_c g3 hxo (by decide))]
        exact va_tlen hx hb hTw g4 rfl hd hcont
  · cases hs
/-- two constants of Kind at one address are one: their numbers are told -/
theorem jkind_inj {U : State} {H : Heap} (hFB : jFB G U H) {x y : Nat} (hx : jcst x = true) (hy : jcst y = true) (h1 : x % 64 = 40) (h2 : y % 64 = 40) (h : gad G x = gad G y) : x = y := by
  have h3 := jcst_kind hx h1
  have h4 := jcst_kind hy h2
  have f : ∀ z : Nat, z % 64 = 40 → z / 64 < 42 → jcf z 0 = true := fun z a b => by
    unfold jcf
    rw [a, show Nat.blt (z / 64) 42 = true from Nat.ble_eq_true_of_le b]
    rfl
  have ox := jFB_OF hFB (f x h1 h3)
  have oy := jFB_OF hFB (f y h2 h4)
  rw [h1] at ox
  rw [h2] at oy
  obtain ⟨cf, kf, fi, fd, cell, a1, a2, a3, a4, a5, a6⟩ := ox
  obtain ⟨cf', kf', fi', fd', cell', b1, b2, b3, b4, b5, b6⟩ := oy
  rw [h] at a3
  cases a1.symm.trans b1
  cases a3.symm.trans b3
  have e := a5.symm.trans b5
  have ex : jcg x 0 = .int (Int32.ofNat (x / 64)) := by unfold jcg; rw [h1]; rfl
  have ey : jcg y 0 = .int (Int32.ofNat (y / 64)) := by unfold jcg; rw [h2]; rfl
  rw [ex, ey] at e
  have e := Value.int.inj (Option.some.inj e)
  have e := (nI_eq (a := x / 64) (b := y / 64) (by omega) (by omega)).mp e
  omega
set_option maxHeartbeats 4000000 in
theorem snd_acmp (C : jCtx G i p l s m args meth c) {cd : ACond} {o : Int} {len a b : Nat} {v : Int32} {sw : List (Int32 × Nat)} {pc pc' : Nat} {ls ls' : List (Option Value)} {st st' : List Value} {μ μ' : jM} (hE : jchk i pc (.if_acmp cd o, len, a, b, v, sw) = true) (hs : jstep (.if_acmp cd o, len, a, b, v, sw) pc ls st μ = some (.inl (pc', ls', st', μ')))
    (k : jGo G i p l e R s m args below meth c Q k0 s0 μ0 ad0 pc' ls' st' μ') : jGo G i p l e R s m args below meth c Q k0 s0 μ0 ad0 pc ls st μ := by
  obtain ⟨hx, hb, hml, hown, hts, hlk, hFB, -⟩ := C
  have hd := jchk_dec hE
  unfold jchk at hE
  replace hE := (jand hE).2
  obtain ⟨h1, hE⟩ := jand hE
  have h1 : len = 3 := jbeq h1
  subst h1
  have ht : (pc : Int) + o = (a : Int) := of_decide_eq_true hE
  have key : ∀ {ad : Nat → Nat} {H : Heap} {x y : Nat} {r : List Value}, jMem G ad μ H → jStk μ (.ref y :: .ref x :: r) → x % 64 = 40 → y % 64 = 40 → (some (ad x) = some (ad y) ↔ x = y) := by
    intro ad H x y r g3 g6 e1 e2
    have hyc := jok_c g3 (jStk_head g6) (by omega)
    have hxc := jok_c g3 (jStk_head (jStk_tail g6)) (by omega)
    refine ⟨fun q => ?_, fun q => by rw [q]⟩
    rw [jad_c g3 hxc, jad_c g3 hyc] at q
    exact jkind_inj hFB hxc hyc e1 e2 (Option.some.inj q)
  cases cd with
  | eq =>
    simp only [jstep] at hs
    split at hs
    · next y x r =>
      obtain ⟨h0, hs⟩ := jbif hs
      obtain ⟨e1, e2⟩ := jand h0
      obtain ⟨rfl, rfl, rfl, rfl⟩ := jN_inv hs
      intro ad H locs cells slots lsA g1 g2 g3 g4 g5 g6 g7 g8
      have hk := key g3 g6 (jbeq e1) (jbeq e2)
      have hcont := k ad H locs cells slots lsA g1 g2 g3 g4 g5 (jStk_tail (jStk_tail g6)) g7 g8
      refine lv_acmp_eq (rx := some (ad x)) (ry := some (ad y)) hx hb hd ht (fun q => ?_) (fun q => ?_)
      · rw [hk.mp q, show Nat.beq y y = true from Nat.beq_refl y] at hcont; exact hcont
      · rw [jbne (fun z => q (hk.mpr z))] at hcont; exact hcont
    · cases hs
  | ne =>
    simp only [jstep] at hs
    split at hs
    · next y x r =>
      obtain ⟨h0, hs⟩ := jbif hs
      obtain ⟨e1, e2⟩ := jand h0
      obtain ⟨rfl, rfl, rfl, rfl⟩ := jN_inv hs
      intro ad H locs cells slots lsA g1 g2 g3 g4 g5 g6 g7 g8
      have hk := key g3 g6 (jbeq e1) (jbeq e2)
      have hcont := k ad H locs cells slots lsA g1 g2 g3 g4 g5 (jStk_tail (jStk_tail g6)) g7 g8
      refine lv_acmp_ne (rx := some (ad x)) (ry := some (ad y)) hx hb hd ht (fun q => ?_) (fun q => ?_)
      · rw [jbne (fun z => q (hk.mpr z))] at hcont; exact hcont
      · rw [hk.mp q, show Nat.beq y y = true from Nat.beq_refl y] at hcont; exact hcont
    · cases hs
theorem snd_ldc (C : jCtx G i p l s m args meth c) {n len a b : Nat} {v : Int32} {sw : List (Int32 × Nat)} {pc pc' : Nat} {ls ls' : List (Option Value)} {st st' : List Value} {μ μ' : jM} (hE : jchk i pc (.ldc n, len, a, b, v, sw) = true) (hs : jstep (.ldc n, len, a, b, v, sw) pc ls st μ = some (.inl (pc', ls', st', μ')))
    (k : jGo G i p l e R s m args below meth c Q k0 s0 μ0 ad0 pc' ls' st' μ') : jGo G i p l e R s m args below meth c Q k0 s0 μ0 ad0 pc ls st μ := by
  obtain ⟨hx, hb, hml, hown, hts, hlk, hFB, -⟩ := C
  have hd := jchk_dec hE
  unfold jchk at hE
  replace hE := (jand hE).2
  obtain ⟨h1, hE⟩ := jand hE
  have h1 : len = 2 := jbeq h1
  subst h1
  obtain ⟨h2, hE2⟩ := jand hE
  obtain ⟨h3, h4⟩ := jand hE2
  have h3 : (jY i).cls = "CrossBarModel" := of_decide_eq_true h3
  have h4 : n = 99 := jbeq h4
  have h2 : a = 2473 := jbeq h2
  clear hE hE2
  subst h2
  subst h4
  obtain ⟨rfl, rfl, rfl, rfl⟩ := jN_inv hs
  intro ad H locs cells slots lsA g1 g2 g3 g4 g5 g6 g7 g8
  have hc : jcst 2473 = true := by decide
  have hcont := k ad H locs cells slots lsA g1 g2 g3 g4 g5 (jStk_cons (v := .ref 2473) (Or.inr hc) g6) g7 g8
  obtain ⟨-, -, -, -, -, -, -, -, -, -, -, ⟨-, hR⟩, -⟩ := hFB
  rw [← h3] at hR
  refine va_ldcS hx hb hown hR hd ?_
  rw [show List.map (jpv G ad) ((Value.ref 2473) :: st) = .ref (gad G 2473) :: st.map (jpv G ad) from jmap_c g3 hc st] at hcont
  exact hcont
theorem snd_ldc2 (C : jCtx G i p l s m args meth c) {n len a b : Nat} {v : Int32} {sw : List (Int32 × Nat)} {pc pc' : Nat} {ls ls' : List (Option Value)} {st st' : List Value} {μ μ' : jM} (hE : jchk i pc (.ldc2_w n, len, a, b, v, sw) = true) (hs : jstep (.ldc2_w n, len, a, b, v, sw) pc ls st μ = some (.inl (pc', ls', st', μ')))
    (k : jGo G i p l e R s m args below meth c Q k0 s0 μ0 ad0 pc' ls' st' μ') : jGo G i p l e R s m args below meth c Q k0 s0 μ0 ad0 pc ls st μ := by
  obtain ⟨hx, hb, hml, hown, hts, hlk, hFB, -⟩ := C
  have hd := jchk_dec hE
  unfold jchk at hE
  replace hE := (jand hE).2
  obtain ⟨h1, h2⟩ := jand hE
  exact jpush_go hs h1 trivial k fun ad H locs cells slots lsA w => lv_ldc2 hx hb hown (hts _ (jwin _ (of_decide_eq_true h2) rfl)) (jB_len h1 hd) w
end SNH
