/-! SOUNDNESS, the ninth part: stores into arrays. -/
theorem jmade_inv {x t : Nat} (h : jmade x = true) (ht : jty x = t) : ∃ n, jak (x % 64) = some (t, n) := by
  unfold jmade at h
  unfold jty at ht
  cases hj : jak (x % 64) with
  | none => rw [hj] at h; cases h
  | some q =>
    obtain ⟨u, n⟩ := q
    rw [hj] at ht
    exact ⟨n, by rw [show u = t from ht]⟩
theorem jasg (vm : Vm) (c : ClassId) : vm.assignable c c = true := by
  show vm.assignableAux _ c c = true
  unfold Vm.assignableAux
  simp
theorem jkind_any {G : jG} {U : State} {H : Heap} {locs : List Loc} {k : Nat} (hFB : jFB G U U.heap) (hS : va_S (gA G) U.heap H locs) (hk : k < 42) : va_Any "CrossBar$Kind" U H (gad G (40 + 64 * k)) := by
  obtain ⟨-, -, -, hO, -⟩ := hFB
  obtain ⟨cell, h1, h2, h3, h4⟩ := hO k hk
  obtain ⟨kC, hkC, -⟩ := Vm.findClass_spec h3
  refine ⟨cell, ?_, h2, ⟨kC, hkC⟩, fun comp hc => ?_⟩
  · rw [hS.2.1 _ (Array.getElem?_eq_some_iff.mp h1).1 h4]
    exact h1
  · rw [h3] at hc
    cases hc
    exact jasg _ _
section SNL
variable {p : Program} {l : Launch} {e : Env} {R : Room} {s : State} {m : MethodId} {args : Array Value} {below : List Frame} {meth : Method} {c : Code} {Q : State → Prop}
variable {G : jG} {i : Nat} {k0 s0 : Nat} {μ0 : jM} {ad0 : Nat → Nat}
theorem jQ_in {ad : Nat → Nat} {μ : jM} {H : Heap} {x : Nat} (hM : jMem G ad μ H) (hx : jok μ x) (hc : x % 64 < 40) : ∀ k b : Nat, jQ μ x k = some b → jok μ b := fun k b hb => hM.2.2.1 x (by obtain ⟨z, hz⟩ := jok_at hx hc; exact List.mem_of_getElem? hz) k b hb
theorem snd_iastore (C : jCtx G i p l s m args meth c) {len a b : Nat} {v : Int32} {sw : List (Int32 × Nat)} {pc pc' : Nat} {ls ls' : List (Option Value)} {st st' : List Value} {μ μ' : jM} (hE : jchk i pc (.iastore, len, a, b, v, sw) = true) (hs : jstep (.iastore, len, a, b, v, sw) pc ls st μ = some (.inl (pc', ls', st', μ')))
    (k : jGo G i p l e R s m args below meth c Q k0 s0 μ0 ad0 pc' ls' st' μ') : jGo G i p l e R s m args below meth c Q k0 s0 μ0 ad0 pc ls st μ := by
  obtain ⟨hx, hb, hml, hown, hts, hlk, hFB, -⟩ := C
  have hd := jchk_dec hE
  unfold jchk at hE
  replace hE := (jand hE).2
  have h1 : len = 1 := jbeq hE
  subst h1
  simp only [jstep] at hs
  split at hs
  · next u j x r =>
    obtain ⟨h0, hs⟩ := jbif hs
    obtain ⟨hm, h0⟩ := jand h0
    obtain ⟨ht, h2⟩ := jand h0
    obtain ⟨rfl, rfl, rfl, rfl⟩ := jN_inv hs
    obtain ⟨n, hn⟩ := jmade_inv hm (jbeq ht)
    have hr := jak_rng hn
    rw [jln_made hn] at h2
    intro ad H locs cells slots lsA g1 g2 g3 g4 g5 g6 g7 g8
    have hxo : jok μ x := jStk_head (jStk_tail (jStk_tail g6))
    obtain ⟨q0, hq0⟩ := jok_at hxo hr.2
    have hcell : (jwld G ad μ)[q0]? = some (ad x, .inl (gcy G 0, n, .inl (jI μ x))) := by
      rw [jwld_at hq0, jce_arr hr.1 hn]
      rfl
    have hEe : jce G ad (jsI μ x j.toNatClampNeg u) x = .inl (gcy G 0, n, .inl (upd (jI μ x) j.toNatClampNeg u)) := by
      rw [jce_arr hr.1 hn]
      show Sum.inl (gcy G 0, n, Sum.inl (j2 (jI μ) x j.toNatClampNeg u x)) = _
      rw [j2_self]
      rfl
    exact va_iast hx hb (jFB_K hFB) g3.1 g3.2.1 g4 q0 0 hcell rfl (jin_vp h2) hd fun H1 locs1 hP hD hS => jwr_go k g3 hq0 (jsame_I _ _ _ _) (fun y b' hb' => jQ_in g3 hxo hr.2 y b' hb') hEe g1 g2 g5 (jStk_tail (jStk_tail (jStk_tail g6))) g7 g8 hP hD hS
  · cases hs
theorem snd_bastore (C : jCtx G i p l s m args meth c) {len a b : Nat} {v : Int32} {sw : List (Int32 × Nat)} {pc pc' : Nat} {ls ls' : List (Option Value)} {st st' : List Value} {μ μ' : jM} (hE : jchk i pc (.bastore, len, a, b, v, sw) = true) (hs : jstep (.bastore, len, a, b, v, sw) pc ls st μ = some (.inl (pc', ls', st', μ')))
    (k : jGo G i p l e R s m args below meth c Q k0 s0 μ0 ad0 pc' ls' st' μ') : jGo G i p l e R s m args below meth c Q k0 s0 μ0 ad0 pc ls st μ := by
  obtain ⟨hx, hb, hml, hown, hts, hlk, hFB, -⟩ := C
  have hd := jchk_dec hE
  unfold jchk at hE
  replace hE := (jand hE).2
  have h1 : len = 1 := jbeq hE
  subst h1
  simp only [jstep] at hs
  split at hs
  · next u j x r =>
    obtain ⟨h0, hs⟩ := jbif hs
    obtain ⟨hm, h0⟩ := jand h0
    obtain ⟨ht, h2⟩ := jand h0
    obtain ⟨rfl, rfl, rfl, rfl⟩ := jN_inv hs
    obtain ⟨n, hn⟩ := jmade_inv hm (jbeq ht)
    have hr := jak_rng hn
    rw [jln_made hn] at h2
    intro ad H locs cells slots lsA g1 g2 g3 g4 g5 g6 g7 g8
    have hxo : jok μ x := jStk_head (jStk_tail (jStk_tail g6))
    obtain ⟨q0, hq0⟩ := jok_at hxo hr.2
    have hcell : (jwld G ad μ)[q0]? = some (ad x, .inl (gcy G 1, n, .inl (jI μ x))) := by
      rw [jwld_at hq0, jce_arr hr.1 hn]
      rfl
    have hEe : jce G ad (jsI μ x j.toNatClampNeg u.toInt8.toInt32) x = .inl (gcy G 1, n, .inl (upd (jI μ x) j.toNatClampNeg (vp_nar .byte u))) := by
      rw [jce_arr hr.1 hn]
      show Sum.inl (gcy G 1, n, Sum.inl (j2 (jI μ) x j.toNatClampNeg u.toInt8.toInt32 x)) = _
      rw [j2_self]
      rfl
    exact va_bast hx hb (jFB_K hFB) g3.1 g3.2.1 g4 q0 1 hcell rfl (jin_vp h2) hd fun H1 locs1 hP hD hS => jwr_go k g3 hq0 (jsame_I _ _ _ _) (fun y b' hb' => jQ_in g3 hxo hr.2 y b' hb') hEe g1 g2 g5 (jStk_tail (jStk_tail (jStk_tail g6))) g7 g8 hP hD hS
  · cases hs
theorem snd_lastore (C : jCtx G i p l s m args meth c) {len a b : Nat} {v : Int32} {sw : List (Int32 × Nat)} {pc pc' : Nat} {ls ls' : List (Option Value)} {st st' : List Value} {μ μ' : jM} (hE : jchk i pc (.lastore, len, a, b, v, sw) = true) (hs : jstep (.lastore, len, a, b, v, sw) pc ls st μ = some (.inl (pc', ls', st', μ')))
    (k : jGo G i p l e R s m args below meth c Q k0 s0 μ0 ad0 pc' ls' st' μ') : jGo G i p l e R s m args below meth c Q k0 s0 μ0 ad0 pc ls st μ := by
  obtain ⟨hx, hb, hml, hown, hts, hlk, hFB, -⟩ := C
  have hd := jchk_dec hE
  unfold jchk at hE
  replace hE := (jand hE).2
  have h1 : len = 1 := jbeq hE
  subst h1
  simp only [jstep] at hs
  split at hs
  · next u j x r =>
    obtain ⟨h0, hs⟩ := jbif hs
    obtain ⟨hm, h0⟩ := jand h0
    obtain ⟨ht, h2⟩ := jand h0
    obtain ⟨rfl, rfl, rfl, rfl⟩ := jN_inv hs
    obtain ⟨n, hn⟩ := jmade_inv hm (jbeq ht)
    have hr := jak_rng hn
    rw [jln_made hn] at h2
    intro ad H locs cells slots lsA g1 g2 g3 g4 g5 g6 g7 g8
    have hxo : jok μ x := jStk_head (jStk_tail (jStk_tail g6))
    obtain ⟨q0, hq0⟩ := jok_at hxo hr.2
    have hcell : (jwld G ad μ)[q0]? = some (ad x, .inl (gcy G 2, n, .inr (.inl (jL μ x)))) := by
      rw [jwld_at hq0, jce_arr hr.1 hn]
      rfl
    have hEe : jce G ad (jsL μ x j.toNatClampNeg u) x = .inl (gcy G 2, n, .inr (.inl (vp_updL (jL μ x) j.toNatClampNeg u))) := by
      rw [jce_arr hr.1 hn]
      show Sum.inl (gcy G 2, n, Sum.inr (Sum.inl (j2 (jL μ) x j.toNatClampNeg u x))) = _
      rw [j2_self]
      rfl
    exact va_last hx hb (jFB_K hFB) g3.1 g3.2.1 g4 q0 2 hcell rfl (jin_vp h2) hd fun H1 locs1 hP hD hS => jwr_go k g3 hq0 (jsame_L _ _ _ _) (fun y b' hb' => jQ_in g3 hxo hr.2 y b' hb') hEe g1 g2 g5 (jStk_tail (jStk_tail (jStk_tail g6))) g7 g8 hP hD hS
  · cases hs
theorem snd_aastore (C : jCtx G i p l s m args meth c) {len a b : Nat} {v : Int32} {sw : List (Int32 × Nat)} {pc pc' : Nat} {ls ls' : List (Option Value)} {st st' : List Value} {μ μ' : jM} (hE : jchk i pc (.aastore, len, a, b, v, sw) = true) (hs : jstep (.aastore, len, a, b, v, sw) pc ls st μ = some (.inl (pc', ls', st', μ')))
    (k : jGo G i p l e R s m args below meth c Q k0 s0 μ0 ad0 pc' ls' st' μ') : jGo G i p l e R s m args below meth c Q k0 s0 μ0 ad0 pc ls st μ := by
  obtain ⟨hx, hb, hml, hown, hts, hlk, hFB, -⟩ := C
  have hd := jchk_dec hE
  unfold jchk at hE
  replace hE := (jand hE).2
  have h1 : len = 1 := jbeq hE
  subst h1
  simp only [jstep] at hs
  split at hs
  · next u j x r =>
    obtain ⟨h0, hs⟩ := jbif hs
    obtain ⟨hm, h0⟩ := jand h0
    obtain ⟨ht, h0⟩ := jand h0
    obtain ⟨hu, h2⟩ := jand h0
    have hu : Eq (α := Nat) (u % 64) 40 := jbeq hu
    obtain ⟨rfl, rfl, rfl, rfl⟩ := jN_inv hs
    obtain ⟨n, hn⟩ := jmade_inv hm (jbeq ht)
    have hr := jak_rng hn
    rw [jln_made hn] at h2
    intro ad H locs cells slots lsA g1 g2 g3 g4 g5 g6 g7 g8
    have hxo : jok μ x := jStk_head (jStk_tail (jStk_tail g6))
    have huo : jok μ u := jStk_head g6
    have huc := jok_c g3 huo (by omega)
    obtain ⟨z, hz, ez⟩ := (jcst_eq huc).2.2 hu
    have hany : va_Any "CrossBar$Kind" s H (ad u) := by
      rw [jad_c g3 huc, ez]
      exact jkind_any hFB g4 hz
    obtain ⟨q0, hq0⟩ := jok_at hxo hr.2
    have hcell : (jwld G ad μ)[q0]? = some (ad x, .inl (gcy G 3, n, .inr (.inr (.inr (.inr (fun k => (jQ μ x k).map ad)))))) := by
      rw [jwld_at hq0, jce_arr hr.1 hn]
      rfl
    have hEe : jce G ad (jsQ μ x j.toNatClampNeg (some u)) x = .inl (gcy G 3, n, .inr (.inr (.inr (.inr (va_up (fun k => (jQ μ x k).map ad) j.toNatClampNeg (some (ad u))))))) := by
      rw [jce_arr hr.1 hn]
      show Sum.inl (gcy G 3, n, Sum.inr (Sum.inr (Sum.inr (Sum.inr fun k => (j2 (jQ μ) x j.toNatClampNeg (some u) x k).map ad)))) = _
      rw [j2_self]
      congr 7
      funext y
      unfold va_up
      by_cases hy : y = j.toNatClampNeg
      · simp only [if_pos hy]
        rfl
      · simp only [if_neg hy]
    have hQ : ∀ y b' : Nat, jQ (jsQ μ x j.toNatClampNeg (some u)) x y = some b' → jok μ b' := by
      intro y b' hb'
      replace hb' : j2 (jQ μ) x j.toNatClampNeg (some u) x y = some b' := hb'
      rw [j2_self] at hb'
      by_cases hy : y = j.toNatClampNeg
      · simp only [if_pos hy] at hb'
        cases hb'
        exact huo
      · simp only [if_neg hy] at hb'
        exact jQ_in g3 hxo hr.2 y b' hb'
    exact va_astqM hx hb (jFB_K hFB) g3.1 g3.2.1 g4 q0 3 hcell rfl hany (jin_vp h2) hd fun H1 locs1 hP hD hS => jwr_go k g3 hq0 (jsame_Q _ _ _ _) hQ hEe g1 g2 g5 (jStk_tail (jStk_tail (jStk_tail g6))) g7 g8 hP hD hS
  · cases hs
end SNL
