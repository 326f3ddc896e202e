/-! SOUNDNESS, the fifth part: reading the memory. -/
theorem jbne {a b : Nat} (h : a ≠ b) : Nat.beq a b = false := by
  cases hb : Nat.beq a b
  · rfl
  · exact absurd (Nat.eq_of_beq_eq_true hb) h
theorem jak_small : ∀ c, c < 64 → (jak c).isSome = true → 13 ≤ c ∧ c < 40 := by decide
theorem jak_rng {x t n : Nat} (h : jak (x % 64) = some (t, n)) : 13 ≤ x % 64 ∧ x % 64 < 40 := jak_small _ (Nat.mod_lt _ (by decide)) (by rw [h]; rfl)
theorem jft_two : ∀ c, c < 13 → ∀ k, k < 22 → jft c k = 0 ∨ jft c k = 2 := by decide
theorem jCl_wid : ∀ c, c < 13 → ∀ q, jCl[c]? = some q → q.2.2 ≤ 21 := by
  intro c _ q hq
  have h : ∀ q ∈ jCl, q.2.2 ≤ 21 := by decide
  exact h q (List.mem_of_getElem? hq)
theorem jfl_inv {i pc idx : Nat} {f : String × String × String} (h : jfl i pc idx f = true) : tables_1[jw i pc]? = some (.fieldLink (jY i).cls idx f.1 f.2.1 f.2.2) ∨ ∃ ho, tables_1[jw i pc]? = some (.fieldLinkNest (jY i).cls idx f.1 f.2.1 f.2.2 ho) := by
  unfold jfl at h
  split at h
  · next o x r n d hw =>
    obtain ⟨h1, h⟩ := jand h
    obtain ⟨h2, h⟩ := jand h
    obtain ⟨h3, h⟩ := jand h
    obtain ⟨h4, h5⟩ := jand h
    rw [hw, of_decide_eq_true h1, jbeq h2, of_decide_eq_true h3, of_decide_eq_true h4, of_decide_eq_true h5]
    exact Or.inl rfl
  · next o x r n d ho hw =>
    obtain ⟨h1, h⟩ := jand h
    obtain ⟨h2, h⟩ := jand h
    obtain ⟨h3, h⟩ := jand h
    obtain ⟨h4, h5⟩ := jand h
    rw [hw, of_decide_eq_true h1, jbeq h2, of_decide_eq_true h3, of_decide_eq_true h4, of_decide_eq_true h5]
    exact Or.inr ⟨ho, rfl⟩
  · cases h
theorem jpl_inv {i pc idx : Nat} {f : String × String × String} (h : jfl i pc idx f = true) (hp : jplw i pc = true) : tables_1[jw i pc]? = some (.fieldLink (jY i).cls idx f.1 f.2.1 f.2.2) := by
  rcases jfl_inv h with h | ⟨ho, h⟩
  · exact h
  · unfold jplw at hp
    rw [h] at hp
    cases hp
theorem jpv_rf {G : jG} {ad : Nat → Nat} {r : Option Nat} : jpv G ad (va_rf r) = va_rf (r.map ad) := by cases r <;> rfl
theorem jget_fv {G : jG} {ad : Nat → Nat} {μ : jM} {a b x : Nat} (ha : a < 13) (hx : x % 64 = a) (hb : b % 4 = jft a (b / 4)) (h2 : jft a (b / 4) = 0 ∨ jft a (b / 4) = 2) : jpv G ad (jget a b x μ) = jfv G ad μ x (b / 4) := by
  unfold jget jfv
  have h40 : Nat.beq a 40 = false := jbne (by omega)
  have h41 : Nat.beq a 41 = false := jbne (by omega)
  rw [h40, h41, hx]
  simp only [cond_false]
  rcases h2 with h2 | h2
  · rw [hb, h2]; rfl
  · rw [hb, h2]
    show jpv G ad (va_rf (jQ μ x (b / 4))) = _
    rw [jpv_rf]; rfl
section SNR
variable {p : Program} {l : Launch} {e : Env} {R : Room} {s : State} {m : MethodId} {args : Array Value} {below : List Frame} {meth : Method} {c : Code} {Q : State → Prop}
variable {G : jG} {i : Nat} {k0 s0 : Nat} {μ0 : jM} {ad0 : Nat → Nat}
theorem jFB_K {U : State} {H : Heap} (h : jFB G U H) : va_K (gD G) jCl (jtys G) U := h.1
theorem jFB_Z {U : State} {H : Heap} (h : jFB G U H) {E : jE} (hE : jsok E = true) : va_Z (jsd E).1 (jsd E).2.1 (jsd E).2.2 (jpv G (gad G) (jsv E)) (gA G) U H := h.2.1 E hE
theorem jFB_OF {U : State} {H : Heap} (h : jFB G U H) {x b : Nat} (hb : jcf x b = true) : va_OF (jfd (x % 64) (b / 4)).1 (jfd (x % 64) (b / 4)).2.1 (jfd (x % 64) (b / 4)).2.2.1 (jpv G (gad G) (jcg x b)) (gad G x) (gA G) U H := h.2.2.1 x b hb
theorem jFB_nest {U : State} {H : Heap} (h : jFB G U H) {w : Jvm.Cond} {n : Nat} (hn : tables_1[n]? = some w) (hw : jnest w = true) : va_Nw w U := by
  obtain ⟨-, -, -, -, -, -, -, -, -, -, -, -, h, -⟩ := h
  exact h w (List.mem_of_getElem? hn) hw
/-- a reference of a made class is a cell of the world -/
theorem jobj_at {ad : Nat → Nat} {μ : jM} {H : Heap} {x : Nat} {q : vw_C} (hM : jMem G ad μ H) (hx : jok μ x) (hc : x % 64 < 13) (hq : jCl[x % 64]? = some q) : ∃ q0 : Nat, (jwld G ad μ)[q0]? = some (ad x, .inr (x % 64, (List.range q.2.2).map (jfv G ad μ x))) := by
  obtain ⟨k, hk⟩ := jok_at hx (by omega)
  refine ⟨k, ?_⟩
  rw [jwld_at hk, jce_obj hq]
theorem jarr_at {ad : Nat → Nat} {μ : jM} {x t n : Nat} (hx : jok μ x) (h : jak (x % 64) = some (t, n)) : ∃ q0 : Nat, (jwld G ad μ)[q0]? = some (ad x, bif Nat.ble t 1 then .inl (gcy G t, n, .inl (jI μ x)) else bif Nat.beq t 2 then .inl (gcy G t, n, .inr (.inl (jL μ x))) else .inl (gcy G t, n, .inr (.inr (.inr (.inr (fun k => (jQ μ x k).map ad)))))) := by
  obtain ⟨h1, h2⟩ := jak_rng h
  obtain ⟨k, hk⟩ := jok_at hx h2
  refine ⟨k, ?_⟩
  rw [jwld_at hk, jce_arr h1 h]
theorem jQ_ok {ad : Nat → Nat} {μ : jM} {H : Heap} {x k : Nat} (hM : jMem G ad μ H) (hx : jok μ x) (hc : x % 64 < 40) : jvok μ (va_rf (jQ μ x k)) := by
  obtain ⟨-, -, h, -⟩ := hM
  cases hq : jQ μ x k with
  | none => trivial
  | some b =>
    obtain ⟨j, hj⟩ := jok_at hx hc
    exact h x (List.mem_of_getElem? hj) k b hq
theorem jad_c {ad : Nat → Nat} {μ : jM} {H : Heap} (hM : jMem G ad μ H) {x : Nat} (hx : jcst x = true) : ad x = gad G x := hM.2.2.2.2.1 x hx
theorem jok_c {ad : Nat → Nat} {μ : jM} {H : Heap} (hM : jMem G ad μ H) {x : Nat} (hx : jok μ x) (hc : 40 ≤ x % 64) : jcst x = true := by
  rcases hx with hx | hx
  · obtain ⟨j, hj⟩ := List.getElem?_of_mem hx
    obtain ⟨-, h⟩ := hM.2.2.2.1 j x hj
    rcases h with h | ⟨h1, h2⟩
    · omega
    · have := jak_small _ (Nat.mod_lt _ (by decide)) h2
      omega
  · exact hx
theorem jcst_kind {x : Nat} (h : jcst x = true) (hc : x % 64 = 40) : x / 64 < 42 := by
  simp only [jcst, Bool.or_eq_true, Bool.and_eq_true, Nat.beq_eq] at h
  rcases h with h | h | h | h | h | h | h
  · exact Nat.le_of_ble_eq_true h.2
  all_goals omega
theorem jcst_str {x : Nat} (h : jcst x = true) (hc : x % 64 = 41) : x / 64 < 39 := by
  simp only [jcst, Bool.or_eq_true, Bool.and_eq_true, Nat.beq_eq] at h
  rcases h with h | h | h | h | h | h | h
  · omega
  · exact Nat.le_of_ble_eq_true h.2
  all_goals omega
theorem jcst_byt {x : Nat} (h : jcst x = true) (hc : x % 64 = 43) : x / 64 < 39 := by
  simp only [jcst, Bool.or_eq_true, Bool.and_eq_true, Nat.beq_eq] at h
  rcases h with h | h | h | h | h | h | h
  · omega
  · omega
  · exact Nat.le_of_ble_eq_true h.2
  all_goals omega
theorem jktx_ok : ∀ k, k < 42 → jcst (jktx k) = true := by decide
theorem jwrd_ok : ∀ k, k < 22 → jcst (jwrd k) = true := by decide
set_option maxHeartbeats 4000000 in
theorem snd_getfield (C : jCtx G i p l s m args meth c) {n len a b : Nat} {v : Int32} {sw : List (Int32 × Nat)} {pc pc' : Nat} {ls ls' : List (Option Value)} {st st' : List Value} {μ μ' : jM} (hE : jchk i pc (.getfield n, len, a, b, v, sw) = true) (hs : jstep (.getfield n, len, a, b, v, sw) pc ls st μ = some (.inl (pc', ls', st', μ')))
    (k : jGo G i p l e R s m args below meth c Q k0 s0 μ0 ad0 pc' ls' st' μ') : jGo G i p l e R s m args below meth c Q k0 s0 μ0 ad0 pc ls st μ := by
  obtain ⟨hx, hb, hml, hown, hts, hlk, hFB, -⟩ := C
  have hd := jchk_dec hE
  unfold jchk at hE
  replace hE := (jand hE).2
  obtain ⟨h1, hE⟩ := jand hE
  have h1 : len = 3 := jbeq h1
  subst h1
  obtain ⟨h2, hE⟩ := jand hE
  obtain ⟨h3, hE⟩ := jand hE
  simp only [jstep] at hs
  split at hs
  · next x r =>
    obtain ⟨h0, hs⟩ := jbif hs
    have h0 : Eq (α := Nat) (x % 64) a := jbeq h0
    obtain ⟨rfl, rfl, rfl, rfl⟩ := jN_inv hs
    intro ad H locs cells slots lsA g1 g2 g3 g4 g5 g6 g7 g8
    have hxo : jok μ x := jStk_head g6
    rw [Bool.or_eq_true] at hE
    rcases hE with hE | hE
    · obtain ⟨e1, e2⟩ := jand hE
      have e1 : a < 13 := Nat.le_of_ble_eq_true e1
      have e2 : b % 4 = jft a (b / 4) := jbeq e2
      obtain ⟨q, hq⟩ := jCl_some e1
      have hk : b / 4 < q.2.2 := by
        have := Nat.le_of_ble_eq_true h2
        unfold jfn at this
        rw [show jCl[(Instr.getfield n, 3, a, b, v, sw).2.2.1]? = some q from hq] at this
        exact this
      have hk22 : b / 4 < 22 := by have := jCl_wid a e1 q hq; omega
      have hfd : jfd a (b / 4) = q.2.1 (b / 4) := by unfold jfd; rw [hq]
      subst h0
      obtain ⟨q0, hq0⟩ := jobj_at (G := G) g3 hxo e1 hq
      have hval : ((List.range q.2.2).map (jfv G ad μ x))[b / 4]? = some (jpv G ad (jget (x % 64) b x μ)) := by
        rw [jget_fv e1 rfl e2 (jft_two _ e1 _ hk22)]
        simp [hk]
      have hvok : jvok μ (jget (x % 64) b x μ) := by
        unfold jget
        have h40 : Nat.beq (x % 64) 40 = false := jbne (by omega)
        have h41 : Nat.beq (x % 64) 41 = false := jbne (by omega)
        rw [h40, h41]
        simp only [cond_false]
        cases Nat.beq (b % 4) 0
        · simp only [cond_false]
          cases Nat.beq (b % 4) 1
          · exact jQ_ok g3 hxo (by omega)
          · trivial
        · trivial
      have hcont := k ad H locs cells slots lsA g1 g2 g3 g4 g5 (jStk_cons hvok (jStk_tail g6)) g7 g8
      rw [show (Instr.getfield n, 3, x % 64, b, v, sw).2.2.1 = x % 64 from rfl, show (Instr.getfield n, 3, x % 64, b, v, sw).2.2.2.1 = b from rfl, hfd] at h3
      rcases jfl_inv h3 with hw | ⟨ho, hw⟩
      · exact va_get hx hb hts (jcl_in _ _ hq) hown (jFB_K hFB) g3.1 q0 hq0 hq (b / 4) hk (hts _ (jwin _ hw rfl)) (fun _ h => h) hval hd hcont
      · exact va_getN hx hb hts (jcl_in _ _ hq) hown (jFB_K hFB) g3.1 q0 hq0 hq (b / 4) hk (va_Nw.use rfl (jFB_nest hFB hw rfl)) (fun _ h => h) hval hd hcont
    · obtain ⟨e0, e1⟩ := jand hE
      have hw := jpl_inv h3 e0
      rw [Bool.or_eq_true] at e1
      have hca : 40 ≤ a ∧ jcf x b = true ∧ jpv G (gad G) (jcg x b) = jpv G (gad G) (jget a b x μ) ∧ jvok μ (jget a b x μ) ∧ (∀ y, jget a b x μ = .ref y → jcst y = true) := by
        rcases e1 with e1 | e1
        · obtain ⟨e1, e2⟩ := jand e1
          have e1 : a = 40 := jbeq e1
          have hc := jok_c g3 hxo (by rw [h0, e1]; decide)
          have hlt := jcst_kind hc (by rw [h0, e1])
          subst e1
          have e2 : (Nat.beq b 0 || Nat.beq b 6) = true := e2
          refine ⟨by omega, ?_, ?_, ?_, ?_⟩
          · unfold jcf
            rw [h0, e2, show Nat.blt (x / 64) 42 = true from Nat.ble_eq_true_of_le hlt]
            rfl
          · unfold jcg jget; rw [h0]; rfl
          · unfold jget
            cases hb0 : Nat.beq b 0
            · exact Or.inr (jktx_ok _ hlt)
            · trivial
          · unfold jget
            intro y hy
            cases hb0 : Nat.beq b 0
            · rw [hb0] at hy
              have hy : jktx (x / 64) = y := Value.ref.inj hy
              rw [← hy]
              exact jktx_ok _ hlt
            · rw [hb0] at hy; cases hy
        · obtain ⟨e1, e2⟩ := jand e1
          have e1 : a = 41 := jbeq e1
          have hc := jok_c g3 hxo (by omega)
          have hlt := jcst_str hc (by omega)
          subst e1
          have e2 : (Nat.beq b 2 || Nat.beq b 4) = true := e2
          have h43 : jcst (x + 2) = true := by
            have q1 : Eq (α := Nat) ((x + 2) % 64) 43 := by omega
            have q2 : Eq (α := Nat) ((x + 2) / 64) (x / 64) := by omega
            unfold jcst
            rw [q1, q2, show Nat.blt (x / 64) 39 = true from Nat.ble_eq_true_of_le hlt]
            rfl
          refine ⟨by omega, ?_, ?_, ?_, ?_⟩
          · unfold jcf
            rw [h0, e2, show Nat.blt (x / 64) 39 = true from Nat.ble_eq_true_of_le hlt]
            rfl
          · unfold jcg jget; rw [h0]; rfl
          · unfold jget
            cases hb0 : Nat.beq b 2
            · trivial
            · exact Or.inr h43
          · unfold jget
            intro y hy
            cases hb0 : Nat.beq b 2
            · rw [hb0] at hy; cases hy
            · rw [hb0] at hy
              have hy : x + 2 = y := Value.ref.inj hy
              rw [← hy]
              exact h43
      obtain ⟨c1, c2, c3, c4, c5⟩ := hca
      have hxc := jok_c g3 hxo (by omega)
      have hcont := k ad H locs cells slots lsA g1 g2 g3 g4 g5 (jStk_cons c4 (jStk_tail g6)) g7 g8
      have hOF := jFB_OF hFB c2
      rw [c3, ← jad_c g3 hxc] at hOF
      have hv : jpv G ad (jget a b x μ) = jpv G (gad G) (jget a b x μ) := by
        cases hg : jget a b x μ <;> try rfl
        next y => exact congrArg Value.ref (jad_c g3 (c5 y hg))
      rw [h0] at hOF
      refine vk_getf hx hb hOF g4 hown (hts _ (jwin _ hw rfl)) (fun _ h => h) hd ?_
      rw [← hv]
      exact hcont
  · cases hs
end SNR
