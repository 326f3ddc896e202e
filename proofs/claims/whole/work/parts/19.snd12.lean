/-! SOUNDNESS, the twelfth part: calls of the library. -/
theorem jnest_all : tables_1.all (fun w => match w with | .methodLinkNest _ _ y _ => decide (y.cls ≠ "java/lang/Object") && (decide (y.cls ≠ "java/lang/System") && decide (y.cls ≠ "java/lang/Math")) | _ => true) = true := by decide +kernel
theorem jml_inv {i pc idx : Nat} {y : MethodName} (h : jml i pc idx y = true) : tables_1[jw i pc]? = some (.methodLink (jY i).cls idx y) ∨ ∃ ho, tables_1[jw i pc]? = some (.methodLinkNest (jY i).cls idx y ho) := by
  unfold jml at h
  split at h
  · next o x mm hw =>
    obtain ⟨h1, h⟩ := jand h
    obtain ⟨h2, h3⟩ := jand h
    rw [hw, of_decide_eq_true h1, jbeq h2, of_decide_eq_true h3]
    exact Or.inl rfl
  · next o x mm ho hw =>
    obtain ⟨h1, h⟩ := jand h
    obtain ⟨h2, h3⟩ := jand h
    rw [hw, of_decide_eq_true h1, jbeq h2, of_decide_eq_true h3]
    exact Or.inr ⟨ho, rfl⟩
  · cases h
theorem jml_lib {i pc idx : Nat} {y : MethodName} (h : jml i pc idx y = true) (hy : y.cls = "java/lang/Object" ∨ y.cls = "java/lang/System" ∨ y.cls = "java/lang/Math") : tables_1[jw i pc]? = some (.methodLink (jY i).cls idx y) := by
  rcases jml_inv h with h | ⟨ho, h⟩
  · exact h
  · have h1 := List.all_eq_true.mp jnest_all _ (List.mem_of_getElem? h)
    obtain ⟨h2, h3⟩ := jand h1
    obtain ⟨h3, h4⟩ := jand h3
    rcases hy with hy | hy | hy
    · exact absurd hy (of_decide_eq_true h2)
    · exact absurd hy (of_decide_eq_true h3)
    · exact absurd hy (of_decide_eq_true h4)
def jlibw : List Jvm.Cond := [.native arraycopyName, .static arraycopyName, .initialized "java/lang/System", .static Lib.Math.min.name, .initialized "java/lang/Math", .code Lib.Math.min.name Lib.Math.min.code 2 (some .int), .static Lib.Math.max.name, .code Lib.Math.max.name Lib.Math.max.code 2 (some .int), .instanceMethod Lib.objectInit, .code Lib.objectInit ⟨#[0xb1]⟩ 1 none]
theorem jlib_in : ∀ w ∈ jlibw, w ∈ jW := by
  have h1 : jlibw.all (fun w => decide (w ∈ tables_1) && goodWord w) = true := by decide +kernel
  intro w hw
  obtain ⟨h3, h4⟩ := jand (List.all_eq_true.mp h1 w hw)
  exact List.mem_filter.mpr ⟨List.mem_append_right _ (of_decide_eq_true h3), h4⟩
section SNO
variable {p : Program} {l : Launch} {e : Env} {R : Room} {s : State} {m : MethodId} {args : Array Value} {below : List Frame} {meth : Method} {c : Code} {Q : State → Prop}
variable {G : jG} {i : Nat} {k0 s0 : Nat} {μ0 : jM} {ad0 : Nat → Nat}
set_option maxHeartbeats 4000000 in
theorem jmm_go (C : jCtx G i p l s m args meth c) {f : Int32 → Int32 → Int32} {pc pc' : Nat} {ls ls' : List (Option Value)} {st st' : List Value} {μ μ' : jM} (hs : jmm pc ls st μ f = some (.inl (pc', ls', st', μ'))) (hRm : 60 ≤ R.locals) (hR : jnc μ' ≤ R.cells + k0 ∧ jns μ' ≤ R.slots + s0)
    (row : ∀ (x y : Int32) (rest : List Value) (ls : Array Slot) (H : Heap) (locs : List Loc) (cells slots : Nat), c.maxLocals = ls.size → (rest.map fun v => v.category).sum + 13 ≤ R.locals → cells ≤ R.cells → slots ≤ R.slots → W p l e R s m args below meth c H locs cells slots Q (F0 m (pc + 3) ls (.int (f x y) :: rest)) → W p l e R s m args below meth c H locs cells slots Q (F0 m pc ls (.int y :: .int x :: rest)))
    (k : jGo G i p l e R s m args below meth c Q k0 s0 μ0 ad0 pc' ls' st' μ') : jGo G i p l e R s m args below meth c Q k0 s0 μ0 ad0 pc ls st μ := by
  obtain ⟨hx, hb, hml, hown, hts, hlk, hFB, hret, hmn, hst, hgb⟩ := C
  unfold jmm at hs
  split at hs
  · next y x r =>
    obtain ⟨h0, hs⟩ := jbif hs
    obtain ⟨rfl, rfl, rfl, rfl⟩ := jN_inv hs
    have h0 := Nat.le_of_ble_eq_true h0
    intro ad H locs cells slots lsA g1 g2 g3 g4 g5 g6 g7 g8
    exact row x y (r.map (jpv G ad)) lsA H locs cells slots (by rw [hml, g5.2.1]) (by rw [jcat_map (jsio hFB)]; omega) (by omega) (by omega) (k ad H locs cells slots lsA g1 g2 g3 g4 g5 (jStk_cons trivial (jStk_tail (jStk_tail g6))) g7 g8)
  · cases hs
set_option maxHeartbeats 4000000 in
theorem snd_static (C : jCtx G i p l s m args meth c) {n len a b : Nat} {v : Int32} {sw : List (Int32 × Nat)} {pc pc' : Nat} {ls ls' : List (Option Value)} {st st' : List Value} {μ μ' : jM} (hE : jchk i pc (.invokestatic n, len, a, b, v, sw) = true) (hs : jstep (.invokestatic n, len, a, b, v, sw) pc ls st μ = some (.inl (pc', ls', st', μ'))) (hRm : 60 ≤ R.locals ∧ 1 ≤ R.frames) (hR : jnc μ' ≤ R.cells + k0 ∧ jns μ' ≤ R.slots + s0)
    (k : jGo G i p l e R s m args below meth c Q k0 s0 μ0 ad0 pc' ls' st' μ') : jGo G i p l e R s m args below meth c Q k0 s0 μ0 ad0 pc ls st μ := by
  have C0 := C
  obtain ⟨hx, hb, hml, hown, hts, hlk, hFB, hret, hmn, hst, hgb⟩ := C
  have hd := jchk_dec hE
  unfold jchk at hE
  replace hE := (jand hE).2
  replace hE : (bif Nat.beq a 1002 then Nat.beq len 3 && jml i pc n arraycopyName else bif Nat.beq a 1003 then Nat.beq len 3 && jml i pc n Lib.Math.min.name else bif Nat.beq a 1004 then Nat.beq len 3 && jml i pc n Lib.Math.max.name else jinv i pc n (.invokestatic n, len, a, b, v, sw) true false) = true := hE
  simp only [jstep] at hs
  cases h2 : Nat.beq a 1002 with
  | true =>
    rw [h2] at hs hE
    simp only [cond_true] at hs hE
    obtain ⟨h1, h3⟩ := jand hE
    have h1 : len = 3 := jbeq h1
    subst h1
    have hw := jml_lib h3 (Or.inr (Or.inl rfl))
    unfold jcopy at hs
    split at hs
    · next nn dp y sp x r =>
      obtain ⟨h0, hs⟩ := jbif hs
      obtain ⟨rfl, rfl, rfl, rfl⟩ := jN_inv hs
      obtain ⟨c1, h0⟩ := jand h0
      obtain ⟨c2, h0⟩ := jand h0
      obtain ⟨c3, h0⟩ := jand h0
      obtain ⟨c4, h0⟩ := jand h0
      obtain ⟨c5, h0⟩ := jand h0
      obtain ⟨c6, h0⟩ := jand h0
      obtain ⟨c7, h0⟩ := jand h0
      obtain ⟨c8, h0⟩ := jand h0
      obtain ⟨c9, c10⟩ := jand h0
      obtain ⟨n1, hn1⟩ := jmade_inv c1 (jbeq c3)
      obtain ⟨n2, hn2⟩ := jmade_inv c2 (jbeq c4)
      rw [Bool.not_eq_true', decide_eq_false_iff_not] at c5 c6 c7
      rw [jln_made hn1] at c8
      rw [jln_made hn2] at c9
      have c8 := Nat.le_of_ble_eq_true c8
      have c9 := Nat.le_of_ble_eq_true c9
      have c10 := Nat.le_of_ble_eq_true c10
      have hr1 := jak_rng hn1
      have hr2 := jak_rng hn2
      intro ad H locs cells slots lsA g1 g2 g3 g4 g5 g6 g7 g8
      have hyo : jok μ y := jStk_head (jStk_tail (jStk_tail g6))
      have hxo : jok μ x := jStk_head (jStk_tail (jStk_tail (jStk_tail (jStk_tail g6))))
      obtain ⟨q0, hq0⟩ := jok_at hxo hr1.2
      obtain ⟨q1, hq1⟩ := jok_at hyo hr2.2
      have hcx : (jwld G ad μ)[q0]? = some (ad x, .inl (gcy G 0, n1, .inl (jI μ x))) := by
        rw [jwld_at hq0, jce_arr hr1.1 hn1]
        rfl
      have hcy : (jwld G ad μ)[q1]? = some (ad y, .inl (gcy G 0, n2, .inl (jI μ y))) := by
        rw [jwld_at hq1, jce_arr hr2.1 hn2]
        rfl
      have hEe : jce G ad (jsR μ y (va_cpy (jI μ x) (jI μ y) sp.toNatClampNeg dp.toNatClampNeg nn.toNatClampNeg)) y = .inl (gcy G 0, n2, .inl (va_cpy (jI μ x) (jI μ y) sp.toNatClampNeg dp.toNatClampNeg nn.toNatClampNeg)) := by
        rw [jce_arr hr2.1 hn2]
        show Sum.inl (gcy G 0, n2, Sum.inl (jrow (jI μ) y _ y)) = _
        rw [jrow_self]
      have hlt := jStk_tail (jStk_tail (jStk_tail (jStk_tail (jStk_tail g6))))
      exact va_copyi hx hb (by rw [hml, g5.2.1]) hown (hts _ (jwin _ hw rfl)) (hts _ (jlib_in _ (by simp [jlibw]))) (hts _ (jlib_in _ (by simp [jlibw]))) (hts _ (jlib_in _ (by simp [jlibw]))) (jFB_K hFB) g3.1 g3.2.1 g4 q0 q1 0 0 hcx hcy rfl rfl rfl c5 c6 c7 c8 c9 (fun _ _ => rfl) hRm.2 (by rw [jcat_map (jsio hFB)]; show _ + (7 + 11) ≤ _; omega) hd fun H1 locs1 hP hD hS => jwr_go k g3 hq1 (jsame_R _ _ _) (fun z b' hb' => jQ_in g3 hyo hr2.2 z b' hb') hEe g1 g2 g5 hlt g7 g8 hP hD hS
    · cases hs
  | false =>
    rw [h2] at hs hE
    simp only [cond_false] at hs hE
    cases h4 : Nat.beq a 1003 with
    | true =>
      rw [h4] at hs hE
      simp only [cond_true] at hs hE
      obtain ⟨h1, h3⟩ := jand hE
      have h1 : len = 3 := jbeq h1
      subst h1
      have hw := jml_lib h3 (Or.inr (Or.inr rfl))
      exact jmm_go C0 hs hRm.1 hR (fun x y rest lsA H locs cells slots r1 r2 r3 r4 kk => va_mmin hx hb r1 hown (hts _ (jwin _ hw rfl)) (hts _ (jlib_in _ (by simp [jlibw]))) (hts _ (jlib_in _ (by simp [jlibw]))) (hts _ (jlib_in _ (by simp [jlibw]))) hRm.2 r2 r3 r4 hd kk) k
    | false =>
      rw [h4] at hs hE
      simp only [cond_false] at hs hE
      cases h5 : Nat.beq a 1004 with
      | true =>
        rw [h5] at hs hE
        simp only [cond_true] at hs hE
        obtain ⟨h1, h3⟩ := jand hE
        have h1 : len = 3 := jbeq h1
        subst h1
        have hw := jml_lib h3 (Or.inr (Or.inr rfl))
        exact jmm_go C0 hs hRm.1 hR (fun x y rest lsA H locs cells slots r1 r2 r3 r4 kk => va_mmax hx hb r1 hown (hts _ (jwin _ hw rfl)) (hts _ (jlib_in _ (by simp [jlibw]))) (hts _ (jlib_in _ (by simp [jlibw]))) (hts _ (jlib_in _ (by simp [jlibw]))) hRm.2 r2 r3 r4 hd kk) k
      | false =>
        rw [h5] at hs
        simp only [cond_false] at hs
        unfold jcall at hs
        obtain ⟨-, hs⟩ := jbif hs
        cases hs
theorem snd_objinit (C : jCtx G i p l s m args meth c) {n len a b : Nat} {v : Int32} {sw : List (Int32 × Nat)} {pc pc' : Nat} {ls ls' : List (Option Value)} {st st' : List Value} {μ μ' : jM} (hE : jchk i pc (.invokespecial n, len, a, b, v, sw) = true) (hs : jstep (.invokespecial n, len, a, b, v, sw) pc ls st μ = some (.inl (pc', ls', st', μ'))) (hRm : 60 ≤ R.locals ∧ 1 ≤ R.frames)
    (k : jGo G i p l e R s m args below meth c Q k0 s0 μ0 ad0 pc' ls' st' μ') : jGo G i p l e R s m args below meth c Q k0 s0 μ0 ad0 pc ls st μ := by
  obtain ⟨hx, hb, hml, hown, hts, hlk, hFB, hret, hmn, hst, hgb⟩ := C
  have hd := jchk_dec hE
  unfold jchk at hE
  replace hE := (jand hE).2
  replace hE : (bif Nat.beq a 1001 then Nat.beq len 3 && jml i pc n ⟨"java/lang/Object", "<init>", "()V"⟩ else jinv i pc n (.invokespecial n, len, a, b, v, sw) false true) = true := hE
  simp only [jstep] at hs
  cases h2 : Nat.beq a 1001 with
  | true =>
    rw [h2] at hs hE
    simp only [cond_true] at hs hE
    obtain ⟨h1, h3⟩ := jand hE
    have h1 : len = 3 := jbeq h1
    subst h1
    have hw := jml_lib h3 (Or.inl rfl)
    split at hs
    · next x r =>
      obtain ⟨h0, hs⟩ := jbif hs
      obtain ⟨rfl, rfl, rfl, rfl⟩ := jN_inv hs
      have h0 := Nat.le_of_ble_eq_true h0
      intro ad H locs cells slots lsA g1 g2 g3 g4 g5 g6 g7 g8
      exact W.objInit hx hb hown (hts _ (jwin _ hw rfl)) (hts _ (jlib_in _ (by simp [jlibw]))) (hts _ (jlib_in _ (by simp [jlibw]))) (g := F0 m pc lsA ((Value.ref x :: r).map (jpv G ad))) rfl (by rw [hml]; exact g5.2.1) rfl hd hRm.2 (by rw [jcat_map (jsio hFB)]; show 2 * 0 + _ + 12 ≤ _; omega) (k ad H locs cells slots lsA g1 g2 g3 g4 g5 (jStk_tail g6) g7 g8)
    · cases hs
  | false =>
    rw [h2] at hs
    simp only [cond_false] at hs
    unfold jcall at hs
    obtain ⟨-, hs⟩ := jbif hs
    cases hs
end SNO
