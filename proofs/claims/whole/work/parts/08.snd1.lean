/-! SOUNDNESS, the first part: instructions that touch locals and stack alone. -/
def jW : List Jvm.Cond := lw_tbl.filter goodWord
theorem jcl_in : ∀ (ci : Nat) (q : vw_C), jCl[ci]? = some q → ∀ w ∈ u_ws q.1 q.2.1 q.2.2, w ∈ jW := by
  intro ci q h
  rcases Nat.lt_or_ge ci 13 with hc | hc
  · have hall : ∀ q ∈ jCl, ∀ w ∈ u_ws q.1 q.2.1 q.2.2, w ∈ jW := by
      have h1 : jCl.all (fun q => (u_ws q.1 q.2.1 q.2.2).all fun w => decide (w ∈ tables_1) && goodWord w) = true := by decide +kernel
      intro q hq w hw
      have h2 := List.all_eq_true.mp (List.all_eq_true.mp h1 q hq) w hw
      simp only [Bool.and_eq_true, decide_eq_true_eq] at h2
      exact List.mem_filter.mpr ⟨List.mem_append_right _ h2.1, h2.2⟩
    exact hall q (List.mem_of_getElem? h)
  · rw [jCl_none hc] at h; cases h
/-- what stands fast while a method runs -/
def jCtx (G : jG) (i : Nat) (p : Program) (l : Launch) (s : State) (m : MethodId) (args : Array Value) (meth : Method) (c : Code) : Prop :=
  p.tables.exec = Jvm.exec ∧ c.code = jB i ∧ c.maxLocals = jmL i ∧ s.vm.findClass (jY i).cls = some m.cls ∧ (∀ w ∈ jW, w.before args s = true) ∧ meth.locks = false ∧ jFB G s s.heap ∧ meth.sig.returnType = jRt i ∧ meth.name = (jY i).name ∧ l.stackTraces = false ∧ gbs G ≤ s.heap.size
section SND
variable {p : Program} {l : Launch} {e : Env} {R : Room} {s : State} {m : MethodId} {args : Array Value} {below : List Frame} {meth : Method} {c : Code} {Q : State → Prop}
variable {G : jG} {i : Nat} {k0 s0 : Nat} {μ0 : jM} {ad0 : Nat → Nat}
/-- from every heap that holds this memory, these locals, this stack, the machine comes to Q -/
def jGo (G : jG) (i : Nat) (p : Program) (l : Launch) (e : Env) (R : Room) (s : State) (m : MethodId) (args : Array Value) (below : List Frame) (meth : Method) (c : Code) (Q : State → Prop) (k0 s0 : Nat) (μ0 : jM) (ad0 : Nat → Nat) (pc : Nat) (ls : List (Option Value)) (st : List Value) (μ : jM) : Prop :=
  ∀ (ad : Nat → Nat) (H : Heap) (locs : List Loc) (cells slots : Nat) (lsA : Array Slot), jxt μ0 ad0 ad → (∀ x, jok μ0 x → jok μ x) → jMem G ad μ H → va_S (gA G) s.heap H locs → jLoc G ad μ lsA (jmL i) ls → jStk μ st → cells + k0 = jnc μ → slots + s0 = jns μ →
    W p l e R s m args below meth c H locs cells slots Q (F0 m pc lsA (st.map (jpv G ad)))
theorem jload_inv {E : jE} {pc : Nat} {ls : List (Option Value)} {st : List Value} {μ : jM} {ok : Value → Bool} {r : jT} (h : jload E pc ls st μ ok = some r) : ∃ v, ls[E.2.2.1]? = some (some v) ∧ ok v = true ∧ r = .inl (pc + E.2.1, ls, v :: st, μ) := by
  unfold jload at h
  rcases hl : ls[E.2.2.1]? with _ | _ | v
  · rw [hl] at h; cases h
  · rw [hl] at h; cases h
  · rw [hl] at h
    simp only at h
    cases ho : ok v with
    | false => rw [ho] at h; cases h
    | true => rw [ho] at h; cases h; exact ⟨v, rfl, ho, rfl⟩
theorem jop2_inv {E : jE} {pc : Nat} {ls : List (Option Value)} {st : List Value} {μ : jM} {f : Int32 → Int32 → Int32} {r : jT} (h : jop2 E pc ls st μ f = some r) : ∃ x y r', st = .int y :: .int x :: r' ∧ r = .inl (pc + E.2.1, ls, .int (f x y) :: r', μ) := by
  unfold jop2 at h
  split at h
  · cases h; exact ⟨_, _, _, rfl, rfl⟩
  · cases h
theorem jopL_inv {E : jE} {pc : Nat} {ls : List (Option Value)} {st : List Value} {μ : jM} {f : Int64 → Int64 → Value} {r : jT} (h : jopL E pc ls st μ f = some r) : ∃ x y r', st = .long y :: .long x :: r' ∧ r = .inl (pc + E.2.1, ls, f x y :: r', μ) := by
  unfold jopL at h
  split at h
  · cases h; exact ⟨_, _, _, rfl, rfl⟩
  · cases h
theorem jop1_inv {E : jE} {pc : Nat} {ls : List (Option Value)} {st : List Value} {μ : jM} {f : Int32 → Value} {r : jT} (h : jop1 E pc ls st μ f = some r) : ∃ x r', st = .int x :: r' ∧ r = .inl (pc + E.2.1, ls, f x :: r', μ) := by
  unfold jop1 at h
  split at h
  · cases h; exact ⟨_, _, rfl, rfl⟩
  · cases h
theorem jN_inv {pc : Nat} {ls : List (Option Value)} {st : List Value} {μ : jM} {pc' : Nat} {ls' : List (Option Value)} {st' : List Value} {μ' : jM} (h : jN pc ls st μ = some (.inl (pc', ls', st', μ'))) : pc = pc' ∧ ls = ls' ∧ st = st' ∧ μ = μ' := by
  unfold jN at h
  cases h
  exact ⟨rfl, rfl, rfl, rfl⟩
theorem jB_len {E : jE} {i pc n : Nat} (h : Nat.beq E.2.1 n = true) (hd : decode (jB i) pc = .ok (E.1, E.2.1)) : decode (jB i) pc = .ok (E.1, n) := by
  rw [hd, Nat.eq_of_beq_eq_true h]
/-- a row that pushes a value without address -/
theorem jpush_go {E : jE} {n pc pc' : Nat} {ls ls' : List (Option Value)} {st st' : List Value} {μ μ' : jM} {v : Value} (hs : jpush E pc ls st μ v = some (.inl (pc', ls', st', μ'))) (hl : Nat.beq E.2.1 n = true) (hv : jvok μ v)
    (k : jGo G i p l e R s m args below meth c Q k0 s0 μ0 ad0 pc' ls' st' μ')
    (row : ∀ (ad : Nat → Nat) (H : Heap) (locs : List Loc) (cells slots : Nat) (lsA : Array Slot), W p l e R s m args below meth c H locs cells slots Q (F0 m (pc + n) lsA (jpv G ad v :: st.map (jpv G ad))) → W p l e R s m args below meth c H locs cells slots Q (F0 m pc lsA (st.map (jpv G ad)))) :
    jGo G i p l e R s m args below meth c Q k0 s0 μ0 ad0 pc ls st μ := by
  obtain ⟨rfl, rfl, rfl, rfl⟩ := jN_inv hs
  rw [Nat.eq_of_beq_eq_true hl] at k
  intro ad H locs cells slots lsA h1 h2 h3 h4 h5 h6 h7 h8
  exact row ad H locs cells slots lsA (k ad H locs cells slots lsA h1 h2 h3 h4 h5 (jStk_cons hv h6) h7 h8)
theorem jload_go {E : jE} {n pc pc' : Nat} {ls ls' : List (Option Value)} {st st' : List Value} {μ μ' : jM} {ok : Value → Bool} (hs : jload E pc ls st μ ok = some (.inl (pc', ls', st', μ'))) (hl : Nat.beq E.2.1 n = true)
    (k : jGo G i p l e R s m args below meth c Q k0 s0 μ0 ad0 pc' ls' st' μ')
    (row : ∀ (v : Value), ok v = true → ∀ (ad : Nat → Nat) (H : Heap) (locs : List Loc) (cells slots : Nat) (lsA : Array Slot), lsA[E.2.2.1]? = some (.val (jpv G ad v)) → W p l e R s m args below meth c H locs cells slots Q (F0 m (pc + n) lsA (jpv G ad v :: st.map (jpv G ad))) → W p l e R s m args below meth c H locs cells slots Q (F0 m pc lsA (st.map (jpv G ad)))) :
    jGo G i p l e R s m args below meth c Q k0 s0 μ0 ad0 pc ls st μ := by
  obtain ⟨v, hv, ho, hr⟩ := jload_inv hs
  cases hr
  rw [Nat.eq_of_beq_eq_true hl] at k
  intro ad H locs cells slots lsA h1 h2 h3 h4 h5 h6 h7 h8
  obtain ⟨g1, g2⟩ := h5.2.2.2 _ _ hv
  exact row v ho ad H locs cells slots lsA g1 (k ad H locs cells slots lsA h1 h2 h3 h4 h5 (jStk_cons g2 h6) h7 h8)
theorem jop2_go {E : jE} {n pc pc' : Nat} {ls ls' : List (Option Value)} {st st' : List Value} {μ μ' : jM} {f : Int32 → Int32 → Int32} (hs : jop2 E pc ls st μ f = some (.inl (pc', ls', st', μ'))) (hl : Nat.beq E.2.1 n = true)
    (k : jGo G i p l e R s m args below meth c Q k0 s0 μ0 ad0 pc' ls' st' μ')
    (row : ∀ (x y : Int32) (r : List Value) (H : Heap) (locs : List Loc) (cells slots : Nat) (lsA : Array Slot), W p l e R s m args below meth c H locs cells slots Q (F0 m (pc + n) lsA (.int (f x y) :: r)) → W p l e R s m args below meth c H locs cells slots Q (F0 m pc lsA (.int y :: .int x :: r))) :
    jGo G i p l e R s m args below meth c Q k0 s0 μ0 ad0 pc ls st μ := by
  obtain ⟨x, y, r, rfl, hr⟩ := jop2_inv hs
  cases hr
  rw [Nat.eq_of_beq_eq_true hl] at k
  intro ad H locs cells slots lsA h1 h2 h3 h4 h5 h6 h7 h8
  exact row x y _ H locs cells slots lsA (k ad H locs cells slots lsA h1 h2 h3 h4 h5 (jStk_cons trivial (jStk_tail (jStk_tail h6))) h7 h8)
theorem jopL_go {E : jE} {n pc pc' : Nat} {ls ls' : List (Option Value)} {st st' : List Value} {μ μ' : jM} {f : Int64 → Int64 → Value} (hs : jopL E pc ls st μ f = some (.inl (pc', ls', st', μ'))) (hl : Nat.beq E.2.1 n = true) (hf : ∀ x y, jvok μ (f x y) ∧ ∀ ad, jpv G ad (f x y) = f x y)
    (k : jGo G i p l e R s m args below meth c Q k0 s0 μ0 ad0 pc' ls' st' μ')
    (row : ∀ (x y : Int64) (r : List Value) (H : Heap) (locs : List Loc) (cells slots : Nat) (lsA : Array Slot), W p l e R s m args below meth c H locs cells slots Q (F0 m (pc + n) lsA (f x y :: r)) → W p l e R s m args below meth c H locs cells slots Q (F0 m pc lsA (.long y :: .long x :: r))) :
    jGo G i p l e R s m args below meth c Q k0 s0 μ0 ad0 pc ls st μ := by
  obtain ⟨x, y, r, rfl, hr⟩ := jopL_inv hs
  cases hr
  rw [Nat.eq_of_beq_eq_true hl] at k
  intro ad H locs cells slots lsA h1 h2 h3 h4 h5 h6 h7 h8
  have h := k ad H locs cells slots lsA h1 h2 h3 h4 h5 (jStk_cons (hf x y).1 (jStk_tail (jStk_tail h6))) h7 h8
  rw [List.map_cons, (hf x y).2 ad] at h
  exact row x y _ H locs cells slots lsA h
theorem jop1_go {E : jE} {n pc pc' : Nat} {ls ls' : List (Option Value)} {st st' : List Value} {μ μ' : jM} {f : Int32 → Value} (hs : jop1 E pc ls st μ f = some (.inl (pc', ls', st', μ'))) (hl : Nat.beq E.2.1 n = true) (hf : ∀ x, jvok μ (f x) ∧ ∀ ad, jpv G ad (f x) = f x)
    (k : jGo G i p l e R s m args below meth c Q k0 s0 μ0 ad0 pc' ls' st' μ')
    (row : ∀ (x : Int32) (r : List Value) (H : Heap) (locs : List Loc) (cells slots : Nat) (lsA : Array Slot), W p l e R s m args below meth c H locs cells slots Q (F0 m (pc + n) lsA (f x :: r)) → W p l e R s m args below meth c H locs cells slots Q (F0 m pc lsA (.int x :: r))) :
    jGo G i p l e R s m args below meth c Q k0 s0 μ0 ad0 pc ls st μ := by
  obtain ⟨x, r, rfl, hr⟩ := jop1_inv hs
  cases hr
  rw [Nat.eq_of_beq_eq_true hl] at k
  intro ad H locs cells slots lsA h1 h2 h3 h4 h5 h6 h7 h8
  have h := k ad H locs cells slots lsA h1 h2 h3 h4 h5 (jStk_cons (hf x).1 (jStk_tail h6)) h7 h8
  rw [List.map_cons, (hf x).2 ad] at h
  exact row x _ H locs cells slots lsA h
end SND
