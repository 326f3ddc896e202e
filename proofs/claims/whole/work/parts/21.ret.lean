/-! CALLS, the second part: what a contract says; returns; throws. -/
def jQc (G : jG) (ad : Nat → Nat) (μ μ' : jM) (o : jO) : Array Value → State → Outcome → State → Prop := fun _ st oc t =>
  ∃ (v : Option Value) (ad' : Nat → Nat), o = .inl v ∧ oc = .returned (v.map (jpv G ad')) ∧ jxt μ ad ad' ∧ (∀ w, v = some w → jvok μ' w) ∧ jMem G ad' μ' t.heap ∧ va_F (gA G) st t
def jXC (G : jG) (ad : Nat → Nat) (μ μ' : jM) (o : jO) : String → State → State → Prop := fun E st t =>
  ∃ (c : Nat) (ad' : Nat → Nat), o = .inr c ∧ c < 3 ∧ E = jexn c ∧ jxt μ ad ad' ∧ jMem G ad' μ' t.heap ∧ va_F (gA G) st t
/-- what a method's body comes to -/
abbrev jEnd (G : jG) (ad : Nat → Nat) (μ μ' : jM) (o : jO) (args : Array Value) (below : List Frame) (s : State) : State → Prop :=
  vx_MQ below (jQc G ad μ μ' o) (jXC G ad μ μ' o) args s (jnc μ' - jnc μ) (jns μ' - jns μ) (gA G)
/-- the instructions that end a run -/
theorem jri {ins : Instr} {len a b : Nat} {w : Int32} {sw : List (Int32 × Nat)} {pc : Nat} {ls : List (Option Value)} {st : List Value} {μ μ' : jM} {o : jO} (h : jstep (ins, len, a, b, w, sw) pc ls st μ = some (.inr (.inl (o, μ')))) :
    (ins = .ireturn ∧ ∃ v, st = [.int v] ∧ jrok a v = true ∧ o = .inl (some (.int v)) ∧ μ' = μ) ∨ (ins = .lreturn ∧ ∃ v, st = [.long v] ∧ o = .inl (some (.long v)) ∧ μ' = μ) ∨ (ins = .dreturn ∧ ∃ v, st = [.double v] ∧ o = .inl (some (.double v)) ∧ μ' = μ) ∨
      (ins = .areturn ∧ ∃ v, st = [.ref v] ∧ o = .inl (some (.ref v)) ∧ μ' = μ) ∨ (ins = .return_ ∧ st = [] ∧ o = .inl none ∧ μ' = μ) ∨ (∃ n, ins = .new n ∧ Nat.ble 1000 a = true ∧ jcat st ≤ 8 ∧ o = .inr (a - 1000) ∧ μ' = jthr μ) := by
  rcases jstep_inv h with ⟨_, _, _, _, e, -⟩ | ⟨o', e, hx⟩ | ⟨n, rfl, h1, h2, e⟩ | ⟨q, e, -⟩
  · cases e
  · cases e
    rcases hx with ⟨rfl, v, rfl, hr, rfl⟩ | ⟨rfl, v, rfl, rfl⟩ | ⟨rfl, v, rfl, rfl⟩ | ⟨rfl, v, rfl, rfl⟩ | ⟨rfl, rfl, rfl⟩
    · exact Or.inl ⟨rfl, _, rfl, hr, rfl, rfl⟩
    · exact Or.inr (Or.inl ⟨rfl, _, rfl, rfl, rfl⟩)
    · exact Or.inr (Or.inr (Or.inl ⟨rfl, _, rfl, rfl, rfl⟩))
    · exact Or.inr (Or.inr (Or.inr (Or.inl ⟨rfl, _, rfl, rfl, rfl⟩)))
    · exact Or.inr (Or.inr (Or.inr (Or.inr (Or.inl ⟨rfl, rfl, rfl, rfl⟩))))
  · cases e
    exact Or.inr (Or.inr (Or.inr (Or.inr (Or.inr ⟨n, rfl, h1, h2, rfl, rfl⟩))))
  · cases e
theorem jrok_spec {t : Nat} {v : Int32} (ht : t < 4) (h : jrok t v = true) : narrow (bif Nat.beq t 0 then FieldType.int else bif Nat.beq t 1 then .boolean else bif Nat.beq t 2 then .byte else .char) (.int v) = .int v := by
  unfold jrok at h
  have h4 : t = 0 ∨ t = 1 ∨ t = 2 ∨ t = 3 := by omega
  rcases h4 with rfl | rfl | rfl | rfl
  · rfl
  · simp only [Nat.beq, cond_false, cond_true, Bool.or_eq_true, decide_eq_true_eq] at h
    rcases h with rfl | rfl <;> decide
  · simp only [Nat.beq, cond_false, cond_true, decide_eq_true_eq] at h
    show Value.int _ = _
    rw [h]
  · simp only [Nat.beq, cond_false, decide_eq_true_eq] at h
    show Value.int v.toUInt32.toUInt16.toUInt32.toInt32 = _
    rw [UInt32.toUInt32_toUInt16, h]
section SNR
variable {p : Program} {l : Launch} {e : Env} {R : Room} {s : State} {m : MethodId} {args : Array Value} {below : List Frame} {meth : Method} {c : Code}
variable {G : jG} {i : Nat} {μ0 : jM} {ad0 : Nat → Nat}
set_option maxHeartbeats 4000000 in
theorem snd_ret (C : jCtx G i p l s m args meth c) {ins : Instr} {len a b : Nat} {w : Int32} {sw : List (Int32 × Nat)} {pc : Nat} {ls : List (Option Value)} {st : List Value} {μ μ' : jM} {v : Option Value} (hE : jchk i pc (ins, len, a, b, w, sw) = true) (hs : jstep (ins, len, a, b, w, sw) pc ls st μ = some (.inr (.inl (.inl v, μ')))) :
    jGo G i p l e R s m args below meth c (jEnd G ad0 μ0 μ' (.inl v) args below s) (jnc μ0) (jns μ0) μ0 ad0 pc ls st μ := by
  obtain ⟨hx, hb, hml, hown, hts, hlk, hFB, hret, -⟩ := C
  have hd := jchk_dec hE
  unfold jchk at hE
  replace hE := (jand hE).2
  rcases jri hs with ⟨rfl, u, rfl, hu, e1, rfl⟩ | ⟨rfl, u, rfl, e1, rfl⟩ | ⟨rfl, u, rfl, e1, rfl⟩ | ⟨rfl, u, rfl, e1, rfl⟩ | ⟨rfl, rfl, e1, rfl⟩ | ⟨n, -, -, -, e1, -⟩
  · cases e1
    obtain ⟨h1, h2⟩ := jand hE
    obtain ⟨h1, h3⟩ := jand h1
    have h3 := of_decide_eq_true h3
    intro ad H locs cells slots lsA g1 g2 g3 g4 g5 g6 g7 g8
    have e2 : cells = jnc μ' - jnc μ0 := by omega
    have e3 : slots = jns μ' - jns μ0 := by omega
    subst e2
    subst e3
    exact vx_ret (W.zret hx hb (hret.trans h3) (jrok_spec (Nat.le_of_ble_eq_true h2) hu) (fun t ht hW => ⟨_, ad, rfl, rfl, g1, fun z hz => by cases hz; trivial, by rw [ht]; exact g3, g4.F ht⟩) g4.2.2 (jB_len h1 hd))
  · cases e1
    obtain ⟨h1, h3⟩ := jand hE
    have h3 := of_decide_eq_true h3
    intro ad H locs cells slots lsA g1 g2 g3 g4 g5 g6 g7 g8
    have e2 : cells = jnc μ' - jnc μ0 := by omega
    have e3 : slots = jns μ' - jns μ0 := by omega
    subst e2
    subst e3
    exact vx_ret (W.lret hx hb (hret.trans h3) (fun t ht hW => ⟨_, ad, rfl, rfl, g1, fun z hz => by cases hz; trivial, by rw [ht]; exact g3, g4.F ht⟩) g4.2.2 (jB_len h1 hd))
  · cases e1
    obtain ⟨h1, h3⟩ := jand hE
    have h3 := of_decide_eq_true h3
    intro ad H locs cells slots lsA g1 g2 g3 g4 g5 g6 g7 g8
    have e2 : cells = jnc μ' - jnc μ0 := by omega
    have e3 : slots = jns μ' - jns μ0 := by omega
    subst e2
    subst e3
    exact vx_ret (W.dret hx hb (hret.trans h3) (fun t ht hW => ⟨_, ad, rfl, rfl, g1, fun z hz => by cases hz; trivial, by rw [ht]; exact g3, g4.F ht⟩) g4.2.2 (jB_len h1 hd))
  · cases e1
    obtain ⟨h1, h3⟩ := jand hE
    obtain ⟨rt, hrt, hrt2⟩ : ∃ rt, jRt i = some rt ∧ ((∃ n, rt = .object n) ∨ ∃ t, rt = .array t) := by
      unfold jrtr at h3
      split at h3
      · next x hx => exact ⟨_, hx, Or.inl ⟨_, rfl⟩⟩
      · next x hx => exact ⟨_, hx, Or.inr ⟨_, rfl⟩⟩
      · cases h3
    intro ad H locs cells slots lsA g1 g2 g3 g4 g5 g6 g7 g8
    have e2 : cells = jnc μ' - jnc μ0 := by omega
    have e3 : slots = jns μ' - jns μ0 := by omega
    subst e2
    subst e3
    exact vx_ret (W.aret hx hb (hret.trans hrt) hrt2 (Or.inr ⟨ad u, rfl⟩) (fun t ht hW => ⟨_, ad, rfl, rfl, g1, fun z hz => by cases hz; exact jStk_head g6, by rw [ht]; exact g3, g4.F ht⟩) g4.2.2 (jB_len h1 hd))
  · cases e1
    obtain ⟨h1, h3⟩ := jand hE
    have h3 := of_decide_eq_true h3
    intro ad H locs cells slots lsA g1 g2 g3 g4 g5 g6 g7 g8
    have e2 : cells = jnc μ' - jnc μ0 := by omega
    have e3 : slots = jns μ' - jns μ0 := by omega
    subst e2
    subst e3
    exact vx_ret (W.vret hx hb (hret.trans h3) (fun t ht hW => ⟨_, ad, rfl, rfl, g1, fun z hz => (by cases hz), by rw [ht]; exact g3, g4.F ht⟩) g4.2.2 (jB_len h1 hd))
  · cases e1
end SNR
