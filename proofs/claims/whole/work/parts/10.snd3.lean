/-! SOUNDNESS, the third part: all instructions of stack and locals. -/
theorem jswl_spec {pc : Nat} {x : Int32} {d : Nat} {dd : Int} (hd : (pc : Int) + dd = (d : Int)) : ∀ (sw : List (Int32 × Nat)) (ps : List (Int × Int)), jswl pc sw ps = true → (pc : Int) + Op.lookupswitch.offset ps dd x.toInt = (jsw sw d x : Int)
  | [], [], h => hd
  | (v, u) :: r, (a, o) :: q, h => by
    simp only [jswl, Bool.and_eq_true, decide_eq_true_eq] at h
    obtain ⟨e1, e2, e3⟩ := h
    rw [Op.lookupswitch.offset_cons]
    unfold jsw
    by_cases hx : x = v
    · rw [if_pos hx, if_pos (by rw [hx]; exact e1.symm)]
      exact e2
    · rw [if_neg hx, if_neg (fun z => hx (Int32.toInt_inj.mp (by rw [e1]; exact z.symm)))]
      exact jswl_spec hd r q e3
  | [], _ :: _, h => by simp [jswl] at h
  | _ :: _, [], h => by simp [jswl] at h
/-- an instruction of stack and locals alone -/
def jplain : Instr → Bool
  | .iconst _ | .bipush _ | .sipush _ | .lconst _ | .dconst _ | .iload_n _ | .iload _ | .lload_n _ | .lload _ | .dload_n _ | .dload _ | .aload_n _ | .aload _ | .istore_n _ | .istore _ | .lstore_n _ | .lstore _ | .dstore_n _ | .dstore _ | .astore_n _ | .astore _ | .iinc _ _ => true
  | .iadd | .isub | .imul | .iand | .ior | .ixor | .ishl | .ishr | .iushr | .idiv | .irem | .ineg | .i2l | .i2b | .i2c | .i2d | .ladd | .lmul | .lcmp | .ddiv | .dcmp _ | .dup | .pop | .dup_x1 | .dup2 | .ifCond _ _ | .if_icmp _ _ | .goto _ | .tableswitch _ _ _ _ | .lookupswitch _ _ => true
  | _ => false
section SNE
variable {p : Program} {l : Launch} {e : Env} {R : Room} {s : State} {m : MethodId} {args : Array Value} {below : List Frame} {meth : Method} {c : Code} {Q : State → Prop}
variable {G : jG} {i : Nat} {k0 s0 : Nat} {μ0 : jM} {ad0 : Nat → Nat}
theorem jchk_dec {pc : Nat} {E : jE} (h : jchk i pc E = true) : decode (jB i) pc = .ok (E.1, E.2.1) := by
  unfold jchk at h
  rw [Bool.and_eq_true] at h
  exact of_decide_eq_true h.1
theorem jbeq {a b : Nat} (h : Nat.beq a b = true) : a = b := Nat.eq_of_beq_eq_true h
theorem jand {a b : Bool} (h : (a && b) = true) : a = true ∧ b = true := by rwa [Bool.and_eq_true] at h
theorem jbif {α : Type} {b : Bool} {x : Option α} {y : α} (h : (bif b then x else none) = some y) : b = true ∧ x = some y := by
  cases b
  · cases h
  · exact ⟨rfl, h⟩
theorem jbifn {α : Type} {b : Bool} {x : Option α} {y : α} (h : (bif b then none else x) = some y) : b = false ∧ x = some y := by
  cases b
  · exact ⟨rfl, h⟩
  · cases h
theorem jst_go {E : jE} {n pc pc' : Nat} {ls ls' : List (Option Value)} {st' r : List Value} {μ μ' : jM} {v : Value} (hsio : (gsio G).isRef = true) (hml : c.maxLocals = jmL i)
    (hs : (bif Nat.blt E.2.2.1 ls.length then jN (pc + E.2.1) (jst ls E.2.2.1 v) r μ else none) = some (.inl (pc', ls', st', μ'))) (hl : Nat.beq E.2.1 n = true)
    (k : jGo G i p l e R s m args below meth c Q k0 s0 μ0 ad0 pc' ls' st' μ')
    (row : ∀ (ad : Nat → Nat) (H : Heap) (locs : List Loc) (cells slots : Nat) (lsA : Array Slot) (rest : List Value) (lv : List (Nat × Value)), E.2.2.1 < jmL i → lv_has lsA (jmL i) lv → (∀ lsB : Array Slot, lv_has lsB (jmL i) ((E.2.2.1, jpv G ad v) :: lv.filter (fun q => !(q.1 == E.2.2.1) && !(q.1 + 1 == E.2.2.1 && q.2.category == 2))) → W p l e R s m args below meth c H locs cells slots Q (F0 m (pc + n) lsB rest)) → W p l e R s m args below meth c H locs cells slots Q (F0 m pc lsA (jpv G ad v :: rest))) :
    jGo G i p l e R s m args below meth c Q k0 s0 μ0 ad0 pc ls (v :: r) μ := by
  obtain ⟨h0, hs⟩ := jbif hs
  obtain ⟨rfl, rfl, rfl, rfl⟩ := jN_inv hs
  rw [jbeq hl] at k
  intro ad H locs cells slots lsA h1 h2 h3 h4 h5 h6 h7 h8
  have ha : E.2.2.1 < jmL i := by
    have := Nat.le_of_ble_eq_true h0
    rw [h5.1] at this
    omega
  exact row ad H locs cells slots lsA _ _ ha (jLoc_has h5) fun lsB hB => k ad H locs cells slots lsB h1 h2 h3 h4 (jLoc_st1 hsio h5 (jStk_head h6) ha hB) (jStk_tail h6) h7 h8
theorem jst2_go {E : jE} {n pc pc' : Nat} {ls ls' : List (Option Value)} {st' r : List Value} {μ μ' : jM} {v : Value} (hsio : (gsio G).isRef = true) (hml : c.maxLocals = jmL i)
    (hs : (bif Nat.blt (E.2.2.1 + 1) ls.length then jN (pc + E.2.1) (jst2 ls E.2.2.1 v) r μ else none) = some (.inl (pc', ls', st', μ'))) (hl : Nat.beq E.2.1 n = true)
    (k : jGo G i p l e R s m args below meth c Q k0 s0 μ0 ad0 pc' ls' st' μ')
    (row : ∀ (ad : Nat → Nat) (H : Heap) (locs : List Loc) (cells slots : Nat) (lsA : Array Slot) (rest : List Value) (lv : List (Nat × Value)), E.2.2.1 + 1 < jmL i → lv_has lsA (jmL i) lv → (∀ lsB : Array Slot, lv_has lsB (jmL i) ((E.2.2.1, jpv G ad v) :: lv.filter (fun q => !(q.1 == E.2.2.1) && (!(q.1 == E.2.2.1 + 1) && !(q.1 + 1 == E.2.2.1 && q.2.category == 2)))) → W p l e R s m args below meth c H locs cells slots Q (F0 m (pc + n) lsB rest)) → W p l e R s m args below meth c H locs cells slots Q (F0 m pc lsA (jpv G ad v :: rest))) :
    jGo G i p l e R s m args below meth c Q k0 s0 μ0 ad0 pc ls (v :: r) μ := by
  obtain ⟨h0, hs⟩ := jbif hs
  obtain ⟨rfl, rfl, rfl, rfl⟩ := jN_inv hs
  rw [jbeq hl] at k
  intro ad H locs cells slots lsA h1 h2 h3 h4 h5 h6 h7 h8
  have ha : E.2.2.1 + 1 < jmL i := by
    have := Nat.le_of_ble_eq_true h0
    rw [h5.1] at this
    omega
  exact row ad H locs cells slots lsA _ _ ha (jLoc_has h5) fun lsB hB => k ad H locs cells slots lsB h1 h2 h3 h4 (jLoc_st2 hsio h5 (jStk_head h6) ha hB) (jStk_tail h6) h7 h8
/-- a jump whose target is known at each side of a condition -/
theorem jbr_go {pc pc' t f : Nat} {b : Bool} {ls ls' : List (Option Value)} {st st' r : List Value} {μ μ' : jM}
    (hs : jN (bif b then t else f) ls r μ = some (.inl (pc', ls', st', μ'))) (hr : jStk μ st → jStk μ r)
    (k : jGo G i p l e R s m args below meth c Q k0 s0 μ0 ad0 pc' ls' st' μ')
    (row : ∀ (ad : Nat → Nat) (H : Heap) (locs : List Loc) (cells slots : Nat) (lsA : Array Slot), (b = true → W p l e R s m args below meth c H locs cells slots Q (F0 m t lsA (r.map (jpv G ad)))) → (b = false → W p l e R s m args below meth c H locs cells slots Q (F0 m f lsA (r.map (jpv G ad)))) → W p l e R s m args below meth c H locs cells slots Q (F0 m pc lsA (st.map (jpv G ad)))) :
    jGo G i p l e R s m args below meth c Q k0 s0 μ0 ad0 pc ls st μ := by
  obtain ⟨rfl, rfl, rfl, rfl⟩ := jN_inv hs
  intro ad H locs cells slots lsA h1 h2 h3 h4 h5 h6 h7 h8
  refine row ad H locs cells slots lsA (fun hb => ?_) (fun hb => ?_)
  · rw [hb] at k; exact k ad H locs cells slots lsA h1 h2 h3 h4 h5 (hr h6) h7 h8
  · rw [hb] at k; exact k ad H locs cells slots lsA h1 h2 h3 h4 h5 (hr h6) h7 h8
theorem jcnd_row {pc t : Nat} {o : Int} {cc : ByteArray} (hx : p.tables.exec = Jvm.exec) (hb : c.code = cc) {x y : Int32} {cd : ClassFile.Cond} (hd : decode cc pc = .ok (.if_icmp cd o, 3)) (ht : (pc : Int) + o = (t : Int)) {H : Heap} {locs : List Loc} {cells slots : Nat} {lsA : Array Slot} {rest : List Value}
    (kt : jcnd cd x y = true → W p l e R s m args below meth c H locs cells slots Q (F0 m t lsA rest)) (kf : jcnd cd x y = false → W p l e R s m args below meth c H locs cells slots Q (F0 m (pc + 3) lsA rest)) : W p l e R s m args below meth c H locs cells slots Q (F0 m pc lsA (.int y :: .int x :: rest)) := by
  cases cd
  · exact lv_icmp_eq hx hb hd ht (fun h => kt (decide_eq_true h)) (fun h => kf (decide_eq_false h))
  · exact lv_icmp_ne hx hb hd ht (fun h => kt (decide_eq_true h)) (fun h => kf (decide_eq_false (fun q => q h)))
  · exact lv_icmp_lt hx hb hd ht (fun h => kt (decide_eq_true h)) (fun h => kf (decide_eq_false h))
  · exact lv_icmp_ge hx hb hd ht (fun h => kt (decide_eq_true h)) (fun h => kf (decide_eq_false h))
  · exact lv_icmp_gt hx hb hd ht (fun h => kt (decide_eq_true h)) (fun h => kf (decide_eq_false h))
  · exact lv_icmp_le hx hb hd ht (fun h => kt (decide_eq_true h)) (fun h => kf (decide_eq_false h))
theorem jcnd0_row {pc t : Nat} {o : Int} {cc : ByteArray} (hx : p.tables.exec = Jvm.exec) (hb : c.code = cc) {x : Int32} {cd : ClassFile.Cond} (hd : decode cc pc = .ok (.ifCond cd o, 3)) (ht : (pc : Int) + o = (t : Int)) {H : Heap} {locs : List Loc} {cells slots : Nat} {lsA : Array Slot} {rest : List Value}
    (kt : jcnd cd x 0 = true → W p l e R s m args below meth c H locs cells slots Q (F0 m t lsA rest)) (kf : jcnd cd x 0 = false → W p l e R s m args below meth c H locs cells slots Q (F0 m (pc + 3) lsA rest)) : W p l e R s m args below meth c H locs cells slots Q (F0 m pc lsA (.int x :: rest)) := by
  cases cd
  · exact lv_if_eq hx hb hd ht (fun h => kt (decide_eq_true h)) (fun h => kf (decide_eq_false h))
  · exact lv_if_ne hx hb hd ht (fun h => kt (decide_eq_true h)) (fun h => kf (decide_eq_false (fun q => q h)))
  · exact lv_if_lt hx hb hd ht (fun h => kt (decide_eq_true h)) (fun h => kf (decide_eq_false h))
  · exact lv_if_ge hx hb hd ht (fun h => kt (decide_eq_true h)) (fun h => kf (decide_eq_false h))
  · exact lv_if_gt hx hb hd ht (fun h => kt (decide_eq_true h)) (fun h => kf (decide_eq_false h))
  · exact lv_if_le hx hb hd ht (fun h => kt (decide_eq_true h)) (fun h => kf (decide_eq_false h))
theorem jisI_inv {v : Value} (h : jisI v = true) : ∃ x, v = .int x := by cases v <;> first | exact ⟨_, rfl⟩ | cases h
theorem jisL_inv {v : Value} (h : jisL v = true) : ∃ x, v = .long x := by cases v <;> first | exact ⟨_, rfl⟩ | cases h
theorem jisD_inv {v : Value} (h : jisD v = true) : ∃ x, v = .double x := by cases v <;> first | exact ⟨_, rfl⟩ | cases h
theorem jisR_inv {v : Value} (h : jisR v = true) : ∃ x, v = .ref x := by cases v <;> first | exact ⟨_, rfl⟩ | cases h
end SNE
