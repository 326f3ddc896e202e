/-! THE PURE PART begins: runs as equivalences. -/
section EXQ
variable {d i pc pc' j : Nat} {ls ls' : List (Option Value)} {st st' : List Value} {μ μ' : jM} {Q : jO → jM → Prop} {E : jE}
theorem Exs (hc : jcode i pc = some E) (hs : jstep E pc ls st μ = some (.inl (pc', ls', st', μ'))) : Ex d i pc ls st μ Q ↔ Ex d i pc' ls' st' μ' Q := by
  refine ⟨fun h => ?_, Ex.step hc hs⟩
  obtain ⟨n, o, μ2, h1, h2⟩ := h
  cases n with
  | zero => cases h1
  | succ n =>
    rw [jev, hc] at h1
    simp only [hs] at h1
    exact ⟨n, o, μ2, h1, h2⟩
theorem Exd {o : jO} (hc : jcode i pc = some E) (hs : jstep E pc ls st μ = some (.inr (.inl (o, μ')))) : Ex d i pc ls st μ Q ↔ Q o μ' := by
  refine ⟨fun h => ?_, Ex.done hc hs⟩
  obtain ⟨n, o2, μ2, h1, h2⟩ := h
  cases n with
  | zero => cases h1
  | succ n =>
    rw [jev, hc] at h1
    simp only [hs] at h1
    cases h1
    exact h2
theorem Exc {as : List Value} (hc : jcode i pc = some E) (hs : jstep E pc ls st μ = some (.inr (.inr (j, as, pc', ls', st')))) : Ex (d + 1) i pc ls st μ Q ↔ Ex d j 0 (jent j as) [] μ (jK (d + 1) i pc pc' ls' st' Q) := by
  refine ⟨fun h => ?_, Ex.call hc hs⟩
  obtain ⟨n, o, μ2, h1, h2⟩ := h
  cases n with
  | zero => cases h1
  | succ n =>
    rw [jev, hc] at h1
    simp only [hs] at h1
    cases hv : jev n d j 0 (jent j as) [] μ with
    | none => rw [hv] at h1; cases h1
    | some q =>
      obtain ⟨o2, μ3⟩ := q
      rw [hv] at h1
      refine ⟨n, o2, μ3, hv, ?_⟩
      cases o2 with
      | inl v => exact ⟨n, o, μ2, h1, h2⟩
      | inr c =>
        simp only at h1
        unfold jK
        simp only
        cases hh : jhnd (jhs i) pc c with
        | none =>
          rw [hh] at h1
          simp only [jun] at h1
          split at h1
          · next hn =>
            cases h1
            exact ⟨hn, h2⟩
          · cases h1
        | some q =>
          obtain ⟨t, k⟩ := q
          rw [hh] at h1
          exact ⟨n, o, μ2, h1, h2⟩
theorem jx_bif {b : Bool} {t : Option jT} (h : b = true) : (bif b then t else none) = t := by rw [h]; rfl
theorem jx_div {y : Int32} {t : Option jT} (h : ¬ y = 0) : (bif decide (y = 0) then none else t) = t := by rw [decide_eq_false h]; rfl
theorem jx_fld {x c : Nat} {t : Option jT} (h : x % 64 = c) : (bif Nat.beq (x % 64) c then t else none) = t := by rw [h, Nat.beq_refl]; rfl
theorem jx_put {x c : Nat} {b : Bool} {t : Option jT} (h : x % 64 = c) (hb : b = true) : (bif Nat.beq (x % 64) c && b then t else none) = t := by rw [h, Nat.beq_refl, hb]; rfl
theorem jx_len {x : Nat} {t : Option jT} (h : jty x < 9) : (bif Nat.blt (jty x) 9 then t else none) = t := by
  rw [show Nat.blt (jty x) 9 = true from Nat.ble_eq_true_of_le h]
  rfl
theorem jx_ald {x c : Nat} {b : Bool} {t : Option jT} (h : jty x = c) (hb : b = true) : (bif Nat.beq (jty x) c && b then t else none) = t := by rw [h, Nat.beq_refl, hb]; rfl
theorem jx_aaload {a b c : Bool} {t : Option jT} (h : (a && b) = true) (hb : c = true) : (bif a && (b && c) then t else none) = t := by
  obtain ⟨h1, h2⟩ := jand h
  rw [h1, h2, hb]
  rfl
theorem jx_ast {x c : Nat} {b : Bool} {t : Option jT} (h0 : jmade x = true) (h : jty x = c) (hb : b = true) : (bif jmade x && (Nat.beq (jty x) c && b) then t else none) = t := by rw [h0, h, Nat.beq_refl, hb]; rfl
theorem jx_aastore {x v : Nat} {b : Bool} {t : Option jT} (h0 : jmade x = true) (h : jty x = 3) (h1 : v % 64 = 40) (hb : b = true) : (bif jmade x && (Nat.beq (jty x) 3 && (Nat.beq (v % 64) 40 && b)) then t else none) = t := by rw [h0, h, h1, hb]; rfl
theorem jx_aeq {x y t f : Nat} (h1 : x % 64 = 40) (h2 : y % 64 = 40) (hc : jcode i pc = some E) (hs : jstep E pc ls st μ = bif Nat.beq (x % 64) 40 && Nat.beq (y % 64) 40 then jN (bif Nat.beq x y then t else f) ls' st' μ' else none) : Ex d i pc ls st μ Q ↔ if x = y then Ex d i t ls' st' μ' Q else Ex d i f ls' st' μ' Q := by
  rw [h1, h2] at hs
  by_cases h : x = y
  · rw [if_pos h]
    refine Exs hc (hs.trans ?_)
    show jN (bif Nat.beq x y then t else f) ls' st' μ' = _
    rw [h, Nat.beq_refl]
    rfl
  · rw [if_neg h]
    refine Exs hc (hs.trans ?_)
    show jN (bif Nat.beq x y then t else f) ls' st' μ' = _
    rw [jbne h]
    rfl
theorem jx_ane {x y t f : Nat} (h1 : x % 64 = 40) (h2 : y % 64 = 40) (hc : jcode i pc = some E) (hs : jstep E pc ls st μ = bif Nat.beq (x % 64) 40 && Nat.beq (y % 64) 40 then jN (bif Nat.beq x y then f else t) ls' st' μ' else none) : Ex d i pc ls st μ Q ↔ if x = y then Ex d i f ls' st' μ' Q else Ex d i t ls' st' μ' Q := jx_aeq h1 h2 hc hs
section BR
variable {x y : Int32} {t f : Nat}
theorem jx_br {b : Bool} (hc : jcode i pc = some E) (hs : jstep E pc ls st μ = jN (bif b then t else f) ls' st' μ') : Ex d i pc ls st μ Q ↔ if b = true then Ex d i t ls' st' μ' Q else Ex d i f ls' st' μ' Q := by
  cases b
  · exact Exs hc hs
  · exact Exs hc hs
theorem jx_eq (hc : jcode i pc = some E) (hs : jstep E pc ls st μ = jN (bif jcnd .eq x y then t else f) ls' st' μ') : Ex d i pc ls st μ Q ↔ if x = y then Ex d i t ls' st' μ' Q else Ex d i f ls' st' μ' Q := by
  rw [jx_br hc hs]
  by_cases h : x = y <;> simp [jcnd, h]
theorem jx_ne (hc : jcode i pc = some E) (hs : jstep E pc ls st μ = jN (bif jcnd .ne x y then t else f) ls' st' μ') : Ex d i pc ls st μ Q ↔ if x = y then Ex d i f ls' st' μ' Q else Ex d i t ls' st' μ' Q := by
  rw [jx_br hc hs]
  by_cases h : x = y <;> simp [jcnd, h]
theorem jx_lt (hc : jcode i pc = some E) (hs : jstep E pc ls st μ = jN (bif jcnd .lt x y then t else f) ls' st' μ') : Ex d i pc ls st μ Q ↔ if x < y then Ex d i t ls' st' μ' Q else Ex d i f ls' st' μ' Q := by
  rw [jx_br hc hs]
  by_cases h : x < y <;> simp [jcnd, h]
theorem jx_ge (hc : jcode i pc = some E) (hs : jstep E pc ls st μ = jN (bif jcnd .ge x y then t else f) ls' st' μ') : Ex d i pc ls st μ Q ↔ if x < y then Ex d i f ls' st' μ' Q else Ex d i t ls' st' μ' Q := by
  rw [jx_br hc hs]
  by_cases h : x < y
  · simp [jcnd, h, Int32.not_le.mpr h]
  · simp [jcnd, h, Int32.not_lt.mp h]
theorem jx_gt (hc : jcode i pc = some E) (hs : jstep E pc ls st μ = jN (bif jcnd .gt x y then t else f) ls' st' μ') : Ex d i pc ls st μ Q ↔ if y < x then Ex d i t ls' st' μ' Q else Ex d i f ls' st' μ' Q := by
  rw [jx_br hc hs]
  by_cases h : y < x <;> simp [jcnd, h]
theorem jx_le (hc : jcode i pc = some E) (hs : jstep E pc ls st μ = jN (bif jcnd .le x y then t else f) ls' st' μ') : Ex d i pc ls st μ Q ↔ if y < x then Ex d i f ls' st' μ' Q else Ex d i t ls' st' μ' Q := by
  rw [jx_br hc hs]
  by_cases h : y < x
  · simp [jcnd, h, Int32.not_le.mpr h]
  · simp [jcnd, h, Int32.not_lt.mp h]
end BR
theorem jx_call {ins : Instr} {len b : Nat} {v : Int32} {sw : List (Int32 × Nat)} {virt : Bool} {as : List Value} {stk : List Value} (h : jcat st ≤ 8) (hv : (!virt || jrcv j as) = true) (hb : Nat.ble b stk.length = true) (ht : (stk.take b).reverse = as) (hd : stk.drop b = st) (hl : Nat.ble (jspr as).length (jmL j) = true) : jcall (ins, len, j, b, v, sw) pc ls stk virt = some (.inr (.inr (j, as, pc + 3, ls, st))) := by
  unfold jcall
  simp only [hb, ht, hd, hv, hl, show Nat.ble (jcat st) 8 = true from Nat.ble_eq_true_of_le h, Bool.and_true, cond_true]
theorem jx_callV {ins : Instr} {len b a0 c : Nat} {v : Int32} {sw : List (Int32 × Nat)} {as : List Value} {stk : List Value} (h : jcat st ≤ 8) (hr : a0 % 64 = c) (hc : jmC j = c) (hb : Nat.ble b stk.length = true) (ht : (stk.take b).reverse = .ref a0 :: as) (hd : stk.drop b = st) (hl : Nat.ble (jspr (.ref a0 :: as)).length (jmL j) = true) : jcall (ins, len, j, b, v, sw) pc ls stk true = some (.inr (.inr (j, .ref a0 :: as, pc + 3, ls, st))) := by
  refine jx_call h ?_ hb ht hd hl
  show (!true || Nat.beq (a0 % 64) (jmC j)) = true
  rw [hr, hc, Nat.beq_refl]
  rfl
theorem jx_callS {ins : Instr} {len b : Nat} {v : Int32} {sw : List (Int32 × Nat)} {as : List Value} {stk : List Value} (h : jcat st ≤ 8) (hb : Nat.ble b stk.length = true) (ht : (stk.take b).reverse = as) (hd : stk.drop b = st) (hl : Nat.ble (jspr as).length (jmL j) = true) : jcall (ins, len, j, b, v, sw) pc ls stk false = some (.inr (.inr (j, as, pc + 3, ls, st))) := jx_call h rfl hb ht hd hl
section LIB
variable {n len b : Nat} {v : Int32} {sw : List (Int32 × Nat)} {x y : Int32} {r : Nat}
theorem jx_oin (h : jcat st ≤ 8) : jstep (.invokespecial n, len, 1001, b, v, sw) pc ls (.ref r :: st) μ = some (.inl (pc + 3, ls, st, μ)) := by
  have e1 : Nat.beq 1001 1001 = true := Nat.beq_refl 1001
  have e2 : Nat.ble (jcat st) 8 = true := Nat.ble_eq_true_of_le h
  simp only [jstep, e1, e2, cond_true]
  rfl
theorem jx_min (h : jcat st ≤ 8) : jstep (.invokestatic n, len, 1003, b, v, sw) pc ls (.int y :: .int x :: st) μ = some (.inl (pc + 3, ls, .int (if y < x then y else x) :: st, μ)) := by
  have e1 : Nat.beq 1003 1002 = false := by decide
  have e3 : Nat.beq 1003 1003 = true := Nat.beq_refl 1003
  have e2 : Nat.ble (jcat st) 8 = true := Nat.ble_eq_true_of_le h
  simp only [jstep, jmm, e1, e2, e3, cond_true, cond_false]
  rfl
theorem jx_max (h : jcat st ≤ 8) : jstep (.invokestatic n, len, 1004, b, v, sw) pc ls (.int y :: .int x :: st) μ = some (.inl (pc + 3, ls, .int (if x < y then y else x) :: st, μ)) := by
  have e1 : Nat.beq 1004 1002 = false := by decide
  have e3 : Nat.beq 1004 1003 = false := by decide
  have e4 : Nat.beq 1004 1004 = true := Nat.beq_refl 1004
  have e2 : Nat.ble (jcat st) 8 = true := Nat.ble_eq_true_of_le h
  simp only [jstep, jmm, e1, e2, e3, e4, cond_true, cond_false]
  rfl
theorem jx_cpy {t : Option jT} (h : jcopy pc ls st μ = t) : jstep (.invokestatic n, len, 1002, b, v, sw) pc ls st μ = t := by
  have e1 : Nat.beq 1002 1002 = true := Nat.beq_refl 1002
  simp only [jstep, e1, cond_true]
  exact h
theorem jx_thr {a c : Nat} (ha : a = 1000 + c) (h : jcat st ≤ 8) : jstep (.new n, len, a, b, v, sw) pc ls st μ = some (.inr (.inl (.inr c, jthr μ))) := by
  have e1 : Nat.ble 1000 a = true := Nat.ble_eq_true_of_le (by omega)
  have e2 : Nat.ble (jcat st) 8 = true := Nat.ble_eq_true_of_le h
  have e3 : a - 1000 = c := by omega
  simp only [jstep, e1, e2, e3, cond_true]
end LIB
theorem jK_v {v : Value} : jK d i pc pc' ls st Q (.inl (some v)) μ = Ex d i pc' ls (v :: st) μ Q := rfl
theorem jK_n : jK d i pc pc' ls st Q (.inl none) μ = Ex d i pc' ls st μ Q := rfl
theorem jK_x {c : Nat} (h : jhs i = []) : jK d i pc pc' ls st Q (.inr c) μ = Q (.inr c) μ := by
  unfold jK
  simp only [h, jhnd, true_and]
theorem jK_h {c t k : Nat} (h : jhnd (jhs i) pc c = some (t, k)) : jK d i pc pc' ls st Q (.inr c) μ = Ex d i t ((jclr ls k).set k none) [] μ Q := by
  unfold jK
  simp only [h]
end EXQ
