/-! WHAT THE HEAP HOLDS of the pure machine's memory. -/
/-- classes and slots; the array classes; the constants' addresses; an opaque static; where the new cells begin; the script's cell, length, ints -/
abbrev jG : Type := va_G × (Nat → ClassId) × (Nat → Nat) × Value × Nat × Nat × Nat × (Nat → Int32)
abbrev gD (G : jG) : va_G := G.1
abbrev gcy (G : jG) : Nat → ClassId := G.2.1
abbrev gad (G : jG) : Nat → Nat := G.2.2.1
abbrev gsio (G : jG) : Value := G.2.2.2.1
abbrev gbs (G : jG) : Nat := G.2.2.2.2.1
abbrev gb (G : jG) : Nat := G.2.2.2.2.2.1
abbrev gL (G : jG) : Nat := G.2.2.2.2.2.2.1
abbrev gxs (G : jG) : Nat → Int32 := G.2.2.2.2.2.2.2
abbrev gA (G : jG) : Nat → Prop := fun q => gbs G ≤ q
def jpv (G : jG) (ad : Nat → Nat) (v : Value) : Value := match v with
  | .ref a => .ref (ad a)
  | .retAddr _ => gsio G
  | v => v
abbrev jtys (G : jG) : List (ClassId × FieldType) := [(gcy G 0, .int), (gcy G 1, .byte), (gcy G 2, .long), (gcy G 3, .object "CrossBar$Kind"), (gcy G 4, .array .int)]
def jcst (x : Nat) : Bool := (Nat.beq (x % 64) 40 && Nat.blt (x / 64) 42) || ((Nat.beq (x % 64) 41 && Nat.blt (x / 64) 39) || ((Nat.beq (x % 64) 43 && Nat.blt (x / 64) 39) || (Nat.beq x 42 || (Nat.beq x 106 || (Nat.beq x 170 || Nat.beq x 44)))))
def jok (μ : jM) (x : Nat) : Prop := x ∈ jA μ ∨ jcst x = true
def jvok (μ : jM) (v : Value) : Prop := match v with
  | .ref a => jok μ a
  | _ => True
/-- a field's value, as the machine has it -/
def jfv (G : jG) (ad : Nat → Nat) (μ : jM) (a k : Nat) : Value := bif Nat.beq (jft (a % 64) k) 0 then .int (jI μ a k) else va_rf ((jQ μ a k).map ad)
def jce (G : jG) (ad : Nat → Nat) (μ : jM) (a : Nat) : va_E := match jCl[a % 64]? with
  | some q => .inr (a % 64, (List.range q.2.2).map (jfv G ad μ a))
  | none => match jak (a % 64) with
    | some (t, n) => bif Nat.ble t 1 then .inl (gcy G t, n, .inl (jI μ a)) else bif Nat.beq t 2 then .inl (gcy G t, n, .inr (.inl (jL μ a))) else .inl (gcy G t, n, .inr (.inr (.inr (.inr (fun k => (jQ μ a k).map ad)))))
    | none => .inl (0, 0, .inl fun _ => 0)
def jwld (G : jG) (ad : Nat → Nat) (μ : jM) : va_W := (jA μ).map fun a => (ad a, jce G ad μ a)
/-- statics, constants' fields: which entries are meant -/
def jsok (E : jE) : Bool := bif Nat.beq E.2.2.2.1 0 then (Nat.beq (E.2.2.1 % 64) 40 && Nat.blt (E.2.2.1 / 64) 42) || (Nat.beq E.2.2.1 42 || (Nat.beq E.2.2.1 106 || Nat.beq E.2.2.1 170)) else bif Nat.beq E.2.2.2.1 1 then decide (E.2.2.2.2.1 = 1) else Nat.beq E.2.2.2.1 2
def jsv (E : jE) : Value := bif Nat.beq E.2.2.2.1 0 then .ref E.2.2.1 else bif Nat.beq E.2.2.2.1 1 then .int E.2.2.2.2.1 else .retAddr 0
def jcf (x b : Nat) : Bool := (Nat.beq (x % 64) 40 && (Nat.blt (x / 64) 42 && (Nat.beq b 0 || Nat.beq b 6))) || (Nat.beq (x % 64) 41 && (Nat.blt (x / 64) 39 && (Nat.beq b 2 || Nat.beq b 4)))
def jcg (x b : Nat) : Value := bif Nat.beq (x % 64) 40 then (bif Nat.beq b 0 then .int (Int32.ofNat (x / 64)) else .ref (jktx (x / 64))) else (bif Nat.beq b 2 then .ref (x + 2) else .int 0)
def jnest : Jvm.Cond → Bool
  | .fieldLinkNest .. => true
  | .methodLinkNest .. => true
  | .declares .. => true
  | _ => false
/-- the facts of the tables and of what nobody writes -/
def jFB (G : jG) (U : State) (H : Heap) : Prop :=
  va_K (gD G) jCl (jtys G) U ∧
  (∀ E : jE, jsok E = true → va_Z (jsd E).1 (jsd E).2.1 (jsd E).2.2 (jpv G (gad G) (jsv E)) (gA G) U H) ∧
  (∀ x b : Nat, jcf x b = true → va_OF (jfd (x % 64) (b / 4)).1 (jfd (x % 64) (b / 4)).2.1 (jfd (x % 64) (b / 4)).2.2.1 (jpv G (gad G) (jcg x b)) (gad G x) (gA G) U H) ∧
  (∀ k : Nat, k < 42 → va_O "CrossBar$Kind" (gad G (40 + 64 * k)) (gA G) U H) ∧
  (∀ k : Nat, k < 39 → va_O "java/lang/String" (gad G (41 + 64 * k)) (gA G) U H) ∧
  va_T .int (gad G 42) 42 (fun j => .int (jswm j)) (gA G) U H ∧
  va_T (.object "CrossBar$Kind") (gad G 106) 42 (fun j => .ref (gad G (40 + 64 * j))) (gA G) U H ∧
  va_T (.object "java/lang/String") (gad G 170) 22 (fun j => .ref (gad G (jwrd j))) (gA G) U H ∧
  (∀ k : Nat, k < 39 → va_T .byte (gad G (43 + 64 * k)) (jstr k).length (fun j => .int ((jstr k).getD j 0)) (gA G) U H) ∧
  (va_T .int (gb G) (gL G) (fun j => .int (gxs G j)) (gA G) U H ∧ gad G 44 = gb G ∧ gL G ≤ 3072) ∧
  (vx_Zq Bundle.tN "UNASSIGNED_STACK" Bundle.steD (gA G) U H ∧ vx_Zq Bundle.tN "SUPPRESSED_SENTINEL" Bundle.listD (gA G) U H) ∧
  ((∀ (own : String) (k : Nat) (tx : String), Jvm.Cond.stringRef own k tx ∈ tables_1 → ∃ sa : Nat, vk_R own k tx sa U) ∧ vk_R "CrossBarModel" 99 "()[];,+-*/<>=" (gad G 2473) U) ∧
  (∀ w ∈ tables_1, jnest w = true → va_Nw w U) ∧
  (va_AO "CrossBar$Kind" U ∧ va_AOA .int U) ∧
  (∀ c c' : Nat, c < 3 → c' < 3 → (c = c' → va_Nw (.castable (jexn c) (jexn c)) U) ∧ (c ≠ c' → va_Nc (jexn c) (jexn c') U)) ∧
  (gsio G).isRef = true
/-- the memory is the heap's -/
def jMem (G : jG) (ad : Nat → Nat) (μ : jM) (H : Heap) : Prop :=
  va_P (gD G) jCl (jwld G ad μ) H ∧ va_D (gA G) (jwld G ad μ) ∧
  (∀ a ∈ jA μ, ∀ k b : Nat, jQ μ a k = some b → jok μ b) ∧
  (∀ (k a : Nat), (jA μ)[k]? = some a → a / 64 = k ∧ (a % 64 < 13 ∨ (13 ≤ a % 64 ∧ (jak (a % 64)).isSome = true))) ∧
  (∀ x : Nat, jcst x = true → ad x = gad G x) ∧
  (jI μ 45 0 = Int32.ofNat (gL G) ∧ ∀ j : Nat, j < gL G → jI μ 44 j = gxs G j)
/-- the locals, the stack -/
def jLoc (G : jG) (ad : Nat → Nat) (μ : jM) (lsA : Array Slot) (n : Nat) (ls : List (Option Value)) : Prop :=
  ls.length = n ∧ lsA.size = n ∧ lv_wf lsA ∧ ∀ (k : Nat) (v : Value), ls[k]? = some (some v) → lsA[k]? = some (.val (jpv G ad v)) ∧ jvok μ v
def jStk (μ : jM) (st : List Value) : Prop := ∀ v ∈ st, jvok μ v
/-- cells and slots that a memory stands for -/
def jsz (a : Nat) : Nat := match jCl[a % 64]? with
  | some q => q.2.2
  | none => match jak (a % 64) with
    | some (_, n) => n
    | none => 0
def jnc (μ : jM) : Nat := (jA μ).length + jX μ
def jns (μ : jM) : Nat := ((jA μ).map jsz).sum + 6 * jX μ
/-- an address map grows -/
def jxt (μ : jM) (ad ad' : Nat → Nat) : Prop := ∀ x, jok μ x → ad' x = ad x
theorem jCl_none {c : Nat} (h : 13 ≤ c) : jCl[c]? = none := by
  rw [List.getElem?_eq_none_iff]
  exact h
theorem jCl_some {c : Nat} (h : c < 13) : ∃ q, jCl[c]? = some q := ⟨jCl[c]'h, List.getElem?_eq_getElem h⟩
theorem jok_at {μ : jM} {x : Nat} (h : jok μ x) (hc : x % 64 < 40) : ∃ k : Nat, (jA μ)[k]? = some x := by
  rcases h with h | h
  · exact List.getElem?_of_mem h
  · simp only [jcst, Bool.or_eq_true, Bool.and_eq_true, Nat.beq_eq] at h
    omega
theorem jwld_at {G : jG} {ad : Nat → Nat} {μ : jM} {k x : Nat} (h : (jA μ)[k]? = some x) : (jwld G ad μ)[k]? = some (ad x, jce G ad μ x) := by
  unfold jwld
  rw [List.getElem?_map, h]
  rfl
theorem jce_obj {G : jG} {ad : Nat → Nat} {μ : jM} {x : Nat} {q : vw_C} (h : jCl[x % 64]? = some q) : jce G ad μ x = .inr (x % 64, (List.range q.2.2).map (jfv G ad μ x)) := by
  unfold jce
  rw [h]
theorem jce_arr {G : jG} {ad : Nat → Nat} {μ : jM} {x t n : Nat} (h : 13 ≤ x % 64) (h2 : jak (x % 64) = some (t, n)) : jce G ad μ x = bif Nat.ble t 1 then .inl (gcy G t, n, .inl (jI μ x)) else bif Nat.beq t 2 then .inl (gcy G t, n, .inr (.inl (jL μ x))) else .inl (gcy G t, n, .inr (.inr (.inr (.inr (fun k => (jQ μ x k).map ad))))) := by
  unfold jce
  rw [jCl_none h]
  simp only [h2]
theorem jpv_cat {G : jG} {ad : Nat → Nat} {v : Value} (hs : (gsio G).isRef = true) : (jpv G ad v).category = v.category := by
  cases v <;> try rfl
  show (gsio G).category = 1
  cases h : gsio G <;> first | rfl | (rw [h] at hs; cases hs)
theorem jpv_xt {G : jG} {μ : jM} {ad ad' : Nat → Nat} (h : jxt μ ad ad') {v : Value} (hv : jvok μ v) : jpv G ad' v = jpv G ad v := by
  cases v <;> try rfl
  exact congrArg Value.ref (h _ hv)
theorem jStk_xt {G : jG} {μ : jM} {ad ad' : Nat → Nat} (h : jxt μ ad ad') {st : List Value} (hv : jStk μ st) : st.map (jpv G ad') = st.map (jpv G ad) := List.map_congr_left fun v hm => jpv_xt h (hv v hm)
theorem jLoc_xt {G : jG} {μ μ' : jM} {ad ad' : Nat → Nat} {lsA : Array Slot} {n : Nat} {ls : List (Option Value)} (h : jxt μ ad ad') (hm : ∀ x, jok μ x → jok μ' x) (hl : jLoc G ad μ lsA n ls) : jLoc G ad' μ' lsA n ls := by
  obtain ⟨h1, h2, h3, h4⟩ := hl
  refine ⟨h1, h2, h3, fun k v hk => ?_⟩
  obtain ⟨h5, h6⟩ := h4 k v hk
  refine ⟨by rw [jpv_xt h h6]; exact h5, ?_⟩
  cases v <;> first | trivial | exact hm _ h6
theorem jStk_mono {μ μ' : jM} (hm : ∀ x, jok μ x → jok μ' x) {st : List Value} (h : jStk μ st) : jStk μ' st := by
  intro v hv
  have h2 := h v hv
  cases v <;> first | trivial | exact hm _ h2
theorem jStk_cons {μ : jM} {v : Value} {st : List Value} (h : jvok μ v) (hs : jStk μ st) : jStk μ (v :: st) := by
  intro w hw
  rcases List.mem_cons.mp hw with rfl | hw
  · exact h
  · exact hs w hw
theorem jStk_tail {μ : jM} {v : Value} {st : List Value} (h : jStk μ (v :: st)) : jStk μ st := fun w hw => h w (List.mem_cons_of_mem _ hw)
theorem jStk_head {μ : jM} {v : Value} {st : List Value} (h : jStk μ (v :: st)) : jvok μ v := h v List.mem_cons_self
theorem jLoc_has {G : jG} {ad : Nat → Nat} {μ : jM} {lsA : Array Slot} {n : Nat} {ls : List (Option Value)} (h : jLoc G ad μ lsA n ls) : lv_has lsA n ((List.range n).filterMap fun k => match ls[k]? with
    | some (some v) => some (k, jpv G ad v)
    | _ => none) := by
  obtain ⟨h1, h2, h3, h4⟩ := h
  refine ⟨h2, h3, fun q hq => ?_⟩
  obtain ⟨k, -, hk⟩ := List.mem_filterMap.mp hq
  rcases hl : ls[k]? with _ | _ | v
  · rw [hl] at hk; cases hk
  · rw [hl] at hk; cases hk
  · rw [hl] at hk
    cases hk
    exact (h4 k v hl).1
