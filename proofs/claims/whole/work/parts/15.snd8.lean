/-! SOUNDNESS, the eighth part: writing the memory; putfield. -/
def jsame (μ μ' : jM) (x : Nat) : Prop := jA μ' = jA μ ∧ jX μ' = jX μ ∧ ∀ a, a ≠ x → jI μ' a = jI μ a ∧ jL μ' a = jL μ a ∧ jQ μ' a = jQ μ a
theorem j2_ne {α : Type} (f : Nat → Nat → α) {a x : Nat} (k : Nat) (v : α) (h : a ≠ x) : j2 f x k v a = f a := by
  funext j
  unfold j2
  rw [if_neg h]
theorem j2_self {α : Type} (f : Nat → Nat → α) (x k : Nat) (v : α) : j2 f x k v x = fun j => if j = k then v else f x j := by
  funext j
  unfold j2
  rw [if_pos rfl]
theorem jrow_ne {α : Type} (f : Nat → Nat → α) {a x : Nat} (g : Nat → α) (h : a ≠ x) : jrow f x g a = f a := by
  unfold jrow
  rw [if_neg h]
theorem jrow_self {α : Type} (f : Nat → Nat → α) (x : Nat) (g : Nat → α) : jrow f x g x = g := by
  unfold jrow
  rw [if_pos rfl]
theorem jsame_I (μ : jM) (x k : Nat) (v : Int32) : jsame μ (jsI μ x k v) x := ⟨rfl, rfl, fun a h => ⟨j2_ne _ _ _ h, rfl, rfl⟩⟩
theorem jsame_L (μ : jM) (x k : Nat) (v : Int64) : jsame μ (jsL μ x k v) x := ⟨rfl, rfl, fun a h => ⟨rfl, j2_ne _ _ _ h, rfl⟩⟩
theorem jsame_Q (μ : jM) (x k : Nat) (v : Option Nat) : jsame μ (jsQ μ x k v) x := ⟨rfl, rfl, fun a h => ⟨rfl, rfl, j2_ne _ _ _ h⟩⟩
theorem jsame_R (μ : jM) (x : Nat) (g : Nat → Int32) : jsame μ (jsR μ x g) x := ⟨rfl, rfl, fun a h => ⟨jrow_ne _ _ h, rfl, rfl⟩⟩
theorem jok_same {μ μ' : jM} {x y : Nat} (h : jsame μ μ' x) : jok μ' y ↔ jok μ y := by
  unfold jok
  rw [h.1]
theorem jce_congr {G : jG} {ad : Nat → Nat} {μ μ' : jM} {a : Nat} (h : jI μ' a = jI μ a ∧ jL μ' a = jL μ a ∧ jQ μ' a = jQ μ a) : jce G ad μ' a = jce G ad μ a := by
  obtain ⟨e1, e2, e3⟩ := h
  have e4 : jfv G ad μ' a = jfv G ad μ a := by
    funext k
    unfold jfv
    rw [e1, e3]
  unfold jce
  rw [e4, e1, e2, e3]
theorem jwld_set {G : jG} {ad : Nat → Nat} {μ μ' : jM} {H : Heap} {q0 x : Nat} (hM : jMem G ad μ H) (hq : (jA μ)[q0]? = some x) (hs : jsame μ μ' x) : jwld G ad μ' = (jwld G ad μ).set q0 (ad x, jce G ad μ' x) := by
  have hA := hs.1
  apply List.ext_getElem?
  intro k
  by_cases hk : q0 = k
  · subst hk
    rw [List.getElem?_set_self]
    · exact jwld_at (by rw [hA]; exact hq)
    · unfold jwld
      rw [List.length_map]
      exact (List.getElem?_eq_some_iff.mp hq).1
  · rw [List.getElem?_set_ne hk]
    cases ha : (jA μ)[k]? with
    | none =>
      unfold jwld
      rw [hA, List.getElem?_map, List.getElem?_map, ha]
      rfl
    | some a =>
      rw [jwld_at (G := G) (ad := ad) (μ := μ') (by rw [hA]; exact ha), jwld_at ha]
      have h1 := (hM.2.2.2.1 k a ha).1
      have h2 := (hM.2.2.2.1 q0 x hq).1
      rw [jce_congr (hs.2.2 a (fun z => hk (by rw [← h1, ← h2, z])))]
theorem jA_lt {G : jG} {ad : Nat → Nat} {μ : jM} {H : Heap} {q0 x : Nat} (hM : jMem G ad μ H) (hq : (jA μ)[q0]? = some x) : x % 64 < 40 := by
  rcases (hM.2.2.2.1 q0 x hq).2 with h | ⟨-, h⟩
  · omega
  · exact (jak_small _ (Nat.mod_lt _ (by decide)) h).2
theorem jMem_wr {G : jG} {ad : Nat → Nat} {μ μ' : jM} {H H1 : Heap} {q0 x : Nat} (hM : jMem G ad μ H) (hq : (jA μ)[q0]? = some x) (hs : jsame μ μ' x) (hQ : ∀ k b : Nat, jQ μ' x k = some b → jok μ b) (hP : va_P (gD G) jCl (jwld G ad μ') H1) (hD : va_D (gA G) (jwld G ad μ')) : jMem G ad μ' H1 := by
  have hlt := jA_lt hM hq
  obtain ⟨h1, h2, h3, h4, h5, h6, h7⟩ := hM
  have hA := hs.1
  refine ⟨hP, hD, ?_, ?_, h5, ?_, ?_⟩
  · intro a ha k b hb
    rw [jok_same hs]
    by_cases e : a = x
    · subst e; exact hQ k b hb
    · rw [(hs.2.2 a e).2.2] at hb
      rw [hA] at ha
      exact h3 a ha k b hb
  · rw [hA]; exact h4
  · rw [(hs.2.2 45 (by omega)).1]; exact h6
  · rw [(hs.2.2 44 (by omega)).1]; exact h7
section SNI
variable {p : Program} {l : Launch} {e : Env} {R : Room} {s : State} {m : MethodId} {args : Array Value} {below : List Frame} {meth : Method} {c : Code} {Q : State → Prop}
variable {G : jG} {i : Nat} {k0 s0 : Nat} {μ0 : jM} {ad0 : Nat → Nat}
theorem jwr_go {ad : Nat → Nat} {μ μ' : jM} {H H1 : Heap} {locs1 : List Loc} {cells slots q0 x pc : Nat} {lsA : Array Slot} {ls : List (Option Value)} {st : List Value} {E : va_E} (k : jGo G i p l e R s m args below meth c Q k0 s0 μ0 ad0 pc ls st μ') (hM : jMem G ad μ H) (hq : (jA μ)[q0]? = some x) (hs : jsame μ μ' x) (hQ : ∀ k b : Nat, jQ μ' x k = some b → jok μ b) (hE : jce G ad μ' x = E)
    (g1 : jxt μ0 ad0 ad) (g2 : ∀ x, jok μ0 x → jok μ x) (g5 : jLoc G ad μ lsA (jmL i) ls) (g6 : jStk μ st) (g7 : cells + k0 = jnc μ) (g8 : slots + s0 = jns μ)
    (hP : va_P (gD G) jCl ((jwld G ad μ).set q0 (ad x, E)) H1) (hD : va_D (gA G) ((jwld G ad μ).set q0 (ad x, E))) (g4 : va_S (gA G) s.heap H1 locs1) :
    W p l e R s m args below meth c H1 locs1 cells slots Q (F0 m pc lsA (st.map (jpv G ad))) := by
  subst hE
  rw [← jwld_set hM hq hs] at hP hD
  have hk : ∀ y, jok μ y → jok μ' y := fun y h => (jok_same hs).mpr h
  refine k ad H1 locs1 cells slots lsA g1 (fun y h => hk y (g2 y h)) (jMem_wr hM hq hs hQ hP hD) g4 (jLoc_xt (fun _ _ => rfl) hk g5) (jStk_mono hk g6) ?_ ?_
  · unfold jnc; rw [hs.1, hs.2.1]; exact g7
  · unfold jns; rw [hs.1, hs.2.1]; exact g8
end SNI
def jrk (d : String) : Bool := match parseFieldDescriptor d with
  | some (.object _) => true
  | some (.array _) => true
  | _ => false
theorem jrk_inv {d : String} (h : jrk d = true) {a : Nat} : ∃ ty, parseFieldDescriptor d = some ty ∧ narrow ty (.ref a) = .ref a ∧ fits ty (.ref a) = true := by
  unfold jrk at h
  split at h
  · next x hx => exact ⟨_, hx, rfl, rfl⟩
  · next x hx => exact ⟨_, hx, rfl, rfl⟩
  · cases h
theorem jCl_des : ∀ c, c < 13 → ∀ k, k < jfn c → (jft c k = 0 → (jfd c k).2.2.1 = "I") ∧ (jft c k = 2 → jrk (jfd c k).2.2.1 = true) ∧ (jft c k = 0 ∨ jft c k = 2) := by decide +kernel
theorem jCl_prs : ∀ c, c < 13 → ∀ k, k < jfn c → (parseFieldDescriptor (jfd c k).2.2.1).isSome = true := by decide +kernel
theorem jCl_nms : ∀ c, c < 13 → ∀ a, a < jfn c → ∀ b, b < jfn c → a ≠ b → (jfd c a).2.1 ≠ (jfd c b).2.1 := by decide +kernel
theorem jCl_at {c : Nat} {q : vw_C} (hq : jCl[c]? = some q) : (∀ k, jfd c k = q.2.1 k) ∧ jfn c = q.2.2 := by
  refine ⟨fun k => ?_, ?_⟩
  · unfold jfd; rw [hq]
  · unfold jfn; rw [hq]
theorem jnst_all : tables_1.all (fun w => match w with | .fieldLinkNest o _ r _ _ _ => decide (o ≠ r) | _ => true) = true := by decide +kernel
theorem jnst_ne {o r n d h : String} {x j : Nat} (hw : tables_1[j]? = some (.fieldLinkNest o x r n d h)) : o ≠ r := by
  have h1 := List.all_eq_true.mp jnst_all _ (List.mem_of_getElem? hw)
  exact of_decide_eq_true h1
theorem jset_map {N : Nat} {f g : Nat → Value} {k : Nat} {v : Value} (h : ∀ j, g j = if j = k then v else f j) : (List.range N).map g = ((List.range N).map f).set k v := by
  apply List.ext_getElem?
  intro j
  rw [List.getElem?_set]
  simp only [List.getElem?_map, List.length_map, List.length_range]
  by_cases hj : j < N
  · rw [List.getElem?_range hj]
    simp only [Option.map_some]
    rw [h j]
    by_cases e : k = j
    · subst e
      simp [hj]
    · rw [if_neg e, if_neg (fun z => e z.symm)]
  · rw [List.getElem?_eq_none (l := List.range N) (by simp; omega)]
    simp only [Option.map_none]
    by_cases e : k = j
    · subst e; simp [hj]
    · simp [e]
section SNK
variable {p : Program} {l : Launch} {e : Env} {R : Room} {s : State} {m : MethodId} {args : Array Value} {below : List Frame} {meth : Method} {c : Code} {Q : State → Prop}
variable {G : jG} {i : Nat} {k0 s0 : Nat} {μ0 : jM} {ad0 : Nat → Nat}
set_option maxHeartbeats 4000000 in
theorem jput (C : jCtx G i p l s m args meth c) {n len a b : Nat} {v : Int32} {sw : List (Int32 × Nat)} {pc x : Nat} {ls : List (Option Value)} {r : List Value} {μ μ' : jM} {w : Value} (hE : jchk i pc (.putfield n, len, a, b, v, sw) = true) (hxa : x % 64 = a) (hsame : jsame μ μ' x)
    (hw : ∃ ty, parseFieldDescriptor (jfd a (b / 4)).2.2.1 = some ty ∧ ∀ ad, narrow ty (jpv G ad w) = jpv G ad w ∧ fits ty (jpv G ad w) = true)
    (hQ : jok μ x → jvok μ w → ∀ ad H, jMem G ad μ H → ∀ j b' : Nat, jQ μ' x j = some b' → jok μ b')
    (hset : ∀ ad j, jfv G ad μ' x j = if j = b / 4 then jpv G ad w else jfv G ad μ x j)
    (k : jGo G i p l e R s m args below meth c Q k0 s0 μ0 ad0 (pc + 3) ls r μ') : jGo G i p l e R s m args below meth c Q k0 s0 μ0 ad0 pc ls (w :: .ref x :: r) μ := by
  obtain ⟨hx, hb, hml, hown, hts, hlk, hFB, hret, hmn, -⟩ := C
  have hd := jchk_dec hE
  unfold jchk at hE
  replace hE := (jand hE).2
  obtain ⟨h1, hE⟩ := jand hE
  have h1 : len = 3 := jbeq h1
  subst h1
  obtain ⟨h2, hE⟩ := jand hE
  obtain ⟨h3, hE⟩ := jand hE
  obtain ⟨h4, hE⟩ := jand hE
  obtain ⟨h5, h6⟩ := jand hE
  have e1 : a < 13 := Nat.le_of_ble_eq_true h2
  have e4 : b / 4 < jfn a := Nat.le_of_ble_eq_true h4
  obtain ⟨q, hq⟩ := jCl_some e1
  obtain ⟨hqf, hqn⟩ := jCl_at hq
  intro ad H locs cells slots lsA g1 g2 g3 g4 g5 g6 g7 g8
  have hxo : jok μ x := jStk_head (jStk_tail g6)
  obtain ⟨q0, hq0⟩ := jok_at hxo (by omega)
  have hqx : jCl[x % 64]? = some q := by rw [hxa]; exact hq
  have hcell : (jwld G ad μ)[q0]? = some (ad x, .inr (a, (List.range q.2.2).map (jfv G ad μ x))) := by
    rw [jwld_at hq0, jce_obj hqx, hxa]
  have hEe : jce G ad μ' x = .inr (a, ((List.range q.2.2).map (jfv G ad μ x)).set (b / 4) (jpv G ad w)) := by
    rw [jce_obj hqx, hxa, jset_map (hset ad)]
  have kk := fun (H1 : Heap) (locs1 : List Loc) hP hD hS => jwr_go (H1 := H1) (locs1 := locs1) k g3 hq0 hsame (hQ hxo (jStk_head g6) ad H g3) hEe g1 g2 g5 (jStk_tail (jStk_tail g6)) g7 g8 hP hD hS
  obtain ⟨ty, hty, hw⟩ := hw
  have hk : b / 4 < q.2.2 := by rw [← hqn]; exact e4
  have hprs : ∀ k, k < q.2.2 → parseFieldDescriptor (q.2.1 k).2.2.1 = some ((parseFieldDescriptor (q.2.1 k).2.2.1).getD .int) := by
    intro k hk
    have hp := jCl_prs a e1 k (by rw [hqn]; exact hk)
    rw [hqf] at hp
    obtain ⟨t, ht⟩ := Option.isSome_iff_exists.mp hp
    rw [ht]; rfl
  have hnms : ∀ a', a' < q.2.2 → ∀ b', b' < q.2.2 → a' ≠ b' → (q.2.1 a').2.1 ≠ (q.2.1 b').2.1 := by
    intro a' ha' b' hb' hne
    have hp := jCl_nms a e1 a' (by rw [hqn]; exact ha') b' (by rw [hqn]; exact hb') hne
    rw [hqf, hqf] at hp
    exact hp
  have h5 : jfl i pc n ((q.2.1 (b / 4)).1, (q.2.1 (b / 4)).2.1, (q.2.1 (b / 4)).2.2.1) = true := by rw [← hqf]; exact h5
  have h6 : (bif (q.2.1 (b / 4)).2.2.2 then decide ((jY i).name = "<init>") && decide ((q.2.1 (b / 4)).1 = (jY i).cls) else true) = true := by rw [← hqf]; exact h6
  rw [hqf] at hty
  have hl : b / 4 < ((List.range q.2.2).map (jfv G ad μ x)).length := by rw [List.length_map, List.length_range]; exact hk
  cases hfin : (q.2.1 (b / 4)).2.2.2 with
  | false =>
    rcases jfl_inv h5 with hw2 | ⟨ho, hw2⟩
    · exact va_put hx hb hts (jcl_in _ _ hq) _ hprs hnms hown (jFB_K hFB) g3.1 g3.2.1 g4 q0 hcell hq (b / 4) hk (hts _ (jwin _ hw2 rfl)) (fun _ h => h) hfin hty (hw ad).1 (hw ad).2 hl hd kk
    · exact va_putN hx hb hts (jcl_in _ _ hq) _ hprs hnms hown (jFB_K hFB) g3.1 g3.2.1 g4 q0 hcell hq (b / 4) hk (va_Nw.use rfl (jFB_nest hFB hw2 rfl)) (fun _ h => h) hfin hty (hw ad).1 (hw ad).2 hl hd kk
  | true =>
    rw [hfin] at h6
    obtain ⟨f1, f2⟩ := jand h6
    have f1 := of_decide_eq_true f1
    have f2 := of_decide_eq_true f2
    rcases jfl_inv h5 with hw2 | ⟨ho, hw2⟩
    · exact va_putF hx hb hts (jcl_in _ _ hq) _ hprs hnms hown (jFB_K hFB) g3.1 g3.2.1 g4 q0 hcell hq (b / 4) hk (hts _ (jwin _ hw2 rfl)) (fun _ h => h) hfin (by rw [hmn]; exact f1) f2 hty (hw ad).1 (hw ad).2 hl hd kk
    · exact absurd f2.symm (jnst_ne hw2)
theorem snd_putfield (C : jCtx G i p l s m args meth c) {n len a b : Nat} {v : Int32} {sw : List (Int32 × Nat)} {pc pc' : Nat} {ls ls' : List (Option Value)} {st st' : List Value} {μ μ' : jM} (hE : jchk i pc (.putfield n, len, a, b, v, sw) = true) (hs : jstep (.putfield n, len, a, b, v, sw) pc ls st μ = some (.inl (pc', ls', st', μ')))
    (k : jGo G i p l e R s m args below meth c Q k0 s0 μ0 ad0 pc' ls' st' μ') : jGo G i p l e R s m args below meth c Q k0 s0 μ0 ad0 pc ls st μ := by
  have hE0 := hE
  unfold jchk at hE
  replace hE := (jand hE).2
  obtain ⟨h1, hE⟩ := jand hE
  obtain ⟨h2, hE⟩ := jand hE
  obtain ⟨h3, hE⟩ := jand hE
  obtain ⟨h4, -⟩ := jand hE
  have e1 : a < 13 := Nat.le_of_ble_eq_true h2
  have e3 : b % 4 = jft a (b / 4) := jbeq h3
  have e4 : b / 4 < jfn a := Nat.le_of_ble_eq_true h4
  obtain ⟨d0, d2, -⟩ := jCl_des a e1 _ e4
  simp only [jstep] at hs
  split at hs
  · next u x r =>
    obtain ⟨h0, hs⟩ := jbif hs
    obtain ⟨h0, f0⟩ := jand h0
    have h0 : Eq (α := Nat) (x % 64) a := jbeq h0
    have f0 : b % 4 = 0 := jbeq f0
    obtain ⟨rfl, rfl, rfl, rfl⟩ := jN_inv hs
    have ef : jft a (b / 4) = 0 := by omega
    refine jput C hE0 h0 (jsame_I _ _ _ _) ⟨.int, by rw [d0 ef]; decide, fun ad => ⟨rfl, rfl⟩⟩ (fun hx hw ad H hM j b' hj => hM.2.2.1 x (by obtain ⟨z, hz⟩ := jok_at hx (by omega); exact List.mem_of_getElem? hz) j b' hj) ?_ k
    intro ad j
    unfold jfv
    show (bif Nat.beq (jft (x % 64) j) 0 then Value.int (j2 (jI μ) x (b / 4) u x j) else _) = _
    rw [j2_self]
    by_cases ej : j = b / 4
    · rw [if_pos ej, ej, h0, ef]
      simp only [if_true]
      rfl
    · rw [if_neg ej]
      simp only [if_neg ej]
      rfl
  · next y x r =>
    obtain ⟨h0, hs⟩ := jbif hs
    obtain ⟨h0, f0⟩ := jand h0
    have h0 : Eq (α := Nat) (x % 64) a := jbeq h0
    have f0 : b % 4 = 2 := jbeq f0
    obtain ⟨rfl, rfl, rfl, rfl⟩ := jN_inv hs
    have ef : jft a (b / 4) = 2 := by omega
    obtain ⟨ty, hty⟩ : ∃ ty, parseFieldDescriptor (jfd a (b / 4)).2.2.1 = some ty ∧ ∀ z : Nat, narrow ty (.ref z) = .ref z ∧ fits ty (.ref z) = true := by
      have hh := d2 ef
      unfold jrk at hh
      split at hh
      · next x hx => exact ⟨_, hx, fun z => ⟨rfl, rfl⟩⟩
      · next x hx => exact ⟨_, hx, fun z => ⟨rfl, rfl⟩⟩
      · cases hh
    refine jput C hE0 h0 (jsame_Q _ _ _ _) ⟨ty, hty.1, fun ad => hty.2 _⟩ ?_ ?_ k
    · intro hx hw ad H hM j b' hj
      replace hj : j2 (jQ μ) x (b / 4) (some y) x j = some b' := hj
      rw [j2_self] at hj
      by_cases ej : j = b / 4
      · simp only [if_pos ej] at hj
        cases hj
        exact hw
      · simp only [if_neg ej] at hj
        exact hM.2.2.1 x (by obtain ⟨z, hz⟩ := jok_at hx (by omega); exact List.mem_of_getElem? hz) j b' hj
    · intro ad j
      unfold jfv
      show (bif Nat.beq (jft (x % 64) j) 0 then Value.int (jI μ x j) else va_rf ((j2 (jQ μ) x (b / 4) (some y) x j).map ad)) = _
      rw [j2_self]
      by_cases ej : j = b / 4
      · rw [if_pos ej, ej, h0, ef]
        simp only [if_true]
        rfl
      · rw [if_neg ej]
        simp only [if_neg ej]
  · cases hs
end SNK
