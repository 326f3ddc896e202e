/-! CALLS, the fifth part: from a contract of the callee to what goes on behind the call. -/
def jcwd (j : Nat) : Jvm.Cond := match jHH j with
  | none => .code (jY j) (jB j) (jmL j) (jRt j)
  | some hh => .codeWith (jY j) (jB j) (jmL j) (jRt j) hh
def jwsl (j : Nat) : List Jvm.Cond := jcwd j :: jW
def jrm (d k n : Nat) : Room := { frames := 12 + d, cells := k, slots := n, locals := 300 + 80 * d }
def jPc (G : jG) (ad : Nat → Nat) (μ : jM) (as : List Value) : Array Value → State → Prop := fun a U => a = (as.map (jpv G ad)).toArray ∧ jFB G U U.heap ∧ jMem G ad μ U.heap ∧ gbs G ≤ U.heap.size
def jMet (l : Launch) (G : jG) (d j : Nat) (as : List Value) (ad : Nat → Nat) (μ : jM) (o : jO) (μ' : jM) : Prop :=
  vx_Met l (jY j) (jwsl j) (jrm d (jnc μ' - jnc μ) (jns μ' - jns μ)) (jPc G ad μ as) (jQc G ad μ μ' o) (jXC G ad μ μ' o) (jnc μ' - jnc μ) (jns μ' - jns μ) (gA G)
theorem jmL_max : ∀ j, j < 276 → jmL j ≤ 40 := by
  have h : (List.range 276).all (fun j => Nat.ble (jmL j) 40) = true := by decide +kernel
  intro j hj
  exact Nat.le_of_ble_eq_true (List.all_eq_true.mp h j (List.mem_range.mpr hj))
def jclok (j : Nat) : Bool := decide ((jY j).cls = jKn (jYc j)) && (Nat.blt (jYc j) 19 && ((parseMethodDescriptor (jY j).desc).isSome && (jstatic j || (Nat.beq j m_Enum_ordinal || ((Nat.blt (jmC j) 13 && decide ((jCl[jmC j]?).map (·.1) = some (jY j).cls)) || (Nat.beq (jmC j) 41 && decide ((jY j).cls = "java/lang/String")))))))
theorem jclok_all : ∀ j, j < 276 → jclok j = true := by
  have h : (List.range 276).all jclok = true := by decide +kernel
  intro j hj
  exact List.all_eq_true.mp h j (List.mem_range.mpr hj)
theorem jck_all : ∀ c, c < 19 → ((jKn c ≠ "java/lang/invoke/MethodHandle" ∧ jKn c ≠ "java/lang/invoke/VarHandle") ∧ Jvm.plainName (jKn c) = true) := by
  have h : (List.range 19).all jcchk = true := by decide +kernel
  intro c hc
  exact of_decide_eq_true (List.all_eq_true.mp h c (List.mem_range.mpr hc))
theorem jY_ok {j : Nat} (hj : j < 276) : ((jY j).cls ≠ "java/lang/invoke/MethodHandle" ∧ (jY j).cls ≠ "java/lang/invoke/VarHandle") ∧ Jvm.plainName (jY j).cls = true := by
  have h := jclok_all j hj
  unfold jclok at h
  obtain ⟨h1, h⟩ := jand h
  obtain ⟨h2, -⟩ := jand h
  rw [of_decide_eq_true h1]
  exact jck_all _ (Nat.le_of_ble_eq_true h2)
theorem jY_par {j : Nat} (hj : j < 276) : (parseMethodDescriptor (jY j).desc).map (fun d => d.parameters.length) = some (jpar (jY j)) := by
  have h := jclok_all j hj
  unfold jclok at h
  obtain ⟨-, h⟩ := jand h
  obtain ⟨-, h⟩ := jand h
  obtain ⟨h, -⟩ := jand h
  obtain ⟨d, hd⟩ := Option.isSome_iff_exists.mp h
  unfold jpar
  rw [hd]
  rfl
/-- what the tables say of a method -/
theorem jmw_spec (hmk : ∀ i, i < 276 → jmchk i = true) {j : Nat} (hj : j < 276) (h0 : j ≠ 0) : jcwd j ∈ jW ∧ (bif jstatic j then Jvm.Cond.static (jY j) else Jvm.Cond.instanceMethod (jY j)) ∈ jW ∧ (jstatic j = true ∨ j = m_Enum_ordinal ∨ (jY j).name = "<init>" ∨ Jvm.Cond.selects (jY j).cls (jY j) (jY j) ∈ jW) ∧ Jvm.Cond.initialized (jY j).cls ∈ jW := by
  have h := hmk j hj
  unfold jmchk at h
  rw [Bool.or_eq_true] at h
  rcases h with h | h
  · exact absurd (jbeq h) h0
  · obtain ⟨h1, h⟩ := jand h
    obtain ⟨h2, h⟩ := jand h
    obtain ⟨h3, h4⟩ := jand h
    refine ⟨?_, ?_, ?_, jwin _ (of_decide_eq_true h4) rfl⟩
    · refine jwin _ (of_decide_eq_true h1) ?_
      unfold jcwd
      cases jHH j <;> rfl
    · refine jwin _ (of_decide_eq_true h2) ?_
      cases jstatic j <;> rfl
    · rw [Bool.or_eq_true, Bool.or_eq_true, Bool.or_eq_true] at h3
      rcases h3 with h3 | h3 | h3 | h3
      · exact Or.inl h3
      · exact Or.inr (Or.inl (jbeq h3))
      · exact Or.inr (Or.inr (Or.inl (of_decide_eq_true h3)))
      · exact Or.inr (Or.inr (Or.inr (List.mem_filter.mpr ⟨List.mem_of_getElem? (of_decide_eq_true h3), rfl⟩)))
theorem jinv_spec {i pc n : Nat} {E : jE} {st init : Bool} (h : jinv i pc n E st init = true) : E.2.1 = 3 ∧ E.2.2.1 < 276 ∧ E.2.2.1 ≠ 0 ∧ jml i pc n (bif Nat.beq E.2.2.1 m_Enum_ordinal then ⟨"CrossBar$Kind", "ordinal", "()I"⟩ else jY E.2.2.1) = true ∧ jstatic E.2.2.1 = st ∧ E.2.2.2.1 = jpar (jY E.2.2.1) + (bif st then 0 else 1) ∧ ((jY E.2.2.1).name = "<init>") = (init = true) ∧ (init = true → jRt E.2.2.1 = none) := by
  unfold jinv at h
  obtain ⟨h1, h⟩ := jand h
  obtain ⟨h2, h⟩ := jand h
  obtain ⟨h3, h⟩ := jand h
  obtain ⟨h4, h⟩ := jand h
  obtain ⟨h5, h⟩ := jand h
  obtain ⟨h6, h⟩ := jand h
  obtain ⟨h7, h8⟩ := jand h
  refine ⟨jbeq h1, Nat.le_of_ble_eq_true h2, fun z => ?_, h4, of_decide_eq_true h5, jbeq h6, of_decide_eq_true h7, fun z => ?_⟩
  · rw [z] at h3; cases h3
  · rw [z] at h8
    exact of_decide_eq_true h8
theorem jW_good : ∀ j : Nat, jcwd j ∈ jW → GoodIn jW (jwsl j) := by
  intro j hj w hw
  unfold jwsl at hw
  have h1 : w ∈ jW := by
    rcases List.mem_cons.mp hw with rfl | h
    · exact hj
    · exact h
  exact ⟨h1, good_of_word (List.mem_filter.mp h1).2⟩
theorem jPc_blind {G : jG} {ad : Nat → Nat} {μ : jM} {as : List Value} : FrameBlind (jPc G ad μ as) := by
  intro a U g mk h
  obtain ⟨h1, h2, h3, h4⟩ := h
  exact ⟨h1, jFB_go (U := U.calling g mk a) h2 (State.WarmedH.refl U) (fun _ _ _ => rfl), h3, h4⟩
section SNC
variable {p : Program} {l : Launch} {e : Env} {R : Room} {s : State} {m : MethodId} {args : Array Value} {below : List Frame} {meth : Method} {c : Code} {Q : State → Prop}
variable {G : jG} {i : Nat} {k0 s0 : Nat} {μ0 : jM} {ad0 : Nat → Nat}
theorem jPc_at {ad : Nat → Nat} {μ : jM} {H : Heap} {locs : List Loc} {as : List Value} {a : Array Value} (hFB : jFB G s s.heap) (hgb : gbs G ≤ s.heap.size) (hM : jMem G ad μ H) (hS : va_S (gA G) s.heap H locs) (ha : a = (as.map (jpv G ad)).toArray) : ∀ U : State, U.heap = H → s.WarmedH U.vm → jPc G ad μ as a U := by
  intro U hU hW
  refine ⟨ha, ?_, by rw [hU]; exact hM, by rw [hU]; exact Nat.le_trans hgb hS.1⟩
  rw [hU]
  exact jFB_go hFB hW (fun q h1 h2 => hS.2.1 q h1 h2)
/-- what goes on behind a call that has run -/
def jKK (G : jG) (i : Nat) (p : Program) (l : Launch) (e : Env) (R : Room) (s : State) (m : MethodId) (args : Array Value) (below : List Frame) (meth : Method) (c : Code) (Q : State → Prop) (k0 s0 : Nat) (μ0 : jM) (ad0 : Nat → Nat) (pc : Nat) (ls : List (Option Value)) (r : List Value) (μ2 : jM) (o2 : jO) : Prop := match o2 with
  | .inl v => jGo G i p l e R s m args below meth c Q k0 s0 μ0 ad0 (pc + 3) ls (v.toList ++ r) μ2
  | .inr cc => cc < 3 → jGoX G i p l e R s m args below meth c Q k0 s0 μ0 ad0 pc ls r μ2 cc
theorem jafter {pc : Nat} {ls : List (Option Value)} {st r : List Value} {μ μ2 : jM} {o2 : jO} {A : Array Value} {ad : Nat → Nat} {H : Heap} {locs : List Loc} {cells slots : Nat} {lsA : Array Slot} (kk : jKK G i p l e R s m args below meth c Q k0 s0 μ0 ad0 pc ls r μ2 o2) (hgr : jgr μ μ2)
    (g1 : jxt μ0 ad0 ad) (g2 : ∀ x, jok μ0 x → jok μ x) (g4 : va_S (gA G) s.heap H locs) (g5 : jLoc G ad μ lsA (jmL i) ls) (g6 : jStk μ r) (g7 : cells + k0 = jnc μ) (g8 : slots + s0 = jns μ)
    (hr : vx_Run p l e R s m args below meth c H locs cells slots (jnc μ2 - jnc μ) (jns μ2 - jns μ) (F0 m pc lsA (st.map (jpv G ad))) (r.map (jpv G ad)) (jQc G ad μ μ2 o2 A) (jXC G ad μ μ2 o2) (gA G)) :
    W p l e R s m args below meth c H locs cells slots Q (F0 m pc lsA (st.map (jpv G ad))) := by
  intro T hT X
  have n1 := hgr.2.1
  have n2 := hgr.2.2
  have hok : ∀ x, jok μ x → jok μ2 x := fun x hx => jgr_ok hgr hx
  rcases hr T hT X with ⟨v, st₀, t, T', L, h0, X', hL, e1, e2, hQ, stp⟩ | ⟨q, st₀, t, T', L, E, ce, h0, X', hL, e1, e2, hXC, hce, hcv, hcl, stp⟩
  · obtain ⟨v', ad', rfl, hv, x1, x2, x3, x4⟩ := hQ
    cases hv
    obtain ⟨f1, f2, f3⟩ := vx_keep (A0 := gA G) (A1 := gA G) (free := gA G) h0 e1 g4 (fun q _ h => h) (fun q h => h) hL x4
    have hst : jStk μ2 (v'.toList ++ r) := by
      intro w hw
      rcases List.mem_append.mp hw with hw | hw
      · exact x2 w (by cases v' with
          | none => cases hw
          | some z => rw [List.mem_singleton.mp hw])
      · exact jStk_mono hok g6 w hw
    obtain ⟨t2, a1, b1⟩ := kk ad' T'.heap (locs ++ L) (cells + (jnc μ2 - jnc μ)) (slots + (jns μ2 - jns μ)) lsA (fun x hx => by rw [x1 x (g2 x hx)]; exact g1 x hx) (fun x hx => hok x (g2 x hx)) (by rw [e1]; exact x3) f3 (jLoc_xt x1 hok g5) hst (by omega) (by omega) T' rfl X'
    refine ⟨t2, stp t2 ?_, b1⟩
    have es : (v'.toList ++ r).map (jpv G ad') = (v'.map (jpv G ad')).toList ++ r.map (jpv G ad) := by
      rw [List.map_append, jStk_xt x1 g6]
      cases v' <;> rfl
    rw [es] at a1
    exact a1
  · obtain ⟨cc, ad', rfl, hc3, rfl, x1, x3, x4⟩ := hXC
    obtain ⟨f1, f2, f3⟩ := vx_keep (A0 := gA G) (A1 := gA G) (free := gA G) h0 e1 g4 (fun q _ h => h) (fun q h => h) hL x4
    obtain ⟨t2, a1, b1⟩ := kk hc3 ad' T'.heap (locs ++ L) (cells + (jnc μ2 - jnc μ)) (slots + (jns μ2 - jns μ)) lsA q ce (fun x hx => by rw [x1 x (g2 x hx)]; exact g1 x hx) (fun x hx => hok x (g2 x hx)) (by rw [e1]; exact x3) f3 (jLoc_xt x1 hok g5) (jStk_mono hok g6) (by omega) (by omega) (by rw [e1]; exact hce) hcv hcl T' rfl X'
    rw [jStk_xt x1 g6] at a1
    exact ⟨t2, stp.trans a1, b1⟩
/-- the receiver's cell -/
theorem jrecv {ad : Nat → Nat} {μ : jM} {H : Heap} {locs : List Loc} {x j : Nat} (hFB : jFB G s s.heap) (hM : jMem G ad μ H) (hS : va_S (gA G) s.heap H locs) (hx : jok μ x) (hj : j < 276) (hst : jstatic j = false) (hne : j ≠ m_Enum_ordinal) (hc : x % 64 = jmC j) : ∃ cell : Cell, H[ad x]? = some cell ∧ cell.vm.isStatics = false ∧ s.vm.findClass (jY j).cls = some cell.cls := by
  have h := jclok_all j hj
  unfold jclok at h
  obtain ⟨-, h⟩ := jand h
  obtain ⟨-, h⟩ := jand h
  obtain ⟨-, h⟩ := jand h
  rw [hst, Bool.false_or, jbne hne, Bool.false_or, Bool.or_eq_true] at h
  rcases h with h | h
  · obtain ⟨h1, h2⟩ := jand h
    have h1 : jmC j < 13 := Nat.le_of_ble_eq_true h1
    have h2 := of_decide_eq_true h2
    obtain ⟨q, hq⟩ := jCl_some h1
    rw [hq] at h2
    obtain ⟨q0, hq0⟩ := jobj_at hM hx (by omega) (by rw [hc]; exact hq)
    obtain ⟨cell, c1, c2, c3⟩ := va_recv (jFB_K hFB) hM.1 (by rw [hc]; exact hq) hq0
    exact ⟨cell, c1, c2, by rw [← Option.some.inj h2]; exact c3⟩
  · obtain ⟨h1, h2⟩ := jand h
    have h1 : jmC j = 41 := jbeq h1
    have h2 := of_decide_eq_true h2
    have hxc := jok_c hM hx (by omega)
    have hlt := jcst_str hxc (by omega)
    have hfb := hFB
    obtain ⟨-, -, -, -, hO, -⟩ := hfb
    obtain ⟨cell, c1, c2, c3, c4⟩ := hO (x / 64) hlt
    have ex : 41 + 64 * (x / 64) = x := by omega
    rw [ex] at c1 c4
    refine ⟨cell, ?_, c2, by rw [h2]; exact c3⟩
    rw [jad_c hM hxc, hS.2.1 _ (Array.getElem?_eq_some_iff.mp c1).1 c4]
    exact c1
theorem jcall_inv {E : jE} {pc : Nat} {ls : List (Option Value)} {st : List Value} {virt : Bool} {j : Nat} {as : List Value} {pc' : Nat} {ls' : List (Option Value)} {r : List Value} (h : jcall E pc ls st virt = some (.inr (.inr (j, as, pc', ls', r)))) :
    j = E.2.2.1 ∧ pc' = pc + 3 ∧ ls' = ls ∧ st = as.reverse ++ r ∧ as.length = E.2.2.2.1 ∧ jcat r ≤ 8 ∧ (virt = true → jrcv j as = true) ∧ (jspr as).length ≤ jmL j := by
  unfold jcall at h
  obtain ⟨h0, h⟩ := jbif h
  cases h
  obtain ⟨h1, h0⟩ := jand h0
  obtain ⟨h2, h0⟩ := jand h0
  obtain ⟨h3, h4⟩ := jand h0
  have h1 := Nat.le_of_ble_eq_true h1
  refine ⟨rfl, rfl, rfl, ?_, ?_, Nat.le_of_ble_eq_true h2, fun hv => ?_, Nat.le_of_ble_eq_true h4⟩
  · rw [List.reverse_reverse, List.take_append_drop]
  · rw [List.length_reverse, List.length_take]
    omega
  · rw [hv] at h3
    exact h3
theorem jrcv_inv {j : Nat} {as : List Value} (h : jrcv j as = true) : ∃ x as', as = .ref x :: as' ∧ x % 64 = jmC j := by
  unfold jrcv at h
  split at h
  · exact ⟨_, _, rfl, jbeq h⟩
  · cases h
end SNC
