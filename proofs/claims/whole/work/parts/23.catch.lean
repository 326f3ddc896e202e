/-! CALLS, the fourth part: any step inside a method; handlers. -/
section SNP
variable {p : Program} {l : Launch} {e : Env} {R : Room} {s : State} {m : MethodId} {args : Array Value} {below : List Frame} {meth : Method} {c : Code} {Q : State → Prop}
variable {G : jG} {i : Nat} {k0 s0 : Nat} {μ0 : jM} {ad0 : Nat → Nat}
theorem jcall_no {E : jE} {pc : Nat} {ls : List (Option Value)} {st : List Value} {b : Bool} {q : jF} (h : jcall E pc ls st b = some (.inl q)) : False := by
  unfold jcall at h
  obtain ⟨-, h⟩ := jbif h
  cases h
set_option maxHeartbeats 4000000 in
theorem snd_step (C : jCtx G i p l s m args meth c) {E : jE} {pc pc' : Nat} {ls ls' : List (Option Value)} {st st' : List Value} {μ μ' : jM} (hE : jchk i pc E = true) (hs : jstep E pc ls st μ = some (.inl (pc', ls', st', μ'))) (hRm : 60 ≤ R.locals ∧ 1 ≤ R.frames) (hR : jnc μ' ≤ R.cells + k0 ∧ jns μ' ≤ R.slots + s0)
    (k : jGo G i p l e R s m args below meth c Q k0 s0 μ0 ad0 pc' ls' st' μ') : jGo G i p l e R s m args below meth c Q k0 s0 μ0 ad0 pc ls st μ := by
  obtain ⟨ins, len, a, b, v, sw⟩ := E
  cases ins
  case getfield n => exact snd_getfield C hE hs k
  case putfield n => exact snd_putfield C hE hs k
  case getstatic n => exact snd_getstatic C hE hs k
  case iaload => exact snd_iaload C hE hs k
  case baload => exact snd_baload C hE hs k
  case laload => exact snd_laload C hE hs k
  case aaload => exact snd_aaload C hE hs k
  case arraylength => exact snd_arraylength C hE hs k
  case if_acmp cd o => exact snd_acmp C hE hs k
  case ldc n => exact snd_ldc C hE hs k
  case ldc2_w n => exact snd_ldc2 C hE hs k
  case iastore => exact snd_iastore C hE hs k
  case bastore => exact snd_bastore C hE hs k
  case lastore => exact snd_lastore C hE hs k
  case aastore => exact snd_aastore C hE hs k
  case new n => exact snd_new C hE hs hR k
  case newarray t => exact snd_newarray C hE hs hR k
  case anewarray t => exact snd_anewarray C hE hs hR k
  case multianewarray t d => exact snd_multi C hE hs hR k
  case invokestatic n => exact snd_static C hE hs hRm hR k
  case invokespecial n => exact snd_objinit C hE hs hRm k
  case invokevirtual n => exact (jcall_no hs).elim
  all_goals first
    | (cases hs; done)
    | exact snd_plain C rfl hE hs k
    | skip
  all_goals exfalso
  all_goals simp only [jstep] at hs
  all_goals first
    | (cases hs; done)
    | (split at hs <;> first | (cases hs; done) | (obtain ⟨-, hs⟩ := jbif hs; cases hs; done) | (unfold jret at hs; cases hs; done))
    | (unfold jret at hs; cases hs; done)
/-- q, of the class cc, is thrown over this frame -/
def jGoX (G : jG) (i : Nat) (p : Program) (l : Launch) (e : Env) (R : Room) (s : State) (m : MethodId) (args : Array Value) (below : List Frame) (meth : Method) (c : Code) (Q : State → Prop) (k0 s0 : Nat) (μ0 : jM) (ad0 : Nat → Nat) (pc : Nat) (ls : List (Option Value)) (st : List Value) (μ : jM) (cc : Nat) : Prop :=
  ∀ (ad : Nat → Nat) (H : Heap) (locs : List Loc) (cells slots : Nat) (lsA : Array Slot) (q : Nat) (ce : Cell), jxt μ0 ad0 ad → (∀ x, jok μ0 x → jok μ x) → jMem G ad μ H → va_S (gA G) s.heap H locs → jLoc G ad μ lsA (jmL i) ls → jStk μ st → cells + k0 = jnc μ → slots + s0 = jns μ →
    H[q]? = some ce → ce.vm = .none → s.vm.findClass (jexn cc) = some ce.cls → vx_W p l e R s m args below meth c H locs cells slots Q (F0 m pc lsA (st.map (jpv G ad))) q
def jhc1 (i : Nat) (q : Nat × Nat × Nat × Nat) (r : Nat × Nat × Nat × Nat × Nat) : Bool :=
  Nat.beq q.1 r.1 && (Nat.beq q.2.1 r.2.1 && (Nat.blt r.2.2.1 3 && (!Nat.beq q.2.2.2 0 && (decide ((.classLink (jY i).cls q.2.2.2 (jexn r.2.2.1) : Jvm.Cond) ∈ lw_tbl) && (Nat.blt r.2.2.2.2 (jmL i) && (match decode (jB i) q.2.2.1 with
    | .ok (.astore_n y, n) => Nat.beq n 1 && (Nat.beq (y : Nat) r.2.2.2.2 && Nat.beq r.2.2.2.1 (q.2.2.1 + 1))
    | .ok (.astore y, n) => Nat.beq n 2 && (Nat.beq y r.2.2.2.2 && Nat.beq r.2.2.2.1 (q.2.2.1 + 2))
    | _ => false))))))
def jhcs (i : Nat) : List (Nat × Nat × Nat × Nat) → List (Nat × Nat × Nat × Nat × Nat) → Bool
  | [], [] => true
  | q :: qs, r :: rs => jhc1 i q r && jhcs i qs rs
  | _, _ => false
def jhck (i : Nat) : Bool := match jHH i with
  | none => decide (jhs i = [])
  | some hh => jhcs i hh (jhs i) && (decide (jhs i ≠ []) && (jstatic i && decide ((jY i).cls = "CrossBarLaw")))
theorem jhck_all : ∀ i, i < 276 → jhck i = true := by
  have h : (List.range 276).all jhck = true := by decide +kernel
  intro i hi
  exact List.all_eq_true.mp h i (List.mem_range.mpr hi)
theorem jhc1_spec {i : Nat} {q : Nat × Nat × Nat × Nat} {r : Nat × Nat × Nat × Nat × Nat} (h : jhc1 i q r = true) : q.1 = r.1 ∧ q.2.1 = r.2.1 ∧ r.2.2.1 < 3 ∧ q.2.2.2 ≠ 0 ∧ (.classLink (jY i).cls q.2.2.2 (jexn r.2.2.1) : Jvm.Cond) ∈ jW ∧ r.2.2.2.2 < jmL i ∧
    ((∃ y : Fin 4, decode (jB i) q.2.2.1 = .ok (.astore_n y, 1) ∧ (y : Nat) = r.2.2.2.2 ∧ r.2.2.2.1 = q.2.2.1 + 1) ∨ (decode (jB i) q.2.2.1 = .ok (.astore r.2.2.2.2, 2) ∧ r.2.2.2.1 = q.2.2.1 + 2)) := by
  unfold jhc1 at h
  obtain ⟨h1, h⟩ := jand h
  obtain ⟨h2, h⟩ := jand h
  obtain ⟨h3, h⟩ := jand h
  obtain ⟨h4, h⟩ := jand h
  obtain ⟨h5, h⟩ := jand h
  obtain ⟨h6, h⟩ := jand h
  refine ⟨jbeq h1, jbeq h2, Nat.le_of_ble_eq_true h3, ?_, List.mem_filter.mpr ⟨of_decide_eq_true h5, rfl⟩, Nat.le_of_ble_eq_true h6, ?_⟩
  · intro z
    rw [z] at h4
    cases h4
  · split at h
    · next y n hy =>
      obtain ⟨a1, h⟩ := jand h
      obtain ⟨a2, a3⟩ := jand h
      have a1 : n = 1 := jbeq a1
      subst a1
      exact Or.inl ⟨y, hy, jbeq a2, jbeq a3⟩
    · next y n hy =>
      obtain ⟨a1, h⟩ := jand h
      obtain ⟨a2, a3⟩ := jand h
      have a1 : n = 2 := jbeq a1
      have a2 : y = r.2.2.2.2 := jbeq a2
      subst a1
      subst a2
      exact Or.inr ⟨hy, jbeq a3⟩
    · cases h
theorem jhnd_spec {i pc cc t k : Nat} : ∀ (hh : List (Nat × Nat × Nat × Nat)) (rs : List (Nat × Nat × Nat × Nat × Nat)), jhcs i hh rs = true → jhnd rs pc cc = some (t, k) →
    ∃ (pre : List ExceptionTableEntry) (x : ExceptionTableEntry) (suf : List ExceptionTableEntry), tableOf hh = pre ++ x :: suf ∧ (∀ z ∈ pre, covers z pc = false ∨ (z.catchType ≠ 0 ∧ ∃ k', k' < 3 ∧ cc ≠ k' ∧ (.classLink (jY i).cls z.catchType (jexn k') : Jvm.Cond) ∈ jW)) ∧ covers x pc = true ∧ x.catchType ≠ 0 ∧ (.classLink (jY i).cls x.catchType (jexn cc) : Jvm.Cond) ∈ jW ∧ cc < 3 ∧ k < jmL i ∧
      ((∃ y : Fin 4, decode (jB i) x.handlerPc = .ok (.astore_n y, 1) ∧ (y : Nat) = k ∧ t = x.handlerPc + 1) ∨ (decode (jB i) x.handlerPc = .ok (.astore k, 2) ∧ t = x.handlerPc + 2))
  | [], [], _, h => by cases h
  | [], _ :: _, h, _ => by cases h
  | _ :: _, [], h, _ => by cases h
  | q :: qs, r :: rs, h, hj => by
    obtain ⟨h1, h2⟩ := jand h
    obtain ⟨e1, e2, e3, e4, e5, e6, e7⟩ := jhc1_spec h1
    obtain ⟨qa, qb, qh, qt⟩ := q
    obtain ⟨ra, rb, rk, rt, rx⟩ := r
    simp only at e1 e2 e3 e4 e5 e6 e7
    subst e1
    subst e2
    unfold jhnd at hj
    cases hb : (Nat.ble qa pc && (Nat.blt pc qb && Nat.beq rk cc)) with
    | true =>
      rw [hb] at hj
      simp only [cond_true] at hj
      cases hj
      obtain ⟨b1, b2⟩ := jand hb
      obtain ⟨b4, b3⟩ := jand b2
      have b3 : rk = cc := jbeq b3
      subst b3
      refine ⟨[], ⟨qa, qb, qh, qt⟩, tableOf qs, rfl, fun z hz => (by cases hz), ?_, e4, e5, e3, e6, e7⟩
      show (decide (qa ≤ pc) && decide (pc < qb)) = true
      rw [Bool.and_eq_true, decide_eq_true_eq, decide_eq_true_eq]
      exact ⟨Nat.le_of_ble_eq_true b1, Nat.le_of_ble_eq_true b4⟩
    | false =>
      rw [hb] at hj
      simp only [cond_false] at hj
      obtain ⟨pre, x, suf, f1, f2, f3⟩ := jhnd_spec qs rs h2 hj
      refine ⟨⟨qa, qb, qh, qt⟩ :: pre, x, suf, by show _ :: tableOf qs = _; rw [f1]; rfl, fun z hz => ?_, f3⟩
      rcases List.mem_cons.mp hz with rfl | hz
      · by_cases hk : cc = rk
        · refine Or.inl ?_
          show (decide (qa ≤ pc) && decide (pc < qb)) = false
          cases hc : (decide (qa ≤ pc) && decide (pc < qb)) with
          | false => rfl
          | true =>
            exfalso
            obtain ⟨c1, c2⟩ := jand hc
            have g1 : Nat.ble qa pc = true := Nat.ble_eq_true_of_le (of_decide_eq_true c1)
            have g2 : Nat.blt pc qb = true := Nat.ble_eq_true_of_le (of_decide_eq_true c2)
            have g3 : Nat.beq rk cc = true := by rw [hk]; exact Nat.beq_refl rk
            rw [g1, g2, g3] at hb
            cases hb
        · exact Or.inr ⟨e4, rk, e3, hk, e5⟩
      · exact f2 z hz
theorem jLoc_st0 {ad : Nat → Nat} {μ : jM} {lsA lsB : Array Slot} {n a : Nat} {ls : List (Option Value)} {w : Value} (hsio : (gsio G).isRef = true) (h : jLoc G ad μ lsA n ls)
    (hB : lv_has lsB n ((a, w) :: (jlist G ad n ls).filter (fun q => !(q.1 == a) && !(q.1 + 1 == a && q.2.category == 2)))) : jLoc G ad μ lsB n ((jclr ls a).set a none) := by
  obtain ⟨h1, h2, h3, h4⟩ := h
  obtain ⟨b1, b2, b3⟩ := hB
  refine ⟨by rw [List.length_set, jclr_len]; exact h1, b1, b2, fun k v hk => ?_⟩
  by_cases e : a = k
  · subst e
    rw [List.getElem?_set] at hk
    simp at hk
  · rw [List.getElem?_set_ne e] at hk
    obtain ⟨g1, g2⟩ := jclr_get hk
    refine ⟨b3 (k, jpv G ad v) (List.mem_cons_of_mem _ (List.mem_filter.mpr ⟨jlist_mem h1 g1, ?_⟩)), (h4 k v g1).2⟩
    simp only [Bool.and_eq_true, Bool.not_eq_true', beq_eq_false_iff_ne, ne_eq, Bool.and_eq_false_iff]
    refine ⟨fun q => e q.symm, ?_⟩
    rw [jpv_cat hsio]
    by_cases q : k + 1 = a
    · exact Or.inr fun z => g2 ⟨q, z⟩
    · exact Or.inl q
set_option maxHeartbeats 4000000 in
theorem snd_catch (C : jCtx G i p l s m args meth c) {hh : List (Nat × Nat × Nat × Nat)} (hT : c.exceptionTable.toList = tableOf hh) (hck : jhcs i hh (jhs i) = true) {pc cc t k : Nat} (hj : jhnd (jhs i) pc cc = some (t, k)) {ls : List (Option Value)} {st : List Value} {μ : jM}
    (kk : jGo G i p l e R s m args below meth c Q k0 s0 μ0 ad0 t ((jclr ls k).set k none) [] μ) : jGoX G i p l e R s m args below meth c Q k0 s0 μ0 ad0 pc ls st μ cc := by
  obtain ⟨hx, hb, hml, hown, hts, hlk, hFB, -⟩ := C
  obtain ⟨pre, x, suf, f1, f2, f3, f4, f5, f6, f7, f8⟩ := jhnd_spec hh (jhs i) hck hj
  have hfb := hFB
  obtain ⟨-, -, -, -, -, -, -, -, -, -, -, -, -, -, hcst, -⟩ := hfb
  intro ad H locs cells slots lsA q ce g1 g2 g3 g4 g5 g6 g7 g8 hce hcv hcl
  refine vx_catch (own := (jY i).cls) (name := jexn cc) (E := jexn cc) (ce := ce) hown pre x suf (hT.trans f1) ?_ f3 f4 (hts _ f5) (va_Nw.use rfl ((hcst cc cc f6 f6).1 rfl)) hce hcv hcl ?_
  · intro z hz
    rcases f2 z hz with h | ⟨h1, k', h2, h3, h4⟩
    · exact Or.inl h
    · exact Or.inr ⟨h1, jexn k', hts _ h4, (hcst cc k' f6 h2).2 h3⟩
  · rcases f8 with ⟨y, d1, d2, d3⟩ | ⟨d1, d3⟩
    · refine lv_astore_n hx hb d1 d2 (jLoc_has g5) f7 rfl fun lsB hB => ?_
      rw [← d3]
      exact kk ad H locs cells slots lsB g1 g2 g3 g4 (jLoc_st0 (jsio hFB) g5 hB) (fun v hv => (by cases hv)) g7 g8
    · refine lv_astore hx hb d1 (jLoc_has g5) f7 rfl fun lsB hB => ?_
      rw [← d3]
      exact kk ad H locs cells slots lsB g1 g2 g3 g4 (jLoc_st0 (jsio hFB) g5 hB) (fun v hv => (by cases hv)) g7 g8
end SNP
