/-! CALLS, the first part: facts that go on into a callee; the locals at its entry; a memory grows. -/
theorem jAOA_spec {args : Array Value} {s : State} {t : FieldType} (h : (Cond.arrayOver (.array t)).before args s = true) :
    ∃ comp c k, s.vm.findClass (FieldType.array t).toString = some comp ∧ (s.vm.classes.findIdx? fun x => match x.kind with | .array component _ => component == comp | _ => false) = some c ∧ s.vm.classes[c]? = some k ∧ k.kind = .array comp (.array t) ∧ s.vm.findClass ("[" ++ (FieldType.array t).toString) = some c := by
  unfold Cond.before at h
  simp only [Cond.holds, Cond.value, beq_iff_eq] at h
  cases hc : s.vm.findClass (FieldType.array t).toString with
  | none => simp [hc] at h
  | some comp =>
    simp only [hc, Option.bind_some, Option.bind_eq_some_iff, Option.map_eq_some_iff] at h
    obtain ⟨c, hi, k, hk, hb⟩ := h
    obtain ⟨hlt, hp, -⟩ := Array.findIdx?_eq_some_iff_getElem.mp hi
    have hk2 : s.vm.classes[c] = k := by
      rw [Array.getElem?_eq_getElem hlt] at hk
      exact Option.some.inj hk
    rw [hk2] at hp
    cases hkk : k.kind with
    | array comp' ty =>
      rw [hkk] at hp hb
      simp only [beq_iff_eq] at hp
      simp only [Bool.and_eq_true, decide_eq_true_eq] at hb
      refine ⟨comp, c, k, rfl, hi, hk, ?_, hb.2⟩
      rw [hkk, hp, hb.1]
    | _ => rw [hkk] at hp; simp at hp
theorem jidx_bare (vm : Vm) (comp : ClassId) : (vm.bare.classes.findIdx? fun (x : Class) => match x.kind with | .array component _ => component == comp | _ => false) = (vm.classes.findIdx? fun (x : Class) => match x.kind with | .array component _ => component == comp | _ => false) := by
  simp only [Vm.bare, Array.findIdx?_map]
  rfl
theorem va_AOA.moved {t : FieldType} {u U : State} (hvm : u.vm.Alike U.vm) (h : va_AOA t u) : va_AOA t U := by
  obtain ⟨comp, c, k, h1, h2, h3, h4, h5⟩ := jAOA_spec h
  obtain ⟨k', hk', he⟩ := hvm.2.2 _ _ h3
  have hi : (U.vm.classes.findIdx? fun (x : Class) => match x.kind with | .array component _ => component == comp | _ => false) = some c := by
    rw [← jidx_bare]
    first | rw [hvm.bare_eq] | rw [← hvm.bare_eq]
    rw [jidx_bare]
    exact h2
  have hkind : k'.kind = .array comp (.array t) := by rw [he]; exact h4
  have f1 : U.vm.findClass (FieldType.array t).toString = some comp := by rw [hvm.findClass]; exact h1
  have f2 : U.vm.findClass ("[" ++ (FieldType.array t).toString) = some c := by rw [hvm.findClass]; exact h5
  unfold va_AOA Cond.before Cond.holds
  simp only [Cond.value]
  rw [f1, Option.bind_some]
  refine (congrArg (fun o : Option Nat => (o.bind (fun c => (U.vm.classes[c]?).map fun (k : Class) => match k.kind with | .array _ ty => decide (ty = FieldType.array t) && decide (U.vm.findClass ("[" ++ (FieldType.array t).toString) = some c) | _ => false) == some true)) hi).trans ?_
  simp [hk', hkind, f2]
theorem jnest_warm {w : Jvm.Cond} {s U : State} (hn : jnest w = true) (hW : s.WarmedH U.vm) (h : va_Nw w s) : va_Nw w U := by
  cases w <;> first | (cases hn; done) | exact va_Nw.warmF hW h | exact va_Nw.warmM hW h | exact va_Nw.warmD hW h
/-- the facts go on: to a warmer machine, a heap that differs in A alone -/
theorem jFB_go {G : jG} {s U : State} {H H1 : Heap} (h : jFB G s H) (hW : s.WarmedH U.vm) (hk : ∀ a : Nat, a < H.size → ¬ gA G a → H1[a]? = H[a]?) : jFB G U H1 := by
  have hv := hW.alike
  obtain ⟨h1, h2, h3, h4, h5, h6, h7, h8, h9, h10, h11, h12, h13, h14, h15, h16⟩ := h
  exact ⟨h1.moved hv, fun E hE => ((h2 E hE).moved hv).kept hk, fun x b hb => ((h3 x b hb).moved hv).kept hk, fun k hk1 => ((h4 k hk1).moved hv).kept hk, fun k hk1 => ((h5 k hk1).moved hv).kept hk,
    (h6.moved hv).kept hk, (h7.moved hv).kept hk, (h8.moved hv).kept hk, fun k hk1 => ((h9 k hk1).moved hv).kept hk, ⟨(h10.1.moved hv).kept hk, h10.2⟩, ⟨(h11.1.moved hv).kept hk, (h11.2.moved hv).kept hk⟩,
    ⟨fun own k tx ht => (h12.1 own k tx ht).imp fun sa hsa => vk_R.warm hW hsa, vk_R.warm hW h12.2⟩, fun w hw hn => jnest_warm hn hW (h13 w hw hn), ⟨h14.1.moved hv, h14.2.moved hv⟩,
    fun c c' hc hc' => ⟨fun e => va_Nw.warmC hW ((h15 c c' hc hc').1 e), fun e => ((h15 c c' hc hc').2 e).moved hv⟩, h16⟩
/-! the locals at the entry -/
theorem jspr_len {G : jG} {ad : Nat → Nat} (hs : (gsio G).isRef = true) : ∀ as : List Value, (lg_sl (as.map (jpv G ad))).length = (jspr as).length
  | [] => rfl
  | v :: r => by
    have ih := jspr_len (ad := ad) hs r
    have hc := jpv_cat (ad := ad) (v := v) hs
    unfold lg_sl at ih ⊢
    rw [List.map_cons, List.flatMap_cons, List.length_append, ih, hc]
    cases v <;> simp [Value.category, jspr] <;> omega
theorem jspr_get {G : jG} {ad : Nat → Nat} (hs : (gsio G).isRef = true) : ∀ (as : List Value) (k : Nat) (v : Value) (o : Nat), (jspr as)[k]? = some (some v) → (o + k, jpv G ad v) ∈ lv_args o (as.map (jpv G ad)) ∧ v ∈ as
  | [], k, v, o, h => by simp [jspr] at h
  | w :: r, k, v, o, h => by
    have ih := fun k' o' h' => jspr_get (ad := ad) hs r k' v o' h'
    have hc := jpv_cat (ad := ad) (v := w) hs
    rw [List.map_cons]
    unfold lv_args
    rw [hc]
    have one : w.category = 1 → jspr (w :: r) = some w :: jspr r := by
      intro hw
      cases w <;> first | rfl | (simp [Value.category] at hw)
    have two : w.category = 2 → jspr (w :: r) = some w :: none :: jspr r := by
      intro hw
      cases w <;> first | rfl | (simp [Value.category] at hw)
    rcases lv_cat w with hw | hw
    · rw [one hw] at h
      rw [hw, if_neg (by decide)]
      cases k with
      | zero =>
        cases h
        exact ⟨List.mem_cons_self, List.mem_cons_self⟩
      | succ k =>
        obtain ⟨g1, g2⟩ := ih k (o + 1) h
        refine ⟨List.mem_cons_of_mem _ ?_, List.mem_cons_of_mem _ g2⟩
        rw [show o + (k + 1) = o + 1 + k by omega]
        exact g1
    · rw [two hw] at h
      rw [hw, if_pos rfl]
      match k with
      | 0 =>
        cases h
        exact ⟨List.mem_cons_self, List.mem_cons_self⟩
      | 1 => cases h
      | k + 2 =>
        obtain ⟨g1, g2⟩ := ih k (o + 2) h
        refine ⟨List.mem_cons_of_mem _ ?_, List.mem_cons_of_mem _ g2⟩
        rw [show o + (k + 2) = o + 2 + k by omega]
        exact g1
theorem jent_loc {G : jG} {ad : Nat → Nat} {μ : jM} {j : Nat} {as : List Value} (hs : (gsio G).isRef = true) (hv : jStk μ as) (hl : (jspr as).length ≤ jmL j) :
    jLoc G ad μ ((lg_sl (as.map (jpv G ad)) ++ List.replicate (jmL j - (lg_sl (as.map (jpv G ad))).length) Slot.unset).toArray) (jmL j) (jent j as) := by
  have hlen := jspr_len (ad := ad) hs as
  obtain ⟨b1, b2, b3⟩ := lv_entry (as.map (jpv G ad)) (n := jmL j) (by rw [hlen]; exact hl)
  refine ⟨by unfold jent; rw [List.length_append, List.length_replicate]; omega, b1, b2, fun k v hk => ?_⟩
  unfold jent at hk
  rcases Nat.lt_or_ge k (jspr as).length with h | h
  · rw [List.getElem?_append_left h] at hk
    obtain ⟨g1, g2⟩ := jspr_get (ad := ad) hs as k v 0 hk
    rw [Nat.zero_add] at g1
    exact ⟨b3 _ g1, hv v g2⟩
  · rw [List.getElem?_append_right h, List.getElem?_replicate] at hk
    split at hk <;> cases hk
/-! a memory grows -/
def jgr (μ μ' : jM) : Prop := (∀ x, x ∈ jA μ → x ∈ jA μ') ∧ jnc μ ≤ jnc μ' ∧ jns μ ≤ jns μ'
theorem jgr_refl (μ : jM) : jgr μ μ := ⟨fun _ h => h, Nat.le_refl _, Nat.le_refl _⟩
theorem jgr_trans {a b c : jM} (h1 : jgr a b) (h2 : jgr b c) : jgr a c := ⟨fun x h => h2.1 x (h1.1 x h), Nat.le_trans h1.2.1 h2.2.1, Nat.le_trans h1.2.2 h2.2.2⟩
theorem jgr_same {μ μ' : jM} {x : Nat} (h : jsame μ μ' x) : jgr μ μ' := by
  refine ⟨fun y hy => by rw [h.1]; exact hy, ?_, ?_⟩
  · unfold jnc; rw [h.1, h.2.1]; exact Nat.le_refl _
  · unfold jns; rw [h.1, h.2.1]; exact Nat.le_refl _
theorem jgr_new (μ : jM) (c : Nat) : jgr μ (jnew μ c) := ⟨fun x h => List.mem_append_left _ h, by rw [jnc_new]; omega, by rw [jns_new]; omega⟩
theorem jgr_thr (μ : jM) : jgr μ (jthr μ) := by
  refine ⟨fun x h => h, ?_, ?_⟩
  · show (jA μ).length + jX μ ≤ (jA μ).length + (jX μ + 1); omega
  · show ((jA μ).map jsz).sum + 6 * jX μ ≤ ((jA μ).map jsz).sum + 6 * (jX μ + 1); omega
theorem jgr_rows (o c : Nat) : ∀ (n k : Nat) (μ : jM), jgr μ (jrows o c n k μ)
  | 0, _, μ => jgr_refl μ
  | n + 1, k, μ => jgr_trans (jgr_trans (jgr_new μ c) (jgr_same (jsame_Q (jnew μ c) o k (some (jadr μ c))))) (jgr_rows o c n (k + 1) _)
theorem jgr_ok {μ μ' : jM} (h : jgr μ μ') {x : Nat} (hx : jok μ x) : jok μ' x := hx.imp (h.1 x) id
theorem jN_gr {pc : Nat} {ls : List (Option Value)} {st : List Value} {μ μ1 : jM} {t : jT} (h : jN pc ls st μ1 = some t) (hg : jgr μ μ1) : (∀ pc' ls' st' μ', t = .inl (pc', ls', st', μ') → jgr μ μ') ∧ (∀ o μ', t = .inr (.inl (o, μ')) → jgr μ μ') := by
  unfold jN at h
  cases h
  exact ⟨fun _ _ _ _ e => by cases e; exact hg, fun _ _ e => by cases e⟩
theorem jret_gr {o : Option Value} {μ : jM} {t : jT} (h : jret o μ = some t) : (∀ pc' ls' st' μ', t = .inl (pc', ls', st', μ') → jgr μ μ') ∧ (∀ o μ', t = .inr (.inl (o, μ')) → jgr μ μ') := by
  unfold jret at h
  cases h
  exact ⟨fun _ _ _ _ e => (by cases e), fun _ _ e => by cases e; exact jgr_refl _⟩
theorem jcall_gr {E : jE} {pc : Nat} {ls : List (Option Value)} {st : List Value} {b : Bool} {μ : jM} {t : jT} (h : jcall E pc ls st b = some t) : (∀ pc' ls' st' μ', t = .inl (pc', ls', st', μ') → jgr μ μ') ∧ (∀ o μ', t = .inr (.inl (o, μ')) → jgr μ μ') := by
  unfold jcall at h
  obtain ⟨-, h⟩ := jbif h
  cases h
  exact ⟨fun _ _ _ _ e => (by cases e), fun _ _ e => by cases e⟩
theorem jbif2 {α : Type} {b : Bool} {x y : Option α} {t : α} (h : (bif b then x else y) = some t) : (b = true ∧ x = some t) ∨ (b = false ∧ y = some t) := by
  cases b
  · exact Or.inr ⟨rfl, h⟩
  · exact Or.inl ⟨rfl, h⟩
theorem jthr_gr {c : Nat} {μ : jM} {t : jT} (h : (some (.inr (.inl (.inr c, jthr μ))) : Option jT) = some t) : (∀ pc' ls' st' μ', t = .inl (pc', ls', st', μ') → jgr μ μ') ∧ (∀ o μ', t = .inr (.inl (o, μ')) → jgr μ μ') := by
  cases h
  exact ⟨fun _ _ _ _ e => (by cases e), fun _ _ e => (by cases e; exact jgr_thr _)⟩
/-- what a step can come to -/
def jO1 (μ : jM) (t : jT) : Prop := ∃ (pc' : Nat) (ls' : List (Option Value)) (st' : List Value) (μ' : jM), t = .inl (pc', ls', st', μ') ∧ jgr μ μ'
def jO2 (ins : Instr) (a : Nat) (st : List Value) (μ : jM) (t : jT) : Prop := ∃ o : Option Value, t = .inr (.inl (.inl o, μ)) ∧ ((ins = .ireturn ∧ ∃ v, st = [.int v] ∧ jrok a v = true ∧ o = some (.int v)) ∨ (ins = .lreturn ∧ ∃ v, st = [.long v] ∧ o = some (.long v)) ∨ (ins = .dreturn ∧ ∃ v, st = [.double v] ∧ o = some (.double v)) ∨ (ins = .areturn ∧ ∃ v, st = [.ref v] ∧ o = some (.ref v)) ∨ (ins = .return_ ∧ st = [] ∧ o = none))
def jO3 (ins : Instr) (a : Nat) (st : List Value) (μ : jM) (t : jT) : Prop := ∃ n, ins = .new n ∧ Nat.ble 1000 a = true ∧ jcat st ≤ 8 ∧ t = .inr (.inl (.inr (a - 1000), jthr μ))
def jO4 (ins : Instr) (len a b : Nat) (w : Int32) (sw : List (Int32 × Nat)) (pc : Nat) (ls : List (Option Value)) (st : List Value) (t : jT) : Prop := ∃ q, t = .inr (.inr q) ∧ ((∃ n, ins = .invokevirtual n ∧ jcall (ins, len, a, b, w, sw) pc ls st true = some (.inr (.inr q))) ∨ (∃ n, ins = .invokespecial n ∧ Nat.beq a 1001 = false ∧ jcall (ins, len, a, b, w, sw) pc ls st true = some (.inr (.inr q))) ∨
      (∃ n, ins = .invokestatic n ∧ (Nat.beq a 1002 = false ∧ Nat.beq a 1003 = false ∧ Nat.beq a 1004 = false) ∧ jcall (ins, len, a, b, w, sw) pc ls st false = some (.inr (.inr q))))
def jOs (ins : Instr) (len a b : Nat) (w : Int32) (sw : List (Int32 × Nat)) (pc : Nat) (ls : List (Option Value)) (st : List Value) (μ : jM) (t : jT) : Prop := jO1 μ t ∨ jO2 ins a st μ t ∨ jO3 ins a st μ t ∨ jO4 ins len a b w sw pc ls st t
theorem jOs_N {ins : Instr} {len a b : Nat} {w : Int32} {sw : List (Int32 × Nat)} {pc pc1 : Nat} {ls ls1 : List (Option Value)} {st st1 : List Value} {μ μ1 : jM} {t : jT} (h : jN pc1 ls1 st1 μ1 = some t) (hg : jgr μ μ1) : jOs ins len a b w sw pc ls st μ t := by
  unfold jN at h
  cases h
  exact Or.inl ⟨_, _, _, _, rfl, hg⟩
theorem jOs_e {ins : Instr} {len a b : Nat} {w : Int32} {sw : List (Int32 × Nat)} {pc pc1 : Nat} {ls ls1 : List (Option Value)} {st st1 : List Value} {μ : jM} {t : jT} (h : t = .inl (pc1, ls1, st1, μ)) : jOs ins len a b w sw pc ls st μ t := Or.inl ⟨_, _, _, _, h, jgr_refl _⟩
theorem jcall_t {E : jE} {pc : Nat} {ls : List (Option Value)} {st : List Value} {b : Bool} {t : jT} (h : jcall E pc ls st b = some t) : ∃ q, t = .inr (.inr q) := by
  unfold jcall at h
  obtain ⟨-, h⟩ := jbif h
  cases h
  exact ⟨_, rfl⟩
set_option maxHeartbeats 4000000 in
theorem jstep_inv {ins : Instr} {len a b : Nat} {w : Int32} {sw : List (Int32 × Nat)} {pc : Nat} {ls : List (Option Value)} {st : List Value} {μ : jM} {t : jT} (h : jstep (ins, len, a, b, w, sw) pc ls st μ = some t) : jOs ins len a b w sw pc ls st μ t := by
  cases ins
  case iconst n =>
    exact jOs_N (μ1 := μ) h (jgr_refl _)
  case bipush n =>
    exact jOs_N (μ1 := μ) h (jgr_refl _)
  case sipush n =>
    exact jOs_N (μ1 := μ) h (jgr_refl _)
  case lconst n =>
    exact jOs_N (μ1 := μ) h (jgr_refl _)
  case ldc2_w n =>
    exact jOs_N (μ1 := μ) h (jgr_refl _)
  case dconst n =>
    exact jOs_N (μ1 := μ) h (jgr_refl _)
  case ldc n =>
    exact jOs_N (μ1 := μ) h (jgr_refl _)
  case iload n =>
    obtain ⟨_, -, -, e⟩ := jload_inv h
    exact jOs_e e
  case iload_n n =>
    obtain ⟨_, -, -, e⟩ := jload_inv h
    exact jOs_e e
  case lload n =>
    obtain ⟨_, -, -, e⟩ := jload_inv h
    exact jOs_e e
  case lload_n n =>
    obtain ⟨_, -, -, e⟩ := jload_inv h
    exact jOs_e e
  case dload n =>
    obtain ⟨_, -, -, e⟩ := jload_inv h
    exact jOs_e e
  case dload_n n =>
    obtain ⟨_, -, -, e⟩ := jload_inv h
    exact jOs_e e
  case aload n =>
    obtain ⟨_, -, -, e⟩ := jload_inv h
    exact jOs_e e
  case aload_n n =>
    obtain ⟨_, -, -, e⟩ := jload_inv h
    exact jOs_e e
  case istore n =>
    simp only [jstep] at h
    split at h
    · obtain ⟨-, h⟩ := jbif h
      exact jOs_N h (jgr_refl _)
    · cases h
  case istore_n n =>
    simp only [jstep] at h
    split at h
    · obtain ⟨-, h⟩ := jbif h
      exact jOs_N h (jgr_refl _)
    · cases h
  case lstore n =>
    simp only [jstep] at h
    split at h
    · obtain ⟨-, h⟩ := jbif h
      exact jOs_N h (jgr_refl _)
    · cases h
  case lstore_n n =>
    simp only [jstep] at h
    split at h
    · obtain ⟨-, h⟩ := jbif h
      exact jOs_N h (jgr_refl _)
    · cases h
  case dstore n =>
    simp only [jstep] at h
    split at h
    · obtain ⟨-, h⟩ := jbif h
      exact jOs_N h (jgr_refl _)
    · cases h
  case dstore_n n =>
    simp only [jstep] at h
    split at h
    · obtain ⟨-, h⟩ := jbif h
      exact jOs_N h (jgr_refl _)
    · cases h
  case astore n =>
    simp only [jstep] at h
    split at h
    · obtain ⟨-, h⟩ := jbif h
      exact jOs_N h (jgr_refl _)
    · cases h
  case astore_n n =>
    simp only [jstep] at h
    split at h
    · obtain ⟨-, h⟩ := jbif h
      exact jOs_N h (jgr_refl _)
    · cases h
  case iinc k n =>
    simp only [jstep] at h
    split at h
    · exact jOs_N h (jgr_refl _)
    · cases h
  case iadd =>
    obtain ⟨_, _, _, -, e⟩ := jop2_inv h
    exact jOs_e e
  case isub =>
    obtain ⟨_, _, _, -, e⟩ := jop2_inv h
    exact jOs_e e
  case imul =>
    obtain ⟨_, _, _, -, e⟩ := jop2_inv h
    exact jOs_e e
  case iand =>
    obtain ⟨_, _, _, -, e⟩ := jop2_inv h
    exact jOs_e e
  case ior =>
    obtain ⟨_, _, _, -, e⟩ := jop2_inv h
    exact jOs_e e
  case ixor =>
    obtain ⟨_, _, _, -, e⟩ := jop2_inv h
    exact jOs_e e
  case ishl =>
    obtain ⟨_, _, _, -, e⟩ := jop2_inv h
    exact jOs_e e
  case ishr =>
    obtain ⟨_, _, _, -, e⟩ := jop2_inv h
    exact jOs_e e
  case iushr =>
    obtain ⟨_, _, _, -, e⟩ := jop2_inv h
    exact jOs_e e
  case idiv =>
    simp only [jstep] at h
    split at h
    · obtain ⟨-, h⟩ := jbifn h
      exact jOs_N h (jgr_refl _)
    · cases h
  case irem =>
    simp only [jstep] at h
    split at h
    · obtain ⟨-, h⟩ := jbifn h
      exact jOs_N h (jgr_refl _)
    · cases h
  case ineg =>
    obtain ⟨_, _, -, e⟩ := jop1_inv h
    exact jOs_e e
  case i2l =>
    obtain ⟨_, _, -, e⟩ := jop1_inv h
    exact jOs_e e
  case i2b =>
    obtain ⟨_, _, -, e⟩ := jop1_inv h
    exact jOs_e e
  case i2c =>
    obtain ⟨_, _, -, e⟩ := jop1_inv h
    exact jOs_e e
  case i2d =>
    obtain ⟨_, _, -, e⟩ := jop1_inv h
    exact jOs_e e
  case ladd =>
    obtain ⟨_, _, _, -, e⟩ := jopL_inv h
    exact jOs_e e
  case lmul =>
    obtain ⟨_, _, _, -, e⟩ := jopL_inv h
    exact jOs_e e
  case lcmp =>
    obtain ⟨_, _, _, -, e⟩ := jopL_inv h
    exact jOs_e e
  case ddiv =>
    simp only [jstep] at h
    split at h
    · obtain ⟨-, h⟩ := jbif h
      exact jOs_N h (jgr_refl _)
    · cases h
  case dup =>
    simp only [jstep] at h
    split at h
    · obtain ⟨-, h⟩ := jbif h
      exact jOs_N h (jgr_refl _)
    · cases h
  case pop =>
    simp only [jstep] at h
    split at h
    · obtain ⟨-, h⟩ := jbif h
      exact jOs_N h (jgr_refl _)
    · cases h
  case dup_x1 =>
    simp only [jstep] at h
    split at h
    · obtain ⟨-, h⟩ := jbif h
      exact jOs_N h (jgr_refl _)
    · cases h
  case dup2 =>
    simp only [jstep] at h
    split at h
    · obtain ⟨-, h⟩ := jbif h
      exact jOs_N h (jgr_refl _)
    · cases h
  case arraylength =>
    simp only [jstep] at h
    split at h
    · obtain ⟨-, h⟩ := jbif h
      exact jOs_N h (jgr_refl _)
    · cases h
  case iaload =>
    simp only [jstep] at h
    split at h
    · obtain ⟨-, h⟩ := jbif h
      exact jOs_N h (jgr_refl _)
    · cases h
  case baload =>
    simp only [jstep] at h
    split at h
    · obtain ⟨-, h⟩ := jbif h
      exact jOs_N h (jgr_refl _)
    · cases h
  case laload =>
    simp only [jstep] at h
    split at h
    · obtain ⟨-, h⟩ := jbif h
      exact jOs_N h (jgr_refl _)
    · cases h
  case aaload =>
    simp only [jstep] at h
    split at h
    · obtain ⟨-, h⟩ := jbif h
      exact jOs_N h (jgr_refl _)
    · cases h
  case getfield n =>
    simp only [jstep] at h
    split at h
    · obtain ⟨-, h⟩ := jbif h
      exact jOs_N h (jgr_refl _)
    · cases h
  case dcmp o =>
    simp only [jstep] at h
    split at h
    · exact jOs_N h (jgr_refl _)
    · cases h
  case ifCond c o =>
    simp only [jstep] at h
    split at h
    · exact jOs_N h (jgr_refl _)
    · cases h
  case if_icmp c o =>
    simp only [jstep] at h
    split at h
    · exact jOs_N h (jgr_refl _)
    · cases h
  case if_acmp c o =>
    cases c
    all_goals
      simp only [jstep] at h
      split at h
      · obtain ⟨-, h⟩ := jbif h
        exact jOs_N h (jgr_refl _)
      · cases h
  case goto o =>
    exact jOs_N (μ1 := μ) h (jgr_refl _)
  case tableswitch x1 x2 x3 x4 =>
    simp only [jstep] at h
    split at h
    · exact jOs_N h (jgr_refl _)
    · cases h
  case lookupswitch x1 x2 =>
    simp only [jstep] at h
    split at h
    · exact jOs_N h (jgr_refl _)
    · cases h
  case putfield n =>
    simp only [jstep] at h
    split at h
    · obtain ⟨-, h⟩ := jbif h
      exact jOs_N h (jgr_same (jsame_I _ _ _ _))
    · obtain ⟨-, h⟩ := jbif h
      exact jOs_N h (jgr_same (jsame_Q _ _ _ _))
    · cases h
  case getstatic n =>
    exact jOs_N (μ1 := μ) h (jgr_refl _)
  case iastore =>
    simp only [jstep] at h
    split at h
    · obtain ⟨-, h⟩ := jbif h
      exact jOs_N h (jgr_same (jsame_I _ _ _ _))
    · cases h
  case bastore =>
    simp only [jstep] at h
    split at h
    · obtain ⟨-, h⟩ := jbif h
      exact jOs_N h (jgr_same (jsame_I _ _ _ _))
    · cases h
  case lastore =>
    simp only [jstep] at h
    split at h
    · obtain ⟨-, h⟩ := jbif h
      exact jOs_N h (jgr_same (jsame_L _ _ _ _))
    · cases h
  case aastore =>
    simp only [jstep] at h
    split at h
    · obtain ⟨-, h⟩ := jbif h
      exact jOs_N h (jgr_same (jsame_Q _ _ _ _))
    · cases h
  case new n =>
    simp only [jstep] at h
    rcases jbif2 h with ⟨h0, h⟩ | ⟨-, h⟩
    · obtain ⟨h1, h⟩ := jbif h
      cases h
      exact Or.inr (Or.inr (Or.inl ⟨n, rfl, h0, Nat.le_of_ble_eq_true h1, rfl⟩))
    · exact jOs_N h (jgr_new _ _)
  case newarray n =>
    simp only [jstep] at h
    split at h
    · obtain ⟨-, h⟩ := jbif h
      exact jOs_N h (jgr_new _ _)
    · cases h
  case anewarray n =>
    simp only [jstep] at h
    split at h
    · obtain ⟨-, h⟩ := jbif h
      exact jOs_N h (jgr_new _ _)
    · cases h
  case multianewarray n d =>
    simp only [jstep] at h
    split at h
    · obtain ⟨-, h⟩ := jbif h
      exact jOs_N h (jgr_trans (jgr_new _ _) (jgr_rows _ _ _ _ _))
    · cases h
  case invokevirtual n =>
    have h : jcall (.invokevirtual n, len, a, b, w, sw) pc ls st true = some t := h
    obtain ⟨q, rfl⟩ := jcall_t h
    exact Or.inr (Or.inr (Or.inr ⟨q, rfl, Or.inl ⟨n, rfl, h⟩⟩))
  case invokespecial n =>
    simp only [jstep] at h
    rcases jbif2 h with ⟨-, h⟩ | ⟨h0, h⟩
    · split at h
      · obtain ⟨-, h⟩ := jbif h
        exact jOs_N h (jgr_refl _)
      · cases h
    · obtain ⟨q, rfl⟩ := jcall_t h
      exact Or.inr (Or.inr (Or.inr ⟨q, rfl, Or.inr (Or.inl ⟨n, rfl, h0, h⟩)⟩))
  case invokestatic n =>
    simp only [jstep] at h
    rcases jbif2 h with ⟨-, h⟩ | ⟨h0, h⟩
    · unfold jcopy at h
      split at h
      · obtain ⟨-, h⟩ := jbif h
        exact jOs_N h (jgr_same (jsame_R _ _ _))
      · cases h
    · rcases jbif2 h with ⟨-, h⟩ | ⟨h1, h⟩
      · unfold jmm at h
        split at h
        · obtain ⟨-, h⟩ := jbif h
          exact jOs_N h (jgr_refl _)
        · cases h
      · rcases jbif2 h with ⟨-, h⟩ | ⟨h2, h⟩
        · unfold jmm at h
          split at h
          · obtain ⟨-, h⟩ := jbif h
            exact jOs_N h (jgr_refl _)
          · cases h
        · obtain ⟨q, rfl⟩ := jcall_t h
          exact Or.inr (Or.inr (Or.inr ⟨q, rfl, Or.inr (Or.inr ⟨n, rfl, ⟨h0, h1, h2⟩, h⟩)⟩))
  case ireturn =>
    simp only [jstep] at h
    split at h
    · obtain ⟨h0, h⟩ := jbif h
      unfold jret at h
      cases h
      exact Or.inr (Or.inl ⟨_, rfl, Or.inl ⟨rfl, _, rfl, h0, rfl⟩⟩)
    · cases h
  case lreturn =>
    simp only [jstep] at h
    split at h
    · unfold jret at h
      cases h
      exact Or.inr (Or.inl ⟨_, rfl, Or.inr (Or.inl ⟨rfl, _, rfl, rfl⟩)⟩)
    · cases h
  case dreturn =>
    simp only [jstep] at h
    split at h
    · unfold jret at h
      cases h
      exact Or.inr (Or.inl ⟨_, rfl, Or.inr (Or.inr (Or.inl ⟨rfl, _, rfl, rfl⟩))⟩)
    · cases h
  case areturn =>
    simp only [jstep] at h
    split at h
    · unfold jret at h
      cases h
      exact Or.inr (Or.inl ⟨_, rfl, Or.inr (Or.inr (Or.inr (Or.inl ⟨rfl, _, rfl, rfl⟩)))⟩)
    · cases h
  case return_ =>
    simp only [jstep] at h
    split at h
    · unfold jret at h
      cases h
      exact Or.inr (Or.inl ⟨_, rfl, Or.inr (Or.inr (Or.inr (Or.inr ⟨rfl, rfl, rfl⟩)))⟩)
    · cases h
  all_goals cases h
theorem jstep_gr {E : jE} {pc : Nat} {ls : List (Option Value)} {st : List Value} {μ : jM} {t : jT} (h : jstep E pc ls st μ = some t) : (∀ pc' ls' st' μ', t = .inl (pc', ls', st', μ') → jgr μ μ') ∧ (∀ o μ', t = .inr (.inl (o, μ')) → jgr μ μ') := by
  obtain ⟨ins, len, a, b, w, sw⟩ := E
  rcases jstep_inv h with ⟨_, _, _, _, rfl, hg⟩ | ⟨o, rfl, -⟩ | ⟨n, -, -, -, rfl⟩ | ⟨q, rfl, -⟩
  · exact ⟨fun _ _ _ _ e => by cases e; exact hg, fun _ _ e => by cases e⟩
  · exact ⟨fun _ _ _ _ e => (by cases e), fun _ _ e => by cases e; exact jgr_refl _⟩
  · exact ⟨fun _ _ _ _ e => (by cases e), fun _ _ e => by cases e; exact jgr_thr _⟩
  · exact ⟨fun _ _ _ _ e => (by cases e), fun _ _ e => by cases e⟩
theorem jev_gr : ∀ (n d i pc : Nat) (ls : List (Option Value)) (st : List Value) (μ : jM) (o : jO) (μ' : jM), jev n d i pc ls st μ = some (o, μ') → jgr μ μ' := by
  intro n
  induction n with
  | zero => intro d i pc ls st μ o μ' h; cases h
  | succ n ih =>
    intro d i pc ls st μ o μ' h
    rw [jev] at h
    cases hc : jcode i pc with
    | none => rw [hc] at h; cases h
    | some E =>
      rw [hc] at h
      simp only at h
      rcases hs : jstep E pc ls st μ with _ | ⟨pc', ls', st', μ1⟩ | ⟨o1, μ1⟩ | ⟨j, as, pc', ls', st'⟩
      · rw [hs] at h; cases h
      · rw [hs] at h
        exact jgr_trans ((jstep_gr hs).1 _ _ _ _ rfl) (ih _ _ _ _ _ _ _ _ h)
      · rw [hs] at h
        cases h
        exact (jstep_gr hs).2 _ _ rfl
      · rw [hs] at h
        cases d with
        | zero => cases h
        | succ d' =>
          simp only at h
          cases hv : jev n d' j 0 (jent j as) [] μ with
          | none => rw [hv] at h; cases h
          | some q =>
            obtain ⟨o2, μ2⟩ := q
            have hg := ih _ _ _ _ _ _ _ _ hv
            rw [hv] at h
            cases o2 with
            | inl v => exact jgr_trans hg (ih _ _ _ _ _ _ _ _ h)
            | inr c =>
              simp only at h
              cases hh : jhnd (jhs i) pc c with
              | none =>
                rw [hh] at h
                simp only [jun] at h
                split at h
                · cases h; exact hg
                · cases h
              | some q =>
                obtain ⟨t, k⟩ := q
                rw [hh] at h
                exact jgr_trans hg (ih _ _ _ _ _ _ _ _ h)
