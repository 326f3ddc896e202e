/-! CALLS, the seventh part: the entry of a method; Enum.ordinal. -/
section SNE
variable {p : Program} {l : Launch} {e : Env} {R : Room} {s : State} {m : MethodId} {args : Array Value} {below : List Frame} {meth : Method} {c : Code} {Q : State → Prop}
variable {G : jG} {i : Nat} {k0 s0 : Nat} {μ0 : jM} {ad0 : Nat → Nat}
theorem jentry {ad : Nat → Nat} {μ : jM} {as : List Value} {j : Nat} (hFB : jFB G s s.heap) (hM : jMem G ad μ s.heap) (hv : jStk μ as) (hl : (jspr as).length ≤ jmL j) (ha : args = (as.map (jpv G ad)).toArray) (k : jGo G j p l e R s m args below meth c Q (jnc μ) (jns μ) μ ad 0 (jent j as) [] μ) :
    W p l e R s m args below meth c s.heap [] 0 0 Q (entryFrame m args (jmL j)) := by
  have e1 : entryFrame m args (jmL j) = F0 m 0 ((lg_sl (as.map (jpv G ad)) ++ List.replicate (jmL j - (lg_sl (as.map (jpv G ad))).length) Slot.unset).toArray) [] := by
    rw [ha]
    exact lg_entry_eq _ _ _
  rw [e1]
  exact k ad s.heap [] 0 0 _ (fun _ _ => rfl) (fun _ h => h) hM va_S.rf (jent_loc (jsio hFB) hv hl) (fun w hw => by cases hw) (by omega) (by omega)
theorem jctx_of {j : Nat} {rm : Room} {ret : Option FieldType} {ws : List Jvm.Cond} {cc : ByteArray} {maxL : Nat} {s₁ : State} (B : BodyLoose p l (jY j) (headSpec ws rm) cc maxL ret e s m args below meth c s₁) (hcc : cc = jB j) (hret : ret = jRt j) (hws : ∀ w ∈ jW, w ∈ ws) (hml : c.maxLocals = jmL j) (hl : l.stackTraces = false) (hFB : jFB G s s.heap) (hgb : gbs G ≤ s.heap.size) : jCtx G j p l s m args meth c :=
  ⟨B.exec, B.bytes.trans hcc, hml, findClass_of_methodNamed B.named, fun w hw => atoms_spec (ws := ws) B.pre w (hws w hw), B.notSynchronized, hFB, B.returns.trans hret, (name_of_methodNamed B.named B.method).1, hl, hgb⟩
/-- the run of Enum.ordinal -/
theorem jord_ev {n d x : Nat} {μ μ' : jM} {o : jO} (h : jev n d 57 0 (jent 57 [.ref x]) [] μ = some (o, μ')) : o = .inl (some (.int (Int32.ofNat (x / 64)))) ∧ μ' = μ := by
  have c0 : jcode 57 0 = some (.aload_n 0, 1, 0, 0, 0, []) := rfl
  have c1 : jcode 57 1 = some (.getfield 7, 3, 40, 0, 0, []) := rfl
  have c4 : jcode 57 4 = some (.ireturn, 1, 0, 0, 0, []) := rfl
  have s0 : jstep (.aload_n 0, 1, 0, 0, 0, []) 0 (jent 57 [.ref x]) [] μ = some (.inl (1, jent 57 [.ref x], [.ref x], μ)) := rfl
  cases n with
  | zero => cases h
  | succ n =>
    rw [jev, c0] at h
    simp only [s0] at h
    cases n with
    | zero => cases h
    | succ n =>
      rw [jev, c1] at h
      have s1 : jstep (.getfield 7, 3, 40, 0, 0, []) 1 (jent 57 [.ref x]) [.ref x] μ = bif Nat.beq (x % 64) 40 then some (.inl (4, jent 57 [.ref x], [.int (Int32.ofNat (x / 64))], μ)) else none := rfl
      cases hb : Nat.beq (x % 64) 40 with
      | false =>
        rw [hb] at s1
        simp only [s1, cond_false] at h
        cases h
      | true =>
        rw [hb] at s1
        simp only [s1, cond_true] at h
        cases n with
        | zero => cases h
        | succ n =>
          rw [jev, c4] at h
          have s2 : jstep (.ireturn, 1, 0, 0, 0, []) 4 (jent 57 [.ref x]) [.int (Int32.ofNat (x / 64))] μ = some (.inr (.inl (.inl (some (.int (Int32.ofNat (x / 64)))), μ))) := rfl
          simp only [s2] at h
          cases h
          exact ⟨rfl, rfl⟩
theorem jord_met (hck : ∀ i pc E, i < 276 → jcode i pc = some E → jchk i pc E = true) (hl : l.stackTraces = false) {d x : Nat} {ad : Nat → Nat} {μ : jM} (hx : jok μ x) (hc : x % 64 = 40) :
    Met l (jY 57) (jwsl 57) (jrm d (jnc μ - jnc μ) (jns μ - jns μ)) (jPc G ad μ [.ref x]) (jQc G ad μ μ (.inl (some (.int (Int32.ofNat (x / 64)))))) (jnc μ - jnc μ) (jns μ - jns μ) (gA G) := by
  have hws : jwsl 57 = .code (jY 57) (jB 57) (jmL 57) (jRt 57) :: jW := rfl
  refine Met.ofW (cc := jB 57) (maxL := jmL 57) (ret := jRt 57) (jY_ok (by decide)).2 hws ?_
  intro p e s m args below meth c s₁ B hml hv
  obtain ⟨ha, hFB, hM, hgb⟩ := hv
  have C := jctx_of (G := G) B rfl rfl (fun w hw => by rw [hws]; exact List.mem_cons_of_mem _ hw) hml hl hFB hgb
  refine jentry (j := 57) (as := [.ref x]) hFB hM (jStk_cons hx (fun w hw => by cases hw)) (Nat.le_refl 1) ha ?_
  have c0 : jcode 57 0 = some (.aload_n 0, 1, 0, 0, 0, []) := rfl
  have c1 : jcode 57 1 = some (.getfield 7, 3, 40, 0, 0, []) := rfl
  have c4 : jcode 57 4 = some (.ireturn, 1, 0, 0, 0, []) := rfl
  have s0 : jstep (.aload_n 0, 1, 0, 0, 0, []) 0 (jent 57 [.ref x]) [] μ = some (.inl (1, jent 57 [.ref x], [.ref x], μ)) := rfl
  have s1 : jstep (.getfield 7, 3, 40, 0, 0, []) 1 (jent 57 [.ref x]) [.ref x] μ = some (.inl (4, jent 57 [.ref x], [.int (Int32.ofNat (x / 64))], μ)) := by
    show (bif Nat.beq (x % 64) 40 then _ else none) = _
    rw [hc]
    rfl
  refine snd_plain C rfl (hck 57 0 _ (by decide) c0) s0 ?_
  refine snd_getfield C (hck 57 1 _ (by decide) c1) s1 ?_
  obtain ⟨hx', hb, hml', hown, hts, hlk, hFB', hret, -⟩ := C
  intro ad' H locs cells slots lsA g1 g2 g3 g4 g5 g6 g7 g8
  have e2 : cells = jnc μ - jnc μ := by omega
  have e3 : slots = jns μ - jns μ := by omega
  subst e2
  subst e3
  have hd := jchk_dec (hck 57 4 _ (by decide) c4)
  exact W.iret hx' hb hret (fun t ht hW => ⟨_, ad', rfl, rfl, g1, fun z hz => by cases hz; trivial, by rw [ht]; exact g3, g4.F ht⟩) g4.2.2 hd
theorem jnord_all : tables_1.all (fun w => match w with | .methodLinkNest _ _ y _ => decide (y.name ≠ "ordinal") | _ => true) = true := by decide +kernel
theorem jord_words : ([.sameMethod "CrossBar$Kind" "java/lang/Enum" "ordinal" "()I", .selects "CrossBar$Kind" ⟨"CrossBar$Kind", "ordinal", "()I"⟩ (jY 57), .instanceMethod (jY 57), .initialized (jY 57).cls] : List Jvm.Cond).all (fun w => goodWord w && decide (w ∈ lw_tbl)) = true := by decide +kernel
set_option maxHeartbeats 4000000 in
theorem snd_callO (hmk : ∀ i, i < 276 → jmchk i = true) (hck : ∀ i pc E, i < 276 → jcode i pc = some E → jchk i pc E = true) (C : jCtx G i p l s m args meth c) {n len b d : Nat} {v : Int32} {sw : List (Int32 × Nat)} {pc : Nat} {ls : List (Option Value)} {st r as : List Value} {μ μ2 : jM} {o2 : jO} {nf d' : Nat}
    (hd : decode (jB i) pc = .ok (.invokevirtual n, 3)) (hi : jinv i pc n (.invokevirtual n, len, 57, b, v, sw) false false = true)
    (hs : st = as.reverse ++ r) (hlen : as.length = b) (h8 : jcat r ≤ 8) (hrv : jrcv 57 as = true) (hR : 12 + d + 1 ≤ R.frames ∧ 8 + (40 + 11) + (300 + 80 * d) ≤ R.locals) (hRn : jnc μ2 ≤ R.cells + k0 ∧ jns μ2 ≤ R.slots + s0)
    (hev : jev nf d' 57 0 (jent 57 as) [] μ = some (o2, μ2)) (kk : jKK G i p l e R s m args below meth c Q k0 s0 μ0 ad0 pc ls r μ2 o2) : jGo G i p l e R s m args below meth c Q k0 s0 μ0 ad0 pc ls st μ := by
  have C0 := C
  obtain ⟨hx, hb, hml, hown, hts, hlk, hFB, hret, hmn, hstk, hgb⟩ := C
  obtain ⟨-, hj, hj0, hlink, hstt, hpar, hnm, -⟩ := jinv_spec hi
  simp only at hj hj0 hlink hstt hpar hnm
  replace hlink : jml i pc n ⟨"CrossBar$Kind", "ordinal", "()I"⟩ = true := hlink
  obtain ⟨hw1, hw2, hw3, hw4⟩ := jmw_spec hmk hj hj0
  obtain ⟨x, as', rfl, hxc⟩ := jrcv_inv hrv
  have hxc : Eq (α := Nat) (x % 64) 40 := hxc
  have hpar : b = 0 + 1 := hpar
  have has' : as' = [] := by
    simp at hlen
    exact List.eq_nil_of_length_eq_zero (by omega)
  subst has'
  obtain ⟨rfl, rfl⟩ := jord_ev hev
  have hws : jwsl 57 = .code (jY 57) (jB 57) (jmL 57) (jRt 57) :: jW := rfl
  obtain ⟨w1, hw⟩ := jand jord_words
  obtain ⟨w2, hw⟩ := jand hw
  obtain ⟨w3, hw⟩ := jand hw
  obtain ⟨w4, -⟩ := jand hw
  have hin : ∀ w : Jvm.Cond, (goodWord w && decide (w ∈ lw_tbl)) = true → w ∈ jW := fun w h => List.mem_filter.mpr ⟨of_decide_eq_true (jand h).2, (jand h).1⟩
  have hlk2 : tables_1[jw i pc]? = some (.methodLink (jY i).cls n ⟨"CrossBar$Kind", "ordinal", "()I"⟩) := by
    rcases jml_inv hlink with h | ⟨ho, h⟩
    · exact h
    · have h1 := List.all_eq_true.mp jnord_all _ (List.mem_of_getElem? h)
      exact absurd rfl (of_decide_eq_true h1)
  have hgood : GoodIn jW (va_wsU (jY i).cls n "CrossBar$Kind" "java/lang/Enum" ⟨"CrossBar$Kind", "ordinal", "()I"⟩ (jY 57) (jwsl 57)) := by
    intro w hw
    unfold va_wsU at hw
    have h1 : w ∈ jW := by
      rcases List.mem_append.mp hw with hw | hw
      · simp only [List.mem_cons, List.not_mem_nil, or_false] at hw
        rcases hw with rfl | rfl | rfl | rfl | rfl
        · exact jwin _ hlk2 rfl
        · exact hin _ w1
        · exact hin _ w2
        · exact hin _ w3
        · exact hin _ w4
      · exact (jW_good 57 hw1 w hw).1
    exact ⟨h1, good_of_word (List.mem_filter.mp h1).2⟩
  intro ad H locs cells slots lsA g1 g2 g3 g4 g5 g6 g7 g8
  have g6r : jStk μ2 r := fun w hw => g6 w (by rw [hs]; exact List.mem_append_right _ hw)
  have hxo : jok μ2 x := g6 (.ref x) (by rw [hs]; exact List.mem_append_left _ (List.mem_reverse.mpr List.mem_cons_self))
  have hxk := jok_c g3 hxo (by omega)
  have hlt := jcst_kind hxk hxc
  have hre : ∃ cell : Cell, H[ad x]? = some cell ∧ cell.vm.isStatics = false ∧ s.vm.findClass "CrossBar$Kind" = some cell.cls := by
    have hfb := hFB
    obtain ⟨-, -, -, hO, -⟩ := hfb
    obtain ⟨cell, c1, c2, c3, c4⟩ := hO (x / 64) hlt
    have ex : Eq (α := Nat) (40 + 64 * (x / 64)) x := by omega
    rw [ex] at c1 c4
    refine ⟨cell, ?_, c2, c3⟩
    rw [jad_c g3 hxk, g4.2.1 _ (Array.getElem?_eq_some_iff.mp c1).1 c4]
    exact c1
  have hpc := jPc_at (G := G) (ad := ad) (μ := μ2) (as := [.ref x]) hFB hgb g3 g4 rfl
  have hfix : CallFix p m c (jB i) (jmL i) s args jW (jY i).cls := ⟨hx, hb, hml, hown, hts⟩
  have hstack : st.map (jpv G ad) = ([] : List Value).reverse ++ .ref (ad x) :: r.map (jpv G ad) := by
    rw [hs]
    simp [jpv]
  have hmon : 2 * (F0 m pc lsA (st.map (jpv G ad))).monitorRoom + ((r.map (jpv G ad)).map fun v => v.category).sum ≤ 8 := by
    rw [jcat_map (jsio hFB)]
    show 2 * 0 + jcat r ≤ 8
    omega
  have hmL := jmL_max 57 hj
  have hf : cells + (jnc μ2 - jnc μ2) ≤ R.cells ∧ slots + (jns μ2 - jns μ2) ≤ R.slots := by omega
  have hrm : (jrm d (jnc μ2 - jnc μ2) (jns μ2 - jns μ2)).frames + 1 ≤ R.frames ∧ 8 + (jmL 57 + 11) + (jrm d (jnc μ2 - jnc μ2) (jns μ2 - jns μ2)).locals ≤ R.locals := by
    show 12 + d + 1 ≤ R.frames ∧ 8 + (jmL 57 + 11) + (300 + 80 * d) ≤ R.locals
    omega
  refine jafter kk (jgr_refl μ2) g1 g2 g4 g5 g6r g7 g8 (A := (Value.ref (ad x) :: ([] : List Value)).toArray) ?_
  have hrun := va_runU (g := F0 m pc lsA (st.map (jpv G ad))) (rest := r.map (jpv G ad)) (locs := locs) (cells := cells) (slots := slots) (below := below) (meth := meth) (e := e) (b := ad x) (As := []) (C := "CrossBar$Kind") (owner := "java/lang/Enum") (x := ⟨"CrossBar$Kind", "ordinal", "()I"⟩) hfix (jord_met hck hstk (d := d) hxo hxc) (va_cwU 0 hts hgood hws rfl rfl rfl ⟨by decide, by decide, by decide⟩ hrm) ⟨jPc_blind, hre, hpc⟩ rfl rfl g5.2.1 hstack hmon hd hf
  exact fun T hT X => Or.inl (hrun T hT X)
end SNE
