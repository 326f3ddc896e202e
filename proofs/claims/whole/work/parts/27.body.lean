/-! CALLS, the last part: every run of the pure machine is a run of the machine. -/
/-- the instructions that call -/
theorem jci {ins : Instr} {len a b : Nat} {w : Int32} {sw : List (Int32 × Nat)} {pc : Nat} {ls : List (Option Value)} {st : List Value} {μ : jM} {q : Nat × List Value × Nat × List (Option Value) × List Value} (h : jstep (ins, len, a, b, w, sw) pc ls st μ = some (.inr (.inr q))) :
    (∃ n, ins = .invokevirtual n ∧ jcall (ins, len, a, b, w, sw) pc ls st true = some (.inr (.inr q))) ∨ (∃ n, ins = .invokespecial n ∧ Nat.beq a 1001 = false ∧ jcall (ins, len, a, b, w, sw) pc ls st true = some (.inr (.inr q))) ∨
      (∃ n, ins = .invokestatic n ∧ (Nat.beq a 1002 = false ∧ Nat.beq a 1003 = false ∧ Nat.beq a 1004 = false) ∧ jcall (ins, len, a, b, w, sw) pc ls st false = some (.inr (.inr q))) := by
  rcases jstep_inv h with ⟨_, _, _, _, e, -⟩ | ⟨o', e, hx⟩ | ⟨n, rfl, h1, h2, e⟩ | ⟨q', e, hx⟩
  · cases e
  · cases e
  · cases e
  · cases e
    exact hx
/-- the table of handlers -/
abbrev jTab (i : Nat) (c : Code) : Prop := c.exceptionTable.toList = (match jHH i with | none => [] | some hh => tableOf hh)
theorem jhs_none {i : Nat} (hi : i < 276) (h : jhs i = []) : jHH i = none := by
  have h1 := jhck_all i hi
  unfold jhck at h1
  cases hh : jHH i with
  | none => rfl
  | some q =>
    rw [hh] at h1
    obtain ⟨-, h1⟩ := jand h1
    obtain ⟨h1, -⟩ := jand h1
    exact absurd h (of_decide_eq_true h1)
theorem jhnd_nil {i pc cc : Nat} {q : Nat × Nat} (h : jhnd (jhs i) pc cc = some q) : jhs i ≠ [] := by
  intro z
  rw [z] at h
  cases h
theorem jhck_some {i pc cc : Nat} {q : Nat × Nat} (hi : i < 276) (h : jhnd (jhs i) pc cc = some q) : ∃ hh, jHH i = some hh ∧ jhcs i hh (jhs i) = true := by
  have h1 := jhck_all i hi
  unfold jhck at h1
  cases hh : jHH i with
  | none =>
    rw [hh] at h1
    exact absurd (of_decide_eq_true h1) (jhnd_nil h)
  | some q =>
    rw [hh] at h1
    exact ⟨q, rfl, (jand h1).1⟩
section SNB
variable {l : Launch} {G : jG}
theorem jmet_of (hl : l.stackTraces = false) {d j : Nat} {as : List Value} {ad : Nat → Nat} {μ μ' : jM} {o : jO} (hj : j < 276) (hv : jStk μ as) (hlen : (jspr as).length ≤ jmL j)
    (body : ∀ {p : Program} {e : Env} {s : State} {m : MethodId} {args : Array Value} {below : List Frame} {meth : Method} {c : Code}, jCtx G j p l s m args meth c → jTab j c →
      jGo G j p l e (jrm d (jnc μ' - jnc μ) (jns μ' - jns μ)) s m args below meth c (jEnd G ad μ μ' o args below s) (jnc μ) (jns μ) μ ad 0 (jent j as) [] μ) : jMet l G d j as ad μ o μ' := by
  unfold jMet
  cases hh : jHH j with
  | none =>
    have hws : jwsl j = .code (jY j) (jB j) (jmL j) (jRt j) :: jW := by
      unfold jwsl jcwd
      rw [hh]
    refine vx_ofW (cc := jB j) (maxL := jmL j) (ret := jRt j) (jY_ok hj).2 hws ?_
    intro p e s m args below meth c s₁ B hml ht hp
    obtain ⟨ha, hFB, hM, hgb⟩ := hp
    have C := jctx_of (G := G) B rfl rfl (fun w hw => by rw [hws]; exact List.mem_cons_of_mem _ hw) hml hl hFB hgb
    refine jentry hFB hM hv hlen ha (body C ?_)
    show c.exceptionTable.toList = _
    rw [hh]
    cases hc : c.exceptionTable.toList with
    | nil => rfl
    | cons x r => exact (ht x (by rw [hc]; exact List.mem_cons_self)).elim
  | some q =>
    have hws : jwsl j = .codeWith (jY j) (jB j) (jmL j) (jRt j) q :: jW := by
      unfold jwsl jcwd
      rw [hh]
    refine vx_ofWH (cc := jB j) (maxL := jmL j) (ret := jRt j) (hh := q) (jY_ok hj).2 hws ?_
    intro p e s m args below meth c s₁ B hml hp
    obtain ⟨ha, hFB, hM, hgb⟩ := hp
    have C := jctx_of (G := G) B rfl rfl (fun w hw => by rw [hws]; exact List.mem_cons_of_mem _ hw) hml hl hFB hgb
    refine jentry hFB hM hv hlen ha (body C ?_)
    show c.exceptionTable.toList = _
    rw [hh]
    exact vx_table (x := jY j) B (atoms_spec (ws := jwsl j) B.pre _ (by rw [hws]; exact List.mem_cons_self))
set_option maxHeartbeats 4000000 in
theorem jbody (hmk : ∀ i, i < 276 → jmchk i = true) (hck : ∀ i pc E, i < 276 → jcode i pc = some E → jchk i pc E = true) (hl : l.stackTraces = false) :
    ∀ (n d i pc : Nat) (ls : List (Option Value)) (st : List Value) (μ1 : jM) (o : jO) (μ' : jM), jev n d i pc ls st μ1 = some (o, μ') → i < 276 →
    ∀ {p : Program} {e : Env} {R : Room} {s : State} {m : MethodId} {args : Array Value} {below : List Frame} {meth : Method} {c : Code} {Q : State → Prop} {k0 s0 : Nat} {μ0 : jM} {ad0 : Nat → Nat}, jCtx G i p l s m args meth c → jTab i c → 12 + d ≤ R.frames ∧ 300 + 80 * d ≤ R.locals → jnc μ' ≤ R.cells + k0 ∧ jns μ' ≤ R.slots + s0 →
    (∀ (pc : Nat) (E : jE) (ls : List (Option Value)) (st : List Value) (μ1 : jM), jcode i pc = some E → jstep E pc ls st μ1 = some (.inr (.inl (o, μ'))) → jGo G i p l e R s m args below meth c Q k0 s0 μ0 ad0 pc ls st μ1) →
    (∀ (pc : Nat) (ls : List (Option Value)) (st : List Value) (cc : Nat), cc < 3 → o = .inr cc → jHH i = none → jGoX G i p l e R s m args below meth c Q k0 s0 μ0 ad0 pc ls st μ' cc) →
    jGo G i p l e R s m args below meth c Q k0 s0 μ0 ad0 pc ls st μ1 := by
  intro n
  induction n with
  | zero => intro d i pc ls st μ1 o μ' h; cases h
  | succ n ih =>
    intro d i pc ls st μ1 o μ' h hi p e R s m args below meth c Q k0 s0 μ0 ad0 C hT hRm hR ends outs
    rw [jev] at h
    cases hc : jcode i pc with
    | none => rw [hc] at h; cases h
    | some E =>
      rw [hc] at h
      simp only at h
      have hE := hck i pc E hi hc
      rcases hs : jstep E pc ls st μ1 with _ | ⟨pc', ls', st', μ2⟩ | ⟨o1, μ2⟩ | ⟨j, as, pc', ls', st'⟩
      · rw [hs] at h; cases h
      · rw [hs] at h
        have hg := jev_gr _ _ _ _ _ _ _ _ _ h
        exact snd_step C hE hs ⟨by omega, by omega⟩ ⟨Nat.le_trans hg.2.1 hR.1, Nat.le_trans hg.2.2 hR.2⟩ (ih _ _ _ _ _ _ _ _ h hi C hT hRm hR ends outs)
      · rw [hs] at h
        cases h
        exact ends pc E ls st μ1 hc hs
      · rw [hs] at h
        cases d with
        | zero => cases h
        | succ d' =>
          simp only at h
          cases hv : jev n d' j 0 (jent j as) [] μ1 with
          | none => rw [hv] at h; cases h
          | some q =>
            obtain ⟨o2, μ2⟩ := q
            have hg := jev_gr _ _ _ _ _ _ _ _ _ hv
            rw [hv] at h
            obtain ⟨ins, len, a, b, w, sw⟩ := E
            have hd := jchk_dec hE
            have hE2 := hE
            unfold jchk at hE2
            replace hE2 := (jand hE2).2
            -- the callee's number and what the call says
            have hcall : ∃ (virt init : Bool) (nn : Nat), jcall (ins, len, a, b, w, sw) pc ls st virt = some (.inr (.inr (j, as, pc', ls', st'))) ∧ jinv i pc nn (ins, len, a, b, w, sw) (!virt) init = true ∧ ((virt = true ∧ init = false ∧ ins = .invokevirtual nn) ∨ (virt = true ∧ init = true ∧ ins = .invokespecial nn) ∨ (virt = false ∧ init = false ∧ ins = .invokestatic nn)) := by
              rcases jci hs with ⟨nn, rfl, hcl⟩ | ⟨nn, rfl, h1, hcl⟩ | ⟨nn, rfl, ⟨h1, h2, h3⟩, hcl⟩
              · exact ⟨true, false, nn, hcl, hE2, Or.inl ⟨rfl, rfl, rfl⟩⟩
              · replace hE2 : (bif Nat.beq a 1001 then Nat.beq len 3 && jml i pc nn ⟨"java/lang/Object", "<init>", "()V"⟩ else jinv i pc nn (.invokespecial nn, len, a, b, w, sw) false true) = true := hE2
                rw [h1] at hE2
                exact ⟨true, true, nn, hcl, hE2, Or.inr (Or.inl ⟨rfl, rfl, rfl⟩)⟩
              · replace hE2 : (bif Nat.beq a 1002 then Nat.beq len 3 && jml i pc nn arraycopyName else bif Nat.beq a 1003 then Nat.beq len 3 && jml i pc nn Lib.Math.min.name else bif Nat.beq a 1004 then Nat.beq len 3 && jml i pc nn Lib.Math.max.name else jinv i pc nn (.invokestatic nn, len, a, b, w, sw) true false) = true := hE2
                rw [h1, h2, h3] at hE2
                exact ⟨false, false, nn, hcl, hE2, Or.inr (Or.inr ⟨rfl, rfl, rfl⟩)⟩
            obtain ⟨virt, init, nn, hcl, hin, hkind⟩ := hcall
            obtain ⟨q1, q2, q3, hst, hlen, h8, hrv, hspr⟩ := jcall_inv hcl
            have q1 : a = j := q1.symm
            have q2 : pc + 3 = pc' := q2.symm
            have q3 : ls = ls' := q3.symm
            subst q1
            subst q2
            subst q3
            simp only at hlen hrv hspr hv
            obtain ⟨hl3, hj, hj0, -⟩ := jinv_spec hin
            simp only at hl3 hj hj0
            subst hl3
            have hM : jStk μ1 as → ∀ ad, jMet l G d' a as ad μ1 o2 μ2 := by
              intro hstk ad
              refine jmet_of hl hj hstk hspr ?_
              intro p e s m args below meth c C2 hT2
              refine ih _ _ _ _ _ _ _ _ hv hj C2 hT2 ?_ ?_ ?_ ?_
              · exact ⟨Nat.le_refl _, Nat.le_refl _⟩
              · have a1 := hg.2.1
                have a2 := hg.2.2
                show jnc μ2 ≤ jnc μ2 - jnc μ1 + jnc μ1 ∧ jns μ2 ≤ jns μ2 - jns μ1 + jns μ1
                omega
              · intro pc3 E3 ls3 st3 μ3 hc3 hs3
                have hE3 := hck _ _ _ hj hc3
                cases o2 with
                | inl v3 => exact snd_ret C2 hE3 hs3
                | inr c3 =>
                  obtain ⟨ins3, len3, a3, b3, w3, sw3⟩ := E3
                  rcases jri hs3 with ⟨-, u, -, -, e1, -⟩ | ⟨-, u, -, e1, -⟩ | ⟨-, u, -, e1, -⟩ | ⟨-, u, -, e1, -⟩ | ⟨-, -, e1, -⟩ | ⟨n3, rfl, h1, h2, e1, rfl⟩
                  · cases e1
                  · cases e1
                  · cases e1
                  · cases e1
                  · cases e1
                  · rw [Sum.inr.inj e1]
                    refine snd_throw C2 (fun z => by rw [hT2, z]) hE3 h1 h2 ⟨?_, ?_⟩ ?_
                    · show 6 ≤ 12 + d'; omega
                    · show 90 ≤ 300 + 80 * d'; omega
                    · have a1 := hg.2.1
                      have a2 := hg.2.2
                      show jnc (jthr μ3) ≤ jnc (jthr μ3) - jnc μ1 + jnc μ1 ∧ jns (jthr μ3) ≤ jns (jthr μ3) - jns μ1 + jns μ1
                      omega
              · intro pc3 ls3 st3 cc hcc ho hnh
                subst ho
                intro ad' H locs cells slots lsA q ce g1 g2 g3 g4 g5 g6 g7 g8 hce hcv hcls
                have a1 := hg.2.1
                have a2 := hg.2.2
                refine vx_out (E := jexn cc) (ce := ce) (fun x hx => by rw [hT2, hnh] at hx; cases hx) C2.2.2.2.2.2.1 hce hcv hcls (fun t ht _ => ⟨cc, ad', rfl, hcc, rfl, g1, by rw [ht]; exact g3, g4.F ht⟩) g4.2.2 (by omega) (by omega)
            have hgr2 : jgr μ2 μ' := by
              cases o2 with
              | inl v2 => exact jev_gr _ _ _ _ _ _ _ _ _ h
              | inr cc =>
                simp only at h
                cases hh : jhnd (jhs i) pc cc with
                | none =>
                  rw [hh] at h
                  simp only [jun] at h
                  split at h
                  · cases h; exact jgr_refl _
                  · cases h
                | some q =>
                  obtain ⟨t, k⟩ := q
                  rw [hh] at h
                  exact jev_gr _ _ _ _ _ _ _ _ _ h
            have hR2 : jnc μ2 ≤ R.cells + k0 ∧ jns μ2 ≤ R.slots + s0 := ⟨Nat.le_trans hgr2.2.1 hR.1, Nat.le_trans hgr2.2.2 hR.2⟩
            have hRd : 12 + d' + 1 ≤ R.frames ∧ 8 + (40 + 11) + (300 + 80 * d') ≤ R.locals := by omega
            have kk : jKK G i p l e R s m args below meth c Q k0 s0 μ0 ad0 pc ls st' μ2 o2 := by
              cases o2 with
              | inl v2 => exact ih _ _ _ _ _ _ _ _ h hi C hT hRm hR ends outs
              | inr cc =>
                intro hcc
                simp only at h
                cases hh : jhnd (jhs i) pc cc with
                | none =>
                  rw [hh] at h
                  simp only [jun] at h
                  split at h
                  · next hnil =>
                    cases h
                    exact outs pc ls st' cc hcc rfl (jhs_none hi hnil)
                  · cases h
                | some q =>
                  obtain ⟨t, k⟩ := q
                  rw [hh] at h
                  obtain ⟨hq, hq1, hq2⟩ := jhck_some hi hh
                  exact snd_catch C (by rw [hT, hq1]) hq2 hh (ih _ _ _ _ _ _ _ _ h hi C hT hRm hR ends outs)
            by_cases hne : a = m_Enum_ordinal
            · subst hne
              rcases hkind with ⟨rfl, rfl, rfl⟩ | ⟨rfl, rfl, rfl⟩ | ⟨rfl, rfl, rfl⟩
              · exact snd_callO hmk hck C hd hin hst hlen h8 (hrv rfl) hRd hR2 hv kk
              · exfalso
                obtain ⟨-, -, -, -, -, -, hnm, -⟩ := jinv_spec hin
                have h0 : (jY 57).name = "<init>" := by first | exact of_eq_true hnm | exact Eq.mpr hnm rfl
                exact absurd h0 (by decide)
              · exfalso
                obtain ⟨-, -, -, -, hss, -⟩ := jinv_spec hin
                cases hss
            · rcases hkind with ⟨rfl, rfl, rfl⟩ | ⟨rfl, rfl, rfl⟩ | ⟨rfl, rfl, rfl⟩
              · exact snd_callV hmk C hd hin hne hst hlen h8 (hrv rfl) hRd hR2 hM hg kk
              · exact snd_callI hmk C hd hin hne hst hlen h8 (hrv rfl) hRd hR2 hM hg kk
              · exact snd_callS hmk C hd hin hne hst hlen h8 hRd hR2 hM hg kk
end SNB
