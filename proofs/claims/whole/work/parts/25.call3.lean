/-! CALLS, the sixth part: the call of any method but Enum.ordinal. -/
section SND2
variable {p : Program} {l : Launch} {e : Env} {R : Room} {s : State} {m : MethodId} {args : Array Value} {below : List Frame} {meth : Method} {c : Code} {Q : State → Prop}
variable {G : jG} {i : Nat} {k0 s0 : Nat} {μ0 : jM} {ad0 : Nat → Nat}
theorem jnhh_all : tables_1.all (fun w => match w with | .methodLinkNest _ _ y _ => decide (y.cls ≠ "CrossBarLaw") | _ => true) = true := by decide +kernel
theorem jhh_static {j : Nat} {hh : List (Nat × Nat × Nat × Nat)} (hj : j < 276) (h : jHH j = some hh) : jstatic j = true ∧ (jY j).cls = "CrossBarLaw" := by
  have h1 := jhck_all j hj
  unfold jhck at h1
  rw [h] at h1
  obtain ⟨-, h1⟩ := jand h1
  obtain ⟨-, h1⟩ := jand h1
  obtain ⟨h1, h2⟩ := jand h1
  exact ⟨h1, of_decide_eq_true h2⟩
set_option maxHeartbeats 4000000 in
theorem snd_callV (hmk : ∀ i, i < 276 → jmchk i = true) (C : jCtx G i p l s m args meth c) {n len a b d : Nat} {v : Int32} {sw : List (Int32 × Nat)} {pc : Nat} {ls : List (Option Value)} {st r as : List Value} {μ μ2 : jM} {o2 : jO}
    (hd : decode (jB i) pc = .ok (.invokevirtual n, 3)) (hi : jinv i pc n (.invokevirtual n, len, a, b, v, sw) false false = true) (hne : a ≠ m_Enum_ordinal)
    (hs : st = as.reverse ++ r) (hlen : as.length = b) (h8 : jcat r ≤ 8) (hrv : jrcv a as = true) (hR : 12 + d + 1 ≤ R.frames ∧ 8 + (40 + 11) + (300 + 80 * d) ≤ R.locals) (hRn : jnc μ2 ≤ R.cells + k0 ∧ jns μ2 ≤ R.slots + s0)
    (hM : jStk μ as → ∀ ad, jMet l G d a as ad μ o2 μ2) (hgr : jgr μ μ2) (kk : jKK G i p l e R s m args below meth c Q k0 s0 μ0 ad0 pc ls r μ2 o2) : jGo G i p l e R s m args below meth c Q k0 s0 μ0 ad0 pc ls st μ := by
  obtain ⟨hx, hb, hml, hown, hts, hlk, hFB, hret, hmn, hstk, hgb⟩ := C
  obtain ⟨-, hj, hj0, hlink, hstt, hpar, hnm, -⟩ := jinv_spec hi
  simp only at hj hj0 hlink hstt hpar hnm
  rw [jbne hne] at hlink
  simp only [cond_false] at hlink hpar
  obtain ⟨hw1, hw2, hw3, hw4⟩ := jmw_spec hmk hj hj0
  rw [hstt] at hw2 hw3
  simp only [cond_false] at hw2
  obtain ⟨hy1, -⟩ := jY_ok hj
  obtain ⟨x, as', rfl, hxc⟩ := jrcv_inv hrv
  have hnoh : jHH a = none := by
    cases hh : jHH a with
    | none => rfl
    | some q => rw [(jhh_static hj hh).1] at hstt; cases hstt
  have hcw : jcwd a = .code (jY a) (jB a) (jmL a) (jRt a) := by unfold jcwd; rw [hnoh]
  have hsel : Jvm.Cond.selects (jY a).cls (jY a) (jY a) ∈ jW := by
    rcases hw3 with h | h | h | h
    · cases h
    · exact absurd h hne
    · have h9 := Eq.mp hnm h
      cases h9
    · exact h
  have hws : jwsl a = .code (jY a) (jB a) (jmL a) (jRt a) :: jW := by unfold jwsl; rw [hcw]
  have hmL := jmL_max a hj
  have n1 := hgr.2.1
  have n2 := hgr.2.2
  intro ad H locs cells slots lsA g1 g2 g3 g4 g5 g6 g7 g8
  have g6r : jStk μ r := fun w hw => g6 w (by rw [hs]; exact List.mem_append_right _ hw)
  have hxo : jok μ x := g6 (.ref x) (by rw [hs]; exact List.mem_append_left _ (List.mem_reverse.mpr List.mem_cons_self))
  have hre := jrecv hFB g3 g4 hxo hj hstt hne hxc
  have has : jStk μ (.ref x :: as') := fun w hw => g6 w (by rw [hs]; exact List.mem_append_left _ (List.mem_reverse.mpr hw))
  have hpc := jPc_at (G := G) (ad := ad) (μ := μ) (as := .ref x :: as') hFB hgb g3 g4 rfl
  have hfix : CallFix p m c (jB i) (jmL i) s args jW (jY i).cls := ⟨hx, hb, hml, hown, hts⟩
  have hstack : st.map (jpv G ad) = (as'.map (jpv G ad)).reverse ++ .ref (ad x) :: r.map (jpv G ad) := by
    rw [hs]
    simp [jpv]
  have hla : (as'.map (jpv G ad)).length = jpar (jY a) := by
    rw [List.length_map]
    simp at hlen
    omega
  have hmon : 2 * (F0 m pc lsA (st.map (jpv G ad))).monitorRoom + ((r.map (jpv G ad)).map fun v => v.category).sum ≤ 8 := by
    rw [jcat_map (jsio hFB)]
    show 2 * 0 + jcat r ≤ 8
    omega
  have hf : cells + (jnc μ2 - jnc μ) ≤ R.cells ∧ slots + (jns μ2 - jns μ) ≤ R.slots := by omega
  have hrm : (jrm d (jnc μ2 - jnc μ) (jns μ2 - jns μ)).frames + 1 ≤ R.frames ∧ 8 + (jmL a + 11) + (jrm d (jnc μ2 - jnc μ) (jns μ2 - jns μ)).locals ≤ R.locals := by
    show 12 + d + 1 ≤ R.frames ∧ 8 + (jmL a + 11) + (300 + 80 * d) ≤ R.locals
    omega
  refine jafter kk hgr g1 g2 g4 g5 g6r g7 g8 (A := (Value.ref (ad x) :: as'.map (jpv G ad)).toArray) ?_
  rcases jml_inv hlink with hw | ⟨ho, hw⟩
  · refine vx_runV (bytes := jB a) (maxL := jmL a) (ret := jRt a) (b := ad x) (As := as'.map (jpv G ad)) (C := (jY a).cls) hfix (hM has ad) ?_ ⟨jPc_blind, hre, hpc⟩ rfl hla g5.2.1 hstack hmon hd hf
    exact ⟨callB_of (jpar (jY a)) hts (jW_good a hw1) hws rfl rfl (hts _ hw4) (hts _ (jwin _ hw rfl)) ⟨hy1.1, hy1.2, jY_par hj⟩ hrm, hts _ hw2, hts _ hsel⟩
  · refine vx_runVN (host := ho) (bytes := jB a) (maxL := jmL a) (ret := jRt a) (b := ad x) (As := as'.map (jpv G ad)) (C := (jY a).cls) hfix (hM has ad) ?_ ⟨jPc_blind, hre, hpc⟩ rfl hla g5.2.1 hstack hmon hd hf
    exact ⟨va_cnB (jpar (jY a)) hts (jW_good a hw1) hws rfl rfl (jFB_nest hFB hw rfl) (hts _ hw4) ⟨hy1.1, hy1.2, jY_par hj⟩ hrm, hts _ hw2, hts _ hsel⟩
set_option maxHeartbeats 4000000 in
theorem snd_callI (hmk : ∀ i, i < 276 → jmchk i = true) (C : jCtx G i p l s m args meth c) {n len a b d : Nat} {v : Int32} {sw : List (Int32 × Nat)} {pc : Nat} {ls : List (Option Value)} {st r as : List Value} {μ μ2 : jM} {o2 : jO}
    (hd : decode (jB i) pc = .ok (.invokespecial n, 3)) (hi : jinv i pc n (.invokespecial n, len, a, b, v, sw) false true = true) (hne : a ≠ m_Enum_ordinal)
    (hs : st = as.reverse ++ r) (hlen : as.length = b) (h8 : jcat r ≤ 8) (hrv : jrcv a as = true) (hR : 12 + d + 1 ≤ R.frames ∧ 8 + (40 + 11) + (300 + 80 * d) ≤ R.locals) (hRn : jnc μ2 ≤ R.cells + k0 ∧ jns μ2 ≤ R.slots + s0)
    (hM : jStk μ as → ∀ ad, jMet l G d a as ad μ o2 μ2) (hgr : jgr μ μ2) (kk : jKK G i p l e R s m args below meth c Q k0 s0 μ0 ad0 pc ls r μ2 o2) : jGo G i p l e R s m args below meth c Q k0 s0 μ0 ad0 pc ls st μ := by
  obtain ⟨hx, hb, hml, hown, hts, hlk, hFB, hret, hmn, hstk, hgb⟩ := C
  obtain ⟨-, hj, hj0, hlink, hstt, hpar, hnm, hrt⟩ := jinv_spec hi
  simp only at hj hj0 hlink hstt hpar hnm hrt
  rw [jbne hne] at hlink
  simp only [cond_false] at hlink hpar
  have hrt : jRt a = none := hrt trivial
  have hnm : (jY a).name = "<init>" := by first | exact of_eq_true hnm | exact Eq.mpr hnm rfl
  obtain ⟨hw1, hw2, hw3, hw4⟩ := jmw_spec hmk hj hj0
  rw [hstt] at hw2
  simp only [cond_false] at hw2
  obtain ⟨hy1, -⟩ := jY_ok hj
  obtain ⟨x, as', rfl, hxc⟩ := jrcv_inv hrv
  have hnoh : jHH a = none := by
    cases hh : jHH a with
    | none => rfl
    | some q => rw [(jhh_static hj hh).1] at hstt; cases hstt
  have hws : jwsl a = .code (jY a) (jB a) (jmL a) none :: jW := by
    unfold jwsl jcwd
    rw [hnoh, hrt]
  have hmL := jmL_max a hj
  have n1 := hgr.2.1
  have n2 := hgr.2.2
  intro ad H locs cells slots lsA g1 g2 g3 g4 g5 g6 g7 g8
  have g6r : jStk μ r := fun w hw => g6 w (by rw [hs]; exact List.mem_append_right _ hw)
  have has : jStk μ (.ref x :: as') := fun w hw => g6 w (by rw [hs]; exact List.mem_append_left _ (List.mem_reverse.mpr hw))
  have hpc := jPc_at (G := G) (ad := ad) (μ := μ) (as := .ref x :: as') hFB hgb g3 g4 rfl
  have hfix : CallFix p m c (jB i) (jmL i) s args jW (jY i).cls := ⟨hx, hb, hml, hown, hts⟩
  have hstack : st.map (jpv G ad) = (as'.map (jpv G ad)).reverse ++ .ref (ad x) :: r.map (jpv G ad) := by
    rw [hs]
    simp [jpv]
  have hla : (as'.map (jpv G ad)).length = jpar (jY a) := by
    rw [List.length_map]
    simp at hlen
    omega
  have hmon : 2 * (F0 m pc lsA (st.map (jpv G ad))).monitorRoom + ((r.map (jpv G ad)).map fun v => v.category).sum ≤ 8 := by
    rw [jcat_map (jsio hFB)]
    show 2 * 0 + jcat r ≤ 8
    omega
  have hf : cells + (jnc μ2 - jnc μ) ≤ R.cells ∧ slots + (jns μ2 - jns μ) ≤ R.slots := by omega
  have hrm : (jrm d (jnc μ2 - jnc μ) (jns μ2 - jns μ)).frames + 1 ≤ R.frames ∧ 8 + (jmL a + 11) + (jrm d (jnc μ2 - jnc μ) (jns μ2 - jns μ)).locals ≤ R.locals := by
    show 12 + d + 1 ≤ R.frames ∧ 8 + (jmL a + 11) + (300 + 80 * d) ≤ R.locals
    omega
  refine jafter kk hgr g1 g2 g4 g5 g6r g7 g8 (A := (Value.ref (ad x) :: as'.map (jpv G ad)).toArray) ?_
  rcases jml_inv hlink with hw | ⟨ho, hw⟩
  · refine vx_runI (bytes := jB a) (maxL := jmL a) (b := ad x) (As := as'.map (jpv G ad)) hfix (hM has ad) ?_ ⟨jPc_blind, hpc⟩ rfl hla g5.2.1 hstack hmon hd hf
    exact ⟨callB_of (jpar (jY a)) hts (jW_good a hw1) hws rfl rfl (hts _ hw4) (hts _ (jwin _ hw rfl)) ⟨hy1.1, hy1.2, jY_par hj⟩ hrm, hnm, hts _ hw2⟩
  · refine vx_runIN (host := ho) (bytes := jB a) (maxL := jmL a) (b := ad x) (As := as'.map (jpv G ad)) hfix (hM has ad) ?_ ⟨jPc_blind, hpc⟩ rfl hla g5.2.1 hstack hmon hd hf
    exact ⟨va_cnB (jpar (jY a)) hts (jW_good a hw1) hws rfl rfl (jFB_nest hFB hw rfl) (hts _ hw4) ⟨hy1.1, hy1.2, jY_par hj⟩ hrm, hnm, hts _ hw2⟩
set_option maxHeartbeats 4000000 in
theorem snd_callS (hmk : ∀ i, i < 276 → jmchk i = true) (C : jCtx G i p l s m args meth c) {n len a b d : Nat} {v : Int32} {sw : List (Int32 × Nat)} {pc : Nat} {ls : List (Option Value)} {st r as : List Value} {μ μ2 : jM} {o2 : jO}
    (hd : decode (jB i) pc = .ok (.invokestatic n, 3)) (hi : jinv i pc n (.invokestatic n, len, a, b, v, sw) true false = true) (hne : a ≠ m_Enum_ordinal)
    (hs : st = as.reverse ++ r) (hlen : as.length = b) (h8 : jcat r ≤ 8) (hR : 12 + d + 1 ≤ R.frames ∧ 8 + (40 + 11) + (300 + 80 * d) ≤ R.locals) (hRn : jnc μ2 ≤ R.cells + k0 ∧ jns μ2 ≤ R.slots + s0)
    (hM : jStk μ as → ∀ ad, jMet l G d a as ad μ o2 μ2) (hgr : jgr μ μ2) (kk : jKK G i p l e R s m args below meth c Q k0 s0 μ0 ad0 pc ls r μ2 o2) : jGo G i p l e R s m args below meth c Q k0 s0 μ0 ad0 pc ls st μ := by
  obtain ⟨hx, hb, hml, hown, hts, hlk, hFB, hret, hmn, hstk, hgb⟩ := C
  obtain ⟨-, hj, hj0, hlink, hstt, hpar, hnm, -⟩ := jinv_spec hi
  simp only at hj hj0 hlink hstt hpar hnm
  rw [jbne hne] at hlink
  simp only [cond_false, cond_true, Nat.add_zero] at hlink hpar
  obtain ⟨hw1, hw2, hw3, hw4⟩ := jmw_spec hmk hj hj0
  rw [hstt] at hw2
  simp only [cond_true] at hw2
  obtain ⟨hy1, -⟩ := jY_ok hj
  have hmL := jmL_max a hj
  have n1 := hgr.2.1
  have n2 := hgr.2.2
  intro ad H locs cells slots lsA g1 g2 g3 g4 g5 g6 g7 g8
  have g6r : jStk μ r := fun w hw => g6 w (by rw [hs]; exact List.mem_append_right _ hw)
  have has : jStk μ as := fun w hw => g6 w (by rw [hs]; exact List.mem_append_left _ (List.mem_reverse.mpr hw))
  have hpc := jPc_at (G := G) (ad := ad) (μ := μ) (as := as) hFB hgb g3 g4 rfl
  have hfix : CallFix p m c (jB i) (jmL i) s args jW (jY i).cls := ⟨hx, hb, hml, hown, hts⟩
  have hstack : st.map (jpv G ad) = (as.map (jpv G ad)).reverse ++ r.map (jpv G ad) := by
    rw [hs]
    simp
  have hla : (as.map (jpv G ad)).length = jpar (jY a) := by
    rw [List.length_map]
    omega
  have hmon : 2 * (F0 m pc lsA (st.map (jpv G ad))).monitorRoom + ((r.map (jpv G ad)).map fun v => v.category).sum ≤ 8 := by
    rw [jcat_map (jsio hFB)]
    show 2 * 0 + jcat r ≤ 8
    omega
  have hf : cells + (jnc μ2 - jnc μ) ≤ R.cells ∧ slots + (jns μ2 - jns μ) ≤ R.slots := by omega
  have hrm : (jrm d (jnc μ2 - jnc μ) (jns μ2 - jns μ)).frames + 1 ≤ R.frames ∧ 8 + (jmL a + 11) + (jrm d (jnc μ2 - jnc μ) (jns μ2 - jns μ)).locals ≤ R.locals := by
    show 12 + d + 1 ≤ R.frames ∧ 8 + (jmL a + 11) + (300 + 80 * d) ≤ R.locals
    omega
  refine jafter kk hgr g1 g2 g4 g5 g6r g7 g8 (A := (as.map (jpv G ad)).toArray) ?_
  cases hh : jHH a with
  | none =>
    have hws : jwsl a = .code (jY a) (jB a) (jmL a) (jRt a) :: jW := by
      unfold jwsl jcwd
      rw [hh]
    rcases jml_inv hlink with hw | ⟨ho, hw⟩
    · refine vx_runS (bytes := jB a) (maxL := jmL a) (ret := jRt a) (As := as.map (jpv G ad)) hfix (hM has ad) ?_ ⟨jPc_blind, hpc⟩ rfl hla g5.2.1 hstack hmon hd hf
      exact ⟨callB_of (jpar (jY a)) hts (jW_good a hw1) hws rfl rfl (hts _ hw4) (hts _ (jwin _ hw rfl)) ⟨hy1.1, hy1.2, jY_par hj⟩ hrm, hts _ hw2⟩
    · refine vx_runSN (host := ho) (bytes := jB a) (maxL := jmL a) (ret := jRt a) (As := as.map (jpv G ad)) hfix (hM has ad) ?_ ⟨jPc_blind, hpc⟩ rfl hla g5.2.1 hstack hmon hd hf
      exact ⟨va_cnB (jpar (jY a)) hts (jW_good a hw1) hws rfl rfl (jFB_nest hFB hw rfl) (hts _ hw4) ⟨hy1.1, hy1.2, jY_par hj⟩ hrm, hts _ hw2, trivial⟩
  | some q =>
    have hcw : jcwd a = .codeWith (jY a) (jB a) (jmL a) (jRt a) q := by unfold jcwd; rw [hh]
    rcases jml_inv hlink with hw | ⟨ho, hw⟩
    · refine vx_runSX (bytes := jB a) (maxL := jmL a) (ret := jRt a) (hh := q) (As := as.map (jpv G ad)) hfix (hM has ad) ?_ ⟨jPc_blind, hpc⟩ rfl hla g5.2.1 hstack hmon hd hf
      refine ⟨⟨rfl, rfl, hrm.1, hrm.2, pay_in hts (jW_good a hw1), ?_⟩, ?_, hts _ hw4, hy1, fun sig h => ?_, hts _ (jwin _ hw rfl), hts _ hw2⟩
      · rw [← hcw]; exact List.mem_cons_self
      · rw [← hcw]; exact hts _ hw1
      · have h2 := jY_par hj
        rw [h] at h2
        exact (Option.some.inj h2).symm
    · exfalso
      have h1 := List.all_eq_true.mp jnhh_all _ (List.mem_of_getElem? hw)
      exact (of_decide_eq_true h1) (jhh_static hj hh).2
end SND2
