/-! THE START: all facts that soundness asks for, at the law's entry. -/
def jtm (x : Nat) : Term := bif Nat.beq (x % 64) 40 then jzk (x / 64) else bif Nat.beq (x % 64) 41 then jzs (x / 64) else bif Nat.beq (x % 64) 43 then jzb (x / 64) else bif Nat.beq x 42 then jtSW else bif Nat.beq x 106 then jtKI else bif Nat.beq x 170 then jtWO else .arg 0
def jgad (s : State) (args : Array Value) (x : Nat) : Nat := match (jtm x).eval args s none [] s with
  | some (.ref a) => a
  | _ => 0
theorem jgad_ev {s : State} {args : Array Value} {x a : Nat} {t : Term} (ht : jtm x = t) (h : t.eval args s none [] s = some (.ref a)) : jgad s args x = a := by
  unfold jgad
  rw [ht, h]
theorem jtm_k (k : Nat) : jtm (40 + 64 * k) = jzk k := by
  unfold jtm
  rw [show (40 + 64 * k) % 64 = 40 by omega, show (40 + 64 * k) / 64 = k by omega]
  rfl
theorem jtm_s (k : Nat) : jtm (41 + 64 * k) = jzs k := by
  unfold jtm
  rw [show (41 + 64 * k) % 64 = 41 by omega, show (41 + 64 * k) / 64 = k by omega]
  rfl
theorem jtm_b (k : Nat) : jtm (43 + 64 * k) = jzb k := by
  unfold jtm
  rw [show (43 + 64 * k) % 64 = 43 by omega, show (43 + 64 * k) / 64 = k by omega]
  rfl
theorem jktx_form : ∀ k, k < 42 → jktx k = 41 + 64 * (jktx k / 64) ∧ jktx k / 64 < 39 := by decide
theorem jwrd_form : ∀ k, k < 22 → jwrd k = 41 + 64 * (jwrd k / 64) ∧ jwrd k / 64 < 39 := by decide
theorem jstr_len : ∀ k, k < 39 → (jstr k).length < 100 := by decide
theorem jlay_k : ∀ k, k < 42 → (.laysStatic "CrossBar$Kind" (jkn k) "LCrossBar$Kind;" : Jvm.Cond) ∈ tables_1 := by
  have h : (List.range 42).all (fun k => decide ((.laysStatic "CrossBar$Kind" (jkn k) "LCrossBar$Kind;" : Jvm.Cond) ∈ tables_1)) = true := by decide +kernel
  intro k hk
  exact of_decide_eq_true (List.all_eq_true.mp h k (List.mem_range.mpr hk))
def jlay_w : List Jvm.Cond := [.initialized "CrossBar$Kind", .laysStatic "CrossBar$1" "$SwitchMap$CrossBar$Kind" "[I", .initialized "CrossBar$1", .laysStatic "CrossBar" "KINDS" "[LCrossBar$Kind;", .initialized "CrossBar", .laysStatic "CrossBarModel" "WORDS" "[Ljava/lang/String;", .initialized "CrossBarModel", .laysStatic "java/lang/String" "COMPACT_STRINGS" "Z", .initialized "java/lang/String", .laysStatic "jdk/internal/util/Preconditions" "SIOOBE_FORMATTER" "Ljava/util/function/BiFunction;", .initialized "jdk/internal/util/Preconditions", .laysStatic Bundle.tN "UNASSIGNED_STACK" Bundle.steD, .laysStatic Bundle.tN "SUPPRESSED_SENTINEL" Bundle.listD, .initialized Bundle.tN, .arrayOver (.object "CrossBar$Kind"), .arrayOver (.array .int), .castable (jexn 0) (jexn 0), .castable (jexn 1) (jexn 1), .castable (jexn 2) (jexn 2), .arrayClass .int, .arrayClass .byte, .arrayClass .long, .stringRef "CrossBarModel" 99 "()[];,+-*/<>="]
theorem jlay_ok : ∀ w ∈ jlay_w, w ∈ tables_1 := by
  have h : jlay_w.all (fun w => decide (w ∈ tables_1)) = true := by decide +kernel
  intro w hw
  exact of_decide_eq_true (List.all_eq_true.mp h w hw)
def jisx : Jvm.Cond → Bool
  | .exactly (.string _ _) _ => true
  | _ => false
theorem jsrf_all : tables_1.all (fun w => match w with | .stringRef own k _ => decide ((.exactly (.string own k) "java/lang/String" : Jvm.Cond) ∈ (flatC (Jvm.Cond.and given_1 narrow_1)).filter jisx) | _ => true) = true := by decide +kernel
theorem jinst_all : ∀ q ∈ jCl, ∀ w ∈ (.instantiable q.1 q.2.2 :: u_ws q.1 q.2.1 q.2.2 : List Jvm.Cond), w ∈ tables_1 := by
  have h1 : jCl.all (fun q => (.instantiable q.1 q.2.2 :: u_ws q.1 q.2.1 q.2.2 : List Jvm.Cond).all fun w => decide (w ∈ tables_1)) = true := by decide +kernel
  intro q hq w hw
  exact of_decide_eq_true (List.all_eq_true.mp (List.all_eq_true.mp h1 q hq) w hw)
theorem jarr_prim {s : State} {args : Array Value} {ty : FieldType} (h : (Jvm.Cond.arrayClass ty).before args s = true) (hn : ∀ C, ty ≠ .object C) : ∃ c : Nat, ArrOfT s c ty ∧ va_RA s c ty := by
  obtain ⟨c, k, comp, h1, h2, h3⟩ := Cond.arrayClass_spec h
  refine ⟨c, fun n z => ⟨fun k h => (by cases h), k, h2, comp, h3⟩, ?_⟩
  cases ty <;> first | exact h1 | exact absurd rfl (hn _)
set_option maxHeartbeats 4000000 in
theorem jstart {s : State} {b L : Nat} {xs : Nat → Int32} (hL : L ≤ 3072) (hts : ∀ w ∈ lw_tbl, w.before #[Value.ref b] s = true) (hpre : (Jvm.Cond.and given_1 narrow_1).before #[Value.ref b] s = true) (hX : va_X b L xs s s.heap) (hb : b < s.heap.size) :
    ∃ G : jG, jFB G s s.heap ∧ gbs G = s.heap.size ∧ gb G = b ∧ gL G = L ∧ gxs G = xs := by
  obtain ⟨tg0, tg1, tg2, tg3, tg4⟩ := jtag_all
  have hq : ∀ q ∈ jtags, ∀ w ∈ jpc q, w.before #[Value.ref b] s = true := fun q hq w hw => flat_of_before _ hpre w (jsub_mem _ _ jpre_sub w (List.mem_flatMap.mpr ⟨q, hq, hw⟩))
  have t0 : ∀ k, k < 42 → (0, k) ∈ jtags := fun k hk => of_decide_eq_true (List.all_eq_true.mp tg0 k (List.mem_range.mpr hk))
  have t1 : ∀ k, k < 39 → (1, k) ∈ jtags := fun k hk => of_decide_eq_true (List.all_eq_true.mp tg1 k (List.mem_range.mpr hk))
  have t2 : ∀ q ∈ [((2 : Nat), (0 : Nat)), (3, 0), (4, 0), (5, 0), (8, 0), (9, 0)], q ∈ jtags := fun q hq => of_decide_eq_true (List.all_eq_true.mp tg2 q hq)
  have htb : ∀ w ∈ tables_1, w.before #[Value.ref b] s = true := fun w hw => hts w (List.mem_append_right _ hw)
  have hlw : ∀ w ∈ jlay_w, w.before #[Value.ref b] s = true := fun w hw => htb w (jlay_ok w hw)
  obtain ⟨A, hAe⟩ : ∃ A : Nat → Prop, A = fun q => s.heap.size ≤ q := ⟨_, rfl⟩
  have hA : ∀ a : Nat, a < s.heap.size → ¬ A a := fun a h z => by rw [hAe] at z; exact absurd (Nat.lt_of_lt_of_le h z) (Nat.lt_irrefl _)
  obtain ⟨ad, had⟩ : ∃ ad, ad = jgad s #[Value.ref b] := ⟨_, rfl⟩
  -- kinds
  have K0 : ∀ k, k < 42 → (Jvm.Cond.exactly (jzk k) "CrossBar$Kind").before #[Value.ref b] s = true := fun k hk => hq _ (t0 k hk) _ (by simp [jpc])
  have K1 : ∀ k, k < 42 → (jzk k).eval #[Value.ref b] s none [] s = some (.ref (ad (40 + 64 * k))) := by
    intro k hk
    obtain ⟨a, c, cell, kk, q1, -⟩ := Cond.exactly_spec (K0 k hk)
    rw [had, jgad_ev (jtm_k k) q1]
    exact q1
  have S0 : ∀ k, k < 39 → (Jvm.Cond.exactly (jzs k) "java/lang/String").before #[Value.ref b] s = true := fun k hk => hq _ (t1 k hk) _ (by simp [jpc])
  have S1 : ∀ k, k < 39 → (jzs k).eval #[Value.ref b] s none [] s = some (.ref (ad (41 + 64 * k))) := by
    intro k hk
    obtain ⟨a, c, cell, kk, q1, -⟩ := Cond.exactly_spec (S0 k hk)
    rw [had, jgad_ev (jtm_s k) q1]
    exact q1
  have S2 : ∀ k, k < 39 → (jzb k).eval #[Value.ref b] s none [] s = some (.ref (ad (43 + 64 * k))) ∧ va_T .byte (ad (43 + 64 * k)) (jstr k).length (fun j => .int ((jstr k).getD j 0)) A s s.heap := by
    intro k hk
    have hl := jstr_len k hk
    obtain ⟨t, e1, e2⟩ := va_Tof (A := A) (f := fun j => .int ((jstr k).getD j 0)) (by omega) (hq _ (t1 k hk) (.arrayOf (jzb k) .byte) (by simp [jpc])) (va_eqt (hq _ (t1 k hk) (.eq (.length (jzb k)) (.int (Int32.ofNat (jstr k).length))) (by simp [jpc]))) (fun j hj => va_eqt (hq _ (t1 k hk) _ (List.mem_append_right _ (List.mem_map.mpr ⟨j, List.mem_range.mpr hj, rfl⟩)))) hA
    rw [had, jgad_ev (jtm_b k) e1]
    exact ⟨e1, e2⟩
  have T1 : jtSW.eval #[Value.ref b] s none [] s = some (.ref (ad 42)) ∧ va_T .int (ad 42) 42 (fun j => .int (jswm j)) A s s.heap := by
    have h4 := t2 (4, 0) (by simp)
    obtain ⟨t, e1, e2⟩ := va_Tof (A := A) (f := fun j => .int (jswm j)) (by omega) (hq _ h4 (.arrayOf jtSW .int) (by simp [jpc])) (va_eqt (hq _ h4 (.eq (.length jtSW) (.int (Int32.ofNat 42))) (by simp [jpc]))) (fun j hj => va_eqt (hq _ h4 _ (List.mem_append_right _ (List.mem_map.mpr ⟨j, List.mem_range.mpr hj, rfl⟩)))) hA
    rw [had, jgad_ev (x := 42) rfl e1]
    exact ⟨e1, e2⟩
  have T2 : jtKI.eval #[Value.ref b] s none [] s = some (.ref (ad 106)) ∧ va_T (.object "CrossBar$Kind") (ad 106) 42 (fun j => .ref (ad (40 + 64 * j))) A s s.heap := by
    have h3 := t2 (3, 0) (by simp)
    obtain ⟨t, e1, e2⟩ := va_Tof (A := A) (f := fun j => .ref (ad (40 + 64 * j))) (by omega) (hq _ h3 (.arrayOf jtKI (.object "CrossBar$Kind")) (by simp [jpc])) (va_eqt (hq _ h3 (.eq (.length jtKI) (.int (Int32.ofNat 42))) (by simp [jpc]))) (fun j hj => va_eqv (hq _ h3 _ (List.mem_append_right _ (List.mem_map.mpr ⟨j, List.mem_range.mpr hj, rfl⟩))) (K1 j hj)) hA
    have e3 : ad 106 = t := by rw [had]; exact jgad_ev (x := 106) rfl e1
    rw [e3]
    exact ⟨e1, e2⟩
  have W1 : ∀ j, j < 22 → (Term.string "CrossBarModel" (jzw j)).eval #[Value.ref b] s none [] s = some (.ref (ad (jwrd j))) := by
    intro j hj
    obtain ⟨f1, f2⟩ := jwrd_form j hj
    have hs := S1 _ f2
    rw [← f1] at hs
    have h6 := List.all_eq_true.mp tg3 j (List.mem_range.mpr hj)
    rw [Bool.or_eq_true] at h6
    rcases h6 with h6 | h6
    · have h7 := hq _ (of_decide_eq_true h6) (.eq (jzs (jwrd j / 64)) (.string "CrossBarModel" (jzw j))) (by simp [jpc])
      cases he : (Term.string "CrossBarModel" (jzw j)).eval #[Value.ref b] s none [] s with
      | none => simp [Cond.before, Cond.holds, Cond.value, he, hs] at h7
      | some v =>
        have h8 := va_eqv h7 he
        rw [hs] at h8
        exact h8.symm
    · exact va_eqv (hq _ (of_decide_eq_true h6) (.eq (.string "CrossBarModel" (jzw j)) (jzs (jwrd j / 64))) (by simp [jpc])) hs
  have T3 : jtWO.eval #[Value.ref b] s none [] s = some (.ref (ad 170)) ∧ va_T (.object "java/lang/String") (ad 170) 22 (fun j => .ref (ad (jwrd j))) A s s.heap := by
    have h3 := t2 (5, 0) (by simp)
    obtain ⟨t, e1, e2⟩ := va_Tof (A := A) (f := fun j => .ref (ad (jwrd j))) (by omega) (hq _ h3 (.arrayOf jtWO (.object "java/lang/String")) (by simp [jpc])) (va_eqt (hq _ h3 (.eq (.length jtWO) (.int (Int32.ofNat 22))) (by simp [jpc]))) (fun j hj => va_eqv (hq _ h3 _ (List.mem_append_right _ (List.mem_map.mpr ⟨j, List.mem_range.mpr hj, rfl⟩))) (W1 j hj)) hA
    have e3 : ad 170 = t := by rw [had]; exact jgad_ev (x := 170) rfl e1
    rw [e3]
    exact ⟨e1, e2⟩
  have hcomp : jtCO.eval #[Value.ref b] s none [] s = some (.int 1) := va_eqt (hq _ (t2 (2, 0) (by simp)) (.eq jtCO (.int 1)) (by simp [jpc]))
  obtain ⟨sv, hsv, hsr⟩ : ∃ v, jtSI.eval #[Value.ref b] s none [] s = some v ∧ v.isRef = true := by
    have h := hq _ (t2 (2, 0) (by simp)) (.isRef jtSI) (by simp [jpc])
    cases hv : jtSI.eval #[Value.ref b] s none [] s with
    | none => simp [Cond.before, Cond.holds, Cond.value, hv] at h
    | some w =>
      simp only [Cond.before, Cond.holds, Cond.value, hv] at h
      refine ⟨w, rfl, ?_⟩
      cases w <;> first | rfl | simp at h
  -- classes
  have hcl : ∀ c : Nat, ∃ z : Nat × (Nat → Nat), ∀ q, jCl[c]? = some q → u_Kn s q.1 q.2.1 q.2.2 z.1 z.2 := by
    intro c
    cases hc : jCl[c]? with
    | none => exact ⟨(0, fun _ => 0), fun q h => (by cases h)⟩
    | some q =>
      have hm := List.mem_of_getElem? hc
      obtain ⟨cC, iS, h⟩ := u_known (ws := tables_1) (args := #[Value.ref b]) (s := s) (C := q.1) (T := q.2.1) (N := q.2.2) (n := q.2.2) htb (fun w hw => jinst_all q hm w (List.mem_cons_of_mem _ hw)) (htb _ (jinst_all q hm _ List.mem_cons_self))
      exact ⟨(cC, iS), fun q' h' => by cases h'; exact h⟩
  obtain ⟨dz, hdz⟩ := Classical.axiomOfChoice hcl
  have hAO : va_AO "CrossBar$Kind" s := va_AO.of (hlw _ (by simp [jlay_w]))
  have hAOA0 := hlw (.arrayOver (.array .int)) (by simp [jlay_w])
  have hAOA : va_AOA .int s := hAOA0
  obtain ⟨y0, z0, r0⟩ := jarr_prim (hlw (.arrayClass .int) (by simp [jlay_w])) (fun _ h => by cases h)
  obtain ⟨y1, z1, r1⟩ := jarr_prim (hlw (.arrayClass .byte) (by simp [jlay_w])) (fun _ h => by cases h)
  obtain ⟨y2, z2, r2⟩ := jarr_prim (hlw (.arrayClass .long) (by simp [jlay_w])) (fun _ h => by cases h)
  obtain ⟨p3, y3, k3, o1, o2, o3, o4, o5⟩ := Cond.arrayOver_spec (va_AO.use (A := #[]) hAO)
  obtain ⟨p4, y4, k4, a1, a2, a3, a4, a5⟩ := jAOA_spec hAOA0
  refine ⟨((fun c => (dz c).1, fun c => (dz c).2), fun k => match k with | 0 => y0 | 1 => y1 | 2 => y2 | 3 => y3 | _ => y4, ad, sv, s.heap.size, b, L, xs), ?_, rfl, rfl, rfl, rfl⟩
  generalize hG : ((((fun c => (dz c).1, fun c => (dz c).2), fun k => match k with | 0 => y0 | 1 => y1 | 2 => y2 | 3 => y3 | _ => y4, ad, sv, s.heap.size, b, L, xs) : jG)) = G
  have e1 : gad G = ad := by rw [← hG]
  have e2 : gA G = A := by rw [← hG, hAe]
  have e3 : gsio G = sv := by rw [← hG]
  have e4 : gb G = b := by rw [← hG]
  have e5 : gL G = L := by rw [← hG]
  have e6 : gxs G = xs := by rw [← hG]
  unfold jFB
  rw [e1, e2, e3, e4, e5, e6]
  refine ⟨?_, ?_, ?_, ?_, ?_, T1.2, T2.2, T3.2, fun k hk => (S2 k hk).2, ⟨?_, ?_, hL⟩, ⟨?_, ?_⟩, ⟨?_, ?_⟩, ?_, ⟨hAO, hAOA⟩, ?_, hsr⟩
  · rw [← hG]
    refine ⟨fun c q hq => hdz c q hq, fun k q hk => ?_⟩
    match k, hk with
    | 0, hk => cases hk; exact ⟨z0, r0⟩
    | 1, hk => cases hk; exact ⟨z1, r1⟩
    | 2, hk => cases hk; exact ⟨z2, r2⟩
    | 3, hk => cases hk; exact ⟨fun n z => ⟨fun k h => (by cases h), k3, o3, p3, o4⟩, ⟨k3, p3, o3, o4, o1, o5⟩⟩
    | 4, hk => cases hk; exact ⟨fun n z => ⟨fun k h => (by cases h), k4, a3, p4, a4⟩, a5⟩
  · intro E hE
    obtain ⟨ins, len, a, bb, v, sw⟩ := E
    unfold jsok at hE
    unfold jsd jsv
    simp only at hE ⊢
    cases h0 : Nat.beq bb 0 with
    | true =>
      rw [h0] at hE
      simp only [cond_true] at hE ⊢
      rw [Bool.or_eq_true, Bool.or_eq_true, Bool.or_eq_true] at hE
      rcases hE with hE | hE | hE | hE
      · obtain ⟨f1, f2⟩ := jand hE
        have f2 : a / 64 < 42 := Nat.le_of_ble_eq_true f2
        have f3 : a % 64 = 40 := jbeq f1
        have f4 : 40 + 64 * (a / 64) = a := by omega
        rw [f1]
        simp only [cond_true]
        have hk := K1 _ f2
        rw [f4] at hk
        exact va_Zref (htb _ (jlay_k _ f2)) (hlw _ (by simp [jlay_w])) hk hA
      · have f3 : a = 42 := jbeq hE
        subst f3
        exact va_Zref (C := "CrossBar$1") (n := "$SwitchMap$CrossBar$Kind") (d := "[I") (hlw _ (by simp [jlay_w])) (hlw _ (by simp [jlay_w])) T1.1 hA
      · have f3 : a = 106 := jbeq hE
        subst f3
        exact va_Zref (C := "CrossBar") (n := "KINDS") (d := "[LCrossBar$Kind;") (hlw _ (by simp [jlay_w])) (hlw _ (by simp [jlay_w])) T2.1 hA
      · have f3 : a = 170 := jbeq hE
        subst f3
        exact va_Zref (C := "CrossBarModel") (n := "WORDS") (d := "[Ljava/lang/String;") (hlw _ (by simp [jlay_w])) (hlw _ (by simp [jlay_w])) T3.1 hA
    | false =>
      rw [h0] at hE
      simp only [cond_false] at hE ⊢
      cases h1 : Nat.beq bb 1 with
      | true =>
        rw [h1] at hE
        simp only [cond_true] at hE ⊢
        have f1 : v = 1 := of_decide_eq_true hE
        subst f1
        exact va_Zof (hlw _ (by simp [jlay_w])) (hlw _ (by simp [jlay_w])) hcomp hA
      | false =>
        simp only [cond_false]
        show va_Z _ _ _ (gsio G) A s s.heap
        rw [e3]
        exact va_Zof (hlw _ (by simp [jlay_w])) (hlw _ (by simp [jlay_w])) hsv hA
  · intro x bb hxb
    unfold jcf at hxb
    rw [Bool.or_eq_true] at hxb
    rcases hxb with hxb | hxb
    · obtain ⟨f1, f2⟩ := jand hxb
      obtain ⟨f8, f3⟩ := jand f2
      clear f2
      have f2 : x / 64 < 42 := Nat.le_of_ble_eq_true f8
      have f4 : x % 64 = 40 := jbeq f1
      have f5 : 40 + 64 * (x / 64) = x := by omega
      have hk := K1 _ f2
      have hm := hq _ (t0 _ f2)
      rw [f5] at hk
      rw [f4]
      have ej : jcg x bb = bif Nat.beq bb 0 then .int (Int32.ofNat (x / 64)) else .ref (jktx (x / 64)) := by
        unfold jcg
        rw [f1]
        rfl
      rw [ej]
      rw [Bool.or_eq_true] at f3
      rcases f3 with f3 | f3
      · have f6 : bb = 0 := jbeq f3
        subst f6
        exact vk_OFof (o := "java/lang/Enum") (n := "ordinal") (d := "I") hk (va_eqt (hm (.eq (.field (jzk (x / 64)) "java/lang/Enum" "ordinal" "I") (.int (Int32.ofNat (x / 64)))) (by simp [jpc]))) hA
      · have f6 : bb = 6 := jbeq f3
        subst f6
        obtain ⟨g1, g2⟩ := jktx_form _ f2
        have hs := S1 _ g2
        rw [← g1] at hs
        exact vk_OFof (o := "CrossBar$Kind") (n := "text") (d := "Ljava/lang/String;") hk (va_eqv (hm (.eq (.field (jzk (x / 64)) "CrossBar$Kind" "text" "Ljava/lang/String;") (jzs (jktx (x / 64) / 64))) (by simp [jpc])) hs) hA
    · obtain ⟨f1, f2⟩ := jand hxb
      obtain ⟨f8, f3⟩ := jand f2
      clear f2
      have f2 : x / 64 < 39 := Nat.le_of_ble_eq_true f8
      have f4 : x % 64 = 41 := jbeq f1
      have f5 : 41 + 64 * (x / 64) = x := by omega
      have hk := S1 _ f2
      have hm := hq _ (t1 _ f2)
      rw [f5] at hk
      rw [f4]
      have ej : jcg x bb = bif Nat.beq bb 2 then .ref (x + 2) else .int 0 := by
        unfold jcg
        rw [f4]
        rfl
      rw [ej]
      rw [Bool.or_eq_true] at f3
      rcases f3 with f3 | f3
      · have f6 : bb = 2 := jbeq f3
        subst f6
        have hs := (S2 _ f2).1
        rw [show 43 + 64 * (x / 64) = x + 2 by omega] at hs
        exact vk_OFof (o := "java/lang/String") (n := "value") (d := "[B") hk hs hA
      · have f6 : bb = 4 := jbeq f3
        subst f6
        exact vk_OFof (o := "java/lang/String") (n := "coder") (d := "B") hk (va_eqt (hm (.eq (.field (jzs (x / 64)) "java/lang/String" "coder" "B") (.int 0)) (by simp [jpc]))) hA
  · exact fun k hk => va_Oof (K0 k hk) (K1 k hk) hA
  · exact fun k hk => va_Oof (S0 k hk) (S1 k hk) hA
  · obtain ⟨scr, x1, x2, x3, x4, x5⟩ := hX
    refine ⟨scr, x1, x2, x3, by omega, by rw [x4], x5, hA _ hb⟩
  · rw [had]
    exact jgad_ev (x := 44) rfl rfl
  · exact vx_Zqof (hlw _ (by simp [jlay_w])) (hlw _ (by simp [jlay_w])) (hq _ (t2 (8, 0) (by simp)) _ (by simp [jpc])) hA
  · exact vx_Zqof (hlw _ (by simp [jlay_w])) (hlw _ (by simp [jlay_w])) (hq _ (t2 (9, 0) (by simp)) _ (by simp [jpc])) hA
  · intro own k tx hw
    have h1 := List.all_eq_true.mp jsrf_all _ hw
    have h2 := (List.mem_filter.mp (of_decide_eq_true h1)).1
    obtain ⟨a, c, cell, kk, q1, -⟩ := Cond.exactly_spec (flat_of_before _ hpre _ h2)
    exact ⟨a, vk_R.of (htb _ hw) q1⟩
  · exact vk_R.of (hlw _ (by simp [jlay_w])) (S1 38 (by decide))
  · intro w hw hn
    refine va_Nw.of ?_ (htb w hw)
    cases w <;> first | rfl | cases hn
  · intro c c' hc hc'
    refine ⟨fun e => ?_, fun e => ?_⟩
    · match c, hc with
      | 0, _ => exact va_Nw.of rfl (hlw (.castable (jexn 0) (jexn 0)) (by simp [jlay_w]))
      | 1, _ => exact va_Nw.of rfl (hlw (.castable (jexn 1) (jexn 1)) (by simp [jlay_w]))
      | 2, _ => exact va_Nw.of rfl (hlw (.castable (jexn 2) (jexn 2)) (by simp [jlay_w]))
    · have h7 := List.all_eq_true.mp tg4 (3 * c + c') (List.mem_range.mpr (by omega))
      rw [show (3 * c + c') / 3 = c by omega, show (3 * c + c') % 3 = c' by omega, Bool.or_eq_true] at h7
      rcases h7 with h7 | h7
      · exact absurd (jbeq h7) e
      · refine va_Nc.of (hq _ (of_decide_eq_true h7) (.not (.castable (jexn c) (jexn c'))) ?_)
        show _ ∈ [Jvm.Cond.not (.castable (jexn ((3 * c + c') / 3)) (jexn ((3 * c + c') % 3)))]
        rw [show (3 * c + c') / 3 = c by omega, show (3 * c + c') % 3 = c' by omega]
        exact List.mem_cons_self
