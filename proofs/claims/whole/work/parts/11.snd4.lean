/-! SOUNDNESS, the fourth part: one theorem for every instruction of stack and locals. -/
section SNF
variable {p : Program} {l : Launch} {e : Env} {R : Room} {s : State} {m : MethodId} {args : Array Value} {below : List Frame} {meth : Method} {c : Code} {Q : State → Prop}
variable {G : jG} {i : Nat} {k0 s0 : Nat} {μ0 : jM} {ad0 : Nat → Nat}
theorem jsio {U : State} {H : Heap} (h : jFB G U H) : (gsio G).isRef = true := by
  obtain ⟨-, -, -, -, -, -, -, -, -, -, -, -, -, -, -, h⟩ := h
  exact h
theorem jwin {w : Jvm.Cond} (n : Nat) (h : tables_1[n]? = some w) (hg : goodWord w = true) : w ∈ jW := List.mem_filter.mpr ⟨List.mem_append_right _ (List.mem_of_getElem? h), hg⟩
set_option maxHeartbeats 4000000 in
theorem snd_plain (C : jCtx G i p l s m args meth c) {E : jE} (hp : jplain E.1 = true) {pc pc' : Nat} {ls ls' : List (Option Value)} {st st' : List Value} {μ μ' : jM} (hE : jchk i pc E = true) (hs : jstep E pc ls st μ = some (.inl (pc', ls', st', μ')))
    (k : jGo G i p l e R s m args below meth c Q k0 s0 μ0 ad0 pc' ls' st' μ') : jGo G i p l e R s m args below meth c Q k0 s0 μ0 ad0 pc ls st μ := by
  obtain ⟨hx, hb, hml, hown, hts, hlk, hFB, -⟩ := C
  have hsi := jsio hFB
  have hd := jchk_dec hE
  obtain ⟨ins, len, a, b, v, sw⟩ := E
  unfold jchk at hE
  replace hE := (jand hE).2
  cases ins <;> first | (cases hp; done) | skip
  case iconst n => obtain ⟨h1, h2⟩ := jand hE; exact jpush_go hs h1 trivial k fun ad H locs cells slots lsA w => lv_iconst hx hb (jB_len h1 hd) (of_decide_eq_true h2) w
  case bipush n => obtain ⟨h1, h2⟩ := jand hE; exact jpush_go hs h1 trivial k fun ad H locs cells slots lsA w => lv_bipush hx hb (jB_len h1 hd) (of_decide_eq_true h2) w
  case sipush n => obtain ⟨h1, h2⟩ := jand hE; exact jpush_go hs h1 trivial k fun ad H locs cells slots lsA w => lv_sipush hx hb (jB_len h1 hd) (of_decide_eq_true h2) w
  case lconst n => obtain ⟨h1, h2⟩ := jand hE; exact jpush_go hs h1 trivial k fun ad H locs cells slots lsA w => lv_lconst hx hb (jB_len h1 hd) (congrArg Int64.ofNat (jbeq h2)) w
  case dconst n =>
    obtain ⟨h1, h2⟩ := jand hE
    have hn : n = 0 := Fin.ext (jbeq h2)
    subst hn
    exact jpush_go hs h1 trivial k fun ad H locs cells slots lsA w => lv_dconst0 hx hb (jB_len h1 hd) w
  case iload_n n => obtain ⟨h1, h2⟩ := jand hE; exact jload_go hs h1 k fun v hv ad H locs cells slots lsA hl w => by obtain ⟨x, rfl⟩ := jisI_inv hv; exact lv_iload_n hx hb (jB_len h1 hd) (jbeq h2) hl w
  case iload n => obtain ⟨h1, h2⟩ := jand hE; have h2 : n = a := jbeq h2; subst h2; exact jload_go hs h1 k fun v hv ad H locs cells slots lsA hl w => by obtain ⟨x, rfl⟩ := jisI_inv hv; exact lv_iload hx hb (jB_len h1 hd) hl w
  case lload_n n => obtain ⟨h1, h2⟩ := jand hE; exact jload_go hs h1 k fun v hv ad H locs cells slots lsA hl w => by obtain ⟨x, rfl⟩ := jisL_inv hv; exact lv_lload_n hx hb (jB_len h1 hd) (jbeq h2) hl w
  case lload n => obtain ⟨h1, h2⟩ := jand hE; have h2 : n = a := jbeq h2; subst h2; exact jload_go hs h1 k fun v hv ad H locs cells slots lsA hl w => by obtain ⟨x, rfl⟩ := jisL_inv hv; exact lv_lload hx hb (jB_len h1 hd) hl w
  case dload_n n => obtain ⟨h1, h2⟩ := jand hE; exact jload_go hs h1 k fun v hv ad H locs cells slots lsA hl w => by obtain ⟨x, rfl⟩ := jisD_inv hv; exact lv_dload_n hx hb (jB_len h1 hd) (jbeq h2) hl w
  case dload n => obtain ⟨h1, h2⟩ := jand hE; have h2 : n = a := jbeq h2; subst h2; exact jload_go hs h1 k fun v hv ad H locs cells slots lsA hl w => by obtain ⟨x, rfl⟩ := jisD_inv hv; exact lv_dload hx hb (jB_len h1 hd) hl w
  case aload_n n => obtain ⟨h1, h2⟩ := jand hE; exact jload_go hs h1 k fun v hv ad H locs cells slots lsA hl w => by obtain ⟨x, rfl⟩ := jisR_inv hv; exact lv_aload_n hx hb (jB_len h1 hd) (jbeq h2) hl w
  case aload n => obtain ⟨h1, h2⟩ := jand hE; have h2 : n = a := jbeq h2; subst h2; exact jload_go hs h1 k fun v hv ad H locs cells slots lsA hl w => by obtain ⟨x, rfl⟩ := jisR_inv hv; exact lv_aload hx hb (jB_len h1 hd) hl w
  case istore_n n =>
    obtain ⟨h1, h2⟩ := jand hE
    simp only [jstep] at hs
    split at hs
    · exact jst_go (E := (.istore_n n, len, a, b, v, sw)) hsi hml hs h1 k fun ad H locs cells slots lsA rest lv ha hl w => lv_istore_n hx hb (jB_len h1 hd) (jbeq h2) hl ha rfl w
    · cases hs
  case istore n =>
    obtain ⟨h1, h2⟩ := jand hE
    have h2 : n = a := jbeq h2
    subst h2
    simp only [jstep] at hs
    split at hs
    · exact jst_go (E := (.istore n, len, n, b, v, sw)) hsi hml hs h1 k fun ad H locs cells slots lsA rest lv ha hl w => lv_istore hx hb (jB_len h1 hd) hl ha rfl w
    · cases hs
  case lstore_n n =>
    obtain ⟨h1, h2⟩ := jand hE
    simp only [jstep] at hs
    split at hs
    · exact jst2_go (E := (.lstore_n n, len, a, b, v, sw)) hsi hml hs h1 k fun ad H locs cells slots lsA rest lv ha hl w => lv_lstore_n hx hb (jB_len h1 hd) (jbeq h2) hl ha rfl w
    · cases hs
  case lstore n =>
    obtain ⟨h1, h2⟩ := jand hE
    have h2 : n = a := jbeq h2
    subst h2
    simp only [jstep] at hs
    split at hs
    · exact jst2_go (E := (.lstore n, len, n, b, v, sw)) hsi hml hs h1 k fun ad H locs cells slots lsA rest lv ha hl w => lv_lstore hx hb (jB_len h1 hd) hl ha rfl w
    · cases hs
  case dstore_n n =>
    obtain ⟨h1, h2⟩ := jand hE
    simp only [jstep] at hs
    split at hs
    · exact jst2_go (E := (.dstore_n n, len, a, b, v, sw)) hsi hml hs h1 k fun ad H locs cells slots lsA rest lv ha hl w => lv_dstore_n hx hb (jB_len h1 hd) (jbeq h2) hl ha rfl w
    · cases hs
  case dstore n =>
    obtain ⟨h1, h2⟩ := jand hE
    have h2 : n = a := jbeq h2
    subst h2
    simp only [jstep] at hs
    split at hs
    · exact jst2_go (E := (.dstore n, len, n, b, v, sw)) hsi hml hs h1 k fun ad H locs cells slots lsA rest lv ha hl w => lv_dstore hx hb (jB_len h1 hd) hl ha rfl w
    · cases hs
  case astore_n n =>
    obtain ⟨h1, h2⟩ := jand hE
    simp only [jstep] at hs
    split at hs
    · exact jst_go (E := (.astore_n n, len, a, b, v, sw)) hsi hml hs h1 k fun ad H locs cells slots lsA rest lv ha hl w => lv_astore_n hx hb (jB_len h1 hd) (jbeq h2) hl ha rfl w
    · cases hs
  case astore n =>
    obtain ⟨h1, h2⟩ := jand hE
    have h2 : n = a := jbeq h2
    subst h2
    simp only [jstep] at hs
    split at hs
    · exact jst_go (E := (.astore n, len, n, b, v, sw)) hsi hml hs h1 k fun ad H locs cells slots lsA rest lv ha hl w => lv_astore hx hb (jB_len h1 hd) hl ha rfl w
    · cases hs
  case iinc n z =>
    obtain ⟨h1, h2⟩ := jand hE
    obtain ⟨h2, h3⟩ := jand h2
    have h2 : n = a := jbeq h2
    subst h2
    have h1 : len = 3 := jbeq h1
    subst h1
    simp only [jstep] at hs
    split at hs
    · next x hxx =>
      obtain ⟨rfl, rfl, rfl, rfl⟩ := jN_inv hs
      intro ad H locs cells slots lsA g1 g2 g3 g4 g5 g6 g7 g8
      have ha : n < jmL i := by
        have := (List.getElem?_eq_some_iff.mp hxx).1
        rw [g5.1] at this
        exact this
      obtain ⟨kk, hk⟩ := List.getElem?_of_mem (jlist_mem (G := G) (ad := ad) g5.1 hxx)
      exact lv_iinc hx hb hd (jLoc_has g5) hk (by rw [of_decide_eq_true h3]) ha rfl fun lsB hB => k ad H locs cells slots lsB g1 g2 g3 g4 (jLoc_st1 (v := .int (x + v)) hsi g5 trivial ha hB) g6 g7 g8
    · cases hs
  case iadd => exact jop2_go hs hE k fun x y r H locs cells slots lsA w => lv_iadd hx hb (jB_len hE hd) w
  case isub => exact jop2_go hs hE k fun x y r H locs cells slots lsA w => lv_isub hx hb (jB_len hE hd) w
  case imul => exact jop2_go hs hE k fun x y r H locs cells slots lsA w => lv_imul hx hb (jB_len hE hd) w
  case iand => exact jop2_go hs hE k fun x y r H locs cells slots lsA w => lv_iand hx hb (jB_len hE hd) w
  case ior => exact jop2_go hs hE k fun x y r H locs cells slots lsA w => lv_ior hx hb (jB_len hE hd) w
  case ixor => exact jop2_go hs hE k fun x y r H locs cells slots lsA w => lv_ixor hx hb (jB_len hE hd) w
  case ishl => exact jop2_go hs hE k fun x y r H locs cells slots lsA w => lv_ishl hx hb (jB_len hE hd) w
  case ishr => exact jop2_go hs hE k fun x y r H locs cells slots lsA w => lv_ishr hx hb (jB_len hE hd) w
  case iushr => exact jop2_go hs hE k fun x y r H locs cells slots lsA w => lv_iushr hx hb (jB_len hE hd) rfl w
  case ineg => exact jop1_go hs hE (fun x => ⟨trivial, fun _ => rfl⟩) k fun x r H locs cells slots lsA w => lv_ineg hx hb (jB_len hE hd) w
  case i2l => exact jop1_go hs hE (fun x => ⟨trivial, fun _ => rfl⟩) k fun x r H locs cells slots lsA w => lv_i2l hx hb (jB_len hE hd) rfl w
  case i2b => exact jop1_go hs hE (fun x => ⟨trivial, fun _ => rfl⟩) k fun x r H locs cells slots lsA w => lv_i2b hx hb (jB_len hE hd) rfl w
  case i2c => exact jop1_go hs hE (fun x => ⟨trivial, fun _ => rfl⟩) k fun x r H locs cells slots lsA w => lv_i2c hx hb (jB_len hE hd) rfl w
  case i2d => exact jop1_go hs hE (fun x => ⟨trivial, fun _ => rfl⟩) k fun x r H locs cells slots lsA w => lv_i2d hx hb (jB_len hE hd) w
  case ladd => exact jopL_go hs hE (fun x y => ⟨trivial, fun _ => rfl⟩) k fun x y r H locs cells slots lsA w => lv_ladd hx hb (jB_len hE hd) w
  case lmul => exact jopL_go hs hE (fun x y => ⟨trivial, fun _ => rfl⟩) k fun x y r H locs cells slots lsA w => lv_lmul hx hb (jB_len hE hd) w
  case lcmp => exact jopL_go hs hE (fun x y => ⟨trivial, fun _ => rfl⟩) k fun x y r H locs cells slots lsA w => W.lcmp hx hb (jB_len hE hd) w
  case idiv =>
    simp only [jstep] at hs
    split at hs
    · obtain ⟨h0, hs⟩ := jbifn hs
      obtain ⟨rfl, rfl, rfl, rfl⟩ := jN_inv hs
      rw [show len = 1 from jbeq hE] at k
      intro ad H locs cells slots lsA g1 g2 g3 g4 g5 g6 g7 g8
      exact lv_idiv hx hb (jB_len hE hd) (of_decide_eq_false h0) (k ad H locs cells slots lsA g1 g2 g3 g4 g5 (jStk_cons trivial (jStk_tail (jStk_tail g6))) g7 g8)
    · cases hs
  case irem =>
    simp only [jstep] at hs
    split at hs
    · obtain ⟨h0, hs⟩ := jbifn hs
      obtain ⟨rfl, rfl, rfl, rfl⟩ := jN_inv hs
      rw [show len = 1 from jbeq hE] at k
      intro ad H locs cells slots lsA g1 g2 g3 g4 g5 g6 g7 g8
      exact lv_irem hx hb (jB_len hE hd) (of_decide_eq_false h0) (k ad H locs cells slots lsA g1 g2 g3 g4 g5 (jStk_cons trivial (jStk_tail (jStk_tail g6))) g7 g8)
    · cases hs
  case ddiv =>
    simp only [jstep] at hs
    split at hs
    · obtain ⟨h0, hs⟩ := jbif hs
      obtain ⟨rfl, rfl, rfl, rfl⟩ := jN_inv hs
      rw [show len = 1 from jbeq hE] at k
      intro ad H locs cells slots lsA g1 g2 g3 g4 g5 g6 g7 g8
      exact lv_ddiv hx hb (jB_len hE hd) (by unfold vf_n64; exact of_decide_eq_true h0) (k ad H locs cells slots lsA g1 g2 g3 g4 g5 (jStk_cons trivial (jStk_tail (jStk_tail g6))) g7 g8)
    · cases hs
  case dcmp o =>
    simp only [jstep] at hs
    split at hs
    · obtain ⟨rfl, rfl, rfl, rfl⟩ := jN_inv hs
      rw [show len = 1 from jbeq hE] at k
      intro ad H locs cells slots lsA g1 g2 g3 g4 g5 g6 g7 g8
      exact lv_dcmp hx hb (jB_len hE hd) (k ad H locs cells slots lsA g1 g2 g3 g4 g5 (jStk_cons trivial (jStk_tail (jStk_tail g6))) g7 g8)
    · cases hs
  case dup =>
    simp only [jstep] at hs
    split at hs
    · obtain ⟨h0, hs⟩ := jbif hs
      obtain ⟨rfl, rfl, rfl, rfl⟩ := jN_inv hs
      rw [show len = 1 from jbeq hE] at k
      intro ad H locs cells slots lsA g1 g2 g3 g4 g5 g6 g7 g8
      exact lv_dup hx hb (jB_len hE hd) (by rw [jpv_cat hsi]; exact jbeq h0) (k ad H locs cells slots lsA g1 g2 g3 g4 g5 (jStk_cons (jStk_head g6) g6) g7 g8)
    · cases hs
  case pop =>
    simp only [jstep] at hs
    split at hs
    · obtain ⟨h0, hs⟩ := jbif hs
      obtain ⟨rfl, rfl, rfl, rfl⟩ := jN_inv hs
      rw [show len = 1 from jbeq hE] at k
      intro ad H locs cells slots lsA g1 g2 g3 g4 g5 g6 g7 g8
      exact lv_pop hx hb (jB_len hE hd) (by rw [jpv_cat hsi]; exact jbeq h0) (k ad H locs cells slots lsA g1 g2 g3 g4 g5 (jStk_tail g6) g7 g8)
    · cases hs
  case dup_x1 =>
    simp only [jstep] at hs
    split at hs
    · obtain ⟨h0, hs⟩ := jbif hs
      obtain ⟨h0, h00⟩ := jand h0
      obtain ⟨rfl, rfl, rfl, rfl⟩ := jN_inv hs
      rw [show len = 1 from jbeq hE] at k
      intro ad H locs cells slots lsA g1 g2 g3 g4 g5 g6 g7 g8
      exact lv_dup_x1 hx hb (jB_len hE hd) (by rw [jpv_cat hsi]; exact jbeq h0) (by rw [jpv_cat hsi]; exact jbeq h00) (k ad H locs cells slots lsA g1 g2 g3 g4 g5 (jStk_cons (jStk_head g6) (jStk_cons (jStk_head (jStk_tail g6)) (jStk_cons (jStk_head g6) (jStk_tail (jStk_tail g6))))) g7 g8)
    · cases hs
  case dup2 =>
    simp only [jstep] at hs
    split at hs
    · obtain ⟨h0, hs⟩ := jbif hs
      obtain ⟨h0, h00⟩ := jand h0
      obtain ⟨rfl, rfl, rfl, rfl⟩ := jN_inv hs
      rw [show len = 1 from jbeq hE] at k
      intro ad H locs cells slots lsA g1 g2 g3 g4 g5 g6 g7 g8
      exact lv_dup2_11 hx hb (jB_len hE hd) (by rw [jpv_cat hsi]; exact jbeq h0) (by rw [jpv_cat hsi]; exact jbeq h00) (k ad H locs cells slots lsA g1 g2 g3 g4 g5 (jStk_cons (jStk_head g6) (jStk_cons (jStk_head (jStk_tail g6)) g6)) g7 g8)
    · cases hs
  case ifCond cd o =>
    obtain ⟨h1, h2⟩ := jand hE
    simp only [jstep] at hs
    split at hs
    · exact jbr_go hs jStk_tail k fun ad H locs cells slots lsA kt kf => jcnd0_row hx hb (jB_len h1 hd) (of_decide_eq_true h2) kt kf
    · cases hs
  case if_icmp cd o =>
    obtain ⟨h1, h2⟩ := jand hE
    simp only [jstep] at hs
    split at hs
    · exact jbr_go hs (fun h => jStk_tail (jStk_tail h)) k fun ad H locs cells slots lsA kt kf => jcnd_row hx hb (jB_len h1 hd) (of_decide_eq_true h2) kt kf
    · cases hs
  case goto o =>
    obtain ⟨h1, h2⟩ := jand hE
    simp only [jstep] at hs
    obtain ⟨rfl, rfl, rfl, rfl⟩ := jN_inv hs
    intro ad H locs cells slots lsA g1 g2 g3 g4 g5 g6 g7 g8
    exact lv_goto hx hb (jB_len h1 hd) (of_decide_eq_true h2) (k ad H locs cells slots lsA g1 g2 g3 g4 g5 g6 g7 g8)
  case tableswitch dd lo hi os =>
    obtain ⟨h1, h2⟩ := jand hE
    obtain ⟨h2, h3⟩ := jand h2
    obtain ⟨h3, h4⟩ := jand h3
    obtain ⟨h4, h5⟩ := jand h4
    have h1 := of_decide_eq_true h1
    have h2 := of_decide_eq_true h2
    have h3 := of_decide_eq_true h3
    have h4 := of_decide_eq_true h4
    simp only [jstep] at hs
    split at hs
    · next x r =>
      obtain ⟨rfl, rfl, rfl, rfl⟩ := jN_inv hs
      intro ad H locs cells slots lsA g1 g2 g3 g4 g5 g6 g7 g8
      have hq := k ad H locs cells slots lsA g1 g2 g3 g4 g5 (jStk_tail g6) g7 g8
      have hos : (os.toList.length : Int) = (os.size : Int) := by simp
      obtain ⟨s1, s2⟩ := jswt_spec (x := x) (d := a) (t := 0) sw os.toList lo h5 h2 (by omega)
      by_cases hin : x.toInt < lo ∨ hi < x.toInt
      · refine lv_tableOut hx hb hd hin (tgt := jsw sw a x) ?_ hq
        rw [s1 (by omega)]
        exact h1
      · obtain ⟨off, e1, e2⟩ := s2 (x.toInt - lo).toNat (by omega) (by omega)
        exact lv_tableIn hx hb hd (fun q => hin (Or.inl q)) (fun q => hin (Or.inr q)) (by simpa using e1) e2 hq
    · cases hs
  case lookupswitch dd ps =>
    obtain ⟨h1, h2⟩ := jand hE
    obtain ⟨h2, h3⟩ := jand h2
    simp only [jstep] at hs
    split at hs
    · next x r =>
      obtain ⟨rfl, rfl, rfl, rfl⟩ := jN_inv hs
      intro ad H locs cells slots lsA g1 g2 g3 g4 g5 g6 g7 g8
      have hq := k ad H locs cells slots lsA g1 g2 g3 g4 g5 (jStk_tail g6) g7 g8
      exact lv_lookup hx hb hd h2 rfl (jswl_spec (of_decide_eq_true h1) sw ps.toList h3) hq
    · cases hs
end SNF
