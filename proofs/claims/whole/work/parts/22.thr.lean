/-! CALLS, the third part: exceptions that a method makes itself. -/
def jnms : List String := ["java/lang/RuntimeException", "java/lang/Exception"]
theorem jthr_words : ∀ c, c < 3 → ∀ w ∈ vx_atS "CrossBar" (jic c) (jexn c) jnms, w ∈ jW ∨ (w ∈ tables_1 ∧ jnest w = true ∧ w.onTables = true) ∨ w = .castable (jexn c) (jexn c) := by
  have h1 : (List.range 3).all (fun c => (vx_atS "CrossBar" (jic c) (jexn c) jnms).all fun w => decide (w = .castable (jexn c) (jexn c)) || ((jnest w && (w.onTables && decide (w ∈ tables_1))) || (goodWord w && decide (w ∈ lw_tbl)))) = true := by decide +kernel
  intro c hc w hw
  have h2 := List.all_eq_true.mp (List.all_eq_true.mp h1 c (List.mem_range.mpr hc)) w hw
  rw [Bool.or_eq_true, Bool.or_eq_true] at h2
  rcases h2 with h2 | h2 | h2
  · exact Or.inr (Or.inr (of_decide_eq_true h2))
  · obtain ⟨a1, a2⟩ := jand h2
    obtain ⟨a2, a3⟩ := jand a2
    exact Or.inr (Or.inl ⟨of_decide_eq_true a3, a1, a2⟩)
  · obtain ⟨a1, a2⟩ := jand h2
    exact Or.inl (List.mem_filter.mpr ⟨of_decide_eq_true a2, a1⟩)
theorem jthr_ot : ∀ c, c < 3 → ∀ w ∈ vx_atS "CrossBar" (jic c) (jexn c) jnms, vx_ot w = true := by
  have h1 : (List.range 3).all (fun c => (vx_atS "CrossBar" (jic c) (jexn c) jnms).all vx_ot) = true := by decide +kernel
  intro c hc w hw
  exact List.all_eq_true.mp (List.all_eq_true.mp h1 c (List.mem_range.mpr hc)) w hw
theorem jthr_fit : (∀ c, c < 3 → Bundle.fit (jexn c) = true) ∧ (∀ n ∈ jnms, Bundle.fit n = true) ∧ (∀ c, c < 3 → (.initialized (jexn c) : Jvm.Cond) ∈ jW) := by
  have h1 : (List.range 3).all (fun c => Bundle.fit (jexn c) && (goodWord (.initialized (jexn c)) && decide ((.initialized (jexn c) : Jvm.Cond) ∈ lw_tbl))) = true := by decide +kernel
  refine ⟨fun c hc => ?_, by decide +kernel, fun c hc => ?_⟩
  · exact (jand (List.all_eq_true.mp h1 c (List.mem_range.mpr hc))).1
  · obtain ⟨a1, a2⟩ := jand (jand (List.all_eq_true.mp h1 c (List.mem_range.mpr hc))).2
    exact List.mem_filter.mpr ⟨of_decide_eq_true a2, a1⟩
theorem jMem_grown {G : jG} {ad : Nat → Nat} {μ μ' : jM} {H H1 : Heap} (h : jMem G ad μ H) (h1 : jI μ' = jI μ ∧ jL μ' = jL μ ∧ jQ μ' = jQ μ ∧ jA μ' = jA μ) (hk : ∀ q : Nat, q < H.size → H1[q]? = H[q]?) : jMem G ad μ' H1 := by
  obtain ⟨e1, e2, e3, e4⟩ := h1
  have ew : jwld G ad μ' = jwld G ad μ := by
    unfold jwld
    rw [e4]
    apply List.map_congr_left
    intro a _
    rw [jce_congr (μ' := μ') (μ := μ) ⟨by rw [e1], by rw [e2], by rw [e3]⟩]
  have ek : ∀ x, jok μ x → jok μ' x := by
    intro x hx
    unfold jok
    rw [e4]
    exact hx
  obtain ⟨m1, m2, m3, m4, m5, m6⟩ := h
  refine ⟨?_, by rw [ew]; exact m2, ?_, by rw [e4]; exact m4, m5, by rw [e1]; exact m6⟩
  · rw [ew]
    exact m1.kept fun k q hq => hk _ (m1 k q hq).lt
  · rw [e4, e3]
    exact fun a ha k b hb => ek b (m3 a ha k b hb)
section SNT
variable {p : Program} {l : Launch} {e : Env} {R : Room} {s : State} {m : MethodId} {args : Array Value} {below : List Frame} {meth : Method} {c : Code}
variable {G : jG} {i : Nat} {μ0 : jM} {ad0 : Nat → Nat}
set_option maxHeartbeats 4000000 in
theorem snd_throw (C : jCtx G i p l s m args meth c) (hT : jHH i = none → c.exceptionTable.toList = []) {n len a b : Nat} {v : Int32} {sw : List (Int32 × Nat)} {pc : Nat} {ls : List (Option Value)} {st : List Value} {μ : jM} (hE : jchk i pc (.new n, len, a, b, v, sw) = true)
    (ha : Nat.ble 1000 a = true) (hst : jcat st ≤ 8) (hRm : 6 ≤ R.frames ∧ 90 ≤ R.locals) (hR : jnc (jthr μ) ≤ R.cells + jnc μ0 ∧ jns (jthr μ) ≤ R.slots + jns μ0) :
    jGo G i p l e R s m args below meth c (jEnd G ad0 μ0 (jthr μ) (.inr (a - 1000)) args below s) (jnc μ0) (jns μ0) μ0 ad0 pc ls st μ := by
  obtain ⟨hx, hb, hml, hown, hts, hlk, hFB, hret, hmn, hstk, hgb⟩ := C
  have hd := jchk_dec hE
  unfold jchk at hE
  replace hE := (jand hE).2
  obtain ⟨h1, hE⟩ := jand hE
  have h1 : len = 3 := jbeq h1
  subst h1
  replace hE : (bif Nat.ble 1000 a then Nat.blt a 1003 && (jcl1 i pc n (fun x => decide (x = jexn (a - 1000))) && jthc i pc (a - 1000)) else Nat.blt a 13 && jcl1 i pc n (fun x => decide (some x = (jCl[a]?).map (·.1)))) = true := hE
  rw [ha] at hE
  simp only [cond_true] at hE
  obtain ⟨h2, hE⟩ := jand hE
  obtain ⟨h3, h4⟩ := jand hE
  have ha0 : 1000 ≤ a := Nat.le_of_ble_eq_true ha
  have ha1 : a < 1003 := Nat.le_of_ble_eq_true h2
  obtain ⟨X, hX, hw⟩ := jcl1_inv h3
  have hX := of_decide_eq_true hX
  rw [hX] at hw
  have hc3 : a - 1000 < 3 := by omega
  generalize a - 1000 = cc at hw hc3 h4 ⊢
  obtain ⟨f1, f2, f3⟩ := jthr_fit
  have hini := hts _ (f3 cc hc3)
  have hkl := hts _ (jwin _ hw rfl)
  have hfb := hFB
  obtain ⟨-, -, -, -, -, -, -, -, -, -, ⟨hU, hN⟩, ⟨hstr, -⟩, hnst, -, hcst, -⟩ := hfb
  have hat : ∀ w ∈ vx_atS "CrossBar" (jic cc) (jexn cc) jnms, w.before args s = true := by
    intro w hw
    rcases jthr_words cc hc3 w hw with h | ⟨g1, g2, g3⟩ | rfl
    · exact hts w h
    · exact va_Nw.use g3 (hnst w g1 g2)
    · exact va_Nw.use rfl ((hcst cc cc hc3 hc3).1 rfl)
  unfold jthc at h4
  split at h4
  · cases h4
  · next is w tx hthx =>
    obtain ⟨k1, h4⟩ := jand h4
    obtain ⟨k2, h4⟩ := jand h4
    obtain ⟨k3, h4⟩ := jand h4
    obtain ⟨k4, h4⟩ := jand h4
    have k1 := of_decide_eq_true k1
    have k2 := of_decide_eq_true k2
    have k3 := of_decide_eq_true k3
    have k4 := of_decide_eq_true k4
    obtain ⟨sa, hsa⟩ := hstr _ _ _ k3
    have hTn := hT k2
    rw [k1] at hown hkl
    have hgood : ∀ w ∈ Cond.classLink "CrossBar" n (jexn cc) :: Cond.initialized (jexn cc) :: vx_atS "CrossBar" (jic cc) (jexn cc) jnms, vx_ot w = true := by
      intro w hw
      rcases List.mem_cons.mp hw with rfl | hw
      · rfl
      · rcases List.mem_cons.mp hw with rfl | hw
        · rfl
        · exact jthr_ot cc hc3 w hw
    have hnc : jnc (jthr μ) = jnc μ + 1 := by
      show (jA μ).length + (jX μ + 1) = (jA μ).length + jX μ + 1
      omega
    have hns : jns (jthr μ) = jns μ + 6 := by
      show ((jA μ).map jsz).sum + 6 * (jX μ + 1) = ((jA μ).map jsz).sum + 6 * jX μ + 6
      omega
    rw [hnc, hns] at hR
    intro ad H locs cells slots lsA g1 g2 g3 g4 g5 g6 g7 g8
    have hsz : lsA.size = c.maxLocals := by rw [hml]; exact g5.2.1
    have hcat : ((st.map (jpv G ad)).map fun v => v.category).sum ≤ 8 := by rw [jcat_map (jsio hFB)]; exact hst
    have hxc : ∀ t : State, s.vm.Alike t.vm → H.size ≤ t.heap.size → (∀ q : Nat, q < H.size → t.heap[q]? = H[q]?) → jXC G ad0 μ0 (jthr μ) (.inr cc) (jexn cc) s t := by
      intro t _ hz hk
      refine ⟨cc, ad, rfl, hc3, rfl, g1, jMem_grown g3 ⟨rfl, rfl, rfl, rfl⟩ hk, Nat.le_trans g4.1 hz, fun q hq hA => ?_⟩
      rw [hk q (Nat.lt_of_lt_of_le hq g4.1)]
      exact g4.2.1 q hq hA
    cases w with
    | true =>
      simp only [cond_true] at h4
      obtain ⟨k5, h4⟩ := jand h4
      obtain ⟨k6, k7⟩ := jand h4
      refine vx_throwSW (names := jnms) (sa := sa) hx hb hstk hown (f1 cc hc3) f2 hkl hini hsa hat hgood hU hN g4 hsz hd k4 (of_decide_eq_true k5) (of_decide_eq_true k6) (of_decide_eq_true k7) (fun x hx => by rw [hTn] at hx; cases hx) ?_ ?_ ?_ ?_ hlk hxc g4.2.2 ?_ ?_
      · show 2 + 3 < R.frames; omega
      · show _ + (13 * (2 + 1) + 43) ≤ _; omega
      · omega
      · omega
      · rw [hnc]; omega
      · rw [hns]; omega
    | false =>
      simp only [cond_false] at h4
      obtain ⟨k5, h4⟩ := jand h4
      obtain ⟨k6, k7⟩ := jand h4
      refine vx_throwS (names := jnms) (sa := sa) hx hb hstk hown (f1 cc hc3) f2 hkl hini hsa hat hgood hU hN g4 hsz hd k4 (of_decide_eq_true k5) (of_decide_eq_true k6) (of_decide_eq_true k7) (fun x hx => by rw [hTn] at hx; cases hx) ?_ ?_ ?_ ?_ hlk hxc g4.2.2 ?_ ?_
      · show 2 + 3 < R.frames; omega
      · show _ + (13 * (2 + 1) + 43) ≤ _; omega
      · omega
      · omega
      · rw [hnc]; omega
      · rw [hns]; omega
end SNT
