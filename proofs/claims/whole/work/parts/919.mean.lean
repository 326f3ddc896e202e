/-! THE PURE PART: what a test is. -/
def kBit (v : Int32) : Prop := v = 0 ∨ v = 1
def kVl : Nat → List (Nat × Int32) → Nat → Prop
  | h, [], h' => h = h'
  | h, (K, s) :: r, h' => kOpOk K s h ∧ kVl (kHt K h) r h'
theorem kVl_app : ∀ (L M : List (Nat × Int32)) (h m h' : Nat), kVl h L m → kVl m M h' → kVl h (L ++ M) h'
  | [], M, h, m, h', a, c => by
    have e : h = m := a
    rw [e]
    exact c
  | (K, s) :: r, M, h, m, h', ⟨a1, a2⟩, c => ⟨a1, kVl_app r M _ m h' a2 c⟩
theorem kVl_val : ∀ (L : List (Nat × Int32)) (h : Nat), kVl h L 1 → kVal h L
  | [], _, a => a
  | (_, _) :: r, _, ⟨a1, a2⟩ => ⟨a1, kVl_val r _ a2⟩
theorem kVl_ok : ∀ (L : List (Nat × Int32)) (h h' : Nat), kVl h L h' → ∀ x ∈ L, ∃ h, kOpOk x.1 x.2 h
  | [], _, _, _, x, hx => absurd hx (by simp)
  | (K, s) :: r, h, h', ⟨a1, a2⟩, x, hx => by
    rcases List.mem_cons.mp hx with e | e
    · exact ⟨h, by rw [e]; exact a1⟩
    · exact kVl_ok r _ h' a2 x e
theorem kRun_app {E : Nat → Int32 → Int32} : ∀ (L M : List (Nat × Int32)) (a : Nat × (Nat → Int32)), kRun E (L ++ M) a = kRun E M (kRun E L a)
  | [], _, _ => rfl
  | (_, _) :: r, M, _ => kRun_app r M _
/-- what a list of steps does: it takes a value, or none, and leaves one; b0 and b: this is a bit -/
def kEf (E : Nat → Int32 → Int32) (b0 b : Bool) (a : Nat) (L : List (Nat × Int32)) : Prop := ∀ (h : Nat) (g : Nat → Int32), a ≤ h → (b0 = true → a = 1 → kBit (g (h - 1))) → kVl h L (h - a + 1) ∧ (kRun E L (h, g)).1 = h - a + 1 ∧ (∀ j, j < h - a → (kRun E L (h, g)).2 j = g j) ∧ (b = true → kBit ((kRun E L (h, g)).2 (h - a)))
section EF
variable {E : Nat → Int32 → Int32} {b0 b1 b2 : Bool} {a : Nat} {L M : List (Nat × Int32)} {K : Nat} {s : Int32}
theorem ef_nil : kEf E b0 b0 1 [] := fun h g h1 hb => ⟨show h = h - 1 + 1 by omega, show h = h - 1 + 1 by omega, fun _ _ => rfl, fun hh => hb hh rfl⟩
theorem ef_app (f1 : kEf E b0 b1 a L) (f2 : kEf E b1 b2 1 M) : kEf E b0 b2 a (L ++ M) := by
  intro h g ha hb
  obtain ⟨v1, r1, p1, t1⟩ := f1 h g ha hb
  obtain ⟨v2, r2, p2, t2⟩ := f2 (kRun E L (h, g)).1 (kRun E L (h, g)).2 (by omega) (fun hh _ => by rw [r1, Nat.add_sub_cancel]; exact t1 hh)
  rw [r1, Nat.add_sub_cancel] at v2
  rw [r1, Nat.add_sub_cancel, ← r1] at r2 p2 t2
  refine ⟨kVl_app L M h _ _ v1 v2, ?_, ?_, ?_⟩
  · rw [kRun_app]
    exact r2.trans r1
  · intro j hj
    rw [kRun_app]
    exact (p2 j hj).trans (p1 j hj)
  · rw [kRun_app]
    exact t2
def kBin2 (K : Nat) : Prop := K = 18 ∨ K = 19 ∨ K = 20 ∨ K = 21 ∨ K = 28 ∨ K = 29 ∨ K = 30 ∨ K = 31 ∨ K = 32 ∨ K = 33 ∨ K = 34 ∨ K = 35 ∨ K = 36
theorem ef_bin (f : kEf E false b1 0 L) (hK : kBin2 K) (hbit : ∀ x y, (b0 = true → kBit x) → (b1 = true → kBit y) → b2 = true → kBit (kJn K x y)) : kEf E b0 b2 1 (L ++ [(K, s)]) := by
  intro h g ha hb
  obtain ⟨v1, r1, p1, t1⟩ := f h g (Nat.zero_le _) (fun hh => Bool.noConfusion hh)
  simp only [Nat.sub_zero] at v1 r1 p1 t1
  have hr : kRun E L (h, g) = (h + 1, (kRun E L (h, g)).2) := by rw [← r1]
  have hok : kOpOk K s (h + 1) := Or.inr (Or.inr (Or.inr ⟨hK, by omega⟩))
  have hht : kHt K (h + 1) = h := by
    unfold kHt kBin2 at *
    rw [if_neg (by omega), if_neg (by omega), Nat.add_sub_cancel]
  have hst : (kSt E K s (0, h + 1, (kRun E L (h, g)).2)).2 = (h - 1 + 1, kSet (kRun E L (h, g)).2 (h - 1) (kJn K (g (h - 1)) ((kRun E L (h, g)).2 h))) := by
    unfold kSt kBin2 at *
    rw [if_neg (by omega), if_neg (by omega), if_neg (by omega), if_neg (by omega)]
    unfold kPop
    dsimp only
    rw [Nat.add_sub_cancel, if_neg (by omega), if_neg (by omega), p1 (h - 1) (by omega)]
  have hrun : kRun E (L ++ [(K, s)]) (h, g) = (h - 1 + 1, kSet (kRun E L (h, g)).2 (h - 1) (kJn K (g (h - 1)) ((kRun E L (h, g)).2 h))) := by
    rw [kRun_app, hr]
    exact hst
  refine ⟨kVl_app L _ h (h + 1) _ v1 ⟨hok, show kHt K (h + 1) = h - 1 + 1 by omega⟩, by rw [hrun], fun j hj => ?_, fun hh => ?_⟩
  · rw [hrun]
    show (if j = h - 1 then _ else _) = _
    rw [if_neg (by omega)]
    exact p1 j (by omega)
  · rw [hrun]
    show kBit (if h - 1 = h - 1 then _ else _)
    rw [if_pos rfl]
    exact hbit _ _ (fun h0 => hb h0 rfl) t1 hh
theorem ef_un (f : kEf E false b1 0 L) (hK : K = 17 ∨ K = 41) (hb1 : K = 41 → b1 = false) : kEf E false b1 0 (L ++ [(K, s)]) := by
  intro h g ha hb
  obtain ⟨v1, r1, p1, t1⟩ := f h g (Nat.zero_le _) (fun hh => Bool.noConfusion hh)
  simp only [Nat.sub_zero] at v1 r1 p1 t1 ⊢
  have hr : kRun E L (h, g) = (h + 1, (kRun E L (h, g)).2) := by rw [← r1]
  have hok : kOpOk K s (h + 1) := Or.inr (Or.inr (Or.inl ⟨hK, by omega⟩))
  have hht : kHt K (h + 1) = h + 1 := by
    unfold kHt
    rw [if_neg (by omega), if_pos hK]
  obtain ⟨v, hv, hv2⟩ : ∃ v, (kSt E K s (0, h + 1, (kRun E L (h, g)).2)).2 = (h + 1, kSet (kRun E L (h, g)).2 h v) ∧ (b1 = true → kBit v) := by
    rcases hK with e | e
    · refine ⟨1 - (kRun E L (h, g)).2 h, ?_, fun hh => ?_⟩
      · rw [e]
        unfold kSt kPop
        rw [if_neg (by decide), if_pos rfl]
        dsimp only
        rw [if_neg (by omega), Nat.add_sub_cancel]
      · rcases t1 hh with q | q <;> rw [q]
        · exact Or.inr rfl
        · exact Or.inl rfl
    · refine ⟨-(kRun E L (h, g)).2 h, ?_, fun hh => ?_⟩
      · rw [e]
        unfold kSt kPop
        rw [if_neg (by decide), if_neg (by decide), if_pos rfl]
        dsimp only
        rw [if_neg (by omega), Nat.add_sub_cancel]
      · rw [hb1 e] at hh
        exact Bool.noConfusion hh
  have hrun : kRun E (L ++ [(K, s)]) (h, g) = (h + 1, kSet (kRun E L (h, g)).2 h v) := by
    rw [kRun_app, hr]
    exact hv
  refine ⟨kVl_app L _ h (h + 1) _ v1 ⟨hok, hht⟩, by rw [hrun], fun j hj => ?_, fun hh => ?_⟩
  · rw [hrun]
    show (if j = h then _ else _) = _
    rw [if_neg (by omega)]
    exact p1 j hj
  · rw [hrun]
    show kBit (if h = h then _ else _)
    rw [if_pos rfl]
    exact hv2 hh
theorem ef_leaf (hK : K = 12 ∨ K = 13 ∨ K = 14 ∨ K = 15 ∨ K = 16 ∨ K = 38) (ho : ∀ h, kOpOk K s h) (hb : b1 = true → kBit (E K s)) : kEf E b0 b1 0 [(K, s)] := by
  intro h g ha _
  have hht : kHt K h = h + 1 := if_pos hK
  have hrun : kRun E [(K, s)] (h, g) = (h + 1, kSet g h (E K s)) := by
    show (kSt E K s (0, h, g)).2 = _
    unfold kSt
    rw [if_neg (by omega), if_neg (by omega), if_neg (by omega), if_pos hK]
  simp only [Nat.sub_zero]
  refine ⟨⟨ho h, hht⟩, by rw [hrun], fun j hj => ?_, fun hh => ?_⟩
  · rw [hrun]
    show (if j = h then _ else _) = _
    rw [if_neg (by omega)]
  · rw [hrun]
    show kBit (if h = h then _ else _)
    rw [if_pos rfl]
    exact hb hh
theorem ef_w (f : kEf E false b1 a L) : kEf E b0 b1 a L := fun h g ha _ => f h g ha (fun hh => Bool.noConfusion hh)
end EF
theorem kBit_jn : ∀ K, kBin2 K → ∀ x y, (K = 18 ∨ K = 19 → kBit x ∧ kBit y) → (K = 18 ∨ K = 19 ∨ 32 ≤ K) → kBit (kJn K x y) := by
  intro K hK x y h hc
  by_cases g : K = 18 ∨ K = 19
  · obtain ⟨hx, hy⟩ := h g
    rcases g with e | e <;> subst e <;> rcases hx with e | e <;> rcases hy with e2 | e2 <;> subst e <;> subst e2 <;> unfold kBit kJn <;> decide
  · unfold kBin2 at hK
    unfold kJn
    rw [if_neg (by omega), if_neg (by omega), if_neg (by omega), if_neg (by omega), if_neg (by omega), if_neg (by omega), if_neg (by omega), if_neg (by omega)]
    repeat' split
    all_goals first | exact Or.inl rfl | exact Or.inr rfl
def kVs (mean : Nat → Int32) (l : List (Nat × Nat)) : List (Nat × Int32) := l.map fun x => (x.1, mean x.2)
theorem kVs_app {mean : Nat → Int32} {l m : List (Nat × Nat)} : kVs mean (l ++ m) = kVs mean l ++ kVs mean m := List.map_append
/-- a token of a test -/
def kTst (kd : Nat → Nat) (t : Nat) : Prop := ¬ kd t = 10 ∧ (kd t = 37 → kd (t - 1) = 14 ∨ kd (t - 1) = 15 ∨ kd (t - 1) = 16) ∧ (kd t = 38 → ¬ kd (t - 1) = 1 ∧ ¬ kd (t - 1) = 4 ∧ ¬ kd (t - 1) = 8 ∧ ¬ kd (t - 1) = 9)
/-- what is emitted speaks of such tokens -/
def kMem (kd : Nat → Nat) (N : Nat) (x : Nat × Nat) : Prop := ((x.1 = 14 ∨ x.1 = 15 ∨ x.1 = 16) → kd x.2 = 37 ∧ 1 ≤ x.2 ∧ kd (x.2 - 1) = x.1 ∧ x.2 < N - 1) ∧ (x.1 = 38 → kd x.2 = 38 ∧ x.2 < N - 1) ∧ x.2 < N
def kNam (kd : Nat → Nat) (N : Nat) (mean : Nat → Int32) : Prop := ∀ t, t < N - 1 → kd t = 37 → (kd (t - 1) = 14 ∨ kd (t - 1) = 16) → ∃ u, u < 10 ∧ mean t = iN u
def kGd (kd : Nat → Nat) (N : Nat) (mean : Nat → Int32) (b0 b : Bool) (a i : Nat) (q : kR) : Prop := kBef kd i → q.1 = true → (∀ t, i ≤ t → t < q.2.1 → kTst kd t) ∧ kBef kd q.2.1 ∧ (∀ x ∈ q.2.2, kMem kd N x) ∧ ∀ E : Nat → Int32 → Int32, (∀ s, E 16 s = 0 ∨ E 16 s = 1) → kEf E b0 b a (kVs mean q.2.2)
section GD
variable {kd : Nat → Nat} {N : Nat} {mean : Nat → Int32} {b0 b1 b2 : Bool} {a i K t : Nat} {r : kR} {k : Nat → kR}
theorem gd_no {j : Nat} : kGd kd N mean b0 b1 a i (kNo j) := fun _ hh => Bool.noConfusion (show false = true from hh)
theorem gd_bd (h1 : kGd kd N mean b0 b1 a i r) (h2 : r.1 = true → kGd kd N mean b1 b2 1 r.2.1 (k r.2.1)) : kGd kd N mean b0 b2 a i (kBd r k) := by
  intro hB hh
  by_cases g : r.1 = true
  · unfold kBd at hh ⊢
    rw [if_pos g] at hh ⊢
    obtain ⟨a1, a2, a3, a4⟩ := h1 hB g
    obtain ⟨c1, c2, c3, c4⟩ := h2 g a2 hh
    refine ⟨fun t h1 h2 => ?_, c2, fun x hx => (List.mem_append.mp hx).elim (a3 x) (c3 x), fun E hE => ?_⟩
    · by_cases e : t < r.2.1
      · exact a1 t h1 e
      · exact c1 t (by omega) h2
    · show kEf E b0 b2 a (kVs mean (r.2.2 ++ (k r.2.1).2.2))
      rw [kVs_app]
      exact ef_app (a4 E hE) (c4 E hE)
  · rw [kBd_f (Bool.eq_false_iff.mpr g)] at hh
    exact absurd hh g
theorem gd_tk (hk : ¬ kd i = 37 ∧ ¬ kd i = 38 ∧ ¬ kd i = 10 ∧ ¬ kd i = 1 ∧ ¬ kd i = 4 ∧ ¬ kd i = 8 ∧ ¬ kd i = 9) (h : kGd kd N mean b0 b1 a (i + 1) r) : kGd kd N mean b0 b1 a i r := by
  intro hB hh
  obtain ⟨a1, a2, a3, a4⟩ := h (kBef_s (by omega)) hh
  refine ⟨fun t h1 h2 => ?_, a2, a3, a4⟩
  by_cases e : t = i
  · rw [e]
    exact ⟨hk.2.2.1, fun q => absurd q hk.1, fun q => absurd q hk.2.1⟩
  · exact a1 t (by omega) h2
theorem gd_t1 (hK : ¬ K = 37 ∧ ¬ K = 38 ∧ ¬ K = 10 ∧ ¬ K = 1 ∧ ¬ K = 4 ∧ ¬ K = 8 ∧ ¬ K = 9) (h : kGd kd N mean b0 b1 a i r) : kGd kd N mean b0 b1 a i (kBd r (kT1 kd K)) := by
  intro hB hh
  by_cases g : r.1 = true
  · unfold kBd at hh ⊢
    rw [if_pos g] at hh ⊢
    obtain ⟨a1, a2, a3, a4⟩ := h hB g
    unfold kT1 at hh ⊢
    by_cases q : kd r.2.1 = K
    · rw [if_pos q] at hh ⊢
      refine ⟨fun t h1 h2 => ?_, kBef_s (by omega), fun x hx => a3 x ((List.append_nil r.2.2) ▸ hx), fun E hE => ?_⟩
      · by_cases e : t = r.2.1
        · rw [e]
          exact ⟨by omega, fun q => absurd q (by omega), fun q => absurd q (by omega)⟩
        · have h2' : t < r.2.1 + 1 := h2
          exact a1 t h1 (by omega)
      · show kEf E b0 b1 a (kVs mean (r.2.2 ++ []))
        rw [List.append_nil]
        exact a4 E hE
    · rw [if_neg q] at hh
      exact Bool.noConfusion (show false = true from hh)
  · rw [kBd_f (Bool.eq_false_iff.mpr g)] at hh
    exact absurd hh g
theorem gd_bin (h : kGd kd N mean false b1 0 i r) (hK : kBin2 K) (ht : t < N) (hbit : ∀ x y, (b0 = true → kBit x) → (b1 = true → kBit y) → b2 = true → kBit (kJn K x y)) : kGd kd N mean b0 b2 1 i (kBd r (kEm K t)) := by
  intro hB hh
  by_cases g : r.1 = true
  · unfold kBd at hh ⊢
    rw [if_pos g] at hh ⊢
    obtain ⟨a1, a2, a3, a4⟩ := h hB g
    refine ⟨a1, a2, fun x hx => (List.mem_append.mp hx).elim (a3 x) fun e => ?_, fun E hE => ?_⟩
    · have e' : x = (K, t) := List.mem_singleton.mp e
      rw [e']
      unfold kBin2 at hK
      exact ⟨fun q => absurd (show K = 14 ∨ K = 15 ∨ K = 16 from q) (by omega), fun q => absurd (show K = 38 from q) (by omega), ht⟩
    · show kEf E b0 b2 1 (kVs mean (r.2.2 ++ [(K, t)]))
      rw [kVs_app]
      exact ef_bin (a4 E hE) hK hbit
  · rw [kBd_f (Bool.eq_false_iff.mpr g)] at hh
    exact absurd hh g
theorem gd_un (h : kGd kd N mean false b1 0 i r) (hK : K = 17 ∨ K = 41) (ht : t < N) (hb : K = 41 → b1 = false) : kGd kd N mean false b1 0 i (kBd r (kEm K t)) := by
  intro hB hh
  by_cases g : r.1 = true
  · unfold kBd at hh ⊢
    rw [if_pos g] at hh ⊢
    obtain ⟨a1, a2, a3, a4⟩ := h hB g
    refine ⟨a1, a2, fun x hx => (List.mem_append.mp hx).elim (a3 x) fun e => ?_, fun E hE => ?_⟩
    · have e' : x = (K, t) := List.mem_singleton.mp e
      rw [e']
      exact ⟨fun q => absurd (show K = 14 ∨ K = 15 ∨ K = 16 from q) (by omega), fun q => absurd (show K = 38 from q) (by omega), ht⟩
    · show kEf E false b1 0 (kVs mean (r.2.2 ++ [(K, t)]))
      rw [kVs_app]
      exact ef_un (a4 E hE) hK hb
  · rw [kBd_f (Bool.eq_false_iff.mpr g)] at hh
    exact absurd hh g
theorem gd_name (hM : kNam kd N mean) (hT : kTok kd N) (hi : i ≤ N - 1) (hK : kd i = K) (hK3 : K = 14 ∨ K = 15 ∨ K = 16) (hb : b1 = true → K = 16) : kGd kd N mean b0 b1 0 i (if kd (i + 1) = 37 then (true, i + 2, [(K, i + 1)]) else kNo (i + 1)) := by
  by_cases g : kd (i + 1) = 37
  · rw [if_pos g]
    have i1 := kTok_lt hT hi (by omega)
    have i2 := kTok_lt hT i1 (by omega)
    intro hB _
    refine ⟨fun t h1 h2 => ?_, kBef_s (i := i + 1) (by omega), fun x hx => ?_, fun E hE => ?_⟩
    · have h2' : t < i + 2 := h2
      by_cases e : t = i
      · rw [e]
        exact ⟨by omega, fun q => absurd q (by omega), fun q => absurd q (by omega)⟩
      · have e2 : t = i + 1 := by omega
        rw [e2]
        unfold kTst
        rw [Nat.add_sub_cancel]
        exact ⟨by omega, fun _ => by omega, fun q => absurd q (by omega)⟩
    · have e : x = (K, i + 1) := List.mem_singleton.mp hx
      rw [e]
      exact ⟨fun _ => ⟨g, by show 1 ≤ i + 1; omega, by show kd (i + 1 - 1) = K; rw [Nat.add_sub_cancel]; exact hK, by show i + 1 < N - 1; omega⟩, fun q => absurd (show K = 38 from q) (by omega), by show i + 1 < N; omega⟩
    · refine ef_leaf (by omega) (fun h => ?_) (fun hh => ?_)
      · by_cases e : K = 15
        · exact Or.inl (Or.inr (Or.inr (Or.inl e)))
        · exact Or.inr (Or.inl ⟨by omega, hM (i + 1) (by omega) g (by rw [Nat.add_sub_cancel]; omega)⟩)
      · rw [hb hh]
        exact hE _
  · rw [if_neg g]
    exact gd_no
theorem kBd_as {r : kR} {k1 k2 : Nat → kR} : kBd (kBd r k1) k2 = kBd r (fun j => kBd (k1 j) k2) := by
  by_cases g : r.1 = true
  · have e : kBd r k1 = ((k1 r.2.1).1, (k1 r.2.1).2.1, r.2.2 ++ (k1 r.2.1).2.2) := if_pos g
    have e2 : kBd r (fun j => kBd (k1 j) k2) = ((kBd (k1 r.2.1) k2).1, (kBd (k1 r.2.1) k2).2.1, r.2.2 ++ (kBd (k1 r.2.1) k2).2.2) := if_pos g
    rw [e, e2]
    unfold kBd
    by_cases q : (k1 r.2.1).1 = true
    · rw [if_pos q, if_pos q, List.append_assoc]
    · rw [if_neg q, if_neg q]
  · have g' := Bool.eq_false_iff.mpr g
    rw [kBd_f g', kBd_f g', kBd_f g']
theorem kP_g (hT : kTok kd N) (hM : kNam kd N mean) : ∀ f mode D i, i ≤ N - 1 → kGd kd N mean (decide (mode = 6 ∨ mode = 8)) (decide (5 ≤ mode)) (if mode = 1 ∨ mode = 3 ∨ mode = 6 ∨ mode = 8 then 1 else 0) i (kP kd f mode D i) := by
  intro f
  induction f with
  | zero => intro mode D i hi; exact gd_no
  | succ f ih =>
    have v := fun D i hi => (show kGd kd N mean false false 0 i (kP kd f 0 D i) from ih 0 D i hi)
    have pl := fun D i hi => (show kGd kd N mean false false 1 i (kP kd f 1 D i) from ih 1 D i hi)
    have p := fun D i hi => (show kGd kd N mean false false 0 i (kP kd f 2 D i) from ih 2 D i hi)
    have sl := fun D i hi => (show kGd kd N mean false false 1 i (kP kd f 3 D i) from ih 3 D i hi)
    have s := fun D i hi => (show kGd kd N mean false false 0 i (kP kd f 4 D i) from ih 4 D i hi)
    have g := fun D i hi => (show kGd kd N mean false true 0 i (kP kd f 5 D i) from ih 5 D i hi)
    have gl := fun D i hi => (show kGd kd N mean true true 1 i (kP kd f 6 D i) from ih 6 D i hi)
    have b := fun D i hi => (show kGd kd N mean false true 0 i (kP kd f 7 D i) from ih 7 D i hi)
    have bl := fun D i hi => (show kGd kd N mean true true 1 i (kP kd f 8 D i) from ih 8 D i hi)
    have t9 := fun D i hi => (show kGd kd N mean false true 0 i (kP kd f 9 D i) from ih 9 D i hi)
    have bn := fun mode D i hi => (kP_b hT f mode D i hi).1
    have lp : ∀ (b : Bool) (i K : Nat) (r k : Nat → kR), (K < 39 ∧ ¬ K = 37 ∧ ¬ K = 38 ∧ ¬ K = 10 ∧ ¬ K = 1 ∧ ¬ K = 4 ∧ ¬ K = 8 ∧ ¬ K = 9) → kBin2 K → (b = true → K = 18 ∨ K = 19) → kd i = K → i ≤ N - 1 → (∀ j, j ≤ N - 1 → (r j).2.1 ≤ N - 1) → (∀ j, j ≤ N - 1 → kGd kd N mean false b 0 j (r j)) → (∀ j, j ≤ N - 1 → kGd kd N mean b b 1 j (k j)) → kGd kd N mean b b 1 i (kBd (kBd (r (i + 1)) (kEm K i)) k) := fun b i K r k h1 h2 h3 h4 hi hb h5 h6 => by
      have i1 := kTok_lt hT hi (by omega)
      refine gd_tk (by omega) (gd_bd (gd_bin (b0 := b) (b2 := b) (h5 (i + 1) i1) h2 (by omega) fun x y hx hy hh => kBit_jn K h2 x y (fun _ => ⟨hx hh, hy hh⟩) (by have := h3 hh; omega)) fun hh => h6 _ ?_)
      by_cases q : (r (i + 1)).1 = true
      · have e : kBd (r (i + 1)) (kEm K i) = ((kEm K i (r (i + 1)).2.1).1, (kEm K i (r (i + 1)).2.1).2.1, (r (i + 1)).2.2 ++ (kEm K i (r (i + 1)).2.1).2.2) := if_pos q
        rw [e]
        exact hb (i + 1) i1
      · rw [kBd_f (Bool.eq_false_iff.mpr q)]
        exact hb (i + 1) i1
    have nl : ∀ (b : Bool) (i : Nat), kGd kd N mean b b 1 i (true, i, []) := fun b i hB _ => ⟨fun t h1 h2 => absurd (show t < i from h2) (by omega), hB, fun x hx => absurd hx (by simp), fun E hE => ef_nil⟩
    intro mode D i hi
    match mode with
    | 0 =>
      show kGd kd N mean false false 0 i (kV kd (kP kd f) D i)
      unfold kV
      by_cases a : kd i = 38 ∨ kd i = 12 ∨ kd i = 13
      · rw [if_pos a]
        intro hB _
        have i1 := kTok_lt hT hi (by omega)
        refine ⟨fun t h1 h2 => ?_, kBef_s (by omega), fun x hx => ?_, fun E hE => ?_⟩
        · have h2' : t < i + 1 := h2
          have e : t = i := by omega
          rw [e]
          exact ⟨by omega, fun q => absurd q (by omega), fun _ => hB.2⟩
        · have e : x = (kd i, i) := List.mem_singleton.mp hx
          rw [e]
          exact ⟨fun q => absurd (show kd i = 14 ∨ kd i = 15 ∨ kd i = 16 from q) (by omega), fun q => ⟨q, by show i < N - 1; omega⟩, by show i < N; omega⟩
        · exact ef_leaf (by omega) (fun h => Or.inl (by omega)) (fun hh => Bool.noConfusion hh)
      · rw [if_neg a]
        by_cases a : kd i = 14 ∨ kd i = 15
        · rw [if_pos a]
          exact gd_name hM hT hi rfl (by omega) (fun hh => Bool.noConfusion hh)
        · rw [if_neg a]
          by_cases a : kd i = 29
          · rw [if_pos a]
            have i1 := kTok_lt hT hi (by omega)
            split
            · exact gd_tk (by omega) (gd_un (v (D + 1) (i + 1) i1) (Or.inr rfl) (by omega) fun _ => rfl)
            · exact gd_no
          · rw [if_neg a]
            by_cases a : kd i = 22
            · rw [if_pos a]
              have i1 := kTok_lt hT hi (by omega)
              split
              · exact gd_tk (by omega) (gd_t1 (by decide) (s (D + 1) (i + 1) i1))
              · exact gd_no
            · rw [if_neg a]
              by_cases a : kd i = 20 ∨ kd i = 21
              · rw [if_pos a]
                have i1 := kTok_lt hT hi (by omega)
                split
                · by_cases c : kd (i + 1) = 22
                  · rw [if_pos c]
                    have i2 := kTok_lt hT i1 (by omega)
                    have e : kBd (kBd (kBd (kBd (kP kd f 4 (D + 1) (i + 2)) (kT1 kd 27)) (kP kd f 4 (D + 1))) (kT1 kd 23)) (kEm (kd i) i) = kBd (kBd (kP kd f 4 (D + 1) (i + 2)) (kT1 kd 27)) (fun j => kBd (kBd (kP kd f 4 (D + 1) j) (kT1 kd 23)) (kEm (kd i) i)) := by
                      rw [kBd_as, kBd_as]
                      congr 1
                      funext j
                      rw [kBd_as]
                    rw [e]
                    refine gd_tk (by omega) (gd_tk (i := i + 1) (by omega) (gd_bd (gd_t1 (K := 27) (by decide) (s (D + 1) (i + 2) i2)) fun hh => ?_))
                    have e1 : kBnd N (i + 2) 1 (kP kd f 4 (D + 1) (i + 2)) := by
                      have := kP_b hT f 4 (D + 1) (i + 2) i2
                      rw [if_neg (by decide)] at this
                      exact this
                    have e2 := kBnd_bd e1 fun hh => kT1_b (K := 27) hT e1.1 (by decide)
                    exact gd_bin (gd_t1 (K := 23) (by decide) (s (D + 1) _ e2.1)) (by unfold kBin2; omega) (by omega) fun x y _ _ hh => Bool.noConfusion hh
                  · rw [if_neg c]
                    exact gd_no
                · exact gd_no
              · rw [if_neg a]
                exact gd_no
    | 1 =>
      show kGd kd N mean false false 1 i (kLp2 kd (kP kd f) 30 31 0 1 D i)
      unfold kLp2
      by_cases a : kd i = 30 ∨ kd i = 31
      · rw [if_pos a]
        exact lp false i (kd i) (kP kd f 0 D) (kP kd f 1 D) (by omega) (by unfold kBin2; omega) (fun hh => Bool.noConfusion hh) rfl hi (fun j hj => bn 0 D j hj) (v D) (pl D)
      · rw [if_neg a]
        exact nl false i
    | 2 => exact gd_bd (v D i hi) fun hh => pl D _ (bn 0 D i hi)
    | 3 =>
      show kGd kd N mean false false 1 i (kLp2 kd (kP kd f) 28 29 2 3 D i)
      unfold kLp2
      by_cases a : kd i = 28 ∨ kd i = 29
      · rw [if_pos a]
        exact lp false i (kd i) (kP kd f 2 D) (kP kd f 3 D) (by omega) (by unfold kBin2; omega) (fun hh => Bool.noConfusion hh) rfl hi (fun j hj => bn 2 D j hj) (p D) (sl D)
      · rw [if_neg a]
        exact nl false i
    | 4 => exact gd_bd (p D i hi) fun hh => sl D _ (bn 2 D i hi)
    | 5 =>
      show kGd kd N mean false true 0 i (kSg kd (kP kd f) D i)
      unfold kSg
      by_cases a : kd i = 17
      · rw [if_pos a]
        have i1 := kTok_lt hT hi (by omega)
        split
        · exact gd_tk (by omega) (gd_un (g (D + 1) (i + 1) i1) (Or.inl rfl) (by omega) fun h => absurd h (by decide))
        · exact gd_no
      · rw [if_neg a]
        by_cases a : kd i = 24
        · rw [if_pos a]
          have i1 := kTok_lt hT hi (by omega)
          split
          · exact gd_tk (by omega) (gd_t1 (by decide) (t9 (D + 1) (i + 1) i1))
          · exact gd_no
        · rw [if_neg a]
          by_cases a : kd i = 16
          · rw [if_pos a]
            exact gd_name hM hT hi a (by omega) (fun _ => rfl)
          · rw [if_neg a]
            refine gd_bd (b1 := false) (s D i hi) fun hh => ?_
            have j1 := bn 4 D i hi
            unfold kCm
            by_cases c : kd (kP kd f 4 D i).2.1 = 32 ∨ kd (kP kd f 4 D i).2.1 = 33 ∨ kd (kP kd f 4 D i).2.1 = 34 ∨ kd (kP kd f 4 D i).2.1 = 35 ∨ kd (kP kd f 4 D i).2.1 = 36
            · rw [if_pos c]
              have j2 := kTok_lt hT j1 (by omega)
              refine gd_tk (by omega) (gd_bin (s D _ j2) (by unfold kBin2; omega) (by omega) fun x y _ _ _ => kBit_jn _ (by unfold kBin2; omega) x y (fun h => absurd h (by omega)) (by omega))
            · rw [if_neg c]
              exact gd_no
    | 6 =>
      show kGd kd N mean true true 1 i (kLp1 kd (kP kd f) 18 5 6 D i)
      unfold kLp1
      by_cases a : kd i = 18
      · rw [if_pos a]
        exact lp true i 18 (kP kd f 5 D) (kP kd f 6 D) (by decide) (Or.inl rfl) (fun _ => Or.inl rfl) a hi (fun j hj => bn 5 D j hj) (g D) (gl D)
      · rw [if_neg a]
        exact nl true i
    | 7 => exact gd_bd (g D i hi) fun hh => gl D _ (bn 5 D i hi)
    | 8 =>
      show kGd kd N mean true true 1 i (kLp1 kd (kP kd f) 19 7 8 D i)
      unfold kLp1
      by_cases a : kd i = 19
      · rw [if_pos a]
        exact lp true i 19 (kP kd f 7 D) (kP kd f 8 D) (by decide) (Or.inr (Or.inl rfl)) (fun _ => Or.inr rfl) a hi (fun j hj => bn 7 D j hj) (b D) (bl D)
      · rw [if_neg a]
        exact nl true i
    | m + 9 =>
      have e1 : decide (m + 9 = 6 ∨ m + 9 = 8) = false := decide_eq_false (by omega)
      have e2 : decide (5 ≤ m + 9) = true := decide_eq_true (by omega)
      have e3 : (if m + 9 = 1 ∨ m + 9 = 3 ∨ m + 9 = 6 ∨ m + 9 = 8 then 1 else 0) = 0 := if_neg (by omega)
      rw [e1, e2, e3]
      show kGd kd N mean false true 0 i (kBd (kP kd f 7 D i) (kP kd f 8 D))
      exact gd_bd (b D i hi) fun hh => bl D _ (bn 7 D i hi)
end GD
