/-! THE PURE PART: both shut the same trunks. -/
/-- steps carried out one after the other -/
def kRunS (E : Nat → Int32 → Int32) : List (Nat × Int32) → Int32 × Nat × (Nat → Int32) → Int32 × Nat × (Nat → Int32)
  | [], a => a
  | (K, s) :: r, a => kRunS E r (kSt E K s a)
/-- a list stands in two rows from k on -/
def kSeq (K : Nat → Nat) (S : Nat → Int32) : Nat → List (Nat × Int32) → Prop
  | _, [] => True
  | k, (c, s) :: r => K k = c ∧ S k = s ∧ kSeq K S (k + 1) r
theorem kSeq_run {E : Nat → Int32 → Int32} {K : Nat → Nat} {S : Nat → Int32} : ∀ (L : List (Nat × Int32)) (k : Nat) (a : Int32 × Nat × (Nat → Int32)), kSeq K S k L → jfold (fun k a => kSt E (K k) (S k) a) k L.length a = kRunS E L a
  | [], _, _, _ => rfl
  | (c, s) :: r, k, a, ⟨h1, h2, h3⟩ => by
    show jfold (fun k a => kSt E (K k) (S k) a) (k + 1) r.length (kSt E (K k) (S k) a) = kRunS E r (kSt E c s a)
    rw [h1, h2]
    exact kSeq_run r (k + 1) _ h3
theorem kRunS_app {E : Nat → Int32 → Int32} : ∀ (L M : List (Nat × Int32)) (a : Int32 × Nat × (Nat → Int32)), kRunS E (L ++ M) a = kRunS E M (kRunS E L a)
  | [], _, _ => rfl
  | (_, _) :: r, M, _ => kRunS_app r M _
theorem kSt_set {E : Nat → Int32 → Int32} {K : Nat} {s x : Int32} {b : Nat × (Nat → Int32)} (hK : ¬ K = 10) : kSt E K s (x, b) = (x, (kSt E K s (0, b)).2) := by
  unfold kSt
  rw [if_neg hK, if_neg hK]
  dsimp only
  repeat' split
  all_goals rfl
theorem kOpOk_10 {K h : Nat} {s : Int32} (ho : kOpOk K s h) : ¬ K = 10 := by
  unfold kOpOk at ho
  omega
theorem kRunS_set {E : Nat → Int32 → Int32} : ∀ (L : List (Nat × Int32)) (h : Nat) (x : Int32) (g : Nat → Int32), kVal h L → kRunS E L (x, h, g) = (x, kRun E L (h, g)) ∧ (kRun E L (h, g)).1 = 1
  | [], h, x, g, hv => ⟨rfl, hv⟩
  | (K, s) :: r, h, x, g, hv => by
    obtain ⟨ho, hv⟩ := hv
    have e1 := kHt_st (E := E) (g := g) ho
    have h3 := kRunS_set (E := E) r (kHt K h) x (kSt E K s (0, h, g)).2.2 hv
    unfold kRunS kRun
    rw [kSt_set (kOpOk_10 ho), show (kSt E K s (0, h, g)).2 = ((kSt E K s (0, h, g)).2.1, (kSt E K s (0, h, g)).2.2) from rfl, e1]
    exact h3
/-- all tests, each with what it shuts -/
def kAll (T : Nat → List (Nat × Int32)) (sh : Nat → Int32) : Nat → Nat → List (Nat × Int32)
  | _, 0 => []
  | k, m + 1 => T k ++ (10, sh k) :: kAll T sh (k + 1) m
theorem kAll_run {E : Nat → Int32 → Int32} {T : Nat → List (Nat × Int32)} {sh : Nat → Int32} {n : Nat} (hT : ∀ k, k < n → kVal 0 (T k)) : ∀ (m k : Nat) (x : Int32) (g : Nat → Int32), k + m = n → (kRunS E (kAll T sh k m) (x, 0, g)).1 = jfold (fun k x => x ||| kSay E (T k) <<< (sh k &&& 31)) k m x
  | 0, _, _, _, _ => rfl
  | m + 1, k, x, g, e => by
    obtain ⟨h1, h2⟩ := kRunS_set (E := E) (T k) 0 x g (hT k (by omega))
    have h3 := kSay_e (E := E) g (hT k (by omega))
    show (kRunS E (T k ++ (10, sh k) :: kAll T sh (k + 1) m) (x, 0, g)).1 = jfold (fun k x => x ||| kSay E (T k) <<< (sh k &&& 31)) (k + 1) m (x ||| kSay E (T k) <<< (sh k &&& 31))
    rw [kRunS_app, h1]
    have h4 : kSt E 10 (sh k) (x, kRun E (T k) (0, g)) = (x ||| kSay E (T k) <<< (sh k &&& 31), 0, (kRun E (T k) (0, g)).2) := by
      unfold kSt
      rw [if_pos rfl]
      dsimp only
      rw [h2]
      unfold kPop
      rw [if_neg (by omega), h3]
    show (kRunS E (kAll T sh (k + 1) m) (kSt E 10 (sh k) (x, kRun E (T k) (0, g)))).1 = _
    rw [h4]
    exact kAll_run hT m (k + 1) _ _ (by omega)
theorem jbt_sh {v : Int32} {u j : Nat} (hv : v = 0 ∨ v = 1) (hu : u < 32) (hj : j < 32) : jbt (v <<< (iN u &&& 31)) j = decide (v = 1 ∧ j = u) := by
  rcases hv with e | e
  · subst e
    have h0 : (0 : Int32) <<< (iN u &&& 31) = 0 := by
      apply Int32.toBitVec_inj.mp
      rw [jshl hu]
      simp
    rw [h0, jbt_zero]
    simp [mne]
  · subst e
    rw [jbt_one hu hj]
    simp
theorem kAll_bit {E : Nat → Int32 → Int32} {T : Nat → List (Nat × Int32)} {sh : Nat → Int32} {n j : Nat} (hj : j < 32) (hs : ∀ k, k < n → ∃ u, u < 32 ∧ sh k = iN u) (hB : ∀ k, k < n → kSay E (T k) = 0 ∨ kSay E (T k) = 1) : ∀ (m k : Nat) (x : Int32), k + m = n → (jbt (jfold (fun k x => x ||| kSay E (T k) <<< (sh k &&& 31)) k m x) j = true ↔ jbt x j = true ∨ ∃ i, k ≤ i ∧ i < k + m ∧ sh i = iN j ∧ kSay E (T i) = 1)
  | 0, k, x, _ => ⟨Or.inl, fun h => h.elim id fun ⟨i, h1, h2, _⟩ => absurd h1 (by omega)⟩
  | m + 1, k, x, e => by
    obtain ⟨u, hu, hsu⟩ := hs k (by omega)
    show jbt (jfold (fun k x => x ||| kSay E (T k) <<< (sh k &&& 31)) (k + 1) m (x ||| kSay E (T k) <<< (sh k &&& 31))) j = true ↔ _
    rw [kAll_bit hj hs hB m (k + 1) _ (by omega), jbt_or, hsu, jbt_sh (hB k (by omega)) hu hj, Bool.or_eq_true, decide_eq_true_iff]
    constructor
    · rintro ((h | ⟨h1, h2⟩) | ⟨i, h1, h2, h3⟩)
      · exact Or.inl h
      · exact Or.inr ⟨k, Nat.le_refl _, by omega, by rw [hsu, h2], h1⟩
      · exact Or.inr ⟨i, by omega, by omega, h3⟩
    · rintro (h | ⟨i, h1, h2, h3, h4⟩)
      · exact Or.inl (Or.inl h)
      · by_cases ei : i = k
        · subst ei
          refine Or.inl (Or.inr ⟨h4, ?_⟩)
          rw [hsu] at h3
          exact ((iN_eq (by omega) (by omega)).mp h3).symm
        · exact Or.inr ⟨i, by omega, by omega, h3, h4⟩
/-- two surroundings in which a list says the same -/
theorem kRun_env {E E' : Nat → Int32 → Int32} : ∀ (L : List (Nat × Int32)) (a : Nat × (Nat → Int32)), (∀ K s, (K, s) ∈ L → E K s = E' K s) → kRun E L a = kRun E' L a
  | [], _, _ => rfl
  | (K, s) :: r, a, h => by
    have e : kSt E K s (0, a) = kSt E' K s (0, a) := by
      unfold kSt
      rw [h K s (List.mem_cons_self ..)]
    unfold kRun
    rw [e]
    exact kRun_env r _ fun K s hm => h K s (List.mem_cons_of_mem _ hm)
theorem kSay_env {E E' : Nat → Int32 → Int32} {L : List (Nat × Int32)} (h : ∀ K s, (K, s) ∈ L → E K s = E' K s) : kSay E L = kSay E' L := by
  unfold kSay
  rw [kRun_env L _ h]
