/-! THE PURE PART: what holds ahead of each call. -/
section JJ
variable {A A' B B' μ μ' : jM} {p m n t L nh w mk sz : Nat} {K : Nat → Nat} {T : Nat → List (Nat × Int32)} {pn pd : Nat → Int32}
theorem jPl_g (hW : jWd A') (hQ : jQ A' 2400 = jQ A 2400) (h1 : jI A' 1731 = jI A 1731) (h2 : jI A' 2308 3 = jI A 2308 3) (h3 : jI A' 2456 = jI A 2456) (h : jPl A m n t L K) : jPl A' m n t L K := by
  unfold jPl at h ⊢
  rw [hQ, h1, h2, h3]
  exact ⟨hW, h.2⟩
theorem jMp_g (hW : jWd B') (h1 : jQ B' 4490 11 = jQ B 4490 11) (h2 : jQ B' (64 * p + 11) = jQ B (64 * p + 11)) (h : jMp B p) : jMp B' p := by
  obtain ⟨_, r2, r3, r4⟩ := h
  refine ⟨hW, r2, h1.trans r3, ?_⟩
  unfold jMq at r4 ⊢
  rw [h2]
  exact r4
/-- the plan in other memories -/
theorem jRP_g (hR : jRP A B p m n t L K nh T) (hWA : jWd A') (hQA : jQ A' 2400 = jQ A 2400) (hA : ∀ a, a = 1731 ∨ (1812 ≤ a ∧ a ≤ 2256) ∨ a = 2456 → jI A' a = jI A a) (hA3 : jI A' 2308 3 = jI A 2308 3) (hWB : jWd B') (h11 : jQ B' 4490 11 = jQ B 4490 11) (h4 : jQ B' (64 * p + 11) = jQ B (64 * p + 11)) (h5 : ∀ c, c < 896 → jI B' (64 * p + c) = jI B (64 * p + c)) : jRP A' B' p m n t L K nh T := by
  obtain ⟨r1, r2, r3, r4, r5, r6, r7, r8, r9, r10, r11, r12, r13, r14, r15⟩ := hR
  unfold jRP
  rw [h5 11 (by decide), h5 84 (by decide), h5 144 (by decide), h5 208 (by decide), h5 272 (by decide), h5 336 (by decide), h5 400 (by decide), h5 464 (by decide), h5 528 (by decide), h5 594 (by decide), hA 1731 (by decide), hA 1812 (by decide), hA 1872 (by decide), hA 1936 (by decide), hA 2000 (by decide), hA 2064 (by decide), hA 2128 (by decide), hA 2192 (by decide), hA 2256 (by decide), hA 2456 (by decide)]
  refine ⟨jPl_g hWA hQA (hA 1731 (by decide)) hA3 (hA 2456 (by decide)) r1, jMp_g hWB h11 h4 r2, r3, r4, r5, ?_, r7, r8, r9, r10, r11, r12, r13, r14, r15⟩
  unfold jMt at r6 ⊢
  rw [h5 11 (by decide), h5 659 (by decide), h5 723 (by decide), h5 794 (by decide)]
  exact r6
theorem jRXn_g (h : jRXn A B n w mk pn pd) (hA : ∀ a, 2567 ≤ a → a ≤ 3344 → jI A' a = jI A a) (hB0 : jI B' 5836 0 = jI B 5836 0 ∧ jI B' 5836 1 = jI B 5836 1 ∧ jI B' 5836 7 = jI B 5836 7) (hB : ∀ a, 5904 ≤ a → a ≤ 6608 → jI B' a = jI B a) : jRXn A' B' n w mk pn pd := by
  unfold jRXn at h ⊢
  rw [hB0.1, hB0.2.1, hB0.2.2, hA 2567 (by decide) (by decide), hA 2640 (by decide) (by decide), hA 2704 (by decide) (by decide), hA 2768 (by decide) (by decide), hA 2832 (by decide) (by decide), hA 2896 (by decide) (by decide), hA 2960 (by decide) (by decide), hA 3024 (by decide) (by decide), hA 3088 (by decide) (by decide), hA 3152 (by decide) (by decide), hA 3216 (by decide) (by decide), hA 3280 (by decide) (by decide), hA 3344 (by decide) (by decide), hB 5904 (by decide) (by decide), hB 5968 (by decide) (by decide), hB 6032 (by decide) (by decide), hB 6096 (by decide) (by decide), hB 6160 (by decide) (by decide), hB 6224 (by decide) (by decide), hB 6288 (by decide) (by decide), hB 6352 (by decide) (by decide), hB 6416 (by decide) (by decide), hB 6480 (by decide) (by decide), hB 6544 (by decide) (by decide), hB 6608 (by decide) (by decide)]
  exact h
theorem jRXa_g (h : jRXa A B n w mk pn pd) (hA : ∀ a, 3463 ≤ a → a ≤ 4240 → jI A' a = jI A a) (hB0 : jI B' 6732 0 = jI B 6732 0 ∧ jI B' 6732 1 = jI B 6732 1 ∧ jI B' 6732 7 = jI B 6732 7) (hB : ∀ a, 6800 ≤ a → a ≤ 7504 → jI B' a = jI B a) : jRXa A' B' n w mk pn pd := by
  unfold jRXa at h ⊢
  rw [hB0.1, hB0.2.1, hB0.2.2, hA 3463 (by decide) (by decide), hA 3536 (by decide) (by decide), hA 3600 (by decide) (by decide), hA 3664 (by decide) (by decide), hA 3728 (by decide) (by decide), hA 3792 (by decide) (by decide), hA 3856 (by decide) (by decide), hA 3920 (by decide) (by decide), hA 3984 (by decide) (by decide), hA 4048 (by decide) (by decide), hA 4112 (by decide) (by decide), hA 4176 (by decide) (by decide), hA 4240 (by decide) (by decide), hB 6800 (by decide) (by decide), hB 6864 (by decide) (by decide), hB 6928 (by decide) (by decide), hB 6992 (by decide) (by decide), hB 7056 (by decide) (by decide), hB 7120 (by decide) (by decide), hB 7184 (by decide) (by decide), hB 7248 (by decide) (by decide), hB 7312 (by decide) (by decide), hB 7376 (by decide) (by decide), hB 7440 (by decide) (by decide), hB 7504 (by decide) (by decide)]
  exact h
theorem jWd_k (hq : ∀ a, a < 7680 → ¬ a = 289 → ¬ a = 1248 → ¬ a = 2400 → ¬ a = 4490 → jQ μ' a = jQ μ a) (hq2 : ∀ k, ¬ k = 11 → ¬ k = 12 → jQ μ' 4490 k = jQ μ 4490 k) (hW : jWd μ) : jWd μ' := by
  unfold jWd at hW ⊢
  simp only [hq, hq2, Nat.reduceLT, Nat.reduceEqDiff, not_false_eq_true]
  exact hW
/-- the tape in class and reference -/
def jTq (μ : jM) (sz : Nat) : Prop := jI μ 65 1 = iN sz ∧ kTp μ (kBy (jI μ 155) sz) sz
/-- what holds ahead of each call -/
def jJ (μ : jM) : Prop := jI μ 0 9 = jI μ 4490 3 ∧ (∃ sz, jTq μ sz) ∧ 120 ≤ (jA μ).length ∧ ∃ (p m n t L : Nat) (K : Nat → Nat) (nh : Nat) (T : Nat → List (Nat × Int32)) (w mk : Nat), jRP μ μ p m n t L K nh T ∧ jRXn μ μ n w mk (jI μ 1936) (jI μ 2000) ∧ p + 14 ≤ (jA μ).length
def jGk (μ μ' : jM) : Prop := jJ μ' ∧ jI μ' 44 = jI μ 44 ∧ jI μ' 45 = jI μ 45 ∧ jnc μ' ≤ jnc μ + 400 ∧ jns μ' ≤ jns μ + 5000
theorem jTq_g (h : jTq μ sz) (h1 : jI μ' 65 1 = jI μ 65 1) (h2 : jI μ' 155 = jI μ 155) (h3 : jI μ' 4490 2 = jI μ 4490 2) (h4 : jI μ' 4567 = jI μ 4567) : jTq μ' sz := by
  unfold jTq kTp at h ⊢
  rw [h1, h2, h3, h4]
  exact h
/-- the plan stays -/
theorem jRP_k (hR : jRP μ μ p m n t L K nh T) (hp : p + 14 ≤ (jA μ).length) (hq : ∀ a, a < 64 * (jA μ).length → ¬ a = 289 → ¬ a = 1248 → ¬ a = 4490 → jQ μ' a = jQ μ a) (hl : 120 ≤ (jA μ).length) (hq2 : ∀ k, ¬ k = 12 → jQ μ' 4490 k = jQ μ 4490 k) (hx : ∀ a, a = 1731 ∨ (1812 ≤ a ∧ a ≤ 2256) ∨ a = 2456 ∨ (4928 ≤ a ∧ a < 5836) ∨ (7680 ≤ a ∧ a < 64 * (jA μ).length) → jI μ' a = jI μ a) (h2 : jI μ' 2308 3 = jI μ 2308 3) : jRP μ' μ' p m n t L K nh T := by
  have hf := jRP_f hR
  have hW : jWd μ' := jWd_k (fun a h n1 n2 _ n4 => hq a (by omega) n1 n2 n4) (fun k _ n => hq2 k n) hR.1.1
  exact jRP_g hR hW (hq 2400 (by omega) (by decide) (by decide) (by decide)) (fun a ha => hx a (by omega)) h2 hW (hq2 11 (by decide)) (hq _ (by omega) (by omega) (by omega) (by omega)) fun c hc => hx _ (by omega)
/-- nothing that is told changes -/
theorem jJ_k (h : jJ μ) (hq : ∀ a, a < 64 * (jA μ).length → ¬ a = 289 → ¬ a = 1248 → ¬ a = 4490 → jQ μ' a = jQ μ a) (hq2 : ∀ k, ¬ k = 12 → jQ μ' 4490 k = jQ μ 4490 k) (hx : ∀ a, a = 1731 ∨ (1812 ≤ a ∧ a ≤ 2256) ∨ a = 2456 ∨ (2567 ≤ a ∧ a ≤ 3344) ∨ (4928 ≤ a ∧ a < 5836) ∨ (5904 ≤ a ∧ a ≤ 6608) ∨ (7680 ≤ a ∧ a < 64 * (jA μ).length) → jI μ' a = jI μ a) (h0 : jI μ' 0 9 = jI μ' 4490 3) (h2 : jI μ' 2308 3 = jI μ 2308 3) (h3 : jI μ' 5836 0 = jI μ 5836 0 ∧ jI μ' 5836 1 = jI μ 5836 1 ∧ jI μ' 5836 7 = jI μ 5836 7) (ht : ∃ sz, jTq μ' sz) (hA : (jA μ).length ≤ (jA μ').length) : jJ μ' := by
  obtain ⟨_, _, hl, p, m, n, t, L, K, nh, T, w, mk, hR, hX, hp⟩ := h
  refine ⟨h0, ht, by omega, p, m, n, t, L, K, nh, T, w, mk, jRP_k hR hp hq hl hq2 (fun a ha => hx a (by omega)) h2, ?_, by omega⟩
  rw [hx 1936 (by omega), hx 2000 (by omega)]
  exact jRXn_g hX (fun a h1 h2 => hx a (by omega)) h3 (fun a h1 h2 => hx a (by omega))
end JJ
