/-! THE PURE PART: sets as numbers, bit by bit. -/
/-- member j of a set -/
def jbt (s : Int32) (j : Nat) : Bool := s.toBitVec.getLsbD j
theorem jsh_lt : ∀ j, j < 32 → ((iN j &&& 31).toBitVec.smod 32).toNat = j := by decide +kernel
theorem jshr {s : Int32} {j : Nat} (hj : j < 32) : (s >>> (iN j &&& 31)).toBitVec = s.toBitVec.sshiftRight j := by
  rw [Int32.toBitVec_shiftRight, BitVec.sshiftRight', jsh_lt j hj]
theorem jshl {s : Int32} {j : Nat} (hj : j < 32) : (s <<< (iN j &&& 31)).toBitVec = s.toBitVec <<< j := by
  rw [Int32.toBitVec_shiftLeft, BitVec.shiftLeft_eq', jsh_lt j hj]
theorem jand1 {x : Int32} : x &&& 1 = (if jbt x 0 then 1 else 0) := by
  apply Int32.toBitVec_inj.mp
  rw [Int32.toBitVec_and]
  unfold jbt
  apply BitVec.eq_of_getLsbD_eq
  intro i hi
  rw [BitVec.getLsbD_and]
  by_cases h0 : i = 0
  · subst h0
    cases h : x.toBitVec.getLsbD 0 <;> rfl
  · have h1 : (1 : Int32).toBitVec.getLsbD i = false := by
      show (1#32).getLsbD i = false
      rw [BitVec.getLsbD_one]
      simp [h0]
    rw [h1, Bool.and_false]
    cases h : x.toBitVec.getLsbD 0
    · show false = (0#32).getLsbD i
      simp
    · exact h1.symm
theorem jbt_shr {s : Int32} {j : Nat} (hj : j < 32) : jbt (s >>> (iN j &&& 31)) 0 = jbt s j := by
  unfold jbt
  rw [jshr hj, BitVec.getLsbD_sshiftRight]
  simp [hj]
theorem jbt_and {s : Int32} {j : Nat} (hj : j < 32) : (s >>> (iN j &&& 31)) &&& 1 = (if jbt s j then 1 else 0) := by
  rw [jand1, jbt_shr hj]
theorem jbit_bt {s : Int32} {j : Nat} (hj : j < 32) : jbit s (iN j) = (if jbt s j then 1 else 0) := by
  unfold jbit
  rw [jbt_and hj]
  cases jbt s j <;> rfl
theorem jbt_or {s t : Int32} {j : Nat} : jbt (s ||| t) j = (jbt s j || jbt t j) := by
  unfold jbt
  rw [Int32.toBitVec_or, BitVec.getLsbD_or]
theorem jbt_an {s t : Int32} {j : Nat} : jbt (s &&& t) j = (jbt s j && jbt t j) := by
  unfold jbt
  rw [Int32.toBitVec_and, BitVec.getLsbD_and]
theorem jbt_one {u j : Nat} (hu : u < 32) (hj : j < 32) : jbt (1 <<< (iN u &&& 31)) j = decide (j = u) := by
  unfold jbt
  rw [jshl hu, BitVec.getLsbD_shiftLeft]
  show ((decide (j < 32) && !decide (j < u)) && (1#32).getLsbD (j - u)) = _
  rw [BitVec.getLsbD_one]
  by_cases h : j = u
  · subst h
    simp [hj]
  · by_cases h2 : j < u
    · simp [h, h2]
    · have : ¬ (j - u = 0) := by omega
      simp [h, this]
theorem jbt_not {s : Int32} {j : Nat} (hj : j < 32) : jbt (s ^^^ (-1)) j = !jbt s j := by
  unfold jbt
  rw [Int32.toBitVec_xor, BitVec.getLsbD_xor]
  have : (-1 : Int32).toBitVec.getLsbD j = true := by
    show (BitVec.allOnes 32).getLsbD j = true
    rw [BitVec.getLsbD_allOnes]
    simp [hj]
  rw [this, Bool.xor_true]
theorem jbt_zero {j : Nat} : jbt 0 j = false := by
  show (0#32).getLsbD j = false
  simp
