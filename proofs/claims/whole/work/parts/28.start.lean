/-! THE START: what the premises say of the constants (written by wip/gen/gen_start.py). -/
def jzx (k : Nat) : Nat := bif Nat.blt k 19 then (bif Nat.blt k 9 then (bif Nat.blt k 4 then (bif Nat.blt k 2 then (bif Nat.blt k 1 then (154) else (160)) else (bif Nat.blt k 3 then (163) else (166))) else (bif Nat.blt k 6 then (bif Nat.blt k 5 then (169) else (172)) else (bif Nat.blt k 7 then (175) else (bif Nat.blt k 8 then (178) else (181))))) else (bif Nat.blt k 14 then (bif Nat.blt k 11 then (bif Nat.blt k 10 then (184) else (187)) else (bif Nat.blt k 12 then (190) else (bif Nat.blt k 13 then (193) else (196)))) else (bif Nat.blt k 16 then (bif Nat.blt k 15 then (199) else (202)) else (bif Nat.blt k 17 then (205) else (bif Nat.blt k 18 then (208) else (211)))))) else (bif Nat.blt k 29 then (bif Nat.blt k 24 then (bif Nat.blt k 21 then (bif Nat.blt k 20 then (214) else (217)) else (bif Nat.blt k 22 then (220) else (bif Nat.blt k 23 then (223) else (226)))) else (bif Nat.blt k 26 then (bif Nat.blt k 25 then (229) else (232)) else (bif Nat.blt k 27 then (235) else (bif Nat.blt k 28 then (238) else (241))))) else (bif Nat.blt k 34 then (bif Nat.blt k 31 then (bif Nat.blt k 30 then (244) else (247)) else (bif Nat.blt k 32 then (250) else (bif Nat.blt k 33 then (253) else (256)))) else (bif Nat.blt k 36 then (bif Nat.blt k 35 then (259) else (262)) else (bif Nat.blt k 37 then (265) else (bif Nat.blt k 38 then (268) else (99))))))
def jzw (j : Nat) : Nat := bif Nat.blt j 11 then (bif Nat.blt j 5 then (bif Nat.blt j 2 then (bif Nat.blt j 1 then (389) else (391)) else (bif Nat.blt j 3 then (392) else (bif Nat.blt j 4 then (394) else (396)))) else (bif Nat.blt j 8 then (bif Nat.blt j 6 then (397) else (bif Nat.blt j 7 then (399) else (400))) else (bif Nat.blt j 9 then (402) else (bif Nat.blt j 10 then (403) else (404))))) else (bif Nat.blt j 16 then (bif Nat.blt j 13 then (bif Nat.blt j 12 then (405) else (407)) else (bif Nat.blt j 14 then (408) else (bif Nat.blt j 15 then (410) else (412)))) else (bif Nat.blt j 19 then (bif Nat.blt j 17 then (413) else (bif Nat.blt j 18 then (415) else (417))) else (bif Nat.blt j 20 then (419) else (bif Nat.blt j 21 then (421) else (422)))))
def jtags : List (Nat × Nat) := [(0, 40), (0, 39), (0, 35), (2, 0), (0, 36), (0, 38), (0, 37), (3, 0), (0, 0), (0, 1), (0, 2), (0, 3), (0, 4), (0, 5), (0, 6), (0, 7), (0, 8), (0, 9), (0, 10), (0, 11), (4, 0), (0, 17), (0, 24), (0, 25), (0, 16), (0, 41), (0, 23), (0, 22), (0, 27), (0, 30), (0, 31), (0, 28), (0, 29), (0, 32), (0, 33), (0, 34), (0, 18), (0, 19), (0, 26), (8, 0), (9, 0), (5, 0), (0, 12), (0, 13), (0, 14), (0, 15), (0, 20), (0, 21), (7, 3), (7, 6), (7, 1), (7, 7), (7, 2), (7, 5), (1, 38), (1, 37), (1, 35), (1, 36), (1, 0), (1, 1), (1, 2), (1, 3), (1, 4), (1, 5), (1, 6), (1, 7), (1, 8), (1, 9), (1, 10), (1, 11), (1, 17), (1, 24), (1, 25), (1, 16), (1, 23), (1, 22), (1, 27), (1, 30), (1, 31), (1, 28), (1, 29), (1, 32), (1, 33), (1, 34), (1, 18), (1, 19), (1, 26), (6, 0), (6, 1), (6, 2), (6, 3), (6, 4), (6, 5), (6, 6), (6, 7), (6, 8), (6, 9), (6, 10), (6, 11), (6, 16), (6, 17), (6, 18), (6, 19), (1, 12), (10, 12), (1, 13), (10, 13), (1, 14), (10, 14), (1, 15), (10, 15), (1, 20), (10, 20), (1, 21), (10, 21)]
def jzk (k : Nat) : Term := .static "CrossBar$Kind" (jkn k) "LCrossBar$Kind;"
def jzo (k : Nat) : String := bif Nat.beq k 38 then "CrossBarModel" else "CrossBar$Kind"
def jzs (k : Nat) : Term := .string (jzo k) (jzx k)
def jzb (k : Nat) : Term := .field (jzs k) "java/lang/String" "value" "[B"
abbrev jtSW : Term := .static "CrossBar$1" "$SwitchMap$CrossBar$Kind" "[I"
abbrev jtKI : Term := .static "CrossBar" "KINDS" "[LCrossBar$Kind;"
abbrev jtWO : Term := .static "CrossBarModel" "WORDS" "[Ljava/lang/String;"
abbrev jtSI : Term := .static "jdk/internal/util/Preconditions" "SIOOBE_FORMATTER" "Ljava/util/function/BiFunction;"
abbrev jtCO : Term := .static "java/lang/String" "COMPACT_STRINGS" "Z"
def jpc (q : Nat × Nat) : List Jvm.Cond := match q.1 with
  | 0 => [.exactly (jzk q.2) "CrossBar$Kind", .eq (.field (jzk q.2) "java/lang/Enum" "ordinal" "I") (.int (Int32.ofNat q.2)), .eq (.field (jzk q.2) "CrossBar$Kind" "text" "Ljava/lang/String;") (jzs (jktx q.2 / 64))]
  | 1 => [.exactly (jzs q.2) "java/lang/String", .eq (.field (jzs q.2) "java/lang/String" "coder" "B") (.int 0), .arrayOf (jzb q.2) .byte, .eq (.length (jzb q.2)) (.int (Int32.ofNat (jstr q.2).length))] ++ (List.range (jstr q.2).length).map fun j => .eq (.elem (jzb q.2) (.int (Int32.ofNat j))) (.int ((jstr q.2).getD j 0))
  | 2 => [.eq jtCO (.int 1), .isRef jtSI]
  | 3 => [.arrayOf jtKI (.object "CrossBar$Kind"), .eq (.length jtKI) (.int (Int32.ofNat 42))] ++ (List.range 42).map fun j => .eq (.elem jtKI (.int (Int32.ofNat j))) (jzk j)
  | 4 => [.arrayOf jtSW .int, .eq (.length jtSW) (.int (Int32.ofNat 42))] ++ (List.range 42).map fun j => .eq (.elem jtSW (.int (Int32.ofNat j))) (.int (jswm j))
  | 5 => [.arrayOf jtWO (.object "java/lang/String"), .eq (.length jtWO) (.int (Int32.ofNat 22))] ++ (List.range 22).map fun j => .eq (.elem jtWO (.int (Int32.ofNat j))) (.string "CrossBarModel" (jzw j))
  | 6 => [.eq (jzs (jwrd q.2 / 64)) (.string "CrossBarModel" (jzw q.2))]
  | 7 => [.not (.castable (jexn (q.2 / 3)) (jexn (q.2 % 3)))]
  | 8 => [.isRef (.static Bundle.tN "UNASSIGNED_STACK" Bundle.steD)]
  | 9 => [.isRef (.static Bundle.tN "SUPPRESSED_SENTINEL" Bundle.listD)]
  | 10 => [.eq (.string "CrossBarModel" (jzw q.2)) (jzs (jwrd q.2 / 64))]
  | _ => []
/-- one list in the order of another, with gaps -/
def jsub : List Jvm.Cond → List Jvm.Cond → Bool
  | [], _ => true
  | _ :: _, [] => false
  | n :: ns, f :: fs => bif decide (n = f) then jsub ns fs else jsub (n :: ns) fs
theorem jsub_mem : ∀ (F N : List Jvm.Cond), jsub N F = true → ∀ w ∈ N, w ∈ F
  | _, [], _, w, hw => by cases hw
  | [], _ :: _, h, _, _ => by cases h
  | f :: fs, n :: ns, h, w, hw => by
    unfold jsub at h
    cases hd : decide (n = f) with
    | true =>
      rw [hd] at h
      simp only [cond_true] at h
      rcases List.mem_cons.mp hw with rfl | hw
      · rw [of_decide_eq_true hd]; exact List.mem_cons_self
      · exact List.mem_cons_of_mem _ (jsub_mem fs ns h w hw)
    | false =>
      rw [hd] at h
      simp only [cond_false] at h
      exact List.mem_cons_of_mem _ (jsub_mem fs (n :: ns) h w hw)
set_option maxRecDepth 100000 in
theorem jpre_sub : jsub (jtags.flatMap jpc) (flatC (Jvm.Cond.and given_1 narrow_1)) = true := by decide +kernel
theorem jtag_all : (List.range 42).all (fun k => decide ((0, k) ∈ jtags)) = true ∧ (List.range 39).all (fun k => decide ((1, k) ∈ jtags)) = true ∧ ([(2, 0), (3, 0), (4, 0), (5, 0), (8, 0), (9, 0)].all fun q => decide (q ∈ jtags)) = true ∧ (List.range 22).all (fun j => decide ((6, j) ∈ jtags) || decide ((10, j) ∈ jtags)) = true ∧ (List.range 9).all (fun q => Nat.beq (q / 3) (q % 3) || decide ((7, q) ∈ jtags)) = true := by decide +kernel
