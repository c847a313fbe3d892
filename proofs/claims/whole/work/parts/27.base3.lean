/-! branches in numbers -/
def bI (b : Bool) : Int32 := if b then nI 1 else nI 0
theorem bI_nar (b : Bool) : narrow .boolean (.int (bI b)) = .int (bI b) := by cases b <;> rfl
theorem bI_0 (b : Bool) : bI b = 0 ↔ b = false := by cases b <;> decide
theorem bI_d (p : Prop) [Decidable p] (h : p) : nI 1 = bI (decide p) := by rw [decide_eq_true h]; rfl
theorem bI_n (p : Prop) [Decidable p] (h : ¬ p) : nI 0 = bI (decide p) := by rw [decide_eq_false h]; rfl
section GROWS3
variable {l : Launch} {E : gE} {y : MethodName} {cc : ByteArray} {nL : Nat} {ret : Option FieldType} {tb : List ExceptionTableEntry} {d : Nat} {Q : Outcome → Nat → gM → Prop} {mc ms : Nat} {Γ : gT} {pc : Nat} {L : List (Option Value)} {st : List Value} {N : Nat} {M : gM} {k n : Nat}
theorem g_icmpN_eq {a b : Nat} {off : Int} {tgt : Nat} (dg : decode cc pc = .ok (.if_icmp .eq off, 3)) (ht : (pc : Int) + off = (tgt : Int)) (ha : a < 2 ^ 31) (hb : b < 2 ^ 31) (kt : a = b → G l E y cc nL ret tb d Q mc ms Γ tgt L st N M k n) (kf : a ≠ b → G l E y cc nL ret tb d Q mc ms Γ (pc + 3) L st N M k n) : G l E y cc nL ret tb d Q mc ms Γ pc L (.int (nI b) :: .int (nI a) :: st) N M k n :=
  g_icmp_eq dg ht (fun h => kt ((nI_eq ha hb).mp h)) (fun h => kf (fun q => h ((nI_eq ha hb).mpr q)))
theorem g_icmpN_ne {a b : Nat} {off : Int} {tgt : Nat} (dg : decode cc pc = .ok (.if_icmp .ne off, 3)) (ht : (pc : Int) + off = (tgt : Int)) (ha : a < 2 ^ 31) (hb : b < 2 ^ 31) (kt : a ≠ b → G l E y cc nL ret tb d Q mc ms Γ tgt L st N M k n) (kf : a = b → G l E y cc nL ret tb d Q mc ms Γ (pc + 3) L st N M k n) : G l E y cc nL ret tb d Q mc ms Γ pc L (.int (nI b) :: .int (nI a) :: st) N M k n :=
  g_icmp_ne dg ht (fun h => kt (fun q => h ((nI_eq ha hb).mpr q))) (fun h => kf ((nI_eq ha hb).mp h))
theorem g_icmpN_lt {a b : Nat} {off : Int} {tgt : Nat} (dg : decode cc pc = .ok (.if_icmp .lt off, 3)) (ht : (pc : Int) + off = (tgt : Int)) (ha : a < 2 ^ 31) (hb : b < 2 ^ 31) (kt : a < b → G l E y cc nL ret tb d Q mc ms Γ tgt L st N M k n) (kf : b ≤ a → G l E y cc nL ret tb d Q mc ms Γ (pc + 3) L st N M k n) : G l E y cc nL ret tb d Q mc ms Γ pc L (.int (nI b) :: .int (nI a) :: st) N M k n :=
  g_icmp_lt dg ht (fun h => kt ((nI_ltI ha hb).mp h)) (fun h => kf (Nat.le_of_not_lt (fun q => h ((nI_ltI ha hb).mpr q))))
theorem g_icmpN_ge {a b : Nat} {off : Int} {tgt : Nat} (dg : decode cc pc = .ok (.if_icmp .ge off, 3)) (ht : (pc : Int) + off = (tgt : Int)) (ha : a < 2 ^ 31) (hb : b < 2 ^ 31) (kt : b ≤ a → G l E y cc nL ret tb d Q mc ms Γ tgt L st N M k n) (kf : a < b → G l E y cc nL ret tb d Q mc ms Γ (pc + 3) L st N M k n) : G l E y cc nL ret tb d Q mc ms Γ pc L (.int (nI b) :: .int (nI a) :: st) N M k n :=
  g_icmp_ge dg ht (fun h => kt ((nI_leI hb ha).mp h)) (fun h => kf (Nat.lt_of_not_le (fun q => h ((nI_leI hb ha).mpr q))))
theorem g_icmpN_gt {a b : Nat} {off : Int} {tgt : Nat} (dg : decode cc pc = .ok (.if_icmp .gt off, 3)) (ht : (pc : Int) + off = (tgt : Int)) (ha : a < 2 ^ 31) (hb : b < 2 ^ 31) (kt : b < a → G l E y cc nL ret tb d Q mc ms Γ tgt L st N M k n) (kf : a ≤ b → G l E y cc nL ret tb d Q mc ms Γ (pc + 3) L st N M k n) : G l E y cc nL ret tb d Q mc ms Γ pc L (.int (nI b) :: .int (nI a) :: st) N M k n :=
  g_icmp_gt dg ht (fun h => kt ((nI_ltI hb ha).mp h)) (fun h => kf (Nat.le_of_not_lt (fun q => h ((nI_ltI hb ha).mpr q))))
theorem g_icmpN_le {a b : Nat} {off : Int} {tgt : Nat} (dg : decode cc pc = .ok (.if_icmp .le off, 3)) (ht : (pc : Int) + off = (tgt : Int)) (ha : a < 2 ^ 31) (hb : b < 2 ^ 31) (kt : a ≤ b → G l E y cc nL ret tb d Q mc ms Γ tgt L st N M k n) (kf : b < a → G l E y cc nL ret tb d Q mc ms Γ (pc + 3) L st N M k n) : G l E y cc nL ret tb d Q mc ms Γ pc L (.int (nI b) :: .int (nI a) :: st) N M k n :=
  g_icmp_le dg ht (fun h => kt ((nI_leI ha hb).mp h)) (fun h => kf (Nat.lt_of_not_le (fun q => h ((nI_leI ha hb).mpr q))))
theorem g_ifN_eq {a : Nat} {off : Int} {tgt : Nat} (dg : decode cc pc = .ok (.ifCond .eq off, 3)) (ht : (pc : Int) + off = (tgt : Int)) (ha : a < 2 ^ 31) (kt : a = 0 → G l E y cc nL ret tb d Q mc ms Γ tgt L st N M k n) (kf : a ≠ 0 → G l E y cc nL ret tb d Q mc ms Γ (pc + 3) L st N M k n) : G l E y cc nL ret tb d Q mc ms Γ pc L (.int (nI a) :: st) N M k n :=
  g_if_eq dg ht (fun h => kt ((nI_eq ha (show (0 : Nat) < 2 ^ 31 by omega)).mp h)) (fun h => kf (fun q => h ((nI_eq ha (show (0 : Nat) < 2 ^ 31 by omega)).mpr q)))
theorem g_ifN_ne {a : Nat} {off : Int} {tgt : Nat} (dg : decode cc pc = .ok (.ifCond .ne off, 3)) (ht : (pc : Int) + off = (tgt : Int)) (ha : a < 2 ^ 31) (kt : a ≠ 0 → G l E y cc nL ret tb d Q mc ms Γ tgt L st N M k n) (kf : a = 0 → G l E y cc nL ret tb d Q mc ms Γ (pc + 3) L st N M k n) : G l E y cc nL ret tb d Q mc ms Γ pc L (.int (nI a) :: st) N M k n :=
  g_if_ne dg ht (fun h => kt (fun q => h ((nI_eq ha (show (0 : Nat) < 2 ^ 31 by omega)).mpr q))) (fun h => kf ((nI_eq ha (show (0 : Nat) < 2 ^ 31 by omega)).mp h))
theorem g_ifN_lt {a : Nat} {off : Int} {tgt : Nat} (dg : decode cc pc = .ok (.ifCond .lt off, 3)) (ht : (pc : Int) + off = (tgt : Int)) (ha : a < 2 ^ 31) (kt : False → G l E y cc nL ret tb d Q mc ms Γ tgt L st N M k n) (kf : True → G l E y cc nL ret tb d Q mc ms Γ (pc + 3) L st N M k n) : G l E y cc nL ret tb d Q mc ms Γ pc L (.int (nI a) :: st) N M k n :=
  g_if_lt dg ht (fun h => kt (nI_pos ha h)) (fun h => kf (trivial))
theorem g_ifN_ge {a : Nat} {off : Int} {tgt : Nat} (dg : decode cc pc = .ok (.ifCond .ge off, 3)) (ht : (pc : Int) + off = (tgt : Int)) (ha : a < 2 ^ 31) (kt : True → G l E y cc nL ret tb d Q mc ms Γ tgt L st N M k n) (kf : False → G l E y cc nL ret tb d Q mc ms Γ (pc + 3) L st N M k n) : G l E y cc nL ret tb d Q mc ms Γ pc L (.int (nI a) :: st) N M k n :=
  g_if_ge dg ht (fun h => kt (trivial)) (fun h => kf (h (nI_pos' ha)))
theorem g_ifN_gt {a : Nat} {off : Int} {tgt : Nat} (dg : decode cc pc = .ok (.ifCond .gt off, 3)) (ht : (pc : Int) + off = (tgt : Int)) (ha : a < 2 ^ 31) (kt : 0 < a → G l E y cc nL ret tb d Q mc ms Γ tgt L st N M k n) (kf : a = 0 → G l E y cc nL ret tb d Q mc ms Γ (pc + 3) L st N M k n) : G l E y cc nL ret tb d Q mc ms Γ pc L (.int (nI a) :: st) N M k n :=
  g_if_gt dg ht (fun h => kt ((nI_ltI (show (0 : Nat) < 2 ^ 31 by omega) ha).mp h)) (fun h => kf (Nat.eq_zero_of_not_pos (fun q => h ((nI_ltI (show (0 : Nat) < 2 ^ 31 by omega) ha).mpr q))))
theorem g_ifN_le {a : Nat} {off : Int} {tgt : Nat} (dg : decode cc pc = .ok (.ifCond .le off, 3)) (ht : (pc : Int) + off = (tgt : Int)) (ha : a < 2 ^ 31) (kt : a = 0 → G l E y cc nL ret tb d Q mc ms Γ tgt L st N M k n) (kf : 0 < a → G l E y cc nL ret tb d Q mc ms Γ (pc + 3) L st N M k n) : G l E y cc nL ret tb d Q mc ms Γ pc L (.int (nI a) :: st) N M k n :=
  g_if_le dg ht (fun h => kt (Nat.le_zero.mp ((nI_leI ha (show (0 : Nat) < 2 ^ 31 by omega)).mp h))) (fun h => kf (Nat.lt_of_not_le (fun q => h ((nI_leI ha (show (0 : Nat) < 2 ^ 31 by omega)).mpr q))))
theorem g_ifB_eq {b : Bool} {off : Int} {tgt : Nat} (dg : decode cc pc = .ok (.ifCond .eq off, 3)) (ht : (pc : Int) + off = (tgt : Int)) (kt : b = false → G l E y cc nL ret tb d Q mc ms Γ tgt L st N M k n) (kf : b = true → G l E y cc nL ret tb d Q mc ms Γ (pc + 3) L st N M k n) : G l E y cc nL ret tb d Q mc ms Γ pc L (.int (bI b) :: st) N M k n :=
  g_if_eq dg ht (fun h => kt ((bI_0 b).mp h)) (fun h => kf (by cases b with | false => exact absurd rfl h | true => rfl))
theorem g_ifB_ne {b : Bool} {off : Int} {tgt : Nat} (dg : decode cc pc = .ok (.ifCond .ne off, 3)) (ht : (pc : Int) + off = (tgt : Int)) (kt : b = true → G l E y cc nL ret tb d Q mc ms Γ tgt L st N M k n) (kf : b = false → G l E y cc nL ret tb d Q mc ms Γ (pc + 3) L st N M k n) : G l E y cc nL ret tb d Q mc ms Γ pc L (.int (bI b) :: st) N M k n :=
  g_if_ne dg ht (fun h => kt (by cases b with | false => exact absurd rfl h | true => rfl)) (fun h => kf ((bI_0 b).mp h))
theorem g_eqB {b b2 : Bool} (h : b = b2) (kk : G l E y cc nL ret tb d Q mc ms Γ pc L (.int (bI b2) :: st) N M k n) : G l E y cc nL ret tb d Q mc ms Γ pc L (.int (bI b) :: st) N M k n := h ▸ kk
theorem g_Tr {b : Bool} (h : b = true) (kk : G l E y cc nL ret tb d Q mc ms Γ pc L (.int (bI b) :: st) N M k n) : G l E y cc nL ret tb d Q mc ms Γ pc L (.int (nI 1) :: st) N M k n := by
  subst h
  exact kk
theorem g_Fa {b : Bool} (h : b = false) (kk : G l E y cc nL ret tb d Q mc ms Γ pc L (.int (bI b) :: st) N M k n) : G l E y cc nL ret tb d Q mc ms Γ pc L (.int (nI 0) :: st) N M k n := by
  subst h
  exact kk
theorem g_iinc1 {i a : Nat} (dg : decode cc pc = .ok (.iinc i 1, 3)) (hL : L[i]? = some (some (.int (nI a)))) (hi : i < nL) (kk : G l E y cc nL ret tb d Q mc ms Γ (pc + 3) (L.set i (some (.int (nI (a + 1))))) st N M k n) : G l E y cc nL ret tb d Q mc ms Γ pc L st N M k n :=
  g_iinc dg hL (v := nI (a + 1)) (nI_succ a).symm hi kk
theorem g_iincm {i a : Nat} (dg : decode cc pc = .ok (.iinc i (-1), 3)) (hL : L[i]? = some (some (.int (nI (a + 1))))) (hi : i < nL) (kk : G l E y cc nL ret tb d Q mc ms Γ (pc + 3) (L.set i (some (.int (nI a)))) st N M k n) : G l E y cc nL ret tb d Q mc ms Γ pc L st N M k n :=
  g_iinc dg hL (v := nI a) (pk_m1 a) hi kk
/-- a new heap by what it holds -/
theorem g_nm {a : Nat} {x : va_E} (kk : ∀ M' : gM, M' a = some x → (∀ q, q ≠ a → M' q = M q) → G l E y cc nL ret tb d Q mc ms Γ pc L st N M' k n) : G l E y cc nL ret tb d Q mc ms Γ pc L st N (va_up M a (some x)) k n :=
  kk _ (va_up_self _ _ _) (fun q h => va_up_ne _ _ h)
end GROWS3
