/-! rows of rows, made at once -/
theorem outer_arr (c : ClassId) (N h0 : Nat) : ∀ i, Jvm.Free.Multi.outerC c N h0 i = arrV c N (fun j => va_rf (if j < i then some (h0 + 1 + j) else none)) := by
  intro i
  induction i with
  | zero =>
    show ({ cls := c, slots := Array.replicate N .null, vm := .none } : Cell) = _
    rw [arrV_new]
    congr 1
  | succ i ih =>
    show (Jvm.Free.Multi.outerC c N h0 i).setSlot i (.ref (h0 + 1 + i)) = _
    rw [ih, arrV_store]
    congr 1
    funext j
    unfold updV
    by_cases e : j = i
    · rw [if_pos e, if_pos (by omega), e]
      rfl
    · rw [if_neg e]
      show va_rf (if j < i then some (h0 + 1 + j) else none) = _
      by_cases e2 : j < i
      · rw [if_pos e2, if_pos (by omega)]
      · rw [if_neg e2, if_neg (by omega)]
/-- the heap behind nn rows of mm whole numbers -/
def g_mm (E : gE) (N nn mm : Nat) (M : gM) : gM := fun q => if q = N then some (g_qa E 7 nn (fun j => if j < nn then some (N + 1 + j) else none)) else if N < q ∧ q ≤ N + nn then some (g_ia E mm (fun _ => 0)) else M q
section GMULT
variable {l : Launch} {E : gE} {y : MethodName} {cc : ByteArray} {nL : Nat} {ret : Option FieldType} {tb : List ExceptionTableEntry} {d : Nat} {Q : Outcome → Nat → gM → Prop} {mc ms : Nat} {Γ : gT} {pc : Nat} {L : List (Option Value)} {st : List Value} {N : Nat} {M : gM} {k n : Nat}
theorem g_mult {index : Nat} (nn mm : Nat) (hw1 : Cond.classLink y.cls index "[[I" ∈ g_WS) (hw3 : Cond.arrayClass .int ∈ g_WS) (hn : nn < 60000) (hm : mm < 60000) (hk : k + (1 + nn) ≤ mc) (hs : n + (nn + nn * mm) ≤ ms) (dg : decode cc pc = .ok (.multianewarray index 2, 4))
    (kk : G l E y cc nL ret tb d Q mc ms Γ (pc + 4) L (.ref N :: st) (N + (1 + nn)) (g_mm E N nn mm M) (k + 1 + nn) (n + nn + nn * mm)) : G l E y cc nL ret tb d Q mc ms Γ pc L (.int (nI mm) :: .int (nI nn) :: st) N M k n := by
  intro hc H locs ls hl hr hq T hT X
  have hs1 := hr.1
  subst hT
  subst hs1
  have n31 : nn < 2 ^ 31 := by omega
  have m31 : mm < 2 ^ 31 := by omega
  have cn := nI_clamp n31
  have cm := nI_clamp m31
  obtain ⟨vm₁, cA, comp, hW, hfA, hfC, X', stp⟩ := X.multianewarray2 hc.x hc.o (ty := .int) (hc.t _ hw1) hc.K.2.2.2.2.2.2.2.2.2 (hc.t _ hw3) (g := F0 (g_m Γ) pc ls (.int (nI mm) :: .int (nI nn) :: st)) rfl (by rw [hc.b]; exact dg) rfl (nI_pos n31) (nI_pos m31) (by rw [cn]; omega) (by rw [cm]; show mm * 4 ≤ _; omega) (by rw [cm]; omega) rfl rfl (by rw [cn, hc.R]; exact hk) (by rw [cn, cm, hc.R]; exact hs)
  have hA : cA = E.2.1 7 := Option.some.inj (hfA.symm.trans (hc.K.1.2 7 _ rfl).2)
  have hC : comp = E.2.1 0 := Option.some.inj (hfC.symm.trans (hc.K.1.2 0 _ rfl).2)
  subst hA
  subst hC
  rw [cn, cm] at X' stp
  have F1 := Jvm.Free.Multi.fill_facts (T.setVm vm₁) (E.2.1 7) (E.2.1 0) nn mm (defaultValue .int) nn
  have F2 : ∀ a, a < T.heap.size → _ := fun a ha => Jvm.Free.Multi.fill_old (T.setVm vm₁) (E.2.1 7) (E.2.1 0) nn mm (defaultValue .int) (a := a) ha nn
  have F3 := Jvm.Free.Multi.fill_inner (T.setVm vm₁) (E.2.1 7) (E.2.1 0) nn mm (defaultValue .int) nn
  have hrep : g_rep E (T.heap.size + (1 + nn)) (g_mm E T.heap.size nn mm M) (Jvm.Free.Multi.fill (T.setVm vm₁) (E.2.1 7) (E.2.1 0) nn mm (defaultValue .int) nn).heap := by
    refine ⟨by rw [F1.1]; show T.heap.size + 1 + nn = _; omega, Nat.le_trans hr.2.1 (by omega), fun q hq2 => ?_, fun a x hx => ?_⟩
    · rw [F2 q (Nat.lt_of_lt_of_le hq2 hr.2.1)]
      exact hr.2.2.1 q hq2
    · unfold g_mm at hx
      by_cases e1 : a = T.heap.size
      · rw [if_pos e1] at hx
        cases hx
        subst e1
        refine ⟨?_, hr.2.1⟩
        show _ = some (vp_cell _ _)
        rw [vp_cell_q, ← outer_arr]
        exact F1.2.1
      · rw [if_neg e1] at hx
        by_cases e2 : T.heap.size < a ∧ a ≤ T.heap.size + nn
        · rw [if_pos e2] at hx
          cases hx
          refine ⟨?_, Nat.le_trans hr.2.1 (by omega)⟩
          obtain ⟨j, rfl⟩ : ∃ j, a = T.heap.size + 1 + j := ⟨a - T.heap.size - 1, by omega⟩
          show _ = some (vp_cell _ _)
          refine (F3 j (by omega)).trans ?_
          exact congrArg some (arrV_new (E.2.1 0) mm (.int 0))
        · rw [if_neg e2] at hx
          exact ⟨(hr.at hx).kept (F2 a (hr.lt hx)), hr.ge hx⟩
  obtain ⟨t, a1, b1⟩ := kk hc _ _ ls hl hrep (fun q hq2 => by
    rcases List.mem_append.mp hq2 with h | h
    · exact hq q h
    · obtain ⟨j, -, rfl⟩ := List.mem_map.mp h
      exact hr.2.1) _ rfl X'
  exact ⟨t, stp t a1, b1⟩
end GMULT

