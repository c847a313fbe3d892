/-! a walk begun anew at the state where it stands -/
section REBASE
variable {p : Program} {l : Launch} {e : Env} {R : Room} {s : State} {m : MethodId} {args : Array Value} {below : List Frame} {meth : Method} {c : Code} {T : State} {locs : List Loc} {cells slots : Nat}
theorem rb (X : Stand p l e R s m args below meth c T locs cells slots) (hc : cells ≤ R.cells) (hs : slots ≤ R.slots) : Stand p l e { R with cells := R.cells - cells, slots := R.slots - slots } (T.setFrames s.frames) m args below meth c T [] 0 0 := by
  obtain ⟨g₀, hfr⟩ := X.frames_eq
  have hcur : T.cur < T.threads.size := State.cur_lt_of_frames hfr
  have hF : (T.setFrames s.frames).frames = s.frames := State.frames_setFrames _ hcur
  have hmeth : T.vm.method? m = some meth := X.method'
  have hal := X.warmed.alike
  have hloc : (T.setFrames s.frames).localsInUse = s.localsInUse := by
    rw [State.localsInUse_invoking X.frames X.method X.code, State.localsInUse_invoking (hF.trans X.frames) (show (T.setFrames s.frames).vm.method? m = some meth from hmeth) X.code]
  obtain ⟨t, ht, htf⟩ := State.frames_cons hfr
  have hroom := X.room
  have hheap := X.heapSize
  have hused := X.used
  have hbook := X.book
  refine { admits := X.admits, cas := X.cas, clock := X.clock, frames := hF.trans X.frames, room := ?_, hears := ?_, method := hmeth, code := X.code, here := X.here, tail := X.tail, warmed := State.WarmedH.refl (T.setFrames s.frames), limits := (State.stackLimits_setFrames _ _ _).symm, bytes := (State.stackBytes_setFrames _ _).symm, same := ?_ }
  · simp only [State.hasRoom, Bool.and_eq_true, decide_eq_true_eq] at hroom ⊢
    rw [hloc, hF, State.stackLimits_setFrames, State.stackBytes_setFrames, X.limits, X.bytes]
    obtain ⟨⟨⟨⟨h1, h2⟩, h3⟩, h4⟩, h5⟩ := hroom
    refine ⟨⟨⟨⟨h1, h2⟩, ?_⟩, ?_⟩, hbook⟩
    · show T.heap.size + (R.cells - cells) ≤ _
      omega
    · show T.slotsUsed + (R.slots - slots) ≤ _
      omega
  · have h9 := X.hears
    have hc9 : ∀ q, (T.setFrames s.frames).code? q = s.code? q := fun q => by
      rw [State.code?_eq, State.code?_eq]
      show (T.vm.method? q).bind _ = _
      rw [hal.method?]
    have hm9 : (T.setFrames s.frames).vm.method? m = s.vm.method? m := hmeth.trans X.method.symm
    unfold State.hears at h9 ⊢
    split
    · rename_i g r
      rw [hc9]
      exact h9
    · rfl
    · rfl
    · rename_i h1 h2 h3
      rw [hm9]
      split at h9
      · rename_i g r
        exact absurd rfl (h1 g r)
      · rename_i g r
        exact absurd rfl (h2 g r)
      · rename_i g r
        exact absurd rfl (h3 g r)
      · exact h9
  · obtain ⟨t1, ht1, -⟩ := State.frames_cons (hF.trans X.frames)
    have h2 := (State.sameButNew.refl (T.setFrames s.frames) ht1).setFrames T.frames (State.cur_lt_of_frames (hF.trans X.frames))
    rw [State.setFrames_setFrames, State.setFrames_self ht] at h2
    exact h2
end REBASE
/-! 'throw new X("..")' of the outer file -/
def xa (ic : Nat) (X : String) : List Cond := Jvm.Bundle.ownAtoms "RuleDiagram" ic X ["java/lang/RuntimeException", "java/lang/Exception"]
def xr1 : Cond := .isRef (.static "java/lang/Throwable" "UNASSIGNED_STACK" "[Ljava/lang/StackTraceElement;")
def xr2 : Cond := .isRef (.static "java/lang/Throwable" "SUPPRESSED_SENTINEL" "Ljava/util/List;")
def xr3 : Cond := .laysStatic "java/lang/Throwable" "UNASSIGNED_STACK" "[Ljava/lang/StackTraceElement;"
def xr4 : Cond := .laysStatic "java/lang/Throwable" "SUPPRESSED_SENTINEL" "Ljava/util/List;"
def xok (a : Cond) : Bool := (decide (a ∈ lw_tbl) && (goodWord a || g_nest a)) || decide (a = xr1) || decide (a = xr2) || decide (a = xr3) || decide (a = xr4)
theorem xa_Iae : (xa 65 "java/lang/IllegalArgumentException").all xok = true := by decide +kernel
theorem xa_Uoe : (xa 75 "java/lang/UnsupportedOperationException").all xok = true := by decide +kernel
theorem xa_Ioe : (xa 189 "java/lang/IndexOutOfBoundsException").all xok = true := by decide +kernel
section THROW
variable {l : Launch} {E : gE} {y : MethodName} {cc : ByteArray} {nL : Nat} {ret : Option FieldType} {d : Nat} {Q : Outcome → Nat → gM → Prop} {mc ms : Nat} {Γ : gT} {pc : Nat} {L : List (Option Value)} {st : List Value} {N : Nat} {M : gM} {k n : Nat}
/-- the atoms at a state whose tables are warmer and whose old cells stand -/
theorem xa_at {ic : Nat} {X : String} (hx : (xa ic X).all xok = true) (hc : g_cx l E y cc nL ret [] d mc ms Γ) {U : State} (hW : (g_s Γ).WarmedH U.vm) (ho : ∀ q : Nat, q < g_z E → U.heap[q]? = (g_h0 E)[q]?) (A : Array Value) : ∀ a ∈ xa ic X, a.before A U = true := by
  intro a ha
  have h1 := List.all_eq_true.mp hx a ha
  have hK := g_K.moved (U := U) hW hc.K
  simp only [xok, Bool.or_eq_true, Bool.and_eq_true, decide_eq_true_eq] at h1
  rcases h1 with (((⟨h1, h2⟩ | h1) | h1) | h1) | h1
  · rcases h2 with h2 | h2
    · have hm : a ∈ g_WS := List.mem_filter.mpr ⟨h1, h2⟩
      exact word_at hW (g_good a hm) (hc.t a hm)
    · have hm : a ∈ g_NW := List.mem_filter.mpr ⟨h1, h2⟩
      have h3 := hK.2.2.2.2.2.1 a hm
      exact va_tabs (by cases a <;> first | rfl | cases h2) rfl h3
  · rw [h1]; exact hK.2.2.2.2.2.2.2.1.1.ref ho A
  · rw [h1]; exact hK.2.2.2.2.2.2.2.1.2.ref ho A
  · rw [h1]; exact hK.2.2.2.2.2.2.2.1.1.lays ho A
  · rw [h1]; exact hK.2.2.2.2.2.2.2.1.2.lays ho A
end THROW

