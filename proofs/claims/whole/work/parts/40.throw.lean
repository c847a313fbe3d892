/-! a walk begun anew at the state where it stands -/
section REBASE
variable {p : Program} {l : Launch} {e : Env} {R : Room} {s : State} {m : MethodId} {args : Array Value} {below : List Frame} {meth : Method} {c : Code} {T : State} {locs : List Loc} {cells slots : Nat}
theorem rb (X : Stand p l e R s m args below meth c T locs cells slots) (hc : cells ≤ R.cells) (hs : slots ≤ R.slots) : Stand p l e { R with cells := R.cells - cells, slots := R.slots - slots } (T.setFrames s.frames) m args below meth c T [] 0 0 := by
  obtain ⟨g₀, hfr⟩ := X.frames_eq
  have hcur : T.cur < T.threads.size := State.cur_lt_of_frames hfr
  have hF : (T.setFrames s.frames).frames = s.frames := State.frames_setFrames _ hcur
  have hmeth : T.vm.method? m = some meth := X.method'
  have hal := X.warmed.alike
  have hloc : (T.setFrames s.frames).localsInUse = s.localsInUse := by
    rw [State.localsInUse_invoking X.frames X.method X.code, State.localsInUse_invoking (hF.trans X.frames) (show (T.setFrames s.frames).vm.method? m = some meth from hmeth) X.code]
  obtain ⟨t, ht, htf⟩ := State.frames_cons hfr
  have hroom := X.room
  have hheap := X.heapSize
  have hused := X.used
  have hbook := X.book
  refine { admits := X.admits, cas := X.cas, clock := X.clock, frames := hF.trans X.frames, room := ?_, hears := ?_, method := hmeth, code := X.code, here := X.here, tail := X.tail, warmed := State.WarmedH.refl (T.setFrames s.frames), limits := (State.stackLimits_setFrames _ _ _).symm, bytes := (State.stackBytes_setFrames _ _).symm, same := ?_ }
  · simp only [State.hasRoom, Bool.and_eq_true, decide_eq_true_eq] at hroom ⊢
    rw [hloc, hF, State.stackLimits_setFrames, State.stackBytes_setFrames, X.limits, X.bytes]
    obtain ⟨⟨⟨⟨h1, h2⟩, h3⟩, h4⟩, h5⟩ := hroom
    refine ⟨⟨⟨⟨h1, h2⟩, ?_⟩, ?_⟩, hbook⟩
    · show T.heap.size + (R.cells - cells) ≤ _
      omega
    · show T.slotsUsed + (R.slots - slots) ≤ _
      omega
  · have h9 := X.hears
    have hc9 : ∀ q, (T.setFrames s.frames).code? q = s.code? q := fun q => by
      rw [State.code?_eq, State.code?_eq]
      show (T.vm.method? q).bind _ = _
      rw [hal.method?]
    have hm9 : (T.setFrames s.frames).vm.method? m = s.vm.method? m := hmeth.trans X.method.symm
    unfold State.hears at h9 ⊢
    split
    · rename_i g r
      rw [hc9]
      exact h9
    · rfl
    · rfl
    · rename_i h1 h2 h3
      rw [hm9]
      split at h9
      · rename_i g r
        exact absurd rfl (h1 g r)
      · rename_i g r
        exact absurd rfl (h2 g r)
      · rename_i g r
        exact absurd rfl (h3 g r)
      · exact h9
  · obtain ⟨t1, ht1, -⟩ := State.frames_cons (hF.trans X.frames)
    have h2 := (State.sameButNew.refl (T.setFrames s.frames) ht1).setFrames T.frames (State.cur_lt_of_frames (hF.trans X.frames))
    rw [State.setFrames_setFrames, State.setFrames_self ht] at h2
    exact h2
end REBASE
/-! 'throw new X("..")' of the outer file -/
def xa (ic : Nat) (X : String) : List Cond := Jvm.Bundle.ownAtoms "RuleDiagram" ic X ["java/lang/RuntimeException", "java/lang/Exception"]
def xr1 : Cond := .isRef (.static "java/lang/Throwable" "UNASSIGNED_STACK" "[Ljava/lang/StackTraceElement;")
def xr2 : Cond := .isRef (.static "java/lang/Throwable" "SUPPRESSED_SENTINEL" "Ljava/util/List;")
def xr3 : Cond := .laysStatic "java/lang/Throwable" "UNASSIGNED_STACK" "[Ljava/lang/StackTraceElement;"
def xr4 : Cond := .laysStatic "java/lang/Throwable" "SUPPRESSED_SENTINEL" "Ljava/util/List;"
def xok (a : Cond) : Bool := (decide (a ∈ lw_tbl) && (goodWord a || g_nest a)) || decide (a = xr1) || decide (a = xr2) || decide (a = xr3) || decide (a = xr4)
theorem xa_Iae : (xa 65 "java/lang/IllegalArgumentException").all xok = true := by decide +kernel
theorem xa_Uoe : (xa 75 "java/lang/UnsupportedOperationException").all xok = true := by decide +kernel
theorem xa_Ioe : (xa 189 "java/lang/IndexOutOfBoundsException").all xok = true := by decide +kernel
section THROW
variable {l : Launch} {E : gE} {y : MethodName} {cc : ByteArray} {nL : Nat} {ret : Option FieldType} {d : Nat} {Q : Outcome → Nat → gM → Prop} {mc ms : Nat} {Γ : gT} {pc : Nat} {L : List (Option Value)} {st : List Value} {N : Nat} {M : gM} {k n : Nat}
/-- the atoms at a state whose tables are warmer and whose old cells stand -/
theorem xa_at {ic : Nat} {X : String} (hx : (xa ic X).all xok = true) (hc : g_cx l E y cc nL ret [] d mc ms Γ) {U : State} (hW : (g_s Γ).WarmedH U.vm) (ho : ∀ q : Nat, q < g_z E → U.heap[q]? = (g_h0 E)[q]?) (A : Array Value) : ∀ a ∈ xa ic X, a.before A U = true := by
  intro a ha
  have h1 := List.all_eq_true.mp hx a ha
  have hK := g_K.moved (U := U) hW hc.K
  simp only [xok, Bool.or_eq_true, Bool.and_eq_true, decide_eq_true_eq] at h1
  rcases h1 with (((⟨h1, h2⟩ | h1) | h1) | h1) | h1
  · rcases h2 with h2 | h2
    · have hm : a ∈ g_WS := List.mem_filter.mpr ⟨h1, h2⟩
      exact word_at hW (g_good a hm) (hc.t a hm)
    · have hm : a ∈ g_NW := List.mem_filter.mpr ⟨h1, h2⟩
      have h3 := hK.2.2.2.2.2.1 a hm
      exact va_tabs (by cases a <;> first | rfl | cases h2) rfl h3
  · rw [h1]; exact hK.2.2.2.2.2.2.2.1.1.ref ho A
  · rw [h1]; exact hK.2.2.2.2.2.2.2.1.2.ref ho A
  · rw [h1]; exact hK.2.2.2.2.2.2.2.1.1.lays ho A
  · rw [h1]; exact hK.2.2.2.2.2.2.2.1.2.lays ho A
theorem sb_eq {s t : State} {c0 n0 : Nat} (h : s.sameButNew t [] c0 n0) {a : Nat} {cell : Cell} (hc : s.heap[a]? = some cell) : t.heap[a]? = some cell := by
  obtain ⟨c', h1, h2, h3, h4⟩ := h.2.2.2.2.2 a cell hc
  have h5 : c'.slots = cell.slots := Array.ext_getElem? (fun i => h4 i (by simp))
  rw [h5] at h2
  rw [h1, h2]
theorem sb_fr {s t : State} {f : List Frame} {ls : List Loc} {c0 n0 : Nat} (h : (s.setFrames f).sameButNew t ls c0 n0) : s.sameButNew t ls c0 n0 := by
  obtain ⟨h1, h2⟩ := h
  rw [State.setFrames_setFrames] at h1
  exact ⟨h1, h2⟩
theorem g_throw {ix ld ic ci i : Nat} {X tx : String} {F : u_T} (hx : (xa ic X).all xok = true) (hy : y.cls = "RuleDiagram") (hci : classes[ci]? = some (X, F, 0)) (hfit : Jvm.Bundle.fit X = true) (hw1 : Cond.classLink y.cls ix X ∈ g_WS) (hw2 : Cond.instantiable X 6 ∈ g_WS) (hw3 : Cond.initialized X ∈ g_WS) (hs : g_str[i]? = some ("RuleDiagram", ld, tx)) (hd : 6 ≤ d) (hk : k + 1 ≤ mc) (hn : n + 6 ≤ ms) (hst : (st.map fun v => v.category).sum ≤ 8)
    (d1 : decode cc pc = .ok (.new ix, 3)) (d2 : decode cc (pc + 3) = .ok (.dup, 1)) (d3 : decode cc (pc + 3 + 1) = .ok (.ldc ld, 2)) (d4 : decode cc (pc + 3 + 1 + 2) = .ok (.invokespecial ic, 3)) (d5 : decode cc (pc + 3 + 1 + 2 + 3) = .ok (.athrow, 1))
    (hQ : Q (.threw N) (N + 1) (va_up M N (some (.inr (ci, []))))) : G l E y cc nL ret [] d Q mc ms Γ pc L st N M k n := by
  intro hc H locs ls hl hr hq T hT X0
  have hRe := hc.R
  have X' := rb X0 (by rw [hRe]; show k ≤ mc; omega) (by rw [hRe]; show n ≤ ms; omega)
  generalize hs' : T.setFrames (g_s Γ).frames = s' at X'
  have hvm : s'.vm = T.vm := by rw [← hs']; rfl
  have hheap : s'.heap = H := by rw [← hs']; exact hT
  have hWs : (g_s Γ).WarmedH s'.vm := by rw [hvm]; exact X0.warmed
  have hal := hWs.alike
  have hK := g_K.moved (U := s') hWs hc.K
  have ht : ∀ w ∈ g_WS, ∀ A, w.before A s' = true := fun w hw A => word_at hWs (g_good w hw) (hc.t w hw)
  have hown : s'.vm.findClass y.cls = some (g_m Γ).cls := by rw [hal.findClass]; exact hc.o
  have hold : ∀ q : Nat, q < g_z E → s'.heap[q]? = (g_h0 E)[q]? := fun q hq2 => by rw [hheap]; exact hr.2.2.1 q hq2
  have hat := xa_at hx hc hWs hold (g_a Γ)
  have hcl := (hK.1.1 ci _ hci).2
  have hstr := hK.2.2.2.1.2 i _ hs
  have htr : (g_e Γ).platform.stackTraces = false := Launch.traces_off hc.f (by have := X0.admits; rw [hc.l] at this; exact this)
  have KW : W (g_p Γ) (g_l Γ) (g_e Γ) { g_R Γ with cells := (g_R Γ).cells - k, slots := (g_R Γ).slots - n } s' (g_m Γ) (g_a Γ) (g_b Γ) (g_h Γ) (g_c Γ) H [] 0 0 (fun t => t.status = .running ∧ Ended t (g_b Γ) (.threw N) ∧ s'.WarmedH t.vm ∧ s'.sameButNew ({ t with vm := s'.vm } : State) [] 1 6 ∧ ∃ ce, t.heap[N]? = some ce ∧ s'.vm.findClass X = some ce.cls ∧ ce.vm = .none) (F0 (g_m Γ) pc ls st) := by
    refine W.newcK hc.x hc.b hown (ht _ hw1 _) (ht _ hw2 _) (ht _ hw3 _) rfl d1 (by rw [hRe]; show 0 + 1 ≤ mc - k; omega) (by rw [hRe]; show 0 + 6 ≤ ms - n; omega) hcl.1 hr.1 fun H1 kC hkC e1 z1 o1 => ?_
    refine lv_dup hc.x hc.b d2 rfl ?_
    refine va_ldcS hc.x hc.b hown (by rw [hy]; exact hstr) d3 ?_
    intro T2 hT2 X2
    obtain ⟨U, u1, u2, u3, u4, u5, ce, u6, u7⟩ := X2.ctorThrowS hc.x htr (own := y.cls) (cls := X) (names := ["java/lang/RuntimeException", "java/lang/Exception"]) (ic := ic) hown hfit (by decide) (by rw [hy]; exact hat) (fun x hx => by cases hx) hcl.1 hkC (a := N) (by rw [hT2]; exact e1) (by rw [hheap, hr.1]; exact Nat.le_refl _) (msg := .ref (g_ad E (2 + i))) rfl (g := F0 (g_m Γ) (pc + 3 + 1 + 2) ls (.ref (g_ad E (2 + i)) :: .ref N :: .ref N :: st)) rfl (hl.1.1.trans hc.ml.symm) rfl rfl (rest := st) rfl (by rw [hc.b]; exact d4) (by rw [hc.b]; exact d5) (by rw [hc.e]; exact fun x hx => by cases hx) (by rw [hRe]; show 2 + 3 < d; omega) (by
        rw [hRe]
        show 2 * 0 + (1 + (st.map fun v => v.category).sum) + (13 * (2 + 1) + 42) ≤ 100 * d
        omega) hc.lk
    exact ⟨U, u1, u2, u3, u4, u5, ce, u6, u7.cls, u7.vm⟩
  obtain ⟨U, u1, u2, u3, u4, u5, ce, u6, u7, u8⟩ := KW T hT X'
  have hsz : U.heap.size = N + 1 := by
    have a1 : U.heap.size ≤ s'.heap.size + 1 := u5.2.2.1
    have a2 := (Array.getElem?_eq_some_iff.mp u6).1
    rw [hheap, hr.1] at a1
    omega
  refine ⟨U, u1, .threw N, u2, u3, ⟨N + 1, _, hQ, hr.push hsz (fun q hq2 => ?_) ⟨_, hci, ce, u6, ?_, u8, fun j hj => absurd hj (Nat.not_lt_zero j)⟩⟩, ?_, locs ++ [], ?_, ?_⟩
  · have hlt : q < H.size := by rw [hr.1]; exact hq2
    rw [Array.getElem?_eq_getElem hlt]
    exact sb_eq u5 (by rw [hheap]; exact Array.getElem?_eq_getElem hlt)
  · exact Option.some.inj (u7.symm.trans hcl.1)
  · have h9 : T.WarmedH U.vm := by rw [← hs'] at u4; exact u4
    exact State.WarmedH.trans X0.warmed h9
  · have h9 : T.sameButNew (U.setVm T.vm) [] 1 6 := by
      rw [hvm] at u5
      rw [← hs'] at u5
      exact sb_fr u5
    exact (X0.same.trans (h9.setVm (g_s Γ).vm)).mono hk hn
  · intro q hq2
    rw [List.append_nil] at hq2
    exact hq q hq2
end THROW

