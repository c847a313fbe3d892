/-! static fields and rows, constants, calls of nest mates' static methods -/
section GROWS2
variable {l : Launch} {E : gE} {y : MethodName} {cc : ByteArray} {nL : Nat} {ret : Option FieldType} {tb : List ExceptionTableEntry} {d : Nat} {Q : Outcome → Nat → gM → Prop} {mc ms : Nat} {Γ : gT} {pc : Nat} {L : List (Option Value)} {st : List Value} {N : Nat} {M : gM} {k n : Nat}
theorem g_rep.old {E : gE} {N : Nat} {M : gM} {H : Heap} (hr : g_rep E N M H) {a : Nat} {x : Cell} (h : (g_h0 E)[a]? = some x) : H[a]? = some x := by
  rw [hr.2.2.1 a (Array.getElem?_eq_some_iff.mp h).1]
  exact h
theorem g_gets {index : Nat} {C nm ds : String} {v : Value} (hZ : ∀ U, g_K E U → va_Z C nm ds v (g_A E) U (g_h0 E)) (hl0 : Cond.fieldLink y.cls index C nm ds ∈ g_WS) (dg : decode cc pc = .ok (.getstatic index, 3)) (kk : G l E y cc nL ret tb d Q mc ms Γ (pc + 3) L (v :: st) N M k n) : G l E y cc nL ret tb d Q mc ms Γ pc L st N M k n := by
  intro hc H locs ls hl hr hq
  obtain ⟨cf, kf, fi, f, a, cell, h1, h2, h3, h4, h5, h6, h7, h8⟩ := hZ _ hc.K
  exact W.gets hc.x hc.b hc.o (hc.t _ hl0) h1 h2 h3 h4 (hr.old h5) (fun e => by rw [e] at h6; cases h6) h7 rfl dg (kk hc H locs ls hl hr hq)
theorem g_getsN {index : Nat} {C nm ds host : String} {v : Value} (hZ : ∀ U, g_K E U → va_Z C nm ds v (g_A E) U (g_h0 E)) (hl0 : Cond.fieldLinkNest y.cls index C nm ds host ∈ g_NW) (dg : decode cc pc = .ok (.getstatic index, 3)) (kk : G l E y cc nL ret tb d Q mc ms Γ (pc + 3) L (v :: st) N M k n) : G l E y cc nL ret tb d Q mc ms Γ pc L st N M k n := by
  intro hc H locs ls hl hr hq
  obtain ⟨cf, kf, fi, f, a, cell, h1, h2, h3, h4, h5, h6, h7, h8⟩ := hZ _ hc.K
  exact va_WgetsN hc.x hc.b hc.o (va_Nw.use rfl (hc.K.2.2.2.2.2.1 _ hl0)) h1 h2 h3 h4 (hr.old h5) (fun e => by rw [e] at h6; cases h6) h7 rfl dg (kk hc H locs ls hl hr hq)
/-- an element of a static row of ints -/
theorem g_tald {a nn : Nat} {f : Nat → Int32} {i : Int32} (j : Nat) (hT : ∀ U, g_K E U → va_T .int a nn (fun z => .int (f z)) (g_A E) U (g_h0 E)) (hi : i = nI j) (hj : j < nn) (hs : nn < 2 ^ 31) (dg : decode cc pc = .ok (.iaload, 1)) (kk : G l E y cc nL ret tb d Q mc ms Γ (pc + 1) L (.int (f j) :: st) N M k n) : G l E y cc nL ret tb d Q mc ms Γ pc L (.int i :: .ref a :: st) N M k n := by
  intro hc H locs ls hl hr hq
  subst hi
  obtain ⟨cell, h1, h2, h3, h4, h5, h6, h7⟩ := hT _ hc.K
  have hcl := nI_clamp (Nat.lt_trans hj hs)
  refine W.iald (v := .int (f j)) hc.x hc.b (hr.old h1) h2 h3 ?_ ?_ rfl rfl dg (kk hc H locs ls hl hr hq)
  · intro h
    rcases h with h | h
    · exact nI_pos (Nat.lt_trans hj hs) h
    · rw [hcl] at h
      omega
  · rw [hcl]
    exact h6 j hj
theorem g_ldc {index : Nat} {v : Int32} (hw : Cond.constant y.cls index v ∈ g_WS) (dg : decode cc pc = .ok (.ldc index, 2)) (kk : G l E y cc nL ret tb d Q mc ms Γ (pc + 2) L (.int v :: st) N M k n) : G l E y cc nL ret tb d Q mc ms Γ pc L st N M k n :=
  fun hc H locs ls hl hr hq => lv_ldc hc.x hc.b hc.o (hc.t _ hw) dg (kk hc H locs ls hl hr hq)
theorem g_ldcw {index : Nat} {v : Int32} (hw : Cond.constant y.cls index v ∈ g_WS) (dg : decode cc pc = .ok (.ldc_w index, 3)) (kk : G l E y cc nL ret tb d Q mc ms Γ (pc + 3) L (.int v :: st) N M k n) : G l E y cc nL ret tb d Q mc ms Γ pc L st N M k n :=
  fun hc H locs ls hl hr hq => lv_ldcw hc.x hc.b hc.o (hc.t _ hw) dg (kk hc H locs ls hl hr hq)
def g_SN (own : String) (index : Nat) (yy : MethodName) (host : String) (bytes : ByteArray) (maxL : Nat) (rt : Option FieldType) (np : Nat) : Prop :=
  Cond.methodLinkNest own index yy host ∈ g_NW ∧ Cond.initialized yy.cls ∈ g_WS ∧ Cond.code yy bytes maxL rt ∈ g_WS ∧ (yy.cls ≠ "java/lang/invoke/MethodHandle" ∧ yy.cls ≠ "java/lang/invoke/VarHandle") ∧ (parseMethodDescriptor yy.desc).map (fun z => z.parameters.length) = some np ∧ maxL ≤ 60
theorem g_callSN {yy : MethodName} {host : String} {bytes : ByteArray} {maxL np index dd mc' ms' : Nat} {rt : Option FieldType} {as rest stk : List Value} {P : Option Value → Nat → gM → Prop} (hS : g_SN y.cls index yy host bytes maxL rt np) (hS2 : Cond.static yy ∈ g_WS) (hC : Ctr l E yy dd as N M mc' ms' (g_ret P)) (hd : dd < d) (hnp : as.length = np) (hk : k + mc' ≤ mc) (hs : n + ms' ≤ ms) (hst : stk = as.reverse ++ rest) (hw : (rest.map fun v => v.category).sum ≤ 8) (dg : decode cc pc = .ok (.invokestatic index, 3))
    (kk : ∀ v N' M', P v N' M' → G l E y cc nL ret tb d Q mc ms Γ (pc + 3) L (v.toList ++ rest) N' M' (k + mc') (n + ms')) : G l E y cc nL ret tb d Q mc ms Γ pc L stk N M k n := by
  intro hc H locs ls hl hr hq
  subst hst
  obtain ⟨s1, s2, s3, s4, s5, s6⟩ := hS
  refine g_ofRun (rest := rest) hc hl hq (va_runSN (As := as) (host := host) (bytes := bytes) (maxL := maxL) (ret := rt) (n := np) ⟨hc.x, hc.b, hc.ml, hc.o, hc.t⟩ (hc.l ▸ g_met hC hc.f) ⟨⟨⟨rfl, rfl, ?_, ?_, pay_in hc.t g_goodT, s3⟩, hc.t _ s3, hc.t _ s2, s4, fun sig h => ?_, va_Nw.use rfl (hc.K.2.2.2.2.2.1 _ s1)⟩, hc.t _ hS2, trivial⟩ ⟨g_blind, fun U hU hW => ⟨rfl, by rw [hU]; exact hr, g_K.moved hW hc.K⟩⟩ rfl hnp hl.1.1 rfl (lv_room hw) dg ⟨by rw [hc.R]; exact hk, by rw [hc.R]; exact hs⟩) kk
  · rw [hc.R]; exact hd
  · rw [hc.R]; show 8 + (maxL + 11) + 100 * dd ≤ 100 * d; omega
  · rw [h] at s5; exact (Option.some.inj s5).symm
/-! the value forms of calls: nothing changes, nothing is made -/
theorem g_of_val {yy : MethodName} {dd : Nat} {as : List Value} {v : Option Value} (h : Ctr l E yy dd as N M 0 0 (g_val v N M)) : Ctr l E yy dd as N M 0 0 (g_ret (fun v' N' M' => v' = v ∧ N = N' ∧ M = M')) :=
  ctr_mono h (fun o N' M' h => ⟨v, h.1, rfl, h.2.1.symm, h.2.2.symm⟩)
/-- object's own constructor -/
theorem g_objInit {index a : Nat} (hw : Cond.methodLink y.cls index Lib.objectInit ∈ g_WS) (hw2 : Cond.instanceMethod Lib.objectInit ∈ g_WS) (hw3 : Cond.code Lib.objectInit ⟨#[0xb1]⟩ 1 none ∈ g_WS) (hd : 0 < d) (hst : (st.map fun v => v.category).sum ≤ 8) (dg : decode cc pc = .ok (.invokespecial index, 3)) (kk : G l E y cc nL ret tb d Q mc ms Γ (pc + 3) L st N M k n) : G l E y cc nL ret tb d Q mc ms Γ pc L (.ref a :: st) N M k n := by
  intro hc H locs ls hl hr hq
  refine W.objInit hc.x hc.b hc.o (hc.t _ hw) (hc.t _ hw2) (hc.t _ hw3) rfl (hl.1.1.trans hc.ml.symm) rfl dg (by rw [hc.R]; exact hd) ?_ (kk hc H locs ls hl hr hq)
  rw [hc.R]
  have h1 : 2 * (F0 (g_m Γ) pc ls (.ref a :: st)).monitorRoom + (st.map fun v => v.category).sum ≤ 8 := lv_room hst
  show 2 * (F0 (g_m Γ) pc ls (.ref a :: st)).monitorRoom + (st.map fun v => v.category).sum + 12 ≤ 100 * d
  omega
/-- counting up to e, from the end -/
theorem g_for {P : Nat → Prop} {e : Nat} (last : P e) (step : ∀ i, i < e → P (i + 1) → P i) : ∀ i, i ≤ e → P i := by
  intro i
  generalize hj : e - i = j
  induction j generalizing i with
  | zero =>
    intro hi
    have : i = e := by omega
    rw [this]
    exact last
  | succ j ih =>
    intro hi
    exact step i (by omega) (ih (i + 1) (by omega) (by omega))
end GROWS2
theorem m_objI : Cond.instanceMethod Lib.objectInit ∈ g_WS := w_32
theorem m_objC : Cond.code Lib.objectInit ⟨#[0xb1]⟩ 1 none ∈ g_WS := w_33
