/-! methods with handlers: a call whose throw is caught -/
def g_nc (a b : String) (U : State) : Prop := ∃ ca cb, U.vm.findClass a = some ca ∧ U.vm.findClass b = some cb ∧ U.vm.assignable ca cb = false
def g_X (U : State) : Prop := g_nc "java/lang/UnsupportedOperationException" "java/lang/IllegalArgumentException" U ∧ g_nc "java/lang/IllegalArgumentException" "java/lang/IndexOutOfBoundsException" U
theorem g_nc.moved {a b : String} {u U : State} (hW : u.WarmedH U.vm) (h : g_nc a b u) : g_nc a b U := by
  obtain ⟨ca, cb, h1, h2, h3⟩ := h
  exact ⟨ca, cb, by rw [hW.alike.findClass]; exact h1, by rw [hW.alike.findClass]; exact h2, by rw [hW.alike.assignable]; exact h3⟩
theorem g_X.moved {u U : State} (hW : u.WarmedH U.vm) (h : g_X u) : g_X U := ⟨h.1.moved hW, h.2.moved hW⟩
def CtrX (l : Launch) (E : gE) (y : MethodName) (d : Nat) (as : List Value) (N : Nat) (M : gM) (mc ms : Nat) (Q : Outcome → Nat → gM → Prop) : Prop :=
  l.flags = Jvm.pinnedFlags ++ [Jvm.noTraceFlag] → MetFree l y (headSpec g_WS (g_rm d mc ms)) (fun a U => a = as.toArray ∧ g_rep E N M U.heap ∧ g_K E U ∧ g_X U) (fun _ _ _ _ _ => True) (fun _ st o t => g_end E Q mc ms st o t)
theorem ctrX_of {l : Launch} {E : gE} {y : MethodName} {cc : ByteArray} {nL : Nat} {ret : Option FieldType} {hs : List (Nat × Nat × Nat × Nat)} {d : Nat} {as : List Value} (L : List (Option Value)) {N : Nat} {M : gM} {mc ms : Nat} {Q : Outcome → Nat → gM → Prop} (hy : plainName y.cls = true) (hw : Cond.codeWith y cc nL ret hs ∈ g_WS) (hL : g_prs L = lv_args 0 as) (hok : g_ok L = true) (hlen : (lg_sl as).length ≤ nL)
    (body : ∀ Γ, g_X (g_s Γ) → G l E y cc nL ret (tableOf hs) d Q mc ms Γ 0 L [] N M 0 0) : CtrX l E y d as N M mc ms Q := by
  intro hfl
  refine MetFree.of_bodyS (code := cc) (maxLocals := nL) (ret := ret) hy ?_ ?_
  · intro args s m h hn
    obtain ⟨m9, meth, c, hn9, h1, h2, h3, h4, -, h5, h6, -⟩ := Cond.codeWith_spec (atoms_spec (ws := g_WS) h _ hw)
    cases hn.symm.trans hn9
    exact ⟨meth, c, h1, h2, h3, h4, h5, h6⟩
  · intro p e s m args below meth c s₁ B hml hP _
    have hh0 : s₁.heap = s.heap := by rw [B.state]; rfl
    obtain ⟨rfl, hrep, hK, hX⟩ := hP
    have hts := atoms_spec (ws := g_WS) B.pre
    have X0 : Stand p l e _ s m as.toArray below meth c s₁ [] 0 0 := Stand.of_body B
    obtain ⟨m', meth', c', n', q1, q2, -, -, q5, -, -, -⟩ := Cond.codeWith_spec (hts _ hw)
    cases B.named.symm.trans n'
    cases X0.method.symm.trans q1
    cases X0.code.symm.trans q2
    have he2 : c.exceptionTable.toList = tableOf hs := by rw [← table_eq c.exceptionTable.toList, q5]
    have hin := (name_of_methodNamed B.named B.method).1
    have hent : g_loc ((lg_sl as ++ List.replicate (nL - (lg_sl as).length) Slot.unset).toArray) nL L := ⟨by rw [hL]; exact lv_entry as hlen, g_ok_of hok⟩
    obtain ⟨t, a1, o, b1, b2, b3⟩ := body (p, l, e, (headSpec g_WS (g_rm d mc ms)).room, s, m, as.toArray, below, meth, c) hX ⟨B.exec, B.bytes, hml, findClass_of_methodNamed B.named, hts, hK, B.notSynchronized, B.returns, hin, rfl, rfl, he2, hfl, hrep.2.2.1⟩ s.heap [] _ hent hrep (fun q h => by cases h) s₁ hh0 X0
    refine ⟨t, o, ?_, b1, b2, b3⟩
    rw [lg_entry_eq]
    exact a1
section CATCH
variable {l : Launch} {E : gE} {y : MethodName} {cc : ByteArray} {nL : Nat} {ret : Option FieldType} {tb : List ExceptionTableEntry} {d : Nat} {Q : Outcome → Nat → gM → Prop} {mc ms : Nat} {Γ : gT} {pc : Nat} {L : List (Option Value)} {st : List Value} {N : Nat} {M : gM} {k n : Nat}
theorem g_catchV {yy : MethodName} {bytes : ByteArray} {maxL np index dd mc' ms' a ci cX : Nat} {rt : Option FieldType} {as rest stk fs : List Value} {nm : String} {hp : Nat} (pre : List ExceptionTableEntry) (hx : ExceptionTableEntry) (rst : List ExceptionTableEntry) (hS : g_S y.cls index yy bytes maxL rt np) (hS2 : Cond.instanceMethod yy ∈ g_WS ∧ Cond.selects yy.cls yy yy ∈ g_WS) (hM : M a = some (.inr (ci, fs))) (hci : (classes[ci]?).map (fun q => q.1) = some yy.cls) (hC : Ctr l E yy dd (.ref a :: as) N M mc' ms' (t_thr cX N M)) (hd : dd < d) (hnp : as.length = np) (hk : k + mc' ≤ mc) (hs : n + ms' ≤ ms) (hst : stk = as.reverse ++ .ref a :: rest) (hw : (rest.map fun v => v.category).sum ≤ 8) (dg : decode cc pc = .ok (.invokevirtual index, 3))
    (htb : tb = pre ++ hx :: rst) (hhp : hx.handlerPc = hp) (hcov : covers hx pc = true) (h0 : hx.catchType ≠ 0) (hlink : Cond.classLink y.cls hx.catchType nm ∈ g_WS) (hcX : (classes[cX]?).map (fun q => q.1) = some nm) (hcast : Cond.castable nm nm ∈ g_NW)
    (hpass : ∀ z ∈ pre, z.catchType ≠ 0 ∧ ∃ n2, Cond.classLink y.cls z.catchType n2 ∈ g_WS ∧ g_nc nm n2 (g_s Γ))
    (kk : G l E y cc nL ret tb d Q mc ms Γ hp L [.ref N] (N + 1) (va_up M N (some (.inr (cX, [])))) (k + mc') (n + ms')) : G l E y cc nL ret tb d Q mc ms Γ pc L stk N M k n := by
  intro hc H locs ls hl hr hq T hT X
  subst hst
  subst hhp
  obtain ⟨s1, s2, s3, s4, s5, s6⟩ := hS
  obtain ⟨cellB, hcB, hoB, hclB⟩ := g_recv hc.K hr hM hci
  obtain ⟨mk, methM, hnamed, hmethM, hstM, habM⟩ := Cond.instanceMethod_spec (hc.t _ hS2.1)
  obtain ⟨methM', cM, hmethM', -, -, -, -, -, -, hsigM⟩ := Cond.code_spec hnamed (hc.t _ s3)
  cases hmethM.symm.trans hmethM'
  obtain ⟨c2, r2, m2, q1, q2, q3, q4, kP, hkP, hkPi⟩ := Cond.selects_spec (hc.t _ hS2.2)
  cases hclB.symm.trans q1
  cases (State.methodFound?_of_named hnamed s4).symm.trans q2
  cases hnamed.symm.trans q3
  have hselP : selectMethod (g_e Γ).platform (g_s Γ).vm cellB.cls mk = .method mk := by rw [Launch.admits_selectMethod X.admits]; exact q4
  obtain ⟨vm₁, X₁, hstep₁⟩ := X.invokevirtual hc.x hc.o (hc.t _ s1) hnamed hmethM hstM hkP hkPi s4 (a := a) (cell := cellB) (by rw [hT]; exact hcB)
    (fun z h => by rw [h] at hoB; cases hoB) hselP hmethM habM hkP hkPi (g := F0 (g_m Γ) pc ls (as.reverse ++ .ref a :: rest)) rfl (argsL := as) (rest := rest) (by rw [hsigM] at s5; rw [hnp]; exact (Option.some.inj s5).symm) rfl (by rw [hc.b]; exact dg)
  have hMF := hC hc.f
  rw [← hc.l] at hMF
  obtain ⟨b, T', L0, N', M', X', hL, hP, hrep, hst'⟩ := th_run (W0 := 8) (maxL := maxL) (bytes := bytes) (rt := rt) hMF X₁ (g := F0 (g_m Γ) pc ls rest) (mk := mk) (ig := .invokevirtual index) rfl (hl.1.1.trans hc.ml.symm) (by rw [hc.b]; exact dg) (lv_room hw) (X₁.named hnamed) (by rw [hc.R]; exact hd) (by rw [hc.R]; show 8 + (maxL + 11) + 100 * dd ≤ 100 * d; omega) (by rw [hc.R]; exact hk) (by rw [hc.R]; exact hs) (fun w hw A => word_at X₁.warmed (g_good w hw) (hc.t w hw)) s3 s2 (by show g_rep E N M T.heap; rw [hT]; exact hr) (g_K.moved X₁.warmed hc.K)
  obtain ⟨rfl, rfl, rfl⟩ := hP
  obtain ⟨cellX, x1, x2, x3⟩ := g_recv (C := nm) hc.K hrep (va_up_self _ _ _) hcX
  have hcst : (Cond.castable nm nm).before #[] (g_s Γ) = true := va_tabs rfl rfl (hc.K.2.2.2.2.2.1 _ hcast)
  obtain ⟨c3, cT, y1, y2, y3⟩ := Cond.castable_spec hcst
  cases x3.symm.trans y1
  have hlk := X'.catches_of_link (own := y.cls) (name := nm) hc.o (x := hx) h0 (hc.t _ hlink) y2 y3
  have hpl : (g_e Γ).platform.magicAccessors = ({} : Platform).magicAccessors := by rw [X'.admits.platform]
  obtain ⟨vm', XV, hsteps⟩ := X'.thenCaughtThrough b (g := F0 (g_m Γ) pc ls rest) rfl (hstep₁ _ fun acts => by rw [doInvoke_state]; exact hst') x1 x2 hlk.2 pre hx rst (by rw [hc.e]; exact htb) (fun z hz => by
    obtain ⟨p1, n2, p2, ca, cb, p3, p4, p5⟩ := hpass z hz
    obtain ⟨c', w1, w2⟩ := Cond.classLink_spec hc.o (hc.t _ p2) (g_e Γ).platform hpl
    cases p4.symm.trans w1
    cases x3.symm.trans p3
    exact Or.inr ⟨p1, cb, w2, p5⟩) hcov hlk.1
  obtain ⟨t, a1, b1⟩ := kk hc T'.heap (locs ++ L0) ls hl hrep (t_lL hq hL) (T'.setVm vm') rfl XV
  exact ⟨t, hsteps.trans a1, b1⟩
/-- a call of a static method with handlers -/
theorem g_callSX {yy : MethodName} {bytes : ByteArray} {maxL np index dd mc' ms' : Nat} {rt : Option FieldType} {hs : List (Nat × Nat × Nat × Nat)} {as rest stk : List Value} {P : Option Value → Nat → gM → Prop} (hX : g_X (g_s Γ)) (s1 : Cond.methodLink y.cls index yy ∈ g_WS) (s2 : Cond.initialized yy.cls ∈ g_WS) (s3 : Cond.codeWith yy bytes maxL rt hs ∈ g_WS) (s4 : yy.cls ≠ "java/lang/invoke/MethodHandle" ∧ yy.cls ≠ "java/lang/invoke/VarHandle") (s5 : (parseMethodDescriptor yy.desc).map (fun z => z.parameters.length) = some np) (s6 : maxL ≤ 60) (hS2 : Cond.static yy ∈ g_WS) (hC : CtrX l E yy dd as N M mc' ms' (g_ret P)) (hd : dd < d) (hnp : as.length = np) (hk : k + mc' ≤ mc) (hs' : n + ms' ≤ ms) (hst : stk = as.reverse ++ rest) (hw : (rest.map fun v => v.category).sum ≤ 8) (dg : decode cc pc = .ok (.invokestatic index, 3))
    (kk : ∀ v N' M', P v N' M' → G l E y cc nL ret tb d Q mc ms Γ (pc + 3) L (v.toList ++ rest) N' M' (k + mc') (n + ms')) : G l E y cc nL ret tb d Q mc ms Γ pc L stk N M k n := by
  intro hc H locs ls hl hr hq
  subst hst
  have hM : Met l yy g_WS (g_rm dd mc' ms') (fun a U => a = as.toArray ∧ g_rep E N M U.heap ∧ g_K E U ∧ g_X U) (fun _ _ o t => ∃ v N' M', o = .returned v ∧ P v N' M' ∧ g_rep E N' M' t.heap) mc' ms' (fun q => g_z E ≤ q) := by
    refine MetFree.mono (hC hc.f) (fun _ _ h => h) (fun _ _ _ _ _ h => h) (fun a s o t _ hq => ?_)
    obtain ⟨⟨N', M', ⟨v, hv, hP⟩, hrep⟩, hW, L0, h1, h2⟩ := hq
    exact ⟨⟨v, N', M', hv, hP, hrep⟩, L0, ⟨⟨v, hv⟩, hW, h1⟩, h2⟩
  rw [← hc.l] at hM
  have hblind : FrameBlind (fun (a : Array Value) (U : State) => a = as.toArray ∧ g_rep E N M U.heap ∧ g_K E U ∧ g_X U) := fun a U g mk h => ⟨h.1, h.2.1, g_K.moved (u := U) (U := U.calling g mk a) (State.WarmedH.refl U) h.2.2.1, g_X.moved (u := U) (U := U.calling g mk a) (State.WarmedH.refl U) h.2.2.2⟩
  refine g_ofRun (rest := rest) (stk := as.reverse ++ rest) hc hl hq ?_ kk
  have hK : Back (g_l Γ) (g_R Γ) (g_p Γ) (g_e Γ) (g_b Γ) (g_s Γ) (g_a Γ) yy 3 8 (PreOf (g_R Γ) mc' ms' (fun a U => a = as.toArray ∧ g_rep E N M U.heap ∧ g_K E U ∧ g_X U)) (PostOf (fun _ _ o t => ∃ v N' M', o = .returned v ∧ P v N' M' ∧ g_rep E N' M' t.heap) mc' ms' (fun q => g_z E ≤ q)) :=
    va_backW (bytes := bytes) (maxL := maxL) (ret := rt) (hh := hs) hM hblind rfl rfl (by rw [hc.R]; exact hd) (by rw [hc.R]; show 8 + (maxL + 11) + 100 * dd ≤ 100 * d; omega) (fun w hw a' U hW => word_at hW (g_good w hw) (hc.t w hw)) s3 (fun a' U hW => word_at hW (g_good _ s2) (hc.t _ s2))
  intro T hT X
  obtain ⟨mk, methM, cM, hnamed, hmethM, -, -, -, -, -, -, hsigM⟩ := Cond.codeWith_spec (hc.t _ s3)
  have hstatic : methM.isStatic = true := Cond.static_spec hnamed hmethM (hc.t _ hS2)
  obtain ⟨kP, hkP, -⟩ := className_of_methodNamed hnamed
  have hinitP : kP.init = .initialized := Cond.initialized_spec (findClass_of_methodNamed hnamed) hkP (hc.t _ s2)
  obtain ⟨vm₁, X₁, hstep₁⟩ := X.invokestatic hc.x hc.o (hc.t _ s1) hnamed hmethM hstatic hkP hinitP s4 (g := F0 (g_m Γ) pc ls (as.reverse ++ rest)) rfl (argsL := as) (rest := rest) (by rw [hsigM] at s5; rw [hnp]; exact (Option.some.inj s5).symm) rfl (by rw [hc.b]; exact dg)
  obtain ⟨v, ⟨U', l2, c2, n2⟩, X', ⟨g', mk', t, L0, e1, e2, hq', h1, hL, h2, h3⟩, hsteps⟩ := hK (g_m Γ) (g_h Γ) (g_c Γ) ⟨T.setVm vm₁, locs, k, n⟩ (F0 (g_m Γ) pc ls rest) (.invokestatic index) mk as.toArray X₁ rfl (hl.1.1.trans hc.ml.symm) (by rw [hc.b]; exact dg) (lv_room hw) (X₁.named hnamed) ⟨by rw [hc.R]; exact hk, by rw [hc.R]; exact hs', rfl, by show g_rep E N M T.heap; rw [hT]; exact hr, g_K.moved X₁.warmed hc.K, g_X.moved X₁.warmed hX⟩
  dsimp only [Pt.U, Pt.locs, Pt.cells, Pt.slots] at X' e1 e2 h1 h2 h3 hsteps
  subst h1; subst h2; subst h3
  exact ⟨v, (T.setVm vm₁).calling g' mk' as.toArray, t, U', L0, hT, X', hL, e1, e2, hq', fun target h => hstep₁ _ fun acts => by rw [doInvoke_state]; exact hsteps.trans h⟩
end CATCH

