/-! calls of methods that throw -/
section THROWN
variable {p : Program} {l : Launch} {e : Env} {R : Room} {s : State} {m : MethodId} {args : Array Value} {below : List Frame} {meth : Method} {c : Code} {T : State} {locs : List Loc} {cells slots : Nat}
theorem th_run {E : gE} {yy : MethodName} {dd mc ms N : Nat} {M : gM} {as : List Value} {P : Addr → Nat → gM → Prop} {bytes : ByteArray} {maxL W0 len : Nat} {rt : Option FieldType} (hC : MetFree l yy (headSpec g_WS (g_rm dd mc ms)) (fun a U => a = as.toArray ∧ g_rep E N M U.heap ∧ g_K E U) (fun _ _ _ _ _ => True) (fun _ st o t => g_end E (g_thr P) mc ms st o t))
    (X : Stand p l e R s m args below meth c T locs cells slots) {g : JFrame} {mk : MethodId} {ig : Instr} (hg : g.method = m) (hsize : g.locals.size = c.maxLocals) (hdg : decode c.code g.pc = .ok (ig, len)) (hW : 2 * g.monitorRoom + (g.stack.map fun v => v.category).sum ≤ W0) (hn : T.methodNamed? yy = some mk)
    (hframes : dd + 1 ≤ R.frames) (hlocals : W0 + (maxL + 11) + 100 * dd ≤ R.locals) (hcells : cells + mc ≤ R.cells) (hslots : slots + ms ≤ R.slots)
    (hws : ∀ w ∈ g_WS, ∀ A, w.before A T = true) (hcode : Cond.code yy bytes maxL rt ∈ g_WS) (hini : Cond.initialized yy.cls ∈ g_WS) (hr : g_rep E N M T.heap) (hK : g_K E T) :
    ∃ (a : Addr) (T' : State) (L : List Loc) (N' : Nat) (M' : gM), Stand p l e R s m args below meth c T' (locs ++ L) (cells + mc) (slots + ms) ∧ (∀ q ∈ L, g_z E ≤ q.base) ∧ P a N' M' ∧ g_rep E N' M' T'.heap ∧
      Steps p.tables e below (doInvoke e (T.setTop g) [] mk as.toArray).1 ((T'.setTop g).pushFrame (.throwing a)) := by
  obtain ⟨methY, cY, hmY, hcY, -, hlY, -, -, -, -⟩ := Cond.code_spec hn (hws _ hcode #[])
  obtain ⟨kY, hkY, -⟩ := className_of_methodNamed hn
  have hinitY : kY.init = .initialized := Cond.initialized_spec (findClass_of_methodNamed hn) hkY (hws _ hini #[])
  have h : At T g.method c below := by rw [hg]; exact X.here
  have happ : (headSpec g_WS (g_rm dd mc ms)).appliesLoose yy e.platform (T.calling g mk as.toArray) = true :=
    Spec.appliesLoose_calling (g := g) h hdg hn hkY hinitY (X.room_calling (g := g) (R' := g_rm dd mc ms) hsize hmY hcY hframes (by rw [hlY]; show _ + _ + 100 * dd ≤ _; omega) hcells hslots) (atoms_intro fun w hw => hws w hw _)
  obtain ⟨mid, hmid⟩ := h.above
  have hfr : (T.setTop g).frames = (.java g :: mid) ++ below := by rw [State.frames_setTop' g h.top, hmid]; rfl
  obtain ⟨o, s₂, hsteps, -, hend, hq⟩ := Steps.callFree hC p X.admits X.cas X.clock (acts := []) hfr happ ⟨rfl, hr, g_K.moved (u := T) (U := T.calling g mk as.toArray) (State.WarmedH.refl T) hK⟩ trivial
  have hq' : g_end E (g_thr P) mc ms (T.calling g mk as.toArray) o s₂ := hq
  rw [State.frames_setTop' g h.top] at hend
  obtain ⟨⟨N', M', ⟨a, rfl, hP⟩, hrep⟩, hW₂, L, hsb, hL⟩ := hq'
  obtain ⟨e2, q2, q3, q4, q5, q6⟩ := hsb
  have e3 : s₂ = ({ (T.calling g mk as.toArray).setFrames s₂.frames with heap := s₂.heap, slotsUsed := s₂.slotsUsed } : State).setVm s₂.vm := by
    have : s₂ = ({ s₂ with vm := (T.calling g mk as.toArray).vm } : State).setVm s₂.vm := rfl
    rw [e2] at this
    exact this
  have hf₂ : s₂.frames = .throwing a :: .java g :: T.frames.tail := hend
  have hW' : T.WarmedH s₂.vm := hW₂
  obtain ⟨g₀, hg0⟩ := Option.isSome_iff_exists.mp h.top
  obtain ⟨r, hr0⟩ := State.topJava?_eq_some.mp hg0
  have hs₂ : s₂ = ((({ T with heap := s₂.heap, slotsUsed := s₂.slotsUsed } : State).setVm s₂.vm).setTop g).pushFrame (.throwing a) := by
    have hr' : (({ T with heap := s₂.heap, slotsUsed := s₂.slotsUsed } : State).setVm s₂.vm).frames = .java g₀ :: r := hr0
    refine e3.trans ?_
    rw [hf₂, State.calling_eq h.top, State.setFrames_setFrames, State.pushFrame, State.frames_setTop _ hr', State.setTop_of_frames _ hr', State.setFrames_setFrames, hr0]
    rfl
  have hsame : T.sameButNew ({ T with heap := s₂.heap, slotsUsed := s₂.slotsUsed } : State) L mc ms := by
    refine ⟨?_, q2, q3, q4, q5, q6⟩
    obtain ⟨t, ht, -⟩ := State.frames_cons hr0
    show ({ T with heap := s₂.heap, slotsUsed := s₂.slotsUsed } : State) = { T.setFrames T.frames with heap := s₂.heap, slotsUsed := s₂.slotsUsed }
    rw [State.setFrames_self ht]
  refine ⟨a, ({ T with heap := s₂.heap, slotsUsed := s₂.slotsUsed } : State).setVm s₂.vm, L, N', M', ⟨X.admits, X.cas, X.clock, X.frames, X.room, X.hears, X.method, X.code, (X.here.setHeapUsed s₂.heap s₂.slotsUsed).setVm hW'.alike, X.tail, State.WarmedH.trans X.warmed hW', X.limits, X.bytes, X.same.trans (hsame.setVm s.vm)⟩, hL, hP, hrep, ?_⟩
  rw [← hs₂]
  exact hsteps
end THROWN
section THROWN2
variable {l : Launch} {E : gE} {y : MethodName} {cc : ByteArray} {nL : Nat} {ret : Option FieldType} {tb : List ExceptionTableEntry} {d : Nat} {Q : Outcome → Nat → gM → Prop} {mc ms : Nat} {Γ : gT} {pc : Nat} {L : List (Option Value)} {st : List Value} {N : Nat} {M : gM} {k n : Nat}
/-- out of a method without handlers -/
theorem th_out {T T' : State} {g : JFrame} {locs : List Loc} {a : Addr} {N' : Nat} {M' : gM} {k' n' : Nat} (hc : g_cx l E y cc nL ret [] d mc ms Γ) (X' : Stand (g_p Γ) (g_l Γ) (g_e Γ) (g_R Γ) (g_s Γ) (g_m Γ) (g_a Γ) (g_b Γ) (g_h Γ) (g_c Γ) T' locs k' n') (hq : ∀ q ∈ locs, g_z E ≤ q.base) (hk : k' ≤ mc) (hn : n' ≤ ms) (hg : g.method = g_m Γ) (hlk : g.locked = none) (hent : g.entered = []) (hrep : g_rep E N' M' T'.heap) (hQ : Q (.threw a) N' M')
    (hst : Steps (g_p Γ).tables (g_e Γ) (g_b Γ) T ((T'.setTop g).pushFrame (.throwing a))) : ∃ t, Steps (g_p Γ).tables (g_e Γ) (g_b Γ) T t ∧ g_MQ E Q mc ms Γ t := by
  obtain ⟨w1, w2, w3, w4, w5⟩ := X'.leaveThrown a (g := g) hg hlk hent (by rw [hc.e]; exact fun x hx => by cases hx) hc.lk
  exact ⟨_, hst.trans w1, .threw a, w2, w3, ⟨N', M', hQ, hrep⟩, w4, locs, w5.mono hk hn, hq⟩
/-- an instance method throws, and so does its caller -/
theorem g_thrV {yy : MethodName} {bytes : ByteArray} {maxL np index dd mc' ms' a ci : Nat} {rt : Option FieldType} {as rest stk fs : List Value} {P : Addr → Nat → gM → Prop} (hS : g_S y.cls index yy bytes maxL rt np) (hS2 : Cond.instanceMethod yy ∈ g_WS ∧ Cond.selects yy.cls yy yy ∈ g_WS) (hM : M a = some (.inr (ci, fs))) (hci : (classes[ci]?).map (fun q => q.1) = some yy.cls) (hC : Ctr l E yy dd (.ref a :: as) N M mc' ms' (g_thr P)) (hd : dd < d) (hnp : as.length = np) (hk : k + mc' ≤ mc) (hs : n + ms' ≤ ms) (hst : stk = as.reverse ++ .ref a :: rest) (hw : (rest.map fun v => v.category).sum ≤ 8) (dg : decode cc pc = .ok (.invokevirtual index, 3))
    (hQ : ∀ b N' M', P b N' M' → Q (.threw b) N' M') : G l E y cc nL ret [] d Q mc ms Γ pc L stk N M k n := by
  intro hc H locs ls hl hr hq T hT X
  subst hst
  obtain ⟨s1, s2, s3, s4, s5, s6⟩ := hS
  obtain ⟨cellB, hcB, hoB, hclB⟩ := g_recv hc.K hr hM hci
  obtain ⟨mk, methM, hnamed, hmethM, hstM, habM⟩ := Cond.instanceMethod_spec (hc.t _ hS2.1)
  obtain ⟨methM', cM, hmethM', -, -, -, -, -, -, hsigM⟩ := Cond.code_spec hnamed (hc.t _ s3)
  cases hmethM.symm.trans hmethM'
  obtain ⟨c2, r2, m2, q1, q2, q3, q4, kP, hkP, hkPi⟩ := Cond.selects_spec (hc.t _ hS2.2)
  cases hclB.symm.trans q1
  cases (State.methodFound?_of_named hnamed s4).symm.trans q2
  cases hnamed.symm.trans q3
  have hselP : selectMethod (g_e Γ).platform (g_s Γ).vm cellB.cls mk = .method mk := by rw [Launch.admits_selectMethod X.admits]; exact q4
  obtain ⟨vm₁, X₁, hstep₁⟩ := X.invokevirtual hc.x hc.o (hc.t _ s1) hnamed hmethM hstM hkP hkPi s4 (a := a) (cell := cellB) (by rw [hT]; exact hcB)
    (fun z h => by rw [h] at hoB; cases hoB) hselP hmethM habM hkP hkPi (g := F0 (g_m Γ) pc ls (as.reverse ++ .ref a :: rest)) rfl (argsL := as) (rest := rest) (by rw [hsigM] at s5; rw [hnp]; exact (Option.some.inj s5).symm) rfl (by rw [hc.b]; exact dg)
  have hMF := hC hc.f
  rw [← hc.l] at hMF
  obtain ⟨b, T', L0, N', M', X', hL, hP, hrep, hst'⟩ := th_run (W0 := 8) (maxL := maxL) (bytes := bytes) (rt := rt) hMF X₁ (g := F0 (g_m Γ) pc ls rest) (mk := mk) (ig := .invokevirtual index) rfl (hl.1.1.trans hc.ml.symm) (by rw [hc.b]; exact dg) (lv_room hw) (X₁.named hnamed) (by rw [hc.R]; exact hd) (by rw [hc.R]; show 8 + (maxL + 11) + 100 * dd ≤ 100 * d; omega) (by rw [hc.R]; exact hk) (by rw [hc.R]; exact hs) (fun w hw A => word_at X₁.warmed (g_good w hw) (hc.t w hw)) s3 s2 (by show g_rep E N M T.heap; rw [hT]; exact hr) (g_K.moved X₁.warmed hc.K)
  exact th_out hc X' (t_lL hq hL) hk hs rfl rfl rfl hrep (hQ b N' M' hP) (hstep₁ _ fun acts => by rw [doInvoke_state]; exact hst')
theorem g_thrS {yy : MethodName} {bytes : ByteArray} {maxL np index dd mc' ms' : Nat} {rt : Option FieldType} {as rest stk : List Value} {P : Addr → Nat → gM → Prop} (hS : g_S y.cls index yy bytes maxL rt np) (hS2 : Cond.static yy ∈ g_WS) (hC : Ctr l E yy dd as N M mc' ms' (g_thr P)) (hd : dd < d) (hnp : as.length = np) (hk : k + mc' ≤ mc) (hs : n + ms' ≤ ms) (hst : stk = as.reverse ++ rest) (hw : (rest.map fun v => v.category).sum ≤ 8) (dg : decode cc pc = .ok (.invokestatic index, 3))
    (hQ : ∀ b N' M', P b N' M' → Q (.threw b) N' M') : G l E y cc nL ret [] d Q mc ms Γ pc L stk N M k n := by
  intro hc H locs ls hl hr hq T hT X
  subst hst
  obtain ⟨s1, s2, s3, s4, s5, s6⟩ := hS
  obtain ⟨mk, hnamed⟩ := Cond.code_named (hc.t _ s3)
  obtain ⟨methM, cM, hmethM, -, -, -, -, -, -, hsigM⟩ := Cond.code_spec hnamed (hc.t _ s3)
  have hstatic : methM.isStatic = true := Cond.static_spec hnamed hmethM (hc.t _ hS2)
  obtain ⟨kP, hkP, -⟩ := className_of_methodNamed hnamed
  have hinitP : kP.init = .initialized := Cond.initialized_spec (findClass_of_methodNamed hnamed) hkP (hc.t _ s2)
  obtain ⟨vm₁, X₁, hstep₁⟩ := X.invokestatic hc.x hc.o (hc.t _ s1) hnamed hmethM hstatic hkP hinitP s4 (g := F0 (g_m Γ) pc ls (as.reverse ++ rest)) rfl (argsL := as) (rest := rest) (by rw [hsigM] at s5; rw [hnp]; exact (Option.some.inj s5).symm) rfl (by rw [hc.b]; exact dg)
  have hMF := hC hc.f
  rw [← hc.l] at hMF
  obtain ⟨b, T', L0, N', M', X', hL, hP, hrep, hst'⟩ := th_run (W0 := 8) (maxL := maxL) (bytes := bytes) (rt := rt) hMF X₁ (g := F0 (g_m Γ) pc ls rest) (mk := mk) (ig := .invokestatic index) rfl (hl.1.1.trans hc.ml.symm) (by rw [hc.b]; exact dg) (lv_room hw) (X₁.named hnamed) (by rw [hc.R]; exact hd) (by rw [hc.R]; show 8 + (maxL + 11) + 100 * dd ≤ 100 * d; omega) (by rw [hc.R]; exact hk) (by rw [hc.R]; exact hs) (fun w hw A => word_at X₁.warmed (g_good w hw) (hc.t w hw)) s3 s2 (by show g_rep E N M T.heap; rw [hT]; exact hr) (g_K.moved X₁.warmed hc.K)
  exact th_out hc X' (t_lL hq hL) hk hs rfl rfl rfl hrep (hQ b N' M' hP) (hstep₁ _ fun acts => by rw [doInvoke_state]; exact hst')
end THROWN2

