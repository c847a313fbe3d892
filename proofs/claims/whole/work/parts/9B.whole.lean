/-! the claim out of the walk of the law -/
def R_law : String := "RuleDiagramLaw"
def lw_P (b : Addr) (xs : List Int32) (args : Array Value) (s : State) : Prop := args = #[.ref b] ∧ s.IntsAt b xs ∧ xs.length ≤ 3072 ∧ (Jvm.Cond.and given_1 narrow_1).before args s = true
def lw_Q (_ : Array Value) (s : State) (o : Outcome) (t : State) : Prop := o = .returned (some (.int 1)) ∧ Framed s o t [] 601024 7293034
def lw_Z (below : List Frame) (a : Array Value) (s : State) : State → Prop := fun t => ∃ o, t.status = .running ∧ Ended t below o ∧ lw_Q a s o t
/-- the law's own end, with 1 on the stack, nothing written that was there before, its room as the claim has it -/
theorem lw_ret {p : Program} {l : Launch} {e : Env} {s : State} {m : MethodId} {below : List Frame} {meth : Method} {c : Code} {b : Nat} (hx : p.tables.exec = Jvm.exec) (hb : c.code = code) (hr : meth.sig.returnType = ret) (hlocks : meth.locks = false) {pc : Nat} {H : Heap} {ls : Array Slot} (hdg : decode code pc = .ok (.ireturn, 1)) : W p l e room_1 s m #[Value.ref b] below meth c H [] 601024 7293034 (lw_Z below #[Value.ref b] s) (F0 m pc ls [.int 1]) := by
  intro T hT X
  obtain ⟨fs, hret, hrun, hended, hW, hframe⟩ := X.leave (v := some (.int 1)) (hlocks := hlocks) (fun h => by rw [hr] at h; cases h)
  have hmeth' : T.vm.method? m = some meth := X.method'
  refine ⟨T.setFrames fs, ?_, .returned (some (.int 1)), hrun, hended, rfl, ⟨_, rfl⟩, hW, hframe⟩
  jvm_step X.here [X.here.top, hx, hb, hdg, hmeth', hr, ret, narrow_b1]
  (try refine ⟨rfl, ?_⟩); (try refine ⟨rfl, ?_⟩)
  first | (intro acts; rw [hret _ acts rfl rfl rfl]) | rw [hret _ _ rfl rfl rfl]
  exact Steps.refl _
/-- what holds at the law's entry: the machine, the code, the tables' words (any of lw_tbl by 'hts w (by decide +kernel)'), the script of L ints xs at the cell b, what the Statement gives of the start (any of its parts by flat_of_before) -/
def lw_At (p : Program) (s : State) (m : MethodId) (meth : Method) (c : Code) (b L : Nat) (xs : Nat → Int32) : Prop :=
  p.tables.exec = Jvm.exec ∧ c.code = code ∧ meth.sig.returnType = ret ∧ c.maxLocals = 7 ∧ s.vm.findClass R_law = some m.cls ∧ (∀ w ∈ lw_tbl, w.before #[Value.ref b] s = true) ∧ va_X b L xs s s.heap ∧ b < s.heap.size ∧ meth.locks = false ∧ (Jvm.Cond.and given_1 narrow_1).before #[Value.ref b] s = true ∧ meth.name = x.name
section LAWSTART
variable {l : Launch} {E : gE}
theorem law_start {tb : List ExceptionTableEntry} {Γ : gT} {b nn N : Nat} {xs : Nat → Int32} (hX : g_X (g_s Γ)) (hXs : va_X b nn xs (g_s Γ) (g_h0 E)) (hnn : nn ≤ 3072) : G l E y_La_law code 7 ret tb 840 (g_ret (fun v _ _ => v = some (.int 1))) 601024 7293034 Γ 0 [some (.ref b), none, none, none, none, none, none] [] N (fun _ => none) 0 0 := by
  refine g_new n_La_8 (by omega) (by omega) d_La_law_0 ?_
  refine g_dup d_La_law_3 rfl ?_
  refine g_nm (fun M1 e1 f1 => ?_)
  refine g_callI s_La_68 sv_RD_init (k_RD_init e1 rfl) (by omega) rfl (by omega) (by omega) rfl (Nat.le_of_ble_eq_true rfl) d_La_law_4 ?_
  rintro v' N' M2 ⟨rfl, rfl, hOA, f2⟩
  refine g_astore_n d_La_law_7 (by decide) ?_
  refine g_new n_La_69 (by omega) (by omega) d_La_law_8 ?_
  refine g_dup d_La_law_11 rfl ?_
  refine g_nm (fun M3 e3 f3 => ?_)
  have e3' : M3 (N + 152) = _ := e3
  refine g_callI s_La_71 sv_Mo_init (k_Mo_init e3' (by omega)) (by omega) rfl (by omega) (by omega) rfl (Nat.le_of_ble_eq_true rfl) d_La_law_12 ?_
  rintro v' N' M4 ⟨rfl, rfl, hOM, f4⟩
  refine g_astore_n d_La_law_15 (by decide) ?_
  refine g_iconst (v := nI 1) d_La_law_16 (by decide) ?_
  refine g_newl _ w_1179 rfl (by decide) (by omega) (by omega) d_La_law_17 ?_
  refine g_nm (fun M5 e5 f5 => ?_)
  have e5' : M5 (N + 165) = some (g_la E 1 (fun _ => 0)) := e5
  have hOA5 := hOA.kept (M' := M5) (fun x _ _ => (f5 x (by omega)).trans ((f4 x (by omega)).trans (f3 x (by omega))))
  have hOM5 := hOM.kept (M' := M5) (fun x _ _ => f5 x (by omega))
  refine g_astore_n d_La_law_19 (by decide) ?_
  refine g_iconst (v := nI 0) d_La_law_20 (by decide) ?_
  refine g_istore d_La_law_21 (by decide) ?_
  exact law_loop hX hXs hnn 0 (by omega) _ M5 _ _ _ _ _ _ _ _ _ _ _ _ hOA5 hOM5 e5' (by omega) (by omega) (by omega)
end LAWSTART
/-- the room that the walk asks is in the claim's -/
theorem room_in {s : State} {pl : Platform} (h : s.hasRoom pl room_1 = true) : s.hasRoom pl (g_rm 840 601024 7293034) = true := by
  simp only [State.hasRoom, Bool.and_eq_true, decide_eq_true_eq] at h ⊢
  obtain ⟨⟨⟨⟨h1, a, b, c, d, e⟩, h3⟩, h4⟩, h5⟩ := h
  have a' : s.frames.length + 2048 ≤ pl.maxFrames := a
  have b' : s.frames.length + 2048 ≤ (pl.stackLimits s.me).1 := b
  exact ⟨⟨⟨⟨h1, by show s.frames.length + 840 ≤ _; omega, by show s.frames.length + 840 ≤ _; omega, c, d, e⟩, h3⟩, h4⟩, h5⟩
set_option maxHeartbeats 4000000 in
theorem whole_start {p : Program} {e : Env} {s : State} {m : MethodId} {below : List Frame} {meth : Method} {c : Code} (l : Launch) (hfl : l.flags = Jvm.pinnedFlags ++ [Jvm.noTraceFlag]) {b L : Nat} {xs : Nat → Int32} (hL : L ≤ 3072) (C0 : lw_At p s m meth c b L xs) : W p l e room_1 s m #[Value.ref b] below meth c s.heap [] 0 0 (lw_Z below #[Value.ref b] s) (entryFrame m ([Value.ref b] : List Value).toArray 7) := by
  obtain ⟨hx, hb, hr, hml, hown, hts, hX, hbl, hlocks, hgv, hname⟩ := C0
  rw [Cond.before_and, Bool.and_eq_true] at hgv
  obtain ⟨E, e0, hK, hXX⟩ := start_E hts hgv.2
  have hz : g_z E = s.heap.size := congrArg Array.size e0
  have hrep : g_rep E s.heap.size (fun _ => none) s.heap := ⟨rfl, by rw [hz]; exact Nat.le_refl _, fun q _ => by rw [e0], fun a x h => by cases h⟩
  have hent : g_loc ((lg_sl [Value.ref b] ++ List.replicate (7 - (lg_sl [Value.ref b]).length) Slot.unset).toArray) 7 [some (.ref b), none, none, none, none, none, none] := ⟨lv_entry [Value.ref b] (Nat.le_of_ble_eq_true rfl), g_ok_of rfl⟩
  have hG := law_start (l := l) (E := E) (tb := c.exceptionTable.toList) (Γ := (p, l, e, g_rm 840 601024 7293034, s, m, #[Value.ref b], below, meth, c)) (N := s.heap.size) hXX (by rw [e0]; exact hX) hL ⟨hx, hb, hml, hown, t_wsA hts, hK, hlocks, hr, hname, rfl, rfl, rfl, hfl, fun q _ => by rw [e0]⟩ s.heap [] _ hent hrep (fun q h => by cases h)
  intro T hT X
  obtain ⟨t, a1, o, b1, b2, ⟨N', M', ⟨v, hv, hv1⟩, -⟩, hW, Ls, hsame, hLs⟩ := hG T hT { X with room := room_in X.room }
  subst hv1
  subst hv
  refine ⟨t, ?_, _, b1, b2, rfl, ⟨_, rfl⟩, hW, hsame.weaken (fun y hy hlt => ?_) (Nat.le_refl _) (Nat.le_refl _)⟩
  · rw [lg_entry_eq]
    exact a1
  · have := hLs y hy
    rw [hz] at this
    exact absurd hlt (Nat.not_lt.mpr this)
set_option maxHeartbeats 4000000 in
theorem lw_walk (l : Launch) (hfl : l.flags = Jvm.pinnedFlags ++ [Jvm.noTraceFlag]) (b : Addr) (xs : List Int32) : MetFree l x (headSpec (Jvm.Cond.code x code maxLocals ret :: tables_1) room_1) (lw_P b xs) (fun _ _ _ _ _ => True) lw_Q := by
  refine MetFree.of_bodyS (code := code) (maxLocals := maxLocals) (ret := ret) (by decide) ?_ ?_
  · intro args s m h hn
    obtain ⟨meth, c, h1, h2, h3, h4, h5, h6, -, -⟩ := Cond.code_spec hn (atoms_spec (ws := Jvm.Cond.code x code maxLocals ret :: tables_1) h _ List.mem_cons_self)
    exact ⟨meth, c, h1, h2, h3, h4, h5, h6⟩
  · intro p e s m args below meth c s₁ B hml0 hP _
    obtain ⟨rfl, hx, hbd, hgv⟩ := hP
    obtain ⟨scr, harrAt, hlist, hof, hsmall⟩ := hx
    obtain ⟨hcb, hkn, -, -⟩ := State.arrayAt?_spec harrAt
    have hown : s.vm.findClass R_law = some m.cls := findClass_of_methodNamed B.named
    have hts0 : ∀ c ∈ (Jvm.Cond.code x code maxLocals ret :: tables_1), c.before #[Value.ref b] s = true := atoms_spec (ws := Jvm.Cond.code x code maxLocals ret :: tables_1) B.pre
    have hts : ∀ w ∈ lw_tbl, w.before #[Value.ref b] s = true := k2_hts_sels lw_privs (fun w hw => hts0 w (List.mem_cons_of_mem _ hw)) lw_privs_ok
    have hml : c.maxLocals = 7 := B.maxLocals_eq (hts0 _ List.mem_cons_self)
    have X₀ : Stand p l e room_1 s m #[Value.ref b] below meth c s₁ [] 0 0 := Stand.of_body B
    have hh0 : s₁.heap = s.heap := by rw [B.state]; rfl
    have hsz : scr.slots.size = xs.length := by rw [← Array.length_toList, hlist, List.length_map]
    have hval : ∀ j : Nat, j < xs.length → scr.slots[j]? = some (.int (xs.getD j 0)) := fun j hj => by
      rw [← Array.getElem?_toList, hlist]
      simp [hj]
    have hbl : b < s.heap.size := (Array.getElem?_eq_some_iff.mp hcb).1
    have hX : va_X b xs.length (fun j => xs.getD j 0) s s.heap := ⟨scr, hcb, hof, hkn, hsz, hval⟩
    have K : W p l e room_1 s m #[Value.ref b] below meth c s₁.heap [] 0 0 (lw_Z below #[Value.ref b] s) (entryFrame m ([Value.ref b] : List Value).toArray 7) := by
      rw [hh0]
      exact whole_start l hfl hbd ⟨B.exec, B.bytes, B.returns, hml, hown, hts, hX, hbl, B.notSynchronized, hgv, (name_of_methodNamed B.named B.method).1⟩
    obtain ⟨t, a1, o, b1, b2, b3⟩ := K s₁ rfl X₀
    exact ⟨t, o, a1, b1, b2, b3⟩
theorem lw_pre_spec {args : Array Value} {s : State} (h : (Jvm.Cond.and given_1 narrow_1).before args s = true) (hr : rest_1_c.before args s = true) : ∃ (b : Addr) (xs : List Int32), lw_P b xs args s := by
  have hs := flat_of_before _ h
  have hq := flat_of_before _ hr
  have hc : (Cond.count 1).before args s = true := hs _ (by decide +kernel)
  have harr : (Cond.arrayOf (.arg 0) .int).before args s = true := hs _ (by decide +kernel)
  have hle : (Cond.le (.length (.arg 0)) (.int 3072)).before args s = true := hs _ (by decide +kernel)
  have hlen : (Cond.isInt (.length (.arg 0))).before args s = true := hq _ (by decide +kernel)
  have hall : (Cond.all (.arg 0) (.isInt (.elem (.arg 0) (.index 0)))).before args s = true := hq _ (by decide +kernel)
  obtain ⟨b, xs, hb, hx⟩ := State.ints_of_pre rfl harr hlen hall
  have hsm : xs.length < 2 ^ 31 := hx.choose_spec.2.2.2
  have hev : (Term.length (.arg 0)).eval args s none [] s = some (.int xs.length.toInt32) := hx.length_eval hb
  have hv := Cond.le_ints hev (show (Term.int 3072).eval args s none [] s = some (.int 3072) from rfl)
  have hd : xs.length.toInt32 ≤ 3072 := by
    simpa [Cond.before, Cond.holds, hv] using hle
  have hN : xs.length ≤ 3072 := (Int32.ofNat_le_ofNat hsm (by decide)).mp (show Int32.ofNat xs.length ≤ Int32.ofNat 3072 from hd)
  exact ⟨b, xs, Cond.one_arg hc (show args[0]? = some (.ref b) from hb), hx, hN, h⟩
theorem lw_comes (l : Launch) (hfl : l.flags = Jvm.pinnedFlags ++ [Jvm.noTraceFlag]) : Comes l x (Jvm.Cond.code x code maxLocals ret :: tables_1) room_1 (fun tb e args s => Calls_1 tb e args s ∧ rest_1 tb e args s ∧ Pre_1 tb e args s)
    (fun _ _ args s o t => lw_Q args s o t) := by
  intro p e ha hc hk s m args below hf hfit hheap happ hpre
  obtain ⟨b, xs, hP⟩ := lw_pre_spec hpre.2.2 hpre.2.1
  obtain ⟨k, o, h1, h2, h3, hQ⟩ := lw_walk l hfl b xs p e ha hc hk s m args below hf ((Spec.applies_iff_loose hf).mp happ).1 hP trivial
  exact ⟨k, o, h1, h2, h3, hQ⟩
theorem lw_frame {s t : State} {o : Outcome} {args : Array Value} (h : Framed s o t [] 601024 7293034) :
    Framed s o t (fieldLocs frame_1_writes args s ++ arrayLocs frame_1_arrays args s ++ staticLocs frame_1_statics s) 601024 7293034 := h
theorem lw_limb (L : Cond) (hL : ∀ (args : Array Value) (s t : State), L.after args s (.returned (some (.int 1))) t = true) :
    ArmFor flags0 classFile x code maxLocals ret World_1 tables_1 room_1 Calls_1 rest_1 Pre_1
      (fun tb e a s o t => postC L tb e a s o t ∧ Framed s o t (fieldLocs frame_1_writes a s ++ arrayLocs frame_1_arrays a s ++ staticLocs frame_1_statics s) 601024 7293034) := by
  intro l q1 q2 q3 p e ha hc hk s m args below hf hfit hheap happ hpre
  obtain ⟨k, o, h1, h2, h3, rfl, hF⟩ := lw_comes l (by first | exact q1 | exact q2 | exact q3) p e ha hc hk s m args below hf hfit hheap happ hpre
  exact ⟨k, _, h1, h2, h3, hL args s _, lw_frame hF⟩
theorem i_vc : Claimed_1_1 ∧ Claimed_1_2 := ⟨lw_limb limb_1_1 (fun args s t => by simp [limb_1_1, Cond.after, Cond.holds, Cond.value]), lw_limb limb_1_2 (fun args s t => Cond.after_iff.mpr (by
  first | (rw [show limb_1_2 = Cond.eq .result (.int 1) from rfl, Cond.eq_ints (x := 1) (y := 1) rfl rfl]; simp; done) | (simp [limb_1_2, Cond.value, Term.eval]; done)))⟩

