/-! The judgement G: a method's walk over a pure heap. gM: cells by address. gE: numbers of classes and slots, numbers of array classes, the heap ahead of all. -/
abbrev gM : Type := Nat → Option va_E
def g_tys (E : gE) : List (ClassId × FieldType) := [(E.2.1 0, .int), (E.2.1 1, .char), (E.2.1 2, .long), (E.2.1 3, .object R_Ru), (E.2.1 4, .object R_RL), (E.2.1 5, .object R_Di), (E.2.1 6, .object R_Cu), (E.2.1 7, .array .int)]
def g_rep (E : gE) (N : Nat) (M : gM) (H : Heap) : Prop :=
  H.size = N ∧ g_z E ≤ N ∧ (∀ q : Nat, q < g_z E → H[q]? = (g_h0 E)[q]?) ∧ ∀ (a : Nat) (x : va_E), M a = some x → va_at E.1 classes (a, x) H ∧ g_z E ≤ a
theorem g_rep.at {E : gE} {N : Nat} {M : gM} {H : Heap} (h : g_rep E N M H) {a : Nat} {x : va_E} (hx : M a = some x) : va_at E.1 classes (a, x) H := (h.2.2.2 a x hx).1
theorem g_rep.ge {E : gE} {N : Nat} {M : gM} {H : Heap} (h : g_rep E N M H) {a : Nat} {x : va_E} (hx : M a = some x) : g_z E ≤ a := (h.2.2.2 a x hx).2
theorem g_rep.lt {E : gE} {N : Nat} {M : gM} {H : Heap} (h : g_rep E N M H) {a : Nat} {x : va_E} (hx : M a = some x) : a < N := by
  have h1 := (h.at hx).lt
  rw [h.1] at h1
  exact h1
theorem g_rep.put {E : gE} {N : Nat} {M : gM} {H H1 : Heap} (h : g_rep E N M H) {a : Nat} {x : va_E} (ha : g_z E ≤ a) (z : H1.size = H.size) (oq : ∀ q : Nat, q ≠ a → H1[q]? = H[q]?) (hx : va_at E.1 classes (a, x) H1) : g_rep E N (va_up M a (some x)) H1 := by
  refine ⟨z.trans h.1, h.2.1, fun q hq => ?_, fun b y hb => ?_⟩
  · rw [oq q (by omega)]
    exact h.2.2.1 q hq
  · by_cases e : b = a
    · subst e
      rw [va_up_self] at hb
      cases hb
      exact ⟨hx, ha⟩
    · rw [va_up_ne _ _ e] at hb
      exact ⟨(h.at hb).kept (oq b e), h.ge hb⟩
theorem g_rep.push {E : gE} {N : Nat} {M : gM} {H H1 : Heap} (h : g_rep E N M H) {x : va_E} (z : H1.size = N + 1) (oq : ∀ q : Nat, q < N → H1[q]? = H[q]?) (hx : va_at E.1 classes (N, x) H1) : g_rep E (N + 1) (va_up M N (some x)) H1 := by
  refine ⟨z, Nat.le_succ_of_le h.2.1, fun q hq => ?_, fun b y hb => ?_⟩
  · rw [oq q (Nat.lt_of_lt_of_le hq h.2.1)]
    exact h.2.2.1 q hq
  · by_cases e : b = N
    · subst e
      rw [va_up_self] at hb
      cases hb
      exact ⟨hx, h.2.1⟩
    · rw [va_up_ne _ _ e] at hb
      exact ⟨(h.at hb).kept (oq b (h.lt hb)), h.ge hb⟩
/-- locals: each of one slot -/
def g_prs (L : List (Option Value)) : List (Nat × Value) := (List.range L.length).filterMap (fun i => (L.getD i none).map (fun v => (i, v)))
theorem g_prs_mem {L : List (Option Value)} {i : Nat} {v : Value} (h : L[i]? = some (some v)) : (i, v) ∈ g_prs L := by
  have hl := (List.getElem?_eq_some_iff.mp h).1
  refine List.mem_filterMap.mpr ⟨i, List.mem_range.mpr hl, ?_⟩
  rw [List.getD_eq_getElem?_getD, h]
  rfl
theorem g_prs_of {L : List (Option Value)} {q : Nat × Value} (h : q ∈ g_prs L) : L[q.1]? = some (some q.2) := by
  obtain ⟨i, hi, he⟩ := List.mem_filterMap.mp h
  have hl := List.mem_range.mp hi
  rw [List.getD_eq_getElem?_getD, List.getElem?_eq_getElem hl] at he
  cases hx : L[i] with
  | none => rw [hx] at he; cases he
  | some v =>
    rw [hx] at he
    have he2 : q = (i, v) := (Option.some.inj he).symm
    rw [he2]
    show L[i]? = some (some v)
    rw [List.getElem?_eq_getElem hl, hx]
def g_loc (ls : Array Slot) (nL : Nat) (L : List (Option Value)) : Prop := lv_has ls nL (g_prs L) ∧ ∀ (i : Nat) (v : Value), L[i]? = some (some v) → v.category = 1
theorem g_at {ls : Array Slot} {nL : Nat} {L : List (Option Value)} (h : g_loc ls nL L) {i : Nat} {v : Value} (hi : L[i]? = some (some v)) : ls[i]? = some (.val v) := h.1.2.2 (i, v) (g_prs_mem hi)
theorem g_st {ls ls' : Array Slot} {nL : Nat} {L : List (Option Value)} (h : g_loc ls nL L) {i : Nat} {v : Value} (hv : v.category = 1) (h' : lv_has ls' nL ((i, v) :: (g_prs L).filter (fun q => !(q.1 == i) && !(q.1 + 1 == i && q.2.category == 2)))) : g_loc ls' nL (L.set i (some v)) := by
  have key : ∀ (j : Nat) (w : Value), (L.set i (some v))[j]? = some (some w) → (j = i ∧ w = v) ∨ (j ≠ i ∧ L[j]? = some (some w)) := by
    intro j w hj
    rw [List.getElem?_set] at hj
    by_cases e : i = j
    · rw [if_pos e] at hj
      split at hj
      · cases hj
        exact Or.inl ⟨e.symm, rfl⟩
      · cases hj
    · rw [if_neg e] at hj
      exact Or.inr ⟨fun z => e z.symm, hj⟩
  refine ⟨⟨h'.1, h'.2.1, fun q hq => ?_⟩, fun j w hj => ?_⟩
  · obtain ⟨j, w⟩ := q
    rcases key j w (g_prs_of hq) with ⟨e1, e2⟩ | ⟨e1, e2⟩
    · subst e1; subst e2
      exact h'.2.2 _ List.mem_cons_self
    · refine h'.2.2 (j, w) (List.mem_cons_of_mem _ (List.mem_filter.mpr ⟨g_prs_mem e2, ?_⟩))
      have hc := h.2 j w e2
      simp [e1, hc]
  · rcases key j w hj with ⟨e1, e2⟩ | ⟨e1, e2⟩
    · rw [e2]; exact hv
    · exact h.2 j w e2
/-- the walk's fixed things -/
abbrev gT := Program × Launch × Env × Room × State × MethodId × Array Value × List Frame × Method × Code
abbrev g_p (Γ : gT) : Program := Γ.1
abbrev g_l (Γ : gT) : Launch := Γ.2.1
abbrev g_e (Γ : gT) : Env := Γ.2.2.1
abbrev g_R (Γ : gT) : Room := Γ.2.2.2.1
abbrev g_s (Γ : gT) : State := Γ.2.2.2.2.1
abbrev g_m (Γ : gT) : MethodId := Γ.2.2.2.2.2.1
abbrev g_a (Γ : gT) : Array Value := Γ.2.2.2.2.2.2.1
abbrev g_b (Γ : gT) : List Frame := Γ.2.2.2.2.2.2.2.1
abbrev g_h (Γ : gT) : Method := Γ.2.2.2.2.2.2.2.2.1
abbrev g_c (Γ : gT) : Code := Γ.2.2.2.2.2.2.2.2.2
def g_K (E : gE) (U : State) : Prop := va_K E.1 classes (g_tys E) U ∧ g_Z E U
theorem g_K.moved {E : gE} {u U : State} (hW : u.WarmedH U.vm) (h : g_K E u) : g_K E U := ⟨va_K.moved hW.alike h.1, g_Z.moved hW h.2⟩
abbrev g_rm (d mc ms : Nat) : Room := { frames := d, cells := mc, slots := ms, locals := 100 * d }
def g_cx (l : Launch) (E : gE) (y : MethodName) (cc : ByteArray) (nL : Nat) (ret : Option FieldType) (tb : List ExceptionTableEntry) (d mc ms : Nat) (Γ : gT) : Prop :=
  (g_p Γ).tables.exec = Jvm.exec ∧ (g_c Γ).code = cc ∧ (g_c Γ).maxLocals = nL ∧ (g_s Γ).vm.findClass y.cls = some (g_m Γ).cls ∧ (∀ w ∈ g_WS, w.before (g_a Γ) (g_s Γ) = true) ∧ g_K E (g_s Γ) ∧ (g_h Γ).locks = false ∧ (g_h Γ).sig.returnType = ret ∧ (g_h Γ).name = y.name ∧ g_l Γ = l ∧ g_R Γ = g_rm d mc ms ∧ (g_c Γ).exceptionTable.toList = tb ∧ l.flags = Jvm.pinnedFlags ++ [Jvm.noTraceFlag] ∧ ∀ q : Nat, q < g_z E → (g_s Γ).heap[q]? = (g_h0 E)[q]?
theorem g_cx.x {l E y cc nL ret tb d mc ms Γ} (h : g_cx l E y cc nL ret tb d mc ms Γ) : (g_p Γ).tables.exec = Jvm.exec := h.1
theorem g_cx.b {l E y cc nL ret tb d mc ms Γ} (h : g_cx l E y cc nL ret tb d mc ms Γ) : (g_c Γ).code = cc := h.2.1
theorem g_cx.ml {l E y cc nL ret tb d mc ms Γ} (h : g_cx l E y cc nL ret tb d mc ms Γ) : (g_c Γ).maxLocals = nL := h.2.2.1
theorem g_cx.o {l E y cc nL ret tb d mc ms Γ} (h : g_cx l E y cc nL ret tb d mc ms Γ) : (g_s Γ).vm.findClass y.cls = some (g_m Γ).cls := h.2.2.2.1
theorem g_cx.t {l E y cc nL ret tb d mc ms Γ} (h : g_cx l E y cc nL ret tb d mc ms Γ) : ∀ w ∈ g_WS, w.before (g_a Γ) (g_s Γ) = true := h.2.2.2.2.1
theorem g_cx.K {l E y cc nL ret tb d mc ms Γ} (h : g_cx l E y cc nL ret tb d mc ms Γ) : g_K E (g_s Γ) := h.2.2.2.2.2.1
theorem g_cx.lk {l E y cc nL ret tb d mc ms Γ} (h : g_cx l E y cc nL ret tb d mc ms Γ) : (g_h Γ).locks = false := h.2.2.2.2.2.2.1
theorem g_cx.r {l E y cc nL ret tb d mc ms Γ} (h : g_cx l E y cc nL ret tb d mc ms Γ) : (g_h Γ).sig.returnType = ret := h.2.2.2.2.2.2.2.1
theorem g_cx.n {l E y cc nL ret tb d mc ms Γ} (h : g_cx l E y cc nL ret tb d mc ms Γ) : (g_h Γ).name = y.name := h.2.2.2.2.2.2.2.2.1
theorem g_cx.l {l E y cc nL ret tb d mc ms Γ} (h : g_cx l E y cc nL ret tb d mc ms Γ) : g_l Γ = l := h.2.2.2.2.2.2.2.2.2.1
theorem g_cx.R {l E y cc nL ret tb d mc ms Γ} (h : g_cx l E y cc nL ret tb d mc ms Γ) : g_R Γ = g_rm d mc ms := h.2.2.2.2.2.2.2.2.2.2.1
theorem g_cx.e {l E y cc nL ret tb d mc ms Γ} (h : g_cx l E y cc nL ret tb d mc ms Γ) : (g_c Γ).exceptionTable.toList = tb := h.2.2.2.2.2.2.2.2.2.2.2.1
theorem g_cx.f {l E y cc nL ret tb d mc ms Γ} (h : g_cx l E y cc nL ret tb d mc ms Γ) : l.flags = Jvm.pinnedFlags ++ [Jvm.noTraceFlag] := h.2.2.2.2.2.2.2.2.2.2.2.2.1
theorem g_cx.h {l E y cc nL ret tb d mc ms Γ} (h : g_cx l E y cc nL ret tb d mc ms Γ) : ∀ q : Nat, q < g_z E → (g_s Γ).heap[q]? = (g_h0 E)[q]? := h.2.2.2.2.2.2.2.2.2.2.2.2.2
/-- a method's end -/
def g_end (E : gE) (Q : Outcome → Nat → gM → Prop) (mc ms : Nat) (s : State) (o : Outcome) (t : State) : Prop :=
  (∃ (N : Nat) (M : gM), Q o N M ∧ g_rep E N M t.heap) ∧ s.WarmedH t.vm ∧ ∃ L : List Loc, s.sameButNew ({ t with vm := s.vm } : State) L mc ms ∧ ∀ q ∈ L, g_z E ≤ q.base
def g_MQ (E : gE) (Q : Outcome → Nat → gM → Prop) (mc ms : Nat) (Γ : gT) : State → Prop := fun t => ∃ o, t.status = .running ∧ Ended t (g_b Γ) o ∧ g_end E Q mc ms (g_s Γ) o t
abbrev g_W (E : gE) (Q : Outcome → Nat → gM → Prop) (mc ms : Nat) (Γ : gT) (H : Heap) (locs : List Loc) (k n : Nat) (g : JFrame) : Prop :=
  W (g_p Γ) (g_l Γ) (g_e Γ) (g_R Γ) (g_s Γ) (g_m Γ) (g_a Γ) (g_b Γ) (g_h Γ) (g_c Γ) H locs k n (g_MQ E Q mc ms Γ) g
def G (l : Launch) (E : gE) (y : MethodName) (cc : ByteArray) (nL : Nat) (ret : Option FieldType) (tb : List ExceptionTableEntry) (d : Nat) (Q : Outcome → Nat → gM → Prop) (mc ms : Nat) (Γ : gT) (pc : Nat) (L : List (Option Value)) (st : List Value) (N : Nat) (M : gM) (k n : Nat) : Prop :=
  g_cx l E y cc nL ret tb d mc ms Γ → ∀ (H : Heap) (locs : List Loc) (ls : Array Slot), g_loc ls nL L → g_rep E N M H → (∀ q ∈ locs, g_z E ≤ q.base) → g_W E Q mc ms Γ H locs k n (F0 (g_m Γ) pc ls st)
/-- a contract -/
def Ctr (l : Launch) (E : gE) (y : MethodName) (d : Nat) (as : List Value) (N : Nat) (M : gM) (mc ms : Nat) (Q : Outcome → Nat → gM → Prop) : Prop :=
  l.flags = Jvm.pinnedFlags ++ [Jvm.noTraceFlag] → MetFree l y (headSpec g_WS (g_rm d mc ms)) (fun a U => a = as.toArray ∧ g_rep E N M U.heap ∧ g_K E U) (fun _ _ _ _ _ => True) (fun _ st o t => g_end E Q mc ms st o t)
/-- it returns v; the heap is as it was -/
def g_val (v : Option Value) (N : Nat) (M : gM) : Outcome → Nat → gM → Prop := fun o N' M' => o = .returned v ∧ N' = N ∧ M' = M
/-- it returns; the heap has changed -/
def g_ret (P : Option Value → Nat → gM → Prop) : Outcome → Nat → gM → Prop := fun o N' M' => ∃ v, o = .returned v ∧ P v N' M'
/-- it throws -/
def g_thr (P : Addr → Nat → gM → Prop) : Outcome → Nat → gM → Prop := fun o N' M' => ∃ a, o = .threw a ∧ P a N' M'
section GROWS
variable {l : Launch} {E : gE} {y : MethodName} {cc : ByteArray} {nL : Nat} {ret : Option FieldType} {tb : List ExceptionTableEntry} {d : Nat} {Q : Outcome → Nat → gM → Prop} {mc ms : Nat} {Γ : gT} {pc : Nat} {L : List (Option Value)} {st : List Value} {N : Nat} {M : gM} {k n : Nat}
theorem g_iconst {c : Int} {v : Int32} (dg : decode cc pc = .ok (.iconst c, 1)) (hv : Int32.ofInt c = v) (kk : G l E y cc nL ret tb d Q mc ms Γ (pc + 1) L (.int v :: st) N M k n) : G l E y cc nL ret tb d Q mc ms Γ pc L st N M k n :=
  fun hc H locs ls hl hr hq => lv_iconst hc.x hc.b dg hv (kk hc H locs ls hl hr hq)
theorem g_bipush {c : Int} {v : Int32} (dg : decode cc pc = .ok (.bipush c, 2)) (hv : (Int8.ofInt c).toInt32 = v) (kk : G l E y cc nL ret tb d Q mc ms Γ (pc + 2) L (.int v :: st) N M k n) : G l E y cc nL ret tb d Q mc ms Γ pc L st N M k n :=
  fun hc H locs ls hl hr hq => lv_bipush hc.x hc.b dg hv (kk hc H locs ls hl hr hq)
theorem g_sipush {c : Int} {v : Int32} (dg : decode cc pc = .ok (.sipush c, 3)) (hv : (Int16.ofInt c).toInt32 = v) (kk : G l E y cc nL ret tb d Q mc ms Γ (pc + 3) L (.int v :: st) N M k n) : G l E y cc nL ret tb d Q mc ms Γ pc L st N M k n :=
  fun hc H locs ls hl hr hq => lv_sipush hc.x hc.b dg hv (kk hc H locs ls hl hr hq)
theorem g_null  (dg : decode cc pc = .ok (.aconst_null, 1)) (kk : G l E y cc nL ret tb d Q mc ms Γ (pc + 1) L (.null :: st) N M k n) : G l E y cc nL ret tb d Q mc ms Γ pc L st N M k n :=
  fun hc H locs ls hl hr hq => lv_null hc.x hc.b dg (kk hc H locs ls hl hr hq)
theorem g_iload_n {i : Fin 4} {x : Int32} (dg : decode cc pc = .ok (.iload_n i, 1)) (hL : L[(i : Nat)]? = some (some (.int x))) (kk : G l E y cc nL ret tb d Q mc ms Γ (pc + 1) L (.int x :: st) N M k n) : G l E y cc nL ret tb d Q mc ms Γ pc L st N M k n :=
  fun hc H locs ls hl hr hq => lv_iload_n hc.x hc.b dg rfl (g_at hl hL) (kk hc H locs ls hl hr hq)
theorem g_aload_n {i : Fin 4} {x : Nat} (dg : decode cc pc = .ok (.aload_n i, 1)) (hL : L[(i : Nat)]? = some (some (.ref x))) (kk : G l E y cc nL ret tb d Q mc ms Γ (pc + 1) L (.ref x :: st) N M k n) : G l E y cc nL ret tb d Q mc ms Γ pc L st N M k n :=
  fun hc H locs ls hl hr hq => lv_aload_n hc.x hc.b dg rfl (g_at hl hL) (kk hc H locs ls hl hr hq)
theorem g_iload {i : Nat} {x : Int32} (dg : decode cc pc = .ok (.iload i, 2)) (hL : L[i]? = some (some (.int x))) (kk : G l E y cc nL ret tb d Q mc ms Γ (pc + 2) L (.int x :: st) N M k n) : G l E y cc nL ret tb d Q mc ms Γ pc L st N M k n :=
  fun hc H locs ls hl hr hq => lv_iload hc.x hc.b dg (g_at hl hL) (kk hc H locs ls hl hr hq)
theorem g_aload {i : Nat} {x : Nat} (dg : decode cc pc = .ok (.aload i, 2)) (hL : L[i]? = some (some (.ref x))) (kk : G l E y cc nL ret tb d Q mc ms Γ (pc + 2) L (.ref x :: st) N M k n) : G l E y cc nL ret tb d Q mc ms Γ pc L st N M k n :=
  fun hc H locs ls hl hr hq => lv_aload hc.x hc.b dg (g_at hl hL) (kk hc H locs ls hl hr hq)
theorem g_istore_n {i : Fin 4} {x : Int32} (dg : decode cc pc = .ok (.istore_n i, 1)) (hi : (i : Nat) < nL) (kk : G l E y cc nL ret tb d Q mc ms Γ (pc + 1) (L.set (i : Nat) (some (.int x))) st N M k n) : G l E y cc nL ret tb d Q mc ms Γ pc L (.int x :: st) N M k n :=
  fun hc H locs ls hl hr hq => lv_istore_n hc.x hc.b dg rfl hl.1 hi rfl (fun ls' h' => kk hc H locs ls' (g_st hl rfl h') hr hq)
theorem g_astore_n {i : Fin 4} {x : Nat} (dg : decode cc pc = .ok (.astore_n i, 1)) (hi : (i : Nat) < nL) (kk : G l E y cc nL ret tb d Q mc ms Γ (pc + 1) (L.set (i : Nat) (some (.ref x))) st N M k n) : G l E y cc nL ret tb d Q mc ms Γ pc L (.ref x :: st) N M k n :=
  fun hc H locs ls hl hr hq => lv_astore_n hc.x hc.b dg rfl hl.1 hi rfl (fun ls' h' => kk hc H locs ls' (g_st hl rfl h') hr hq)
theorem g_istore {i : Nat} {x : Int32} (dg : decode cc pc = .ok (.istore i, 2)) (hi : i < nL) (kk : G l E y cc nL ret tb d Q mc ms Γ (pc + 2) (L.set i (some (.int x))) st N M k n) : G l E y cc nL ret tb d Q mc ms Γ pc L (.int x :: st) N M k n :=
  fun hc H locs ls hl hr hq => lv_istore hc.x hc.b dg hl.1 hi rfl (fun ls' h' => kk hc H locs ls' (g_st hl rfl h') hr hq)
theorem g_astore {i : Nat} {x : Nat} (dg : decode cc pc = .ok (.astore i, 2)) (hi : i < nL) (kk : G l E y cc nL ret tb d Q mc ms Γ (pc + 2) (L.set i (some (.ref x))) st N M k n) : G l E y cc nL ret tb d Q mc ms Γ pc L (.ref x :: st) N M k n :=
  fun hc H locs ls hl hr hq => lv_astore hc.x hc.b dg hl.1 hi rfl (fun ls' h' => kk hc H locs ls' (g_st hl rfl h') hr hq)
theorem g_iinc {i : Nat} {c : Int} {x v : Int32} (dg : decode cc pc = .ok (.iinc i c, 3)) (hL : L[i]? = some (some (.int x))) (hv : x + Int32.ofInt c = v) (hi : i < nL) (kk : G l E y cc nL ret tb d Q mc ms Γ (pc + 3) (L.set i (some (.int v))) st N M k n) : G l E y cc nL ret tb d Q mc ms Γ pc L st N M k n := by
  intro hc H locs ls hl hr hq
  obtain ⟨j, hj⟩ := List.getElem?_of_mem (g_prs_mem hL)
  exact lv_iinc hc.x hc.b dg hl.1 hj hv hi rfl (fun ls' h' => kk hc H locs ls' (g_st hl rfl h') hr hq)
theorem g_iadd {x z : Int32} (dg : decode cc pc = .ok (.iadd, 1)) (kk : G l E y cc nL ret tb d Q mc ms Γ (pc + 1) L (.int (x + z) :: st) N M k n) : G l E y cc nL ret tb d Q mc ms Γ pc L (.int z :: .int x :: st) N M k n :=
  fun hc H locs ls hl hr hq => lv_iadd hc.x hc.b dg (kk hc H locs ls hl hr hq)
theorem g_isub {x z : Int32} (dg : decode cc pc = .ok (.isub, 1)) (kk : G l E y cc nL ret tb d Q mc ms Γ (pc + 1) L (.int (x - z) :: st) N M k n) : G l E y cc nL ret tb d Q mc ms Γ pc L (.int z :: .int x :: st) N M k n :=
  fun hc H locs ls hl hr hq => lv_isub hc.x hc.b dg (kk hc H locs ls hl hr hq)
theorem g_imul {x z : Int32} (dg : decode cc pc = .ok (.imul, 1)) (kk : G l E y cc nL ret tb d Q mc ms Γ (pc + 1) L (.int (x * z) :: st) N M k n) : G l E y cc nL ret tb d Q mc ms Γ pc L (.int z :: .int x :: st) N M k n :=
  fun hc H locs ls hl hr hq => lv_imul hc.x hc.b dg (kk hc H locs ls hl hr hq)
theorem g_iand {x z : Int32} (dg : decode cc pc = .ok (.iand, 1)) (kk : G l E y cc nL ret tb d Q mc ms Γ (pc + 1) L (.int (x &&& z) :: st) N M k n) : G l E y cc nL ret tb d Q mc ms Γ pc L (.int z :: .int x :: st) N M k n :=
  fun hc H locs ls hl hr hq => lv_iand hc.x hc.b dg (kk hc H locs ls hl hr hq)
theorem g_ior {x z : Int32} (dg : decode cc pc = .ok (.ior, 1)) (kk : G l E y cc nL ret tb d Q mc ms Γ (pc + 1) L (.int (x ||| z) :: st) N M k n) : G l E y cc nL ret tb d Q mc ms Γ pc L (.int z :: .int x :: st) N M k n :=
  fun hc H locs ls hl hr hq => lv_ior hc.x hc.b dg (kk hc H locs ls hl hr hq)
theorem g_ixor {x z : Int32} (dg : decode cc pc = .ok (.ixor, 1)) (kk : G l E y cc nL ret tb d Q mc ms Γ (pc + 1) L (.int (x ^^^ z) :: st) N M k n) : G l E y cc nL ret tb d Q mc ms Γ pc L (.int z :: .int x :: st) N M k n :=
  fun hc H locs ls hl hr hq => lv_ixor hc.x hc.b dg (kk hc H locs ls hl hr hq)
theorem g_ineg {x : Int32} (dg : decode cc pc = .ok (.ineg, 1)) (kk : G l E y cc nL ret tb d Q mc ms Γ (pc + 1) L (.int (-x) :: st) N M k n) : G l E y cc nL ret tb d Q mc ms Γ pc L (.int x :: st) N M k n :=
  fun hc H locs ls hl hr hq => lv_ineg hc.x hc.b dg (kk hc H locs ls hl hr hq)
theorem g_idiv {x z : Int32} (dg : decode cc pc = .ok (.idiv, 1)) (hne : ¬ z = 0) (kk : G l E y cc nL ret tb d Q mc ms Γ (pc + 1) L (.int (x / z) :: st) N M k n) : G l E y cc nL ret tb d Q mc ms Γ pc L (.int z :: .int x :: st) N M k n :=
  fun hc H locs ls hl hr hq => lv_idiv hc.x hc.b dg hne (kk hc H locs ls hl hr hq)
theorem g_irem {x z : Int32} (dg : decode cc pc = .ok (.irem, 1)) (hne : ¬ z = 0) (kk : G l E y cc nL ret tb d Q mc ms Γ (pc + 1) L (.int (x - x / z * z) :: st) N M k n) : G l E y cc nL ret tb d Q mc ms Γ pc L (.int z :: .int x :: st) N M k n :=
  fun hc H locs ls hl hr hq => lv_irem hc.x hc.b dg hne (kk hc H locs ls hl hr hq)
theorem g_ishl {x z : Int32} (dg : decode cc pc = .ok (.ishl, 1)) (kk : G l E y cc nL ret tb d Q mc ms Γ (pc + 1) L (.int (x <<< (z &&& 31)) :: st) N M k n) : G l E y cc nL ret tb d Q mc ms Γ pc L (.int z :: .int x :: st) N M k n :=
  fun hc H locs ls hl hr hq => lv_ishl hc.x hc.b dg (kk hc H locs ls hl hr hq)
theorem g_ishr {x z : Int32} (dg : decode cc pc = .ok (.ishr, 1)) (kk : G l E y cc nL ret tb d Q mc ms Γ (pc + 1) L (.int (x >>> (z &&& 31)) :: st) N M k n) : G l E y cc nL ret tb d Q mc ms Γ pc L (.int z :: .int x :: st) N M k n :=
  fun hc H locs ls hl hr hq => lv_ishr hc.x hc.b dg (kk hc H locs ls hl hr hq)
theorem g_iushr {x z v : Int32} (dg : decode cc pc = .ok (.iushr, 1)) (hv : (x.toUInt32 >>> (z.toUInt32 &&& Int32.toUInt32 31)).toInt32 = v) (kk : G l E y cc nL ret tb d Q mc ms Γ (pc + 1) L (.int v :: st) N M k n) : G l E y cc nL ret tb d Q mc ms Γ pc L (.int z :: .int x :: st) N M k n :=
  fun hc H locs ls hl hr hq => lv_iushr hc.x hc.b dg hv (kk hc H locs ls hl hr hq)
theorem g_i2c {x v : Int32} (dg : decode cc pc = .ok (.i2c, 1)) (hv : (x.toUInt32 % 65536).toInt32 = v) (kk : G l E y cc nL ret tb d Q mc ms Γ (pc + 1) L (.int v :: st) N M k n) : G l E y cc nL ret tb d Q mc ms Γ pc L (.int x :: st) N M k n :=
  fun hc H locs ls hl hr hq => lv_i2c hc.x hc.b dg hv (kk hc H locs ls hl hr hq)
theorem g_i2l {x : Int32} {v : Int64} (dg : decode cc pc = .ok (.i2l, 1)) (hv : x.toInt64 = v) (kk : G l E y cc nL ret tb d Q mc ms Γ (pc + 1) L (.long v :: st) N M k n) : G l E y cc nL ret tb d Q mc ms Γ pc L (.int x :: st) N M k n :=
  fun hc H locs ls hl hr hq => lv_i2l hc.x hc.b dg hv (kk hc H locs ls hl hr hq)
theorem g_lcmp {x z : Int64} (dg : decode cc pc = .ok (.lcmp, 1)) (kk : G l E y cc nL ret tb d Q mc ms Γ (pc + 1) L (.int (lg_cmp x z) :: st) N M k n) : G l E y cc nL ret tb d Q mc ms Γ pc L (.long z :: .long x :: st) N M k n :=
  fun hc H locs ls hl hr hq => W.lcmp hc.x hc.b dg (kk hc H locs ls hl hr hq)
theorem g_dup {a : Value} (dg : decode cc pc = .ok (.dup, 1)) (ha : a.category = 1) (kk : G l E y cc nL ret tb d Q mc ms Γ (pc + 1) L (a :: a :: st) N M k n) : G l E y cc nL ret tb d Q mc ms Γ pc L (a :: st) N M k n :=
  fun hc H locs ls hl hr hq => lv_dup hc.x hc.b dg ha (kk hc H locs ls hl hr hq)
theorem g_pop {a : Value} (dg : decode cc pc = .ok (.pop, 1)) (ha : a.category = 1) (kk : G l E y cc nL ret tb d Q mc ms Γ (pc + 1) L st N M k n) : G l E y cc nL ret tb d Q mc ms Γ pc L (a :: st) N M k n :=
  fun hc H locs ls hl hr hq => lv_pop hc.x hc.b dg ha (kk hc H locs ls hl hr hq)
theorem g_dup_x1 {a b : Value} (dg : decode cc pc = .ok (.dup_x1, 1)) (ha : a.category = 1) (hb : b.category = 1) (kk : G l E y cc nL ret tb d Q mc ms Γ (pc + 1) L (a :: b :: a :: st) N M k n) : G l E y cc nL ret tb d Q mc ms Γ pc L (a :: b :: st) N M k n :=
  fun hc H locs ls hl hr hq => lv_dup_x1 hc.x hc.b dg ha hb (kk hc H locs ls hl hr hq)
theorem g_dup2 {a b : Value} (dg : decode cc pc = .ok (.dup2, 1)) (ha : a.category = 1) (hb : b.category = 1) (kk : G l E y cc nL ret tb d Q mc ms Γ (pc + 1) L (a :: b :: a :: b :: st) N M k n) : G l E y cc nL ret tb d Q mc ms Γ pc L (a :: b :: st) N M k n :=
  fun hc H locs ls hl hr hq => lv_dup2_11 hc.x hc.b dg ha hb (kk hc H locs ls hl hr hq)
theorem g_if_eq {x : Int32} {off : Int} {tgt : Nat} (dg : decode cc pc = .ok (.ifCond .eq off, 3)) (ht : (pc : Int) + off = (tgt : Int)) (kt : x = 0 → G l E y cc nL ret tb d Q mc ms Γ tgt L st N M k n) (kf : ¬ x = 0 → G l E y cc nL ret tb d Q mc ms Γ (pc + 3) L st N M k n) : G l E y cc nL ret tb d Q mc ms Γ pc L (.int x :: st) N M k n :=
  fun hc H locs ls hl hr hq => lv_if_eq hc.x hc.b dg ht (fun h => kt h hc H locs ls hl hr hq) (fun h => kf h hc H locs ls hl hr hq)
theorem g_icmp_eq {x z : Int32} {off : Int} {tgt : Nat} (dg : decode cc pc = .ok (.if_icmp .eq off, 3)) (ht : (pc : Int) + off = (tgt : Int)) (kt : x = z → G l E y cc nL ret tb d Q mc ms Γ tgt L st N M k n) (kf : ¬ x = z → G l E y cc nL ret tb d Q mc ms Γ (pc + 3) L st N M k n) : G l E y cc nL ret tb d Q mc ms Γ pc L (.int z :: .int x :: st) N M k n :=
  fun hc H locs ls hl hr hq => lv_icmp_eq hc.x hc.b dg ht (fun h => kt h hc H locs ls hl hr hq) (fun h => kf h hc H locs ls hl hr hq)
theorem g_if_ne {x : Int32} {off : Int} {tgt : Nat} (dg : decode cc pc = .ok (.ifCond .ne off, 3)) (ht : (pc : Int) + off = (tgt : Int)) (kt : ¬ x = 0 → G l E y cc nL ret tb d Q mc ms Γ tgt L st N M k n) (kf : x = 0 → G l E y cc nL ret tb d Q mc ms Γ (pc + 3) L st N M k n) : G l E y cc nL ret tb d Q mc ms Γ pc L (.int x :: st) N M k n :=
  fun hc H locs ls hl hr hq => lv_if_ne hc.x hc.b dg ht (fun h => kt h hc H locs ls hl hr hq) (fun h => kf h hc H locs ls hl hr hq)
theorem g_icmp_ne {x z : Int32} {off : Int} {tgt : Nat} (dg : decode cc pc = .ok (.if_icmp .ne off, 3)) (ht : (pc : Int) + off = (tgt : Int)) (kt : ¬ x = z → G l E y cc nL ret tb d Q mc ms Γ tgt L st N M k n) (kf : x = z → G l E y cc nL ret tb d Q mc ms Γ (pc + 3) L st N M k n) : G l E y cc nL ret tb d Q mc ms Γ pc L (.int z :: .int x :: st) N M k n :=
  fun hc H locs ls hl hr hq => lv_icmp_ne hc.x hc.b dg ht (fun h => kt h hc H locs ls hl hr hq) (fun h => kf h hc H locs ls hl hr hq)
theorem g_if_lt {x : Int32} {off : Int} {tgt : Nat} (dg : decode cc pc = .ok (.ifCond .lt off, 3)) (ht : (pc : Int) + off = (tgt : Int)) (kt : x < 0 → G l E y cc nL ret tb d Q mc ms Γ tgt L st N M k n) (kf : ¬ x < 0 → G l E y cc nL ret tb d Q mc ms Γ (pc + 3) L st N M k n) : G l E y cc nL ret tb d Q mc ms Γ pc L (.int x :: st) N M k n :=
  fun hc H locs ls hl hr hq => lv_if_lt hc.x hc.b dg ht (fun h => kt h hc H locs ls hl hr hq) (fun h => kf h hc H locs ls hl hr hq)
theorem g_icmp_lt {x z : Int32} {off : Int} {tgt : Nat} (dg : decode cc pc = .ok (.if_icmp .lt off, 3)) (ht : (pc : Int) + off = (tgt : Int)) (kt : x < z → G l E y cc nL ret tb d Q mc ms Γ tgt L st N M k n) (kf : ¬ x < z → G l E y cc nL ret tb d Q mc ms Γ (pc + 3) L st N M k n) : G l E y cc nL ret tb d Q mc ms Γ pc L (.int z :: .int x :: st) N M k n :=
  fun hc H locs ls hl hr hq => lv_icmp_lt hc.x hc.b dg ht (fun h => kt h hc H locs ls hl hr hq) (fun h => kf h hc H locs ls hl hr hq)
theorem g_if_ge {x : Int32} {off : Int} {tgt : Nat} (dg : decode cc pc = .ok (.ifCond .ge off, 3)) (ht : (pc : Int) + off = (tgt : Int)) (kt : 0 ≤ x → G l E y cc nL ret tb d Q mc ms Γ tgt L st N M k n) (kf : ¬ 0 ≤ x → G l E y cc nL ret tb d Q mc ms Γ (pc + 3) L st N M k n) : G l E y cc nL ret tb d Q mc ms Γ pc L (.int x :: st) N M k n :=
  fun hc H locs ls hl hr hq => lv_if_ge hc.x hc.b dg ht (fun h => kt h hc H locs ls hl hr hq) (fun h => kf h hc H locs ls hl hr hq)
theorem g_icmp_ge {x z : Int32} {off : Int} {tgt : Nat} (dg : decode cc pc = .ok (.if_icmp .ge off, 3)) (ht : (pc : Int) + off = (tgt : Int)) (kt : z ≤ x → G l E y cc nL ret tb d Q mc ms Γ tgt L st N M k n) (kf : ¬ z ≤ x → G l E y cc nL ret tb d Q mc ms Γ (pc + 3) L st N M k n) : G l E y cc nL ret tb d Q mc ms Γ pc L (.int z :: .int x :: st) N M k n :=
  fun hc H locs ls hl hr hq => lv_icmp_ge hc.x hc.b dg ht (fun h => kt h hc H locs ls hl hr hq) (fun h => kf h hc H locs ls hl hr hq)
theorem g_if_gt {x : Int32} {off : Int} {tgt : Nat} (dg : decode cc pc = .ok (.ifCond .gt off, 3)) (ht : (pc : Int) + off = (tgt : Int)) (kt : 0 < x → G l E y cc nL ret tb d Q mc ms Γ tgt L st N M k n) (kf : ¬ 0 < x → G l E y cc nL ret tb d Q mc ms Γ (pc + 3) L st N M k n) : G l E y cc nL ret tb d Q mc ms Γ pc L (.int x :: st) N M k n :=
  fun hc H locs ls hl hr hq => lv_if_gt hc.x hc.b dg ht (fun h => kt h hc H locs ls hl hr hq) (fun h => kf h hc H locs ls hl hr hq)
theorem g_icmp_gt {x z : Int32} {off : Int} {tgt : Nat} (dg : decode cc pc = .ok (.if_icmp .gt off, 3)) (ht : (pc : Int) + off = (tgt : Int)) (kt : z < x → G l E y cc nL ret tb d Q mc ms Γ tgt L st N M k n) (kf : ¬ z < x → G l E y cc nL ret tb d Q mc ms Γ (pc + 3) L st N M k n) : G l E y cc nL ret tb d Q mc ms Γ pc L (.int z :: .int x :: st) N M k n :=
  fun hc H locs ls hl hr hq => lv_icmp_gt hc.x hc.b dg ht (fun h => kt h hc H locs ls hl hr hq) (fun h => kf h hc H locs ls hl hr hq)
theorem g_if_le {x : Int32} {off : Int} {tgt : Nat} (dg : decode cc pc = .ok (.ifCond .le off, 3)) (ht : (pc : Int) + off = (tgt : Int)) (kt : x ≤ 0 → G l E y cc nL ret tb d Q mc ms Γ tgt L st N M k n) (kf : ¬ x ≤ 0 → G l E y cc nL ret tb d Q mc ms Γ (pc + 3) L st N M k n) : G l E y cc nL ret tb d Q mc ms Γ pc L (.int x :: st) N M k n :=
  fun hc H locs ls hl hr hq => lv_if_le hc.x hc.b dg ht (fun h => kt h hc H locs ls hl hr hq) (fun h => kf h hc H locs ls hl hr hq)
theorem g_icmp_le {x z : Int32} {off : Int} {tgt : Nat} (dg : decode cc pc = .ok (.if_icmp .le off, 3)) (ht : (pc : Int) + off = (tgt : Int)) (kt : x ≤ z → G l E y cc nL ret tb d Q mc ms Γ tgt L st N M k n) (kf : ¬ x ≤ z → G l E y cc nL ret tb d Q mc ms Γ (pc + 3) L st N M k n) : G l E y cc nL ret tb d Q mc ms Γ pc L (.int z :: .int x :: st) N M k n :=
  fun hc H locs ls hl hr hq => lv_icmp_le hc.x hc.b dg ht (fun h => kt h hc H locs ls hl hr hq) (fun h => kf h hc H locs ls hl hr hq)
theorem g_goto {off : Int} {tgt : Nat} (dg : decode cc pc = .ok (.goto off, 3)) (ht : (pc : Int) + off = (tgt : Int)) (kk : G l E y cc nL ret tb d Q mc ms Γ tgt L st N M k n) : G l E y cc nL ret tb d Q mc ms Γ pc L st N M k n :=
  fun hc H locs ls hl hr hq => lv_goto hc.x hc.b dg ht (kk hc H locs ls hl hr hq)
theorem g_tableOut {dflt lo hi : Int} {offs : Array Int} {len : Nat} {x : Int32} {tgt : Nat} (dg : decode cc pc = .ok (.tableswitch dflt lo hi offs, len)) (h : x.toInt < lo ∨ hi < x.toInt) (ht : (pc : Int) + dflt = (tgt : Int)) (kk : G l E y cc nL ret tb d Q mc ms Γ tgt L st N M k n) : G l E y cc nL ret tb d Q mc ms Γ pc L (.int x :: st) N M k n :=
  fun hc H locs ls hl hr hq => lv_tableOut hc.x hc.b dg h ht (kk hc H locs ls hl hr hq)
theorem g_tableIn {dflt lo hi : Int} {offs : Array Int} {len : Nat} {x : Int32} {off : Int} {tgt : Nat} (dg : decode cc pc = .ok (.tableswitch dflt lo hi offs, len)) (h1 : ¬ x.toInt < lo) (h2 : ¬ hi < x.toInt) (ho : offs[(x.toInt - lo).toNat]? = some off) (ht : (pc : Int) + off = (tgt : Int)) (kk : G l E y cc nL ret tb d Q mc ms Γ tgt L st N M k n) : G l E y cc nL ret tb d Q mc ms Γ pc L (.int x :: st) N M k n :=
  fun hc H locs ls hl hr hq => lv_tableIn hc.x hc.b dg h1 h2 ho ht (kk hc H locs ls hl hr hq)
theorem g_topi {x : Int32} (kk : ∀ z : Int32, z = x → G l E y cc nL ret tb d Q mc ms Γ pc L (.int z :: st) N M k n) : G l E y cc nL ret tb d Q mc ms Γ pc L (.int x :: st) N M k n := kk x rfl
/-- other words for a value -/
theorem g_eqi {x z : Int32} (h : x = z) (kk : G l E y cc nL ret tb d Q mc ms Γ pc L (.int z :: st) N M k n) : G l E y cc nL ret tb d Q mc ms Γ pc L (.int x :: st) N M k n := h ▸ kk
theorem g_eqs {st' : List Value} (h : st = st') (kk : G l E y cc nL ret tb d Q mc ms Γ pc L st' N M k n) : G l E y cc nL ret tb d Q mc ms Γ pc L st N M k n := h ▸ kk
theorem g_eqL {L' : List (Option Value)} (h : L = L') (kk : G l E y cc nL ret tb d Q mc ms Γ pc L' st N M k n) : G l E y cc nL ret tb d Q mc ms Γ pc L st N M k n := h ▸ kk
theorem g_eqM {M' : gM} (h : M = M') (kk : G l E y cc nL ret tb d Q mc ms Γ pc L st N M' k n) : G l E y cc nL ret tb d Q mc ms Γ pc L st N M k n := h ▸ kk
theorem g_wide {k' n' : Nat} (h1 : k ≤ k') (h2 : n ≤ n') (kk : G l E y cc nL ret tb d Q mc ms Γ pc L st N M k' n') : G l E y cc nL ret tb d Q mc ms Γ pc L st N M k n :=
  fun hc H locs ls hl hr hq => W.widen h1 h2 (kk hc H locs ls hl hr hq)
/-- a field: its number in the pool of the user's own file, its object's number, its place -/
def g_F (own : String) (index ci f : Nat) : Prop := ∃ (C : String) (T : u_T) (NN : Nat), classes[ci]? = some (C, T, NN) ∧ f < NN ∧ (∀ w ∈ u_ws C T NN, w ∈ g_WS) ∧ Cond.fieldLink own index (T f).1 (T f).2.1 (T f).2.2.1 ∈ g_WS
theorem g_get {index ci f a : Nat} {fs : List Value} {v : Value} (hF : g_F y.cls index ci f) (hM : M a = some (.inr (ci, fs))) (hv : fs[f]? = some v) (dg : decode cc pc = .ok (.getfield index, 3)) (kk : G l E y cc nL ret tb d Q mc ms Γ (pc + 3) L (v :: st) N M k n) : G l E y cc nL ret tb d Q mc ms Γ pc L (.ref a :: st) N M k n := by
  intro hc H locs ls hl hr hq
  obtain ⟨C, T, NN, h1, h2, h3, h4⟩ := hF
  exact va_get (ws := [(a, .inr (ci, fs))]) hc.x hc.b hc.t h3 hc.o hc.K.1 (fun j q hj => by
    cases j with
    | zero => cases hj; exact hr.at hM
    | succ j => cases hj) 0 rfl h1 f h2 (hc.t _ h4) (fun _ h => h) hv dg (kk hc H locs ls hl hr hq)
/-- what a store asks of a field -/
def g_FP (own : String) (index ci f : Nat) (ty : FieldType) (fin : Bool) : Prop := ∃ (C : String) (T : u_T) (NN : Nat), classes[ci]? = some (C, T, NN) ∧ f < NN ∧ (∀ w ∈ u_ws C T NN, w ∈ g_WS) ∧ Cond.fieldLink own index (T f).1 (T f).2.1 (T f).2.2.1 ∈ g_WS ∧
  (T f).2.2.2 = fin ∧ parseFieldDescriptor (T f).2.2.1 = some ty ∧ (fin = true → (T f).1 = own) ∧ (∃ ty0 : Nat → FieldType, ∀ j, j < NN → parseFieldDescriptor (T j).2.2.1 = some (ty0 j)) ∧ ∀ a, a < NN → ∀ b, b < NN → a ≠ b → (T a).2.1 ≠ (T b).2.1
theorem g_put {index ci f a : Nat} {fs : List Value} {v : Value} {ty : FieldType} (hF : g_FP y.cls index ci f ty false) (hM : M a = some (.inr (ci, fs))) (hl0 : f < fs.length) (hn : narrow ty v = v) (hfit : fits ty v = true) (dg : decode cc pc = .ok (.putfield index, 3)) (kk : G l E y cc nL ret tb d Q mc ms Γ (pc + 3) L st N (va_up M a (some (.inr (ci, fs.set f v)))) k n) : G l E y cc nL ret tb d Q mc ms Γ pc L (v :: .ref a :: st) N M k n := by
  intro hc H locs ls hl hr hq
  obtain ⟨C, T, NN, h1, h2, h3, h4, h5, h6, -, ⟨ty0, h7⟩, h8⟩ := hF
  have hK := hc.K.1
  have hap := va_apart (own := y.cls) hc.t h3 ty0 h7 h8 hK h1
  obtain ⟨r, q0, cell, q1, q2, q3, q4⟩ := hr.at hM
  have hr0 : r = (C, T, NN) := Option.some.inj (q0.symm.trans h1)
  subst hr0
  obtain ⟨hS, hfc, kC, hkC, hkind⟩ := hK.1 ci _ h1
  obtain ⟨cf, kf, fi, fd, hi, hsl⟩ := hS f h2
  have hlay := hc.t _ (h3 _ (u_in_lay h2))
  unfold u_lay at hlay
  rw [if_neg (by rw [h5]; decide)] at hlay
  have hst := (u_facts hfc hkC (u_lays hc.t h3 h2) hi).1
  have h9 := u_store hfc hkC hkind hlay hi h6 hn hfit
  refine W.putK hc.x hc.b (f := fd) ⟨hc.o, hc.t _ h4, ⟨_, _, _, hi⟩, hst⟩ (by rw [q2]; exact h9) q1 q3 (by rw [hsl]; exact k2_hasslot (q4 f h2)) rfl rfl dg fun H' e1 e2 e3 => ?_
  rw [hsl] at e1
  refine kk hc H' _ ls hl (hr.put (hr.ge hM) e2 e3 ⟨_, h1, t_OB.to (V := updV (vp_V fs) f v) ⟨_, e1, q2, q3, t_set q4 hap h2 v⟩ (fun j _ => vp_updV_set hl0 v j)⟩) (t_lc hq (hr.ge hM))
theorem g_putF {index ci f a : Nat} {fs : List Value} {v : Value} {ty : FieldType} (hF : g_FP y.cls index ci f ty true) (hy : y.name = "<init>") (hM : M a = some (.inr (ci, fs))) (hl0 : f < fs.length) (hn : narrow ty v = v) (hfit : fits ty v = true) (dg : decode cc pc = .ok (.putfield index, 3)) (kk : G l E y cc nL ret tb d Q mc ms Γ (pc + 3) L st N (va_up M a (some (.inr (ci, fs.set f v)))) k n) : G l E y cc nL ret tb d Q mc ms Γ pc L (v :: .ref a :: st) N M k n := by
  intro hc H locs ls hl hr hq
  obtain ⟨C, T, NN, h1, h2, h3, h4, h5, h6, h0, ⟨ty0, h7⟩, h8⟩ := hF
  have hK := hc.K.1
  have hdecl := h0 rfl
  have hap := va_apart (own := y.cls) hc.t h3 ty0 h7 h8 hK h1
  obtain ⟨r, q0, cell, q1, q2, q3, q4⟩ := hr.at hM
  have hr0 : r = (C, T, NN) := Option.some.inj (q0.symm.trans h1)
  subst hr0
  obtain ⟨hS, hfc, kC, hkC, hkind⟩ := hK.1 ci _ h1
  obtain ⟨cf, kf, fi, fd, hi, hsl⟩ := hS f h2
  have hlay := hc.t _ (h3 _ (u_in_lay h2))
  unfold u_lay at hlay
  rw [if_pos h5] at hlay
  have hst := (u_facts hfc hkC (u_lays hc.t h3 h2) hi).1
  have hcf : (g_m Γ).cls = cf := by
    obtain ⟨_, _, c', _, _, _, -, -, hf', -, -, -, hown2, -⟩ := Cond.laysFinal_spec hlay
    have e1 : c' = cf := by have := hi.symm.trans hf'; simp at this; exact this.1.symm
    rw [hdecl] at hown2
    rw [← e1]; exact Option.some.inj (hc.o.symm.trans hown2)
  have h9 := u_fits hfc hkC hkind (Or.inr hlay) hi h6 hn hfit
  refine W.putFinK hc.x hc.b hc.o (hc.t _ h4) hi hst hcf (hc.n.trans hy) (by rw [q2]; exact h9) q1 q3 (by rw [hsl]; exact k2_hasslot (q4 f h2)) rfl rfl dg fun H' e1 e2 e3 => ?_
  rw [hsl] at e1
  refine kk hc H' _ ls hl (hr.put (hr.ge hM) e2 e3 ⟨_, h1, t_OB.to (V := updV (vp_V fs) f v) ⟨_, e1, q2, q3, t_set q4 hap h2 v⟩ (fun j _ => vp_updV_set hl0 v j)⟩) (t_lc hq (hr.ge hM))
abbrev g_ia (E : gE) (nn : Nat) (f : Nat → Int32) : va_E := .inl (E.2.1 0, nn, .inl f)
abbrev g_ca (E : gE) (nn : Nat) (f : Nat → Int32) : va_E := .inl (E.2.1 1, nn, .inl f)
abbrev g_la (E : gE) (nn : Nat) (f : Nat → Int64) : va_E := .inl (E.2.1 2, nn, .inr (.inl f))
abbrev g_qa (E : gE) (t nn : Nat) (f : Nat → Option Nat) : va_E := .inl (E.2.1 t, nn, .inr (.inr (.inr (.inr f))))
theorem g_one {E : gE} {N : Nat} {M : gM} {H : Heap} (hr : g_rep E N M H) {a : Nat} {x : va_E} (hM : M a = some x) : va_P E.1 classes [(a, x)] H := fun j q hj => by
  cases j with
  | zero => cases hj; exact hr.at hM
  | succ j => cases hj
theorem g_iald {a nn : Nat} {f : Nat → Int32} {i : Int32} (j : Nat) (hM : M a = some (g_ia E nn f)) (hi : i = nI j) (hj : j < nn) (hs : nn < 2 ^ 31) (dg : decode cc pc = .ok (.iaload, 1)) (kk : G l E y cc nL ret tb d Q mc ms Γ (pc + 1) L (.int (f j) :: st) N M k n) : G l E y cc nL ret tb d Q mc ms Γ pc L (.int i :: .ref a :: st) N M k n := by
  intro hc H locs ls hl hr hq
  subst hi
  refine va_iald hc.x hc.b hc.K.1 (g_one hr hM) 0 0 rfl rfl (vp_in_nI hj hs) dg ?_
  rw [nI_clamp (Nat.lt_trans hj hs)]
  exact kk hc H locs ls hl hr hq
theorem g_cald {a nn : Nat} {f : Nat → Int32} {i : Int32} (j : Nat) (hM : M a = some (g_ca E nn f)) (hi : i = nI j) (hj : j < nn) (hs : nn < 2 ^ 31) (dg : decode cc pc = .ok (.caload, 1)) (kk : G l E y cc nL ret tb d Q mc ms Γ (pc + 1) L (.int (f j) :: st) N M k n) : G l E y cc nL ret tb d Q mc ms Γ pc L (.int i :: .ref a :: st) N M k n := by
  intro hc H locs ls hl hr hq
  subst hi
  refine va_cald hc.x hc.b hc.K.1 (g_one hr hM) 0 1 rfl rfl (vp_in_nI hj hs) dg ?_
  rw [nI_clamp (Nat.lt_trans hj hs)]
  exact kk hc H locs ls hl hr hq
theorem g_lald {a nn : Nat} {f : Nat → Int64} {i : Int32} (j : Nat) (hM : M a = some (g_la E nn f)) (hi : i = nI j) (hj : j < nn) (hs : nn < 2 ^ 31) (dg : decode cc pc = .ok (.laload, 1)) (kk : G l E y cc nL ret tb d Q mc ms Γ (pc + 1) L (.long (f j) :: st) N M k n) : G l E y cc nL ret tb d Q mc ms Γ pc L (.int i :: .ref a :: st) N M k n := by
  intro hc H locs ls hl hr hq
  subst hi
  refine va_lald hc.x hc.b hc.K.1 (g_one hr hM) 0 2 rfl rfl (vp_in_nI hj hs) dg ?_
  rw [nI_clamp (Nat.lt_trans hj hs)]
  exact kk hc H locs ls hl hr hq
theorem g_iast {a nn : Nat} {f : Nat → Int32} {i : Int32} {x : Int32} (j : Nat) (hM : M a = some (g_ia E nn f)) (hi : i = nI j) (hj : j < nn) (hs : nn < 2 ^ 31) (dg : decode cc pc = .ok (.iastore, 1)) (kk : G l E y cc nL ret tb d Q mc ms Γ (pc + 1) L st N (va_up M a (some (g_ia E nn (upd f j x)))) k n) : G l E y cc nL ret tb d Q mc ms Γ pc L (.int x :: .int i :: .ref a :: st) N M k n := by
  intro hc H locs ls hl hr hq
  subst hi
  have hin := vp_in_nI hj hs
  have hcl := nI_clamp (Nat.lt_trans hj hs)
  refine W.iast hc.x hc.b (hr.at hM) ((hc.K.1.2 0 _ rfl).1 nn (fun j => .int (f j))) (fun q => by cases q) (by show ¬ (nI j < 0 ∨ (arrV _ _ _).slots.size ≤ _); rw [arrV_size]; exact hin) rfl rfl dg fun H1 e z oq => ?_
  refine kk hc H1 _ ls hl (hr.put (hr.ge hM) z oq ?_) (t_lc hq (hr.ge hM))
  show H1[a]? = some (vp_cell _ _)
  rw [e, hcl, vp_cell_i, vp_cell_i, arrV_store]
  congr 2
  funext q
  by_cases hq2 : q = j
  · subst hq2
    simp [updV, upd]
  · simp [updV, upd, hq2]
theorem g_last {a nn : Nat} {f : Nat → Int64} {i : Int32} {x : Int64} (j : Nat) (hM : M a = some (g_la E nn f)) (hi : i = nI j) (hj : j < nn) (hs : nn < 2 ^ 31) (dg : decode cc pc = .ok (.lastore, 1)) (kk : G l E y cc nL ret tb d Q mc ms Γ (pc + 1) L st N (va_up M a (some (g_la E nn (vp_updL f j x)))) k n) : G l E y cc nL ret tb d Q mc ms Γ pc L (.long x :: .int i :: .ref a :: st) N M k n := by
  intro hc H locs ls hl hr hq
  subst hi
  have hin := vp_in_nI hj hs
  have hcl := nI_clamp (Nat.lt_trans hj hs)
  refine W.last hc.x hc.b (hr.at hM) ((hc.K.1.2 2 _ rfl).1 nn (fun j => .long (f j))) (fun q => by cases q) (by show ¬ (nI j < 0 ∨ (arrV _ _ _).slots.size ≤ _); rw [arrV_size]; exact hin) rfl rfl dg fun H1 e z oq => ?_
  refine kk hc H1 _ ls hl (hr.put (hr.ge hM) z oq ?_) (t_lc hq (hr.ge hM))
  show H1[a]? = some (vp_cell _ _)
  rw [e, hcl, vp_cell_l, vp_cell_l, arrV_store]
  congr 2
  funext q
  by_cases hq2 : q = j
  · subst hq2
    simp [updV, vp_updL]
  · simp [updV, vp_updL, hq2]
theorem g_cast {a nn : Nat} {f : Nat → Int32} {i x : Int32} (j : Nat) (hM : M a = some (g_ca E nn f)) (hi : i = nI j) (hj : j < nn) (hs : nn < 2 ^ 31) (hx : vp_nar .char x = x) (dg : decode cc pc = .ok (.castore, 1)) (kk : G l E y cc nL ret tb d Q mc ms Γ (pc + 1) L st N (va_up M a (some (g_ca E nn (upd f j x)))) k n) : G l E y cc nL ret tb d Q mc ms Γ pc L (.int x :: .int i :: .ref a :: st) N M k n := by
  intro hc H locs ls hl hr hq
  subst hi
  have hin := vp_in_nI hj hs
  have hcl := nI_clamp (Nat.lt_trans hj hs)
  refine W.cast hc.x hc.b (hr.at hM) ((hc.K.1.2 1 _ rfl).1 nn (fun j => .int (f j))) (fun q => by cases q) (by show ¬ (nI j < 0 ∨ (arrV _ _ _).slots.size ≤ _); rw [arrV_size]; exact hin) rfl rfl dg fun H1 e z oq => ?_
  refine kk hc H1 _ ls hl (hr.put (hr.ge hM) z oq ?_) (t_lc hq (hr.ge hM))
  have hx2 : narrow .char (.int x) = .int x := by
    have h := hx
    unfold vp_nar at h
    show (Value.int _) = .int x
    exact congrArg Value.int h
  show H1[a]? = some (vp_cell _ _)
  rw [e, hcl, vp_cell_i, vp_cell_i, arrV_store]
  congr 2
  funext q
  by_cases hq2 : q = j
  · subst hq2
    simp [updV, upd, hx2]
  · simp [updV, upd, hq2]
theorem g_alen {a nn t : Nat} {c0 : (Nat → Int32) ⊕ (Nat → Int64) ⊕ (Nat → UInt32) ⊕ (Nat → UInt64) ⊕ (Nat → Option Nat)} {ty : FieldType} (hM : M a = some (.inl (E.2.1 t, nn, c0))) (ht : (g_tys E)[t]? = some (E.2.1 t, ty)) (dg : decode cc pc = .ok (.arraylength, 1)) (kk : G l E y cc nL ret tb d Q mc ms Γ (pc + 1) L (.int (nI nn) :: st) N M k n) : G l E y cc nL ret tb d Q mc ms Γ pc L (.ref a :: st) N M k n :=
  fun hc H locs ls hl hr hq => va_alen hc.x hc.b hc.K.1 (g_one hr hM) 0 t rfl ht rfl dg (kk hc H locs ls hl hr hq)
theorem g_aald {a nn t b : Nat} {f : Nat → Option Nat} {i : Int32} {ty : FieldType} (j : Nat) (hM : M a = some (g_qa E t nn f)) (ht : (g_tys E)[t]? = some (E.2.1 t, ty)) (hty : ty.isReference = true) (hi : i = nI j) (hj : j < nn) (hs : nn < 2 ^ 31) (hb : f j = some b) (dg : decode cc pc = .ok (.aaload, 1)) (kk : G l E y cc nL ret tb d Q mc ms Γ (pc + 1) L (.ref b :: st) N M k n) : G l E y cc nL ret tb d Q mc ms Γ pc L (.int i :: .ref a :: st) N M k n := by
  intro hc H locs ls hl hr hq
  subst hi
  have hin := vp_in_nI hj hs
  have hcl := nI_clamp (Nat.lt_trans hj hs)
  exact W.aald (v := .ref b) hc.x hc.b (hr.at hM) ((hc.K.1.2 t _ ht).1 nn (fun j => va_rf (f j))) hty (fun q => by cases q) (by show ¬ (nI j < 0 ∨ (arrV _ _ _).slots.size ≤ _); rw [arrV_size]; exact hin) (by show (arrV _ _ _).slots[_]? = _; rw [hcl, arrV_read _ _ hj, hb]; rfl) rfl rfl dg (kk hc H locs ls hl hr hq)
theorem g_aast {a nn t b ci : Nat} {f : Nat → Option Nat} {i : Int32} {r : vw_C} {fs : List Value} (j : Nat) (hM : M a = some (g_qa E t nn f)) (hc0 : classes[ci]? = some r) (ht : (g_tys E)[t]? = some (E.2.1 t, .object r.1)) (hb : M b = some (.inr (ci, fs))) (hi : i = nI j) (hj : j < nn) (hs : nn < 2 ^ 31) (dg : decode cc pc = .ok (.aastore, 1)) (kk : G l E y cc nL ret tb d Q mc ms Γ (pc + 1) L st N (va_up M a (some (g_qa E t nn (va_up f j (some b))))) k n) : G l E y cc nL ret tb d Q mc ms Γ pc L (.ref b :: .int i :: .ref a :: st) N M k n := by
  intro hc H locs ls hl hr hq
  subst hi
  have hin := vp_in_nI hj hs
  have hcl := nI_clamp (Nat.lt_trans hj hs)
  obtain ⟨r', hr', cellV, g1, g2, g3, -⟩ := hr.at hb
  have hcls := (hc.K.1.1 ci r hc0).2
  obtain ⟨kA, comp, k1, k2, k3, -⟩ := (hc.K.1.2 t _ ht).2
  have hcomp : comp = E.1.1 ci := Option.some.inj (k3.symm.trans hcls.1)
  subst hcomp
  obtain ⟨kC, hkC, hkd⟩ := hcls.2
  refine W.aast hc.x hc.b (hr.at hM) (fun q h => by cases h) (fun h => by cases h) k1 k2 rfl hkC ⟨fun q => hin (Or.inl q), by show _ < (arrV _ _ _).slots.size; rw [arrV_size, hcl]; exact hj⟩ g1 (fun q h => by rw [g3] at h; cases h) (by rw [g2]; exact hkC) (by rw [g2]; exact va_assign hcls) rfl rfl dg fun H1 e z oq => ?_
  refine kk hc H1 _ ls hl (hr.put (hr.ge hM) z oq ?_) (t_lc hq (hr.ge hM))
  show H1[a]? = some (vp_cell _ _)
  rw [e, hcl, vp_cell_q, vp_cell_q, arrV_store]
  congr 2
  funext q
  by_cases hq2 : q = j
  · subst hq2
    simp [updV, va_up, va_rf]
  · simp [updV, va_up, hq2]
/-- a new object -/
def g_N (own : String) (index ci NN : Nat) (fs : List Value) : Prop := ∃ (C : String) (T : u_T), classes[ci]? = some (C, T, NN) ∧ (∀ w ∈ u_ws C T NN, w ∈ g_WS) ∧ Cond.classLink own index C ∈ g_WS ∧ Cond.instantiable C NN ∈ g_WS ∧ Cond.initialized C ∈ g_WS ∧ ∃ ty0 : Nat → FieldType, (∀ j, j < NN → parseFieldDescriptor (T j).2.2.1 = some (ty0 j)) ∧ ∀ j, j < NN → defaultValue (ty0 j) = vp_V fs j
theorem g_new {index ci NN : Nat} {fs : List Value} (hN : g_N y.cls index ci NN fs) (hk : k + 1 ≤ mc) (hs : n + NN ≤ ms) (dg : decode cc pc = .ok (.new index, 3)) (kk : G l E y cc nL ret tb d Q mc ms Γ (pc + 3) L (.ref N :: st) (N + 1) (va_up M N (some (.inr (ci, fs)))) (k + 1) (n + NN)) : G l E y cc nL ret tb d Q mc ms Γ pc L st N M k n := by
  intro hc H locs ls hl hr hq
  obtain ⟨C, T, h1, h2, h3, h4, h5, ty0, h6, h7⟩ := hN
  have hKn := hc.K.1.1 ci _ h1
  refine W.newcK hc.x hc.b hc.o (hc.t _ h3) (hc.t _ h4) (hc.t _ h5) rfl dg (by rw [hc.R]; exact hk) (by rw [hc.R]; exact hs) hKn.2.1 hr.1 fun H1 kC hkC e1 z1 o1 => ?_
  exact kk hc H1 locs ls hl (hr.push z1 o1 ⟨_, h1, (u_born ty0 hc.t h2 hKn hkC e1 h6).to h7⟩) hq
theorem g_newi {i : Int32} (nn : Nat) (hw : Cond.arrayClass .int ∈ g_WS) (hi : i = nI nn) (hs : nn < 60000) (hk : k + 1 ≤ mc) (hsl : n + nn ≤ ms) (dg : decode cc pc = .ok (.newarray .int, 2)) (kk : G l E y cc nL ret tb d Q mc ms Γ (pc + 2) L (.ref N :: st) (N + 1) (va_up M N (some (g_ia E nn (fun _ => 0)))) (k + 1) (n + nn)) : G l E y cc nL ret tb d Q mc ms Γ pc L (.int i :: st) N M k n := by
  intro hc H locs ls hl hr hq
  subst hi
  have h31 : nn < 2 ^ 31 := by omega
  refine va_newaK hc.x hc.b (atype := .int) (hc.t _ hw) rfl dg rfl (nI_pos h31) (nI_clamp h31) (by simp [newarray.typeOf, componentBytes]; omega) (by rw [hc.R]; exact hk) (by rw [hc.R]; exact hsl) hr.1 fun H1 cA e1 z1 o1 _ hf => ?_
  have hA : cA = E.2.1 0 := Option.some.inj (hf.symm.trans (hc.K.1.2 0 _ rfl).2)
  subst hA
  exact kk hc H1 locs ls hl (hr.push z1 o1 e1) hq
theorem g_newc {i : Int32} (nn : Nat) (hw : Cond.arrayClass .char ∈ g_WS) (hi : i = nI nn) (hs : nn < 60000) (hk : k + 1 ≤ mc) (hsl : n + nn ≤ ms) (dg : decode cc pc = .ok (.newarray .char, 2)) (kk : G l E y cc nL ret tb d Q mc ms Γ (pc + 2) L (.ref N :: st) (N + 1) (va_up M N (some (g_ca E nn (fun _ => 0)))) (k + 1) (n + nn)) : G l E y cc nL ret tb d Q mc ms Γ pc L (.int i :: st) N M k n := by
  intro hc H locs ls hl hr hq
  subst hi
  have h31 : nn < 2 ^ 31 := by omega
  refine va_newaK hc.x hc.b (atype := .char) (hc.t _ hw) rfl dg rfl (nI_pos h31) (nI_clamp h31) (by simp [newarray.typeOf, componentBytes]; omega) (by rw [hc.R]; exact hk) (by rw [hc.R]; exact hsl) hr.1 fun H1 cA e1 z1 o1 _ hf => ?_
  have hA : cA = E.2.1 1 := Option.some.inj (hf.symm.trans (hc.K.1.2 1 _ rfl).2)
  subst hA
  exact kk hc H1 locs ls hl (hr.push z1 o1 e1) hq
theorem g_newl {i : Int32} (nn : Nat) (hw : Cond.arrayClass .long ∈ g_WS) (hi : i = nI nn) (hs : nn < 60000) (hk : k + 1 ≤ mc) (hsl : n + nn ≤ ms) (dg : decode cc pc = .ok (.newarray .long, 2)) (kk : G l E y cc nL ret tb d Q mc ms Γ (pc + 2) L (.ref N :: st) (N + 1) (va_up M N (some (g_la E nn (fun _ => 0)))) (k + 1) (n + nn)) : G l E y cc nL ret tb d Q mc ms Γ pc L (.int i :: st) N M k n := by
  intro hc H locs ls hl hr hq
  subst hi
  have h31 : nn < 2 ^ 31 := by omega
  refine va_newaK hc.x hc.b (atype := .long) (hc.t _ hw) rfl dg rfl (nI_pos h31) (nI_clamp h31) (by simp [newarray.typeOf, componentBytes]; omega) (by rw [hc.R]; exact hk) (by rw [hc.R]; exact hsl) hr.1 fun H1 cA e1 z1 o1 _ hf => ?_
  have hA : cA = E.2.1 2 := Option.some.inj (hf.symm.trans (hc.K.1.2 2 _ rfl).2)
  subst hA
  exact kk hc H1 locs ls hl (hr.push z1 o1 e1) hq
theorem g_newq {index : Nat} {i : Int32} {C : String} (t nn : Nat) (ht : (g_tys E)[t]? = some (E.2.1 t, .object C)) (hw1 : Cond.classLink y.cls index C ∈ g_WS) (hw2 : ∀ (a : Array Value) (U : State), g_K E U → (Cond.arrayOver (.object C)).before a U = true) (hi : i = nI nn) (hs : nn < 60000) (hk : k + 1 ≤ mc) (hsl : n + nn ≤ ms) (dg : decode cc pc = .ok (.anewarray index, 3)) (kk : G l E y cc nL ret tb d Q mc ms Γ (pc + 3) L (.ref N :: st) (N + 1) (va_up M N (some (g_qa E t nn (fun _ => none)))) (k + 1) (n + nn)) : G l E y cc nL ret tb d Q mc ms Γ pc L (.int i :: st) N M k n := by
  intro hc H locs ls hl hr hq
  subst hi
  have h31 : nn < 2 ^ 31 := by omega
  have hcl := nI_clamp h31
  refine W.anew hc.x hc.b hc.o (hc.t _ hw1) (hw2 _ _ hc.K) rfl dg rfl (nI_pos h31) (by rw [hcl]; omega) (by rw [hc.R]; exact hk) (by rw [hc.R, hcl]; exact hsl) fun cA kA comp f1 f2 f3 f4 => ?_
  obtain ⟨kA', comp', -, -, -, hf⟩ := (hc.K.1.2 t _ ht).2
  have hA : cA = E.2.1 t := Option.some.inj (f1.symm.trans hf)
  subst hA
  rw [hcl, hr.1]
  refine kk hc _ locs ls hl (hr.push (by rw [Array.size_push, hr.1]) (fun q hq2 => by rw [Array.getElem?_push, if_neg (by rw [hr.1]; exact Nat.ne_of_lt hq2)]) ?_) hq
  show (H.push _)[N]? = some (vp_cell _ _)
  rw [← hr.1, Array.getElem?_push_size, vp_cell_q, ← arrV_new]
  rfl
/-! ends -/
theorem g_mono {H : Heap} {locs : List Loc} {g : JFrame} {P1 P2 : State → Prop} (h : W (g_p Γ) (g_l Γ) (g_e Γ) (g_R Γ) (g_s Γ) (g_m Γ) (g_a Γ) (g_b Γ) (g_h Γ) (g_c Γ) H locs k n P1 g) (hp : ∀ t, P1 t → P2 t) : W (g_p Γ) (g_l Γ) (g_e Γ) (g_R Γ) (g_s Γ) (g_m Γ) (g_a Γ) (g_b Γ) (g_h Γ) (g_c Γ) H locs k n P2 g :=
  fun T hT X => by
    obtain ⟨t, a, b⟩ := h T hT X
    exact ⟨t, a, hp t b⟩
theorem g_toEnd {H : Heap} {o0 : Outcome} (hr : g_rep E N M H) (hQ : Q o0 N M) (t : State) (h : MQ (g_b Γ) (fun _ _ o t => o = o0 ∧ t.heap = H) (g_a Γ) (g_s Γ) mc ms (fun q => g_z E ≤ q) t) : g_MQ E Q mc ms Γ t := by
  obtain ⟨o, h1, h2, ⟨h3, h4⟩, L, ⟨-, h6, h7⟩, h8⟩ := h
  exact ⟨o, h1, h2, ⟨N, M, by rw [h3]; exact hQ, by rw [h4]; exact hr⟩, h6, L, h7, h8⟩
theorem g_ireturn {x : Int32} {ty : FieldType} (hret : ret = some ty) (hn : narrow ty (.int x) = .int x) (h1 : k ≤ mc) (h2 : n ≤ ms) (dg : decode cc pc = .ok (.ireturn, 1)) (hQ : Q (.returned (some (.int x))) N M) : G l E y cc nL ret tb d Q mc ms Γ pc L [.int x] N M k n :=
  fun hc H locs ls hl hr hq => W.widen h1 h2 (g_mono (W.zret (Qc := fun _ _ o t => o = .returned (some (.int x)) ∧ t.heap = H) (free := fun q => g_z E ≤ q) hc.x hc.b (hc.r.trans hret) hn (fun t ht _ => ⟨rfl, ht⟩) hq dg hc.lk) (g_toEnd hr hQ))
theorem g_return (hret : ret = none) (h1 : k ≤ mc) (h2 : n ≤ ms) (dg : decode cc pc = .ok (.return_, 1)) (hQ : Q (.returned none) N M) : G l E y cc nL ret tb d Q mc ms Γ pc L [] N M k n :=
  fun hc H locs ls hl hr hq => W.widen h1 h2 (g_mono (W.vret (Qc := fun _ _ o t => o = .returned none ∧ t.heap = H) (free := fun q => g_z E ≤ q) hc.x hc.b (hc.r.trans hret) (fun t ht _ => ⟨rfl, ht⟩) hq dg hc.lk) (g_toEnd hr hQ))
theorem g_areturn {a : Nat} {rt : FieldType} (hret : ret = some rt) (hrt : (∃ c0, rt = .object c0) ∨ ∃ t, rt = .array t) (h1 : k ≤ mc) (h2 : n ≤ ms) (dg : decode cc pc = .ok (.areturn, 1)) (hQ : Q (.returned (some (.ref a))) N M) : G l E y cc nL ret tb d Q mc ms Γ pc L [.ref a] N M k n :=
  fun hc H locs ls hl hr hq => W.widen h1 h2 (g_mono (W.aret (v := .ref a) (Qc := fun _ _ o t => o = .returned (some (.ref a)) ∧ t.heap = H) (free := fun q => g_z E ≤ q) hc.x hc.b (hc.r.trans hret) hrt (Or.inr ⟨_, rfl⟩) (fun t ht _ => ⟨rfl, ht⟩) hq dg hc.lk) (g_toEnd hr hQ))
/-! calls -/
theorem g_ofRun {H : Heap} {locs : List Loc} {ls : Array Slot} {P : Option Value → Nat → gM → Prop} {mc' ms' : Nat} {rest stk : List Value} (hc : g_cx l E y cc nL ret tb d mc ms Γ) (hl : g_loc ls nL L) (hq : ∀ q ∈ locs, g_z E ≤ q.base)
    (hrun : va_Run (g_p Γ) (g_l Γ) (g_e Γ) (g_R Γ) (g_s Γ) (g_m Γ) (g_a Γ) (g_b Γ) (g_h Γ) (g_c Γ) H locs k n mc' ms' (F0 (g_m Γ) pc ls stk) rest (fun _ o t => ∃ v N' M', o = .returned v ∧ P v N' M' ∧ g_rep E N' M' t.heap) (fun q => g_z E ≤ q))
    (kk : ∀ v N' M', P v N' M' → G l E y cc nL ret tb d Q mc ms Γ (pc + 3) L (v.toList ++ rest) N' M' (k + mc') (n + ms')) : g_W E Q mc ms Γ H locs k n (F0 (g_m Γ) pc ls stk) := by
  intro T hT X
  obtain ⟨v, st₀, t, T', L', h0, X', hL, e1, e2, ⟨v', N', M', hv, hP, hrep⟩, hgo⟩ := hrun T hT X
  cases hv
  obtain ⟨t2, a1, b1⟩ := kk v N' M' hP hc T'.heap (locs ++ L') ls hl (by rw [e1]; exact hrep) (t_lL hq hL) T' rfl X'
  exact ⟨t2, hgo t2 a1, b1⟩
theorem g_met {yy : MethodName} {dd mc' ms' : Nat} {as : List Value} {P : Option Value → Nat → gM → Prop} (h : Ctr l E yy dd as N M mc' ms' (g_ret P)) (hfl : l.flags = Jvm.pinnedFlags ++ [Jvm.noTraceFlag]) : Met l yy g_WS (g_rm dd mc' ms') (fun a U => a = as.toArray ∧ g_rep E N M U.heap ∧ g_K E U) (fun _ _ o t => ∃ v N' M', o = .returned v ∧ P v N' M' ∧ g_rep E N' M' t.heap) mc' ms' (fun q => g_z E ≤ q) := by
  refine MetFree.mono (h hfl) (fun _ _ h => h) (fun _ _ _ _ _ h => h) (fun a s o t _ hq => ?_)
  obtain ⟨⟨N', M', ⟨v, hv, hP⟩, hrep⟩, hW, L0, h1, h2⟩ := hq
  exact ⟨⟨v, N', M', hv, hP, hrep⟩, L0, ⟨⟨v, hv⟩, hW, h1⟩, h2⟩
theorem g_blind {as : List Value} : FrameBlind (fun a U => a = as.toArray ∧ g_rep E N M U.heap ∧ g_K E U) := fun a U g mk h => ⟨h.1, h.2.1, g_K.moved (u := U) (U := U.calling g mk a) (State.WarmedH.refl U) h.2.2⟩
theorem g_goodT : GoodIn g_WS g_WS := fun w hw => ⟨hw, g_good w hw⟩
/-- what a call's words say -/
def g_S (own : String) (index : Nat) (yy : MethodName) (bytes : ByteArray) (maxL : Nat) (rt : Option FieldType) (np : Nat) : Prop :=
  Cond.methodLink own index yy ∈ g_WS ∧ Cond.initialized yy.cls ∈ g_WS ∧ Cond.code yy bytes maxL rt ∈ g_WS ∧ (yy.cls ≠ "java/lang/invoke/MethodHandle" ∧ yy.cls ≠ "java/lang/invoke/VarHandle") ∧ (parseMethodDescriptor yy.desc).map (fun z => z.parameters.length) = some np ∧ maxL ≤ 60
theorem g_callB {yy : MethodName} {bytes : ByteArray} {maxL np index dd mc' ms' : Nat} {rt : Option FieldType} (hc : g_cx l E y cc nL ret tb d mc ms Γ) (hS : g_S y.cls index yy bytes maxL rt np) (hd : dd < d) : CallB (g_R Γ) (g_s Γ) (g_a Γ) y.cls index yy bytes maxL rt g_WS (g_rm dd mc' ms') mc' ms' np := by
  obtain ⟨s1, s2, s3, s4, s5, s6⟩ := hS
  refine ⟨rfl, rfl, ?_, ?_, pay_in hc.t g_goodT, s3, hc.t _ s3, hc.t _ s2, s4, fun sig h => ?_, hc.t _ s1⟩
  · rw [hc.R]; exact hd
  · rw [hc.R]; show 8 + (maxL + 11) + 100 * dd ≤ 100 * d; omega
  · rw [h] at s5; exact (Option.some.inj s5).symm
theorem g_recv {H : Heap} {a ci : Nat} {fs : List Value} {C : String} (hK : g_K E (g_s Γ)) (hr : g_rep E N M H) (hM : M a = some (.inr (ci, fs))) (hci : (classes[ci]?).map (fun q => q.1) = some C) : ∃ cellB : Cell, H[a]? = some cellB ∧ cellB.vm.isStatics = false ∧ (g_s Γ).vm.findClass C = some cellB.cls := by
  obtain ⟨r, h1, cell, q1, q2, q3, -⟩ := hr.at hM
  rw [h1] at hci
  have hC : r.1 = C := Option.some.inj hci
  subst hC
  exact ⟨cell, q1, by rw [q3]; rfl, by rw [q2]; exact (hK.1.1 ci r h1).2.1⟩
theorem g_callV {yy : MethodName} {bytes : ByteArray} {maxL np index dd mc' ms' a ci : Nat} {rt : Option FieldType} {as rest stk fs : List Value} {P : Option Value → Nat → gM → Prop} (hS : g_S y.cls index yy bytes maxL rt np) (hS2 : Cond.instanceMethod yy ∈ g_WS ∧ Cond.selects yy.cls yy yy ∈ g_WS) (hM : M a = some (.inr (ci, fs))) (hci : (classes[ci]?).map (fun q => q.1) = some yy.cls) (hC : Ctr l E yy dd (.ref a :: as) N M mc' ms' (g_ret P)) (hd : dd < d) (hnp : as.length = np) (hk : k + mc' ≤ mc) (hs : n + ms' ≤ ms) (hst : stk = as.reverse ++ .ref a :: rest) (hw : (rest.map fun v => v.category).sum ≤ 8) (dg : decode cc pc = .ok (.invokevirtual index, 3))
    (kk : ∀ v N' M', P v N' M' → G l E y cc nL ret tb d Q mc ms Γ (pc + 3) L (v.toList ++ rest) N' M' (k + mc') (n + ms')) : G l E y cc nL ret tb d Q mc ms Γ pc L stk N M k n := by
  intro hc H locs ls hl hr hq
  subst hst
  refine g_ofRun (rest := rest) hc hl hq (va_runV (As := as) (b := a) (C := yy.cls) ⟨hc.x, hc.b, hc.ml, hc.o, hc.t⟩ (hc.l ▸ g_met hC hc.f) ⟨g_callB hc hS hd, hc.t _ hS2.1, hc.t _ hS2.2⟩ ⟨g_blind, g_recv hc.K hr hM hci, fun U hU hW => ⟨rfl, by rw [hU]; exact hr, g_K.moved hW hc.K⟩⟩ rfl hnp hl.1.1 rfl (lv_room hw) dg ⟨by rw [hc.R]; exact hk, by rw [hc.R]; exact hs⟩) kk
theorem g_callS {yy : MethodName} {bytes : ByteArray} {maxL np index dd mc' ms' : Nat} {rt : Option FieldType} {as rest stk : List Value} {P : Option Value → Nat → gM → Prop} (hS : g_S y.cls index yy bytes maxL rt np) (hS2 : Cond.static yy ∈ g_WS) (hC : Ctr l E yy dd as N M mc' ms' (g_ret P)) (hd : dd < d) (hnp : as.length = np) (hk : k + mc' ≤ mc) (hs : n + ms' ≤ ms) (hst : stk = as.reverse ++ rest) (hw : (rest.map fun v => v.category).sum ≤ 8) (dg : decode cc pc = .ok (.invokestatic index, 3))
    (kk : ∀ v N' M', P v N' M' → G l E y cc nL ret tb d Q mc ms Γ (pc + 3) L (v.toList ++ rest) N' M' (k + mc') (n + ms')) : G l E y cc nL ret tb d Q mc ms Γ pc L stk N M k n := by
  intro hc H locs ls hl hr hq
  subst hst
  refine g_ofRun (rest := rest) hc hl hq (va_runS (As := as) ⟨hc.x, hc.b, hc.ml, hc.o, hc.t⟩ (hc.l ▸ g_met hC hc.f) ⟨g_callB hc hS hd, hc.t _ hS2⟩ ⟨g_blind, fun U hU hW => ⟨rfl, by rw [hU]; exact hr, g_K.moved hW hc.K⟩⟩ rfl hnp hl.1.1 rfl (lv_room hw) dg ⟨by rw [hc.R]; exact hk, by rw [hc.R]; exact hs⟩) kk
theorem g_callI {yy : MethodName} {bytes : ByteArray} {maxL np index dd mc' ms' a : Nat} {as rest stk : List Value} {P : Option Value → Nat → gM → Prop} (hS : g_S y.cls index yy bytes maxL none np) (hS2 : yy.name = "<init>" ∧ Cond.instanceMethod yy ∈ g_WS) (hC : Ctr l E yy dd (.ref a :: as) N M mc' ms' (g_ret P)) (hd : dd < d) (hnp : as.length = np) (hk : k + mc' ≤ mc) (hs : n + ms' ≤ ms) (hst : stk = as.reverse ++ .ref a :: rest) (hw : (rest.map fun v => v.category).sum ≤ 8) (dg : decode cc pc = .ok (.invokespecial index, 3))
    (kk : ∀ v N' M', P v N' M' → G l E y cc nL ret tb d Q mc ms Γ (pc + 3) L (v.toList ++ rest) N' M' (k + mc') (n + ms')) : G l E y cc nL ret tb d Q mc ms Γ pc L stk N M k n := by
  intro hc H locs ls hl hr hq
  subst hst
  refine g_ofRun (rest := rest) hc hl hq (va_runI (As := as) (b := a) ⟨hc.x, hc.b, hc.ml, hc.o, hc.t⟩ (hc.l ▸ g_met hC hc.f) ⟨g_callB hc hS hd, hS2.1, hc.t _ hS2.2⟩ ⟨g_blind, fun U hU hW => ⟨rfl, by rw [hU]; exact hr, g_K.moved hW hc.K⟩⟩ rfl hnp hl.1.1 rfl (lv_room hw) dg ⟨by rw [hc.R]; exact hk, by rw [hc.R]; exact hs⟩) kk
end GROWS
/-! a contract out of its walk -/
def g_ok (L : List (Option Value)) : Bool := L.all (fun o => match o with | none => true | some v => v.category == 1)
theorem g_ok_of {L : List (Option Value)} (h : g_ok L = true) (i : Nat) (v : Value) (hi : L[i]? = some (some v)) : v.category = 1 := by
  have h1 := List.all_eq_true.mp h (some v) (List.mem_of_getElem? hi)
  exact eq_of_beq h1
theorem ctr_of {l : Launch} {E : gE} {y : MethodName} {cc : ByteArray} {nL : Nat} {ret : Option FieldType} {d : Nat} {as : List Value} (L : List (Option Value)) {N : Nat} {M : gM} {mc ms : Nat} {Q : Outcome → Nat → gM → Prop} (hy : plainName y.cls = true) (hw : Cond.code y cc nL ret ∈ g_WS) (hL : g_prs L = lv_args 0 as) (hok : g_ok L = true) (hlen : (lg_sl as).length ≤ nL)
    (body : ∀ Γ, G l E y cc nL ret [] d Q mc ms Γ 0 L [] N M 0 0) : Ctr l E y d as N M mc ms Q := by
  intro hfl
  refine MetFree.of_bodyS (code := cc) (maxLocals := nL) (ret := ret) hy ?_ ?_
  · intro args s m h hn
    obtain ⟨meth, c, h1, h2, h3, h4, h5, h6, -, -⟩ := Cond.code_spec hn (atoms_spec (ws := g_WS) h _ hw)
    exact ⟨meth, c, h1, h2, h3, h4, h5, h6⟩
  · intro p e s m args below meth c s₁ B hml hP _
    have hh0 : s₁.heap = s.heap := by rw [B.state]; rfl
    obtain ⟨rfl, hrep, hK⟩ := hP
    have hts := atoms_spec (ws := g_WS) B.pre
    have he := BodyLoose.noHandlers B (hts _ hw)
    have he2 : c.exceptionTable.toList = [] := by
      have h0 : c.exceptionTable.size = 0 := by simpa [Array.isEmpty] using he
      exact List.eq_nil_of_length_eq_zero (by simpa using h0)
    have hin := (name_of_methodNamed B.named B.method).1
    have hent : g_loc ((lg_sl as ++ List.replicate (nL - (lg_sl as).length) Slot.unset).toArray) nL L := ⟨by rw [hL]; exact lv_entry as hlen, g_ok_of hok⟩
    obtain ⟨t, a1, o, b1, b2, b3⟩ := body (p, l, e, (headSpec g_WS (g_rm d mc ms)).room, s, m, as.toArray, below, meth, c) ⟨B.exec, B.bytes, hml, findClass_of_methodNamed B.named, hts, hK, B.notSynchronized, B.returns, hin, rfl, rfl, he2, hfl, hrep.2.2.1⟩ s.heap [] _ hent hrep (fun q h => by cases h) s₁ hh0 (Stand.of_body B)
    refine ⟨t, o, ?_, b1, b2, b3⟩
    rw [lg_entry_eq]
    exact a1
theorem ctr_mono {l : Launch} {E : gE} {y : MethodName} {d : Nat} {as : List Value} {N : Nat} {M : gM} {mc ms : Nat} {Q Q' : Outcome → Nat → gM → Prop} (h : Ctr l E y d as N M mc ms Q) (hq : ∀ o N' M', Q o N' M' → Q' o N' M') : Ctr l E y d as N M mc ms Q' := fun hfl =>
  MetFree.mono (h hfl) (fun _ _ h => h) (fun _ _ _ _ _ h => h) (fun _ _ _ _ _ h => by
    obtain ⟨⟨N', M', h1, h2⟩, h3⟩ := h
    exact ⟨⟨N', M', hq _ _ _ h1, h2⟩, h3⟩)
