/-! the things that stand fast over all: static rows, texts, links of nest mates, arrays over objects -/
abbrev gE : Type := va_G × (Nat → ClassId) × Heap × (Nat → Nat)
abbrev g_h0 (E : gE) : Heap := E.2.2.1
abbrev g_ad (E : gE) (i : Nat) : Nat := E.2.2.2 i
abbrev g_z (E : gE) : Nat := E.2.2.1.size
def g_A (E : gE) : Nat → Prop := fun q => g_z E ≤ q
def g_nest : Cond → Bool
  | .methodLinkNest .. => true
  | .fieldLinkNest .. => true
  | .declares .. => true
  | .castable .. => true
  | _ => false
def g_NW : List Cond := lw_tbl.filter g_nest
theorem g_memN {w : Cond} (i : Nat) (h : tables_1[i]? = some w) (hg : g_nest w = true) : w ∈ g_NW := List.mem_filter.mpr ⟨List.mem_append_right _ (List.mem_of_getElem? h), hg⟩
theorem g_nw_moved {u U : State} (hW : u.WarmedH U.vm) (h : ∀ w ∈ g_NW, va_Nw w u) : ∀ w ∈ g_NW, va_Nw w U := by
  intro w hw
  have h1 := h w hw
  have h2 : g_nest w = true := (List.mem_filter.mp hw).2
  cases w with
  | methodLinkNest a b c d => exact va_Nw.warmM hW h1
  | fieldLinkNest a b c d e f => exact va_Nw.warmF hW h1
  | declares a => exact va_Nw.warmD hW h1
  | castable a b => exact va_Nw.warmC hW h1
  | _ => cases h2
def g_bits : List Nat := [8, 8, 10, 2]
def g_shifts : List Nat := [20, 12, 2, 0]
abbrev g_row (l : List Nat) : Nat → Value := fun j => .int (nI (l.getD j 0))
def g_str : List (String × Nat × String) := [("RuleDiagram", 63, "a sign above 127"), ("RuleDiagram", 73, "more than 240 signs"), ("RuleDiagram", 187, "no such list"), ("RuleDiagram$RuleReader", 118, "deny"), ("RuleDiagram$RuleReader", 120, "allow"), ("RuleDiagram$RuleReader", 122, "log"), ("RuleDiagram$RuleReader", 124, "src"), ("RuleDiagram$RuleReader", 126, "dst"), ("RuleDiagram$RuleReader", 128, "port"), ("RuleDiagram$RuleReader", 130, "proto"), ("RuleDiagram$RuleReader", 79, "any"), ("RuleDiagram", 191, "no such rule"), ("RuleDiagram", 116, "no such number of a rule"), ("RuleDiagram", 198, "no such value of a field"), ("RuleDiagram", 137, "no such verdict"), ("RuleDiagram", 193, "no such field")]
def g_slen : List Nat := [16, 19, 12, 4, 5, 3, 3, 3, 4, 5, 3, 12, 24, 24, 15, 13]
def g_sbyt : List (List Int32) := [[97, 32, 115, 105, 103, 110, 32, 97, 98, 111, 118, 101, 32, 49, 50, 55], [109, 111, 114, 101, 32, 116, 104, 97, 110, 32, 50, 52, 48, 32, 115, 105, 103, 110, 115], [110, 111, 32, 115, 117, 99, 104, 32, 108, 105, 115, 116], [100, 101, 110, 121], [97, 108, 108, 111, 119], [108, 111, 103], [115, 114, 99], [100, 115, 116], [112, 111, 114, 116], [112, 114, 111, 116, 111], [97, 110, 121], [110, 111, 32, 115, 117, 99, 104, 32, 114, 117, 108, 101], [110, 111, 32, 115, 117, 99, 104, 32, 110, 117, 109, 98, 101, 114, 32, 111, 102, 32, 97, 32, 114, 117, 108, 101], [110, 111, 32, 115, 117, 99, 104, 32, 118, 97, 108, 117, 101, 32, 111, 102, 32, 97, 32, 102, 105, 101, 108, 100], [110, 111, 32, 115, 117, 99, 104, 32, 118, 101, 114, 100, 105, 99, 116], [110, 111, 32, 115, 117, 99, 104, 32, 102, 105, 101, 108, 100]]
/-- text i: its own file and entry, its object, its bytes -/
def g_T (E : gE) (U : State) : Prop := vk_S 16 g_slen g_sbyt (fun i => g_ad E (2 + i)) (fun i => g_ad E (40 + i)) (g_A E) U (g_h0 E) ∧ ∀ (i : Nat) (q : String × Nat × String), g_str[i]? = some q → vk_R q.1 q.2.1 q.2.2 (g_ad E (2 + i)) U
/-- a static reference of the VM's own: where it lies -/
def g_ys (E : gE) (O f ds : String) (U : State) : Prop := ∃ (c : ClassId) (k : Class) (i : Nat) (fl : Field) (a : Nat) (cell : Cell) (v : Value), U.vm.findClass O = some c ∧ U.fieldFound? O f ds = some (c, k, i, fl) ∧ fl.isStatic = true ∧ k.statics = some a ∧ (g_h0 E)[a]? = some cell ∧ cell.vm.isStatics = true ∧ cell.cls = c ∧ fl.slot < cell.slots.size ∧ k.staticTypes[fl.slot]? = some fl.type ∧ cell.slots[fl.slot]? = some v ∧ (v = .null ∨ ∃ t, v = .ref t)
theorem g_ys.moved {E : gE} {O f ds : String} {u U : State} (hvm : u.vm.Alike U.vm) (h : g_ys E O f ds u) : g_ys E O f ds U := by
  obtain ⟨c, k, i, fl, a, cell, v, h1, h2, h3, h4, h5, h6, h7, h8, h9, h10⟩ := h
  obtain ⟨k', hi', he⟩ := State.fieldFound?_setVm hvm h2
  exact ⟨c, k', i, fl, a, cell, v, by rw [hvm.findClass]; exact h1, hi', h3, by rw [he]; exact h4, h5, h6, h7, h8, by rw [he]; exact h9, h10⟩
theorem g_ys.lays {E : gE} {O f ds : String} {U : State} (h : g_ys E O f ds U) (ho : ∀ q : Nat, q < g_z E → U.heap[q]? = (g_h0 E)[q]?) (A : Array Value) : (Cond.laysStatic O f ds).before A U = true := by
  obtain ⟨c, k, i, fl, a, cell, v, h1, h2, h3, h4, h5, h6, h7, h8, h9, h10⟩ := h
  exact Cond.laysStatic_of h1 h2 h3 h4 (by rw [ho a (Array.getElem?_eq_some_iff.mp h5).1]; exact h5) h6 h7 h8 h9
theorem g_ys.ref {E : gE} {O f ds : String} {U : State} (h : g_ys E O f ds U) (ho : ∀ q : Nat, q < g_z E → U.heap[q]? = (g_h0 E)[q]?) (A : Array Value) : (Cond.isRef (.static O f ds)).before A U = true := by
  obtain ⟨c, k, i, fl, a, cell, v, h1, h2, h3, h4, h5, h6, h7, h8, h9, h10, h11⟩ := h
  have hc : U.heap[a]? = some cell := by rw [ho a (Array.getElem?_eq_some_iff.mp h5).1]; exact h5
  have he : (Term.static O f ds).eval A U none [] U = some v := by
    simp [Term.eval, State.fieldNamed?, h2, h3, h4, hc, h6, h10]
  simp only [Cond.before, Cond.holds, Cond.value, he]
  rcases h11 with e | ⟨x, e⟩ <;> simp [e]
def g_Z (E : gE) (U : State) : Prop :=
  (va_Z R_RD "BITS" "[I" (.ref (g_ad E 0)) (g_A E) U (g_h0 E) ∧ va_T .int (g_ad E 0) 4 (g_row g_bits) (g_A E) U (g_h0 E)) ∧
  (va_Z R_RD "SHIFTS" "[I" (.ref (g_ad E 1)) (g_A E) U (g_h0 E) ∧ va_T .int (g_ad E 1) 4 (g_row g_shifts) (g_A E) U (g_h0 E)) ∧
  g_T E U ∧ va_Z "java/lang/String" "COMPACT_STRINGS" "Z" (.int 1) (g_A E) U (g_h0 E) ∧
  (∀ w ∈ g_NW, va_Nw w U) ∧ (va_AO R_Ru U ∧ va_AO R_RL U ∧ va_AO R_Di U ∧ va_AO R_Cu U) ∧
  (g_ys E "java/lang/Throwable" "UNASSIGNED_STACK" "[Ljava/lang/StackTraceElement;" U ∧ g_ys E "java/lang/Throwable" "SUPPRESSED_SENTINEL" "Ljava/util/List;" U) ∧
  va_Zq "jdk/internal/util/Preconditions" "SIOOBE_FORMATTER" "Ljava/util/function/BiFunction;" (g_A E) U (g_h0 E) ∧ (Cond.arrayOver (.array .int)).before #[] U = true
theorem g_Z.moved {E : gE} {u U : State} (hW : u.WarmedH U.vm) (h : g_Z E u) : g_Z E U := by
  obtain ⟨⟨a1, a2⟩, ⟨b1, b2⟩, ⟨c1, c2⟩, d1, e1, ⟨f1, f2, f3, f4⟩, ⟨g1, g2⟩, i1, j1⟩ := h
  have hv := hW.alike
  exact ⟨⟨a1.moved hv, a2.moved hv⟩, ⟨b1.moved hv, b2.moved hv⟩, ⟨c1.moved hv, fun i q hq => (c2 i q hq).warm hW⟩, d1.moved hv, g_nw_moved hW e1, ⟨f1.moved hv, f2.moved hv, f3.moved hv, f4.moved hv⟩, ⟨g1.moved hv, g2.moved hv⟩, i1.moved hv, over_moved hv j1⟩
