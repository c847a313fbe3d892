/-! the world in numbers: fields of packets, rules -/
def mst (f : Nat) : Nat := [255, 255, 1023, 3].getD f 0
def bts (f : Nat) : Nat := g_bits.getD f 0
def shf (f : Nat) : Nat := g_shifts.getD f 0
theorem mst_lt (f : Nat) : mst f < 1024 := by
  by_cases h : f < 4
  · have h1 : ∀ f, f < 4 → mst f < 1024 := by decide
    exact h1 f h
  · have h2 : mst f = 0 := by
      unfold mst
      rw [List.getD_eq_getElem?_getD, List.getElem?_eq_none (by simp; omega)]
      rfl
    omega
/-- a field of a packet -/
def pv (p f : Nat) : Nat := p / 2 ^ shf f % 2 ^ bts f
/-- a packet of its fields -/
def pkt (a b c d : Nat) : Nat := a * 1048576 + b * 4096 + c * 4 + d
theorem pkt_lt {a b c d : Nat} (ha : a ≤ 255) (hb : b ≤ 255) (hc : c ≤ 1023) (hd : d ≤ 3) : pkt a b c d < 268435456 := by
  unfold pkt
  omega
theorem pv_0 {a b c d : Nat} (ha : a ≤ 255) (hb : b ≤ 255) (hc : c ≤ 1023) (hd : d ≤ 3) : pv (pkt a b c d) 0 = a := by
  show (a * 1048576 + b * 4096 + c * 4 + d) / 1048576 % 256 = a
  omega
theorem pv_1 {a b c d : Nat} (ha : a ≤ 255) (hb : b ≤ 255) (hc : c ≤ 1023) (hd : d ≤ 3) : pv (pkt a b c d) 1 = b := by
  show (a * 1048576 + b * 4096 + c * 4 + d) / 4096 % 256 = b
  omega
theorem pv_2 {a b c d : Nat} (ha : a ≤ 255) (hb : b ≤ 255) (hc : c ≤ 1023) (hd : d ≤ 3) : pv (pkt a b c d) 2 = c := by
  show (a * 1048576 + b * 4096 + c * 4 + d) / 4 % 1024 = c
  omega
theorem pv_3 {a b c d : Nat} (ha : a ≤ 255) (hb : b ≤ 255) (hc : c ≤ 1023) (hd : d ≤ 3) : pv (pkt a b c d) 3 = d := by
  show (a * 1048576 + b * 4096 + c * 4 + d) / 1 % 4 = d
  omega
theorem pv_le (p f : Nat) (hf : f < 4) : pv p f ≤ mst f := by
  have h : ∀ f, f < 4 → 2 ^ bts f = mst f + 1 := by decide
  unfold pv
  rw [h f hf]
  have := Nat.mod_lt (p / 2 ^ shf f) (show 0 < mst f + 1 by omega)
  omega
/-- a rule: verdict, least values, greatest values -/
abbrev Rl : Type := Nat × (Nat → Nat) × (Nat → Nat)
def r_ok (r : Rl) : Prop := r.1 < 3 ∧ ∀ f, f < 4 → r.2.1 f ≤ r.2.2 f ∧ r.2.2 f ≤ mst f
def r_mf (r : Rl) (f x : Nat) : Bool := decide (r.2.1 f ≤ x) && decide (x ≤ r.2.2 f)
/-- the rule agrees with the fields ahead of k -/
def r_mk (r : Rl) (p : Nat) : Nat → Bool
  | 0 => true
  | k + 1 => r_mk r p k && r_mf r k (pv p k)
def r_m (r : Rl) (p : Nat) : Bool := r_mk r p 4
theorem r_mk_iff (r : Rl) (p : Nat) : ∀ k, r_mk r p k = true ↔ ∀ j, j < k → r_mf r j (pv p j) = true := by
  intro k
  induction k with
  | zero => exact ⟨fun _ j hj => by omega, fun _ => rfl⟩
  | succ k ih =>
    rw [show r_mk r p (k + 1) = (r_mk r p k && r_mf r k (pv p k)) from rfl, Bool.and_eq_true, ih]
    constructor
    · intro ⟨h1, h2⟩ j hj
      by_cases e : j = k
      · rw [e]; exact h2
      · exact h1 j (by omega)
    · intro h
      exact ⟨fun j hj => h j (by omega), h k (by omega)⟩
theorem r_m_no {r : Rl} {p i : Nat} (hi : i < 4) (h : r_mf r i (pv p i) = false) : r_m r p = false := by
  cases e : r_m r p with
  | false => rfl
  | true =>
    have := (r_mk_iff r p 4).mp e i hi
    rw [h] at this
    cases this
def o_rule (E : gE) (M : gM) (r : Nat) (z : Rl) : Prop := M r = some (.inr (4, [.ref (r + 1), .ref (r + 2), .int (nI z.1)])) ∧ M (r + 1) = some (g_ia E 4 (fun j => nI (z.2.1 j))) ∧ M (r + 2) = some (g_ia E 4 (fun j => nI (z.2.2 j)))
theorem upd_nI (g : Nat → Nat) (k v : Nat) : upd (fun j => nI (g j)) k (nI v) = fun j => nI (va_up g k v j) := by
  funext j
  unfold upd va_up
  split <;> rfl
theorem z_BITS {E : gE} (U : State) (h : g_K E U) : va_Z R_RD "BITS" "[I" (.ref (g_ad E 0)) (g_A E) U (g_h0 E) := h.2.1.1
theorem z_SHIFTS {E : gE} (U : State) (h : g_K E U) : va_Z R_RD "SHIFTS" "[I" (.ref (g_ad E 1)) (g_A E) U (g_h0 E) := h.2.2.1.1
theorem q_BITS {E : gE} (U : State) (h : g_K E U) : va_T .int (g_ad E 0) 4 (fun z => .int ((fun j => nI (g_bits.getD j 0)) z)) (g_A E) U (g_h0 E) := h.2.1.2
theorem q_SHIFTS {E : gE} (U : State) (h : g_K E U) : va_T .int (g_ad E 1) 4 (fun z => .int ((fun j => nI (g_shifts.getD j 0)) z)) (g_A E) U (g_h0 E) := h.2.2.1.2
theorem mst_val : ∀ f, f < 4 → (nI 1 <<< (nI (g_bits.getD f 0) &&& 31)) - nI 1 = nI (mst f) := by decide +kernel
theorem shf_val : ∀ f, f < 4 → (((nI (g_shifts.getD f 0)).toUInt32 &&& Int32.toUInt32 31).toBitVec % 32).toNat = shf f := by decide +kernel
theorem mst_msk : ∀ f, f < 4 → (nI (mst f)).toBitVec.toNat = 2 ^ bts f - 1 := by decide +kernel

