/-! the model's table of boxes -/
def ix (p g : Nat) : Nat := if g = 0 then p / 1156 else if g = 1 then p / 68 % 17 else if g = 2 then p / 4 % 17 else p % 4
def clp (n k : Nat) : Nat := if k < n then k else n - 1
def lnf (f : Nat) : Nat := wid f * roo f
def nbf (f : Nat) : Nat := if f = 0 then 1 else if f = 1 then 17 else if f = 2 then 289 else 4913
def mix (cs : Nat → Nat → Nat) (f p : Nat) (u : Nat → Nat) (g : Nat) : Nat := if g < f then cs g (ix p g) else u g
def uo (cn : Nat → Nat) (cs : Nat → Nat → Nat) (p g : Nat) : Nat := cs g (clp (cn g) (ix p g))
theorem f4 {f : Nat} (hf : f < 4) : f = 0 ∨ f = 1 ∨ f = 2 ∨ f = 3 := by omega
theorem ix_at {f k off g : Nat} (hf : f < 4) (hk : k < nbf f) (ho : off < lnf f) (hg : g < 4) : ix (k * lnf f + off) g = if g < f then ix (k * lnf f) g else ix off g := by
  rcases f4 hf with rfl | rfl | rfl | rfl
  · have hk : k < 1 := hk
    have : k = 0 := by omega
    subst this
    rw [Nat.zero_mul, Nat.zero_add, if_neg (by omega)]
  · have hk : k < 17 := hk
    have ho : off < 1156 := ho
    show ix (k * 1156 + off) g = if g < 1 then ix (k * 1156) g else ix off g
    rcases f4 hg with rfl | rfl | rfl | rfl
    · show (k * 1156 + off) / 1156 = k * 1156 / 1156; omega
    · show (k * 1156 + off) / 68 % 17 = off / 68 % 17; omega
    · show (k * 1156 + off) / 4 % 17 = off / 4 % 17; omega
    · show (k * 1156 + off) % 4 = off % 4; omega
  · have hk : k < 289 := hk
    have ho : off < 68 := ho
    show ix (k * 68 + off) g = if g < 2 then ix (k * 68) g else ix off g
    rcases f4 hg with rfl | rfl | rfl | rfl
    · show (k * 68 + off) / 1156 = k * 68 / 1156; omega
    · show (k * 68 + off) / 68 % 17 = k * 68 / 68 % 17; omega
    · show (k * 68 + off) / 4 % 17 = off / 4 % 17; omega
    · show (k * 68 + off) % 4 = off % 4; omega
  · have hk : k < 4913 := hk
    have ho : off < 4 := ho
    show ix (k * 4 + off) g = if g < 3 then ix (k * 4) g else ix off g
    rcases f4 hg with rfl | rfl | rfl | rfl
    · show (k * 4 + off) / 1156 = k * 4 / 1156; omega
    · show (k * 4 + off) / 68 % 17 = k * 4 / 68 % 17; omega
    · show (k * 4 + off) / 4 % 17 = k * 4 / 4 % 17; omega
    · show (k * 4 + off) % 4 = off % 4; omega
theorem ix_off {f : Nat} (hf : f < 4) {r : Nat → Nat} (hr : ∀ g, g < 4 → r g < wid g) : ∃ off, off < lnf f ∧ ∀ g, f ≤ g → g < 4 → ix off g = r g := by
  have h0 : r 0 < 17 := hr 0 (by omega)
  have h1 : r 1 < 17 := hr 1 (by omega)
  have h2 : r 2 < 17 := hr 2 (by omega)
  have h3 : r 3 < 4 := hr 3 (by omega)
  rcases f4 hf with rfl | rfl | rfl | rfl
  · refine ⟨r 0 * 1156 + r 1 * 68 + r 2 * 4 + r 3, by show _ < 19652; omega, fun g _ hg => ?_⟩
    rcases f4 hg with rfl | rfl | rfl | rfl
    · show (r 0 * 1156 + r 1 * 68 + r 2 * 4 + r 3) / 1156 = r 0; omega
    · show (r 0 * 1156 + r 1 * 68 + r 2 * 4 + r 3) / 68 % 17 = r 1; omega
    · show (r 0 * 1156 + r 1 * 68 + r 2 * 4 + r 3) / 4 % 17 = r 2; omega
    · show (r 0 * 1156 + r 1 * 68 + r 2 * 4 + r 3) % 4 = r 3; omega
  · refine ⟨r 1 * 68 + r 2 * 4 + r 3, by show _ < 1156; omega, fun g h hg => ?_⟩
    rcases f4 hg with rfl | rfl | rfl | rfl
    · omega
    · show (r 1 * 68 + r 2 * 4 + r 3) / 68 % 17 = r 1; omega
    · show (r 1 * 68 + r 2 * 4 + r 3) / 4 % 17 = r 2; omega
    · show (r 1 * 68 + r 2 * 4 + r 3) % 4 = r 3; omega
  · refine ⟨r 2 * 4 + r 3, by show _ < 68; omega, fun g h hg => ?_⟩
    rcases f4 hg with rfl | rfl | rfl | rfl
    · omega
    · omega
    · show (r 2 * 4 + r 3) / 4 % 17 = r 2; omega
    · show (r 2 * 4 + r 3) % 4 = r 3; omega
  · refine ⟨r 3, h3, fun g h hg => ?_⟩
    rcases f4 hg with rfl | rfl | rfl | rfl
    · omega
    · omega
    · omega
    · show r 3 % 4 = r 3; omega
theorem ix_blk {f : Nat} (hf : f < 4) {r : Nat → Nat} (hr : ∀ g, g < 4 → r g < wid g) : ∃ k, k < nbf f ∧ ∀ g, g < 3 → ix (k * lnf f) g = if g < f then r g else 0 := by
  have h0 : r 0 < 17 := hr 0 (by omega)
  have h1 : r 1 < 17 := hr 1 (by omega)
  have h2 : r 2 < 17 := hr 2 (by omega)
  rcases f4 hf with rfl | rfl | rfl | rfl
  · refine ⟨0, by show 0 < 1; omega, fun g hg => ?_⟩
    rw [Nat.zero_mul, if_neg (by omega)]
    rcases f4 (show g < 4 by omega) with rfl | rfl | rfl | rfl <;> rfl
  · refine ⟨r 0, h0, fun g hg => ?_⟩
    rcases f4 (show g < 4 by omega) with rfl | rfl | rfl | rfl
    · show r 0 * 1156 / 1156 = r 0; omega
    · show r 0 * 1156 / 68 % 17 = 0; omega
    · show r 0 * 1156 / 4 % 17 = 0; omega
    · omega
  · refine ⟨r 0 * 17 + r 1, by show _ < 289; omega, fun g hg => ?_⟩
    rcases f4 (show g < 4 by omega) with rfl | rfl | rfl | rfl
    · show (r 0 * 17 + r 1) * 68 / 1156 = r 0; omega
    · show (r 0 * 17 + r 1) * 68 / 68 % 17 = r 1; omega
    · show (r 0 * 17 + r 1) * 68 / 4 % 17 = 0; omega
    · omega
  · refine ⟨r 0 * 289 + r 1 * 17 + r 2, by show _ < 4913; omega, fun g hg => ?_⟩
    rcases f4 (show g < 4 by omega) with rfl | rfl | rfl | rfl
    · show (r 0 * 289 + r 1 * 17 + r 2) * 4 / 1156 = r 0; omega
    · show (r 0 * 289 + r 1 * 17 + r 2) * 4 / 68 % 17 = r 1; omega
    · show (r 0 * 289 + r 1 * 17 + r 2) * 4 / 4 % 17 = r 2; omega
    · omega
theorem ix_sub {f j o g : Nat} (hf : f < 4) (hj : j < wid f) (ho : o < roo f) (h1 : f ≤ g) (hg : g < 4) : ix (j * roo f + o) g = if g = f then j else ix o g := by
  rcases f4 hf with rfl | rfl | rfl | rfl
  · have hj : j < 17 := hj
    have ho : o < 1156 := ho
    show ix (j * 1156 + o) g = if g = 0 then j else ix o g
    rcases f4 hg with rfl | rfl | rfl | rfl
    · show (j * 1156 + o) / 1156 = j; omega
    · show (j * 1156 + o) / 68 % 17 = o / 68 % 17; omega
    · show (j * 1156 + o) / 4 % 17 = o / 4 % 17; omega
    · show (j * 1156 + o) % 4 = o % 4; omega
  · have hj : j < 17 := hj
    have ho : o < 68 := ho
    show ix (j * 68 + o) g = if g = 1 then j else ix o g
    rcases f4 hg with rfl | rfl | rfl | rfl
    · omega
    · show (j * 68 + o) / 68 % 17 = j; omega
    · show (j * 68 + o) / 4 % 17 = o / 4 % 17; omega
    · show (j * 68 + o) % 4 = o % 4; omega
  · have hj : j < 17 := hj
    have ho : o < 4 := ho
    show ix (j * 4 + o) g = if g = 2 then j else ix o g
    rcases f4 hg with rfl | rfl | rfl | rfl
    · omega
    · omega
    · show (j * 4 + o) / 4 % 17 = j; omega
    · show (j * 4 + o) % 4 = o % 4; omega
  · have hj : j < 4 := hj
    have ho : o < 1 := ho
    show ix (j * 1 + o) g = if g = 3 then j else ix o g
    rcases f4 hg with rfl | rfl | rfl | rfl
    · omega
    · omega
    · omega
    · show (j * 1 + o) % 4 = j; omega
/-- the offset of indices behind field f -/
theorem ix_so {f : Nat} (hf : f < 4) {r : Nat → Nat} (hr : ∀ g, g < 4 → r g < wid g) : ∃ o, o < roo f ∧ ∀ g, f < g → g < 4 → ix o g = r g := by
  have h1 : r 1 < 17 := hr 1 (by omega)
  have h2 : r 2 < 17 := hr 2 (by omega)
  have h3 : r 3 < 4 := hr 3 (by omega)
  by_cases c : f = 3
  · subst c
    exact ⟨0, by show 0 < 1; omega, fun g _ _ => by omega⟩
  · obtain ⟨o, o1, o2⟩ := ix_off (f := f + 1) (by omega) hr
    refine ⟨o, ?_, fun g g1 g2 => o2 g (by omega) g2⟩
    rcases f4 hf with rfl | rfl | rfl | rfl
    · exact o1
    · exact o1
    · exact o1
    · omega
/-- rows of boxes by the bounds of m rules -/
def bxr (rs : Nat → Rl) (m : Nat) (cn : Nat → Nat) (cs : Nat → Nat → Nat) : Prop := ∀ g, g < 4 → rows_ok (cs g) (cn g) (mst g + 1) ∧ hsb rs m g (cn g) (cs g) ∧ cn g ≤ wid g
section BOX
variable {rs : Nat → Rl} {m : Nat} {cn : Nat → Nat} {cs : Nat → Nat → Nat} {tb : Nat → Nat}
theorem clp_lt {n k : Nat} (h : 0 < n) : clp n k < n := by unfold clp; split <;> omega
theorem uo_frg (hb : bxr rs m cn cs) (p : Nat) : frg (uo cn cs p) := fun g hg => by
  have h := (hb g hg).1
  have := rows_top h (clp_lt h.2.1 (k := ix p g))
  show cs g (clp (cn g) (ix p g)) ≤ mst g
  omega
theorem mix_frg (hb : bxr rs m cn cs) {f p : Nat} (hp : ∀ g, g < f → g < 4 → ix p g < cn g) {u : Nat → Nat} (hu : frg u) : frg (mix cs f p u) := fun g hg => by
  unfold mix
  split
  · have := rows_top (hb g hg).1 (hp g (by assumption) hg)
    omega
  · exact hu g hg
theorem rea_iff (hb : bxr rs m cn cs) {f k : Nat} (hf : f < 4) (hk : k < nbf f) : rea cn (k * lnf f) = true ↔ ∀ g, g < f → g < 4 → ix (k * lnf f) g < cn g := by
  have n0 := (hb 0 (by omega)).1.2.1
  have n1 := (hb 1 (by omega)).1.2.1
  have n2 := (hb 2 (by omega)).1.2.1
  have e : rea cn (k * lnf f) = true ↔ (ix (k * lnf f) 0 < cn 0 ∧ ix (k * lnf f) 1 < cn 1 ∧ ix (k * lnf f) 2 < cn 2) := by
    unfold rea
    rw [Bool.and_eq_true, Bool.and_eq_true, decide_eq_true_iff, decide_eq_true_iff, decide_eq_true_iff]
    exact Iff.rfl
  rw [e]
  constructor
  · rintro ⟨a, b, c⟩ g g1 g2
    rcases f4 g2 with rfl | rfl | rfl | rfl
    · exact a
    · exact b
    · exact c
    · omega
  · intro h
    rcases f4 hf with rfl | rfl | rfl | rfl
    · have hk : k < 1 := hk
      have : k = 0 := by omega
      subst this
      rw [Nat.zero_mul]
      exact ⟨n0, n1, n2⟩
    · have hk : k < 17 := hk
      refine ⟨h 0 (by omega) (by omega), ?_, ?_⟩
      · show k * 1156 / 68 % 17 < cn 1; omega
      · show k * 1156 / 4 % 17 < cn 2; omega
    · have hk : k < 289 := hk
      refine ⟨h 0 (by omega) (by omega), h 1 (by omega) (by omega), ?_⟩
      show k * 68 / 4 % 17 < cn 2; omega
    · exact ⟨h 0 (by omega) (by omega), h 1 (by omega) (by omega), h 2 (by omega) (by omega)⟩
theorem mix_congr (hb : bxr rs m cn cs) {f p : Nat} (hp : ∀ g, g < f → g < 4 → ix p g < cn g) {u v : Nat → Nat} (hu : frg u) (hv : frg v) (h : ∀ g, f ≤ g → g < 4 → ∀ i, i < m → r_mf (rs i) g (u g) = r_mf (rs i) g (v g)) : jv rs m (mix cs f p u) = jv rs m (mix cs f p v) := by
  refine jv_congr (mix_frg hb hp hu) (mix_frg hb hp hv) (fun g hg i hi => ?_)
  unfold mix
  by_cases c : g < f
  · rw [if_pos c, if_pos c]
  · rw [if_neg c, if_neg c]; exact h g (by omega) hg i hi
theorem box_mf (hb : bxr rs m cn cs) {g x k i : Nat} (hg : g < 4) (hk : k < cn g) (h1 : cs g k ≤ x) (h2 : x < enr (cs g) (cn g) (mst g + 1) k) (hi : i < m) : r_mf (rs i) g x = r_mf (rs i) g (cs g k) :=
  mf_row (hb g hg).1 ((hb g hg).2.1 i hi).1 ((hb g hg).2.1 i hi).2 hk h1 h2
theorem tb_at (ht : ∀ p, p < 19652 → tb p = jv rs m (uo cn cs p)) {f k off : Nat} (hf : f < 4) (hk : k < nbf f) (ho : off < lnf f) (hr : ∀ g, g < f → g < 4 → ix (k * lnf f) g < cn g) : tb (k * lnf f + off) = jv rs m (mix cs f (k * lnf f) (uo cn cs off)) := by
  have hlt : k * lnf f + off < 19652 := by
    rcases f4 hf with rfl | rfl | rfl | rfl
    · have hk : k < 1 := hk
      have ho : off < 19652 := ho
      show k * 19652 + off < 19652; omega
    · have hk : k < 17 := hk
      have ho : off < 1156 := ho
      show k * 1156 + off < 19652; omega
    · have hk : k < 289 := hk
      have ho : off < 68 := ho
      show k * 68 + off < 19652; omega
    · have hk : k < 4913 := hk
      have ho : off < 4 := ho
      show k * 4 + off < 19652; omega
  rw [ht _ hlt]
  have e : ∀ g, g < 4 → uo cn cs (k * lnf f + off) g = mix cs f (k * lnf f) (uo cn cs off) g := by
    intro g hg
    unfold uo mix
    rw [ix_at hf hk ho hg]
    by_cases c : g < f
    · rw [if_pos c, if_pos c]
      unfold clp
      rw [if_pos (hr g c hg)]
    · rw [if_neg c, if_neg c]
  unfold jv
  rw [e 0 (by omega), e 1 (by omega), e 2 (by omega), e 3 (by omega)]
/-- each field's box of u -/
theorem boxes (hb : bxr rs m cn cs) {u : Nat → Nat} (hu : frg u) : ∃ r : Nat → Nat, ∀ g, g < 4 → r g < cn g ∧ cs g (r g) ≤ u g ∧ u g < enr (cs g) (cn g) (mst g + 1) (r g) := by
  have h := fun g (hg : g < 4) => rows_find (hb g hg).1 (x := u g) (by have := hu g hg; omega)
  obtain ⟨r0, h0⟩ := h 0 (by omega)
  obtain ⟨r1, h1⟩ := h 1 (by omega)
  obtain ⟨r2, h2⟩ := h 2 (by omega)
  obtain ⟨r3, h3⟩ := h 3 (by omega)
  refine ⟨fun g => if g = 0 then r0 else if g = 1 then r1 else if g = 2 then r2 else r3, fun g hg => ?_⟩
  rcases f4 hg with rfl | rfl | rfl | rfl
  · exact h0
  · exact h1
  · exact h2
  · exact h3
theorem smB_iff {p q n : Nat} : smB tb p q n = true ↔ ∀ o, o < n → tb (p + o) = tb (q + o) := by
  unfold smB
  exact decide_eq_true_iff
/-- blocks alike -/
theorem blk_iff (hb : bxr rs m cn cs) (ht : ∀ p, p < 19652 → tb p = jv rs m (uo cn cs p)) {f k k' : Nat} (hf : f < 4) (hk : k < nbf f) (hk' : k' < nbf f) (hr : ∀ g, g < f → g < 4 → ix (k * lnf f) g < cn g) (hr' : ∀ g, g < f → g < 4 → ix (k' * lnf f) g < cn g) : smB tb (k' * lnf f) (k * lnf f) (lnf f) = true ↔ ∀ u, frg u → jv rs m (mix cs f (k' * lnf f) u) = jv rs m (mix cs f (k * lnf f) u) := by
  rw [smB_iff]
  constructor
  · intro h u hu
    obtain ⟨r, r1⟩ := boxes hb hu
    obtain ⟨off, o1, o2⟩ := ix_off hf (r := r) (fun g hg => Nat.lt_of_lt_of_le (r1 g hg).1 (hb g hg).2.2)
    have e := h off o1
    rw [tb_at ht hf hk o1 hr, tb_at ht hf hk' o1 hr'] at e
    have q : ∀ g, f ≤ g → g < 4 → ∀ i, i < m → r_mf (rs i) g (u g) = r_mf (rs i) g (uo cn cs off g) := by
      intro g g1 g2 i hi
      unfold uo
      rw [o2 g g1 g2]
      unfold clp
      rw [if_pos (r1 g g2).1]
      exact box_mf hb g2 (r1 g g2).1 (r1 g g2).2.1 (r1 g g2).2.2 hi
    rw [mix_congr hb hr' hu (uo_frg hb off) q, mix_congr hb hr hu (uo_frg hb off) q, e]
  · intro h off ho
    rw [tb_at ht hf hk ho hr, tb_at ht hf hk' ho hr']
    exact h _ (uo_frg hb off)
/-- rows of a block alike -/
theorem sub_iff (hb : bxr rs m cn cs) (ht : ∀ p, p < 19652 → tb p = jv rs m (uo cn cs p)) {f k j j' : Nat} (hf : f < 4) (hk : k < nbf f) (hj : j < wid f) (hj' : j' < wid f) (hr : ∀ g, g < f → g < 4 → ix (k * lnf f) g < cn g) : smB tb (k * lnf f + j * roo f) (k * lnf f + j' * roo f) (roo f) = true ↔ ∀ u, frg u → jv rs m (mix cs f (k * lnf f) (va_up u f (cs f (clp (cn f) j)))) = jv rs m (mix cs f (k * lnf f) (va_up u f (cs f (clp (cn f) j')))) := by
  have hro : ∀ j, j < wid f → ∀ o, o < roo f → j * roo f + o < lnf f := by
    intro j hj o ho
    have : (j + 1) * roo f ≤ wid f * roo f := Nat.mul_le_mul_right _ (by omega)
    rw [Nat.succ_mul] at this
    show j * roo f + o < wid f * roo f
    omega
  have hcf : ∀ j, cs f (clp (cn f) j) ≤ mst f := by
    intro j
    have h := (hb f hf).1
    have := rows_top h (clp_lt h.2.1 (k := j))
    omega
  have key : ∀ j, j < wid f → ∀ o, o < roo f → tb (k * lnf f + j * roo f + o) = jv rs m (mix cs f (k * lnf f) (va_up (uo cn cs o) f (cs f (clp (cn f) j)))) := by
    intro j hj o ho
    rw [Nat.add_assoc, tb_at ht hf hk (hro j hj o ho) hr]
    refine mix_congr hb hr (uo_frg hb _) (frg_up (uo_frg hb o) (hcf j)) (fun g g1 g2 i hi => ?_)
    by_cases c : g = f
    · subst c
      rw [va_up_self]
      unfold uo
      rw [ix_sub hf hj ho (Nat.le_refl _) g2, if_pos rfl]
    · rw [va_up_ne _ _ c]
      unfold uo
      rw [ix_sub hf hj ho g1 g2, if_neg c]
  rw [smB_iff]
  constructor
  · intro h u hu
    obtain ⟨r, r1⟩ := boxes hb hu
    obtain ⟨o, o1, o2⟩ := ix_so hf (r := r) (fun g hg => Nat.lt_of_lt_of_le (r1 g hg).1 (hb g hg).2.2)
    have e := h o o1
    rw [key j hj o o1, key j' hj' o o1] at e
    have q : ∀ j, jv rs m (mix cs f (k * lnf f) (va_up u f (cs f (clp (cn f) j)))) = jv rs m (mix cs f (k * lnf f) (va_up (uo cn cs o) f (cs f (clp (cn f) j)))) := by
      intro j
      refine mix_congr hb hr (frg_up hu (hcf j)) (frg_up (uo_frg hb o) (hcf j)) (fun g g1 g2 i hi => ?_)
      by_cases c : g = f
      · subst c
        rw [va_up_self, va_up_self]
      · rw [va_up_ne _ _ c, va_up_ne _ _ c]
        unfold uo
        rw [o2 g (by omega) g2]
        unfold clp
        rw [if_pos (r1 g g2).1]
        exact box_mf hb g2 (r1 g g2).1 (r1 g g2).2.1 (r1 g g2).2.2 hi
    rw [q j, q j', e]
  · intro h o ho
    rw [key j hj o ho, key j' hj' o ho]
    exact h _ (uo_frg hb o)
theorem rwm_runs (hb : bxr rs m cn cs) (ht : ∀ p, p < 19652 → tb p = jv rs m (uo cn cs p)) {f k : Nat} (hf : f < 4) (hk : k < nbf f) (hr : ∀ g, g < f → g < 4 → ix (k * lnf f) g < cn g) {T : Nat → Nat → Bool} (hT : ∀ x y, x ≤ mst f → y ≤ mst f → (T x y = true ↔ ∀ u, frg u → jv rs m (mix cs f (k * lnf f) (va_up u f x)) = jv rs m (mix cs f (k * lnf f) (va_up u f y)))) (h0 : ∀ x, T x x = true) :
    rwm tb f (k * lnf f) (wid f - 1) = 1 + sm (fun x => if T x (x + 1) = true then 0 else 1) (mst f) := by
  obtain ⟨ho, hs, hw⟩ := hb f hf
  have hcf : ∀ j, cs f (clp (cn f) j) ≤ mst f := by
    intro j
    have := rows_top ho (clp_lt ho.2.1 (k := j))
    omega
  have hen : ∀ a, a < cn f → enr (cs f) (cn f) (mst f + 1) a ≤ mst f + 1 := by
    intro a ha
    unfold enr
    split
    · exact Nat.le_of_lt (rows_top ho (by omega))
    · exact Nat.le_refl _
  unfold rwm
  rw [← rows_chg ho (T := T) h0 (fun a b x y ha hb' x1 x2 y1 y2 => ?_)]
  · refine congrArg (1 + ·) ?_
    have e : ∀ j, j < wid f - 1 → (if smB tb (k * lnf f + j * roo f) (k * lnf f + (j + 1) * roo f) (roo f) = true then 0 else 1) = (if T (cs f (clp (cn f) j)) (cs f (clp (cn f) (j + 1))) = true then 0 else 1) := by
      intro j hj
      have : smB tb (k * lnf f + j * roo f) (k * lnf f + (j + 1) * roo f) (roo f) = T (cs f (clp (cn f) j)) (cs f (clp (cn f) (j + 1))) := by
        rw [Bool.eq_iff_iff, sub_iff hb ht hf hk (by omega) (by omega) hr, hT _ _ (hcf j) (hcf (j + 1))]
      rw [this]
    rw [sm_congr e]
    have hn := ho.2.1
    rw [sm_block (F := fun j => if T (cs f (clp (cn f) j)) (cs f (clp (cn f) (j + 1))) = true then 0 else 1) (a := cn f - 1) (b := wid f - 1) (v := 0) (by omega) (fun j j1 j2 => ?_), Nat.zero_mul, Nat.add_zero]
    · refine sm_congr (fun j hj => ?_)
      show (if T (cs f (clp (cn f) j)) (cs f (clp (cn f) (j + 1))) = true then 0 else 1) = _
      unfold clp
      rw [if_pos (show j < cn f by omega), if_pos (show j + 1 < cn f by omega)]
    · show (if T (cs f (clp (cn f) j)) (cs f (clp (cn f) (j + 1))) = true then 0 else 1) = 0
      have : clp (cn f) j = clp (cn f) (j + 1) := by unfold clp; split <;> split <;> omega
      rw [this, if_pos (h0 _)]
  · have xa := hen a ha
    have xb := hen b hb'
    have ta := rows_top ho ha
    have tb' := rows_top ho hb'
    rw [Bool.eq_iff_iff, hT x y (by omega) (by omega), hT _ _ (by omega) (by omega)]
    have q : ∀ x a, a < cn f → cs f a ≤ x → x < enr (cs f) (cn f) (mst f + 1) a → ∀ u, frg u → jv rs m (mix cs f (k * lnf f) (va_up u f x)) = jv rs m (mix cs f (k * lnf f) (va_up u f (cs f a))) := by
      intro x a ha x1 x2 u hu
      have xa := hen a ha
      have ta := rows_top ho ha
      refine mix_congr hb hr (frg_up hu (by omega)) (frg_up hu (by omega)) (fun g g1 g2 i hi => ?_)
      by_cases c : g = f
      · subst c
        rw [va_up_self, va_up_self]
        exact box_mf hb g2 ha x1 x2 hi
      · rw [va_up_ne _ _ c, va_up_ne _ _ c]
    constructor
    · intro h u hu
      rw [← q x a ha x1 x2 u hu, ← q y b hb' y1 y2 u hu]
      exact h u hu
    · intro h u hu
      rw [q x a ha x1 x2 u hu, q y b hb' y1 y2 u hu]
      exact h u hu
end BOX

