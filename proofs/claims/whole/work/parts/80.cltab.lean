/-! the tables of the class's diagram -/
def frg (u : Nat → Nat) : Prop := ∀ g, g < 4 → u g ≤ mst g
def jv (rs : Nat → Rl) (m : Nat) (u : Nat → Nat) : Nat := jdg rs m (pkt (u 0) (u 1) (u 2) (u 3))
theorem frg_b {u : Nat → Nat} (h : frg u) : u 0 ≤ 255 ∧ u 1 ≤ 255 ∧ u 2 ≤ 1023 ∧ u 3 ≤ 3 := ⟨h 0 (by omega), h 1 (by omega), h 2 (by omega), h 3 (by omega)⟩
theorem frg_up {u : Nat → Nat} (h : frg u) {f x : Nat} (hx : x ≤ mst f) : frg (va_up u f x) := by
  intro g hg
  by_cases e : g = f
  · subst e; rw [va_up_self]; exact hx
  · rw [va_up_ne _ _ e]; exact h g hg
theorem jdg_congr {rs : Nat → Rl} {m p q : Nat} (h : ∀ i, i < m → r_m (rs i) p = r_m (rs i) q) : jdg rs m p = jdg rs m q := by
  unfold jdg
  rw [fi_congr (b := fun i => r_m (rs i) p) (c := fun i => r_m (rs i) q) h]
theorem jv_congr {rs : Nat → Rl} {m : Nat} {u v : Nat → Nat} (hu : frg u) (hv : frg v) (h : ∀ g, g < 4 → ∀ i, i < m → r_mf (rs i) g (u g) = r_mf (rs i) g (v g)) : jv rs m u = jv rs m v := by
  obtain ⟨a, b, c, d⟩ := frg_b hu
  obtain ⟨a', b', c', d'⟩ := frg_b hv
  refine jdg_congr (fun i hi => ?_)
  rw [r_m_pkt _ a b c d, r_m_pkt _ a' b' c' d', h 0 (by omega) i hi, h 1 (by omega) i hi, h 2 (by omega) i hi, h 3 (by omega) i hi]
def tls (rs : Nat → Rl) (m : Nat) : Nat → Nat → (Nat → Nat) → Nat
  | 0, s, _ => s
  | k + 1, s, u => tls rs m k (s &&& ags rs (3 - k) (u (3 - k)) m) u
def ps (rs : Nat → Rl) (m : Nat) (u : Nat → Nat) : Nat → Nat
  | 0 => 2 ^ m - 1
  | f + 1 => ps rs m u f &&& ags rs f (u f) m
theorem ps_lt (rs : Nat → Rl) (m : Nat) (u : Nat → Nat) : ∀ f, ps rs m u f < 2 ^ m := by
  intro f
  induction f with
  | zero =>
    show 2 ^ m - 1 < 2 ^ m
    have := Nat.two_pow_pos m
    omega
  | succ f ih => exact Nat.lt_of_le_of_lt Nat.and_le_left ih
theorem ps_congr {rs : Nat → Rl} {m : Nat} {u v : Nat → Nat} : ∀ f, (∀ g, g < f → u g = v g) → ps rs m u f = ps rs m v f := by
  intro f
  induction f with
  | zero => intro _; rfl
  | succ f ih =>
    intro h
    show ps rs m u f &&& ags rs f (u f) m = ps rs m v f &&& ags rs f (v f) m
    rw [ih (fun g hg => h g (by omega)), h f (by omega)]
theorem tls_ps (rs : Nat → Rl) (m : Nat) (u : Nat → Nat) : ∀ k, k ≤ 4 → tls rs m k (ps rs m u (4 - k)) u = ps rs m u 4 := by
  intro k
  induction k with
  | zero => intro _; rfl
  | succ k ih =>
    intro hk
    show tls rs m k (ps rs m u (4 - (k + 1)) &&& ags rs (3 - k) (u (3 - k)) m) u = _
    have e : 4 - (k + 1) = 3 - k := by omega
    have e2 : 4 - k = (3 - k) + 1 := by omega
    rw [← ih (by omega), e, e2]
    rfl
theorem ps_jv (rs : Nat → Rl) {m : Nat} (hm : m ≤ 8) {u : Nat → Nat} (hu : frg u) : jds rs (ps rs m u 4) = jv rs m u := by
  obtain ⟨a, b, c, d⟩ := frg_b hu
  exact jds_jdg hm (sts_bit rs m (full_bit m) a b c d)
theorem tls_congr {rs : Nat → Rl} {m : Nat} {u v : Nat → Nat} : ∀ k s, (∀ g, 4 - k ≤ g → g < 4 → u g = v g) → k ≤ 4 → tls rs m k s u = tls rs m k s v := by
  intro k
  induction k with
  | zero => intro s _ _; rfl
  | succ k ih =>
    intro s h hk
    show tls rs m k (s &&& ags rs (3 - k) (u (3 - k)) m) u = tls rs m k (s &&& ags rs (3 - k) (v (3 - k)) m) v
    rw [h (3 - k) (by omega) (by omega)]
    exact ih _ (fun g g1 g2 => h g (by omega) g2) (by omega)
/-- the tables that packets reach -/
def rch (rs : Nat → Rl) (m f s : Nat) : Prop := ∃ u, frg u ∧ ps rs m u f = s
theorem rch_wy (rs : Nat → Rl) (m : Nat) : ∀ f, f ≤ 4 → ∀ s, (0 < wyS rs m f s ↔ rch rs m f s) := by
  intro f
  induction f with
  | zero =>
    intro _ s
    show 0 < (if s = 2 ^ m - 1 then 1 else 0) ↔ _
    constructor
    · intro h
      by_cases c : s = 2 ^ m - 1
      · exact ⟨fun _ => 0, fun _ _ => Nat.zero_le _, c.symm⟩
      · rw [if_neg c] at h; omega
    · rintro ⟨u, -, h⟩
      have h' : s = 2 ^ m - 1 := h.symm
      rw [if_pos h']; omega
  | succ f ih =>
    intro hf s
    show 0 < sm (fun o => wyS rs m f o * cnt rs m f o s) (2 ^ m) ↔ _
    rw [sm_pos]
    constructor
    · rintro ⟨o, ho, h⟩
      have h1 : 0 < wyS rs m f o := Nat.pos_of_mul_pos_right h
      have h2 : 0 < cnt rs m f o s := Nat.pos_of_mul_pos_left h
      obtain ⟨u, hu, hp⟩ := (ih (by omega) o).mp h1
      obtain ⟨v, hv, h3⟩ := sm_pos.mp h2
      have h4 : o &&& ags rs f v m = s := by
        by_cases c : o &&& ags rs f v m = s
        · exact c
        · have h3' : 0 < (if o &&& ags rs f v m = s then 1 else 0) := h3
          rw [if_neg c] at h3'; omega
      refine ⟨va_up u f v, frg_up hu (by omega), ?_⟩
      show ps rs m (va_up u f v) f &&& ags rs f (va_up u f v f) m = s
      rw [va_up_self, ps_congr f (v := u) (fun g hg => va_up_ne _ _ (by omega)), hp, h4]
    · rintro ⟨u, hu, hp⟩
      refine ⟨ps rs m u f, ps_lt rs m u f, Nat.mul_pos ((ih (by omega) _).mpr ⟨u, hu, rfl⟩) ?_⟩
      refine sm_pos.mpr ⟨u f, by have := hu f (by omega); omega, ?_⟩
      show 0 < (if ps rs m u f &&& ags rs f (u f) m = s then 1 else 0)
      have hp' : ps rs m u f &&& ags rs f (u f) m = s := hp
      rw [if_pos hp']; omega
theorem rch_lt {rs : Nat → Rl} {m f s : Nat} (h : rch rs m f s) : s < 2 ^ m := by
  obtain ⟨u, -, rfl⟩ := h
  exact ps_lt rs m u f
theorem rch_up {rs : Nat → Rl} {m f s x : Nat} (h : rch rs m f s) (hx : x ≤ mst f) : rch rs m (f + 1) (s &&& ags rs f x m) := by
  obtain ⟨u, hu, rfl⟩ := h
  refine ⟨va_up u f x, frg_up hu hx, ?_⟩
  show ps rs m (va_up u f x) f &&& ags rs f (va_up u f x f) m = _
  rw [va_up_self, ps_congr f (v := u) (fun g hg => va_up_ne _ _ (by omega))]
theorem lkr_keep (wyf lk1 ct : Nat → Nat) (n : Nat) (w : Nat → Nat) : ∀ S o, S ≤ o → lkr wyf lk1 ct n S w o = w o := by
  intro S
  induction S with
  | zero => intro o _; rfl
  | succ S ih =>
    intro o ho
    show (if 0 < wyf S then va_up (lkr wyf lk1 ct n S w) S (flk wyf (lkr wyf lk1 ct n S w) lk1 ct n S) else lkr wyf lk1 ct n S w) o = w o
    split
    · rw [va_up_ne _ _ (by omega)]; exact ih o (by omega)
    · exact ih o (by omega)
theorem lkr_low (wyf lk1 ct : Nat → Nat) (n : Nat) (w : Nat → Nat) : ∀ d S o, o < S → lkr wyf lk1 ct n (S + d) w o = lkr wyf lk1 ct n S w o := by
  intro d
  induction d with
  | zero => intro S o _; rfl
  | succ d ih =>
    intro S o ho
    show (if 0 < wyf (S + d) then va_up (lkr wyf lk1 ct n (S + d) w) (S + d) (flk wyf (lkr wyf lk1 ct n (S + d) w) lk1 ct n (S + d)) else lkr wyf lk1 ct n (S + d) w) o = _
    split
    · rw [va_up_ne _ _ (by omega)]; exact ih S o ho
    · exact ih S o ho
theorem lkr_at {wyf lk1 ct : Nat → Nat} {n S : Nat} {w : Nat → Nat} {s : Nat} (hs : s < S) (hw : 0 < wyf s) : lkr wyf lk1 ct n S w s = fi (fun o => decide (0 < wyf o) && (decide (lkr wyf lk1 ct n S w o = o) && alk lk1 ct n o s)) s := by
  obtain ⟨d, rfl⟩ : ∃ d, S = (s + 1) + d := ⟨S - (s + 1), by omega⟩
  rw [lkr_low wyf lk1 ct n w d (s + 1) s (by omega)]
  show (if 0 < wyf s then va_up (lkr wyf lk1 ct n s w) s (flk wyf (lkr wyf lk1 ct n s w) lk1 ct n s) else lkr wyf lk1 ct n s w) s = _
  rw [if_pos hw, va_up_self]
  unfold flk
  refine fi_congr (fun o ho => ?_)
  rw [show lkr wyf lk1 ct n (s + 1 + d) w o = lkr wyf lk1 ct n s w o by rw [show s + 1 + d = s + (1 + d) by omega]; exact lkr_low wyf lk1 ct n w (1 + d) s o ho]
/-- a first one of each kind -/
theorem canon {K : Nat → Nat} {S : Nat} {a : Nat → Prop} {R : Nat → Nat → Prop} (hK : ∀ s, s < S → a s → K s ≤ s ∧ (K s < s → a (K s) ∧ K (K s) = K s ∧ R (K s) s) ∧ ∀ o, o < K s → a o → K o = o → ¬ R o s)
    (r1 : ∀ x, R x x) (r2 : ∀ x y, R x y → R y x) (r3 : ∀ x y z, R x y → R y z → R x z) :
    (∀ s o, s < S → o < S → a s → a o → (K s = K o ↔ R s o)) ∧ ∀ s, s < S → a s → (K s = s ↔ ∀ o, o < s → a o → ¬ R o s) := by
  have hR : ∀ s, s < S → a s → R (K s) s ∧ a (K s) ∧ K (K s) = K s := by
    intro s hs ha
    obtain ⟨h1, h2, -⟩ := hK s hs ha
    by_cases c : K s < s
    · exact ⟨(h2 c).2.2, (h2 c).1, (h2 c).2.1⟩
    · have e : K s = s := by omega
      rw [e]
      exact ⟨r1 s, ha, e⟩
  have hone : ∀ s o, s < S → o < S → a s → a o → (K s = K o ↔ R s o) := by
    intro s o hs ho as ao
    obtain ⟨x1, x2, x3⟩ := hR s hs as
    obtain ⟨y1, y2, y3⟩ := hR o ho ao
    constructor
    · intro e
      rw [e] at x1
      exact r3 _ _ _ (r2 _ _ x1) y1
    · intro e
      rcases Nat.lt_trichotomy (K s) (K o) with c | c | c
      · exact absurd (r3 _ _ _ x1 e) ((hK o ho ao).2.2 (K s) c x2 x3)
      · exact c
      · exact absurd (r3 _ _ _ y1 (r2 _ _ e)) ((hK s hs as).2.2 (K o) c y2 y3)
  refine ⟨hone, fun s hs ha => ⟨fun e o ho ao hr => ?_, fun h => ?_⟩⟩
  · have := (hone o s (by omega) hs ao ha).mpr hr
    have := (hK o (by omega) ao).1
    omega
  · obtain ⟨h1, h2, -⟩ := hK s hs ha
    by_cases c : K s < s
    · exact absurd (h2 c).2.2 (h (K s) c (h2 c).1)
    · omega
theorem alk_iff {lk1 ct : Nat → Nat} {n a b : Nat} : alk lk1 ct n a b = true ↔ ∀ r, r < n → lk1 (a &&& ct r) = lk1 (b &&& ct r) := by
  unfold alk
  exact decide_eq_true_iff
/-- two tables judge alike -/
def alv (rs : Nat → Rl) (m k s o : Nat) : Prop := ∀ u, frg u → jds rs (tls rs m k s u) = jds rs (tls rs m k o u)
theorem alv_r (rs : Nat → Rl) (m k x : Nat) : alv rs m k x x := fun _ _ => rfl
theorem alv_s {rs : Nat → Rl} {m k x y : Nat} (h : alv rs m k x y) : alv rs m k y x := fun u hu => (h u hu).symm
theorem alv_t {rs : Nat → Rl} {m k x y z : Nat} (h : alv rs m k x y) (h' : alv rs m k y z) : alv rs m k x z := fun u hu => (h u hu).trans (h' u hu)
theorem alv_up {rs : Nat → Rl} {m k s o : Nat} (hk : k < 4) : alv rs m (k + 1) s o ↔ ∀ x, x ≤ mst (3 - k) → alv rs m k (s &&& ags rs (3 - k) x m) (o &&& ags rs (3 - k) x m) := by
  constructor
  · intro h x hx u hu
    have := h (va_up u (3 - k) x) (frg_up hu hx)
    rw [show tls rs m (k + 1) s (va_up u (3 - k) x) = tls rs m k (s &&& ags rs (3 - k) (va_up u (3 - k) x (3 - k)) m) (va_up u (3 - k) x) from rfl, show tls rs m (k + 1) o (va_up u (3 - k) x) = tls rs m k (o &&& ags rs (3 - k) (va_up u (3 - k) x (3 - k)) m) (va_up u (3 - k) x) from rfl, va_up_self] at this
    rw [tls_congr k _ (v := u) (fun g g1 g2 => va_up_ne _ _ (by omega)) (by omega), tls_congr k _ (v := u) (fun g g1 g2 => va_up_ne _ _ (by omega)) (by omega)] at this
    exact this
  · intro h u hu
    exact h (u (3 - k)) (hu _ (by omega)) u hu
theorem lk_sem {rs : Nat → Rl} {m : Nat} {cn : Nat → Nat} {cs ct wy lk : Nat → Nat → Nat} (hm : m ≤ 8) (h : tabP rs m cn cs ct wy lk) : ∀ k, k ≤ 4 →
    (∀ s o, rch rs m (4 - k) s → rch rs m (4 - k) o → (lk (4 - k) s = lk (4 - k) o ↔ alv rs m k s o)) ∧ (k ≠ 0 → ∀ s, rch rs m (4 - k) s → (lk (4 - k) s = s ↔ ∀ o, o < s → rch rs m (4 - k) o → ¬ alv rs m k o s)) := by
  obtain ⟨hc, hwy, h4, lk0, hl⟩ := h
  have h256 : 2 ^ m ≤ 256 := Nat.pow_le_pow_right (by omega) hm
  intro k
  induction k with
  | zero =>
    intro _
    refine ⟨fun s o hs ho => ?_, fun q => absurd rfl q⟩
    show lk 4 s = lk 4 o ↔ _
    rw [h4 s (rch_lt hs), h4 o (rch_lt ho)]
    exact ⟨fun e u _ => e, fun e => e (fun _ => 0) (fun _ _ => Nat.zero_le _)⟩
  | succ k ih =>
    intro hk
    obtain ⟨ih1, -⟩ := ih (by omega)
    have e1 : 4 - (k + 1) = 3 - k := by omega
    have e2 : 4 - k = 3 - k + 1 := by omega
    rw [e2] at ih1
    rw [e1]
    have hf : 3 - k < 4 := by omega
    have hlk := hl (3 - k) hf
    obtain ⟨hr, hcut⟩ := hc (3 - k) hf
    have hal : ∀ s o, rch rs m (3 - k) s → rch rs m (3 - k) o → (alk (lk (3 - k + 1)) (ct (3 - k)) (cn (3 - k)) s o = true ↔ alv rs m (k + 1) s o) := by
      intro s o hs ho
      rw [alk_iff, alv_up (by omega)]
      constructor
      · intro h x hx
        obtain ⟨r, r1, r2, r3⟩ := rows_find hr (x := x) (by omega)
        refine (ih1 _ _ (rch_up hs hx) (rch_up ho hx)).mp ?_
        rw [hcut r r1 x r2 r3]
        exact h r r1
      · intro h r hr1
        have hx : cs (3 - k) r ≤ mst (3 - k) := by have := rows_top hr hr1; omega
        rw [← hcut r hr1 (cs (3 - k) r) (Nat.le_refl _) (rows_lt hr hr1)]
        exact (ih1 _ _ (rch_up hs hx) (rch_up ho hx)).mpr (h _ hx)
    have hw : ∀ s, s < 2 ^ m → (0 < wy (3 - k) s ↔ rch rs m (3 - k) s) := fun s hs => by
      rw [hwy (3 - k) s (by omega) (by omega)]
      exact rch_wy rs m (3 - k) (by omega) s
    have hcan := canon (K := lk (3 - k)) (S := 2 ^ m) (a := rch rs m (3 - k)) (R := alv rs m (k + 1)) (by
      intro s hs ha
      have e : lk (3 - k) s = fi (fun o => decide (0 < wy (3 - k) o) && (decide (lk (3 - k) o = o) && alk (lk (3 - k + 1)) (ct (3 - k)) (cn (3 - k)) o s)) s := by
        have := lkr_at (wyf := wy (3 - k)) (lk1 := lk (3 - k + 1)) (ct := ct (3 - k)) (n := cn (3 - k)) (w := lk0 (3 - k)) hs ((hw s hs).mpr ha)
        rw [← hlk] at this
        exact this
      have sp := fi_spec (fun o => decide (0 < wy (3 - k) o) && (decide (lk (3 - k) o = o) && alk (lk (3 - k + 1)) (ct (3 - k)) (cn (3 - k)) o s)) s
      have le := fi_le (fun o => decide (0 < wy (3 - k) o) && (decide (lk (3 - k) o = o) && alk (lk (3 - k + 1)) (ct (3 - k)) (cn (3 - k)) o s)) s
      rw [← e] at sp le
      refine ⟨le, fun c => ?_, fun o ho ao ko hr => ?_⟩
      · have h2 := sp.2 c
        rw [Bool.and_eq_true, Bool.and_eq_true] at h2
        have ar := (hw _ (by omega)).mp (of_decide_eq_true h2.1)
        exact ⟨ar, of_decide_eq_true h2.2.1, (hal _ _ ar ha).mp h2.2.2⟩
      · have h2 := sp.1 o ho
        rw [decide_eq_true ((hw o (by omega)).mpr ao), decide_eq_true ko, (hal o s ao ha).mpr hr] at h2
        cases h2) (alv_r rs m (k + 1)) (fun _ _ => alv_s) (fun _ _ _ => alv_t)
    exact ⟨fun s o hs ho => hcan.1 s o (rch_lt hs) (rch_lt ho) hs ho, fun _ s hs => hcan.2 s (rch_lt hs) hs⟩
/-- runs of values behind which one judges alike -/
theorem rwo_runs {rs : Nat → Rl} {m : Nat} {cn : Nat → Nat} {cs ct wy lk : Nat → Nat → Nat} (hm : m ≤ 8) (h : tabP rs m cn cs ct wy lk) {k s : Nat} (hk : k < 4) (hs : rch rs m (3 - k) s) {T : Nat → Nat → Bool} (hT : ∀ x y, x ≤ mst (3 - k) → y ≤ mst (3 - k) → (T x y = true ↔ alv rs m k (s &&& ags rs (3 - k) x m) (s &&& ags rs (3 - k) y m))) :
    rwo (fun r => lk (3 - k + 1) (s &&& ct (3 - k) r)) (cn (3 - k)) = 1 + sm (fun x => if T x (x + 1) = true then 0 else 1) (mst (3 - k)) := by
  have hse := (lk_sem hm h k (by omega)).1
  rw [show 4 - k = 3 - k + 1 by omega] at hse
  obtain ⟨hr, hcut⟩ := h.1 (3 - k) (by omega)
  unfold rwo
  obtain ⟨T', hT'⟩ : ∃ T' : Nat → Nat → Bool, T' = fun x y => decide (lk (3 - k + 1) (s &&& ags rs (3 - k) x m) = lk (3 - k + 1) (s &&& ags rs (3 - k) y m)) := ⟨_, rfl⟩
  have e1 : sm (fun x => if T x (x + 1) = true then 0 else 1) (mst (3 - k)) = sm (fun x => if T' x (x + 1) = true then 0 else 1) (mst (3 - k)) := by
    refine sm_congr (fun x hx => ?_)
    show (if T x (x + 1) = true then 0 else 1) = (if T' x (x + 1) = true then 0 else 1)
    have : T x (x + 1) = T' x (x + 1) := by
      rw [Bool.eq_iff_iff, hT x (x + 1) (by omega) (by omega), hT', decide_eq_true_iff]
      exact (hse _ _ (rch_up hs (by omega)) (rch_up hs (by omega))).symm
    rw [this]
  rw [e1, ← rows_chg hr (T := T') (fun x => by rw [hT']; exact decide_eq_true rfl) (fun a b x y ha hb x1 x2 y1 y2 => by
    rw [hT']
    show decide (lk (3 - k + 1) (s &&& ags rs (3 - k) x m) = lk (3 - k + 1) (s &&& ags rs (3 - k) y m)) = decide (lk (3 - k + 1) (s &&& ags rs (3 - k) (cs (3 - k) a) m) = lk (3 - k + 1) (s &&& ags rs (3 - k) (cs (3 - k) b) m))
    rw [hcut a ha x x1 x2, hcut b hb y y1 y2, hcut a ha _ (Nat.le_refl _) (rows_lt hr ha), hcut b hb _ (Nat.le_refl _) (rows_lt hr hb)])]
  refine congrArg (1 + ·) (sm_congr (fun r hr1 => ?_))
  show (if lk (3 - k + 1) (s &&& ct (3 - k) (r + 1)) = lk (3 - k + 1) (s &&& ct (3 - k) r) then 0 else 1) = (if T' (cs (3 - k) r) (cs (3 - k) (r + 1)) = true then 0 else 1)
  rw [hT']
  show _ = (if decide (lk (3 - k + 1) (s &&& ags rs (3 - k) (cs (3 - k) r) m) = lk (3 - k + 1) (s &&& ags rs (3 - k) (cs (3 - k) (r + 1)) m)) = true then 0 else 1)
  rw [hcut r (by omega) _ (Nat.le_refl _) (rows_lt hr (by omega)), hcut (r + 1) (by omega) _ (Nat.le_refl _) (rows_lt hr (by omega))]
  by_cases c : lk (3 - k + 1) (s &&& ct (3 - k) (r + 1)) = lk (3 - k + 1) (s &&& ct (3 - k) r)
  · rw [if_pos c, if_pos (decide_eq_true c.symm)]
  · rw [if_neg c, if_neg (by rw [decide_eq_false (fun q => c q.symm)]; decide)]

