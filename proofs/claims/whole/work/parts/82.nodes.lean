/-! the class's nodes and edges are the model's -/
def cdd (tb cn : Nat → Nat) (f k : Nat) : Bool := decide (1 < rwm tb f (k * lnf f) (wid f - 1)) && (rea cn (k * lnf f) && decide (∀ k', k' < k → (rea cn (k' * lnf f) && smB tb (k' * lnf f) (k * lnf f) (lnf f)) = false))
def ctd (tb cn : Nat → Nat) (f : Nat) (e : Bool) : Nat → Nat := sm (fun k => if cdd tb cn f k = true then (if e = true then rwm tb f (k * lnf f) (wid f - 1) else 1) else 0)
theorem cl_jv (rs : Nat → Rl) {m : Nat} (hm : m ≤ 8) {f : Nat} (hf : f ≤ 4) {w u : Nat → Nat} (hw : frg w) (hu : frg u) : jds rs (tls rs m (4 - f) (ps rs m w f) u) = jv rs m (fun g => if g < f then w g else u g) := by
  have e1 : ps rs m w f = ps rs m (fun g => if g < f then w g else u g) f := ps_congr f (fun g hg => by show w g = if g < f then w g else u g; rw [if_pos hg])
  have e2 : tls rs m (4 - f) (ps rs m (fun g => if g < f then w g else u g) f) u = tls rs m (4 - f) (ps rs m (fun g => if g < f then w g else u g) f) (fun g => if g < f then w g else u g) := tls_congr _ _ (fun g g1 g2 => by show u g = if g < f then w g else u g; rw [if_neg (by omega)]) (by omega)
  have e3 := tls_ps rs m (fun g => if g < f then w g else u g) (4 - f) (by omega)
  rw [show 4 - (4 - f) = f by omega] at e3
  rw [e1, e2, e3]
  refine ps_jv rs hm (fun g hg => ?_)
  show (if g < f then w g else u g) ≤ mst g
  split
  · exact hw g hg
  · exact hu g hg
theorem tie {rs : Nat → Rl} {m : Nat} {cn cn' : Nat → Nat} {cs cs' ct wy lk : Nat → Nat → Nat} {tb : Nat → Nat} (hm : m ≤ 8) (h : tabP rs m cn' cs' ct wy lk) (hb : bxr rs m cn cs) (ht : ∀ p, p < 19652 → tb p = jv rs m (uo cn cs p)) {f : Nat} (hf : f < 4) (e : Bool) :
    sm (fun s => if ndo (wy f) (lk f) (lk (f + 1)) (ct f) (cn' f) s = true then (if e = true then rwo (fun r => lk (f + 1) (s &&& ct f r)) (cn' f) else 1) else 0) (2 ^ m) = ctd tb cn f e (nbf f) := by
  have h256 : 2 ^ m ≤ 256 := Nat.pow_le_pow_right (by omega) hm
  obtain ⟨C, hC⟩ : ∃ C : Nat → Nat → Prop, C = fun s k => ∀ u, frg u → jds rs (tls rs m (4 - f) s u) = jv rs m (mix cs f (k * lnf f) u) := ⟨_, rfl⟩
  have cI : ∀ s k, C s k ↔ ∀ u, frg u → jds rs (tls rs m (4 - f) s u) = jv rs m (mix cs f (k * lnf f) u) := fun s k => by rw [hC]
  obtain ⟨W, hW⟩ : ∃ W : Nat → Nat, W = fun s => rwo (fun r => lk (f + 1) (s &&& ct f r)) (cn' f) := ⟨_, rfl⟩
  obtain ⟨V, hV⟩ : ∃ V : Nat → Nat, V = fun k => rwm tb f (k * lnf f) (wid f - 1) := ⟨_, rfl⟩
  have sem := lk_sem hm h (4 - f) (by omega)
  rw [show 4 - (4 - f) = f by omega] at sem
  have hwy : ∀ s, s < 2 ^ m → (0 < wy f s ↔ rch rs m f s) := fun s hs => by
    rw [h.2.1 f s (by omega) (by omega)]
    exact rch_wy rs m f (by omega) s
  have hI : ∀ s, rch rs m f s → ∃ k, k < nbf f ∧ rea cn (k * lnf f) = true ∧ C s k := by
    rintro s ⟨u0, hu0, rfl⟩
    obtain ⟨r, hr⟩ := boxes hb hu0
    obtain ⟨k, k1, k2⟩ := ix_blk hf (r := r) (fun g hg => Nat.lt_of_lt_of_le (hr g hg).1 (hb g hg).2.2)
    have hre : ∀ g, g < f → g < 4 → ix (k * lnf f) g < cn g := by
      intro g g1 g2
      rw [k2 g (by omega), if_pos g1]
      exact (hr g g2).1
    refine ⟨k, k1, (rea_iff hb hf k1).mpr hre, (cI _ _).mpr (fun u hu => ?_)⟩
    rw [cl_jv rs hm (by omega) hu0 hu]
    refine jv_congr (fun g hg => ?_) (mix_frg hb hre hu) (fun g hg i hi => ?_)
    · show (if g < f then u0 g else u g) ≤ mst g
      split
      · exact hu0 g hg
      · exact hu g hg
    · show r_mf (rs i) g (if g < f then u0 g else u g) = r_mf (rs i) g (if g < f then cs g (ix (k * lnf f) g) else u g)
      by_cases c : g < f
      · rw [if_pos c, if_pos c, k2 g (by omega), if_pos c]
        exact box_mf hb hg (hr g hg).1 (hr g hg).2.1 (hr g hg).2.2 hi
      · rw [if_neg c, if_neg c]
  have hJ : ∀ k, k < nbf f → rea cn (k * lnf f) = true → ∃ s, s < 2 ^ m ∧ rch rs m f s ∧ C s k := by
    intro k hk hre
    have hre' := (rea_iff hb hf hk).mp hre
    have hw : frg (fun g => if g < f then cs g (ix (k * lnf f) g) else 0) := mix_frg hb hre' (u := fun _ => 0) (fun _ _ => Nat.zero_le _)
    refine ⟨_, ps_lt rs m _ f, ⟨_, hw, rfl⟩, (cI _ _).mpr (fun u hu => ?_)⟩
    rw [cl_jv rs hm (by omega) hw hu]
    refine congrArg (jv rs m) (funext (fun g => ?_))
    unfold mix
    by_cases c : g < f
    · rw [if_pos c, if_pos c, if_pos c]
    · rw [if_neg c, if_neg c]
  have alC : ∀ s o, rch rs m f s → (alv rs m (4 - f) o s ↔ ∃ k, k < nbf f ∧ rea cn (k * lnf f) = true ∧ C s k ∧ C o k) := by
    intro s o hs
    constructor
    · intro ha
      obtain ⟨k, k1, k2, k3⟩ := hI s hs
      exact ⟨k, k1, k2, k3, (cI _ _).mpr (fun u hu => (ha u hu).trans ((cI _ _).mp k3 u hu))⟩
    · rintro ⟨k, -, -, k3, k4⟩ u hu
      rw [(cI _ _).mp k3 u hu, (cI _ _).mp k4 u hu]
  have hsame : ∀ k k', k < nbf f → k' < nbf f → rea cn (k * lnf f) = true → rea cn (k' * lnf f) = true → (smB tb (k' * lnf f) (k * lnf f) (lnf f) = true ↔ ∃ i, i < 2 ^ m ∧ rch rs m f i ∧ C i k ∧ C i k') := by
    intro k k' hk hk' hr hr'
    rw [blk_iff hb ht hf hk hk' ((rea_iff hb hf hk).mp hr) ((rea_iff hb hf hk').mp hr')]
    constructor
    · intro hq
      obtain ⟨i, i1, i2, i3⟩ := hJ k hk hr
      exact ⟨i, i1, i2, i3, (cI _ _).mpr (fun u hu => ((cI _ _).mp i3 u hu).trans (hq u hu).symm)⟩
    · rintro ⟨i, -, -, i3, i4⟩ u hu
      rw [← (cI _ _).mp i3 u hu, ← (cI _ _).mp i4 u hu]
  have key := ddp (n := 2 ^ m) (m := nbf f) (p := fun s => decide (0 < wy f s) && decide (lk f s = s)) (q := fun k => rea cn (k * lnf f) && decide (∀ k', k' < k → (rea cn (k' * lnf f) && smB tb (k' * lnf f) (k * lnf f) (lnf f)) = false))
    (a := rch rs m f) (b := fun k => rea cn (k * lnf f) = true) (C := C) (w := fun s => if 1 < W s then (if e = true then W s else 1) else 0) (v := fun k => if 1 < V k then (if e = true then V k else 1) else 0)
    (by
      intro s hs
      rw [Bool.and_eq_true, decide_eq_true_iff, decide_eq_true_iff, hwy s hs]
      constructor
      · rintro ⟨h1, h2⟩
        exact ⟨h1, fun o ho ro z => (sem.2 (by omega) s h1).mp h2 o ho ro ((alC s o h1).mpr z)⟩
      · rintro ⟨h1, h2⟩
        exact ⟨h1, (sem.2 (by omega) s h1).mpr (fun o ho ro z => h2 o ho ro ((alC s o h1).mp z))⟩)
    (by
      intro k hk
      show (_ && _) = true ↔ _
      rw [Bool.and_eq_true, decide_eq_true_iff]
      constructor
      · rintro ⟨h1, h2⟩
        refine ⟨h1, fun k' hk' hr' z => ?_⟩
        have := h2 k' hk'
        rw [hr', (hsame k k' hk (by omega) h1 hr').mpr z] at this
        cases this
      · rintro ⟨h1, h2⟩
        refine ⟨h1, fun k' hk' => ?_⟩
        cases hr' : rea cn (k' * lnf f) with
        | false => rfl
        | true =>
          cases hz : smB tb (k' * lnf f) (k * lnf f) (lnf f) with
          | false => rfl
          | true => exact absurd ((hsame k k' hk (by omega) h1 hr').mp hz) (h2 k' hk' hr'))
    (fun s hs ha => hI s ha) (fun k hk hr => hJ k hk hr)
    (by
      intro i i' j j' h1 h2 h3
      exact (cI _ _).mpr (fun u hu => by rw [(cI _ _).mp h2 u hu, ← (cI _ _).mp h1 u hu, (cI _ _).mp h3 u hu]))
    (by
      classical
      intro s k hs hk ha hr hc
      have hre := (rea_iff hb hf hk).mp hr
      obtain ⟨T, hT⟩ : ∃ T : Nat → Nat → Bool, T = fun x y => decide (∀ u, frg u → jv rs m (mix cs f (k * lnf f) (va_up u f x)) = jv rs m (mix cs f (k * lnf f) (va_up u f y))) := ⟨_, rfl⟩
      have e1 := rwm_runs hb ht hf hk hre (T := T) (fun x y _ _ => by rw [hT]; exact decide_eq_true_iff) (fun x => by rw [hT]; exact decide_eq_true (fun _ _ => rfl))
      have e3 : 3 - (3 - f) = f := by omega
      have e2 := rwo_runs hm h (k := 3 - f) (s := s) (by omega) (by rw [e3]; exact ha) (T := T) (by
        rw [e3]
        intro x y hx hy
        rw [hT]
        rw [decide_eq_true_iff]
        have q : ∀ x, x ≤ mst f → ∀ u, frg u → jds rs (tls rs m (3 - f) (s &&& ags rs f x m) u) = jv rs m (mix cs f (k * lnf f) (va_up u f x)) := by
          intro x hx u hu
          rw [← (cI _ _).mp hc (va_up u f x) (frg_up hu hx), show 4 - f = (3 - f) + 1 by omega]
          show _ = jds rs (tls rs m (3 - f) (s &&& ags rs (3 - (3 - f)) (va_up u f x (3 - (3 - f))) m) (va_up u f x))
          rw [e3, va_up_self, tls_congr (3 - f) _ (u := va_up u f x) (v := u) (fun g g1 g2 => va_up_ne _ _ (by omega)) (by omega)]
        constructor
        · intro z u hu
          rw [q x hx u hu, q y hy u hu]
          exact z u hu
        · intro z u hu
          rw [← q x hx u hu, ← q y hy u hu]
          exact z u hu)
      rw [e3] at e2
      have : W s = V k := by rw [hW, hV]; exact e2.trans e1.symm
      show (if 1 < W s then (if e = true then W s else 1) else 0) = (if 1 < V k then (if e = true then V k else 1) else 0)
      rw [this])
  unfold ctd
  refine Eq.trans (sm_congr (fun s hs => ?_)) (key.trans (sm_congr (fun k hk => ?_)))
  · show (if ndo (wy f) (lk f) (lk (f + 1)) (ct f) (cn' f) s = true then (if e = true then rwo (fun r => lk (f + 1) (s &&& ct f r)) (cn' f) else 1) else 0) = (if (decide (0 < wy f s) && decide (lk f s = s)) = true then (if 1 < W s then (if e = true then W s else 1) else 0) else 0)
    rw [hW]
    unfold ndo
    cases decide (0 < wy f s) <;> cases decide (lk f s = s) <;> simp
  · show (if (rea cn (k * lnf f) && decide (∀ k', k' < k → (rea cn (k' * lnf f) && smB tb (k' * lnf f) (k * lnf f) (lnf f)) = false)) = true then (if 1 < V k then (if e = true then V k else 1) else 0) else 0) = (if cdd tb cn f k = true then (if e = true then rwm tb f (k * lnf f) (wid f - 1) else 1) else 0)
    rw [hV]
    unfold cdd
    cases (rea cn (k * lnf f) && decide (∀ k', k' < k → (rea cn (k' * lnf f) && smB tb (k' * lnf f) (k * lnf f) (lnf f)) = false)) <;> simp
theorem nodes_tie {rs : Nat → Rl} {m : Nat} {cn : Nat → Nat} {cs : Nat → Nat → Nat} {tb : Nat → Nat} (hm : m ≤ 8) (hb : bxr rs m cn cs) (ht : ∀ p, p < 19652 → tb p = jv rs m (uo cn cs p)) {f : Nat} (hf : f < 4) {V : Nat} (h : nodesP rs m f V) : V = ctd tb cn f false (nbf f) := by
  obtain ⟨cn', cs', ct, wy, lk, h1, h2⟩ := h
  rw [← tie hm h1 hb ht hf false, h2]
  exact sm_congr (fun s _ => by simp)
theorem edges_tie {rs : Nat → Rl} {m : Nat} {cn : Nat → Nat} {cs : Nat → Nat → Nat} {tb : Nat → Nat} (hm : m ≤ 8) (hb : bxr rs m cn cs) (ht : ∀ p, p < 19652 → tb p = jv rs m (uo cn cs p)) {V : Nat} (h : edgesP rs m V) : V = ctd tb cn 0 true (nbf 0) + ctd tb cn 1 true (nbf 1) + ctd tb cn 2 true (nbf 2) + ctd tb cn 3 true (nbf 3) := by
  obtain ⟨cn', cs', ct, wy, lk, h1, h2⟩ := h
  rw [← tie hm h1 hb ht (f := 0) (by omega) true, ← tie hm h1 hb ht (f := 1) (by omega) true, ← tie hm h1 hb ht (f := 2) (by omega) true, ← tie hm h1 hb ht (f := 3) (by omega) true, h2]
  show ((((0 + _) + _) + _) + _) = _
  rw [Nat.zero_add]
  rfl

