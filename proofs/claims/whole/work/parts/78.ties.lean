/-! the class's sums are sums over all packets -/
theorem wys_step (rs : Nat → Rl) (m f : Nat) (g : Nat → Nat) : sm (fun x => g x * wyS rs m (f + 1) x) (2 ^ m) = sm (fun s => sm (fun v => g (s &&& ags rs f v m)) (mst f + 1) * wyS rs m f s) (2 ^ m) := by
  have e1 : sm (fun x => g x * wyS rs m (f + 1) x) (2 ^ m) = sm (fun x => sm (fun s => g x * (wyS rs m f s * cnt rs m f s x)) (2 ^ m)) (2 ^ m) := by
    refine sm_congr (fun x _ => ?_)
    show g x * sm (fun s => wyS rs m f s * cnt rs m f s x) (2 ^ m) = _
    rw [sm_mul]
  rw [e1, sm_swap]
  refine sm_congr (fun s hs => ?_)
  show sm (fun x => g x * (wyS rs m f s * cnt rs m f s x)) (2 ^ m) = sm (fun v => g (s &&& ags rs f v m)) (mst f + 1) * wyS rs m f s
  have e2 : sm (fun x => g x * (wyS rs m f s * cnt rs m f s x)) (2 ^ m) = sm (fun x => sm (fun v => if s &&& ags rs f v m = x then g x else 0) (mst f + 1) * wyS rs m f s) (2 ^ m) := by
    refine sm_congr (fun x _ => ?_)
    show g x * (wyS rs m f s * cnt rs m f s x) = _
    rw [Nat.mul_comm (wyS rs m f s), ← Nat.mul_assoc]
    unfold cnt
    rw [← sm_mul]
    refine congrArg (· * wyS rs m f s) (sm_congr (fun v _ => ?_))
    show g x * (if s &&& ags rs f v m = x then 1 else 0) = (if s &&& ags rs f v m = x then g x else 0)
    split
    · rw [Nat.mul_one]
    · rw [Nat.mul_zero]
  rw [e2, sm_mulr, sm_swap]
  refine congrArg (· * wyS rs m f s) (sm_congr (fun v _ => ?_))
  have hlt : s &&& ags rs f v m < 2 ^ m := Nat.lt_of_le_of_lt Nat.and_le_left hs
  rw [← sm_pick g hlt]
  refine sm_congr (fun x _ => ?_)
  show (if s &&& ags rs f v m = x then g x else 0) = (if x = s &&& ags rs f v m then g x else 0)
  by_cases c : x = s &&& ags rs f v m
  · rw [if_pos c, if_pos c.symm]
  · rw [if_neg c, if_neg (fun q => c q.symm)]
def sts (rs : Nat → Rl) (m s x y z d : Nat) : Nat := (((s &&& ags rs 0 x m) &&& ags rs 1 y m) &&& ags rs 2 z m) &&& ags rs 3 d m
theorem wys_all (rs : Nat → Rl) (m : Nat) (g : Nat → Nat) : sm (fun x => g x * wyS rs m 4 x) (2 ^ m) = sm (fun x => sm (fun y => sm (fun z => sm (fun d => g (sts rs m (2 ^ m - 1) x y z d)) (mst 3 + 1)) (mst 2 + 1)) (mst 1 + 1)) (mst 0 + 1) := by
  rw [wys_step, wys_step, wys_step, wys_step]
  have hp : 2 ^ m - 1 < 2 ^ m := by have := Nat.two_pow_pos m; omega
  rw [← sm_pick (fun s => sm (fun x => sm (fun y => sm (fun z => sm (fun d => g (sts rs m s x y z d)) (mst 3 + 1)) (mst 2 + 1)) (mst 1 + 1)) (mst 0 + 1)) hp]
  refine sm_congr (fun s _ => ?_)
  show sm (fun x => sm (fun y => sm (fun z => sm (fun d => g (sts rs m s x y z d)) (mst 3 + 1)) (mst 2 + 1)) (mst 1 + 1)) (mst 0 + 1) * (if s = 2 ^ m - 1 then 1 else 0) = _
  split
  · rw [Nat.mul_one]
  · rw [Nat.mul_zero]
theorem sts_bit (rs : Nat → Rl) (m : Nat) {s : Nat} (hs : ∀ i, i < m → s.testBit i = true) {x y z d : Nat} (hx : x ≤ 255) (hy : y ≤ 255) (hz : z ≤ 1023) (hd : d ≤ 3) (i : Nat) : (sts rs m s x y z d).testBit i = (decide (i < m) && r_m (rs i) (pkt x y z d)) := by
  unfold sts
  rw [Nat.testBit_and, Nat.testBit_and, Nat.testBit_and, Nat.testBit_and, ags_bit, ags_bit, ags_bit, ags_bit, r_m_pkt _ hx hy hz hd]
  by_cases c : i < m
  · rw [decide_eq_true c, hs i c]
    simp
  · rw [decide_eq_false c]
    simp
theorem full_bit (m i : Nat) (h : i < m) : (2 ^ m - 1).testBit i = true := by
  rw [Nat.testBit_two_pow_sub_one]
  exact decide_eq_true h
/-- the first rule of a set -/
theorem lb_fi {S m : Nat} {b : Nat → Bool} (hm : m ≤ 8) (h : ∀ i, S.testBit i = (decide (i < m) && b i)) : (S = 0 → fi b m = m) ∧ (S ≠ 0 → lb S = fi b m ∧ fi b m < m) := by
  constructor
  · intro e
    refine fi_none (fun j hj => ?_)
    have := h j
    rw [e, Nat.zero_testBit, decide_eq_true hj, Bool.true_and] at this
    exact this.symm
  · intro e
    obtain ⟨i, hi⟩ := Nat.exists_testBit_of_ne_zero e
    rw [h i] at hi
    have hi1 : i < m := by
      by_cases c : i < m
      · exact c
      · rw [decide_eq_false c] at hi; cases hi
    rw [decide_eq_true hi1, Bool.true_and] at hi
    have hsp := fi_spec b m
    have hlt : fi b m < m := by
      rcases Nat.lt_or_ge (fi b m) m with c | c
      · exact c
      · rw [hsp.1 i (by omega)] at hi; cases hi
    refine ⟨?_, hlt⟩
    unfold lb
    refine fi_at (by omega) ?_ (fun j hj => ?_)
    · show S.testBit (fi b m) = true
      rw [h, decide_eq_true hlt, hsp.2 hlt]; rfl
    · show S.testBit j = false
      rw [h, hsp.1 j hj, Bool.and_false]
theorem jds_jdg {rs : Nat → Rl} {m S p : Nat} (hm : m ≤ 8) (h : ∀ i, S.testBit i = (decide (i < m) && r_m (rs i) p)) : jds rs S = jdg rs m p := by
  obtain ⟨h1, h2⟩ := lb_fi hm h
  unfold jds jdg
  by_cases e : S = 0
  · rw [if_pos e, if_neg (by rw [h1 e]; omega)]
  · obtain ⟨a, b⟩ := h2 e
    rw [if_neg e, if_pos b, a]
theorem cntV_apk (rs : Nat → Rl) {m : Nat} (hm : m ≤ 8) (v : Nat) : cntV rs m v = apk (fun p => decide (jdg rs m p = v)) := by
  have e : cntV rs m v = sm (fun s => (if jds rs s = v then 1 else 0) * wyS rs m 4 s) (2 ^ m) := by
    refine sm_congr (fun s _ => ?_)
    show (if jds rs s = v then wyS rs m 4 s else 0) = (if jds rs s = v then 1 else 0) * wyS rs m 4 s
    split
    · rw [Nat.one_mul]
    · rw [Nat.zero_mul]
  rw [e, wys_all]
  refine sm_congr (fun x hx => sm_congr (fun y hy => sm_congr (fun z hz => sm_congr (fun d hd => ?_))))
  have hx1 : x < 256 := hx
  have hy1 : y < 256 := hy
  have hz1 : z < 1024 := hz
  have hd1 : d < 4 := hd
  show (if jds rs (sts rs m (2 ^ m - 1) x y z d) = v then 1 else 0) = (if decide (jdg rs m (pkt x y z d) = v) = true then 1 else 0)
  rw [jds_jdg hm (sts_bit rs m (full_bit m) (by omega) (by omega) (by omega) (by omega))]
  by_cases c : jdg rs m (pkt x y z d) = v
  · rw [if_pos c, if_pos (decide_eq_true c)]
  · rw [if_neg c, if_neg (by rw [decide_eq_false c]; decide)]
theorem usdV_apk (rs : Nat → Rl) {m i : Nat} (hm : m ≤ 8) (hi : i < m) : usdV rs m i = apk (fun p => decide (fi (fun k => r_m (rs k) p) m = i)) := by
  have e : usdV rs m i = sm (fun s => (if s ≠ 0 ∧ lb s = i then 1 else 0) * wyS rs m 4 s) (2 ^ m) := by
    refine sm_congr (fun s _ => ?_)
    show (if s ≠ 0 ∧ lb s = i then wyS rs m 4 s else 0) = (if s ≠ 0 ∧ lb s = i then 1 else 0) * wyS rs m 4 s
    split
    · rw [Nat.one_mul]
    · rw [Nat.zero_mul]
  rw [e, wys_all]
  refine sm_congr (fun x hx => sm_congr (fun y hy => sm_congr (fun z hz => sm_congr (fun d hd => ?_))))
  have hx1 : x < 256 := hx
  have hy1 : y < 256 := hy
  have hz1 : z < 1024 := hz
  have hd1 : d < 4 := hd
  obtain ⟨h1, h2⟩ := lb_fi hm (sts_bit rs m (full_bit m) (x := x) (y := y) (z := z) (d := d) (by omega) (by omega) (by omega) (by omega))
  show (if sts rs m (2 ^ m - 1) x y z d ≠ 0 ∧ lb (sts rs m (2 ^ m - 1) x y z d) = i then 1 else 0) = (if decide (fi (fun k => r_m (rs k) (pkt x y z d)) m = i) = true then 1 else 0)
  generalize sts rs m (2 ^ m - 1) x y z d = S at h1 h2
  generalize fi (fun k => r_m (rs k) (pkt x y z d)) m = q at h1 h2
  by_cases c : S = 0
  · have := h1 c
    rw [if_neg (fun w => w.1 c), if_neg (by rw [decide_eq_false (by omega)]; decide)]
  · obtain ⟨a, b⟩ := h2 c
    rw [a]
    by_cases c2 : q = i
    · rw [if_pos ⟨c, c2⟩, if_pos (decide_eq_true c2)]
    · rw [if_neg (fun w => c2 w.2), if_neg (by rw [decide_eq_false c2]; decide)]
def unl (r1 : Nat → Rl) (m1 : Nat) (r2 : Nat → Rl) (m2 p : Nat) : Bool := decide (jdg r1 m1 p ≠ jdg r2 m2 p)
def st2 (r1 : Nat → Rl) (m1 : Nat) (r2 : Nat → Rl) (m2 x y z d : Nat) : Nat := (((65535 &&& ag2 r1 m1 r2 m2 0 x) &&& ag2 r1 m1 r2 m2 1 y) &&& ag2 r1 m1 r2 m2 2 z) &&& ag2 r1 m1 r2 m2 3 d
theorem ul_0 (r1 : Nat → Rl) {m1 : Nat} (r2 : Nat → Rl) {m2 : Nat} (h1 : m1 ≤ 8) (h2 : m2 ≤ 8) {x y z d : Nat} (hx : x ≤ 255) (hy : y ≤ 255) (hz : z ≤ 1023) (hd : d ≤ 3) : ul r1 m1 r2 m2 0 (st2 r1 m1 r2 m2 x y z d) = if unl r1 m1 r2 m2 (pkt x y z d) = true then 1 else 0 := by
  have l1 := fun f x => ags_lt r1 f x m1
  have e1 : st2 r1 m1 r2 m2 x y z d % 256 = sts r1 m1 255 x y z d := by
    unfold st2 sts ag2
    rw [(and_ok _ (l1 3 d) h1).1, (and_ok _ (l1 2 z) h1).1, (and_ok _ (l1 1 y) h1).1, (and_ok _ (l1 0 x) h1).1]
  have e2 : st2 r1 m1 r2 m2 x y z d / 256 = sts r2 m2 255 x y z d := by
    unfold st2 sts ag2
    rw [(and_ok _ (l1 3 d) h1).2, (and_ok _ (l1 2 z) h1).2, (and_ok _ (l1 1 y) h1).2, (and_ok _ (l1 0 x) h1).2]
  have hb : ∀ i, i < 8 → Nat.testBit 255 i = true := by decide
  show (if jds r1 (st2 r1 m1 r2 m2 x y z d % 256) = jds r2 (st2 r1 m1 r2 m2 x y z d / 256) then 0 else 1) = _
  rw [e1, e2, jds_jdg h1 (sts_bit r1 m1 (fun i hi => hb i (by omega)) hx hy hz hd), jds_jdg h2 (sts_bit r2 m2 (fun i hi => hb i (by omega)) hx hy hz hd)]
  unfold unl
  by_cases c : jdg r1 m1 (pkt x y z d) = jdg r2 m2 (pkt x y z d)
  · rw [if_pos c, if_neg (by rw [decide_eq_false (fun q => q c)]; decide)]
  · rw [if_neg c, if_pos (decide_eq_true c)]
theorem ul_apk (r1 : Nat → Rl) {m1 : Nat} (r2 : Nat → Rl) {m2 : Nat} (h1 : m1 ≤ 8) (h2 : m2 ≤ 8) : ul r1 m1 r2 m2 4 65535 = apk (unl r1 m1 r2 m2) := by
  refine sm_congr (fun x hx => sm_congr (fun y hy => sm_congr (fun z hz => sm_congr (fun d hd => ?_))))
  have hx1 : x < 256 := hx
  have hy1 : y < 256 := hy
  have hz1 : z < 1024 := hz
  have hd1 : d < 4 := hd
  exact ul_0 r1 r2 h1 h2 (by omega) (by omega) (by omega) (by omega)
/-- the least packet of which U speaks -/
def lea (U : Nat → Bool) (o : Option Nat) : Prop := (o = none ∧ ∀ q, q < 268435456 → U q = false) ∨ ∃ p, o = some p ∧ p < 268435456 ∧ U p = true ∧ ∀ q, q < p → U q = false
theorem lea_one {U : Nat → Bool} {o o' : Option Nat} (h : lea U o) (h' : lea U o') : o = o' := by
  rcases h with ⟨rfl, h1⟩ | ⟨p, rfl, p1, p2, p3⟩
  · rcases h' with ⟨rfl, h2⟩ | ⟨q, rfl, q1, q2, q3⟩
    · rfl
    · rw [h1 q q1] at q2; cases q2
  · rcases h' with ⟨rfl, h2⟩ | ⟨q, rfl, q1, q2, q3⟩
    · rw [h2 p p1] at p2; cases p2
    · rcases Nat.lt_trichotomy p q with c | c | c
      · rw [q3 p c] at p2; cases p2
      · rw [c]
      · rw [p3 q c] at q2; cases q2
/-- a packet ahead of all others, field by field -/
theorem lea_at {U : Nat → Bool} {x y z d : Nat} (hx : x ≤ 255) (hy : y ≤ 255) (hz : z ≤ 1023) (hd : d ≤ 3) (h : U (pkt x y z d) = true)
    (h0 : ∀ a b c e, a < x → b ≤ 255 → c ≤ 1023 → e ≤ 3 → U (pkt a b c e) = false) (h1 : ∀ b c e, b < y → c ≤ 1023 → e ≤ 3 → U (pkt x b c e) = false) (h2 : ∀ c e, c < z → e ≤ 3 → U (pkt x y c e) = false) (h3 : ∀ e, e < d → U (pkt x y z e) = false) : lea U (some (pkt x y z d)) := by
  have hp := pkt_lt hx hy hz hd
  refine Or.inr ⟨_, rfl, hp, h, fun q hq => ?_⟩
  have hq2 : q < 268435456 := by omega
  have b0 : pv q 0 ≤ 255 := pv_le q 0 (by omega)
  have b1 : pv q 1 ≤ 255 := pv_le q 1 (by omega)
  have b2 : pv q 2 ≤ 1023 := pv_le q 2 (by omega)
  have b3 : pv q 3 ≤ 3 := pv_le q 3 (by omega)
  have e := pkt_pv hq2
  generalize pv q 0 = a at *
  generalize pv q 1 = b at *
  generalize pv q 2 = c at *
  generalize pv q 3 = g at *
  rw [← e] at hq ⊢
  unfold pkt at hq
  by_cases c0 : a < x
  · exact h0 a b c g c0 b1 b2 b3
  have : a = x := by omega
  subst this
  by_cases c1 : b < y
  · exact h1 b c g c1 b2 b3
  have : b = y := by omega
  subst this
  by_cases c2 : c < z
  · exact h2 c g c2 b3
  have : c = z := by omega
  subst this
  exact h3 g (by omega)
theorem lea_none {U : Nat → Bool} (h : ∀ a b c e, a ≤ 255 → b ≤ 255 → c ≤ 1023 → e ≤ 3 → U (pkt a b c e) = false) : lea U none := by
  refine Or.inl ⟨rfl, fun q hq => ?_⟩
  rw [← pkt_pv hq]
  exact h _ _ _ _ (pv_le q 0 (by omega)) (pv_le q 1 (by omega)) (pv_le q 2 (by omega)) (pv_le q 3 (by omega))
theorem fux_lea (r1 : Nat → Rl) {m1 : Nat} (r2 : Nat → Rl) {m2 : Nat} (h1 : m1 ≤ 8) (h2 : m2 ≤ 8) : lea (unl r1 m1 r2 m2) (fux r1 m1 r2 m2 4 0 65535) := by
  obtain ⟨A, hA⟩ : ∃ A : Nat → Nat → Nat, A = ag2 r1 m1 r2 m2 := ⟨_, rfl⟩
  obtain ⟨u, hu⟩ : ∃ u : Nat → Nat → Nat, u = ul r1 m1 r2 m2 := ⟨_, rfl⟩
  have z0 : ∀ x y z d, x ≤ 255 → y ≤ 255 → z ≤ 1023 → d ≤ 3 → (0 < u 0 ((((65535 &&& A 0 x) &&& A 1 y) &&& A 2 z) &&& A 3 d) ↔ unl r1 m1 r2 m2 (pkt x y z d) = true) := by
    intro x y z d hx hy hz hd
    have := ul_0 r1 r2 h1 h2 hx hy hz hd
    rw [hu, hA]
    unfold st2 at this
    rw [this]
    split
    · exact ⟨fun _ => by assumption, fun _ => by omega⟩
    · exact ⟨fun q => by omega, fun q => absurd q (by assumption)⟩
  have z1 : ∀ s, 0 < u 1 s ↔ ∃ d, d < 4 ∧ 0 < u 0 (s &&& A 3 d) := fun s => by rw [hu, hA]; exact sm_pos
  have z2 : ∀ s, 0 < u 2 s ↔ ∃ z, z < 1024 ∧ 0 < u 1 (s &&& A 2 z) := fun s => by rw [hu, hA]; exact sm_pos
  have z3 : ∀ s, 0 < u 3 s ↔ ∃ y, y < 256 ∧ 0 < u 2 (s &&& A 1 y) := fun s => by rw [hu, hA]; exact sm_pos
  have f4 : fux r1 m1 r2 m2 4 0 65535 = if fi (fun x => decide (0 < u 3 (65535 &&& A 0 x))) 256 < 256 then fux r1 m1 r2 m2 3 (0 ||| fi (fun x => decide (0 < u 3 (65535 &&& A 0 x))) 256 * 2 ^ 20) (65535 &&& A 0 (fi (fun x => decide (0 < u 3 (65535 &&& A 0 x))) 256)) else none := by rw [hu, hA]; rfl
  have f3 : ∀ p s, fux r1 m1 r2 m2 3 p s = if fi (fun x => decide (0 < u 2 (s &&& A 1 x))) 256 < 256 then fux r1 m1 r2 m2 2 (p ||| fi (fun x => decide (0 < u 2 (s &&& A 1 x))) 256 * 2 ^ 12) (s &&& A 1 (fi (fun x => decide (0 < u 2 (s &&& A 1 x))) 256)) else none := fun p s => by rw [hu, hA]; rfl
  have f2 : ∀ p s, fux r1 m1 r2 m2 2 p s = if fi (fun x => decide (0 < u 1 (s &&& A 2 x))) 1024 < 1024 then fux r1 m1 r2 m2 1 (p ||| fi (fun x => decide (0 < u 1 (s &&& A 2 x))) 1024 * 2 ^ 2) (s &&& A 2 (fi (fun x => decide (0 < u 1 (s &&& A 2 x))) 1024)) else none := fun p s => by rw [hu, hA]; rfl
  have f1 : ∀ p s, fux r1 m1 r2 m2 1 p s = if fi (fun x => decide (0 < u 0 (s &&& A 3 x))) 4 < 4 then some (p ||| fi (fun x => decide (0 < u 0 (s &&& A 3 x))) 4 * 2 ^ 0) else none := fun p s => by rw [hu, hA]; rfl
  rw [f4]
  have s4 := fi_spec (fun x => decide (0 < u 3 (65535 &&& A 0 x))) 256
  have l4 := fi_le (fun x => decide (0 < u 3 (65535 &&& A 0 x))) 256
  generalize fi (fun x => decide (0 < u 3 (65535 &&& A 0 x))) 256 = x at s4 l4 ⊢
  have n4 : ∀ a b c e, a < x → b ≤ 255 → c ≤ 1023 → e ≤ 3 → unl r1 m1 r2 m2 (pkt a b c e) = false := by
    intro a b c e ha hb hc he
    cases hq : unl r1 m1 r2 m2 (pkt a b c e) with
    | false => rfl
    | true =>
      have := of_decide_eq_false (s4.1 a ha)
      exact absurd ((z3 _).mpr ⟨b, by omega, (z2 _).mpr ⟨c, by omega, (z1 _).mpr ⟨e, by omega, (z0 a b c e (by omega) hb hc he).mpr hq⟩⟩⟩) this
  by_cases cx : x < 256
  · rw [if_pos cx, f3]
    have v4 := of_decide_eq_true (s4.2 cx)
    have s3 := fi_spec (fun y => decide (0 < u 2 ((65535 &&& A 0 x) &&& A 1 y))) 256
    have l3 := fi_le (fun y => decide (0 < u 2 ((65535 &&& A 0 x) &&& A 1 y))) 256
    generalize fi (fun y => decide (0 < u 2 ((65535 &&& A 0 x) &&& A 1 y))) 256 = y at s3 l3 ⊢
    have cy : y < 256 := by
      obtain ⟨b, hb, hb2⟩ := (z3 _).mp v4
      rcases Nat.lt_or_ge b y with c | c
      · exact absurd hb2 (of_decide_eq_false (s3.1 b c))
      · omega
    have n3 : ∀ b c e, b < y → c ≤ 1023 → e ≤ 3 → unl r1 m1 r2 m2 (pkt x b c e) = false := by
      intro b c e hb hc he
      cases hq : unl r1 m1 r2 m2 (pkt x b c e) with
      | false => rfl
      | true => exact absurd ((z2 _).mpr ⟨c, by omega, (z1 _).mpr ⟨e, by omega, (z0 x b c e (by omega) (by omega) hc he).mpr hq⟩⟩) (of_decide_eq_false (s3.1 b hb))
    rw [if_pos cy, f2]
    have v3 := of_decide_eq_true (s3.2 cy)
    have s2 := fi_spec (fun z => decide (0 < u 1 (((65535 &&& A 0 x) &&& A 1 y) &&& A 2 z))) 1024
    have l2 := fi_le (fun z => decide (0 < u 1 (((65535 &&& A 0 x) &&& A 1 y) &&& A 2 z))) 1024
    generalize fi (fun z => decide (0 < u 1 (((65535 &&& A 0 x) &&& A 1 y) &&& A 2 z))) 1024 = z at s2 l2 ⊢
    have cz : z < 1024 := by
      obtain ⟨b, hb, hb2⟩ := (z2 _).mp v3
      rcases Nat.lt_or_ge b z with c | c
      · exact absurd hb2 (of_decide_eq_false (s2.1 b c))
      · omega
    have n2 : ∀ c e, c < z → e ≤ 3 → unl r1 m1 r2 m2 (pkt x y c e) = false := by
      intro c e hc he
      cases hq : unl r1 m1 r2 m2 (pkt x y c e) with
      | false => rfl
      | true => exact absurd ((z1 _).mpr ⟨e, by omega, (z0 x y c e (by omega) (by omega) (by omega) he).mpr hq⟩) (of_decide_eq_false (s2.1 c hc))
    rw [if_pos cz, f1]
    have v2 := of_decide_eq_true (s2.2 cz)
    have s1 := fi_spec (fun d => decide (0 < u 0 ((((65535 &&& A 0 x) &&& A 1 y) &&& A 2 z) &&& A 3 d))) 4
    have l1 := fi_le (fun d => decide (0 < u 0 ((((65535 &&& A 0 x) &&& A 1 y) &&& A 2 z) &&& A 3 d))) 4
    generalize fi (fun d => decide (0 < u 0 ((((65535 &&& A 0 x) &&& A 1 y) &&& A 2 z) &&& A 3 d))) 4 = d at s1 l1 ⊢
    have cd : d < 4 := by
      obtain ⟨b, hb, hb2⟩ := (z1 _).mp v2
      rcases Nat.lt_or_ge b d with c | c
      · exact absurd hb2 (of_decide_eq_false (s1.1 b c))
      · omega
    have n1 : ∀ e, e < d → unl r1 m1 r2 m2 (pkt x y z e) = false := by
      intro e he
      cases hq : unl r1 m1 r2 m2 (pkt x y z e) with
      | false => rfl
      | true => exact absurd ((z0 x y z e (by omega) (by omega) (by omega) (by omega)).mpr hq) (of_decide_eq_false (s1.1 e he))
    rw [if_pos cd, Nat.zero_or, jn_val (by omega) (by omega) (by omega) (by omega)]
    exact lea_at (by omega) (by omega) (by omega) (by omega) ((z0 x y z d (by omega) (by omega) (by omega) (by omega)).mp (of_decide_eq_true (s1.2 cd))) n4 n3 n2 n1
  · rw [if_neg cx]
    exact lea_none (fun a b c e ha hb hc he => n4 a b c e (by omega) hb hc he)

