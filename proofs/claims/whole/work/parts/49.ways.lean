/-! cuts: their rows are even for every rule; ways to the tables -/
def has (n : Nat) (st : Nat → Nat) (top v : Nat) : Prop := v < top → ∃ j, j < n ∧ st j = v
theorem has_cin {n : Nat} {st : Nat → Nat} {top v : Nat} (u : Nat) (h : has n st top v) : has (cin1 n st u top) (cin2 n st u top) top v := by
  intro hv
  obtain ⟨j, hj, e⟩ := h hv
  unfold cin1 cin2
  by_cases c : (rk st u n n < n ∧ st (rk st u n n) = u) ∨ top ≤ u
  · rw [if_pos c, if_pos c]
    exact ⟨j, hj, e⟩
  · rw [if_neg c, if_neg c]
    by_cases e2 : j < rk st u n n
    · exact ⟨j, by omega, by show (if j < rk st u n n then st j else if j = rk st u n n then u else st (j - 1)) = v; rw [if_pos e2]; exact e⟩
    · refine ⟨j + 1, by omega, ?_⟩
      show (if j + 1 < rk st u n n then st (j + 1) else if j + 1 = rk st u n n then u else st (j + 1 - 1)) = v
      rw [if_neg (by omega), if_neg (by omega)]
      exact e
theorem has_new {n : Nat} {st : Nat → Nat} {top : Nat} (u : Nat) : has (cin1 n st u top) (cin2 n st u top) top u := by
  intro hv
  unfold cin1 cin2
  by_cases c : (rk st u n n < n ∧ st (rk st u n n) = u) ∨ top ≤ u
  · rw [if_pos c, if_pos c]
    rcases c with c | c
    · exact ⟨_, c.1, c.2⟩
    · omega
  · rw [if_neg c, if_neg c]
    have := (rk_spec st u n n (Nat.le_refl _)).2.1
    refine ⟨rk st u n n, by omega, ?_⟩
    show (if rk st u n n < rk st u n n then _ else if rk st u n n = rk st u n n then u else _) = u
    rw [if_neg (by omega), if_pos rfl]
theorem has_cfn {rs : Nat → Rl} {f : Nat} {c : Nat × (Nat → Nat)} {v : Nat} (h : has c.1 c.2 (mst f + 1) v) : ∀ i, has (cfn rs f c i).1 (cfn rs f c i).2 (mst f + 1) v := by
  intro i
  induction i with
  | zero => exact h
  | succ i ih => exact has_cin _ (has_cin _ ih)
theorem has_cfnN {rs : Nat → Rl} {f : Nat} {c : Nat × (Nat → Nat)} : ∀ i k, k < i → has (cfn rs f c i).1 (cfn rs f c i).2 (mst f + 1) ((rs k).2.1 f) ∧ has (cfn rs f c i).1 (cfn rs f c i).2 (mst f + 1) ((rs k).2.2 f + 1) := by
  intro i
  induction i with
  | zero => intro k hk; omega
  | succ i ih =>
    intro k hk
    by_cases e : k = i
    · subst e
      exact ⟨has_cin _ (has_new _), has_new _⟩
    · have := ih k (by omega)
      exact ⟨has_cin _ (has_cin _ this.1), has_cin _ (has_cin _ this.2)⟩
/-- nothing starts inside a row -/
theorem row_in {st : Nat → Nat} {n top r x v : Nat} (hr : rows_ok st n top) (hv : has n st top v) (hn : r < n) (h1 : st r ≤ x) (h2 : x < enr st n top r) : v ≤ st r ∨ x < v := by
  by_cases c : v ≤ st r
  · exact Or.inl c
  · refine Or.inr ?_
    by_cases hx : x < v
    · exact hx
    · exfalso
      have ht : enr st n top r ≤ top := by
        unfold enr
        split
        · have h3 := hr.2.2.2
          by_cases e : r + 1 = n - 1
          · rw [e]; omega
          · have := rows_mono hr (i := r + 1) (j := n - 1) (by omega) (by omega)
            omega
        · omega
      obtain ⟨j, hj, e⟩ := hv (by omega)
      rcases Nat.lt_trichotomy j r with h | h | h
      · have := rows_mono hr h hn
        omega
      · rw [h] at e; omega
      · have h4 : enr st n top r = st (r + 1) := by unfold enr; rw [if_pos (by omega)]
        rw [h4] at h2
        by_cases e3 : j = r + 1
        · rw [e3] at e; omega
        · have := rows_mono hr (i := r + 1) (j := j) (by omega) hj
          omega
theorem ags_row {rs : Nat → Rl} {f : Nat} {st : Nat → Nat} {n r x : Nat} (hr : rows_ok st n (mst f + 1)) (hn : r < n) (h1 : st r ≤ x) (h2 : x < enr st n (mst f + 1) r) : ∀ m, (∀ k, k < m → has n st (mst f + 1) ((rs k).2.1 f) ∧ has n st (mst f + 1) ((rs k).2.2 f + 1)) → ags rs f x m = ags rs f (st r) m := by
  intro m
  induction m with
  | zero => intro _; rfl
  | succ m ih =>
    intro hh
    show ags rs f x m ||| _ = ags rs f (st r) m ||| _
    rw [ih (fun k hk => hh k (by omega))]
    have e : r_mf (rs m) f x = r_mf (rs m) f (st r) := by
      have ha := row_in hr (hh m (by omega)).1 hn h1 h2
      have hb := row_in hr (hh m (by omega)).2 hn h1 h2
      unfold r_mf
      have e1 : decide ((rs m).2.1 f ≤ x) = decide ((rs m).2.1 f ≤ st r) := by
        by_cases c : (rs m).2.1 f ≤ st r
        · rw [decide_eq_true c, decide_eq_true (by omega)]
        · rw [decide_eq_false c, decide_eq_false (by omega)]
      have e2 : decide (x ≤ (rs m).2.2 f) = decide (st r ≤ (rs m).2.2 f) := by
        by_cases c : st r ≤ (rs m).2.2 f
        · rw [decide_eq_true c, decide_eq_true (by omega)]
        · rw [decide_eq_false c, decide_eq_false (by omega)]
      rw [e1, e2]
    rw [e]
/-- the rows of a cut of field f by m rules -/
def cut_ok (rs : Nat → Rl) (m f n : Nat) (st ss : Nat → Nat) : Prop := rows_ok st n (mst f + 1) ∧ ∀ r, r < n → ∀ x, st r ≤ x → x < enr st n (mst f + 1) r → ags rs f x m = ss r
/-- how many values of field f lead from table s to table x -/
def cnt (rs : Nat → Rl) (m f s x : Nat) : Nat := sm (fun v => if s &&& ags rs f v m = x then 1 else 0) (mst f + 1)
def wyS (rs : Nat → Rl) (m : Nat) : Nat → Nat → Nat
  | 0, x => if x = 2 ^ m - 1 then 1 else 0
  | f + 1, x => sm (fun s => wyS rs m f s * cnt rs m f s x) (2 ^ m)
theorem cwb_sum (ss wd : Nat → Nat) (s a : Nat) (w : Nat → Nat) (x : Nat) : ∀ n, cwb ss wd s a n w x = w x + a * sm (fun r => if s &&& ss r = x then wd r else 0) n := by
  intro n
  induction n with
  | zero => rfl
  | succ n ih =>
    show va_up (cwb ss wd s a n w) (s &&& ss n) (cwb ss wd s a n w (s &&& ss n) + a * wd n) x = w x + a * (sm (fun r => if s &&& ss r = x then wd r else 0) n + (if s &&& ss n = x then wd n else 0))
    by_cases e : s &&& ss n = x
    · rw [e, va_up_self, ih, if_pos rfl, Nat.mul_add]
      omega
    · rw [va_up_ne _ _ (fun q => e q.symm), ih, if_neg e]
      rfl
theorem cwb_cnt {rs : Nat → Rl} {m f n : Nat} {st ss : Nat → Nat} (h : cut_ok rs m f n st ss) (s a : Nat) (w : Nat → Nat) (x : Nat) : cwb ss (fun r => enr st n (mst f + 1) r - st r) s a n w x = w x + a * cnt rs m f s x := by
  rw [cwb_sum]
  unfold cnt
  rw [← sm_rows (F := fun v => if s &&& ags rs f v m = x then 1 else 0) h.1 (fun k hk y h1 h2 => by
    show (if s &&& ags rs f y m = x then 1 else 0) = (if s &&& ags rs f (st k) m = x then 1 else 0)
    rw [h.2 k hk y h1 h2, h.2 k hk (st k) (Nat.le_refl _) (rows_lt h.1 hk)])]
  refine congrArg (fun z => w x + a * z) (sm_congr (fun r hr => ?_))
  show (if s &&& ss r = x then enr st n (mst f + 1) r - st r else 0) = (if s &&& ags rs f (st r) m = x then 1 else 0) * (enr st n (mst f + 1) r - st r)
  rw [h.2 r hr (st r) (Nat.le_refl _) (rows_lt h.1 hr)]
  split
  · rw [Nat.one_mul]
  · rw [Nat.zero_mul]
theorem cnt_le (rs : Nat → Rl) (m f s x : Nat) : cnt rs m f s x ≤ mst f + 1 := by
  unfold cnt
  have h := sm_le (f := fun v => if s &&& ags rs f v m = x then 1 else 0) (g := fun _ => 1) (n := mst f + 1) (fun i _ => by split <;> omega)
  rw [sm_const] at h
  omega
theorem cnt_all (rs : Nat → Rl) (m f s k : Nat) : sm (fun x => cnt rs m f s x) k ≤ mst f + 1 := by
  unfold cnt
  rw [sm_swap]
  have h := sm_le (f := fun v => sm (fun x => if s &&& ags rs f v m = x then 1 else 0) k) (g := fun _ => 1) (n := mst f + 1) (fun v _ => by
    show sm (fun x => if s &&& ags rs f v m = x then 1 else 0) k ≤ 1
    by_cases c : s &&& ags rs f v m < k
    · have h2 := sm_pick (k := s &&& ags rs f v m) (fun _ => 1) c
      rw [sm_congr (g := fun i => if i = s &&& ags rs f v m then 1 else 0) (fun i _ => by
        by_cases e : i = s &&& ags rs f v m
        · rw [if_pos e, if_pos e.symm]
        · rw [if_neg e, if_neg (fun q => e q.symm)]), h2]
      exact Nat.le_refl _
    · rw [sm_congr (g := fun _ => 0) (fun i hi => if_neg (by omega)), sm_zero]
      omega)
  rw [sm_const] at h
  omega
def prd : Nat → Nat
  | 0 => 1
  | f + 1 => prd f * (mst f + 1)
theorem prd_le : ∀ f, f < 5 → prd f ≤ 268435456 := by decide
theorem wyS_all (rs : Nat → Rl) (m : Nat) : ∀ f k, sm (wyS rs m f) k ≤ prd f := by
  intro f
  induction f with
  | zero =>
    intro k
    by_cases c : 2 ^ m - 1 < k
    · have h2 := sm_pick (k := 2 ^ m - 1) (fun _ => 1) c
      show sm (fun x => if x = 2 ^ m - 1 then 1 else 0) k ≤ 1
      rw [h2]
      exact Nat.le_refl _
    · show sm (fun x => if x = 2 ^ m - 1 then 1 else 0) k ≤ 1
      rw [sm_congr (g := fun _ => 0) (fun i hi => if_neg (by omega)), sm_zero]
      omega
  | succ f ih =>
    intro k
    show sm (fun x => sm (fun s => wyS rs m f s * cnt rs m f s x) (2 ^ m)) k ≤ prd f * (mst f + 1)
    rw [sm_swap, sm_congr (g := fun s => wyS rs m f s * sm (fun x => cnt rs m f s x) k) (fun s _ => sm_mul _ _ _)]
    have h := sm_le (f := fun s => wyS rs m f s * sm (fun x => cnt rs m f s x) k) (g := fun s => wyS rs m f s * (mst f + 1)) (n := 2 ^ m) (fun s _ => Nat.mul_le_mul_left _ (cnt_all rs m f s k))
    rw [sm_mulr] at h
    exact Nat.le_trans h (Nat.mul_le_mul_right _ (ih _))
theorem sm_at {F : Nat → Nat} {n i : Nat} (hi : i < n) : F i ≤ sm F n := by
  have h := sm_le (f := fun j => if j = i then F j else 0) (g := F) (n := n) (fun j _ => by split <;> omega)
  rw [sm_pick F hi] at h
  exact h
theorem wyS_lt (rs : Nat → Rl) (m f x : Nat) (hf : f < 5) : wyS rs m f x < 2 ^ 31 := by
  have h1 := wyS_all rs m f (x + 1)
  have h2 := sm_at (F := wyS rs m f) (n := x + 1) (i := x) (by omega)
  have h3 := prd_le f hf
  omega
theorem nI_all (x : Int32) : ∃ k, nI k = x := ⟨x.toBitVec.toNat, by
  show Int32.ofNat x.toBitVec.toNat = x
  apply Int32.toBitVec_inj.mp
  simp⟩
theorem nI_fun {g : Nat → Int32} {n : Nat} (w0 : Nat → Nat) (h : ∀ s, s < n → g s = nI (w0 s)) : ∃ w : Nat → Nat, (g = fun s => nI (w s)) ∧ ∀ s, s < n → w s = w0 s := by
  refine ⟨fun s => if s < n then w0 s else Classical.choose (nI_all (g s)), funext fun s => ?_, fun s hs => if_pos hs⟩
  show g s = nI (if s < n then w0 s else Classical.choose (nI_all (g s)))
  split
  · exact h s (by assumption)
  · exact (Classical.choose_spec (nI_all (g s))).symm

