/-! words and numbers of a text, as the model spells them -/
def pck (ts : Nat → Nat) (a : Nat) : Nat → Nat
  | 0 => 0
  | k + 1 => pck ts a k * 32 + ts (a + k) - 96
theorem pck_inj {ts ws : Nat → Nat} {a b : Nat} : ∀ L L', (∀ j, j < L → 97 ≤ ts (a + j) ∧ ts (a + j) ≤ 122) → (∀ j, j < L' → 97 ≤ ws (b + j) ∧ ws (b + j) ≤ 122) → (pck ts a L = pck ws b L' ↔ L = L' ∧ ∀ j, j < L → ts (a + j) = ws (b + j)) := by
  intro L
  induction L with
  | zero =>
    intro L' _ h2
    cases L' with
    | zero => exact ⟨fun _ => ⟨rfl, fun j hj => by omega⟩, fun _ => rfl⟩
    | succ k =>
      have := h2 k (by omega)
      constructor
      · intro e
        have e' : 0 = pck ws b k * 32 + ws (b + k) - 96 := e
        omega
      · intro e
        have := e.1
        omega
  | succ L ih =>
    intro L' h1 h2
    have t1 := h1 L (by omega)
    cases L' with
    | zero =>
      constructor
      · intro e
        have e' : pck ts a L * 32 + ts (a + L) - 96 = 0 := e
        omega
      · intro e
        have := e.1
        omega
    | succ k =>
      have t2 := h2 k (by omega)
      have ih := ih k (fun j hj => h1 j (by omega)) (fun j hj => h2 j (by omega))
      constructor
      · intro e
        have e' : pck ts a L * 32 + ts (a + L) - 96 = pck ws b k * 32 + ws (b + k) - 96 := e
        obtain ⟨q1, q2⟩ := ih.mp (by omega)
        subst q1
        refine ⟨rfl, fun j hj => ?_⟩
        by_cases c : j = L
        · subst c; omega
        · exact q2 j (by omega)
      · rintro ⟨q1, q2⟩
        have : L = k := by omega
        subst this
        have e := ih.mpr ⟨rfl, fun j hj => q2 j (by omega)⟩
        have := q2 L (by omega)
        show pck ts a L * 32 + ts (a + L) - 96 = pck ws b L * 32 + ws (b + L) - 96
        rw [e, this]
def wv (n : Nat) (ts : Nat → Nat) (a : Nat) : Nat := if 5 < bh n ts a 2 - a then 0 else pck ts a (bh n ts a 2 - a)
def spw (i : Nat) : Nat := pck (stx i) 0 (g_slen.getD i 0)
theorem kd_2 {n : Nat} {ts : Nat → Nat} {k : Nat} (h : kd n ts k = 2) : k < n ∧ 97 ≤ ts k ∧ ts k ≤ 122 := by
  unfold kd at h
  by_cases c : k < n
  · rw [if_pos c] at h
    unfold kc at h
    refine ⟨c, ?_⟩
    split at h
    · omega
    · split at h
      · assumption
      · split at h <;> omega
  · rw [if_neg c] at h; omega
theorem kd_2' {n : Nat} {ts : Nat → Nat} {k : Nat} (h : k < n) (h1 : 97 ≤ ts k) (h2 : ts k ≤ 122) : kd n ts k = 2 := by
  unfold kd kc
  rw [if_pos h, if_neg (by omega), if_pos ⟨h1, h2⟩]
theorem stx_let : ∀ i, i < 11 → 3 ≤ i → g_slen.getD i 0 ≤ 5 ∧ 1 ≤ g_slen.getD i 0 ∧ ∀ j, j < g_slen.getD i 0 → 97 ≤ stx i (0 + j) ∧ stx i (0 + j) ≤ 122 := by decide +kernel
theorem bh_no {n : Nat} {ts : Nat → Nat} {a x : Nat} (h : kd n ts a ≠ x) : bh n ts a x = a := by
  unfold bh
  by_cases c : a < n
  · rw [fi_at (i := 0) (by omega) (by show decide _ = true; exact decide_eq_true h) (fun j hj => by omega)]
    rfl
  · rw [show n - a = 0 by omega]
    rfl
theorem wd_iff {n : Nat} {ts : Nat → Nat} {a i : Nat} (h3 : 3 ≤ i) (hi : i < 11) : wv n ts a = spw i ↔ wd n ts a i = true := by
  obtain ⟨s1, s2, s3⟩ := stx_let i hi h3
  have hlet : ∀ j, j < bh n ts a 2 - a → 97 ≤ ts (a + j) ∧ ts (a + j) ≤ 122 := fun j hj => (kd_2 (n := n) (bh_all (n := n) (ts := ts) (p := a) (x := 2) (by omega) (by omega))).2
  have inj := pck_inj (ts := ts) (ws := stx i) (a := a) (b := 0) (bh n ts a 2 - a) (g_slen.getD i 0) hlet s3
  unfold wd
  rw [Bool.and_eq_true, Bool.and_eq_true, decide_eq_true_iff, decide_eq_true_iff, decide_eq_true_iff]
  by_cases c : kd n ts a = 2
  · have e : tE n ts a = bh n ts a 2 := by unfold tE; rw [if_pos (Or.inl c), c]
    rw [e]
    unfold wv spw
    by_cases c5 : 5 < bh n ts a 2 - a
    · rw [if_pos c5]
      constructor
      · intro q
        have z := pck_inj (ts := ts) (ws := stx i) (a := a) (b := 0) 0 (g_slen.getD i 0) (fun j hj => by omega) s3
        have := (z.mp q).1
        omega
      · rintro ⟨-, q, -⟩
        omega
    · rw [if_neg c5, inj]
      constructor
      · rintro ⟨q1, q2⟩
        exact ⟨c, q1, fun j hj => by rw [q2 j (by omega), Nat.zero_add]⟩
      · rintro ⟨-, q1, q2⟩
        exact ⟨q1, fun j hj => by rw [q2 j (by omega), Nat.zero_add]⟩
  · have e : bh n ts a 2 = a := bh_no c
    unfold wv
    rw [e, if_neg (by omega), Nat.sub_self]
    constructor
    · intro q
      have z := pck_inj (ts := ts) (ws := stx i) (a := a) (b := 0) 0 (g_slen.getD i 0) (fun j hj => by omega) s3
      have := (z.mp q).1
      omega
    · rintro ⟨q, -⟩
      exact absurd q c
theorem spw_v : spw 3 = spl 100 101 110 121 0 ∧ spw 4 = spl 97 108 108 111 119 ∧ spw 5 = spl 108 111 103 0 0 ∧ spw 6 = spl 115 114 99 0 0 ∧ spw 7 = spl 100 115 116 0 0 ∧ spw 8 = spl 112 111 114 116 0 ∧ spw 9 = spl 112 114 111 116 111 ∧ spw 10 = spl 97 110 121 0 0 := by decide +kernel
theorem wv_lt (n : Nat) (ts : Nat → Nat) (a : Nat) : wv n ts a < 2 ^ 31 := by
  have hlet : ∀ j, j < bh n ts a 2 - a → 97 ≤ ts (a + j) ∧ ts (a + j) ≤ 122 := fun j hj => (kd_2 (n := n) (bh_all (n := n) (ts := ts) (p := a) (x := 2) (by omega) (by omega))).2
  have key : ∀ L, L ≤ bh n ts a 2 - a → pck ts a L < 32 ^ L := by
    intro L
    induction L with
    | zero => intro _; show 0 < 1; omega
    | succ L ih =>
      intro hL
      have := ih (by omega)
      have := hlet L (by omega)
      show pck ts a L * 32 + ts (a + L) - 96 < 32 ^ (L + 1)
      rw [Nat.pow_succ]
      omega
  unfold wv
  split
  · omega
  · have h1 := key _ (Nat.le_refl _)
    have h2 : 32 ^ (bh n ts a 2 - a) ≤ 32 ^ 5 := Nat.pow_le_pow_right (by omega) (by omega)
    have h3 : (32 : Nat) ^ 5 < 2 ^ 31 := by decide
    omega
theorem vh_cases (n : Nat) (ts : Nat → Nat) (a : Nat) : (wd n ts a 3 = true → vh n ts a = 0) ∧ (wd n ts a 3 ≠ true → wd n ts a 4 = true → vh n ts a = 1) ∧ (wd n ts a 3 ≠ true → wd n ts a 4 ≠ true → wd n ts a 5 = true → vh n ts a = 2) ∧ (wd n ts a 3 ≠ true → wd n ts a 4 ≠ true → wd n ts a 5 ≠ true → vh n ts a = 3) := by
  have hn : ∀ {b : Bool}, b ≠ true → b = false := fun {b} h => by cases b; rfl; exact absurd rfl h
  refine ⟨fun h => fi_at (by omega) h (fun j hj => by omega), fun h0 h => fi_at (i := 1) (by omega) h (fun j hj => ?_), fun h0 h1 h => fi_at (i := 2) (by omega) h (fun j hj => ?_), fun h0 h1 h2 => fi_none (fun j hj => ?_)⟩
  · rw [show j = 0 by omega]; exact hn h0
  · rcases (show j = 0 ∨ j = 1 by omega) with rfl | rfl
    · exact hn h0
    · exact hn h1
  · rcases (show j = 0 ∨ j = 1 ∨ j = 2 by omega) with rfl | rfl | rfl
    · exact hn h0
    · exact hn h1
    · exact hn h2
theorem fh_cases (n : Nat) (ts : Nat → Nat) (a : Nat) : (wd n ts a 6 = true → fh n ts a = 0) ∧ (wd n ts a 6 ≠ true → wd n ts a 7 = true → fh n ts a = 1) ∧ (wd n ts a 6 ≠ true → wd n ts a 7 ≠ true → wd n ts a 8 = true → fh n ts a = 2) ∧ (wd n ts a 6 ≠ true → wd n ts a 7 ≠ true → wd n ts a 8 ≠ true → wd n ts a 9 = true → fh n ts a = 3) ∧ (wd n ts a 6 ≠ true → wd n ts a 7 ≠ true → wd n ts a 8 ≠ true → wd n ts a 9 ≠ true → fh n ts a = 4) := by
  have hn : ∀ {b : Bool}, b ≠ true → b = false := fun {b} h => by cases b; rfl; exact absurd rfl h
  refine ⟨fun h => fi_at (by omega) h (fun j hj => by omega), fun h0 h => fi_at (i := 1) (by omega) h (fun j hj => ?_), fun h0 h1 h => fi_at (i := 2) (by omega) h (fun j hj => ?_), fun h0 h1 h2 h => fi_at (i := 3) (by omega) h (fun j hj => ?_), fun h0 h1 h2 h3 => fi_none (fun j hj => ?_)⟩
  · rw [show j = 0 by omega]; exact hn h0
  · rcases (show j = 0 ∨ j = 1 by omega) with rfl | rfl
    · exact hn h0
    · exact hn h1
  · rcases (show j = 0 ∨ j = 1 ∨ j = 2 by omega) with rfl | rfl | rfl
    · exact hn h0
    · exact hn h1
    · exact hn h2
  · rcases (show j = 0 ∨ j = 1 ∨ j = 2 ∨ j = 3 by omega) with rfl | rfl | rfl | rfl
    · exact hn h0
    · exact hn h1
    · exact hn h2
    · exact hn h3
theorem vh_kd {n : Nat} {ts : Nat → Nat} {a : Nat} (h : vh n ts a < 3) : kd n ts a = 2 := by
  have := (fi_spec (fun i => wd n ts a (3 + i)) 3).2 h
  unfold wd at this
  rw [Bool.and_eq_true] at this
  exact of_decide_eq_true this.1
theorem fh_kd {n : Nat} {ts : Nat → Nat} {a : Nat} (h : fh n ts a < 4) : kd n ts a = 2 := by
  have := (fi_spec (fun i => wd n ts a (6 + i)) 4).2 h
  unfold wd at this
  rw [Bool.and_eq_true] at this
  exact of_decide_eq_true this.1
theorem bh_bh (n : Nat) (ts : Nat → Nat) (a x : Nat) : bh n ts (bh n ts a x) x = bh n ts a x := by
  by_cases c : a ≤ n
  · by_cases c2 : bh n ts a x < n
    · exact bh_no (bh_end c c2)
    · unfold bh at c2 ⊢
      rw [show n - (a + fi (fun j => decide (kd n ts (a + j) ≠ x)) (n - a)) = 0 by omega]
      rfl
  · have e : bh n ts a x = a := by unfold bh; rw [show n - a = 0 by omega]; rfl
    rw [e, e]
/-- how many fields are told -/
def cb (t : Nat) : Nat := (if t.testBit 0 then 1 else 0) + (if t.testBit 1 then 1 else 0) + (if t.testBit 2 then 1 else 0) + (if t.testBit 3 then 1 else 0)
theorem cb_or : ∀ t, t < 16 → ∀ f, f < 4 → t.testBit f = false → cb (t ||| 2 ^ f) = cb t + 1 := by decide +kernel
theorem cb_4 : ∀ t, t < 16 → cb t = 4 → ∀ f, f < 4 → t.testBit f = true := by decide +kernel
/-- what a reader finds does not depend on the rules that it had -/
theorem sRu_z (n : Nat) (ts : Nat → Nat) (a : Nat) (z z' : Rl) : (sRu n ts a z).1 = (sRu n ts a z').1 ∧ (sRu n ts a z).2.1 = (sRu n ts a z').2.1 ∧ ((sRu n ts a z).1 = true → (sRu n ts a z).2.2 = (sRu n ts a z').2.2) := by
  unfold sRu
  by_cases c : vh n ts a < 3
  · rw [if_pos c, if_pos c]
    exact ⟨rfl, rfl, fun _ => rfl⟩
  · rw [if_neg c, if_neg c]
    exact ⟨rfl, rfl, fun q => by cases q⟩
theorem sTx_z (n : Nat) (ts : Nat → Nat) : ∀ k c a (rs rs' : Nat → Rl), (c ≤ 8 → ∀ j, j < c → rs j = rs' j) → (sTx n ts k c a rs).1 = (sTx n ts k c a rs').1 ∧ (sTx n ts k c a rs).2.1 = (sTx n ts k c a rs').2.1 ∧ ((sTx n ts k c a rs).1 = true → (sTx n ts k c a rs).2.1 ≤ 8 → ∀ j, j < (sTx n ts k c a rs).2.1 → (sTx n ts k c a rs).2.2 j = (sTx n ts k c a rs').2.2 j) := by
  intro k
  induction k with
  | zero =>
    intro c a rs rs' h
    exact ⟨rfl, rfl, fun _ h8 j hj => h h8 j hj⟩
  | succ k ih =>
    intro c a rs rs' h
    unfold sTx
    by_cases c1 : n ≤ a
    · rw [if_pos c1, if_pos c1]
      exact ⟨rfl, rfl, fun _ h8 j hj => h h8 j hj⟩
    · rw [if_neg c1, if_neg c1]
      obtain ⟨e1, e2, e3⟩ := sRu_z n ts a (rs (min c 7)) (rs' (min c 7))
      by_cases c2 : (sRu n ts a (rs (min c 7))).1 = true
      · have c2' := c2
        rw [e1] at c2'
        rw [if_pos c2, if_pos c2', ← e2, ← e3 c2]
        refine ih (c + 1) _ _ _ (fun h8 j hj => ?_)
        rw [show min c 7 = c by omega]
        by_cases e : j = c
        · subst e; rw [va_up_self, va_up_self]
        · rw [va_up_ne _ _ e, va_up_ne _ _ e]; exact h (by omega) j (by omega)
      · have c2' := c2
        rw [e1] at c2'
        rw [if_neg c2, if_neg c2']
        exact ⟨rfl, e2, fun q => by cases q⟩
theorem sT_z (n : Nat) (ts : Nat → Nat) (rs rs' : Nat → Rl) : (sT n ts rs).1 = (sT n ts rs').1 ∧ (sT n ts rs).2.1 = (sT n ts rs').2.1 ∧ ((sT n ts rs).1 = true → (sT n ts rs).2.1 ≤ 8 → ∀ j, j < (sT n ts rs).2.1 → (sT n ts rs).2.2 j = (sT n ts rs').2.2 j) := sTx_z n ts 240 0 _ rs rs' (fun _ j hj => by omega)
theorem tE_gt {n : Nat} {ts : Nat → Nat} {a : Nat} (ha : a < n) : a < tE n ts a := by
  have hk : kd n ts a ≠ 0 := fun h => by rw [kd_0] at h; omega
  unfold tE
  by_cases c : kd n ts a = 2 ∨ kd n ts a = 3
  · rw [if_pos c]
    have h1 := (bh_in n ts a (kd n ts a)).1
    by_cases e : bh n ts a (kd n ts a) = a
    · have := bh_end (n := n) (ts := ts) (p := a) (x := kd n ts a) (by omega) (by omega)
      rw [e] at this
      exact absurd rfl this
    · omega
  · rw [if_neg c, if_neg hk]; omega
theorem nx_gt {n : Nat} {ts : Nat → Nat} {a : Nat} (ha : a < n) : a < nx n ts a := Nat.lt_of_lt_of_le (tE_gt ha) (bh_in _ _ _ _).1

