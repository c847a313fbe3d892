/-! signs and kinds -/
theorem sgt_1 (n : Nat) (ts : Nat → Nat) (q : Nat) : (sgt n ts q = 32 ∨ sgt n ts q = 10) ↔ kd n ts q = 1 := by
  unfold sgt kd kc
  by_cases c : q < n
  · rw [if_pos c, if_pos c]
    constructor
    · intro h; rw [if_pos h]
    · intro h
      by_cases c2 : ts q = 32 ∨ ts q = 10
      · exact c2
      · rw [if_neg c2] at h
        split at h
        · omega
        · split at h <;> omega
  · rw [if_neg c, if_neg c]
    omega
theorem sgt_2 (n : Nat) (ts : Nat → Nat) (q : Nat) : (97 ≤ sgt n ts q ∧ sgt n ts q ≤ 122) ↔ kd n ts q = 2 := by
  constructor
  · intro h
    unfold sgt at h
    by_cases c : q < n
    · rw [if_pos c] at h; exact kd_2' c h.1 h.2
    · rw [if_neg c] at h; omega
  · intro h
    obtain ⟨a, b⟩ := kd_2 h
    unfold sgt
    rw [if_pos a]; exact b
theorem kd_3 {n : Nat} {ts : Nat → Nat} {k : Nat} (h : kd n ts k = 3) : k < n ∧ 48 ≤ ts k ∧ ts k ≤ 57 := by
  unfold kd at h
  by_cases c : k < n
  · rw [if_pos c] at h
    unfold kc at h
    refine ⟨c, ?_⟩
    split at h
    · omega
    · split at h
      · omega
      · split at h
        · assumption
        · omega
  · rw [if_neg c] at h; omega
theorem sgt_3 (n : Nat) (ts : Nat → Nat) (q : Nat) : (48 ≤ sgt n ts q ∧ sgt n ts q ≤ 57) ↔ kd n ts q = 3 := by
  constructor
  · intro h
    unfold sgt at h
    by_cases c : q < n
    · rw [if_pos c] at h
      unfold kd kc
      rw [if_pos c, if_neg (by omega), if_neg (by omega), if_pos h]
    · rw [if_neg c] at h; omega
  · intro h
    obtain ⟨a, b⟩ := kd_3 h
    unfold sgt
    rw [if_pos a]; exact b
theorem sgt_c (n : Nat) (ts : Nat → Nat) (q : Nat) {c : Nat} (hc : c = 45 ∨ c = 47 ∨ c = 59) : sgt n ts q = c ↔ sg n ts q c = true := by
  unfold sg
  rw [Bool.and_eq_true, decide_eq_true_iff, decide_eq_true_iff]
  unfold sgt kd kc
  by_cases d : q < n
  · rw [if_pos d, if_pos d]
    constructor
    · intro h
      rw [if_neg (by omega), if_neg (by omega), if_neg (by omega)]
      exact ⟨rfl, h⟩
    · intro h; exact h.2
  · rw [if_neg d, if_neg d]
    omega
theorem sg_lt {n : Nat} {ts : Nat → Nat} {q c : Nat} (h : sg n ts q c = true) : q < n ∧ tE n ts q = q + 1 := by
  unfold sg at h
  rw [Bool.and_eq_true, decide_eq_true_iff, decide_eq_true_iff] at h
  have hk := h.1
  refine ⟨?_, ?_⟩
  · have := kd_0 (n := n) (ts := ts) (k := q)
    omega
  · unfold tE
    rw [if_neg (by omega), if_neg (by omega)]
def wvi (ts : Nat → Nat) (p i : Nat) : Nat := if 5 < i then 0 else pck ts p i
theorem wvi_end (n : Nat) (ts : Nat → Nat) (p : Nat) : wvi ts p (bh n ts p 2 - p) = wv n ts p := rfl
def dvi (ts : Nat → Nat) (b i : Nat) : Nat := if 4 < i then 9999 else dv ts b i
theorem dvi_lt {n : Nat} {ts : Nat → Nat} {b : Nat} : ∀ i, i ≤ bh n ts b 3 - b → dvi ts b i < 10000 := by
  intro i hi
  unfold dvi
  split
  · omega
  · have key : ∀ k, k ≤ bh n ts b 3 - b → dv ts b k < 10 ^ k := by
      intro k
      induction k with
      | zero => intro _; exact Nat.one_pos
      | succ k ih =>
        intro hk
        have h1 := ih (by omega)
        have h2 := (kd_3 (n := n) (ts := ts) (k := b + k) (bh_all (p := b) (x := 3) (by omega) (by omega))).2
        show 10 * dv ts b k + (ts (b + k) - 48) < 10 ^ (k + 1)
        rw [Nat.pow_succ]
        omega
    have h1 := key i hi
    have h2 : 10 ^ i ≤ 10 ^ 4 := Nat.pow_le_pow_right (by omega) (by omega)
    omega
/-- a number is found or not -/
theorem nb_iff {n : Nat} {ts : Nat → Nat} {b lo hi : Nat} (hb : b ≤ n) : nb n ts b lo hi = true ↔ (bh n ts b 3 ≠ b ∧ bh n ts b 3 ≤ b + 4 ∧ lo ≤ dvi ts b (bh n ts b 3 - b) ∧ dvi ts b (bh n ts b 3 - b) ≤ hi) := by
  unfold nb
  rw [Bool.and_eq_true, Bool.and_eq_true, Bool.and_eq_true, decide_eq_true_iff, decide_eq_true_iff, decide_eq_true_iff, decide_eq_true_iff]
  by_cases c : kd n ts b = 3
  · have e : tE n ts b = bh n ts b 3 := by unfold tE; rw [if_pos (Or.inr c), c]
    have h1 := (bh_in n ts b 3).1
    have h2 : bh n ts b 3 ≠ b := by
      intro q
      have := bh_end (n := n) (ts := ts) (p := b) (x := 3) hb (by rw [q]; exact (kd_3 c).1)
      rw [q] at this
      exact this c
    unfold nv
    rw [e]
    constructor
    · rintro ⟨-, a, d, f⟩
      have : dvi ts b (bh n ts b 3 - b) = dv ts b (bh n ts b 3 - b) := if_neg (by omega)
      rw [this]
      exact ⟨h2, by omega, d, f⟩
    · rintro ⟨-, a, d, f⟩
      have : dvi ts b (bh n ts b 3 - b) = dv ts b (bh n ts b 3 - b) := if_neg (by omega)
      rw [this] at d f
      exact ⟨c, by omega, d, f⟩
  · constructor
    · rintro ⟨a, -⟩; exact absurd a c
    · rintro ⟨a, -⟩; exact absurd (bh_no c) a
theorem nb_val {n : Nat} {ts : Nat → Nat} {b lo hi : Nat} (h : nb n ts b lo hi = true) : dvi ts b (bh n ts b 3 - b) = nv n ts b ∧ bh n ts b 3 = tE n ts b := by
  unfold nb at h
  rw [Bool.and_eq_true, Bool.and_eq_true, decide_eq_true_iff, decide_eq_true_iff] at h
  have c := h.1
  have e : tE n ts b = bh n ts b 3 := by unfold tE; rw [if_pos (Or.inr c), c]
  have h2 := h.2.1
  unfold nv
  rw [e] at h2 ⊢
  exact ⟨if_neg (by omega), rfl⟩

