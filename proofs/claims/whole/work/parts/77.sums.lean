/-! sums over all packets -/
def apg (P : Nat → Bool) (t0 t1 t2 t3 : Nat) : Nat := sm (fun x => sm (fun y => sm (fun z => sm (fun d => if P (pkt x y z d) = true then 1 else 0) t3) t2) t1) t0
def apk (P : Nat → Bool) : Nat := apg P 256 256 1024 4
theorem sm_bd {F : Nat → Nat} {n c : Nat} (h : ∀ i, i < n → F i ≤ c) : sm F n ≤ n * c := by
  have := sm_le (f := F) (g := fun _ => c) (n := n) h
  rw [sm_const] at this
  exact this
theorem apg_le (P : Nat → Bool) (t0 t1 t2 t3 : Nat) : apg P t0 t1 t2 t3 ≤ t0 * (t1 * (t2 * (t3 * 1))) :=
  sm_bd (fun _ _ => sm_bd (fun _ _ => sm_bd (fun _ _ => sm_bd (fun _ _ => by split <;> omega))))
theorem apk_lt (P : Nat → Bool) : apk P < 2 ^ 31 := by
  have := apg_le P 256 256 1024 4
  unfold apk
  omega
theorem apg_congr {P Q : Nat → Bool} {t0 t1 t2 t3 : Nat} (h : ∀ x y z d, x < t0 → y < t1 → z < t2 → d < t3 → P (pkt x y z d) = Q (pkt x y z d)) : apg P t0 t1 t2 t3 = apg Q t0 t1 t2 t3 :=
  sm_congr (fun x hx => sm_congr (fun y hy => sm_congr (fun z hz => sm_congr (fun d hd => by
    show (if P (pkt x y z d) = true then 1 else 0) = (if Q (pkt x y z d) = true then 1 else 0)
    rw [h x y z d hx hy hz hd]))))
def bsm (P : Nat → Bool) (n0 n1 n2 : Nat) (s0 s1 s2 w0 w1 w2 : Nat → Nat) : Nat := sm (fun a => sm (fun b => sm (fun c => sm (fun d => if P (pkt (s0 a) (s1 b) (s2 c) d) = true then w0 a * w1 b * w2 c else 0) 4) n2) n1) n0
theorem bsm_apg {P : Nat → Bool} {n0 n1 n2 t0 t1 t2 : Nat} {s0 s1 s2 : Nat → Nat} (h0 : rows_ok s0 n0 t0) (h1 : rows_ok s1 n1 t1) (h2 : rows_ok s2 n2 t2)
    (c0 : ∀ k, k < n0 → ∀ x, s0 k ≤ x → x < enr s0 n0 t0 k → ∀ y z d, y < t1 → z < t2 → d < 4 → P (pkt x y z d) = P (pkt (s0 k) y z d))
    (c1 : ∀ k, k < n1 → ∀ y, s1 k ≤ y → y < enr s1 n1 t1 k → ∀ x z d, x < t0 → z < t2 → d < 4 → P (pkt x y z d) = P (pkt x (s1 k) z d))
    (c2 : ∀ k, k < n2 → ∀ z, s2 k ≤ z → z < enr s2 n2 t2 k → ∀ x y d, x < t0 → y < t1 → d < 4 → P (pkt x y z d) = P (pkt x y (s2 k) d)) :
    bsm P n0 n1 n2 s0 s1 s2 (fun k => enr s0 n0 t0 k - s0 k) (fun k => enr s1 n1 t1 k - s1 k) (fun k => enr s2 n2 t2 k - s2 k) = apg P t0 t1 t2 4 := by
  unfold bsm apg
  rw [← sm_rows h0 (F := fun x => sm (fun y => sm (fun z => sm (fun d => if P (pkt x y z d) = true then 1 else 0) 4) t2) t1) (fun k hk x x1 x2 => sm_congr (fun y hy => sm_congr (fun z hz => sm_congr (fun d hd => by
    show (if P (pkt x y z d) = true then 1 else 0) = (if P (pkt (s0 k) y z d) = true then 1 else 0)
    rw [c0 k hk x x1 x2 y z d hy hz hd]))))]
  refine sm_congr (fun a ha => ?_)
  have ta := rows_top h0 ha
  show _ = sm (fun y => sm (fun z => sm (fun d => if P (pkt (s0 a) y z d) = true then 1 else 0) 4) t2) t1 * (enr s0 n0 t0 a - s0 a)
  rw [← sm_rows h1 (F := fun y => sm (fun z => sm (fun d => if P (pkt (s0 a) y z d) = true then 1 else 0) 4) t2) (fun k hk y y1 y2 => sm_congr (fun z hz => sm_congr (fun d hd => by
    show (if P (pkt (s0 a) y z d) = true then 1 else 0) = (if P (pkt (s0 a) (s1 k) z d) = true then 1 else 0)
    rw [c1 k hk y y1 y2 (s0 a) z d ta hz hd]))), ← sm_mulr]
  refine sm_congr (fun b hb => ?_)
  have tb := rows_top h1 hb
  show _ = sm (fun z => sm (fun d => if P (pkt (s0 a) (s1 b) z d) = true then 1 else 0) 4) t2 * (enr s1 n1 t1 b - s1 b) * (enr s0 n0 t0 a - s0 a)
  rw [← sm_rows h2 (F := fun z => sm (fun d => if P (pkt (s0 a) (s1 b) z d) = true then 1 else 0) 4) (fun k hk z z1 z2 => sm_congr (fun d hd => by
    show (if P (pkt (s0 a) (s1 b) z d) = true then 1 else 0) = (if P (pkt (s0 a) (s1 b) (s2 k) d) = true then 1 else 0)
    rw [c2 k hk z z1 z2 (s0 a) (s1 b) d ta tb hd])), ← sm_mulr, ← sm_mulr]
  refine sm_congr (fun c hc => ?_)
  show sm _ 4 = sm (fun d => if P (pkt (s0 a) (s1 b) (s2 c) d) = true then 1 else 0) 4 * (enr s2 n2 t2 c - s2 c) * (enr s1 n1 t1 b - s1 b) * (enr s0 n0 t0 a - s0 a)
  rw [← sm_mulr, ← sm_mulr, ← sm_mulr]
  refine sm_congr (fun d hd => ?_)
  show (if P (pkt (s0 a) (s1 b) (s2 c) d) = true then (enr s0 n0 t0 a - s0 a) * (enr s1 n1 t1 b - s1 b) * (enr s2 n2 t2 c - s2 c) else 0) = (if P (pkt (s0 a) (s1 b) (s2 c) d) = true then 1 else 0) * (enr s2 n2 t2 c - s2 c) * (enr s1 n1 t1 b - s1 b) * (enr s0 n0 t0 a - s0 a)
  split
  · rw [Nat.one_mul, Nat.mul_comm (enr s2 n2 t2 c - s2 c), Nat.mul_comm _ (enr s0 n0 t0 a - s0 a), Nat.mul_assoc]
  · rw [Nat.zero_mul, Nat.zero_mul, Nat.zero_mul]
/-- within a row a rule agrees alike -/
theorem mf_row {r : Rl} {f n k x : Nat} {st : Nat → Nat} (hr : rows_ok st n (mst f + 1)) (h1 : has n st (mst f + 1) (r.2.1 f)) (h2 : has n st (mst f + 1) (r.2.2 f + 1)) (hk : k < n) (x1 : st k ≤ x) (x2 : x < enr st n (mst f + 1) k) : r_mf r f x = r_mf r f (st k) := by
  have a := row_in hr h1 hk x1 x2
  have b := row_in hr h2 hk x1 x2
  unfold r_mf
  rw [show decide (r.2.1 f ≤ x) = decide (r.2.1 f ≤ st k) from decide_eq_decide.mpr (by omega), show decide (x ≤ r.2.2 f) = decide (st k ≤ r.2.2 f) from decide_eq_decide.mpr (by omega)]
theorem r_m_pkt (z : Rl) {a b c d : Nat} (ha : a ≤ 255) (hb : b ≤ 255) (hc : c ≤ 1023) (hd : d ≤ 3) : r_m z (pkt a b c d) = (((r_mf z 0 a && r_mf z 1 b) && r_mf z 2 c) && r_mf z 3 d) := by
  rw [r_m_and, pv_0 ha hb hc hd, pv_1 ha hb hc hd, pv_2 ha hb hc hd, pv_3 ha hb hc hd]
/-- what is said of packets by the rules of the lists a .. b alone -/
def byr (mm : Nat → Nat) (rr : Nat → Nat → Rl) (a b : Nat) (P : Nat → Bool) : Prop := ∀ p q, (∀ j i, a ≤ j → j ≤ b → i < mm j → r_m (rr j i) p = r_m (rr j i) q) → P p = P q
def wdt (cn : Nat → Nat) (cs : Nat → Nat → Nat) (f k : Nat) : Nat := enr (cs f) (cn f) (mst f + 1) k - cs f k
def bxs (P : Nat → Bool) (cn : Nat → Nat) (cs : Nat → Nat → Nat) : Nat := bsm P (cn 0) (cn 1) (cn 2) (cs 0) (cs 1) (cs 2) (wdt cn cs 0) (wdt cn cs 1) (wdt cn cs 2)
theorem bxs_apk {mm : Nat → Nat} {rr : Nat → Nat → Rl} {a b : Nat} {cn : Nat → Nat} {cs : Nat → Nat → Nat} {P : Nat → Bool} (hg : ∀ g, g < 4 → gdc mm rr a b cn cs g) (hP : byr mm rr a b P) : bxs P cn cs = apk P := by
  obtain ⟨r0, q0, -⟩ := (hg 0 (by omega)).1 (by omega)
  obtain ⟨r1, q1, -⟩ := (hg 1 (by omega)).1 (by omega)
  obtain ⟨r2, q2, -⟩ := (hg 2 (by omega)).1 (by omega)
  refine bsm_apg r0 r1 r2 ?_ ?_ ?_
  · intro k hk x x1 x2 y z d hy hz hd
    have hx : x ≤ 255 := by
      have : enr (cs 0) (cn 0) (mst 0 + 1) k ≤ 256 := by
        unfold enr
        split
        · exact Nat.le_of_lt (rows_top r0 (by omega))
        · exact Nat.le_refl _
      omega
    refine hP _ _ (fun j i j1 j2 hi => ?_)
    have hy1 : y < 256 := hy
    have hz1 : z < 1024 := hz
    rw [r_m_pkt _ hx (by omega) (by omega) (by omega), r_m_pkt _ (by omega) (by omega) (by omega) (by omega), mf_row r0 (q0 j j1 j2 i hi).1 (q0 j j1 j2 i hi).2 hk x1 x2]
  · intro k hk x x1 x2 y z d hy hz hd
    have hx : x ≤ 255 := by
      have : enr (cs 1) (cn 1) (mst 1 + 1) k ≤ 256 := by
        unfold enr
        split
        · exact Nat.le_of_lt (rows_top r1 (by omega))
        · exact Nat.le_refl _
      omega
    refine hP _ _ (fun j i j1 j2 hi => ?_)
    have hy1 : y < 256 := hy
    have hz1 : z < 1024 := hz
    rw [r_m_pkt _ (by omega) hx (by omega) (by omega), r_m_pkt _ (by omega) (by omega) (by omega) (by omega), mf_row r1 (q1 j j1 j2 i hi).1 (q1 j j1 j2 i hi).2 hk x1 x2]
  · intro k hk x x1 x2 y z d hy hz hd
    have hx : x ≤ 1023 := by
      have : enr (cs 2) (cn 2) (mst 2 + 1) k ≤ 1024 := by
        unfold enr
        split
        · exact Nat.le_of_lt (rows_top r2 (by omega))
        · exact Nat.le_refl _
      omega
    refine hP _ _ (fun j i j1 j2 hi => ?_)
    have hy1 : y < 256 := hy
    have hz1 : z < 256 := hz
    rw [r_m_pkt _ (by omega) (by omega) hx (by omega), r_m_pkt _ (by omega) (by omega) (by omega) (by omega), mf_row r2 (q2 j j1 j2 i hi).1 (q2 j j1 j2 i hi).2 hk x1 x2]

