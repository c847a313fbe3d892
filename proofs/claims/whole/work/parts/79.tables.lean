/-! how many different things: two ways of counting -/
theorem one_pick {m : Nat} {q : Nat → Bool} {b K : Nat → Prop} {w : Nat} (hq : ∀ j, j < m → (q j = true → b j)) (he : ∃ j, j < m ∧ b j ∧ K j)
    (h1 : ∀ j, j < m → b j → K j → (∀ j', j' < j → b j' → ¬ K j') → q j = true) (h2 : ∀ j j', j < m → j' < m → q j = true → q j' = true → K j → K j' → j = j') [dK : DecidablePred K] :
    sm (fun j => if q j = true ∧ K j then w else 0) m = w := by
  classical
  obtain ⟨j1, a1, a2, a3⟩ := he
  have sp := fi_spec (fun j => decide (b j ∧ K j)) m
  obtain ⟨j0, hj0⟩ : ∃ j0, j0 = fi (fun j => decide (b j ∧ K j)) m := ⟨_, rfl⟩
  rw [← hj0] at sp
  have hlt : j0 < m := by
    rcases Nat.lt_or_ge j1 j0 with c | c
    · exact absurd ⟨a2, a3⟩ (of_decide_eq_false (sp.1 j1 c))
    · omega
  have hb := of_decide_eq_true (sp.2 hlt)
  have hq0 := h1 j0 hlt hb.1 hb.2 (fun j' hj' b' k' => absurd ⟨b', k'⟩ (of_decide_eq_false (sp.1 j' hj')))
  rw [sm_congr (g := fun j => if j = j0 then (fun _ => w) j else 0) (fun j hj => ?_), sm_pick (fun _ => w) hlt]
  show (if q j = true ∧ K j then w else 0) = (if j = j0 then w else 0)
  by_cases e : j = j0
  · subst e
    rw [if_pos ⟨hq0, hb.2⟩, if_pos rfl]
  · rw [if_neg e, if_neg (fun z => e (h2 j j0 hj hlt z.1 hq0 z.2 hb.2))]
theorem ddp {n m : Nat} {p q : Nat → Bool} {a b : Nat → Prop} {C : Nat → Nat → Prop} {w v : Nat → Nat}
    (hp : ∀ i, i < n → (p i = true ↔ a i ∧ ∀ i', i' < i → a i' → ¬ ∃ j, j < m ∧ b j ∧ C i j ∧ C i' j))
    (hq : ∀ j, j < m → (q j = true ↔ b j ∧ ∀ j', j' < j → b j' → ¬ ∃ i, i < n ∧ a i ∧ C i j ∧ C i j'))
    (hI : ∀ i, i < n → a i → ∃ j, j < m ∧ b j ∧ C i j) (hJ : ∀ j, j < m → b j → ∃ i, i < n ∧ a i ∧ C i j)
    (hd : ∀ i i' j j', C i j → C i' j → C i j' → C i' j') (hw : ∀ i j, i < n → j < m → a i → b j → C i j → w i = v j) :
    sm (fun i => if p i = true then w i else 0) n = sm (fun j => if q j = true then v j else 0) m := by
  classical
  have e1 : sm (fun i => if p i = true then w i else 0) n = sm (fun i => sm (fun j => if p i = true ∧ (q j = true ∧ C i j) then w i else 0) m) n := by
    refine sm_congr (fun i hi => ?_)
    show (if p i = true then w i else 0) = sm (fun j => if p i = true ∧ (q j = true ∧ C i j) then w i else 0) m
    by_cases c : p i = true
    · rw [if_pos c, sm_congr (g := fun j => if q j = true ∧ C i j then w i else 0) (fun j _ => ?_)]
      · obtain ⟨ha, hf⟩ := (hp i hi).mp c
        refine (one_pick (b := b) (fun j hj z => ((hq j hj).mp z).1) (hI i hi ha) (fun j hj bj cj hmin => (hq j hj).mpr ⟨bj, fun j' hj' bj' => ?_⟩) (fun j j' hj hj' z z' k k' => ?_)).symm
        · rintro ⟨i2, -, -, k1, k2⟩
          exact hmin j' hj' bj' (hd i2 i j j' k1 cj k2)
        · rcases Nat.lt_trichotomy j j' with c1 | c1 | c1
          · exact absurd ⟨i, hi, ha, k', k⟩ (((hq j' hj').mp z').2 j c1 ((hq j hj).mp z).1)
          · exact c1
          · exact absurd ⟨i, hi, ha, k, k'⟩ (((hq j hj).mp z).2 j' c1 ((hq j' hj').mp z').1)
      · show (if p i = true ∧ (q j = true ∧ C i j) then w i else 0) = (if q j = true ∧ C i j then w i else 0)
        by_cases c2 : q j = true ∧ C i j
        · rw [if_pos ⟨c, c2⟩, if_pos c2]
        · rw [if_neg (fun z => c2 z.2), if_neg c2]
    · rw [if_neg c, sm_congr (g := fun _ => 0) (fun j _ => if_neg (fun z => c z.1)), sm_zero]
  rw [e1, sm_swap]
  refine sm_congr (fun j hj => ?_)
  show sm (fun i => if p i = true ∧ (q j = true ∧ C i j) then w i else 0) n = (if q j = true then v j else 0)
  by_cases c : q j = true
  · obtain ⟨hb, hf⟩ := (hq j hj).mp c
    rw [if_pos c, sm_congr (g := fun i => if p i = true ∧ C i j then v j else 0) (fun i hi => ?_)]
    · refine one_pick (b := a) (fun i hi z => ((hp i hi).mp z).1) (hJ j hj hb) (fun i hi ai ci hmin => (hp i hi).mpr ⟨ai, fun i' hi' ai' => ?_⟩) (fun i i' hi hi' z z' k k' => ?_)
      · rintro ⟨j2, -, -, k1, k2⟩
        exact hmin i' hi' ai' (hd i i' j2 j k1 k2 ci)
      · rcases Nat.lt_trichotomy i i' with c1 | c1 | c1
        · exact absurd ⟨j, hj, hb, k', k⟩ (((hp i' hi').mp z').2 i c1 ((hp i hi).mp z).1)
        · exact c1
        · exact absurd ⟨j, hj, hb, k, k'⟩ (((hp i hi).mp z).2 i' c1 ((hp i' hi').mp z').1)
    · show (if p i = true ∧ (q j = true ∧ C i j) then w i else 0) = (if p i = true ∧ C i j then v j else 0)
      by_cases c2 : p i = true ∧ C i j
      · rw [if_pos ⟨c2.1, c, c2.2⟩, if_pos c2, hw i j hi hj ((hp i hi).mp c2.1).1 hb c2.2]
      · rw [if_neg (fun z => c2 ⟨z.1, z.2.2⟩), if_neg c2]
  · rw [if_neg c, sm_congr (g := fun _ => 0) (fun i _ => if_neg (fun z => c z.2.1)), sm_zero]
/-- changes from row to row are changes from value to value -/
theorem rows_chg {st : Nat → Nat} {n t : Nat} {T : Nat → Nat → Bool} (hr : rows_ok st n (t + 1)) (h0 : ∀ x, T x x = true)
    (hT : ∀ k k' x y, k < n → k' < n → st k ≤ x → x < enr st n (t + 1) k → st k' ≤ y → y < enr st n (t + 1) k' → T x y = T (st k) (st k')) :
    sm (fun r => if T (st r) (st (r + 1)) = true then 0 else 1) (n - 1) = sm (fun x => if T x (x + 1) = true then 0 else 1) t := by
  obtain ⟨z0, hn, hi, ht⟩ := id hr
  have key : ∀ k, k < n → sm (fun r => if T (st r) (st (r + 1)) = true then 0 else 1) k = sm (fun x => if T x (x + 1) = true then 0 else 1) (st k) := by
    intro k
    induction k with
    | zero => intro _; rw [z0]; rfl
    | succ k ih =>
      intro hk
      show sm (fun r => if T (st r) (st (r + 1)) = true then 0 else 1) k + (if T (st k) (st (k + 1)) = true then 0 else 1) = _
      have hlt := hi k hk
      have e : enr st n (t + 1) k = st (k + 1) := by unfold enr; rw [if_pos hk]
      obtain ⟨c, hc⟩ : ∃ c, st (k + 1) = c + 1 := ⟨st (k + 1) - 1, by omega⟩
      rw [ih (by omega), hc]
      show _ = sm (fun x => if T x (x + 1) = true then 0 else 1) c + (if T c (c + 1) = true then 0 else 1)
      rw [sm_block (F := fun x => if T x (x + 1) = true then 0 else 1) (a := st k) (b := c) (v := 0) (by omega) (fun x x1 x2 => ?_)]
      · have h2 := rows_lt hr hk
        have : T c (c + 1) = T (st k) (st (k + 1)) := hT k (k + 1) c (c + 1) (by omega) hk (by omega) (by omega) (by omega) (by omega)
        rw [this, hc, Nat.zero_mul]
        rfl
      · show (if T x (x + 1) = true then 0 else 1) = 0
        rw [hT k k x (x + 1) (by omega) (by omega) x1 (by omega) (by omega) (by omega), if_pos (h0 _)]
  rw [key (n - 1) (by omega), sm_block (F := fun x => if T x (x + 1) = true then 0 else 1) (a := st (n - 1)) (b := t) (v := 0) (by omega) (fun x x1 x2 => ?_), Nat.zero_mul]
  · rfl
  · have e : enr st n (t + 1) (n - 1) = t + 1 := by unfold enr; rw [if_neg (by omega)]
    show (if T x (x + 1) = true then 0 else 1) = 0
    rw [hT (n - 1) (n - 1) x (x + 1) (by omega) (by omega) x1 (by omega) (by omega) (by omega), if_pos (h0 _)]

