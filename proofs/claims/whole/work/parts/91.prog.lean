/-! a rule that is read lies ahead -/
theorem sRg_ge {n : Nat} {ts : Nat → Nat} {f a : Nat} {z : Rl} (ha : a ≤ n) (hs : (sRg n ts f a z).1 = true) : a ≤ (sRg n ts f a z).2.1 ∧ (sRg n ts f a z).2.1 ≤ n := by
  have nxg : ∀ {b : Nat}, b ≤ n → b ≤ nx n ts b ∧ nx n ts b ≤ n := fun {b} hb => ⟨Nat.le_trans (tE_in hb).1 (bh_in _ _ _ _).1, nx_le hb⟩
  have h1 := nxg ha
  have h2 := nxg h1.2
  have h3 := nxg h2.2
  unfold sRg at hs ⊢
  by_cases c1 : wd n ts a 10 = true
  · rw [if_pos c1]; exact h1
  · rw [if_neg c1] at hs ⊢
    by_cases c2 : nb n ts a 0 (mst f) = true
    · rw [if_pos c2] at hs ⊢
      by_cases c3 : sg n ts (nx n ts a) 45 = true
      · rw [if_pos c3] at hs ⊢
        unfold sGr at hs ⊢
        by_cases c4 : nb n ts (nx n ts (nx n ts a)) (nv n ts a) (mst f) = true
        · rw [if_pos c4]; exact ⟨by show a ≤ nx n ts (nx n ts (nx n ts a)); omega, h3.2⟩
        · rw [if_neg c4] at hs; cases hs
      · rw [if_neg c3] at hs ⊢
        by_cases c4 : sg n ts (nx n ts a) 47 = true
        · rw [if_pos c4] at hs ⊢
          unfold sHb at hs ⊢
          by_cases c5 : nb n ts (nx n ts (nx n ts a)) 0 (bts f) = true
          · rw [if_pos c5]; exact ⟨by show a ≤ nx n ts (nx n ts (nx n ts a)); omega, h3.2⟩
          · rw [if_neg c5] at hs; cases hs
        · rw [if_neg c4]; exact h1
    · rw [if_neg c2] at hs; cases hs
theorem sFs_gt {n : Nat} {ts : Nat → Nat} : ∀ k t q z, q ≤ n → (sFs n ts k t q z).1 = true → q < (sFs n ts k t q z).2.1 ∧ (sFs n ts k t q z).2.1 ≤ n := by
  intro k
  induction k with
  | zero =>
    intro t q z hq hs
    unfold sFs at hs ⊢
    by_cases c : sg n ts q 59 = true
    · rw [if_pos c]; exact ⟨nx_gt (sg_lt c).1, nx_le hq⟩
    · rw [if_neg c] at hs; cases hs
  | succ k ih =>
    intro t q z hq hs
    unfold sFs at hs ⊢
    by_cases c : sg n ts q 59 = true
    · rw [if_pos c]; exact ⟨nx_gt (sg_lt c).1, nx_le hq⟩
    · rw [if_neg c] at hs ⊢
      by_cases c2 : fh n ts q < 4 ∧ t.testBit (fh n ts q) = false
      · rw [if_pos c2] at hs ⊢
        have hk := fh_kd c2.1
        have hg := nx_gt (ts := ts) (kd_2 hk).1
        by_cases c3 : (sRg n ts (fh n ts q) (nx n ts q) z).1 = true
        · rw [if_pos c3] at hs ⊢
          have h1 := sRg_ge (nx_le hq) c3
          have h2 := ih _ _ _ h1.2 hs
          exact ⟨by omega, h2.2⟩
        · rw [if_neg c3] at hs; exact absurd hs c3
      · rw [if_neg c2] at hs; cases hs
theorem sRu_gt {n : Nat} {ts : Nat → Nat} {a : Nat} {z : Rl} (ha : a ≤ n) (hs : (sRu n ts a z).1 = true) : a < (sRu n ts a z).2.1 ∧ (sRu n ts a z).2.1 ≤ n := by
  unfold sRu at hs ⊢
  by_cases c : vh n ts a < 3
  · rw [if_pos c] at hs ⊢
    have hg := nx_gt (ts := ts) (kd_2 (vh_kd c)).1
    have h2 := sFs_gt _ _ _ _ (nx_le ha) hs
    exact ⟨by omega, h2.2⟩
  · rw [if_neg c] at hs; cases hs

