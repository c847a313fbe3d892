/-! bits, first places, lists of rules -/
theorem nI_and (a b : Nat) : nI a &&& nI b = nI (a &&& b) := by
  apply Int32.toBitVec_inj.1
  show BitVec.ofNat 32 a &&& BitVec.ofNat 32 b = BitVec.ofNat 32 (a &&& b)
  apply BitVec.eq_of_getLsbD_eq
  intro i hi
  simp [hi]
theorem nI_or (a b : Nat) : nI a ||| nI b = nI (a ||| b) := by
  apply Int32.toBitVec_inj.1
  show BitVec.ofNat 32 a ||| BitVec.ofNat 32 b = BitVec.ofNat 32 (a ||| b)
  apply BitVec.eq_of_getLsbD_eq
  intro i hi
  simp [hi]
theorem sl_n : ∀ n, n < 32 → ((nI n &&& 31).toBitVec.smod 32).toNat = n := by decide +kernel
theorem su_n : ∀ n, n < 32 → (((nI n).toUInt32 &&& Int32.toUInt32 31).toBitVec % 32).toNat = n := by decide +kernel
theorem nI_shl {a i : Nat} (hi : i < 32) (h : a * 2 ^ i < 2 ^ 32) : nI a <<< (nI i &&& 31) = nI (a * 2 ^ i) := pk_shlN _ i (sl_n i hi) h
theorem nI_shr {a i : Nat} (ha : a < 2 ^ 31) (hi : i < 32) : nI a >>> (nI i &&& 31) = nI (a / 2 ^ i) := pk_shrN ha _ i (sl_n i hi)
theorem nI_ushr {a i : Nat} (ha : a < 2 ^ 32) (hi : i < 32) : ((nI a).toUInt32 >>> ((nI i).toUInt32 &&& Int32.toUInt32 31)).toInt32 = nI (a / 2 ^ i) := pk_ushrN ha _ i (su_n i hi)
theorem nI_bit {i : Nat} (hi : i < 31) : nI 1 <<< (nI i &&& 31) = nI (2 ^ i) := by
  have h1 : 2 ^ i < 2 ^ 32 := Nat.pow_lt_pow_right (by omega) (by omega)
  rw [nI_shl (by omega) (by omega), Nat.one_mul]
/-- the first place below n at which b holds; n if there is none -/
def fi (b : Nat → Bool) : Nat → Nat
  | 0 => 0
  | n + 1 => if fi b n < n then fi b n else if b n then n else n + 1
theorem fi_le (b : Nat → Bool) : ∀ n, fi b n ≤ n := by
  intro n
  induction n with
  | zero => exact Nat.le_refl _
  | succ n ih =>
    unfold fi
    split
    · omega
    · split <;> omega
theorem fi_spec (b : Nat → Bool) : ∀ n, (∀ j, j < fi b n → b j = false) ∧ (fi b n < n → b (fi b n) = true) := by
  intro n
  induction n with
  | zero => exact ⟨fun j hj => absurd hj (Nat.not_lt_zero j), fun h => absurd h (Nat.not_lt_zero _)⟩
  | succ n ih =>
    obtain ⟨h1, h2⟩ := ih
    have hle := fi_le b n
    unfold fi
    by_cases h : fi b n < n
    · rw [if_pos h]
      exact ⟨h1, fun _ => h2 h⟩
    · rw [if_neg h]
      have e : fi b n = n := by omega
      rw [e] at h1
      by_cases hb : b n = true
      · rw [if_pos hb]
        exact ⟨h1, fun _ => hb⟩
      · rw [if_neg hb]
        refine ⟨fun j hj => ?_, fun h => absurd h (Nat.lt_irrefl _)⟩
        by_cases ej : j = n
        · subst ej
          cases hz : b j with
          | true => exact absurd hz hb
          | false => rfl
        · exact h1 j (by omega)
theorem fi_at {b : Nat → Bool} {n i : Nat} (hi : i < n) (hb : b i = true) (h : ∀ j, j < i → b j = false) : fi b n = i := by
  obtain ⟨h1, h2⟩ := fi_spec b n
  rcases Nat.lt_trichotomy (fi b n) i with c | c | c
  · have := h _ c
    rw [h2 (by omega)] at this
    cases this
  · exact c
  · have := h1 i c
    rw [hb] at this
    cases this
theorem fi_none {b : Nat → Bool} {n : Nat} (h : ∀ j, j < n → b j = false) : fi b n = n := by
  obtain ⟨h1, h2⟩ := fi_spec b n
  rcases Nat.lt_or_ge (fi b n) n with c | c
  · have := h _ c
    rw [h2 c] at this
    cases this
  · exact Nat.le_antisymm (fi_le b n) c
theorem fi_congr {b c : Nat → Bool} {n : Nat} (h : ∀ j, j < n → b j = c j) : fi b n = fi c n := by
  obtain ⟨h1, h2⟩ := fi_spec c n
  rcases Nat.lt_or_ge (fi c n) n with d | d
  · exact fi_at d ((h _ d).trans (h2 d)) (fun j hj => (h j (by omega)).trans (h1 j hj))
  · have e : fi c n = n := Nat.le_antisymm (fi_le c n) d
    rw [e]
    rw [e] at h1
    exact fi_none (fun j hj => (h j hj).trans (h1 j hj))
/-- as the program says it -/
def fI (i n : Nat) : Int32 := if i < n then nI i else -1
/-- the least number in a set of numbers below 8 -/
def lb (s : Nat) : Nat := fi (fun j => s.testBit j) 8
def ushI (x : Int32) (k : Nat) : Int32 := (x.toUInt32 >>> ((nI k).toUInt32 &&& Int32.toUInt32 31)).toInt32
def bc1 (i : Int32) : Int32 := i - (ushI i 1 &&& 1431655765)
def bc2 (i : Int32) : Int32 := (i &&& 858993459) + (ushI i 2 &&& 858993459)
def bc3 (i : Int32) : Int32 := (i + ushI i 4) &&& 252645135
def bc4 (i : Int32) : Int32 := i + ushI i 8
def bc5 (i : Int32) : Int32 := (i + ushI i 16)
def bcI (i : Int32) : Int32 := bc5 (bc4 (bc3 (bc2 (bc1 i)))) &&& nI 63
theorem lb_val : ∀ s, s < 256 → s ≠ 0 → bcI ((nI s &&& -(nI s)) - nI 1) = nI (lb s) := by decide +kernel
theorem lb_lt : ∀ s, s < 256 → s ≠ 0 → lb s < 8 := by decide +kernel
theorem lb_n : ∀ n, n ≤ 8 → ∀ s, s < 2 ^ n → s ≠ 0 → lb s < n := by decide +kernel
/-- the rules that agree with a field's value -/
def ags (rs : Nat → Rl) (f x : Nat) : Nat → Nat
  | 0 => 0
  | n + 1 => ags rs f x n ||| (if r_mf (rs n) f x then 2 ^ n else 0)
theorem ags_lt (rs : Nat → Rl) (f x : Nat) : ∀ n, ags rs f x n < 2 ^ n := by
  intro n
  induction n with
  | zero => exact Nat.one_pos
  | succ n ih =>
    have h1 : 2 ^ n < 2 ^ (n + 1) := Nat.pow_lt_pow_right (by omega) (by omega)
    refine Nat.or_lt_two_pow (by omega) ?_
    split
    · exact h1
    · exact Nat.two_pow_pos _
theorem ags_bit (rs : Nat → Rl) (f x : Nat) : ∀ n i, (ags rs f x n).testBit i = (decide (i < n) && r_mf (rs i) f x) := by
  intro n
  induction n with
  | zero =>
    intro i
    show (0 : Nat).testBit i = _
    simp
  | succ n ih =>
    intro i
    show (ags rs f x n ||| (if r_mf (rs n) f x then 2 ^ n else 0)).testBit i = _
    rw [Nat.testBit_or, ih]
    by_cases e : i = n
    · subst e
      cases h : r_mf (rs i) f x <;> simp [h]
    · have h1 : (if r_mf (rs n) f x then 2 ^ n else 0).testBit i = false := by
        split
        · rw [Nat.testBit_two_pow]
          simp
          omega
        · simp
      rw [h1, Bool.or_false]
      have h2 : decide (i < n) = decide (i < n + 1) := by
        by_cases c : i < n
        · rw [decide_eq_true c, decide_eq_true (by omega)]
        · rw [decide_eq_false c, decide_eq_false (by omega)]
      rw [h2]
/-- a list of n rules rs at q: its row behind it, then its eight rules, in some order -/
def o_list (E : gE) (M : gM) (q n : Nat) (rs : Nat → Rl) : Prop :=
  M q = some (.inr (5, [.ref (q + 1), .int (nI n)])) ∧ n ≤ 8 ∧ (∀ j, j < n → r_ok (rs j)) ∧
  ∃ pi : Nat → Nat, (∀ j, j < 8 → pi j < 8) ∧ (∀ i j, i < 8 → j < 8 → pi i = pi j → i = j) ∧ (∃ fa, M (q + 1) = some (g_qa E 3 8 fa) ∧ ∀ j, j < 8 → fa j = some (q + 2 + 3 * pi j)) ∧ ∀ j, j < 8 → o_rule E M (q + 2 + 3 * pi j) (rs j)
theorem o_list.kept {E : gE} {M M' : gM} {q n : Nat} {rs : Nat → Rl} (h : o_list E M q n rs) (hk : ∀ x, q ≤ x → x ≤ q + 25 → M' x = M x) : o_list E M' q n rs := by
  obtain ⟨h1, h2, h3, pi, h4, h5, ⟨fa, h6, h7⟩, h8⟩ := h
  refine ⟨(hk q (by omega) (by omega)).trans h1, h2, h3, pi, h4, h5, ⟨fa, (hk _ (by omega) (by omega)).trans h6, h7⟩, fun j hj => ?_⟩
  have := h4 j hj
  exact (h8 j hj).kept (fun x a b => hk x (by omega) (by omega))
section LIST
variable {l : Launch} {E : gE} {N : Nat} {M : gM} {q m : Nat} {rs : Nat → Rl}
theorem k_Int_bitCount (x : Int32) : Ctr l E y_Int_bitCount 0 [.int x] N M 0 0 (g_val (some (.int (bcI x))) N M) := by
  refine ctr_of [some (.int x)] (by decide) w_295 rfl rfl (Nat.le_of_ble_eq_true rfl) (fun Γ => ?_)
  refine g_iload_n d_Int_bitCount_0 rfl ?_
  refine g_iload_n d_Int_bitCount_1 rfl ?_
  refine g_iconst (v := nI 1) d_Int_bitCount_2 (by decide) ?_
  refine g_iushr d_Int_bitCount_3 rfl ?_
  refine g_ldcw w_296 d_Int_bitCount_4 ?_
  refine g_iand d_Int_bitCount_7 ?_
  refine g_isub d_Int_bitCount_8 ?_
  refine g_istore_n d_Int_bitCount_9 (by decide) ?_
  refine g_iload_n d_Int_bitCount_10 rfl ?_
  refine g_ldcw w_297 d_Int_bitCount_11 ?_
  refine g_iand d_Int_bitCount_14 ?_
  refine g_iload_n d_Int_bitCount_15 rfl ?_
  refine g_iconst (v := nI 2) d_Int_bitCount_16 (by decide) ?_
  refine g_iushr d_Int_bitCount_17 rfl ?_
  refine g_ldcw w_297 d_Int_bitCount_18 ?_
  refine g_iand d_Int_bitCount_21 ?_
  refine g_iadd d_Int_bitCount_22 ?_
  refine g_istore_n d_Int_bitCount_23 (by decide) ?_
  refine g_iload_n d_Int_bitCount_24 rfl ?_
  refine g_iload_n d_Int_bitCount_25 rfl ?_
  refine g_iconst (v := nI 4) d_Int_bitCount_26 (by decide) ?_
  refine g_iushr d_Int_bitCount_27 rfl ?_
  refine g_iadd d_Int_bitCount_28 ?_
  refine g_ldcw w_298 d_Int_bitCount_29 ?_
  refine g_iand d_Int_bitCount_32 ?_
  refine g_istore_n d_Int_bitCount_33 (by decide) ?_
  refine g_iload_n d_Int_bitCount_34 rfl ?_
  refine g_iload_n d_Int_bitCount_35 rfl ?_
  refine g_bipush (v := nI 8) d_Int_bitCount_36 (by decide) ?_
  refine g_iushr d_Int_bitCount_38 rfl ?_
  refine g_iadd d_Int_bitCount_39 ?_
  refine g_istore_n d_Int_bitCount_40 (by decide) ?_
  refine g_iload_n d_Int_bitCount_41 rfl ?_
  refine g_iload_n d_Int_bitCount_42 rfl ?_
  refine g_bipush (v := nI 16) d_Int_bitCount_43 (by decide) ?_
  refine g_iushr d_Int_bitCount_45 rfl ?_
  refine g_iadd d_Int_bitCount_46 ?_
  refine g_istore_n d_Int_bitCount_47 (by decide) ?_
  refine g_iload_n d_Int_bitCount_48 rfl ?_
  refine g_bipush (v := nI 63) d_Int_bitCount_49 (by decide) ?_
  refine g_iand d_Int_bitCount_51 ?_
  exact g_ireturn rfl (by first | rfl | exact bI_nar _) (by omega) (by omega) d_Int_bitCount_52 ⟨rfl, rfl, rfl⟩
theorem k_RD_leastIn (s : Nat) (hs : s < 256) (h0 : s ≠ 0) : Ctr l E y_RD_leastIn 1 [.int (nI s)] N M 0 0 (g_val (some (.int (nI (lb s)))) N M) := by
  refine ctr_of [some (.int (nI s))] (by decide) w_292 rfl rfl (Nat.le_of_ble_eq_true rfl) (fun Γ => ?_)
  refine g_iload_n d_RD_leastIn_0 rfl ?_
  refine g_iload_n d_RD_leastIn_1 rfl ?_
  refine g_ineg d_RD_leastIn_2 ?_
  refine g_iand d_RD_leastIn_3 ?_
  refine g_iconst (v := nI 1) d_RD_leastIn_4 (by decide) ?_
  refine g_isub d_RD_leastIn_5 ?_
  refine g_callS s_RD_213 sv_Int_bitCount (g_of_val (k_Int_bitCount _)) (by omega) rfl (by omega) (by omega) rfl (Nat.le_of_ble_eq_true rfl) d_RD_leastIn_6 ?_
  rintro _ _ _ ⟨rfl, rfl, rfl⟩
  refine g_eqi (lb_val s hs h0) ?_
  exact g_ireturn rfl (by first | rfl | exact bI_nar _) (by omega) (by omega) d_RD_leastIn_9 ⟨rfl, rfl, rfl⟩
theorem k_RL_size (h : o_list E M q m rs) : Ctr l E y_RL_size 0 [.ref q] N M 0 0 (g_val (some (.int (nI m))) N M) := by
  obtain ⟨h1, -⟩ := h
  refine ctr_of [some (.ref q)] (by decide) w_234 rfl rfl (Nat.le_of_ble_eq_true rfl) (fun Γ => ?_)
  refine g_aload_n d_RL_size_0 rfl ?_
  refine g_get f_RL_18 (by assumption) rfl d_RL_size_1 ?_
  exact g_ireturn rfl (by first | rfl | exact bI_nar _) (by omega) (by omega) d_RL_size_4 ⟨rfl, rfl, rfl⟩
theorem k_RL_room (h : o_list E M q m rs) : Ctr l E y_RL_room 0 [.ref q] N M 0 0 (g_val (some (.int (nI (8 - m)))) N M) := by
  obtain ⟨h1, h2, -⟩ := h
  refine ctr_of [some (.ref q)] (by decide) w_622 rfl rfl (Nat.le_of_ble_eq_true rfl) (fun Γ => ?_)
  refine g_bipush (v := nI 8) d_RL_room_0 (by decide) ?_
  refine g_aload_n d_RL_room_2 rfl ?_
  refine g_get f_RL_18 (by assumption) rfl d_RL_room_3 ?_
  refine g_isub d_RL_room_6 ?_
  refine g_eqi (pk_sub h2) ?_
  exact g_ireturn rfl (by first | rfl | exact bI_nar _) (by omega) (by omega) d_RL_room_7 ⟨rfl, rfl, rfl⟩
/-- rule j: where it lies -/
theorem k_RL_at (h : o_list E M q m rs) (j : Nat) (hj : j < 8) : ∃ a, o_rule E M a (rs j) ∧ q + 2 ≤ a ∧ a + 2 ≤ q + 25 ∧ Ctr l E y_RL_at 0 [.ref q, .int (nI j)] N M 0 0 (g_val (some (.ref a)) N M) := by
  obtain ⟨h1, h2, h3, pi, h4, h5, ⟨fa, h6, h7⟩, h8⟩ := h
  have hp := h4 j hj
  refine ⟨_, h8 j hj, by omega, by omega, ?_⟩
  refine ctr_of [some (.ref q), some (.int (nI j))] (by decide) w_238 rfl rfl (Nat.le_of_ble_eq_true rfl) (fun Γ => ?_)
  refine g_aload_n d_RL_at_0 rfl ?_
  refine g_get f_RL_11 (by assumption) rfl d_RL_at_1 ?_
  refine g_iload_n d_RL_at_4 rfl ?_
  refine g_aald _ (by assumption) rfl rfl rfl hj (by decide) (h7 j hj) d_RL_at_5 ?_
  exact g_areturn rfl (Or.inl ⟨_, rfl⟩) (by omega) (by omega) d_RL_at_6 ⟨rfl, rfl, rfl⟩
theorem k_RL_hasN (h : o_list E M q m rs) (i : Nat) (hi : i < 2 ^ 31) : Ctr l E y_RL_has 0 [.ref q, .int (nI i)] N M 0 0 (g_val (some (.int (bI (decide (i < m))))) N M) := by
  obtain ⟨h1, h2, -⟩ := h
  refine ctr_of [some (.ref q), some (.int (nI i))] (by decide) w_649 rfl rfl (Nat.le_of_ble_eq_true rfl) (fun Γ => ?_)
  refine g_iload_n d_RL_has_0 rfl ?_
  refine g_ifN_lt (tgt := 16) d_RL_has_1 (by decide) (by omega) (fun hb_1 => ?_) (fun hb_1 => ?_)
  · contradiction
  refine g_iload_n d_RL_has_4 rfl ?_
  refine g_aload_n d_RL_has_5 rfl ?_
  refine g_get f_RL_18 (by assumption) rfl d_RL_has_6 ?_
  refine g_icmpN_ge (tgt := 16) d_RL_has_9 (by decide) (by omega) (by omega) (fun hb_9 => ?_) (fun hb_9 => ?_)
  · refine g_iconst (v := nI 0) d_RL_has_16 (by decide) ?_
    refine g_Fa (b := decide (i < m)) (by simp; omega) ?_
    exact g_ireturn rfl (by first | rfl | exact bI_nar _) (by omega) (by omega) d_RL_has_17 ⟨rfl, rfl, rfl⟩
  · refine g_iconst (v := nI 1) d_RL_has_12 (by decide) ?_
    refine g_goto (tgt := 17) d_RL_has_13 (by decide) ?_
    refine g_Tr (b := decide (i < m)) (by simp; omega) ?_
    exact g_ireturn rfl (by first | rfl | exact bI_nar _) (by omega) (by omega) d_RL_has_17 ⟨rfl, rfl, rfl⟩
theorem k_RL_hasM (h : o_list E M q m rs) (x : Int32) (hx : x < 0) : Ctr l E y_RL_has 0 [.ref q, .int x] N M 0 0 (g_val (some (.int (bI false))) N M) := by
  obtain ⟨h1, h2, -⟩ := h
  refine ctr_of [some (.ref q), some (.int x)] (by decide) w_649 rfl rfl (Nat.le_of_ble_eq_true rfl) (fun Γ => ?_)
  refine g_iload_n d_RL_has_0 rfl ?_
  refine g_if_lt (tgt := 16) d_RL_has_1 (by decide) (fun hb => ?_) (fun hb => absurd hx hb)
  refine g_iconst (v := nI 0) d_RL_has_16 (by decide) ?_
  refine g_Fa (b := false) rfl ?_
  exact g_ireturn rfl (by first | rfl | exact bI_nar _) (by omega) (by omega) d_RL_has_17 ⟨rfl, rfl, rfl⟩
theorem k_RL_judgeSet (h : o_list E M q m rs) (s : Nat) (hs : s < 2 ^ m) : Ctr l E y_RL_judgeSet 2 [.ref q, .int (nI s)] N M 0 0 (g_val (some (.int (nI (if s = 0 then 0 else (rs (lb s)).1)))) N M) := by
  obtain ⟨h1, h2, h3, pi, h4, h5, ⟨fa, h6, h7⟩, h8⟩ := h
  have hs2 : s < 256 := Nat.lt_of_lt_of_le hs (Nat.pow_le_pow_right (n := 2) (by omega) h2)
  refine ctr_of [some (.ref q), some (.int (nI s))] (by decide) w_289 rfl rfl (Nat.le_of_ble_eq_true rfl) (fun Γ => ?_)
  refine g_iload_n d_RL_judgeSet_0 rfl ?_
  first | refine g_ifB_ne (tgt := 8) d_RL_judgeSet_1 (by decide) (fun hb_1 => ?_) (fun hb_1 => ?_) | refine g_ifN_ne (tgt := 8) d_RL_judgeSet_1 (by decide) (by omega) (fun hb_1 => ?_) (fun hb_1 => ?_)
  · have hl := lb_n m h2 s hs hb_1
    obtain ⟨g1, g2, g3⟩ := id (h8 (lb s) (by omega))
    refine g_aload_n d_RL_judgeSet_8 rfl ?_
    refine g_get f_RL_11 (by assumption) rfl d_RL_judgeSet_9 ?_
    refine g_iload_n d_RL_judgeSet_12 rfl ?_
    refine g_callSN sn_RL_42 sv_RD_leastIn (g_of_val (k_RD_leastIn s hs2 hb_1)) (by omega) rfl (by omega) (by omega) rfl (Nat.le_of_ble_eq_true rfl) d_RL_judgeSet_13 ?_
    rintro _ _ _ ⟨rfl, rfl, rfl⟩
    refine g_aald _ (by assumption) rfl rfl rfl (show lb s < 8 by omega) (by decide) (h7 _ (by omega)) d_RL_judgeSet_16 ?_
    refine g_callV s_RL_38 sv_Ru_judgement (by assumption) rfl (g_of_val (k_Ru_judgement (h8 (lb s) (by omega)))) (by omega) rfl (by omega) (by omega) rfl (Nat.le_of_ble_eq_true rfl) d_RL_judgeSet_17 ?_
    rintro _ _ _ ⟨rfl, rfl, rfl⟩
    refine g_eqi (z := nI (if s = 0 then 0 else (rs (lb s)).1)) (by rw [if_neg hb_1]) ?_
    exact g_ireturn rfl (by first | rfl | exact bI_nar _) (by omega) (by omega) d_RL_judgeSet_20 ⟨rfl, rfl, rfl⟩
  · refine g_iconst (v := nI 0) d_RL_judgeSet_4 (by decide) ?_
    refine g_goto (tgt := 20) d_RL_judgeSet_5 (by decide) ?_
    refine g_eqi (z := nI (if s = 0 then 0 else (rs (lb s)).1)) (by rw [if_pos hb_1]) ?_
    exact g_ireturn rfl (by first | rfl | exact bI_nar _) (by omega) (by omega) d_RL_judgeSet_20 ⟨rfl, rfl, rfl⟩
theorem k_RL_firstFor (h : o_list E M q m rs) (p : Nat) (hp : p < 268435456) : Ctr l E y_RL_firstFor 3 [.ref q, .int (nI p)] N M 0 0 (g_val (some (.int (fI (fi (fun j => r_m (rs j) p) m) m))) N M) := by
  obtain ⟨h1, h2, h3, pi, h4, h5, ⟨fa, h6, h7⟩, h8⟩ := h
  refine ctr_of [some (.ref q), some (.int (nI p)), none] (by decide) w_715 rfl rfl (Nat.le_of_ble_eq_true rfl) (fun Γ => ?_)
  refine g_iconst (v := nI 0) d_RL_firstFor_0 (by decide) ?_
  refine g_istore_n d_RL_firstFor_1 (by decide) ?_
  refine g_for (P := fun i => (∀ j, j < i → r_m (rs j) p = false) → G _ _ _ _ _ _ _ _ _ _ _ _ 2 [some (.ref q), some (.int (nI p)), some (.int (nI i))] [] N M 0 0) (e := m) ?_ ?_ 0 (by omega) (fun j hj => by omega)
  · intro hn
    refine g_iload_n d_RL_firstFor_2 rfl ?_
    refine g_aload_n d_RL_firstFor_3 rfl ?_
    refine g_get f_RL_18 (by assumption) rfl d_RL_firstFor_4 ?_
    refine g_icmpN_ge (tgt := 31) d_RL_firstFor_7 (by decide) (by omega) (by omega) (fun hb_7 => ?_) (fun hb_7 => ?_)
    · refine g_iconst (v := -1) d_RL_firstFor_31 (by decide) ?_
      refine g_eqi (z := fI (fi (fun j => r_m (rs j) p) m) m) (by rw [fi_none hn]; unfold fI; rw [if_neg (by omega)]) ?_
      exact g_ireturn rfl (by first | rfl | exact bI_nar _) (by omega) (by omega) d_RL_firstFor_32 ⟨rfl, rfl, rfl⟩
    · omega
  · intro i hi ih hn
    obtain ⟨g1, g2, g3⟩ := id (h8 i (by omega))
    refine g_iload_n d_RL_firstFor_2 rfl ?_
    refine g_aload_n d_RL_firstFor_3 rfl ?_
    refine g_get f_RL_18 (by assumption) rfl d_RL_firstFor_4 ?_
    refine g_icmpN_ge (tgt := 31) d_RL_firstFor_7 (by decide) (by omega) (by omega) (fun hb_7 => ?_) (fun hb_7 => ?_)
    · omega
    refine g_aload_n d_RL_firstFor_10 rfl ?_
    refine g_get f_RL_11 (by assumption) rfl d_RL_firstFor_11 ?_
    refine g_iload_n d_RL_firstFor_14 rfl ?_
    refine g_aald _ (by assumption) rfl rfl rfl (show i < 8 by omega) (by decide) (h7 _ (by omega)) d_RL_firstFor_15 ?_
    refine g_iload_n d_RL_firstFor_16 rfl ?_
    refine g_callV s_RL_30 sv_Ru_matches (by assumption) rfl (g_of_val (k_Ru_matches (h8 i (by omega)) (h3 i hi) p hp)) (by omega) rfl (by omega) (by omega) rfl (Nat.le_of_ble_eq_true rfl) d_RL_firstFor_17 ?_
    rintro _ _ _ ⟨rfl, rfl, rfl⟩
    first | refine g_ifB_eq (tgt := 25) d_RL_firstFor_20 (by decide) (fun hb_20 => ?_) (fun hb_20 => ?_) | refine g_ifN_eq (tgt := 25) d_RL_firstFor_20 (by decide) (by omega) (fun hb_20 => ?_) (fun hb_20 => ?_)
    · refine g_iinc1 d_RL_firstFor_25 rfl (by decide) ?_
      refine g_goto (tgt := 2) d_RL_firstFor_28 (by decide) ?_
      refine ih (fun j hj => ?_)
      by_cases e : j = i
      · rw [e]; exact hb_20
      · exact hn j (by omega)
    · refine g_iload_n d_RL_firstFor_23 rfl ?_
      refine g_eqi (z := fI (fi (fun j => r_m (rs j) p) m) m) (by rw [fi_at hi hb_20 hn]; unfold fI; rw [if_pos hi]) ?_
      exact g_ireturn rfl (by first | rfl | exact bI_nar _) (by omega) (by omega) d_RL_firstFor_24 ⟨rfl, rfl, rfl⟩
theorem k_RL_judge (h : o_list E M q m rs) (p : Nat) (hp : p < 268435456) : Ctr l E y_RL_judge 4 [.ref q, .int (nI p)] N M 0 0 (g_val (some (.int (nI (if fi (fun j => r_m (rs j) p) m < m then (rs (fi (fun j => r_m (rs j) p) m)).1 else 0)))) N M) := by
  have h0 := h
  obtain ⟨h1, h2, h3, pi, h4, h5, ⟨fa, h6, h7⟩, h8⟩ := h
  refine ctr_of [some (.ref q), some (.int (nI p)), none] (by decide) w_711 rfl rfl (Nat.le_of_ble_eq_true rfl) (fun Γ => ?_)
  refine g_aload_n d_RL_judge_0 rfl ?_
  refine g_iload_n d_RL_judge_1 rfl ?_
  refine g_callV s_RL_34 sv_RL_firstFor (by assumption) rfl (g_of_val (k_RL_firstFor h0 p hp)) (by omega) rfl (by omega) (by omega) rfl (Nat.le_of_ble_eq_true rfl) d_RL_judge_2 ?_
  rintro _ _ _ ⟨rfl, rfl, rfl⟩
  refine g_istore_n d_RL_judge_5 (by decide) ?_
  refine g_iload_n d_RL_judge_6 rfl ?_
  by_cases hf : fi (fun j => r_m (rs j) p) m < m
  · obtain ⟨g1, g2, g3⟩ := id (h8 (fi (fun j => r_m (rs j) p) m) (by omega))
    refine g_eqi (z := nI (fi (fun j => r_m (rs j) p) m)) (by unfold fI; rw [if_pos hf]) ?_
    refine g_iconst (v := -1) d_RL_judge_7 (by decide) ?_
    refine g_icmp_ne (tgt := 15) d_RL_judge_8 (by decide) (fun hb => ?_) (fun hb => absurd (congrArg Int32.toInt hb) (by rw [nI_toInt (by omega)]; show ¬ ((fi (fun j => r_m (rs j) p) m : Nat) : Int) = -1; omega))
    refine g_aload_n d_RL_judge_15 rfl ?_
    refine g_get f_RL_11 (by assumption) rfl d_RL_judge_16 ?_
    refine g_iload_n (x := nI (fi (fun j => r_m (rs j) p) m)) d_RL_judge_19 (by unfold fI; rw [if_pos hf]; rfl) ?_
    refine g_aald _ (by assumption) rfl rfl rfl (show fi (fun j => r_m (rs j) p) m < 8 by omega) (by decide) (h7 _ (by omega)) d_RL_judge_20 ?_
    refine g_callV s_RL_38 sv_Ru_judgement (by assumption) rfl (g_of_val (k_Ru_judgement (h8 (fi (fun j => r_m (rs j) p) m) (by omega)))) (by omega) rfl (by omega) (by omega) rfl (Nat.le_of_ble_eq_true rfl) d_RL_judge_21 ?_
    rintro _ _ _ ⟨rfl, rfl, rfl⟩
    refine g_eqi (z := nI (if fi (fun j => r_m (rs j) p) m < m then (rs (fi (fun j => r_m (rs j) p) m)).1 else 0)) (by rw [if_pos hf]) ?_
    exact g_ireturn rfl (by first | rfl | exact bI_nar _) (by omega) (by omega) d_RL_judge_24 ⟨rfl, rfl, rfl⟩
  · refine g_eqi (z := -1) (by unfold fI; rw [if_neg hf]) ?_
    refine g_iconst (v := -1) d_RL_judge_7 (by decide) ?_
    refine g_icmp_ne (tgt := 15) d_RL_judge_8 (by decide) (fun hb => absurd rfl hb) (fun hb => ?_)
    refine g_iconst (v := nI 0) d_RL_judge_11 (by decide) ?_
    refine g_goto (tgt := 24) d_RL_judge_12 (by decide) ?_
    refine g_eqi (z := nI (if fi (fun j => r_m (rs j) p) m < m then (rs (fi (fun j => r_m (rs j) p) m)).1 else 0)) (by rw [if_neg hf]) ?_
    exact g_ireturn rfl (by first | rfl | exact bI_nar _) (by omega) (by omega) d_RL_judge_24 ⟨rfl, rfl, rfl⟩
theorem k_RL_agreeing (h : o_list E M q m rs) (f x : Nat) (hf : f < 4) (hx : x < 1024) : Ctr l E y_RL_agreeing 1 [.ref q, .int (nI f), .int (nI x)] N M 0 0 (g_val (some (.int (nI (ags rs f x m)))) N M) := by
  obtain ⟨h1, h2, h3, pi, h4, h5, ⟨fa, h6, h7⟩, h8⟩ := h
  refine ctr_of [some (.ref q), some (.int (nI f)), some (.int (nI x)), none, none] (by decide) w_266 rfl rfl (Nat.le_of_ble_eq_true rfl) (fun Γ => ?_)
  refine g_iconst (v := nI 0) d_RL_agreeing_0 (by decide) ?_
  refine g_istore_n d_RL_agreeing_1 (by decide) ?_
  refine g_iconst (v := nI 0) d_RL_agreeing_2 (by decide) ?_
  refine g_istore d_RL_agreeing_3 (by decide) ?_
  refine g_for (P := fun i => G _ _ _ _ _ _ _ _ _ _ _ _ 5 [some (.ref q), some (.int (nI f)), some (.int (nI x)), some (.int (nI (ags rs f x i))), some (.int (nI i))] [] N M 0 0) (e := m) ?_ ?_ 0 (by omega)
  · refine g_iload d_RL_agreeing_5 rfl ?_
    refine g_aload_n d_RL_agreeing_7 rfl ?_
    refine g_get f_RL_18 (by assumption) rfl d_RL_agreeing_8 ?_
    refine g_icmpN_ge (tgt := 42) d_RL_agreeing_11 (by decide) (by omega) (by omega) (fun hb_11 => ?_) (fun hb_11 => ?_)
    · refine g_iload_n d_RL_agreeing_42 rfl ?_
      exact g_ireturn rfl (by first | rfl | exact bI_nar _) (by omega) (by omega) d_RL_agreeing_43 ⟨rfl, rfl, rfl⟩
    · omega
  · intro i hi ih
    obtain ⟨g1, g2, g3⟩ := id (h8 i (by omega))
    refine g_iload d_RL_agreeing_5 rfl ?_
    refine g_aload_n d_RL_agreeing_7 rfl ?_
    refine g_get f_RL_18 (by assumption) rfl d_RL_agreeing_8 ?_
    refine g_icmpN_ge (tgt := 42) d_RL_agreeing_11 (by decide) (by omega) (by omega) (fun hb_11 => ?_) (fun hb_11 => ?_)
    · omega
    refine g_aload_n d_RL_agreeing_14 rfl ?_
    refine g_get f_RL_11 (by assumption) rfl d_RL_agreeing_15 ?_
    refine g_iload d_RL_agreeing_18 rfl ?_
    refine g_aald _ (by assumption) rfl rfl rfl (show i < 8 by omega) (by decide) (h7 _ (by omega)) d_RL_agreeing_20 ?_
    refine g_iload_n d_RL_agreeing_21 rfl ?_
    refine g_iload_n d_RL_agreeing_22 rfl ?_
    refine g_callV s_RL_45 sv_Ru_matchesValue (by assumption) rfl (g_of_val (k_Ru_matchesValue (h8 i (by omega)) (h3 i hi) f x hf hx)) (by omega) rfl (by omega) (by omega) rfl (Nat.le_of_ble_eq_true rfl) d_RL_agreeing_23 ?_
    rintro _ _ _ ⟨rfl, rfl, rfl⟩
    first | refine g_ifB_eq (tgt := 36) d_RL_agreeing_26 (by decide) (fun hb_26 => ?_) (fun hb_26 => ?_) | refine g_ifN_eq (tgt := 36) d_RL_agreeing_26 (by decide) (by omega) (fun hb_26 => ?_) (fun hb_26 => ?_)
    · refine g_eqL (L' := [some (.ref q), some (.int (nI f)), some (.int (nI x)), some (.int (nI (ags rs f x (i + 1)))), some (.int (nI i))]) (by simp [ags, hb_26]) ?_
      refine g_iinc1 d_RL_agreeing_36 rfl (by decide) ?_
      refine g_goto (tgt := 5) d_RL_agreeing_39 (by decide) ?_
      exact ih
    · refine g_iload_n d_RL_agreeing_29 rfl ?_
      refine g_iconst (v := nI 1) d_RL_agreeing_30 (by decide) ?_
      refine g_iload d_RL_agreeing_31 rfl ?_
      refine g_ishl d_RL_agreeing_33 ?_
      refine g_eqi (nI_bit (by omega)) ?_
      refine g_ior d_RL_agreeing_34 ?_
      refine g_eqi (nI_or _ _) ?_
      refine g_istore_n d_RL_agreeing_35 (by decide) ?_
      refine g_eqL (L' := [some (.ref q), some (.int (nI f)), some (.int (nI x)), some (.int (nI (ags rs f x (i + 1)))), some (.int (nI i))]) (by simp only [ags, hb_26, if_true]; rfl) ?_
      refine g_iinc1 d_RL_agreeing_36 rfl (by decide) ?_
      refine g_goto (tgt := 5) d_RL_agreeing_39 (by decide) ?_
      exact ih
theorem ao_Ru {E : gE} (a : Array Value) (U : State) (h : g_K E U) : (Cond.arrayOver (.object R_Ru)).before a U = true := va_AO.use h.2.2.2.2.2.2.1.1
theorem ao_RL {E : gE} (a : Array Value) (U : State) (h : g_K E U) : (Cond.arrayOver (.object R_RL)).before a U = true := va_AO.use h.2.2.2.2.2.2.1.2.1
theorem ao_Di {E : gE} (a : Array Value) (U : State) (h : g_K E U) : (Cond.arrayOver (.object R_Di)).before a U = true := va_AO.use h.2.2.2.2.2.2.1.2.2.1
theorem ao_Cu {E : gE} (a : Array Value) (U : State) (h : g_K E U) : (Cond.arrayOver (.object R_Cu)).before a U = true := va_AO.use h.2.2.2.2.2.2.1.2.2.2
def swp (rs : Nat → Rl) (i : Nat) : Nat → Rl := fun j => if j = i then rs (i + 1) else if j = i + 1 then rs i else rs j
def sw (i j : Nat) : Nat := if j = i then i + 1 else if j = i + 1 then i else j
theorem sw_lt {i j : Nat} (hi : i + 1 < 8) (hj : j < 8) : sw i j < 8 := by
  unfold sw
  split
  · omega
  · split <;> omega
theorem sw_inj {i a b : Nat} (h : sw i a = sw i b) : a = b := by
  unfold sw at h
  repeat' split at h
  all_goals omega
theorem swp_sw (rs : Nat → Rl) (i j : Nat) : swp rs i j = rs (sw i j) := by
  unfold swp sw
  split
  · rfl
  · split <;> rfl
theorem k_RL_exchange (h : o_list E M q m rs) (i : Nat) (hi : i + 1 < m) : Ctr l E y_RL_exchange 0 [.ref q, .int (nI i)] N M 0 0 (g_ret (fun v N' M' => v = none ∧ N' = N ∧ o_list E M' q m (swp rs i) ∧ ∀ x, x ≠ q + 1 → M' x = M x)) := by
  obtain ⟨h1, h2, h3, pi, h4, h5, ⟨fa, h6, h7⟩, h8⟩ := h
  have a1 := h4 i (by omega)
  have a2 := h4 (i + 1) (by omega)
  have b1 := (h8 i (by omega)).1
  have b2 := (h8 (i + 1) (by omega)).1
  refine ctr_of [some (.ref q), some (.int (nI i)), none] (by decide) w_658 rfl rfl (Nat.le_of_ble_eq_true rfl) (fun Γ => ?_)
  refine g_aload_n d_RL_exchange_0 rfl ?_
  refine g_get f_RL_11 (by assumption) rfl d_RL_exchange_1 ?_
  refine g_iload_n d_RL_exchange_4 rfl ?_
  refine g_aald _ (by assumption) rfl rfl rfl (show i < 8 by omega) (by decide) (h7 _ (by omega)) d_RL_exchange_5 ?_
  refine g_astore_n d_RL_exchange_6 (by decide) ?_
  refine g_aload_n d_RL_exchange_7 rfl ?_
  refine g_get f_RL_11 (by assumption) rfl d_RL_exchange_8 ?_
  refine g_iload_n d_RL_exchange_11 rfl ?_
  refine g_aload_n d_RL_exchange_12 rfl ?_
  refine g_get f_RL_11 (by assumption) rfl d_RL_exchange_13 ?_
  refine g_iload_n d_RL_exchange_16 rfl ?_
  refine g_iconst (v := nI 1) d_RL_exchange_17 (by decide) ?_
  refine g_iadd d_RL_exchange_18 ?_
  refine g_eqi (nI_add _ _) ?_
  refine g_aald _ (by assumption) rfl rfl rfl (show i + 1 < 8 by omega) (by decide) (h7 _ (by omega)) d_RL_exchange_19 ?_
  refine g_aast (ci := 4) (r := (R_Ru, F_Ru, 3)) i (by assumption) rfl rfl (by assumption) rfl (by omega) (by decide) d_RL_exchange_20 ?_
  refine g_nm (fun M1 e1 f1 => ?_)
  have h1' := (f1 q (by omega)).trans h1
  have b1' := (f1 _ (by omega)).trans b1
  refine g_aload_n d_RL_exchange_21 rfl ?_
  refine g_get f_RL_11 (by assumption) rfl d_RL_exchange_22 ?_
  refine g_iload_n d_RL_exchange_25 rfl ?_
  refine g_iconst (v := nI 1) d_RL_exchange_26 (by decide) ?_
  refine g_iadd d_RL_exchange_27 ?_
  refine g_eqi (nI_add _ _) ?_
  refine g_aload_n d_RL_exchange_28 rfl ?_
  refine g_aast (ci := 4) (r := (R_Ru, F_Ru, 3)) (i + 1) (by assumption) rfl rfl (by assumption) rfl (by omega) (by decide) d_RL_exchange_29 ?_
  refine g_nm (fun M2 e2 f2 => ?_)
  have hfr : ∀ x, x ≠ q + 1 → M2 x = M x := fun x hx => (f2 x hx).trans (f1 x hx)
  refine g_return rfl (by omega) (by omega) d_RL_exchange_30 ⟨_, rfl, rfl, rfl, ⟨(f2 q (by omega)).trans h1', h2, fun j hj => ?_, fun j => pi (sw i j), fun j hj => h4 _ (sw_lt (by omega) hj), fun a b ha hb hab => sw_inj (h5 _ _ (sw_lt (by omega) ha) (sw_lt (by omega) hb) hab), ⟨_, e2, fun j hj => ?_⟩, fun j hj => ?_⟩, hfr⟩
  · rw [swp_sw]
    unfold sw
    split
    · exact h3 _ (by omega)
    · split
      · exact h3 _ (by omega)
      · exact h3 _ hj
  · show _ = some (q + 2 + 3 * pi (sw i j))
    unfold sw
    by_cases c1 : j = i + 1
    · subst c1
      rw [va_up_self, if_neg (by omega), if_pos rfl]
    · rw [va_up_ne _ _ c1]
      by_cases c2 : j = i
      · subst c2
        rw [va_up_self, if_pos rfl]
      · rw [va_up_ne _ _ c2, if_neg c2, if_neg c1]
        exact h7 j hj
  · rw [swp_sw]
    have a3 := h4 _ (sw_lt (i := i) (by omega) hj)
    exact (h8 _ (sw_lt (by omega) hj)).kept (fun x _ _ => hfr x (by omega))
/-- rule i on its way to the end -/
def tko (rs : Nat → Rl) (i k : Nat) : Nat → Rl := fun j => if j < i then rs j else if j < k then rs (j + 1) else if j = k then rs i else rs j
theorem tko_0 (rs : Nat → Rl) (i : Nat) : tko rs i i = rs := by
  funext j
  unfold tko
  by_cases h : j < i
  · rw [if_pos h]
  · rw [if_neg h, if_neg h]
    by_cases e : j = i
    · rw [if_pos e, e]
    · rw [if_neg e]
theorem tko_s (rs : Nat → Rl) {i k : Nat} (h : i ≤ k) : swp (tko rs i k) k = tko rs i (k + 1) := by
  funext j
  unfold swp tko
  by_cases e1 : j = k
  · subst e1
    rw [if_pos rfl, if_neg (by omega), if_neg (by omega), if_neg (by omega), if_neg (by omega), if_pos (by omega)]
  · rw [if_neg e1]
    by_cases e2 : j = k + 1
    · subst e2
      rw [if_pos rfl, if_neg (by omega), if_neg (by omega), if_pos rfl, if_neg (by omega), if_neg (by omega), if_pos rfl]
    · rw [if_neg e2]
      by_cases c : j < i
      · rw [if_pos c, if_pos c]
      · rw [if_neg c, if_neg c]
        by_cases c2 : j < k
        · rw [if_pos c2, if_pos (by omega)]
        · rw [if_neg c2, if_neg e1, if_neg (by omega), if_neg e2]
theorem k_RL_takeOut (h : o_list E M q m rs) (i : Nat) (hi : i < m) : Ctr l E y_RL_takeOut 1 [.ref q, .int (nI i)] N M 0 0 (g_ret (fun v N' M' => v = none ∧ N' = N ∧ o_list E M' q (m - 1) (tko rs i (m - 1)) ∧ ∀ x, x ≠ q → x ≠ q + 1 → M' x = M x)) := by
  have hm := h.2.1
  refine ctr_of [some (.ref q), some (.int (nI i)), none] (by decide) w_654 rfl rfl (Nat.le_of_ble_eq_true rfl) (fun Γ => ?_)
  refine g_iload_n d_RL_takeOut_0 rfl ?_
  refine g_istore_n d_RL_takeOut_1 (by decide) ?_
  refine g_for (P := fun k => i ≤ k → ∀ M1 : gM, o_list E M1 q m (tko rs i k) → (∀ x, x ≠ q + 1 → M1 x = M x) → G _ _ _ _ _ _ _ _ _ _ _ _ 2 [some (.ref q), some (.int (nI i)), some (.int (nI k))] [] N M1 0 0) (e := m - 1) ?_ ?_ i (by omega) (Nat.le_refl _) M (by rw [tko_0]; exact h) (fun x _ => rfl)
  · intro _ M1 hL hfr
    obtain ⟨h1, h2, h3, pi, h4, h5, ⟨fa, h6, h7⟩, h8⟩ := id hL
    refine g_iload_n d_RL_takeOut_2 rfl ?_
    refine g_iconst (v := nI 1) d_RL_takeOut_3 (by decide) ?_
    refine g_iadd d_RL_takeOut_4 ?_
    refine g_eqi (nI_add _ _) ?_
    refine g_aload_n d_RL_takeOut_5 rfl ?_
    refine g_get f_RL_18 (by assumption) rfl d_RL_takeOut_6 ?_
    refine g_icmpN_ge (tgt := 23) d_RL_takeOut_9 (by decide) (by omega) (by omega) (fun hb_9 => ?_) (fun hb_9 => ?_)
    · refine g_aload_n d_RL_takeOut_23 rfl ?_
      refine g_dup d_RL_takeOut_24 rfl ?_
      refine g_get f_RL_18 (by assumption) rfl d_RL_takeOut_25 ?_
      refine g_iconst (v := nI 1) d_RL_takeOut_28 (by decide) ?_
      refine g_isub d_RL_takeOut_29 ?_
      refine g_eqi (pk_sub (a := m) (b := 1) (by omega)) ?_
      refine g_put p_RL_18 (by assumption) (Nat.le_of_ble_eq_true rfl) rfl rfl d_RL_takeOut_30 ?_
      refine g_nm (fun M2 e2 f2 => ?_)
      refine g_return rfl (by omega) (by omega) d_RL_takeOut_33 ⟨_, rfl, rfl, rfl, ⟨e2, by omega, fun j hj => h3 j (by omega), pi, h4, h5, ⟨fa, (f2 _ (by omega)).trans h6, h7⟩, fun j hj => ?_⟩, fun x x1 x2 => (f2 x x1).trans (hfr x x2)⟩
      have a3 := h4 j hj
      exact (h8 j hj).kept (fun x _ _ => f2 x (by omega))
    · omega
  · intro k hk ih hik M1 hL hfr
    obtain ⟨h1, h2, h3, pi, h4, h5, ⟨fa, h6, h7⟩, h8⟩ := id hL
    refine g_iload_n d_RL_takeOut_2 rfl ?_
    refine g_iconst (v := nI 1) d_RL_takeOut_3 (by decide) ?_
    refine g_iadd d_RL_takeOut_4 ?_
    refine g_eqi (nI_add _ _) ?_
    refine g_aload_n d_RL_takeOut_5 rfl ?_
    refine g_get f_RL_18 (by assumption) rfl d_RL_takeOut_6 ?_
    refine g_icmpN_ge (tgt := 23) d_RL_takeOut_9 (by decide) (by omega) (by omega) (fun hb_9 => ?_) (fun hb_9 => ?_)
    · omega
    refine g_aload_n d_RL_takeOut_12 rfl ?_
    refine g_iload_n d_RL_takeOut_13 rfl ?_
    refine g_callV s_RL_26 sv_RL_exchange (by assumption) rfl (k_RL_exchange hL k (by omega)) (by omega) rfl (by omega) (by omega) rfl (Nat.le_of_ble_eq_true rfl) d_RL_takeOut_14 ?_
    rintro v' N' M3 ⟨rfl, rfl, hL3, hf3⟩
    refine g_iinc1 d_RL_takeOut_17 rfl (by decide) ?_
    refine g_goto (tgt := 2) d_RL_takeOut_20 (by decide) ?_
    exact ih (by omega) M3 (by rw [← tko_s _ hik]; exact hL3) (fun x hx => (hf3 x hx).trans (hfr x hx))
theorem r_ok_eq {z w : Rl} (h : r_eq z w) (hw : r_ok w) : r_ok z := by
  obtain ⟨h1, h2⟩ := h
  refine ⟨by rw [h1]; exact hw.1, fun f hf => ?_⟩
  rw [(h2 f hf).1, (h2 f hf).2]
  exact hw.2 f hf
theorem k_RL_append {o : Nat} {w : Rl} (h : o_list E M q m rs) (hm : m < 8) (ho : o_rule E M o w) (hw : r_ok w) (hd : o + 2 < q ∨ q + 25 < o) : Ctr l E y_RL_append 2 [.ref q, .ref o] N M 0 0 (g_ret (fun v N' M' => v = none ∧ N' = N ∧ (∃ rs', o_list E M' q (m + 1) rs' ∧ (∀ j, j < m → rs' j = rs j) ∧ r_eq (rs' m) w) ∧ ∀ x, (x < q ∨ q + 25 < x) → M' x = M x)) := by
  obtain ⟨h1, h2, h3, pi, h4, h5, ⟨fa, h6, h7⟩, h8⟩ := h
  have a1 := h4 m hm
  have b1 := (h8 m hm).1
  refine ctr_of [some (.ref q), some (.ref o)] (by decide) w_630 rfl rfl (Nat.le_of_ble_eq_true rfl) (fun Γ => ?_)
  refine g_aload_n d_RL_append_0 rfl ?_
  refine g_get f_RL_18 (by assumption) rfl d_RL_append_1 ?_
  refine g_bipush (v := nI 8) d_RL_append_4 (by decide) ?_
  refine g_icmpN_ge (tgt := 32) d_RL_append_6 (by decide) (by omega) (by omega) (fun hb_6 => ?_) (fun hb_6 => ?_)
  · omega
  refine g_aload_n d_RL_append_9 rfl ?_
  refine g_get f_RL_11 (by assumption) rfl d_RL_append_10 ?_
  refine g_aload_n d_RL_append_13 rfl ?_
  refine g_get f_RL_18 (by assumption) rfl d_RL_append_14 ?_
  refine g_aald _ (by assumption) rfl rfl rfl hm (by decide) (h7 _ hm) d_RL_append_17 ?_
  refine g_aload_n d_RL_append_18 rfl ?_
  refine g_callV s_RL_22 sv_Ru_copyFrom (by assumption) rfl (k_Ru_copyFrom (h8 m hm) ho (by omega)) (by omega) rfl (by omega) (by omega) rfl (Nat.le_of_ble_eq_true rfl) d_RL_append_19 ?_
  rintro v' N' M1 ⟨rfl, rfl, ⟨z', hz1, hz2⟩, hf1⟩
  have h1' := (hf1 q (by omega) (by omega) (by omega)).trans h1
  refine g_aload_n d_RL_append_22 rfl ?_
  refine g_dup d_RL_append_23 rfl ?_
  refine g_get f_RL_18 (by assumption) rfl d_RL_append_24 ?_
  refine g_iconst (v := nI 1) d_RL_append_27 (by decide) ?_
  refine g_iadd d_RL_append_28 ?_
  refine g_eqi (nI_add _ _) ?_
  refine g_put p_RL_18 (by assumption) (Nat.le_of_ble_eq_true rfl) rfl rfl d_RL_append_29 ?_
  refine g_nm (fun M2 e2 f2 => ?_)
  refine g_return rfl (by omega) (by omega) d_RL_append_32 ⟨_, rfl, rfl, rfl, ⟨va_up rs m z', ⟨e2, by omega, fun j hj => ?_, pi, h4, h5, ⟨fa, ?_, h7⟩, fun j hj => ?_⟩, fun j hj => va_up_ne _ _ (by omega), ?_⟩, fun x hx => ?_⟩
  · by_cases e : j = m
    · rw [e, va_up_self]; exact r_ok_eq hz2 hw
    · rw [va_up_ne _ _ e]; exact h3 j (by omega)
  · rw [f2 _ (by omega), hf1 _ (by omega) (by omega) (by omega)]; exact h6
  · have a3 := h4 j hj
    by_cases e : j = m
    · rw [e, va_up_self]
      exact hz1.kept (fun x _ _ => f2 x (by omega))
    · rw [va_up_ne _ _ e]
      have a4 : pi j ≠ pi m := fun z => e (h5 _ _ hj hm z)
      exact (h8 j hj).kept (fun x _ _ => (f2 x (by omega)).trans (hf1 x (by omega) (by omega) (by omega)))
  · rw [va_up_self]; exact hz2
  · rw [f2 x (by omega), hf1 x (by omega) (by omega) (by omega)]
theorem k_RL_init (h : M q = some (.inr (5, [.null, .int 0]))) (hq : q + 1 = N) : Ctr l E y_RL_init 2 [.ref q] N M 25 96 (g_ret (fun v N' M' => v = none ∧ N' = N + 25 ∧ o_list E M' q 0 (fun _ => (0, fun _ => 0, fun _ => 0)) ∧ ∀ x, (x < q ∨ q + 25 < x) → M' x = M x)) := by
  refine ctr_of [some (.ref q), none] (by decide) w_108 rfl rfl (Nat.le_of_ble_eq_true rfl) (fun Γ => ?_)
  refine g_aload_n d_RL_init_0 rfl ?_
  refine g_objInit w_109 m_objI m_objC (by omega) (Nat.le_of_ble_eq_true rfl) d_RL_init_1 ?_
  refine g_aload_n d_RL_init_4 rfl ?_
  refine g_bipush (v := nI 8) d_RL_init_5 (by decide) ?_
  refine g_newq 3 _ rfl w_110 ao_Ru rfl (by decide) (by omega) (by omega) d_RL_init_7 ?_
  refine g_nm (fun M1 e1 f1 => ?_)
  have a1 := (f1 q (by omega)).trans h
  refine g_putF p_RL_11 rfl (by assumption) (Nat.le_of_ble_eq_true rfl) rfl rfl d_RL_init_10 ?_
  refine g_nm (fun M2 e2 f2 => ?_)
  refine g_iconst (v := nI 0) d_RL_init_13 (by decide) ?_
  refine g_istore_n d_RL_init_14 (by decide) ?_
  refine g_for (P := fun i => ∀ (N1 : Nat) (M3 : gM), N1 = q + 2 + 3 * i → M3 q = some (.inr (5, [.ref (q + 1), .int 0])) → (∃ fa, M3 (q + 1) = some (g_qa E 3 8 fa) ∧ ∀ j, j < i → fa j = some (q + 2 + 3 * j)) → (∀ j, j < i → o_rule E M3 (q + 2 + 3 * j) (0, fun _ => 0, fun _ => 0)) → (∀ x, (x < q ∨ q + 25 < x) → M3 x = M x) → G _ _ _ _ _ _ _ _ _ _ _ _ 15 [some (.ref q), some (.int (nI i))] [] N1 M3 (1 + 3 * i) (8 + 11 * i)) (e := 8) ?_ ?_ 0 (by decide) _ M2 (by omega) ?_ ?_ ?_ ?_
  · intro N1 M3 hN g1 g2 g3 g4
    refine g_iload_n d_RL_init_15 rfl ?_
    refine g_bipush (v := nI 8) d_RL_init_16 (by decide) ?_
    refine g_icmpN_ge (tgt := 40) d_RL_init_18 (by decide) (by omega) (by omega) (fun hb_18 => ?_) (fun hb_18 => ?_)
    · refine g_aload_n d_RL_init_40 rfl ?_
      refine g_iconst (v := nI 0) d_RL_init_41 (by decide) ?_
      refine g_put p_RL_18 (by assumption) (Nat.le_of_ble_eq_true rfl) rfl rfl d_RL_init_42 ?_
      refine g_nm (fun M4 e4 f4 => ?_)
      refine g_return rfl (by omega) (by omega) d_RL_init_45 ⟨_, rfl, rfl, by omega, ⟨e4, by omega, fun j hj => by omega, fun j => j, fun j hj => hj, fun i j _ _ h => h, ?_, fun j hj => (g3 j hj).kept (fun x _ _ => f4 x (by omega))⟩, fun x hx => (f4 x (by omega)).trans (g4 x hx)⟩
      obtain ⟨fa, b1, b2⟩ := g2
      exact ⟨fa, (f4 _ (by omega)).trans b1, b2⟩
    · omega
  · intro i hi ih N1 M3 hN g1 g2 g3 g4
    obtain ⟨fa, b1, b2⟩ := g2
    refine g_iload_n d_RL_init_15 rfl ?_
    refine g_bipush (v := nI 8) d_RL_init_16 (by decide) ?_
    refine g_icmpN_ge (tgt := 40) d_RL_init_18 (by decide) (by omega) (by omega) (fun hb_18 => ?_) (fun hb_18 => ?_)
    · omega
    refine g_aload_n d_RL_init_21 rfl ?_
    refine g_get f_RL_11 (by assumption) rfl d_RL_init_22 ?_
    refine g_iload_n d_RL_init_25 rfl ?_
    refine g_new n_RL_9 (by omega) (by omega) d_RL_init_26 ?_
    refine g_nm (fun M4 e4 f4 => ?_)
    have c1 := (f4 q (by omega)).trans g1
    have c2 := (f4 (q + 1) (by omega)).trans b1
    refine g_dup d_RL_init_29 rfl ?_
    refine g_callI s_RL_17 sv_Ru_init (k_Ru_init e4 rfl) (by omega) rfl (by omega) (by omega) rfl (Nat.le_of_ble_eq_true rfl) d_RL_init_30 ?_
    rintro v' N' M5 ⟨rfl, rfl, d1, d2⟩
    have c3 := (d2 (q + 1) (by omega) (by omega) (by omega)).trans c2
    have d3 := d1.1
    refine g_aast (ci := 4) (r := (R_Ru, F_Ru, 3)) i (by assumption) rfl rfl (by assumption) rfl (by omega) (by decide) d_RL_init_33 ?_
    refine g_nm (fun M6 e6 f6 => ?_)
    refine g_iinc1 d_RL_init_34 rfl (by decide) ?_
    refine g_goto (tgt := 15) d_RL_init_37 (by decide) ?_
    refine g_wide (k' := 1 + 3 * (i + 1)) (n' := 8 + 11 * (i + 1)) (by omega) (by omega) ?_
    refine ih _ M6 (by omega) ?_ ⟨_, e6, fun j hj => ?_⟩ (fun j hj => ?_) (fun x hx => ?_)
    · rw [f6 _ (by omega), d2 _ (by omega) (by omega) (by omega)]; exact c1
    · by_cases e : j = i
      · subst e
        rw [va_up_self, hN]
      · rw [va_up_ne _ _ e]
        exact b2 j (by omega)
    · by_cases e : j = i
      · subst e
        rw [hN] at d1
        exact d1.kept (fun x _ _ => f6 x (by omega))
      · exact (g3 j (by omega)).kept (fun x _ _ => by rw [f6 x (by omega), d2 x (by omega) (by omega) (by omega), f4 x (by omega)])
    · rw [f6 x (by omega), d2 x (by omega) (by omega) (by omega), f4 x (by omega)]
      exact g4 x hx
  · rw [e2, hq]; rfl
  · exact ⟨_, (f2 _ (by omega)).trans (by rw [hq]; exact e1), fun j hj => by omega⟩
  · exact fun j hj => by omega
  · exact fun x hx => (f2 x (by omega)).trans (f1 x (by omega))
end LIST

