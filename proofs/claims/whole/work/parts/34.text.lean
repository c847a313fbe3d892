/-! the text -/
/-- sign k of four -/
def sgn (u k : Nat) : Nat := u / 2 ^ (8 * k) % 256
theorem sgn_lt (u k : Nat) : sgn u k < 256 := Nat.mod_lt _ (by omega)
theorem and128 : ∀ s, s < 256 → (s &&& 128 = 0 ↔ s < 128) := by decide +kernel
def okS (u : Nat) : Bool := decide (sgn u 0 < 128) && decide (sgn u 1 < 128) && decide (sgn u 2 < 128) && decide (sgn u 3 < 128)
theorem okS_iff (u : Nat) : okS u = true ↔ ∀ k, k < 4 → sgn u k < 128 := by
  unfold okS
  simp only [Bool.and_eq_true, decide_eq_true_eq]
  constructor
  · intro ⟨⟨⟨a, b⟩, c⟩, d⟩ k hk
    have : k = 0 ∨ k = 1 ∨ k = 2 ∨ k = 3 := by omega
    rcases this with e | e | e | e <;> rw [e] <;> assumption
  · intro h
    exact ⟨⟨⟨h 0 (by omega), h 1 (by omega)⟩, h 2 (by omega)⟩, h 3 (by omega)⟩
theorem and80 {u : Nat} (hu : u < 2 ^ 32) : (nI u &&& (-2139062144) = 0) ↔ okS u = true := by
  have e1 : nI u &&& (-2139062144) = nI (u &&& 2155905152) := by
    rw [← nI_and]
    rfl
  have hv : u &&& 2155905152 < 2 ^ 32 := Nat.lt_of_le_of_lt Nat.and_le_left hu
  have e2 : nI (u &&& 2155905152) = 0 ↔ u &&& 2155905152 = 0 := by
    constructor
    · intro h
      have := congrArg (fun x : Int32 => x.toBitVec.toNat) h
      simp only [pk_tn hv] at this
      exact this
    · intro h
      rw [h]
      rfl
  have hs : ∀ k, (u &&& 2155905152) / 2 ^ (8 * k) % 2 ^ 8 = (u / 2 ^ (8 * k) % 2 ^ 8) &&& (2155905152 / 2 ^ (8 * k) % 2 ^ 8) := by
    intro k
    rw [Nat.and_div_two_pow, Nat.and_mod_two_pow]
  have s0 := hs 0
  have s1 := hs 1
  have s2 := hs 2
  have s3 := hs 3
  have t0 : sgn u 0 &&& 128 = (u &&& 2155905152) % 256 := by
    rw [show (u &&& 2155905152) % 256 = (u &&& 2155905152) / 2 ^ (8 * 0) % 2 ^ 8 by simp, s0]
    rfl
  have t1 : sgn u 1 &&& 128 = (u &&& 2155905152) / 256 % 256 := s1.symm
  have t2 : sgn u 2 &&& 128 = (u &&& 2155905152) / 65536 % 256 := s2.symm
  have t3 : sgn u 3 &&& 128 = (u &&& 2155905152) / 16777216 % 256 := s3.symm
  rw [e1, e2, okS_iff]
  generalize hV : u &&& 2155905152 = v at *
  constructor
  · intro hz k hk
    have : k = 0 ∨ k = 1 ∨ k = 2 ∨ k = 3 := by omega
    rcases this with e | e | e | e <;> rw [e] <;> refine (and128 _ (sgn_lt _ _)).mp ?_
    · rw [t0]; omega
    · rw [t1]; omega
    · rw [t2]; omega
    · rw [t3]; omega
  · intro h
    have h0 := (and128 _ (sgn_lt u 0)).mpr (h 0 (by omega))
    have h1 := (and128 _ (sgn_lt u 1)).mpr (h 1 (by omega))
    have h2 := (and128 _ (sgn_lt u 2)).mpr (h 2 (by omega))
    have h3 := (and128 _ (sgn_lt u 3)).mpr (h 3 (by omega))
    omega
/-- how many of the first i signs aren't 0 -/
def cnS (u : Nat) : Nat → Nat := sm (fun k => if sgn u k = 0 then 0 else 1)
/-- the text with the first i signs behind it -/
def apT (n : Nat) (ts : Nat → Nat) (u : Nat) : Nat → Nat → Nat
  | 0 => ts
  | i + 1 => if sgn u i = 0 then apT n ts u i else va_up (apT n ts u i) (n + cnS u i) (sgn u i)
theorem cnS_le (u i : Nat) : cnS u i ≤ i := by
  induction i with
  | zero => exact Nat.le_refl _
  | succ i ih =>
    show cnS u i + (if sgn u i = 0 then 0 else 1) ≤ i + 1
    split <;> omega
theorem cnS_mono (u : Nat) {i j : Nat} (h : i ≤ j) : cnS u i ≤ cnS u j := by
  obtain ⟨k, rfl⟩ := Nat.exists_eq_add_of_le h
  unfold cnS
  rw [sm_split]
  omega
/-- kinds: 0 the end, 1 blank, 2 letter, 3 digit, 4 other -/
def kc (c : Nat) : Nat := if c = 32 ∨ c = 10 then 1 else if 97 ≤ c ∧ c ≤ 122 then 2 else if 48 ≤ c ∧ c ≤ 57 then 3 else 4
def kd (n : Nat) (ts : Nat → Nat) (k : Nat) : Nat := if k < n then kc (ts k) else 0
theorem kc_le (c : Nat) : 1 ≤ kc c ∧ kc c ≤ 4 := by
  unfold kc
  repeat' split
  all_goals omega
theorem kd_le (n : Nat) (ts : Nat → Nat) (k : Nat) : kd n ts k ≤ 4 := by
  unfold kd
  split
  · exact (kc_le _).2
  · omega
/-- the first place from p on that isn't of kind x -/
def bh (n : Nat) (ts : Nat → Nat) (p x : Nat) : Nat := p + fi (fun j => decide (kd n ts (p + j) ≠ x)) (n - p)
theorem bh_in (n : Nat) (ts : Nat → Nat) (p x : Nat) : p ≤ bh n ts p x ∧ (p ≤ n → bh n ts p x ≤ n) := by
  have := fi_le (fun j => decide (kd n ts (p + j) ≠ x)) (n - p)
  unfold bh
  omega
def o_text (E : gE) (M : gM) (t n : Nat) (ts : Nat → Nat) : Prop := M t = some (.inr (1, [.ref (t + 1), .int (nI n)])) ∧ n ≤ 240 ∧ (∀ j, j < n → 0 < ts j ∧ ts j < 128) ∧ ∃ fc, M (t + 1) = some (g_ca E 240 fc) ∧ ∀ j, j < n → fc j = nI (ts j)
theorem o_text.kept {E : gE} {M M' : gM} {t n : Nat} {ts : Nat → Nat} (h : o_text E M t n ts) (hk : ∀ x, t ≤ x → x ≤ t + 1 → M' x = M x) : o_text E M' t n ts := by
  obtain ⟨h1, h2, h3, fc, h4, h5⟩ := h
  exact ⟨(hk _ (by omega) (by omega)).trans h1, h2, h3, fc, (hk _ (by omega) (by omega)).trans h4, h5⟩
theorem nar_c {q : Nat} (hq : q < 65536) : vp_nar .char (nI q) = nI q := by
  unfold vp_nar
  rw [(pk_charN hq).1]
theorem c_of {q : Nat} (hq : q < 65536) : ((nI q).toUInt32 % 65536).toInt32 = nI q := by
  rw [pk_char, pk_tn (by omega), Nat.mod_eq_of_lt hq]
section TEXT
variable {l : Launch} {E : gE} {N : Nat} {M : gM} {t m : Nat} {ts : Nat → Nat}
theorem k_Tx_length (h : o_text E M t m ts) : Ctr l E y_Tx_length 0 [.ref t] N M 0 0 (g_val (some (.int (nI m))) N M) := by
  obtain ⟨h1, -⟩ := h
  refine ctr_of [some (.ref t)] (by decide) w_426 rfl rfl (Nat.le_of_ble_eq_true rfl) (fun Γ => ?_)
  refine g_aload_n d_Tx_length_0 rfl ?_
  refine g_get f_Tx_15 (by assumption) rfl d_Tx_length_1 ?_
  exact g_ireturn rfl (by first | rfl | exact bI_nar _) (by omega) (by omega) d_Tx_length_4 ⟨rfl, rfl, rfl⟩
theorem k_Tx_at (h : o_text E M t m ts) (j : Nat) (hj : j < m) : Ctr l E y_Tx_at 0 [.ref t, .int (nI j)] N M 0 0 (g_val (some (.int (nI (ts j)))) N M) := by
  obtain ⟨h1, h2, h3, fc, h4, h5⟩ := h
  have h6 := h3 j hj
  refine ctr_of [some (.ref t), some (.int (nI j))] (by decide) w_514 rfl rfl (Nat.le_of_ble_eq_true rfl) (fun Γ => ?_)
  refine g_aload_n d_Tx_at_0 rfl ?_
  refine g_get f_Tx_9 (by assumption) rfl d_Tx_at_1 ?_
  refine g_iload_n d_Tx_at_4 rfl ?_
  refine g_cald _ (by assumption) rfl (by omega) (by decide) d_Tx_at_5 ?_
  refine g_eqi (h5 j hj) ?_
  exact g_ireturn rfl (pk_charN (by omega)).1 (by omega) (by omega) d_Tx_at_6 ⟨rfl, rfl, rfl⟩
theorem k_Tx_signOf (u k : Nat) (hu : u < 2 ^ 32) (hk : k < 4) : Ctr l E y_Tx_signOf 0 [.int (nI u), .int (nI k)] N M 0 0 (g_val (some (.int (nI (sgn u k)))) N M) := by
  refine ctr_of [some (.int (nI u)), some (.int (nI k))] (by decide) w_402 rfl rfl (Nat.le_of_ble_eq_true rfl) (fun Γ => ?_)
  refine g_iload_n d_Tx_signOf_0 rfl ?_
  refine g_bipush (v := nI 8) d_Tx_signOf_1 (by decide) ?_
  refine g_iload_n d_Tx_signOf_3 rfl ?_
  refine g_imul d_Tx_signOf_4 ?_
  refine g_eqi (pk_mul 8 k) ?_
  refine g_iushr d_Tx_signOf_5 (nI_ushr hu (by omega)) ?_
  refine g_sipush (v := nI 255) d_Tx_signOf_6 (by decide) ?_
  refine g_iand d_Tx_signOf_9 ?_
  refine g_eqi (pk_andN (Nat.lt_of_le_of_lt (Nat.div_le_self _ _) hu) 8 rfl) ?_
  exact g_ireturn rfl (by first | rfl | exact bI_nar _) (by omega) (by omega) d_Tx_signOf_10 ⟨rfl, rfl, rfl⟩
theorem k_Tx_areSigns (u : Nat) (hu : u < 2 ^ 32) : Ctr l E y_Tx_areSigns 0 [.int (nI u)] N M 0 0 (g_val (some (.int (bI (okS u)))) N M) := by
  refine ctr_of [some (.int (nI u))] (by decide) w_326 rfl rfl (Nat.le_of_ble_eq_true rfl) (fun Γ => ?_)
  refine g_iload_n d_Tx_areSigns_0 rfl ?_
  refine g_ldc w_327 d_Tx_areSigns_1 ?_
  refine g_iand d_Tx_areSigns_3 ?_
  refine g_if_ne (tgt := 11) d_Tx_areSigns_4 (by decide) (fun hb => ?_) (fun hb => ?_)
  · refine g_iconst (v := nI 0) d_Tx_areSigns_11 (by decide) ?_
    refine g_Fa (b := okS u) ?_ ?_
    · cases e : okS u with
      | false => rfl
      | true => exact absurd ((and80 hu).mpr e) hb
    exact g_ireturn rfl (by first | rfl | exact bI_nar _) (by omega) (by omega) d_Tx_areSigns_12 ⟨rfl, rfl, rfl⟩
  · refine g_iconst (v := nI 1) d_Tx_areSigns_7 (by decide) ?_
    refine g_goto (tgt := 12) d_Tx_areSigns_8 (by decide) ?_
    refine g_Tr (b := okS u) ((and80 hu).mp hb) ?_
    exact g_ireturn rfl (by first | rfl | exact bI_nar _) (by omega) (by omega) d_Tx_areSigns_12 ⟨rfl, rfl, rfl⟩
theorem k_Tx_hasRoomFor (h : o_text E M t m ts) (u : Nat) (hu : u < 2 ^ 32) : Ctr l E y_Tx_hasRoomFor 1 [.ref t, .int (nI u)] N M 0 0 (g_val (some (.int (bI (decide (m + cnS u 4 ≤ 240))))) N M) := by
  obtain ⟨h1, h2, -⟩ := h
  refine ctr_of [some (.ref t), some (.int (nI u)), none, none] (by decide) w_399 rfl rfl (Nat.le_of_ble_eq_true rfl) (fun Γ => ?_)
  refine g_iconst (v := nI 0) d_Tx_hasRoomFor_0 (by decide) ?_
  refine g_istore_n d_Tx_hasRoomFor_1 (by decide) ?_
  refine g_iconst (v := nI 0) d_Tx_hasRoomFor_2 (by decide) ?_
  refine g_istore_n d_Tx_hasRoomFor_3 (by decide) ?_
  refine g_for (P := fun i => G _ _ _ _ _ _ _ _ _ _ _ _ 4 [some (.ref t), some (.int (nI u)), some (.int (nI (cnS u i))), some (.int (nI i))] [] N M 0 0) (e := 4) ?_ ?_ 0 (by decide)
  · have hc := cnS_le u 4
    refine g_iload_n d_Tx_hasRoomFor_4 rfl ?_
    refine g_iconst (v := nI 4) d_Tx_hasRoomFor_5 (by decide) ?_
    refine g_icmpN_ge (tgt := 26) d_Tx_hasRoomFor_6 (by decide) (by omega) (by omega) (fun hb_6 => ?_) (fun hb_6 => ?_)
    · refine g_aload_n d_Tx_hasRoomFor_26 rfl ?_
      refine g_get f_Tx_15 (by assumption) rfl d_Tx_hasRoomFor_27 ?_
      refine g_iload_n d_Tx_hasRoomFor_30 rfl ?_
      refine g_iadd d_Tx_hasRoomFor_31 ?_
      refine g_eqi (nI_add _ _) ?_
      refine g_sipush (v := nI 240) d_Tx_hasRoomFor_32 (by decide) ?_
      refine g_icmpN_gt (tgt := 42) d_Tx_hasRoomFor_35 (by decide) (by omega) (by omega) (fun hb_35 => ?_) (fun hb_35 => ?_)
      · refine g_iconst (v := nI 0) d_Tx_hasRoomFor_42 (by decide) ?_
        refine g_Fa (b := decide (m + cnS u 4 ≤ 240)) (by simp; omega) ?_
        exact g_ireturn rfl (by first | rfl | exact bI_nar _) (by omega) (by omega) d_Tx_hasRoomFor_43 ⟨rfl, rfl, rfl⟩
      · refine g_iconst (v := nI 1) d_Tx_hasRoomFor_38 (by decide) ?_
        refine g_goto (tgt := 43) d_Tx_hasRoomFor_39 (by decide) ?_
        refine g_Tr (b := decide (m + cnS u 4 ≤ 240)) (by simp; omega) ?_
        exact g_ireturn rfl (by first | rfl | exact bI_nar _) (by omega) (by omega) d_Tx_hasRoomFor_43 ⟨rfl, rfl, rfl⟩
    · omega
  · intro i hi ih
    have hs := sgn_lt u i
    refine g_iload_n d_Tx_hasRoomFor_4 rfl ?_
    refine g_iconst (v := nI 4) d_Tx_hasRoomFor_5 (by decide) ?_
    refine g_icmpN_ge (tgt := 26) d_Tx_hasRoomFor_6 (by decide) (by omega) (by omega) (fun hb_6 => ?_) (fun hb_6 => ?_)
    · omega
    refine g_iload_n d_Tx_hasRoomFor_9 rfl ?_
    refine g_iload_n d_Tx_hasRoomFor_10 rfl ?_
    refine g_callS s_Tx_20 sv_Tx_signOf (g_of_val (k_Tx_signOf u i hu hi)) (by omega) rfl (by omega) (by omega) rfl (Nat.le_of_ble_eq_true rfl) d_Tx_hasRoomFor_11 ?_
    rintro _ _ _ ⟨rfl, rfl, rfl⟩
    first | refine g_ifB_eq (tgt := 20) d_Tx_hasRoomFor_14 (by decide) (fun hb_14 => ?_) (fun hb_14 => ?_) | refine g_ifN_eq (tgt := 20) d_Tx_hasRoomFor_14 (by decide) (by omega) (fun hb_14 => ?_) (fun hb_14 => ?_)
    · refine g_eqL (L' := [some (.ref t), some (.int (nI u)), some (.int (nI (cnS u (i + 1)))), some (.int (nI i))]) (by simp [cnS, sm, hb_14]) ?_
      refine g_iinc1 d_Tx_hasRoomFor_20 rfl (by decide) ?_
      refine g_goto (tgt := 4) d_Tx_hasRoomFor_23 (by decide) ?_
      exact ih
    · refine g_iinc1 d_Tx_hasRoomFor_17 rfl (by decide) ?_
      refine g_eqL (L' := [some (.ref t), some (.int (nI u)), some (.int (nI (cnS u (i + 1)))), some (.int (nI i))]) (by simp only [cnS, sm, hb_14, if_false]; rfl) ?_
      refine g_iinc1 d_Tx_hasRoomFor_20 rfl (by decide) ?_
      refine g_goto (tgt := 4) d_Tx_hasRoomFor_23 (by decide) ?_
      exact ih
theorem k_Tx_append (h : o_text E M t m ts) (u : Nat) (hu : u < 2 ^ 32) (ho : okS u = true) (hr : m + cnS u 4 ≤ 240) : Ctr l E y_Tx_append 1 [.ref t, .int (nI u)] N M 0 0 (g_ret (fun v N' M' => v = none ∧ N' = N ∧ o_text E M' t (m + cnS u 4) (apT m ts u 4) ∧ ∀ x, x ≠ t → x ≠ t + 1 → M' x = M x)) := by
  refine ctr_of [some (.ref t), some (.int (nI u)), none, none] (by decide) w_422 rfl rfl (Nat.le_of_ble_eq_true rfl) (fun Γ => ?_)
  refine g_iconst (v := nI 0) d_Tx_append_0 (by decide) ?_
  refine g_istore_n d_Tx_append_1 (by decide) ?_
  refine g_for (P := fun i => ∀ (w : Option Value) (M1 : gM), o_text E M1 t (m + cnS u i) (apT m ts u i) → (∀ x, x ≠ t → x ≠ t + 1 → M1 x = M x) → G _ _ _ _ _ _ _ _ _ _ _ _ 2 [some (.ref t), some (.int (nI u)), some (.int (nI i)), w] [] N M1 0 0) (e := 4) ?_ ?_ 0 (by decide) none M h (fun _ _ _ => rfl)
  · intro w M1 hT hfr
    refine g_iload_n d_Tx_append_2 rfl ?_
    refine g_iconst (v := nI 4) d_Tx_append_3 (by decide) ?_
    refine g_icmpN_ge (tgt := 54) d_Tx_append_4 (by decide) (by omega) (by omega) (fun hb_4 => ?_) (fun hb_4 => ?_)
    · exact g_return rfl (by omega) (by omega) d_Tx_append_54 ⟨_, rfl, rfl, rfl, hT, hfr⟩
    · omega
  · intro i hi ih w M1 hT hfr
    have hs := sgn_lt u i
    obtain ⟨h1, h2, h3, fc, h4, h5⟩ := id hT
    refine g_iload_n d_Tx_append_2 rfl ?_
    refine g_iconst (v := nI 4) d_Tx_append_3 (by decide) ?_
    refine g_icmpN_ge (tgt := 54) d_Tx_append_4 (by decide) (by omega) (by omega) (fun hb_4 => ?_) (fun hb_4 => ?_)
    · omega
    refine g_iload_n d_Tx_append_7 rfl ?_
    refine g_iload_n d_Tx_append_8 rfl ?_
    refine g_callS s_Tx_20 sv_Tx_signOf (g_of_val (k_Tx_signOf u i hu hi)) (by omega) rfl (by omega) (by omega) rfl (Nat.le_of_ble_eq_true rfl) d_Tx_append_9 ?_
    rintro _ _ _ ⟨rfl, rfl, rfl⟩
    refine g_istore_n d_Tx_append_12 (by decide) ?_
    refine g_iload_n d_Tx_append_13 rfl ?_
    first | refine g_ifB_eq (tgt := 48) d_Tx_append_14 (by decide) (fun hb_14 => ?_) (fun hb_14 => ?_) | refine g_ifN_eq (tgt := 48) d_Tx_append_14 (by decide) (by omega) (fun hb_14 => ?_) (fun hb_14 => ?_)
    · refine g_iinc1 d_Tx_append_48 rfl (by decide) ?_
      refine g_goto (tgt := 2) d_Tx_append_51 (by decide) ?_
      refine ih _ M1 ?_ hfr
      have e1 : cnS u (i + 1) = cnS u i := by simp [cnS, sm, hb_14]
      have e2 : apT m ts u (i + 1) = apT m ts u i := by simp [apT, hb_14]
      rw [e1, e2]
      exact hT
    · have e1 : cnS u (i + 1) = cnS u i + 1 := by simp [cnS, sm, hb_14]
      have e2 : apT m ts u (i + 1) = va_up (apT m ts u i) (m + cnS u i) (sgn u i) := by simp [apT, hb_14]
      have e3 := cnS_mono u (show i + 1 ≤ 4 by omega)
      refine g_aload_n d_Tx_append_17 rfl ?_
      refine g_get f_Tx_15 (by assumption) rfl d_Tx_append_18 ?_
      refine g_sipush (v := nI 240) d_Tx_append_21 (by decide) ?_
      refine g_icmpN_ge (tgt := 48) d_Tx_append_24 (by decide) (by omega) (by omega) (fun hb_24 => ?_) (fun hb_24 => ?_)
      · omega
      refine g_aload_n d_Tx_append_27 rfl ?_
      refine g_get f_Tx_9 (by assumption) rfl d_Tx_append_28 ?_
      refine g_aload_n d_Tx_append_31 rfl ?_
      refine g_get f_Tx_15 (by assumption) rfl d_Tx_append_32 ?_
      refine g_iload_n d_Tx_append_35 rfl ?_
      refine g_i2c d_Tx_append_36 (c_of (by omega)) ?_
      refine g_cast _ (by assumption) rfl (by omega) (by decide) (nar_c (by omega)) d_Tx_append_37 ?_
      refine g_nm (fun M2 a2 f2 => ?_)
      have h1' := (f2 t (by omega)).trans h1
      refine g_aload_n d_Tx_append_38 rfl ?_
      refine g_dup d_Tx_append_39 rfl ?_
      refine g_get f_Tx_15 (by assumption) rfl d_Tx_append_40 ?_
      refine g_iconst (v := nI 1) d_Tx_append_43 (by decide) ?_
      refine g_iadd d_Tx_append_44 ?_
      refine g_eqi (nI_add _ _) ?_
      refine g_put p_Tx_15 (by assumption) (Nat.le_of_ble_eq_true rfl) rfl rfl d_Tx_append_45 ?_
      refine g_nm (fun M3 a3 f3 => ?_)
      refine g_iinc1 d_Tx_append_48 rfl (by decide) ?_
      refine g_goto (tgt := 2) d_Tx_append_51 (by decide) ?_
      refine ih _ M3 ?_ (fun x x1 x2 => (f3 x x1).trans ((f2 x x2).trans (hfr x x1 x2)))
      rw [e1, e2]
      refine ⟨a3, by omega, fun j hj => ?_, _, (f3 _ (by omega)).trans a2, fun j hj => ?_⟩
      · by_cases e : j = m + cnS u i
        · rw [e, va_up_self]
          exact ⟨by omega, (okS_iff u).mp ho i hi⟩
        · rw [va_up_ne _ _ e]
          exact h3 j (by omega)
      · by_cases e : j = m + cnS u i
        · rw [e, va_up_self, pk_us]
        · rw [va_up_ne _ _ e, pk_un e]
          exact h5 j (by omega)
theorem k_Tx_clear (h : o_text E M t m ts) : Ctr l E y_Tx_clear 0 [.ref t] N M 0 0 (g_ret (fun v N' M' => v = none ∧ N' = N ∧ o_text E M' t 0 ts ∧ ∀ x, x ≠ t → M' x = M x)) := by
  obtain ⟨h1, h2, h3, fc, h4, h5⟩ := h
  refine ctr_of [some (.ref t)] (by decide) w_618 rfl rfl (Nat.le_of_ble_eq_true rfl) (fun Γ => ?_)
  refine g_aload_n d_Tx_clear_0 rfl ?_
  refine g_iconst (v := nI 0) d_Tx_clear_1 (by decide) ?_
  refine g_put p_Tx_15 (by assumption) (Nat.le_of_ble_eq_true rfl) rfl rfl d_Tx_clear_2 ?_
  refine g_nm (fun M1 e1 f1 => ?_)
  exact g_return rfl (by omega) (by omega) d_Tx_clear_5 ⟨_, rfl, rfl, rfl, ⟨e1, by omega, fun j hj => by omega, fc, (f1 _ (by omega)).trans h4, fun j hj => by omega⟩, f1⟩
theorem k_Tx_init (h : M t = some (.inr (1, [.null, .int 0]))) (ht : t + 1 = N) : Ctr l E y_Tx_init 1 [.ref t] N M 1 240 (g_ret (fun v N' M' => v = none ∧ N' = N + 1 ∧ o_text E M' t 0 (fun _ => 0) ∧ ∀ x, x ≠ t → x ≠ t + 1 → M' x = M x)) := by
  refine ctr_of [some (.ref t)] (by decide) w_38 rfl rfl (Nat.le_of_ble_eq_true rfl) (fun Γ => ?_)
  refine g_aload_n d_Tx_init_0 rfl ?_
  refine g_objInit w_39 m_objI m_objC (by omega) (Nat.le_of_ble_eq_true rfl) d_Tx_init_1 ?_
  refine g_aload_n d_Tx_init_4 rfl ?_
  refine g_sipush (v := nI 240) d_Tx_init_5 (by decide) ?_
  refine g_newc _ w_47 rfl (by decide) (by omega) (by omega) d_Tx_init_8 ?_
  refine g_nm (fun M1 e1 f1 => ?_)
  have a1 := (f1 t (by omega)).trans h
  refine g_putF p_Tx_9 rfl (by assumption) (Nat.le_of_ble_eq_true rfl) rfl rfl d_Tx_init_10 ?_
  refine g_nm (fun M2 e2 f2 => ?_)
  refine g_aload_n d_Tx_init_13 rfl ?_
  refine g_iconst (v := nI 0) d_Tx_init_14 (by decide) ?_
  refine g_put p_Tx_15 (by assumption) (Nat.le_of_ble_eq_true rfl) rfl rfl d_Tx_init_15 ?_
  refine g_nm (fun M3 e3 f3 => ?_)
  refine g_return rfl (by omega) (by omega) d_Tx_init_18 ⟨_, rfl, rfl, rfl, ⟨?_, by omega, fun j hj => by omega, (fun _ => 0), ?_, fun j hj => by omega⟩, fun x x1 x2 => ?_⟩
  · rw [e3, ← ht]; rfl
  · rw [f3 _ (by omega), f2 _ (by omega), ht]; exact e1
  · rw [f3 x x1, f2 x x1, f1 x (by omega)]
theorem k_Tx_kindAt (h : o_text E M t m ts) (j : Nat) (hj : j < 2 ^ 31) : Ctr l E y_Tx_kindAt 0 [.ref t, .int (nI j)] N M 0 0 (g_val (some (.int (nI (kd m ts j)))) N M) := by
  obtain ⟨h1, h2, h3, fc, h4, h5⟩ := h
  refine ctr_of [some (.ref t), some (.int (nI j)), none] (by decide) w_474 rfl rfl (Nat.le_of_ble_eq_true rfl) (fun Γ => ?_)
  refine g_iload_n d_Tx_kindAt_0 rfl ?_
  refine g_aload_n d_Tx_kindAt_1 rfl ?_
  refine g_get f_Tx_15 (by assumption) rfl d_Tx_kindAt_2 ?_
  refine g_icmpN_lt (tgt := 10) d_Tx_kindAt_5 (by decide) (by omega) (by omega) (fun hb_5 => ?_) (fun hb_5 => ?_)
  · have h6 := h3 j hb_5
    have e0 : kd m ts j = kc (ts j) := if_pos hb_5
    refine g_aload_n d_Tx_kindAt_10 rfl ?_
    refine g_get f_Tx_9 (by assumption) rfl d_Tx_kindAt_11 ?_
    refine g_iload_n d_Tx_kindAt_14 rfl ?_
    refine g_cald _ (by assumption) rfl (by omega) (by decide) d_Tx_kindAt_15 ?_
    refine g_eqi (h5 j hb_5) ?_
    refine g_istore_n d_Tx_kindAt_16 (by decide) ?_
    refine g_iload_n d_Tx_kindAt_17 rfl ?_
    refine g_bipush (v := nI 32) d_Tx_kindAt_18 (by decide) ?_
    refine g_icmpN_eq (tgt := 29) d_Tx_kindAt_20 (by decide) (by omega) (by omega) (fun hb_20 => ?_) (fun hb_20 => ?_)
    · refine g_iconst (v := nI 1) d_Tx_kindAt_29 (by decide) ?_
      rw [e0, show kc (ts j) = 1 by unfold kc; rw [if_pos (by omega)]]
      exact g_ireturn rfl (by first | rfl | exact bI_nar _) (by omega) (by omega) d_Tx_kindAt_30 ⟨rfl, rfl, rfl⟩
    refine g_iload_n d_Tx_kindAt_23 rfl ?_
    refine g_bipush (v := nI 10) d_Tx_kindAt_24 (by decide) ?_
    refine g_icmpN_ne (tgt := 31) d_Tx_kindAt_26 (by decide) (by omega) (by omega) (fun hb_26 => ?_) (fun hb_26 => ?_)
    · refine g_iload_n d_Tx_kindAt_31 rfl ?_
      refine g_bipush (v := nI 97) d_Tx_kindAt_32 (by decide) ?_
      refine g_icmpN_lt (tgt := 45) d_Tx_kindAt_34 (by decide) (by omega) (by omega) (fun hb_34 => ?_) (fun hb_34 => ?_)
      · refine g_iload_n d_Tx_kindAt_45 rfl ?_
        refine g_bipush (v := nI 48) d_Tx_kindAt_46 (by decide) ?_
        refine g_icmpN_lt (tgt := 61) d_Tx_kindAt_48 (by decide) (by omega) (by omega) (fun hb_48 => ?_) (fun hb_48 => ?_)
        · refine g_iconst (v := nI 4) d_Tx_kindAt_61 (by decide) ?_
          rw [e0, show kc (ts j) = 4 by unfold kc; rw [if_neg (by omega), if_neg (by omega), if_neg (by omega)]]
          exact g_ireturn rfl (by first | rfl | exact bI_nar _) (by omega) (by omega) d_Tx_kindAt_62 ⟨rfl, rfl, rfl⟩
        refine g_iload_n d_Tx_kindAt_51 rfl ?_
        refine g_bipush (v := nI 57) d_Tx_kindAt_52 (by decide) ?_
        refine g_icmpN_gt (tgt := 61) d_Tx_kindAt_54 (by decide) (by omega) (by omega) (fun hb_54 => ?_) (fun hb_54 => ?_)
        · refine g_iconst (v := nI 4) d_Tx_kindAt_61 (by decide) ?_
          rw [e0, show kc (ts j) = 4 by unfold kc; rw [if_neg (by omega), if_neg (by omega), if_neg (by omega)]]
          exact g_ireturn rfl (by first | rfl | exact bI_nar _) (by omega) (by omega) d_Tx_kindAt_62 ⟨rfl, rfl, rfl⟩
        · refine g_iconst (v := nI 3) d_Tx_kindAt_57 (by decide) ?_
          refine g_goto (tgt := 62) d_Tx_kindAt_58 (by decide) ?_
          rw [e0, show kc (ts j) = 3 by unfold kc; rw [if_neg (by omega), if_neg (by omega), if_pos (by omega)]]
          exact g_ireturn rfl (by first | rfl | exact bI_nar _) (by omega) (by omega) d_Tx_kindAt_62 ⟨rfl, rfl, rfl⟩
      refine g_iload_n d_Tx_kindAt_37 rfl ?_
      refine g_bipush (v := nI 122) d_Tx_kindAt_38 (by decide) ?_
      refine g_icmpN_gt (tgt := 45) d_Tx_kindAt_40 (by decide) (by omega) (by omega) (fun hb_40 => ?_) (fun hb_40 => ?_)
      · refine g_iload_n d_Tx_kindAt_45 rfl ?_
        refine g_bipush (v := nI 48) d_Tx_kindAt_46 (by decide) ?_
        refine g_icmpN_lt (tgt := 61) d_Tx_kindAt_48 (by decide) (by omega) (by omega) (fun hb_48 => ?_) (fun hb_48 => ?_)
        · omega
        refine g_iload_n d_Tx_kindAt_51 rfl ?_
        refine g_bipush (v := nI 57) d_Tx_kindAt_52 (by decide) ?_
        refine g_icmpN_gt (tgt := 61) d_Tx_kindAt_54 (by decide) (by omega) (by omega) (fun hb_54 => ?_) (fun hb_54 => ?_)
        · refine g_iconst (v := nI 4) d_Tx_kindAt_61 (by decide) ?_
          rw [e0, show kc (ts j) = 4 by unfold kc; rw [if_neg (by omega), if_neg (by omega), if_neg (by omega)]]
          exact g_ireturn rfl (by first | rfl | exact bI_nar _) (by omega) (by omega) d_Tx_kindAt_62 ⟨rfl, rfl, rfl⟩
        · omega
      · refine g_iconst (v := nI 2) d_Tx_kindAt_43 (by decide) ?_
        rw [e0, show kc (ts j) = 2 by unfold kc; rw [if_neg (by omega), if_pos (by omega)]]
        exact g_ireturn rfl (by first | rfl | exact bI_nar _) (by omega) (by omega) d_Tx_kindAt_44 ⟨rfl, rfl, rfl⟩
    · refine g_iconst (v := nI 1) d_Tx_kindAt_29 (by decide) ?_
      rw [e0, show kc (ts j) = 1 by unfold kc; rw [if_pos (by omega)]]
      exact g_ireturn rfl (by first | rfl | exact bI_nar _) (by omega) (by omega) d_Tx_kindAt_30 ⟨rfl, rfl, rfl⟩
  · have e0 : kd m ts j = 0 := if_neg (by omega)
    refine g_iconst (v := nI 0) d_Tx_kindAt_8 (by decide) ?_
    rw [e0]
    exact g_ireturn rfl (by first | rfl | exact bI_nar _) (by omega) (by omega) d_Tx_kindAt_9 ⟨rfl, rfl, rfl⟩
theorem k_Tx_behind (h : o_text E M t m ts) (p x : Nat) (hp : p ≤ m) (hx : x < 5) : Ctr l E y_Tx_behind 1 [.ref t, .int (nI p), .int (nI x)] N M 0 0 (g_val (some (.int (nI (bh m ts p x)))) N M) := by
  have h0 := h
  obtain ⟨h1, h2, h3, fc, h4, h5⟩ := h
  refine ctr_of [some (.ref t), some (.int (nI p)), some (.int (nI x)), none] (by decide) w_470 rfl rfl (Nat.le_of_ble_eq_true rfl) (fun Γ => ?_)
  refine g_iload_n d_Tx_behind_0 rfl ?_
  refine g_istore_n d_Tx_behind_1 (by decide) ?_
  refine g_for (P := fun i => p ≤ i → (∀ j, p + j < i → kd m ts (p + j) = x) → G _ _ _ _ _ _ _ _ _ _ _ _ 2 [some (.ref t), some (.int (nI p)), some (.int (nI x)), some (.int (nI i))] [] N M 0 0) (e := m) ?_ ?_ p hp (Nat.le_refl _) (fun j hj => by omega)
  · intro _ hn
    have e0 : bh m ts p x = m := by
      unfold bh
      rw [fi_none (fun j hj => by simp [hn j (by omega)])]
      omega
    refine g_iload_n d_Tx_behind_2 rfl ?_
    refine g_aload_n d_Tx_behind_3 rfl ?_
    refine g_get f_Tx_15 (by assumption) rfl d_Tx_behind_4 ?_
    refine g_icmpN_ge (tgt := 27) d_Tx_behind_7 (by decide) (by omega) (by omega) (fun hb_7 => ?_) (fun hb_7 => ?_)
    · rw [e0]
      refine g_aload_n d_Tx_behind_27 rfl ?_
      refine g_get f_Tx_15 (by assumption) rfl d_Tx_behind_28 ?_
      exact g_ireturn rfl (by first | rfl | exact bI_nar _) (by omega) (by omega) d_Tx_behind_31 ⟨rfl, rfl, rfl⟩
    · omega
  · intro i hi ih hpi hn
    have hk := kd_le m ts i
    refine g_iload_n d_Tx_behind_2 rfl ?_
    refine g_aload_n d_Tx_behind_3 rfl ?_
    refine g_get f_Tx_15 (by assumption) rfl d_Tx_behind_4 ?_
    refine g_icmpN_ge (tgt := 27) d_Tx_behind_7 (by decide) (by omega) (by omega) (fun hb_7 => ?_) (fun hb_7 => ?_)
    · omega
    refine g_aload_n d_Tx_behind_10 rfl ?_
    refine g_iload_n d_Tx_behind_11 rfl ?_
    refine g_callV s_Tx_24 sv_Tx_kindAt (by assumption) rfl (g_of_val (k_Tx_kindAt h0 i (by omega))) (by omega) rfl (by omega) (by omega) rfl (Nat.le_of_ble_eq_true rfl) d_Tx_behind_12 ?_
    rintro _ _ _ ⟨rfl, rfl, rfl⟩
    refine g_iload_n d_Tx_behind_15 rfl ?_
    refine g_icmpN_eq (tgt := 21) d_Tx_behind_16 (by decide) (by omega) (by omega) (fun hb_16 => ?_) (fun hb_16 => ?_)
    · refine g_iinc1 d_Tx_behind_21 rfl (by decide) ?_
      refine g_goto (tgt := 2) d_Tx_behind_24 (by decide) ?_
      refine ih (by omega) (fun j hj => ?_)
      by_cases e : p + j = i
      · rw [e]; exact hb_16
      · exact hn j (by omega)
    · have e0 : bh m ts p x = i := by
        unfold bh
        rw [fi_at (i := i - p) (by omega) (by simp [show p + (i - p) = i by omega, hb_16]) (fun j hj => by simp [hn j (by omega)])]
        omega
      refine g_iload_n d_Tx_behind_19 rfl ?_
      rw [e0]
      exact g_ireturn rfl (by first | rfl | exact bI_nar _) (by omega) (by omega) d_Tx_behind_20 ⟨rfl, rfl, rfl⟩
end TEXT

