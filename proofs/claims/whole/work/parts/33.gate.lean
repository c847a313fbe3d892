/-! the gate -/
theorem jn_val {a b c d : Nat} (ha : a ≤ 255) (hb : b ≤ 255) (hc : c ≤ 1023) (hd : d ≤ 3) : ((a * 2 ^ 20 ||| b * 2 ^ 12) ||| c * 2 ^ 2) ||| d * 2 ^ 0 = pkt a b c d := by
  have h1 : a * 2 ^ 20 ||| b * 2 ^ 12 = a * 2 ^ 20 + b * 2 ^ 12 := by
    have := Nat.two_pow_add_eq_or_of_lt (i := 20) (b := b * 2 ^ 12) (by omega) a
    rw [Nat.mul_comm] at this
    exact this.symm
  have h2 : (a * 2 ^ 20 + b * 2 ^ 12) ||| c * 2 ^ 2 = a * 2 ^ 20 + b * 2 ^ 12 + c * 2 ^ 2 := by
    have := Nat.two_pow_add_eq_or_of_lt (i := 12) (b := c * 2 ^ 2) (by omega) (a * 2 ^ 8 + b)
    rw [show 2 ^ 12 * (a * 2 ^ 8 + b) = a * 2 ^ 20 + b * 2 ^ 12 by omega] at this
    exact this.symm
  have h3 : (a * 2 ^ 20 + b * 2 ^ 12 + c * 2 ^ 2) ||| d * 2 ^ 0 = a * 2 ^ 20 + b * 2 ^ 12 + c * 2 ^ 2 + d := by
    have := Nat.two_pow_add_eq_or_of_lt (i := 2) (b := d * 2 ^ 0) (by omega) (a * 2 ^ 18 + b * 2 ^ 10 + c)
    rw [show 2 ^ 2 * (a * 2 ^ 18 + b * 2 ^ 10 + c) = a * 2 ^ 20 + b * 2 ^ 12 + c * 2 ^ 2 by omega] at this
    rw [← this, Nat.pow_zero, Nat.mul_one]
  rw [h1, h2, h3]
  unfold pkt
  omega
/-- the packet that a packet answers -/
def ans (p : Nat) : Nat := pkt (pv p 1) (pv p 0) (pv p 2) (pv p 3)
theorem ans_lt (p : Nat) : ans p < 268435456 := pkt_lt (pv_le p 1 (by decide)) (pv_le p 0 (by decide)) (pv_le p 2 (by decide)) (pv_le p 3 (by decide))
def o_gate (E : gE) (M : gM) (g n : Nat) (cs : Nat → Nat) : Prop := M g = some (.inr (9, [.ref (g + 1), .int (nI n)])) ∧ n ≤ 4 ∧ (∀ j, j < n → cs j < 268435456) ∧ ∃ fc, M (g + 1) = some (g_ia E 4 fc) ∧ ∀ j, j < n → fc j = nI (cs j)
theorem o_gate.kept {E : gE} {M M' : gM} {g n : Nat} {cs : Nat → Nat} (h : o_gate E M g n cs) (hk : ∀ x, g ≤ x → x ≤ g + 1 → M' x = M x) : o_gate E M' g n cs := by
  obtain ⟨h1, h2, h3, fc, h4, h5⟩ := h
  exact ⟨(hk _ (by omega) (by omega)).trans h1, h2, h3, fc, (hk _ (by omega) (by omega)).trans h4, h5⟩
section GATE
variable {l : Launch} {E : gE} {N : Nat} {M : gM} {g m : Nat} {cs : Nat → Nat}
theorem k_RD_joined (a b c e : Nat) (ha : a ≤ 255) (hb : b ≤ 255) (hc : c ≤ 1023) (he : e ≤ 3) : Ctr l E y_RD_joined 0 [.int (nI a), .int (nI b), .int (nI c), .int (nI e)] N M 0 0 (g_val (some (.int (nI (pkt a b c e)))) N M) := by
  refine ctr_of [some (.int (nI a)), some (.int (nI b)), some (.int (nI c)), some (.int (nI e))] (by decide) w_705 rfl rfl (Nat.le_of_ble_eq_true rfl) (fun Γ => ?_)
  refine g_iload_n d_RD_joined_0 rfl ?_
  refine g_gets z_SHIFTS w_706 d_RD_joined_1 ?_
  refine g_iconst (v := nI 0) d_RD_joined_4 (by decide) ?_
  refine g_tald 0 q_SHIFTS rfl (by decide) (by decide) d_RD_joined_5 ?_
  refine g_ishl d_RD_joined_6 ?_
  refine g_eqi (z := nI (a * 2 ^ 20)) (nI_shl (i := 20) (by decide) (by omega)) ?_
  refine g_iload_n d_RD_joined_7 rfl ?_
  refine g_gets z_SHIFTS w_706 d_RD_joined_8 ?_
  refine g_iconst (v := nI 1) d_RD_joined_11 (by decide) ?_
  refine g_tald 1 q_SHIFTS rfl (by decide) (by decide) d_RD_joined_12 ?_
  refine g_ishl d_RD_joined_13 ?_
  refine g_eqi (z := nI (b * 2 ^ 12)) (nI_shl (i := 12) (by decide) (by omega)) ?_
  refine g_ior d_RD_joined_14 ?_
  refine g_eqi (nI_or _ _) ?_
  refine g_iload_n d_RD_joined_15 rfl ?_
  refine g_gets z_SHIFTS w_706 d_RD_joined_16 ?_
  refine g_iconst (v := nI 2) d_RD_joined_19 (by decide) ?_
  refine g_tald 2 q_SHIFTS rfl (by decide) (by decide) d_RD_joined_20 ?_
  refine g_ishl d_RD_joined_21 ?_
  refine g_eqi (z := nI (c * 2 ^ 2)) (nI_shl (i := 2) (by decide) (by omega)) ?_
  refine g_ior d_RD_joined_22 ?_
  refine g_eqi (nI_or _ _) ?_
  refine g_iload_n d_RD_joined_23 rfl ?_
  refine g_gets z_SHIFTS w_706 d_RD_joined_24 ?_
  refine g_iconst (v := nI 3) d_RD_joined_27 (by decide) ?_
  refine g_tald 3 q_SHIFTS rfl (by decide) (by decide) d_RD_joined_28 ?_
  refine g_ishl d_RD_joined_29 ?_
  refine g_eqi (z := nI (e * 2 ^ 0)) (nI_shl (i := 0) (by decide) (by omega)) ?_
  refine g_ior d_RD_joined_30 ?_
  refine g_eqi (nI_or _ _) ?_
  rw [jn_val ha hb hc he]
  exact g_ireturn rfl (by first | rfl | exact bI_nar _) (by omega) (by omega) d_RD_joined_31 ⟨rfl, rfl, rfl⟩
theorem k_Ga_at (h : o_gate E M g m cs) (j : Nat) (hj : j < m) : Ctr l E y_Ga_at 0 [.ref g, .int (nI j)] N M 0 0 (g_val (some (.int (nI (cs j)))) N M) := by
  obtain ⟨h1, h2, h3, fc, h4, h5⟩ := h
  refine ctr_of [some (.ref g), some (.int (nI j))] (by decide) w_899 rfl rfl (Nat.le_of_ble_eq_true rfl) (fun Γ => ?_)
  refine g_aload_n d_Ga_at_0 rfl ?_
  refine g_get f_Ga_9 (by assumption) rfl d_Ga_at_1 ?_
  refine g_iload_n d_Ga_at_4 rfl ?_
  refine g_iald _ (by assumption) rfl (by omega) (by decide) d_Ga_at_5 ?_
  refine g_eqi (h5 j hj) ?_
  exact g_ireturn rfl (by first | rfl | exact bI_nar _) (by omega) (by omega) d_Ga_at_6 ⟨rfl, rfl, rfl⟩
theorem k_Ga_hasN (h : o_gate E M g m cs) (i : Nat) (hi : i < 2 ^ 31) : Ctr l E y_Ga_has 0 [.ref g, .int (nI i)] N M 0 0 (g_val (some (.int (bI (decide (i < m))))) N M) := by
  obtain ⟨h1, h2, -⟩ := h
  refine ctr_of [some (.ref g), some (.int (nI i))] (by decide) w_895 rfl rfl (Nat.le_of_ble_eq_true rfl) (fun Γ => ?_)
  refine g_iload_n d_Ga_has_0 rfl ?_
  refine g_ifN_lt (tgt := 16) d_Ga_has_1 (by decide) (by omega) (fun hb_1 => ?_) (fun hb_1 => ?_)
  · contradiction
  refine g_iload_n d_Ga_has_4 rfl ?_
  refine g_aload_n d_Ga_has_5 rfl ?_
  refine g_get f_Ga_15 (by assumption) rfl d_Ga_has_6 ?_
  refine g_icmpN_ge (tgt := 16) d_Ga_has_9 (by decide) (by omega) (by omega) (fun hb_9 => ?_) (fun hb_9 => ?_)
  · refine g_iconst (v := nI 0) d_Ga_has_16 (by decide) ?_
    refine g_Fa (b := decide (i < m)) (by simp; omega) ?_
    exact g_ireturn rfl (by first | rfl | exact bI_nar _) (by omega) (by omega) d_Ga_has_17 ⟨rfl, rfl, rfl⟩
  · refine g_iconst (v := nI 1) d_Ga_has_12 (by decide) ?_
    refine g_goto (tgt := 17) d_Ga_has_13 (by decide) ?_
    refine g_Tr (b := decide (i < m)) (by simp; omega) ?_
    exact g_ireturn rfl (by first | rfl | exact bI_nar _) (by omega) (by omega) d_Ga_has_17 ⟨rfl, rfl, rfl⟩
theorem k_Ga_hasM (h : o_gate E M g m cs) (x : Int32) (hx : x < 0) : Ctr l E y_Ga_has 0 [.ref g, .int x] N M 0 0 (g_val (some (.int (bI false))) N M) := by
  obtain ⟨h1, h2, -⟩ := h
  refine ctr_of [some (.ref g), some (.int x)] (by decide) w_895 rfl rfl (Nat.le_of_ble_eq_true rfl) (fun Γ => ?_)
  refine g_iload_n d_Ga_has_0 rfl ?_
  refine g_if_lt (tgt := 16) d_Ga_has_1 (by decide) (fun hb => ?_) (fun hb => absurd hx hb)
  refine g_iconst (v := nI 0) d_Ga_has_16 (by decide) ?_
  refine g_Fa (b := false) rfl ?_
  exact g_ireturn rfl (by first | rfl | exact bI_nar _) (by omega) (by omega) d_Ga_has_17 ⟨rfl, rfl, rfl⟩
/-- connection k is p, or p answers it -/
def isc (cs : Nat → Nat) (p k : Nat) : Bool := decide (cs k = p) || decide (cs k = ans p)
theorem k_Ga_connectionOf (h : o_gate E M g m cs) (p : Nat) (hp : p < 268435456) : Ctr l E y_Ga_connectionOf 2 [.ref g, .int (nI p)] N M 0 0 (g_val (some (.int (fI (fi (isc cs p) m) m))) N M) := by
  obtain ⟨h1, h2, h3, fc, h4, h5⟩ := h
  refine ctr_of [some (.ref g), some (.int (nI p)), none, none] (by decide) w_869 rfl rfl (Nat.le_of_ble_eq_true rfl) (fun Γ => ?_)
  refine g_iload_n d_Ga_connectionOf_0 rfl ?_
  refine g_iconst (v := nI 1) d_Ga_connectionOf_1 (by decide) ?_
  refine g_callSN sn_Ga_19 sv_RD_valueOf (g_of_val (k_RD_valueOf p 1 hp (by decide))) (by omega) rfl (by omega) (by omega) rfl (Nat.le_of_ble_eq_true rfl) d_Ga_connectionOf_2 ?_
  rintro _ _ _ ⟨rfl, rfl, rfl⟩
  refine g_iload_n d_Ga_connectionOf_5 rfl ?_
  refine g_iconst (v := nI 0) d_Ga_connectionOf_6 (by decide) ?_
  refine g_callSN sn_Ga_19 sv_RD_valueOf (g_of_val (k_RD_valueOf p 0 hp (by decide))) (by omega) rfl (by omega) (by omega) rfl (Nat.le_of_ble_eq_true rfl) d_Ga_connectionOf_7 ?_
  rintro _ _ _ ⟨rfl, rfl, rfl⟩
  refine g_iload_n d_Ga_connectionOf_10 rfl ?_
  refine g_iconst (v := nI 2) d_Ga_connectionOf_11 (by decide) ?_
  refine g_callSN sn_Ga_19 sv_RD_valueOf (g_of_val (k_RD_valueOf p 2 hp (by decide))) (by omega) rfl (by omega) (by omega) rfl (Nat.le_of_ble_eq_true rfl) d_Ga_connectionOf_12 ?_
  rintro _ _ _ ⟨rfl, rfl, rfl⟩
  refine g_iload_n d_Ga_connectionOf_15 rfl ?_
  refine g_iconst (v := nI 3) d_Ga_connectionOf_16 (by decide) ?_
  refine g_callSN sn_Ga_19 sv_RD_valueOf (g_of_val (k_RD_valueOf p 3 hp (by decide))) (by omega) rfl (by omega) (by omega) rfl (Nat.le_of_ble_eq_true rfl) d_Ga_connectionOf_17 ?_
  rintro _ _ _ ⟨rfl, rfl, rfl⟩
  refine g_callSN sn_Ga_23 sv_RD_joined (g_of_val (k_RD_joined (pv p 1) (pv p 0) (pv p 2) (pv p 3) (pv_le p 1 (by decide)) (pv_le p 0 (by decide)) (pv_le p 2 (by decide)) (pv_le p 3 (by decide)))) (by omega) rfl (by omega) (by omega) rfl (Nat.le_of_ble_eq_true rfl) d_Ga_connectionOf_20 ?_
  rintro _ _ _ ⟨rfl, rfl, rfl⟩
  refine g_istore_n d_Ga_connectionOf_23 (by decide) ?_
  refine g_iconst (v := nI 0) d_Ga_connectionOf_24 (by decide) ?_
  refine g_istore_n d_Ga_connectionOf_25 (by decide) ?_
  have ha := ans_lt p
  refine g_for (P := fun i => (∀ j, j < i → isc cs p j = false) → G _ _ _ _ _ _ _ _ _ _ _ _ 26 [some (.ref g), some (.int (nI p)), some (.int (nI (ans p))), some (.int (nI i))] [] N M 0 0) (e := m) ?_ ?_ 0 (by omega) (fun j hj => by omega)
  · intro hn
    refine g_iload_n d_Ga_connectionOf_26 rfl ?_
    refine g_aload_n d_Ga_connectionOf_27 rfl ?_
    refine g_get f_Ga_15 (by assumption) rfl d_Ga_connectionOf_28 ?_
    refine g_icmpN_ge (tgt := 62) d_Ga_connectionOf_31 (by decide) (by omega) (by omega) (fun hb_31 => ?_) (fun hb_31 => ?_)
    · refine g_iconst (v := -1) d_Ga_connectionOf_62 (by decide) ?_
      refine g_eqi (z := fI (fi (isc cs p) m) m) (by rw [fi_none hn]; unfold fI; rw [if_neg (by omega)]) ?_
      exact g_ireturn rfl (by first | rfl | exact bI_nar _) (by omega) (by omega) d_Ga_connectionOf_63 ⟨rfl, rfl, rfl⟩
    · omega
  · intro i hi ih hn
    have h6 := h3 i hi
    refine g_iload_n d_Ga_connectionOf_26 rfl ?_
    refine g_aload_n d_Ga_connectionOf_27 rfl ?_
    refine g_get f_Ga_15 (by assumption) rfl d_Ga_connectionOf_28 ?_
    refine g_icmpN_ge (tgt := 62) d_Ga_connectionOf_31 (by decide) (by omega) (by omega) (fun hb_31 => ?_) (fun hb_31 => ?_)
    · omega
    refine g_aload_n d_Ga_connectionOf_34 rfl ?_
    refine g_get f_Ga_9 (by assumption) rfl d_Ga_connectionOf_35 ?_
    refine g_iload_n d_Ga_connectionOf_38 rfl ?_
    refine g_iald _ (by assumption) rfl (by omega) (by decide) d_Ga_connectionOf_39 ?_
    refine g_eqi (h5 i hi) ?_
    refine g_iload_n d_Ga_connectionOf_40 rfl ?_
    refine g_icmpN_eq (tgt := 54) d_Ga_connectionOf_41 (by decide) (by omega) (by omega) (fun hb_41 => ?_) (fun hb_41 => ?_)
    · refine g_iload_n d_Ga_connectionOf_54 rfl ?_
      refine g_eqi (z := fI (fi (isc cs p) m) m) (by rw [fi_at hi (by simp [isc, hb_41]) hn]; unfold fI; rw [if_pos hi]) ?_
      exact g_ireturn rfl (by first | rfl | exact bI_nar _) (by omega) (by omega) d_Ga_connectionOf_55 ⟨rfl, rfl, rfl⟩
    · refine g_aload_n d_Ga_connectionOf_44 rfl ?_
      refine g_get f_Ga_9 (by assumption) rfl d_Ga_connectionOf_45 ?_
      refine g_iload_n d_Ga_connectionOf_48 rfl ?_
      refine g_iald _ (by assumption) rfl (by omega) (by decide) d_Ga_connectionOf_49 ?_
      refine g_eqi (h5 i hi) ?_
      refine g_iload_n d_Ga_connectionOf_50 rfl ?_
      refine g_icmpN_ne (tgt := 56) d_Ga_connectionOf_51 (by decide) (by omega) (by omega) (fun hb_51 => ?_) (fun hb_51 => ?_)
      · refine g_iinc1 d_Ga_connectionOf_56 rfl (by decide) ?_
        refine g_goto (tgt := 26) d_Ga_connectionOf_59 (by decide) ?_
        refine ih (fun j hj => ?_)
        by_cases e : j = i
        · rw [e]; simp [isc, hb_41, hb_51]
        · exact hn j (by omega)
      · refine g_iload_n d_Ga_connectionOf_54 rfl ?_
        refine g_eqi (z := fI (fi (isc cs p) m) m) (by rw [fi_at hi (by simp [isc, hb_51]) hn]; unfold fI; rw [if_pos hi]) ?_
        exact g_ireturn rfl (by first | rfl | exact bI_nar _) (by omega) (by omega) d_Ga_connectionOf_55 ⟨rfl, rfl, rfl⟩
theorem k_Ga_close (h : o_gate E M g m cs) (i : Nat) (hi : i < m) : Ctr l E y_Ga_close 0 [.ref g, .int (nI i)] N M 0 0 (g_ret (fun v N' M' => v = none ∧ N' = N ∧ o_gate E M' g (m - 1) (fun j => if j < i then cs j else cs (j + 1)) ∧ ∀ x, x ≠ g → x ≠ g + 1 → M' x = M x)) := by
  obtain ⟨h1, h2, h3, fc, h4, h5⟩ := h
  refine ctr_of [some (.ref g), some (.int (nI i)), none] (by decide) w_879 rfl rfl (Nat.le_of_ble_eq_true rfl) (fun Γ => ?_)
  refine g_iload_n d_Ga_close_0 rfl ?_
  refine g_istore_n d_Ga_close_1 (by decide) ?_
  refine g_for (P := fun k => i ≤ k → ∀ M1 : gM, (∃ fd, M1 (g + 1) = some (g_ia E 4 fd) ∧ (∀ j, j < k → fd j = nI (if j < i then cs j else cs (j + 1))) ∧ ∀ j, k < j → j < m → fd j = nI (cs j)) → (∀ x, x ≠ g + 1 → M1 x = M x) → G _ _ _ _ _ _ _ _ _ _ _ _ 2 [some (.ref g), some (.int (nI i)), some (.int (nI k))] [] N M1 0 0) (e := m - 1) ?_ ?_ i (by omega) (Nat.le_refl _) M ⟨fc, h4, fun j hj => ?_, fun j _ hj => h5 j hj⟩ (fun x _ => rfl)
  · rintro - M1 ⟨fd, d1, d2, d3⟩ hfr
    have h1' := (hfr g (by omega)).trans h1
    refine g_iload_n d_Ga_close_2 rfl ?_
    refine g_iconst (v := nI 1) d_Ga_close_3 (by decide) ?_
    refine g_iadd d_Ga_close_4 ?_
    refine g_eqi (nI_add _ _) ?_
    refine g_aload_n d_Ga_close_5 rfl ?_
    refine g_get f_Ga_15 (by assumption) rfl d_Ga_close_6 ?_
    refine g_icmpN_ge (tgt := 32) d_Ga_close_9 (by decide) (by omega) (by omega) (fun hb_9 => ?_) (fun hb_9 => ?_)
    · refine g_aload_n d_Ga_close_32 rfl ?_
      refine g_dup d_Ga_close_33 rfl ?_
      refine g_get f_Ga_15 (by assumption) rfl d_Ga_close_34 ?_
      refine g_iconst (v := nI 1) d_Ga_close_37 (by decide) ?_
      refine g_isub d_Ga_close_38 ?_
      refine g_eqi (pk_sub (a := m) (b := 1) (by omega)) ?_
      refine g_put p_Ga_15 (by assumption) (Nat.le_of_ble_eq_true rfl) rfl rfl d_Ga_close_39 ?_
      refine g_nm (fun M2 e2 f2 => ?_)
      refine g_return rfl (by omega) (by omega) d_Ga_close_42 ⟨_, rfl, rfl, rfl, ⟨e2, by omega, fun j hj => ?_, fd, (f2 _ (by omega)).trans d1, fun j hj => d2 j hj⟩, fun x x1 x2 => (f2 x x1).trans (hfr x x2)⟩
      show (if j < i then cs j else cs (j + 1)) < 268435456
      split
      · exact h3 j (by omega)
      · exact h3 _ (by omega)
    · omega
  · rintro k hk ih hik M1 ⟨fd, d1, d2, d3⟩ hfr
    have h1' := (hfr g (by omega)).trans h1
    refine g_iload_n d_Ga_close_2 rfl ?_
    refine g_iconst (v := nI 1) d_Ga_close_3 (by decide) ?_
    refine g_iadd d_Ga_close_4 ?_
    refine g_eqi (nI_add _ _) ?_
    refine g_aload_n d_Ga_close_5 rfl ?_
    refine g_get f_Ga_15 (by assumption) rfl d_Ga_close_6 ?_
    refine g_icmpN_ge (tgt := 32) d_Ga_close_9 (by decide) (by omega) (by omega) (fun hb_9 => ?_) (fun hb_9 => ?_)
    · omega
    refine g_aload_n d_Ga_close_12 rfl ?_
    refine g_get f_Ga_9 (by assumption) rfl d_Ga_close_13 ?_
    refine g_iload_n d_Ga_close_16 rfl ?_
    refine g_aload_n d_Ga_close_17 rfl ?_
    refine g_get f_Ga_9 (by assumption) rfl d_Ga_close_18 ?_
    refine g_iload_n d_Ga_close_21 rfl ?_
    refine g_iconst (v := nI 1) d_Ga_close_22 (by decide) ?_
    refine g_iadd d_Ga_close_23 ?_
    refine g_eqi (nI_add _ _) ?_
    refine g_iald _ (by assumption) rfl (by omega) (by decide) d_Ga_close_24 ?_
    refine g_iast _ (by assumption) rfl (by omega) (by decide) d_Ga_close_25 ?_
    refine g_nm (fun M2 e2 f2 => ?_)
    refine g_iinc1 d_Ga_close_26 rfl (by decide) ?_
    refine g_goto (tgt := 2) d_Ga_close_29 (by decide) ?_
    refine ih (by omega) M2 ⟨_, e2, fun j hj => ?_, fun j a b => ?_⟩ (fun x hx => (f2 x hx).trans (hfr x hx))
    · by_cases e : j = k
      · subst e
        rw [pk_us, d3 (j + 1) (by omega) (by omega), if_neg (by omega)]
      · rw [pk_un e]
        exact d2 j (by omega)
    · rw [pk_un (by omega)]
      exact d3 j (by omega) b
  · rw [if_pos hj]
    exact h5 j (by omega)
/-- behind 'open' -/
def opN (m : Nat) : Nat := if m < 4 then m + 1 else 4
def opC (m : Nat) (cs : Nat → Nat) (p : Nat) : Nat → Nat := if m < 4 then va_up cs m p else va_up (fun j => cs (j + 1)) 3 p
theorem k_Ga_open (h : o_gate E M g m cs) (p : Nat) (hp : p < 268435456) : Ctr l E y_Ga_open 1 [.ref g, .int (nI p)] N M 0 0 (g_ret (fun v N' M' => v = none ∧ N' = N ∧ o_gate E M' g (opN m) (opC m cs p) ∧ ∀ x, x ≠ g → x ≠ g + 1 → M' x = M x)) := by
  have push : ∀ (M1 : gM) (m1 : Nat) (c1 : Nat → Nat) (Γ : gT), m1 < 4 → o_gate E M1 g m1 c1 → (∀ x, x ≠ g → x ≠ g + 1 → M1 x = M x) → m1 + 1 = opN m → va_up c1 m1 p = opC m cs p → G l E y_Ga_open c_Ga_open 2 none [] 1 (g_ret (fun v N' M' => v = none ∧ N' = N ∧ o_gate E M' g (opN m) (opC m cs p) ∧ ∀ x, x ≠ g → x ≠ g + 1 → M' x = M x)) 0 0 Γ 13 [some (.ref g), some (.int (nI p))] [] N M1 0 0 := by
    intro M1 m1 c1 Γ hm h hfr en ec
    obtain ⟨h1, h2, h3, fc, h4, h5⟩ := h
    refine g_aload_n d_Ga_open_13 rfl ?_
    refine g_get f_Ga_9 (by assumption) rfl d_Ga_open_14 ?_
    refine g_aload_n d_Ga_open_17 rfl ?_
    refine g_get f_Ga_15 (by assumption) rfl d_Ga_open_18 ?_
    refine g_iload_n d_Ga_open_21 rfl ?_
    refine g_iast _ (by assumption) rfl (by omega) (by decide) d_Ga_open_22 ?_
    refine g_nm (fun M2 e2 f2 => ?_)
    have h1' := (f2 g (by omega)).trans h1
    refine g_aload_n d_Ga_open_23 rfl ?_
    refine g_dup d_Ga_open_24 rfl ?_
    refine g_get f_Ga_15 (by assumption) rfl d_Ga_open_25 ?_
    refine g_iconst (v := nI 1) d_Ga_open_28 (by decide) ?_
    refine g_iadd d_Ga_open_29 ?_
    refine g_eqi (nI_add _ _) ?_
    refine g_put p_Ga_15 (by assumption) (Nat.le_of_ble_eq_true rfl) rfl rfl d_Ga_open_30 ?_
    refine g_nm (fun M3 e3 f3 => ?_)
    refine g_return rfl (by omega) (by omega) d_Ga_open_33 ⟨_, rfl, rfl, rfl, ?_, fun x x1 x2 => (f3 x x1).trans ((f2 x x2).trans (hfr x x1 x2))⟩
    rw [← en, ← ec]
    refine ⟨e3, by omega, fun j hj => ?_, _, (f3 _ (by omega)).trans e2, fun j hj => ?_⟩
    · by_cases e : j = m1
      · rw [e, va_up_self]; exact hp
      · rw [va_up_ne _ _ e]; exact h3 j (by omega)
    · by_cases e : j = m1
      · rw [e, va_up_self, pk_us]
      · rw [va_up_ne _ _ e, pk_un e]; exact h5 j (by omega)
  have h0 := h
  obtain ⟨h1, h2, h3, fc, h4, h5⟩ := h
  refine ctr_of [some (.ref g), some (.int (nI p))] (by decide) w_883 rfl rfl (Nat.le_of_ble_eq_true rfl) (fun Γ => ?_)
  refine g_aload_n d_Ga_open_0 rfl ?_
  refine g_get f_Ga_15 (by assumption) rfl d_Ga_open_1 ?_
  refine g_iconst (v := nI 4) d_Ga_open_4 (by decide) ?_
  refine g_icmpN_lt (tgt := 13) d_Ga_open_5 (by decide) (by omega) (by omega) (fun hb_5 => ?_) (fun hb_5 => ?_)
  · exact push M m cs Γ hb_5 h0 (fun _ _ _ => rfl) (by unfold opN; rw [if_pos hb_5]) (by unfold opC; rw [if_pos hb_5])
  · have hm : m = 4 := by omega
    subst hm
    refine g_aload_n d_Ga_open_8 rfl ?_
    refine g_iconst (v := nI 0) d_Ga_open_9 (by decide) ?_
    refine g_callV s_Ga_27 sv_Ga_close (by assumption) rfl (k_Ga_close h0 0 (by omega)) (by omega) rfl (by omega) (by omega) rfl (Nat.le_of_ble_eq_true rfl) d_Ga_open_10 ?_
    rintro v' N' M1 ⟨rfl, rfl, hg, hf⟩
    exact push M1 3 _ Γ (by omega) hg hf rfl (by unfold opC; rw [if_neg (by omega)]; congr 1)
theorem k_Ga_renew (h : o_gate E M g m cs) (i : Nat) (hi : i < m) : Ctr l E y_Ga_renew 2 [.ref g, .int (nI i)] N M 0 0 (g_ret (fun v N' M' => v = none ∧ N' = N ∧ o_gate E M' g m (va_up (fun j => if j < i then cs j else cs (j + 1)) (m - 1) (cs i)) ∧ ∀ x, x ≠ g → x ≠ g + 1 → M' x = M x)) := by
  have h0 := h
  obtain ⟨h1, h2, h3, fc, h4, h5⟩ := h
  refine ctr_of [some (.ref g), some (.int (nI i)), none] (by decide) w_875 rfl rfl (Nat.le_of_ble_eq_true rfl) (fun Γ => ?_)
  refine g_aload_n d_Ga_renew_0 rfl ?_
  refine g_get f_Ga_9 (by assumption) rfl d_Ga_renew_1 ?_
  refine g_iload_n d_Ga_renew_4 rfl ?_
  refine g_iald _ (by assumption) rfl (by omega) (by decide) d_Ga_renew_5 ?_
  refine g_eqi (h5 i hi) ?_
  refine g_istore_n d_Ga_renew_6 (by decide) ?_
  refine g_aload_n d_Ga_renew_7 rfl ?_
  refine g_iload_n d_Ga_renew_8 rfl ?_
  refine g_callV s_Ga_27 sv_Ga_close (by assumption) rfl (k_Ga_close h0 i hi) (by omega) rfl (by omega) (by omega) rfl (Nat.le_of_ble_eq_true rfl) d_Ga_renew_9 ?_
  rintro v' N' M1 ⟨rfl, rfl, hg, hf⟩
  have hg1 := hg.1
  refine g_aload_n d_Ga_renew_12 rfl ?_
  refine g_iload_n d_Ga_renew_13 rfl ?_
  refine g_callV s_Ga_31 sv_Ga_open (by assumption) rfl (k_Ga_open hg (cs i) (h3 i hi)) (by omega) rfl (by omega) (by omega) rfl (Nat.le_of_ble_eq_true rfl) d_Ga_renew_14 ?_
  rintro v' N' M2 ⟨rfl, rfl, hg2, hf2⟩
  refine g_return rfl (by omega) (by omega) d_Ga_renew_17 ⟨_, rfl, rfl, rfl, ?_, fun x x1 x2 => (hf2 x x1 x2).trans (hf x x1 x2)⟩
  have e1 : opN (m - 1) = m := by unfold opN; rw [if_pos (by omega)]; omega
  rw [e1] at hg2
  unfold opC at hg2
  rw [if_pos (by omega)] at hg2
  exact hg2
theorem k_Ga_init (h : M g = some (.inr (9, [.null, .int 0]))) (hg : g + 1 = N) : Ctr l E y_Ga_init 1 [.ref g] N M 1 4 (g_ret (fun v N' M' => v = none ∧ N' = N + 1 ∧ o_gate E M' g 0 (fun _ => 0) ∧ ∀ x, x ≠ g → x ≠ g + 1 → M' x = M x)) := by
  refine ctr_of [some (.ref g)] (by decide) w_184 rfl rfl (Nat.le_of_ble_eq_true rfl) (fun Γ => ?_)
  refine g_aload_n d_Ga_init_0 rfl ?_
  refine g_objInit w_185 m_objI m_objC (by omega) (Nat.le_of_ble_eq_true rfl) d_Ga_init_1 ?_
  refine g_aload_n d_Ga_init_4 rfl ?_
  refine g_iconst (v := nI 4) d_Ga_init_5 (by decide) ?_
  refine g_newi _ w_90 rfl (by decide) (by omega) (by omega) d_Ga_init_6 ?_
  refine g_nm (fun M1 e1 f1 => ?_)
  have a1 := (f1 g (by omega)).trans h
  refine g_putF p_Ga_9 rfl (by assumption) (Nat.le_of_ble_eq_true rfl) rfl rfl d_Ga_init_8 ?_
  refine g_nm (fun M2 e2 f2 => ?_)
  refine g_aload_n d_Ga_init_11 rfl ?_
  refine g_iconst (v := nI 0) d_Ga_init_12 (by decide) ?_
  refine g_put p_Ga_15 (by assumption) (Nat.le_of_ble_eq_true rfl) rfl rfl d_Ga_init_13 ?_
  refine g_nm (fun M3 e3 f3 => ?_)
  refine g_return rfl (by omega) (by omega) d_Ga_init_16 ⟨_, rfl, rfl, rfl, ⟨?_, by omega, fun j hj => by omega, (fun _ => 0), ?_, fun j hj => by omega⟩, fun x x1 x2 => ?_⟩
  · rw [e3, ← hg]; rfl
  · rw [f3 _ (by omega), f2 _ (by omega), hg]; exact e1
  · rw [f3 x x1, f2 x x1, f1 x (by omega)]
end GATE

