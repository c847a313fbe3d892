section CALLS
variable {l : Launch} {E : gE} {N : Nat} {M : gM} {B tn : Nat} {ts : Nat → Nat} {mm : Nat → Nat} {rr : Nat → Nat → Rl} {gn : Nat} {gs : Nat → Nat}
theorem k_RD_rules (h : OA E M B tn ts mm rr gn gs) (j : Nat) (hj : j < 2) : Ctr l E y_RD_rules 7 [.ref B, .int (nI j)] N M 0 0 (g_val (some (.int (nI (mm j)))) N M) := by
  obtain ⟨⟨h1, ⟨fa, h2, h3⟩, h4⟩, -, -, h5, -⟩ := h
  have hl := h5 j hj
  have hla := hl.1
  refine ctr_of [some (.ref B), some (.int (nI j))] (by decide) w_673 rfl rfl (Nat.le_of_ble_eq_true rfl) (fun Γ => ?_)
  refine g_aload_n d_RD_rules_0 rfl ?_
  refine g_iload_n d_RD_rules_1 rfl ?_
  refine g_callV s_RD_84 sv_RD_requireList (by assumption) rfl (g_of_val (k_RD_requireList j hj)) (by omega) rfl (by omega) (by omega) rfl (Nat.le_of_ble_eq_true rfl) d_RD_rules_2 ?_
  rintro _ _ _ ⟨rfl, rfl, rfl⟩
  refine g_aload_n d_RD_rules_5 rfl ?_
  refine g_get f_RD_27 (by assumption) rfl d_RD_rules_6 ?_
  refine g_iload_n d_RD_rules_9 rfl ?_
  refine g_aald j (by assumption) rfl rfl rfl hj (by decide) (h3 j hj) d_RD_rules_10 ?_
  refine g_callV s_RD_113 sv_RL_size (by assumption) rfl (g_of_val (k_RL_size hl)) (by omega) rfl (by omega) (by omega) rfl (Nat.le_of_ble_eq_true rfl) d_RD_rules_11 ?_
  rintro _ _ _ ⟨rfl, rfl, rfl⟩
  exact g_ireturn rfl (by first | rfl | exact bI_nar _) (by omega) (by omega) d_RD_rules_14 ⟨rfl, rfl, rfl⟩
theorem x_RD_rules (h : OA E M B tn ts mm rr gn gs) (x : Int32) (hx : noN x 2) : Ctr l E y_RD_rules 7 [.ref B, .int x] N M 1 6 (t_thr 13 N M) := by
  have hB := h.1.1
  refine ctr_of [some (.ref B), some (.int x)] (by decide) w_673 rfl rfl (Nat.le_of_ble_eq_true rfl) (fun Γ => ?_)
  refine g_aload_n d_RD_rules_0 rfl ?_
  refine g_iload_n d_RD_rules_1 rfl ?_
  exact g_thrV s_RD_84 sv_RD_requireList (by assumption) rfl (x_RD_requireList x hx) (by omega) rfl (by omega) (by omega) rfl (Nat.le_of_ble_eq_true rfl) d_RD_rules_2 (fun b _ _ hb => ⟨b, rfl, hb⟩)
theorem k_RD_remove (h : OA E M B tn ts mm rr gn gs) (j i : Nat) (hj : j < 2) (hi : i < mm j) : Ctr l E y_RD_remove 8 [.ref B, .int (nI j), .int (nI i)] N M 0 0 (g_ret (fun v N' M' => v = none ∧ N' = N ∧ OA E M' B tn ts (va_up mm j (mm j - 1)) (va_up rr j (tko (rr j) i (mm j - 1))) gn gs ∧ ∀ x, (x < B ∨ B + 151 < x) → M' x = M x)) := by
  have h0 := h
  obtain ⟨⟨h1, ⟨fa, h2, h3⟩, h4⟩, -, -, h5, -⟩ := h
  have hl := h5 j hj
  have hla := hl.1
  refine ctr_of [some (.ref B), some (.int (nI j)), some (.int (nI i))] (by decide) w_641 rfl rfl (Nat.le_of_ble_eq_true rfl) (fun Γ => ?_)
  refine g_aload_n d_RD_remove_0 rfl ?_
  refine g_iload_n d_RD_remove_1 rfl ?_
  refine g_iload_n d_RD_remove_2 rfl ?_
  refine g_callV s_RD_103 sv_RD_requireRule (by assumption) rfl (g_of_val (k_RD_requireRule h0 j i hj hi)) (by omega) rfl (by omega) (by omega) rfl (Nat.le_of_ble_eq_true rfl) d_RD_remove_3 ?_
  rintro _ _ _ ⟨rfl, rfl, rfl⟩
  refine g_aload_n d_RD_remove_6 rfl ?_
  refine g_get f_RD_27 (by assumption) rfl d_RD_remove_7 ?_
  refine g_iload_n d_RD_remove_10 rfl ?_
  refine g_aald j (by assumption) rfl rfl rfl hj (by decide) (h3 j hj) d_RD_remove_11 ?_
  refine g_iload_n d_RD_remove_12 rfl ?_
  refine g_callV s_RD_107 sv_RL_takeOut (by assumption) rfl (k_RL_takeOut hl i hi) (by omega) rfl (by omega) (by omega) rfl (Nat.le_of_ble_eq_true rfl) d_RD_remove_13 ?_
  rintro v' N' M1 ⟨rfl, rfl, hl1, hf1⟩
  exact g_return rfl (by omega) (by omega) d_RD_remove_16 ⟨_, rfl, rfl, rfl, h0.list hj hl1 (fun x hx => hf1 x (by omega) (by omega)), fun x hx => hf1 x (by omega) (by omega)⟩
theorem x_RD_remove (h : OA E M B tn ts mm rr gn gs) (j : Nat) (hj : j < 2) (x : Int32) (hx : noN x (mm j)) : Ctr l E y_RD_remove 8 [.ref B, .int (nI j), .int x] N M 1 6 (t_thr 11 N M) := by
  have hB := h.1.1
  refine ctr_of [some (.ref B), some (.int (nI j)), some (.int x)] (by decide) w_641 rfl rfl (Nat.le_of_ble_eq_true rfl) (fun Γ => ?_)
  refine g_aload_n d_RD_remove_0 rfl ?_
  refine g_iload_n d_RD_remove_1 rfl ?_
  refine g_iload_n d_RD_remove_2 rfl ?_
  exact g_thrV s_RD_103 sv_RD_requireRule (by assumption) rfl (x_RD_requireRule h j hj x hx) (by omega) rfl (by omega) (by omega) rfl (Nat.le_of_ble_eq_true rfl) d_RD_remove_3 (fun b _ _ hb => ⟨b, rfl, hb⟩)
theorem xl_RD_remove (h : OA E M B tn ts mm rr gn gs) (x y : Int32) (hx : noN x 2) : Ctr l E y_RD_remove 8 [.ref B, .int x, .int y] N M 1 6 (t_thr 13 N M) := by
  have hB := h.1.1
  refine ctr_of [some (.ref B), some (.int x), some (.int y)] (by decide) w_641 rfl rfl (Nat.le_of_ble_eq_true rfl) (fun Γ => ?_)
  refine g_aload_n d_RD_remove_0 rfl ?_
  refine g_iload_n d_RD_remove_1 rfl ?_
  refine g_iload_n d_RD_remove_2 rfl ?_
  exact g_thrV s_RD_103 sv_RD_requireRule (by assumption) rfl (xl_RD_requireRule h x y hx) (by omega) rfl (by omega) (by omega) rfl (Nat.le_of_ble_eq_true rfl) d_RD_remove_3 (fun b _ _ hb => ⟨b, rfl, hb⟩)
theorem k_RD_swap (h : OA E M B tn ts mm rr gn gs) (j i : Nat) (hj : j < 2) (hi : i + 1 < mm j) : Ctr l E y_RD_swap 8 [.ref B, .int (nI j), .int (nI i)] N M 0 0 (g_ret (fun v N' M' => v = none ∧ N' = N ∧ OA E M' B tn ts (va_up mm j (mm j)) (va_up rr j (swp (rr j) i)) gn gs ∧ ∀ x, (x < B ∨ B + 151 < x) → M' x = M x)) := by
  have h0 := h
  obtain ⟨⟨h1, ⟨fa, h2, h3⟩, h4⟩, -, -, h5, -⟩ := h
  have hl := h5 j hj
  have hla := hl.1
  refine ctr_of [some (.ref B), some (.int (nI j)), some (.int (nI i))] (by decide) w_665 rfl rfl (Nat.le_of_ble_eq_true rfl) (fun Γ => ?_)
  refine g_aload_n d_RD_swap_0 rfl ?_
  refine g_iload_n d_RD_swap_1 rfl ?_
  refine g_iload_n d_RD_swap_2 rfl ?_
  refine g_callV s_RD_103 sv_RD_requireRule (by assumption) rfl (g_of_val (k_RD_requireRule h0 j i hj (by omega))) (by omega) rfl (by omega) (by omega) rfl (Nat.le_of_ble_eq_true rfl) d_RD_swap_3 ?_
  rintro _ _ _ ⟨rfl, rfl, rfl⟩
  refine g_aload_n d_RD_swap_6 rfl ?_
  refine g_iload_n d_RD_swap_7 rfl ?_
  refine g_iload_n d_RD_swap_8 rfl ?_
  refine g_iconst (v := nI 1) d_RD_swap_9 (by decide) ?_
  refine g_iadd d_RD_swap_10 ?_
  refine g_eqi (nI_add _ _) ?_
  refine g_callV s_RD_103 sv_RD_requireRule (by assumption) rfl (g_of_val (k_RD_requireRule h0 j (i + 1) hj hi)) (by omega) rfl (by omega) (by omega) rfl (Nat.le_of_ble_eq_true rfl) d_RD_swap_11 ?_
  rintro _ _ _ ⟨rfl, rfl, rfl⟩
  refine g_aload_n d_RD_swap_14 rfl ?_
  refine g_get f_RD_27 (by assumption) rfl d_RD_swap_15 ?_
  refine g_iload_n d_RD_swap_18 rfl ?_
  refine g_aald j (by assumption) rfl rfl rfl hj (by decide) (h3 j hj) d_RD_swap_19 ?_
  refine g_iload_n d_RD_swap_20 rfl ?_
  refine g_callV s_RD_110 sv_RL_exchange (by assumption) rfl (k_RL_exchange hl i hi) (by omega) rfl (by omega) (by omega) rfl (Nat.le_of_ble_eq_true rfl) d_RD_swap_21 ?_
  rintro v' N' M1 ⟨rfl, rfl, hl1, hf1⟩
  exact g_return rfl (by omega) (by omega) d_RD_swap_24 ⟨_, rfl, rfl, rfl, h0.list hj hl1 (fun x hx => hf1 x (by omega)), fun x hx => hf1 x (by omega)⟩
theorem x_RD_swap (h : OA E M B tn ts mm rr gn gs) (j : Nat) (hj : j < 2) (x : Int32) (hx : noN x (mm j)) : Ctr l E y_RD_swap 8 [.ref B, .int (nI j), .int x] N M 1 6 (t_thr 11 N M) := by
  have hB := h.1.1
  refine ctr_of [some (.ref B), some (.int (nI j)), some (.int x)] (by decide) w_665 rfl rfl (Nat.le_of_ble_eq_true rfl) (fun Γ => ?_)
  refine g_aload_n d_RD_swap_0 rfl ?_
  refine g_iload_n d_RD_swap_1 rfl ?_
  refine g_iload_n d_RD_swap_2 rfl ?_
  exact g_thrV s_RD_103 sv_RD_requireRule (by assumption) rfl (x_RD_requireRule h j hj x hx) (by omega) rfl (by omega) (by omega) rfl (Nat.le_of_ble_eq_true rfl) d_RD_swap_3 (fun b _ _ hb => ⟨b, rfl, hb⟩)
theorem xe_RD_swap (h : OA E M B tn ts mm rr gn gs) (j i : Nat) (hj : j < 2) (hi : i + 1 = mm j) : Ctr l E y_RD_swap 8 [.ref B, .int (nI j), .int (nI i)] N M 1 6 (t_thr 11 N M) := by
  have hB := h.1.1
  have hm := (h.2.2.2.1 j hj).2.1
  refine ctr_of [some (.ref B), some (.int (nI j)), some (.int (nI i))] (by decide) w_665 rfl rfl (Nat.le_of_ble_eq_true rfl) (fun Γ => ?_)
  refine g_aload_n d_RD_swap_0 rfl ?_
  refine g_iload_n d_RD_swap_1 rfl ?_
  refine g_iload_n d_RD_swap_2 rfl ?_
  refine g_callV s_RD_103 sv_RD_requireRule (by assumption) rfl (g_of_val (k_RD_requireRule h j i hj (by omega))) (by omega) rfl (by omega) (by omega) rfl (Nat.le_of_ble_eq_true rfl) d_RD_swap_3 ?_
  rintro _ _ _ ⟨rfl, rfl, rfl⟩
  refine g_aload_n d_RD_swap_6 rfl ?_
  refine g_iload_n d_RD_swap_7 rfl ?_
  refine g_iload_n d_RD_swap_8 rfl ?_
  refine g_iconst (v := nI 1) d_RD_swap_9 (by decide) ?_
  refine g_iadd d_RD_swap_10 ?_
  refine g_eqi (nI_add _ _) ?_
  exact g_thrV s_RD_103 sv_RD_requireRule (by assumption) rfl (x_RD_requireRule h j hj (nI (i + 1)) (Or.inr ⟨i + 1, rfl, by omega, by omega⟩)) (by omega) rfl (by omega) (by omega) rfl (Nat.le_of_ble_eq_true rfl) d_RD_swap_11 (fun b _ _ hb => ⟨b, rfl, hb⟩)
theorem xl_RD_swap (h : OA E M B tn ts mm rr gn gs) (x y : Int32) (hx : noN x 2) : Ctr l E y_RD_swap 8 [.ref B, .int x, .int y] N M 1 6 (t_thr 13 N M) := by
  have hB := h.1.1
  refine ctr_of [some (.ref B), some (.int x), some (.int y)] (by decide) w_665 rfl rfl (Nat.le_of_ble_eq_true rfl) (fun Γ => ?_)
  refine g_aload_n d_RD_swap_0 rfl ?_
  refine g_iload_n d_RD_swap_1 rfl ?_
  refine g_iload_n d_RD_swap_2 rfl ?_
  exact g_thrV s_RD_103 sv_RD_requireRule (by assumption) rfl (xl_RD_requireRule h x y hx) (by omega) rfl (by omega) (by omega) rfl (Nat.le_of_ble_eq_true rfl) d_RD_swap_3 (fun b _ _ hb => ⟨b, rfl, hb⟩)
/-- a number of a rule -/
def rnm (z : Rl) (w : Nat) : Nat := if w = 0 then z.1 else if w % 2 = 1 then z.2.1 ((w - 1) / 2) else z.2.2 ((w - 1) / 2)
theorem k_RD_rule (h : OA E M B tn ts mm rr gn gs) (j i w : Nat) (hj : j < 2) (hi : i < mm j) (hw : w < 9) : Ctr l E y_RD_rule 8 [.ref B, .int (nI j), .int (nI i), .int (nI w)] N M 0 0 (g_val (some (.int (nI (rnm (rr j i) w)))) N M) := by
  have h0 := h
  obtain ⟨⟨h1, ⟨fa, h2, h3⟩, h4⟩, -, -, h5, -⟩ := h
  have hl := h5 j hj
  have hla := hl.1
  have hm := hl.2.1
  obtain ⟨a, a1, -, -, a2⟩ := k_RL_at (l := l) (N := N) hl i (by omega)
  have a1a := a1.1
  refine ctr_of [some (.ref B), some (.int (nI j)), some (.int (nI i)), some (.int (nI w))] (by decide) w_681 rfl rfl (Nat.le_of_ble_eq_true rfl) (fun Γ => ?_)
  refine g_aload_n d_RD_rule_0 rfl ?_
  refine g_iload_n d_RD_rule_1 rfl ?_
  refine g_iload_n d_RD_rule_2 rfl ?_
  refine g_callV s_RD_103 sv_RD_requireRule (by assumption) rfl (g_of_val (k_RD_requireRule h0 j i hj hi)) (by omega) rfl (by omega) (by omega) rfl (Nat.le_of_ble_eq_true rfl) d_RD_rule_3 ?_
  rintro _ _ _ ⟨rfl, rfl, rfl⟩
  refine g_iload_n d_RD_rule_6 rfl ?_
  refine g_ifN_lt (tgt := 16) d_RD_rule_7 (by decide) (by omega) (fun hb_7 => ?_) (fun hb_7 => ?_)
  · exact hb_7.elim
  refine g_iload_n d_RD_rule_10 rfl ?_
  refine g_bipush (v := nI 9) d_RD_rule_11 (by decide) ?_
  refine g_icmpN_lt (tgt := 26) d_RD_rule_13 (by decide) (by omega) (by omega) (fun hb_13 => ?_) (fun hb_13 => ?_)
  · refine g_aload_n d_RD_rule_26 rfl ?_
    refine g_get f_RD_27 (by assumption) rfl d_RD_rule_27 ?_
    refine g_iload_n d_RD_rule_30 rfl ?_
    refine g_aald j (by assumption) rfl rfl rfl hj (by decide) (h3 j hj) d_RD_rule_31 ?_
    refine g_iload_n d_RD_rule_32 rfl ?_
    refine g_callV s_RD_118 sv_RL_at (by assumption) rfl (g_of_val (a2)) (by omega) rfl (by omega) (by omega) rfl (Nat.le_of_ble_eq_true rfl) d_RD_rule_33 ?_
    rintro _ _ _ ⟨rfl, rfl, rfl⟩
    refine g_iload_n d_RD_rule_36 rfl ?_
    refine g_callV s_RD_121 sv_Ru_number (by assumption) rfl (g_of_val (k_Ru_number a1 w hw)) (by omega) rfl (by omega) (by omega) rfl (Nat.le_of_ble_eq_true rfl) d_RD_rule_37 ?_
    rintro _ _ _ ⟨rfl, rfl, rfl⟩
    exact g_ireturn rfl (by first | rfl | exact bI_nar _) (by omega) (by omega) d_RD_rule_40 ⟨rfl, rfl, rfl⟩
  · omega
theorem x_RD_rule (h : OA E M B tn ts mm rr gn gs) (j : Nat) (hj : j < 2) (x y : Int32) (hx : noN x (mm j)) : Ctr l E y_RD_rule 8 [.ref B, .int (nI j), .int x, .int y] N M 1 6 (t_thr 11 N M) := by
  have hB := h.1.1
  refine ctr_of [some (.ref B), some (.int (nI j)), some (.int x), some (.int y)] (by decide) w_681 rfl rfl (Nat.le_of_ble_eq_true rfl) (fun Γ => ?_)
  refine g_aload_n d_RD_rule_0 rfl ?_
  refine g_iload_n d_RD_rule_1 rfl ?_
  refine g_iload_n d_RD_rule_2 rfl ?_
  exact g_thrV s_RD_103 sv_RD_requireRule (by assumption) rfl (x_RD_requireRule h j hj x hx) (by omega) rfl (by omega) (by omega) rfl (Nat.le_of_ble_eq_true rfl) d_RD_rule_3 (fun b _ _ hb => ⟨b, rfl, hb⟩)
theorem xl_RD_rule (h : OA E M B tn ts mm rr gn gs) (x y z : Int32) (hx : noN x 2) : Ctr l E y_RD_rule 8 [.ref B, .int x, .int y, .int z] N M 1 6 (t_thr 13 N M) := by
  have hB := h.1.1
  refine ctr_of [some (.ref B), some (.int x), some (.int y), some (.int z)] (by decide) w_681 rfl rfl (Nat.le_of_ble_eq_true rfl) (fun Γ => ?_)
  refine g_aload_n d_RD_rule_0 rfl ?_
  refine g_iload_n d_RD_rule_1 rfl ?_
  refine g_iload_n d_RD_rule_2 rfl ?_
  exact g_thrV s_RD_103 sv_RD_requireRule (by assumption) rfl (xl_RD_requireRule h x y hx) (by omega) rfl (by omega) (by omega) rfl (Nat.le_of_ble_eq_true rfl) d_RD_rule_3 (fun b _ _ hb => ⟨b, rfl, hb⟩)
theorem xw_RD_rule (h : OA E M B tn ts mm rr gn gs) (j i : Nat) (hj : j < 2) (hi : i < mm j) (x : Int32) (hx : noN x 9) : Ctr l E y_RD_rule 8 [.ref B, .int (nI j), .int (nI i), .int x] N M 1 6 (t_thr 11 N M) := by
  have hB := h.1.1
  rcases hx with hx | ⟨w, rfl, w1, w2⟩
  · refine ctr_of [some (.ref B), some (.int (nI j)), some (.int (nI i)), some (.int x)] (by decide) w_681 rfl rfl (Nat.le_of_ble_eq_true rfl) (fun Γ => ?_)
    refine g_aload_n d_RD_rule_0 rfl ?_
    refine g_iload_n d_RD_rule_1 rfl ?_
    refine g_iload_n d_RD_rule_2 rfl ?_
    refine g_callV s_RD_103 sv_RD_requireRule (by assumption) rfl (g_of_val (k_RD_requireRule h j i hj hi)) (by omega) rfl (by omega) (by omega) rfl (Nat.le_of_ble_eq_true rfl) d_RD_rule_3 ?_
    rintro _ _ _ ⟨rfl, rfl, rfl⟩
    refine g_iload_n d_RD_rule_6 rfl ?_
    refine g_if_lt (tgt := 16) d_RD_rule_7 (by decide) (fun hb => ?_) (fun hb => absurd hx hb)
    exact g_throw (i := 12) xa_Iae rfl rfl (by decide) w_328 w_329 w_15 rfl (by decide) (by omega) (by omega) (Nat.le_of_ble_eq_true rfl) d_RD_rule_16 d_RD_rule_19 d_RD_rule_20 d_RD_rule_22 d_RD_rule_25 ⟨_, rfl, rfl, rfl, rfl⟩
  · refine ctr_of [some (.ref B), some (.int (nI j)), some (.int (nI i)), some (.int (nI w))] (by decide) w_681 rfl rfl (Nat.le_of_ble_eq_true rfl) (fun Γ => ?_)
    refine g_aload_n d_RD_rule_0 rfl ?_
    refine g_iload_n d_RD_rule_1 rfl ?_
    refine g_iload_n d_RD_rule_2 rfl ?_
    refine g_callV s_RD_103 sv_RD_requireRule (by assumption) rfl (g_of_val (k_RD_requireRule h j i hj hi)) (by omega) rfl (by omega) (by omega) rfl (Nat.le_of_ble_eq_true rfl) d_RD_rule_3 ?_
    rintro _ _ _ ⟨rfl, rfl, rfl⟩
    refine g_iload_n d_RD_rule_6 rfl ?_
    refine g_ifN_lt (tgt := 16) d_RD_rule_7 (by decide) (by omega) (fun hb_7 => ?_) (fun hb_7 => ?_)
    · exact hb_7.elim
    refine g_iload_n d_RD_rule_10 rfl ?_
    refine g_bipush (v := nI 9) d_RD_rule_11 (by decide) ?_
    refine g_icmpN_lt (tgt := 26) d_RD_rule_13 (by decide) (by omega) (by omega) (fun hb_13 => ?_) (fun hb_13 => ?_)
    · omega
    · exact g_throw (i := 12) xa_Iae rfl rfl (by decide) w_328 w_329 w_15 rfl (by decide) (by omega) (by omega) (Nat.le_of_ble_eq_true rfl) d_RD_rule_16 d_RD_rule_19 d_RD_rule_20 d_RD_rule_22 d_RD_rule_25 ⟨_, rfl, rfl, rfl, rfl⟩
theorem k_RD_verdict (h : OA E M B tn ts mm rr gn gs) (j a c e g : Nat) (hj : j < 2) (ha : a ≤ 255) (hc : c ≤ 255) (he : e ≤ 1023) (hg : g ≤ 3) : Ctr l E y_RD_verdict 8 [.ref B, .int (nI j), .int (nI a), .int (nI c), .int (nI e), .int (nI g)] N M 0 0 (g_val (some (.int (nI (if fi (fun i => r_m (rr j i) (pkt a c e g)) (mm j) < mm j then (rr j (fi (fun i => r_m (rr j i) (pkt a c e g)) (mm j))).1 else 0)))) N M) := by
  obtain ⟨⟨h1, ⟨fa, h2, h3⟩, h4⟩, -, -, h5, -⟩ := h
  have hl := h5 j hj
  have hla := hl.1
  refine ctr_of [some (.ref B), some (.int (nI j)), some (.int (nI a)), some (.int (nI c)), some (.int (nI e)), some (.int (nI g))] (by decide) w_694 rfl rfl (Nat.le_of_ble_eq_true rfl) (fun Γ => ?_)
  refine g_aload_n d_RD_verdict_0 rfl ?_
  refine g_iload_n d_RD_verdict_1 rfl ?_
  refine g_callV s_RD_84 sv_RD_requireList (by assumption) rfl (g_of_val (k_RD_requireList j hj)) (by omega) rfl (by omega) (by omega) rfl (Nat.le_of_ble_eq_true rfl) d_RD_verdict_2 ?_
  rintro _ _ _ ⟨rfl, rfl, rfl⟩
  refine g_aload_n d_RD_verdict_5 rfl ?_
  refine g_get f_RD_27 (by assumption) rfl d_RD_verdict_6 ?_
  refine g_iload_n d_RD_verdict_9 rfl ?_
  refine g_aald j (by assumption) rfl rfl rfl hj (by decide) (h3 j hj) d_RD_verdict_10 ?_
  refine g_iload_n d_RD_verdict_11 rfl ?_
  refine g_iload_n d_RD_verdict_12 rfl ?_
  refine g_iload d_RD_verdict_13 rfl ?_
  refine g_iload d_RD_verdict_15 rfl ?_
  refine g_callS s_RD_127 sv_RD_packetOf (g_of_val (k_RD_packetOf a c e g ha hc he hg)) (by omega) rfl (by omega) (by omega) rfl (Nat.le_of_ble_eq_true rfl) d_RD_verdict_17 ?_
  rintro _ _ _ ⟨rfl, rfl, rfl⟩
  refine g_callV s_RD_131 sv_RL_judge (by assumption) rfl (g_of_val (k_RL_judge hl _ (pkt_lt ha hc he hg))) (by omega) rfl (by omega) (by omega) rfl (Nat.le_of_ble_eq_true rfl) d_RD_verdict_20 ?_
  rintro _ _ _ ⟨rfl, rfl, rfl⟩
  exact g_ireturn rfl (by first | rfl | exact bI_nar _) (by omega) (by omega) d_RD_verdict_23 ⟨rfl, rfl, rfl⟩
theorem x_RD_verdict (h : OA E M B tn ts mm rr gn gs) (j : Nat) (hj : j < 2) (a c e g : Int32) (hp : noP a c e g) : Ctr l E y_RD_verdict 8 [.ref B, .int (nI j), .int a, .int c, .int e, .int g] N M 1 6 (t_thr 11 N M) := by
  obtain ⟨⟨h1, ⟨fa, h2, h3⟩, h4⟩, -, -, h5, -⟩ := h
  refine ctr_of [some (.ref B), some (.int (nI j)), some (.int a), some (.int c), some (.int e), some (.int g)] (by decide) w_694 rfl rfl (Nat.le_of_ble_eq_true rfl) (fun Γ => ?_)
  refine g_aload_n d_RD_verdict_0 rfl ?_
  refine g_iload_n d_RD_verdict_1 rfl ?_
  refine g_callV s_RD_84 sv_RD_requireList (by assumption) rfl (g_of_val (k_RD_requireList j hj)) (by omega) rfl (by omega) (by omega) rfl (Nat.le_of_ble_eq_true rfl) d_RD_verdict_2 ?_
  rintro _ _ _ ⟨rfl, rfl, rfl⟩
  refine g_aload_n d_RD_verdict_5 rfl ?_
  refine g_get f_RD_27 (by assumption) rfl d_RD_verdict_6 ?_
  refine g_iload_n d_RD_verdict_9 rfl ?_
  refine g_aald j (by assumption) rfl rfl rfl hj (by decide) (h3 j hj) d_RD_verdict_10 ?_
  refine g_iload_n d_RD_verdict_11 rfl ?_
  refine g_iload_n d_RD_verdict_12 rfl ?_
  refine g_iload d_RD_verdict_13 rfl ?_
  refine g_iload d_RD_verdict_15 rfl ?_
  exact g_thrS s_RD_127 sv_RD_packetOf (x_RD_packetOf a c e g hp) (by omega) rfl (by omega) (by omega) rfl (Nat.le_of_ble_eq_true rfl) d_RD_verdict_17 (fun b _ _ hb => ⟨b, rfl, hb⟩)
theorem xl_RD_verdict (h : OA E M B tn ts mm rr gn gs) (x a c e g : Int32) (hx : noN x 2) : Ctr l E y_RD_verdict 8 [.ref B, .int x, .int a, .int c, .int e, .int g] N M 1 6 (t_thr 13 N M) := by
  have hB := h.1.1
  refine ctr_of [some (.ref B), some (.int x), some (.int a), some (.int c), some (.int e), some (.int g)] (by decide) w_694 rfl rfl (Nat.le_of_ble_eq_true rfl) (fun Γ => ?_)
  refine g_aload_n d_RD_verdict_0 rfl ?_
  refine g_iload_n d_RD_verdict_1 rfl ?_
  exact g_thrV s_RD_84 sv_RD_requireList (by assumption) rfl (x_RD_requireList x hx) (by omega) rfl (by omega) (by omega) rfl (Nat.le_of_ble_eq_true rfl) d_RD_verdict_2 (fun b _ _ hb => ⟨b, rfl, hb⟩)
theorem k_RD_first (h : OA E M B tn ts mm rr gn gs) (j a c e g : Nat) (hj : j < 2) (ha : a ≤ 255) (hc : c ≤ 255) (he : e ≤ 1023) (hg : g ≤ 3) : Ctr l E y_RD_first 8 [.ref B, .int (nI j), .int (nI a), .int (nI c), .int (nI e), .int (nI g)] N M 0 0 (g_val (some (.int (fI (fi (fun i => r_m (rr j i) (pkt a c e g)) (mm j)) (mm j)))) N M) := by
  obtain ⟨⟨h1, ⟨fa, h2, h3⟩, h4⟩, -, -, h5, -⟩ := h
  have hl := h5 j hj
  have hla := hl.1
  refine ctr_of [some (.ref B), some (.int (nI j)), some (.int (nI a)), some (.int (nI c)), some (.int (nI e)), some (.int (nI g))] (by decide) w_730 rfl rfl (Nat.le_of_ble_eq_true rfl) (fun Γ => ?_)
  refine g_aload_n d_RD_first_0 rfl ?_
  refine g_iload_n d_RD_first_1 rfl ?_
  refine g_callV s_RD_84 sv_RD_requireList (by assumption) rfl (g_of_val (k_RD_requireList j hj)) (by omega) rfl (by omega) (by omega) rfl (Nat.le_of_ble_eq_true rfl) d_RD_first_2 ?_
  rintro _ _ _ ⟨rfl, rfl, rfl⟩
  refine g_aload_n d_RD_first_5 rfl ?_
  refine g_get f_RD_27 (by assumption) rfl d_RD_first_6 ?_
  refine g_iload_n d_RD_first_9 rfl ?_
  refine g_aald j (by assumption) rfl rfl rfl hj (by decide) (h3 j hj) d_RD_first_10 ?_
  refine g_iload_n d_RD_first_11 rfl ?_
  refine g_iload_n d_RD_first_12 rfl ?_
  refine g_iload d_RD_first_13 rfl ?_
  refine g_iload d_RD_first_15 rfl ?_
  refine g_callS s_RD_127 sv_RD_packetOf (g_of_val (k_RD_packetOf a c e g ha hc he hg)) (by omega) rfl (by omega) (by omega) rfl (Nat.le_of_ble_eq_true rfl) d_RD_first_17 ?_
  rintro _ _ _ ⟨rfl, rfl, rfl⟩
  refine g_callV s_RD_134 sv_RL_firstFor (by assumption) rfl (g_of_val (k_RL_firstFor hl _ (pkt_lt ha hc he hg))) (by omega) rfl (by omega) (by omega) rfl (Nat.le_of_ble_eq_true rfl) d_RD_first_20 ?_
  rintro _ _ _ ⟨rfl, rfl, rfl⟩
  exact g_ireturn rfl (by first | rfl | exact bI_nar _) (by omega) (by omega) d_RD_first_23 ⟨rfl, rfl, rfl⟩
theorem x_RD_first (h : OA E M B tn ts mm rr gn gs) (j : Nat) (hj : j < 2) (a c e g : Int32) (hp : noP a c e g) : Ctr l E y_RD_first 8 [.ref B, .int (nI j), .int a, .int c, .int e, .int g] N M 1 6 (t_thr 11 N M) := by
  obtain ⟨⟨h1, ⟨fa, h2, h3⟩, h4⟩, -, -, h5, -⟩ := h
  refine ctr_of [some (.ref B), some (.int (nI j)), some (.int a), some (.int c), some (.int e), some (.int g)] (by decide) w_730 rfl rfl (Nat.le_of_ble_eq_true rfl) (fun Γ => ?_)
  refine g_aload_n d_RD_first_0 rfl ?_
  refine g_iload_n d_RD_first_1 rfl ?_
  refine g_callV s_RD_84 sv_RD_requireList (by assumption) rfl (g_of_val (k_RD_requireList j hj)) (by omega) rfl (by omega) (by omega) rfl (Nat.le_of_ble_eq_true rfl) d_RD_first_2 ?_
  rintro _ _ _ ⟨rfl, rfl, rfl⟩
  refine g_aload_n d_RD_first_5 rfl ?_
  refine g_get f_RD_27 (by assumption) rfl d_RD_first_6 ?_
  refine g_iload_n d_RD_first_9 rfl ?_
  refine g_aald j (by assumption) rfl rfl rfl hj (by decide) (h3 j hj) d_RD_first_10 ?_
  refine g_iload_n d_RD_first_11 rfl ?_
  refine g_iload_n d_RD_first_12 rfl ?_
  refine g_iload d_RD_first_13 rfl ?_
  refine g_iload d_RD_first_15 rfl ?_
  exact g_thrS s_RD_127 sv_RD_packetOf (x_RD_packetOf a c e g hp) (by omega) rfl (by omega) (by omega) rfl (Nat.le_of_ble_eq_true rfl) d_RD_first_17 (fun b _ _ hb => ⟨b, rfl, hb⟩)
theorem xl_RD_first (h : OA E M B tn ts mm rr gn gs) (x a c e g : Int32) (hx : noN x 2) : Ctr l E y_RD_first 8 [.ref B, .int x, .int a, .int c, .int e, .int g] N M 1 6 (t_thr 13 N M) := by
  have hB := h.1.1
  refine ctr_of [some (.ref B), some (.int x), some (.int a), some (.int c), some (.int e), some (.int g)] (by decide) w_730 rfl rfl (Nat.le_of_ble_eq_true rfl) (fun Γ => ?_)
  refine g_aload_n d_RD_first_0 rfl ?_
  refine g_iload_n d_RD_first_1 rfl ?_
  exact g_thrV s_RD_84 sv_RD_requireList (by assumption) rfl (x_RD_requireList x hx) (by omega) rfl (by omega) (by omega) rfl (Nat.le_of_ble_eq_true rfl) d_RD_first_2 (fun b _ _ hb => ⟨b, rfl, hb⟩)
theorem k_RD_connection (h : OA E M B tn ts mm rr gn gs) (i f : Nat) (hf : f < 4) (hi : i < 2 ^ 31) : Ctr l E y_RD_connection 7 [.ref B, .int (nI i), .int (nI f)] N M 0 0 (g_val (some (.int (if i < gn then nI (pv (gs i) f) else -1))) N M) := by
  have hB := h.1.1
  have hg := h.2.2.2.2.2.2
  have hga := hg.1
  refine ctr_of [some (.ref B), some (.int (nI i)), some (.int (nI f))] (by decide) w_891 rfl rfl (Nat.le_of_ble_eq_true rfl) (fun Γ => ?_)
  refine g_iload_n d_RD_connection_0 rfl ?_
  refine g_callS s_RD_145 sv_RD_requireField (g_of_val (k_RD_requireField f hf)) (by omega) rfl (by omega) (by omega) rfl (Nat.le_of_ble_eq_true rfl) d_RD_connection_1 ?_
  rintro _ _ _ ⟨rfl, rfl, rfl⟩
  refine g_aload_n d_RD_connection_4 rfl ?_
  refine g_get f_RD_53 (by assumption) rfl d_RD_connection_5 ?_
  refine g_iload_n d_RD_connection_8 rfl ?_
  refine g_callV s_RD_180 sv_Ga_has (by assumption) rfl (g_of_val (k_Ga_hasN hg i hi)) (by omega) rfl (by omega) (by omega) rfl (Nat.le_of_ble_eq_true rfl) d_RD_connection_9 ?_
  rintro _ _ _ ⟨rfl, rfl, rfl⟩
  first | refine g_ifB_eq (tgt := 30) d_RD_connection_12 (by decide) (fun hb_12 => ?_) (fun hb_12 => ?_) | refine g_ifN_eq (tgt := 30) d_RD_connection_12 (by decide) (by omega) (fun hb_12 => ?_) (fun hb_12 => ?_)
  · refine g_iconst (v := -1) d_RD_connection_30 (by decide) ?_
    refine g_eqi (z := if i < gn then nI (pv (gs i) f) else -1) (by rw [if_neg (of_decide_eq_false hb_12)]) ?_
    exact g_ireturn rfl (by first | rfl | exact bI_nar _) (by omega) (by omega) d_RD_connection_31 ⟨rfl, rfl, rfl⟩
  · have hin := of_decide_eq_true hb_12
    refine g_aload_n d_RD_connection_15 rfl ?_
    refine g_get f_RD_53 (by assumption) rfl d_RD_connection_16 ?_
    refine g_iload_n d_RD_connection_19 rfl ?_
    refine g_callV s_RD_183 sv_Ga_at (by assumption) rfl (g_of_val (k_Ga_at hg i hin)) (by omega) rfl (by omega) (by omega) rfl (Nat.le_of_ble_eq_true rfl) d_RD_connection_20 ?_
    rintro _ _ _ ⟨rfl, rfl, rfl⟩
    refine g_iload_n d_RD_connection_23 rfl ?_
    refine g_callS s_RD_164 sv_RD_valueOf (g_of_val (k_RD_valueOf (gs i) f (hg.2.2.1 i hin) hf)) (by omega) rfl (by omega) (by omega) rfl (Nat.le_of_ble_eq_true rfl) d_RD_connection_24 ?_
    rintro _ _ _ ⟨rfl, rfl, rfl⟩
    refine g_goto (tgt := 31) d_RD_connection_27 (by decide) ?_
    refine g_eqi (z := if i < gn then nI (pv (gs i) f) else -1) (by rw [if_pos hin]) ?_
    exact g_ireturn rfl (by first | rfl | exact bI_nar _) (by omega) (by omega) d_RD_connection_31 ⟨rfl, rfl, rfl⟩
theorem km_RD_connection (h : OA E M B tn ts mm rr gn gs) (x : Int32) (f : Nat) (hf : f < 4) (hx : x < 0) : Ctr l E y_RD_connection 7 [.ref B, .int x, .int (nI f)] N M 0 0 (g_val (some (.int (-1))) N M) := by
  have hB := h.1.1
  have hg := h.2.2.2.2.2.2
  have hga := hg.1
  refine ctr_of [some (.ref B), some (.int x), some (.int (nI f))] (by decide) w_891 rfl rfl (Nat.le_of_ble_eq_true rfl) (fun Γ => ?_)
  refine g_iload_n d_RD_connection_0 rfl ?_
  refine g_callS s_RD_145 sv_RD_requireField (g_of_val (k_RD_requireField f hf)) (by omega) rfl (by omega) (by omega) rfl (Nat.le_of_ble_eq_true rfl) d_RD_connection_1 ?_
  rintro _ _ _ ⟨rfl, rfl, rfl⟩
  refine g_aload_n d_RD_connection_4 rfl ?_
  refine g_get f_RD_53 (by assumption) rfl d_RD_connection_5 ?_
  refine g_iload_n d_RD_connection_8 rfl ?_
  refine g_callV s_RD_180 sv_Ga_has (by assumption) rfl (g_of_val (k_Ga_hasM hg x hx)) (by omega) rfl (by omega) (by omega) rfl (Nat.le_of_ble_eq_true rfl) d_RD_connection_9 ?_
  rintro _ _ _ ⟨rfl, rfl, rfl⟩
  first | refine g_ifB_eq (tgt := 30) d_RD_connection_12 (by decide) (fun hb_12 => ?_) (fun hb_12 => ?_) | refine g_ifN_eq (tgt := 30) d_RD_connection_12 (by decide) (by omega) (fun hb_12 => ?_) (fun hb_12 => ?_)
  · refine g_iconst (v := -1) d_RD_connection_30 (by decide) ?_
    exact g_ireturn rfl (by first | rfl | exact bI_nar _) (by omega) (by omega) d_RD_connection_31 ⟨rfl, rfl, rfl⟩
  · cases hb_12
theorem x_RD_connection (h : OA E M B tn ts mm rr gn gs) (x y : Int32) (hy : noN y 4) : Ctr l E y_RD_connection 7 [.ref B, .int x, .int y] N M 1 6 (t_thr 11 N M) := by
  have hB := h.1.1
  refine ctr_of [some (.ref B), some (.int x), some (.int y)] (by decide) w_891 rfl rfl (Nat.le_of_ble_eq_true rfl) (fun Γ => ?_)
  refine g_iload_n d_RD_connection_0 rfl ?_
  exact g_thrS s_RD_145 sv_RD_requireField (x_RD_requireField y hy) (by omega) rfl (by omega) (by omega) rfl (Nat.le_of_ble_eq_true rfl) d_RD_connection_1 (fun b _ _ hb => ⟨b, rfl, hb⟩)
end CALLS

