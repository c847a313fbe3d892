/-! calls that count -/
/-- the tables of a list, with the first like of each -/
def tabP (rs : Nat → Rl) (m : Nat) (cn : Nat → Nat) (cs ct wy lk : Nat → Nat → Nat) : Prop := (∀ f, f < 4 → cut_ok rs m f (cn f) (cs f) (ct f)) ∧ (∀ j x, j < 5 → x < 256 → wy j x = wyS rs m j x) ∧ (∀ s, s < 2 ^ m → lk 4 s = jds rs s) ∧ ∃ lk0 : Nat → Nat → Nat, ∀ f, f < 4 → lk f = lkr (wy f) (lk (f + 1)) (ct f) (cn f) (2 ^ m) (lk0 f)
def nodesP (rs : Nat → Rl) (m f V : Nat) : Prop := ∃ cn cs ct wy lk, tabP rs m cn cs ct wy lk ∧ V = sm (fun s => if ndo (wy f) (lk f) (lk (f + 1)) (ct f) (cn f) s = true then 1 else 0) (2 ^ m)
def edgesP (rs : Nat → Rl) (m V : Nat) : Prop := ∃ cn cs ct wy lk, tabP rs m cn cs ct wy lk ∧ V = sm (fun f => sm (fun s => if ndo (wy f) (lk f) (lk (f + 1)) (ct f) (cn f) s = true then rwo (fun r => lk (f + 1) (s &&& ct f r)) (cn f) else 0) (2 ^ m)) 4
def cntV (rs : Nat → Rl) (m v : Nat) : Nat := sm (fun s => if jds rs s = v then wyS rs m 4 s else 0) (2 ^ m)
def usdV (rs : Nat → Rl) (m i : Nat) : Nat := sm (fun s => if s ≠ 0 ∧ lb s = i then wyS rs m 4 s else 0) (2 ^ m)
theorem usd_lt (rs : Nat → Rl) (m i : Nat) : usdV rs m i < 2 ^ 31 := by
  have h1 := sm_le (f := fun s => if s ≠ 0 ∧ lb s = i then wyS rs m 4 s else 0) (g := wyS rs m 4) (n := 2 ^ m) (fun s _ => by split <;> omega)
  have h2 := wyS_all rs m 4 (2 ^ m)
  have h3 := prd_le 4 (by omega)
  unfold usdV
  omega
theorem fux_lt (r1 : Nat → Rl) (m1 : Nat) (r2 : Nat → Rl) (m2 : Nat) : ∀ k p s P, k < 5 → p < 2 ^ 28 → fux r1 m1 r2 m2 k p s = some P → P < 2 ^ 28 := by
  intro k
  induction k with
  | zero =>
    intro p s P _ hp h
    cases h
    exact hp
  | succ k ih =>
    intro p s P hk hp h
    unfold fux at h
    split at h
    · refine ih _ _ _ (by omega) ?_ h
      have hl := shf_lim (3 - k) (by omega)
      refine Nat.or_lt_two_pow hp (Nat.lt_of_lt_of_le (Nat.mul_lt_mul_of_pos_right (by assumption) (Nat.two_pow_pos _)) hl.2)
    · cases h
section CALLS2
variable {l : Launch} {E : gE} {N : Nat} {M : gM} {B tn : Nat} {ts : Nat → Nat} {mm : Nat → Nat} {rr : Nat → Nat → Rl} {gn : Nat} {gs : Nat → Nat}
theorem k_RD_count (h : OA E M B tn ts mm rr gn gs) (j v : Nat) (hj : j < 2) (hv : v < 3) : Ctr l E y_RD_count 7 [.ref B, .int (nI j), .int (nI v)] N M 0 0 (g_ret (fun w N' M' => w = some (.int (nI (cntV (rr j) (mm j) v))) ∧ N' = N ∧ OA E M' B tn ts mm rr gn gs ∧ ∀ x, (x < B ∨ B + 151 < x) → M' x = M x)) := by
  have h0 := h
  obtain ⟨⟨h1, h2, fb, h3, h4⟩, -, -, h5, h6, -⟩ := h
  have hl := h5 j hj
  have hm := hl.2.1
  obtain ⟨⟨S, d1⟩, ⟨cn, cs, ct, d2⟩, ⟨wy, d3⟩, lk, d4, d5⟩ := h6 j hj
  have d1a := d1.1
  refine ctr_of [some (.ref B), some (.int (nI j)), some (.int (nI v))] (by decide) w_738 rfl rfl (Nat.le_of_ble_eq_true rfl) (fun Γ => ?_)
  refine g_aload_n d_RD_count_0 rfl ?_
  refine g_iload_n d_RD_count_1 rfl ?_
  refine g_callV s_RD_84 sv_RD_requireList (by assumption) rfl (g_of_val (k_RD_requireList j hj)) (by omega) rfl (by omega) (by omega) rfl (Nat.le_of_ble_eq_true rfl) d_RD_count_2 ?_
  rintro _ _ _ ⟨rfl, rfl, rfl⟩
  refine g_iload_n d_RD_count_5 rfl ?_
  refine g_ifN_lt (tgt := 14) d_RD_count_6 (by decide) (by omega) (fun hb_6 => ?_) (fun hb_6 => ?_)
  · exact hb_6.elim
  refine g_iload_n d_RD_count_9 rfl ?_
  refine g_iconst (v := nI 3) d_RD_count_10 (by decide) ?_
  refine g_icmpN_lt (tgt := 24) d_RD_count_11 (by decide) (by omega) (by omega) (fun hb_11 => ?_) (fun hb_11 => ?_)
  · refine g_aload_n d_RD_count_24 rfl ?_
    refine g_get f_RD_33 (by assumption) rfl d_RD_count_25 ?_
    refine g_iload_n d_RD_count_28 rfl ?_
    refine g_aald j (by assumption) rfl rfl rfl hj (by decide) (h4 j hj) d_RD_count_29 ?_
    refine g_callV s_RD_139 sv_Di_compile (by assumption) rfl (k_Di_compile d1 hl (by omega) d2 d3) (by omega) rfl (by omega) (by omega) rfl (Nat.le_of_ble_eq_true rfl) d_RD_count_30 ?_
    rintro v' N' M1 ⟨rfl, rfl, c1, ⟨cn', cs', ct', c2, c3⟩, ⟨wy', c4, c5⟩, hf1⟩
    have c1a := c1.1
    have h1' := (hf1 B (by omega)).trans h1
    have h3' := (hf1 (B + 31) (by omega)).trans h3
    have hl' := hl.kept (M' := M1) (fun x _ _ => hf1 x (by omega))
    have hOA : OA E M1 B tn ts mm rr gn gs := h0.diag hj ⟨⟨_, c1⟩, ⟨cn', cs', ct', c2⟩, ⟨wy', c4⟩, lk, d4.kept (fun x _ _ => hf1 x (by omega)), d5⟩ (fun x hx => hf1 x (by omega))
    refine g_aload_n d_RD_count_33 rfl ?_
    refine g_get f_RD_33 (by assumption) rfl d_RD_count_34 ?_
    refine g_iload_n d_RD_count_37 rfl ?_
    refine g_aald j (by assumption) rfl rfl rfl hj (by decide) (h4 j hj) d_RD_count_38 ?_
    refine g_iload_n d_RD_count_39 rfl ?_
    refine g_callV s_RD_142 sv_Di_packetsWith (by assumption) rfl (g_of_val (k_Di_packetsWith c1 hl' rfl c4 v (by omega))) (by omega) rfl (by omega) (by omega) rfl (Nat.le_of_ble_eq_true rfl) d_RD_count_40 ?_
    rintro _ _ _ ⟨rfl, rfl, rfl⟩
    refine g_eqi (z := nI (cntV (rr j) (mm j) v)) (by
      unfold cntV
      refine congrArg nI (sm_congr (fun s hs => ?_))
      have : 2 ^ mm j ≤ 2 ^ 8 := Nat.pow_le_pow_right (by omega) hm
      rw [c5 4 s (by omega) (by omega)]) ?_
    exact g_ireturn rfl rfl (by omega) (by omega) d_RD_count_43 ⟨_, rfl, rfl, rfl, hOA, fun x hx => hf1 x (by omega)⟩
  · omega
theorem x_RD_count (h : OA E M B tn ts mm rr gn gs) (j : Nat) (hj : j < 2) (x : Int32) (hx : noN x 3) : Ctr l E y_RD_count 7 [.ref B, .int (nI j), .int x] N M 1 6 (t_thr 11 N M) := by
  have hB := h.1.1
  rcases hx with hx | ⟨w, rfl, w1, w2⟩
  · refine ctr_of [some (.ref B), some (.int (nI j)), some (.int x)] (by decide) w_738 rfl rfl (Nat.le_of_ble_eq_true rfl) (fun Γ => ?_)
    refine g_aload_n d_RD_count_0 rfl ?_
    refine g_iload_n d_RD_count_1 rfl ?_
    refine g_callV s_RD_84 sv_RD_requireList (by assumption) rfl (g_of_val (k_RD_requireList j hj)) (by omega) rfl (by omega) (by omega) rfl (Nat.le_of_ble_eq_true rfl) d_RD_count_2 ?_
    rintro _ _ _ ⟨rfl, rfl, rfl⟩
    refine g_iload_n d_RD_count_5 rfl ?_
    refine g_if_lt (tgt := 14) d_RD_count_6 (by decide) (fun hb => ?_) (fun hb => absurd hx hb)
    exact g_throw (i := 14) xa_Iae rfl rfl (by decide) w_328 w_329 w_15 rfl (by decide) (by omega) (by omega) (Nat.le_of_ble_eq_true rfl) d_RD_count_14 d_RD_count_17 d_RD_count_18 d_RD_count_20 d_RD_count_23 ⟨_, rfl, rfl, rfl, rfl⟩
  · refine ctr_of [some (.ref B), some (.int (nI j)), some (.int (nI w))] (by decide) w_738 rfl rfl (Nat.le_of_ble_eq_true rfl) (fun Γ => ?_)
    refine g_aload_n d_RD_count_0 rfl ?_
    refine g_iload_n d_RD_count_1 rfl ?_
    refine g_callV s_RD_84 sv_RD_requireList (by assumption) rfl (g_of_val (k_RD_requireList j hj)) (by omega) rfl (by omega) (by omega) rfl (Nat.le_of_ble_eq_true rfl) d_RD_count_2 ?_
    rintro _ _ _ ⟨rfl, rfl, rfl⟩
    refine g_iload_n d_RD_count_5 rfl ?_
    refine g_ifN_lt (tgt := 14) d_RD_count_6 (by decide) (by omega) (fun hb_6 => ?_) (fun hb_6 => ?_)
    · exact hb_6.elim
    refine g_iload_n d_RD_count_9 rfl ?_
    refine g_iconst (v := nI 3) d_RD_count_10 (by decide) ?_
    refine g_icmpN_lt (tgt := 24) d_RD_count_11 (by decide) (by omega) (by omega) (fun hb_11 => ?_) (fun hb_11 => ?_)
    · omega
    · exact g_throw (i := 14) xa_Iae rfl rfl (by decide) w_328 w_329 w_15 rfl (by decide) (by omega) (by omega) (Nat.le_of_ble_eq_true rfl) d_RD_count_14 d_RD_count_17 d_RD_count_18 d_RD_count_20 d_RD_count_23 ⟨_, rfl, rfl, rfl, rfl⟩
theorem xl_RD_count (h : OA E M B tn ts mm rr gn gs) (x y : Int32) (hx : noN x 2) : Ctr l E y_RD_count 7 [.ref B, .int x, .int y] N M 1 6 (t_thr 13 N M) := by
  have hB := h.1.1
  refine ctr_of [some (.ref B), some (.int x), some (.int y)] (by decide) w_738 rfl rfl (Nat.le_of_ble_eq_true rfl) (fun Γ => ?_)
  refine g_aload_n d_RD_count_0 rfl ?_
  refine g_iload_n d_RD_count_1 rfl ?_
  exact g_thrV s_RD_84 sv_RD_requireList (by assumption) rfl (x_RD_requireList x hx) (by omega) rfl (by omega) (by omega) rfl (Nat.le_of_ble_eq_true rfl) d_RD_count_2 (fun b _ _ hb => ⟨b, rfl, hb⟩)
theorem k_RD_used (h : OA E M B tn ts mm rr gn gs) (j i : Nat) (hj : j < 2) (hi : i < mm j) : Ctr l E y_RD_used 8 [.ref B, .int (nI j), .int (nI i)] N M 0 0 (g_ret (fun w N' M' => w = some (.int (nI (usdV (rr j) (mm j) i))) ∧ N' = N ∧ OA E M' B tn ts mm rr gn gs ∧ ∀ x, (x < B ∨ B + 151 < x) → M' x = M x)) := by
  have h0 := h
  obtain ⟨⟨h1, h2, fb, h3, h4⟩, -, -, h5, h6, -⟩ := h
  have hl := h5 j hj
  have hm := hl.2.1
  have hS2 : 2 ^ mm j ≤ 256 := Nat.pow_le_pow_right (by omega) hm
  obtain ⟨⟨S, d1⟩, ⟨cn, cs, ct, d2⟩, ⟨wy, d3⟩, lk, d4, d5⟩ := h6 j hj
  have d1a := d1.1
  refine ctr_of [some (.ref B), some (.int (nI j)), some (.int (nI i))] (by decide) w_846 rfl rfl (Nat.le_of_ble_eq_true rfl) (fun Γ => ?_)
  refine g_aload_n d_RD_used_0 rfl ?_
  refine g_iload_n d_RD_used_1 rfl ?_
  refine g_iload_n d_RD_used_2 rfl ?_
  refine g_callV s_RD_103 sv_RD_requireRule (by assumption) rfl (g_of_val (k_RD_requireRule h0 j i hj hi)) (by omega) rfl (by omega) (by omega) rfl (Nat.le_of_ble_eq_true rfl) d_RD_used_3 ?_
  rintro _ _ _ ⟨rfl, rfl, rfl⟩
  refine g_aload_n d_RD_used_6 rfl ?_
  refine g_get f_RD_33 (by assumption) rfl d_RD_used_7 ?_
  refine g_iload_n d_RD_used_10 rfl ?_
  refine g_aald j (by assumption) rfl rfl rfl hj (by decide) (h4 j hj) d_RD_used_11 ?_
  refine g_callV s_RD_139 sv_Di_compile (by assumption) rfl (k_Di_compile d1 hl (by omega) d2 d3) (by omega) rfl (by omega) (by omega) rfl (Nat.le_of_ble_eq_true rfl) d_RD_used_12 ?_
  rintro v' N' M1 ⟨rfl, rfl, c1, ⟨cn', cs', ct', c2, c3⟩, ⟨wy', c4, c5⟩, hf1⟩
  have c1a := c1.1
  have h1' := (hf1 B (by omega)).trans h1
  have h3' := (hf1 (B + 31) (by omega)).trans h3
  have hOA : OA E M1 B tn ts mm rr gn gs := h0.diag hj ⟨⟨_, c1⟩, ⟨cn', cs', ct', c2⟩, ⟨wy', c4⟩, lk, d4.kept (fun x _ _ => hf1 x (by omega)), d5⟩ (fun x hx => hf1 x (by omega))
  refine g_aload_n d_RD_used_15 rfl ?_
  refine g_get f_RD_33 (by assumption) rfl d_RD_used_16 ?_
  refine g_iload_n d_RD_used_19 rfl ?_
  refine g_aald j (by assumption) rfl rfl rfl hj (by decide) (h4 j hj) d_RD_used_20 ?_
  refine g_iload_n d_RD_used_21 rfl ?_
  refine g_callV s_RD_168 sv_Di_packetsOf (by assumption) rfl (g_of_val (k_Di_packetsOf c1 hS2 (Nat.two_pow_pos _) c4 i (by omega))) (by omega) rfl (by omega) (by omega) rfl (Nat.le_of_ble_eq_true rfl) d_RD_used_22 ?_
  rintro _ _ _ ⟨rfl, rfl, rfl⟩
  refine g_eqi (z := nI (usdV (rr j) (mm j) i)) (by
    unfold usdV
    refine congrArg nI (sm_congr (fun s hs => ?_))
    rw [c5 4 s (by omega) (by omega)]) ?_
  exact g_ireturn rfl rfl (by omega) (by omega) d_RD_used_25 ⟨_, rfl, rfl, rfl, hOA, fun x hx => hf1 x (by omega)⟩
theorem x_RD_used (h : OA E M B tn ts mm rr gn gs) (j : Nat) (hj : j < 2) (x : Int32) (hx : noN x (mm j)) : Ctr l E y_RD_used 8 [.ref B, .int (nI j), .int x] N M 1 6 (t_thr 11 N M) := by
  have hB := h.1.1
  refine ctr_of [some (.ref B), some (.int (nI j)), some (.int x)] (by decide) w_846 rfl rfl (Nat.le_of_ble_eq_true rfl) (fun Γ => ?_)
  refine g_aload_n d_RD_used_0 rfl ?_
  refine g_iload_n d_RD_used_1 rfl ?_
  refine g_iload_n d_RD_used_2 rfl ?_
  exact g_thrV s_RD_103 sv_RD_requireRule (by assumption) rfl (x_RD_requireRule h j hj x hx) (by omega) rfl (by omega) (by omega) rfl (Nat.le_of_ble_eq_true rfl) d_RD_used_3 (fun b _ _ hb => ⟨b, rfl, hb⟩)
theorem xl_RD_used (h : OA E M B tn ts mm rr gn gs) (x y : Int32) (hx : noN x 2) : Ctr l E y_RD_used 8 [.ref B, .int x, .int y] N M 1 6 (t_thr 13 N M) := by
  have hB := h.1.1
  refine ctr_of [some (.ref B), some (.int x), some (.int y)] (by decide) w_846 rfl rfl (Nat.le_of_ble_eq_true rfl) (fun Γ => ?_)
  refine g_aload_n d_RD_used_0 rfl ?_
  refine g_iload_n d_RD_used_1 rfl ?_
  refine g_iload_n d_RD_used_2 rfl ?_
  exact g_thrV s_RD_103 sv_RD_requireRule (by assumption) rfl (xl_RD_requireRule h x y hx) (by omega) rfl (by omega) (by omega) rfl (Nat.le_of_ble_eq_true rfl) d_RD_used_3 (fun b _ _ hb => ⟨b, rfl, hb⟩)
theorem k_RD_nodes (h : OA E M B tn ts mm rr gn gs) (j f : Nat) (hj : j < 2) (hf : f < 4) : Ctr l E y_RD_nodes 7 [.ref B, .int (nI j), .int (nI f)] N M 0 0 (g_ret (fun w N' M' => (∃ V, w = some (.int (nI V)) ∧ nodesP (rr j) (mm j) f V) ∧ N' = N ∧ OA E M' B tn ts mm rr gn gs ∧ ∀ x, (x < B ∨ B + 151 < x) → M' x = M x)) := by
  have h0 := h
  obtain ⟨⟨h1, h2, fb, h3, h4⟩, -, -, h5, h6, -⟩ := h
  have hl := h5 j hj
  have hm := hl.2.1
  have hS2 : 2 ^ mm j ≤ 256 := Nat.pow_le_pow_right (by omega) hm
  obtain ⟨⟨S, d1⟩, ⟨cn, cs, ct, d2⟩, ⟨wy, d3⟩, lk, d4, d5⟩ := h6 j hj
  have d1a := d1.1
  refine ctr_of [some (.ref B), some (.int (nI j)), some (.int (nI f))] (by decide) w_775 rfl rfl (Nat.le_of_ble_eq_true rfl) (fun Γ => ?_)
  refine g_aload_n d_RD_nodes_0 rfl ?_
  refine g_iload_n d_RD_nodes_1 rfl ?_
  refine g_callV s_RD_84 sv_RD_requireList (by assumption) rfl (g_of_val (k_RD_requireList j hj)) (by omega) rfl (by omega) (by omega) rfl (Nat.le_of_ble_eq_true rfl) d_RD_nodes_2 ?_
  rintro _ _ _ ⟨rfl, rfl, rfl⟩
  refine g_iload_n d_RD_nodes_5 rfl ?_
  refine g_callS s_RD_145 sv_RD_requireField (g_of_val (k_RD_requireField f hf)) (by omega) rfl (by omega) (by omega) rfl (Nat.le_of_ble_eq_true rfl) d_RD_nodes_6 ?_
  rintro _ _ _ ⟨rfl, rfl, rfl⟩
  refine g_aload_n d_RD_nodes_9 rfl ?_
  refine g_get f_RD_33 (by assumption) rfl d_RD_nodes_10 ?_
  refine g_iload_n d_RD_nodes_13 rfl ?_
  refine g_aald j (by assumption) rfl rfl rfl hj (by decide) (h4 j hj) d_RD_nodes_14 ?_
  refine g_callV s_RD_139 sv_Di_compile (by assumption) rfl (k_Di_compile d1 hl (by omega) d2 d3) (by omega) rfl (by omega) (by omega) rfl (Nat.le_of_ble_eq_true rfl) d_RD_nodes_15 ?_
  rintro v' N' M1 ⟨rfl, rfl, c1, ⟨cn', cs', ct', c2, c3⟩, ⟨wy', c4, c5⟩, hf1⟩
  have c1a := c1.1
  have h1' := (hf1 B (by omega)).trans h1
  have h3' := (hf1 (B + 31) (by omega)).trans h3
  have hl' := hl.kept (M' := M1) (fun x _ _ => hf1 x (by omega))
  have hwy : ∀ f x, f < 4 → x < 256 → wy' f x < 2 ^ 31 := fun f x hf hx => by rw [c5 f x (by omega) hx]; exact wyS_lt _ _ _ _ (by omega)
  refine g_aload_n d_RD_nodes_18 rfl ?_
  refine g_get f_RD_33 (by assumption) rfl d_RD_nodes_19 ?_
  refine g_iload_n d_RD_nodes_22 rfl ?_
  refine g_aald j (by assumption) rfl rfl rfl hj (by decide) (h4 j hj) d_RD_nodes_23 ?_
  refine g_callV s_RD_148 sv_Di_uniteTables (by assumption) rfl (k_Di_uniteTables c1 hl' rfl (by omega) c2 c4 (d4.kept (fun x _ _ => hf1 x (by omega))) hwy d5) (by omega) rfl (by omega) (by omega) rfl (Nat.le_of_ble_eq_true rfl) d_RD_nodes_24 ?_
  rintro v' N' M2 ⟨rfl, rfl, ⟨lk', e1, e2, e3, e4⟩, hf2⟩
  have c1' := c1.kept (M' := M2) (fun x hx => hf2 x (by omega))
  have c1'a := c1'.1
  have c2' := c2.kept (M' := M2) (fun x _ _ => hf2 x (by omega))
  have c4' := c4.kept (M' := M2) (fun x _ _ => hf2 x (by omega))
  have h1'' := (hf2 B (by omega)).trans h1'
  have h3'' := (hf2 (B + 31) (by omega)).trans h3'
  have hOA : OA E M2 B tn ts mm rr gn gs := h0.diag hj ⟨⟨_, c1'⟩, ⟨cn', cs', ct', c2'⟩, ⟨wy', c4'⟩, lk', e1, e2⟩ (fun x hx => (hf2 x (by omega)).trans (hf1 x (by omega)))
  refine g_aload_n d_RD_nodes_27 rfl ?_
  refine g_get f_RD_33 (by assumption) rfl d_RD_nodes_28 ?_
  refine g_iload_n d_RD_nodes_31 rfl ?_
  refine g_aald j (by assumption) rfl rfl rfl hj (by decide) (h4 j hj) d_RD_nodes_32 ?_
  refine g_iload_n d_RD_nodes_33 rfl ?_
  refine g_callV s_RD_151 sv_Di_nodesOf (by assumption) rfl (g_of_val (k_Di_nodesOf c1' hS2 c2' c4' e1 f hf (fun x hx => hwy f x hf hx) (fun x hx => e2 (f + 1) x (by omega) hx) (fun x hx => e2 f x (by omega) hx))) (by omega) rfl (by omega) (by omega) rfl (Nat.le_of_ble_eq_true rfl) d_RD_nodes_34 ?_
  rintro _ _ _ ⟨rfl, rfl, rfl⟩
  exact g_ireturn rfl rfl (by omega) (by omega) d_RD_nodes_37 ⟨_, rfl, ⟨_, rfl, cn', cs', ct', wy', lk', ⟨c3, c5, e3, lk, e4⟩, rfl⟩, rfl, hOA, fun x hx => (hf2 x (by omega)).trans (hf1 x (by omega))⟩
theorem xl_RD_nodes (h : OA E M B tn ts mm rr gn gs) (x y : Int32) (hx : noN x 2) : Ctr l E y_RD_nodes 7 [.ref B, .int x, .int y] N M 1 6 (t_thr 13 N M) := by
  have hB := h.1.1
  refine ctr_of [some (.ref B), some (.int x), some (.int y)] (by decide) w_775 rfl rfl (Nat.le_of_ble_eq_true rfl) (fun Γ => ?_)
  refine g_aload_n d_RD_nodes_0 rfl ?_
  refine g_iload_n d_RD_nodes_1 rfl ?_
  exact g_thrV s_RD_84 sv_RD_requireList (by assumption) rfl (x_RD_requireList x hx) (by omega) rfl (by omega) (by omega) rfl (Nat.le_of_ble_eq_true rfl) d_RD_nodes_2 (fun b _ _ hb => ⟨b, rfl, hb⟩)
theorem x_RD_nodes (h : OA E M B tn ts mm rr gn gs) (j : Nat) (hj : j < 2) (x : Int32) (hx : noN x 4) : Ctr l E y_RD_nodes 7 [.ref B, .int (nI j), .int x] N M 1 6 (t_thr 11 N M) := by
  have hB := h.1.1
  refine ctr_of [some (.ref B), some (.int (nI j)), some (.int x)] (by decide) w_775 rfl rfl (Nat.le_of_ble_eq_true rfl) (fun Γ => ?_)
  refine g_aload_n d_RD_nodes_0 rfl ?_
  refine g_iload_n d_RD_nodes_1 rfl ?_
  refine g_callV s_RD_84 sv_RD_requireList (by assumption) rfl (g_of_val (k_RD_requireList j hj)) (by omega) rfl (by omega) (by omega) rfl (Nat.le_of_ble_eq_true rfl) d_RD_nodes_2 ?_
  rintro _ _ _ ⟨rfl, rfl, rfl⟩
  refine g_iload_n d_RD_nodes_5 rfl ?_
  exact g_thrS s_RD_145 sv_RD_requireField (x_RD_requireField x hx) (by omega) rfl (by omega) (by omega) rfl (Nat.le_of_ble_eq_true rfl) d_RD_nodes_6 (fun b _ _ hb => ⟨b, rfl, hb⟩)
theorem k_RD_edges (h : OA E M B tn ts mm rr gn gs) (j : Nat) (hj : j < 2) : Ctr l E y_RD_edges 7 [.ref B, .int (nI j)] N M 0 0 (g_ret (fun w N' M' => (∃ V, w = some (.int (nI V)) ∧ edgesP (rr j) (mm j) V) ∧ N' = N ∧ OA E M' B tn ts mm rr gn gs ∧ ∀ x, (x < B ∨ B + 151 < x) → M' x = M x)) := by
  have h0 := h
  obtain ⟨⟨h1, h2, fb, h3, h4⟩, -, -, h5, h6, -⟩ := h
  have hl := h5 j hj
  have hm := hl.2.1
  have hS2 : 2 ^ mm j ≤ 256 := Nat.pow_le_pow_right (by omega) hm
  obtain ⟨⟨S, d1⟩, ⟨cn, cs, ct, d2⟩, ⟨wy, d3⟩, lk, d4, d5⟩ := h6 j hj
  have d1a := d1.1
  refine ctr_of [some (.ref B), some (.int (nI j)), none, none] (by decide) w_814 rfl rfl (Nat.le_of_ble_eq_true rfl) (fun Γ => ?_)
  refine g_aload_n d_RD_edges_0 rfl ?_
  refine g_iload_n d_RD_edges_1 rfl ?_
  refine g_callV s_RD_84 sv_RD_requireList (by assumption) rfl (g_of_val (k_RD_requireList j hj)) (by omega) rfl (by omega) (by omega) rfl (Nat.le_of_ble_eq_true rfl) d_RD_edges_2 ?_
  rintro _ _ _ ⟨rfl, rfl, rfl⟩
  refine g_aload_n d_RD_edges_5 rfl ?_
  refine g_get f_RD_33 (by assumption) rfl d_RD_edges_6 ?_
  refine g_iload_n d_RD_edges_9 rfl ?_
  refine g_aald j (by assumption) rfl rfl rfl hj (by decide) (h4 j hj) d_RD_edges_10 ?_
  refine g_callV s_RD_139 sv_Di_compile (by assumption) rfl (k_Di_compile d1 hl (by omega) d2 d3) (by omega) rfl (by omega) (by omega) rfl (Nat.le_of_ble_eq_true rfl) d_RD_edges_11 ?_
  rintro v' N' M1 ⟨rfl, rfl, c1, ⟨cn', cs', ct', c2, c3⟩, ⟨wy', c4, c5⟩, hf1⟩
  have c1a := c1.1
  have h1' := (hf1 B (by omega)).trans h1
  have h3' := (hf1 (B + 31) (by omega)).trans h3
  have hl' := hl.kept (M' := M1) (fun x _ _ => hf1 x (by omega))
  have hwy : ∀ f x, f < 4 → x < 256 → wy' f x < 2 ^ 31 := fun f x hf hx => by rw [c5 f x (by omega) hx]; exact wyS_lt _ _ _ _ (by omega)
  refine g_aload_n d_RD_edges_14 rfl ?_
  refine g_get f_RD_33 (by assumption) rfl d_RD_edges_15 ?_
  refine g_iload_n d_RD_edges_18 rfl ?_
  refine g_aald j (by assumption) rfl rfl rfl hj (by decide) (h4 j hj) d_RD_edges_19 ?_
  refine g_callV s_RD_148 sv_Di_uniteTables (by assumption) rfl (k_Di_uniteTables c1 hl' rfl (by omega) c2 c4 (d4.kept (fun x _ _ => hf1 x (by omega))) hwy d5) (by omega) rfl (by omega) (by omega) rfl (Nat.le_of_ble_eq_true rfl) d_RD_edges_20 ?_
  rintro v' N' M2 ⟨rfl, rfl, ⟨lk', e1, e2, e3, e4⟩, hf2⟩
  have c1' := c1.kept (M' := M2) (fun x hx => hf2 x (by omega))
  have c1'a := c1'.1
  have c2' := c2.kept (M' := M2) (fun x _ _ => hf2 x (by omega))
  have c4' := c4.kept (M' := M2) (fun x _ _ => hf2 x (by omega))
  have h1'' := (hf2 B (by omega)).trans h1'
  have h3'' := (hf2 (B + 31) (by omega)).trans h3'
  have hOA : OA E M2 B tn ts mm rr gn gs := h0.diag hj ⟨⟨_, c1'⟩, ⟨cn', cs', ct', c2'⟩, ⟨wy', c4'⟩, lk', e1, e2⟩ (fun x hx => (hf2 x (by omega)).trans (hf1 x (by omega)))
  refine g_iconst (v := nI 0) d_RD_edges_23 (by decide) ?_
  refine g_istore_n d_RD_edges_24 (by decide) ?_
  refine g_iconst (v := nI 0) d_RD_edges_25 (by decide) ?_
  refine g_istore_n d_RD_edges_26 (by decide) ?_
  refine g_for (P := fun i => G _ _ _ _ _ _ _ _ _ _ _ _ 27 [some (.ref B), some (.int (nI j)), some (.int (nI (sm (fun f => sm (fun s => if ndo (wy' f) (lk' f) (lk' (f + 1)) (ct' f) (cn' f) s = true then rwo (fun r => lk' (f + 1) (s &&& ct' f r)) (cn' f) else 0) (2 ^ mm j)) i))), some (.int (nI i))] [] _ M2 0 0) (e := 4) ?_ ?_ 0 (by omega)
  · refine g_iload_n d_RD_edges_27 rfl ?_
    refine g_iconst (v := nI 4) d_RD_edges_28 (by decide) ?_
    refine g_icmpN_ge (tgt := 51) d_RD_edges_29 (by decide) (by omega) (by omega) (fun hb_29 => ?_) (fun hb_29 => ?_)
    · refine g_iload_n d_RD_edges_51 rfl ?_
      exact g_ireturn rfl rfl (by omega) (by omega) d_RD_edges_52 ⟨_, rfl, ⟨_, rfl, cn', cs', ct', wy', lk', ⟨c3, c5, e3, lk, e4⟩, rfl⟩, rfl, hOA, fun x hx => (hf2 x (by omega)).trans (hf1 x (by omega))⟩
    · omega
  · intro f hf ih
    refine g_iload_n d_RD_edges_27 rfl ?_
    refine g_iconst (v := nI 4) d_RD_edges_28 (by decide) ?_
    refine g_icmpN_ge (tgt := 51) d_RD_edges_29 (by decide) (by omega) (by omega) (fun hb_29 => ?_) (fun hb_29 => ?_)
    · omega
    refine g_iload_n d_RD_edges_32 rfl ?_
    refine g_aload_n d_RD_edges_33 rfl ?_
    refine g_get f_RD_33 (by assumption) rfl d_RD_edges_34 ?_
    refine g_iload_n d_RD_edges_37 rfl ?_
    refine g_aald j (by assumption) rfl rfl rfl hj (by decide) (h4 j hj) d_RD_edges_38 ?_
    refine g_iload_n d_RD_edges_39 rfl ?_
    refine g_callV s_RD_154 sv_Di_edgesOf (by assumption) rfl (g_of_val (k_Di_edgesOf c1' hS2 c2' c4' e1 f hf (fun x hx => hwy f x hf hx) (fun x hx => e2 (f + 1) x (by omega) hx) (fun x hx => e2 f x (by omega) hx))) (by omega) rfl (by omega) (by omega) rfl (Nat.le_of_ble_eq_true rfl) d_RD_edges_40 ?_
    rintro _ _ _ ⟨rfl, rfl, rfl⟩
    refine g_iadd d_RD_edges_43 ?_
    refine g_eqi (nI_add _ _) ?_
    refine g_istore_n d_RD_edges_44 (by decide) ?_
    refine g_iinc1 d_RD_edges_45 rfl (by decide) ?_
    refine g_goto (tgt := 27) d_RD_edges_48 (by decide) ?_
    exact ih
theorem x_RD_edges (h : OA E M B tn ts mm rr gn gs) (x : Int32) (hx : noN x 2) : Ctr l E y_RD_edges 7 [.ref B, .int x] N M 1 6 (t_thr 13 N M) := by
  have hB := h.1.1
  refine ctr_of [some (.ref B), some (.int x), none, none] (by decide) w_814 rfl rfl (Nat.le_of_ble_eq_true rfl) (fun Γ => ?_)
  refine g_aload_n d_RD_edges_0 rfl ?_
  refine g_iload_n d_RD_edges_1 rfl ?_
  exact g_thrV s_RD_84 sv_RD_requireList (by assumption) rfl (x_RD_requireList x hx) (by omega) rfl (by omega) (by omega) rfl (Nat.le_of_ble_eq_true rfl) d_RD_edges_2 (fun b _ _ hb => ⟨b, rfl, hb⟩)
theorem k_RD_differing (h : OA E M B tn ts mm rr gn gs) : Ctr l E y_RD_differing 10 [.ref B] N M 0 0 (g_ret (fun w N' M' => w = some (.int (nI (ul (rr 0) (mm 0) (rr 1) (mm 1) 4 65535))) ∧ N' = N ∧ OA E M' B tn ts mm rr gn gs ∧ ∀ x, (x < B ∨ B + 151 < x) → M' x = M x)) := by
  have h0 := h
  obtain ⟨⟨h1, h2⟩, -, -, h5, -, ⟨h6, cn, cs, ct, h7⟩, -⟩ := h
  have hA := h5 0 (by omega)
  have hB := h5 1 (by omega)
  have h6a := h6.1
  refine ctr_of [some (.ref B)] (by decide) w_215 rfl rfl (Nat.le_of_ble_eq_true rfl) (fun Γ => ?_)
  refine g_aload_n d_RD_differing_0 rfl ?_
  refine g_get f_RD_46 (by assumption) rfl d_RD_differing_1 ?_
  refine g_callV s_RD_157 sv_Co_compile (by assumption) rfl (k_Co_compile h6 hA hB (by omega) (by omega) h7) (by omega) rfl (by omega) (by omega) rfl (Nat.le_of_ble_eq_true rfl) d_RD_differing_4 ?_
  rintro v' N' M1 ⟨rfl, rfl, ⟨cn', cs', ct', c1, c2⟩, hf1⟩
  have h1' := (hf1 B (by omega)).trans h1
  have h6' := h6.kept (M' := M1) (fun x hx => hf1 x (by omega))
  have h6'a := h6'.1
  have hA' := hA.kept (M' := M1) (fun x _ _ => hf1 x (by omega))
  have hB' := hB.kept (M' := M1) (fun x _ _ => hf1 x (by omega))
  refine g_aload_n d_RD_differing_7 rfl ?_
  refine g_get f_RD_46 (by assumption) rfl d_RD_differing_8 ?_
  refine g_callV s_RD_158 sv_Co_unlikePackets (by assumption) rfl (g_of_val (k_Co_unlikePackets h6' hA' hB' c1 c2)) (by omega) rfl (by omega) (by omega) rfl (Nat.le_of_ble_eq_true rfl) d_RD_differing_11 ?_
  rintro _ _ _ ⟨rfl, rfl, rfl⟩
  exact g_ireturn rfl rfl (by omega) (by omega) d_RD_differing_14 ⟨_, rfl, rfl, rfl, h0.comp ⟨h6', cn', cs', ct', c1⟩ (fun x hx => hf1 x (by omega)), fun x hx => hf1 x (by omega)⟩
def witV (o : Option Nat) (f : Nat) : Int32 := match o with | some p => nI (pv p f) | none => -1
theorem k_RD_witness (h : OA E M B tn ts mm rr gn gs) (f : Nat) (hf : f < 4) : Ctr l E y_RD_witness 11 [.ref B, .int (nI f)] N M 0 0 (g_ret (fun w N' M' => w = some (.int (witV (fux (rr 0) (mm 0) (rr 1) (mm 1) 4 0 65535) f)) ∧ N' = N ∧ OA E M' B tn ts mm rr gn gs ∧ ∀ x, (x < B ∨ B + 151 < x) → M' x = M x)) := by
  have h0 := h
  obtain ⟨⟨h1, h2⟩, -, -, h5, -, ⟨h6, cn, cs, ct, h7⟩, -⟩ := h
  have hA := h5 0 (by omega)
  have hB := h5 1 (by omega)
  have h6a := h6.1
  have hXl := fux_lt (rr 0) (mm 0) (rr 1) (mm 1) 4 0 65535
  refine ctr_of [some (.ref B), some (.int (nI f)), none] (by decide) w_825 rfl rfl (Nat.le_of_ble_eq_true rfl) (fun Γ => ?_)
  refine g_iload_n d_RD_witness_0 rfl ?_
  refine g_callS s_RD_145 sv_RD_requireField (g_of_val (k_RD_requireField f hf)) (by omega) rfl (by omega) (by omega) rfl (Nat.le_of_ble_eq_true rfl) d_RD_witness_1 ?_
  rintro _ _ _ ⟨rfl, rfl, rfl⟩
  refine g_aload_n d_RD_witness_4 rfl ?_
  refine g_get f_RD_46 (by assumption) rfl d_RD_witness_5 ?_
  refine g_callV s_RD_157 sv_Co_compile (by assumption) rfl (k_Co_compile h6 hA hB (by omega) (by omega) h7) (by omega) rfl (by omega) (by omega) rfl (Nat.le_of_ble_eq_true rfl) d_RD_witness_8 ?_
  rintro v' N' M1 ⟨rfl, rfl, ⟨cn', cs', ct', c1, c2⟩, hf1⟩
  have h1' := (hf1 B (by omega)).trans h1
  have h6' := h6.kept (M' := M1) (fun x hx => hf1 x (by omega))
  have h6'a := h6'.1
  have hA' := hA.kept (M' := M1) (fun x _ _ => hf1 x (by omega))
  have hB' := hB.kept (M' := M1) (fun x _ _ => hf1 x (by omega))
  have hOA := h0.comp ⟨h6', cn', cs', ct', c1⟩ (fun x hx => hf1 x (by omega))
  have hfr : ∀ x, (x < B ∨ B + 151 < x) → M1 x = M x := fun x hx => hf1 x (by omega)
  have hcall := fun (N : Nat) => k_Co_firstUnlike (l := l) (N := N) h6' hA' hB' c1 c2
  generalize fux (rr 0) (mm 0) (rr 1) (mm 1) 4 0 65535 = X at hXl hcall ⊢
  refine g_aload_n d_RD_witness_11 rfl ?_
  refine g_get f_RD_46 (by assumption) rfl d_RD_witness_12 ?_
  refine g_callV s_RD_161 sv_Co_firstUnlike (by assumption) rfl (g_of_val (hcall _)) (by omega) rfl (by omega) (by omega) rfl (Nat.le_of_ble_eq_true rfl) d_RD_witness_15 ?_
  rintro _ _ _ ⟨rfl, rfl, rfl⟩
  refine g_istore_n d_RD_witness_18 (by decide) ?_
  refine g_iload_n d_RD_witness_19 rfl ?_
  refine g_iconst (v := -1) d_RD_witness_20 (by decide) ?_
  cases X with
  | none =>
    refine g_icmp_ne (tgt := 28) d_RD_witness_21 (by decide) (fun hb => absurd rfl hb) (fun hb => ?_)
    refine g_iconst (v := -1) d_RD_witness_24 (by decide) ?_
    refine g_goto (tgt := 33) d_RD_witness_25 (by decide) ?_
    exact g_ireturn rfl rfl (by omega) (by omega) d_RD_witness_33 ⟨_, rfl, rfl, rfl, hOA, hfr⟩
  | some p =>
    have hp := hXl p (by omega) (by omega) rfl
    refine g_icmp_ne (tgt := 28) d_RD_witness_21 (by decide) (fun hb => ?_) (fun hb => absurd (congrArg Int32.toInt hb) (by show ¬ (nI p).toInt = _; rw [nI_toInt (by omega)]; show ¬ ((p : Nat) : Int) = -1; omega))
    refine g_iload_n d_RD_witness_28 rfl ?_
    refine g_iload_n d_RD_witness_29 rfl ?_
    refine g_callS s_RD_164 sv_RD_valueOf (g_of_val (k_RD_valueOf p f (by omega) hf)) (by omega) rfl (by omega) (by omega) rfl (Nat.le_of_ble_eq_true rfl) d_RD_witness_30 ?_
    rintro _ _ _ ⟨rfl, rfl, rfl⟩
    exact g_ireturn rfl rfl (by omega) (by omega) d_RD_witness_33 ⟨_, rfl, rfl, rfl, hOA, hfr⟩
theorem x_RD_witness (h : OA E M B tn ts mm rr gn gs) (x : Int32) (hx : noN x 4) : Ctr l E y_RD_witness 11 [.ref B, .int x] N M 1 6 (t_thr 11 N M) := by
  have hB := h.1.1
  refine ctr_of [some (.ref B), some (.int x), none] (by decide) w_825 rfl rfl (Nat.le_of_ble_eq_true rfl) (fun Γ => ?_)
  refine g_iload_n d_RD_witness_0 rfl ?_
  exact g_thrS s_RD_145 sv_RD_requireField (x_RD_requireField x hx) (by omega) rfl (by omega) (by omega) rfl (Nat.le_of_ble_eq_true rfl) d_RD_witness_1 (fun b _ _ hb => ⟨b, rfl, hb⟩)
end CALLS2

