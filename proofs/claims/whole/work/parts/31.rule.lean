section RULE
variable {l : Launch} {E : gE} {N : Nat} {M : gM} {r : Nat} {z : Rl}
theorem k_RD_greatestOf (f : Nat) (hf : f < 4) : Ctr l E y_RD_greatestOf 0 [.int (nI f)] N M 0 0 (g_val (some (.int (nI (mst f)))) N M) := by
  refine ctr_of [some (.int (nI f))] (by decide) w_249 rfl rfl (Nat.le_of_ble_eq_true rfl) (fun Γ => ?_)
  refine g_iconst (v := nI 1) d_RD_greatestOf_0 (by decide) ?_
  refine g_gets z_BITS w_250 d_RD_greatestOf_1 ?_
  refine g_iload_n d_RD_greatestOf_4 rfl ?_
  refine g_tald f q_BITS rfl hf (by decide) d_RD_greatestOf_5 ?_
  refine g_ishl d_RD_greatestOf_6 ?_
  refine g_iconst (v := nI 1) d_RD_greatestOf_7 (by decide) ?_
  refine g_isub d_RD_greatestOf_8 ?_
  refine g_eqi (mst_val f hf) ?_
  exact g_ireturn rfl (by first | rfl | exact bI_nar _) (by omega) (by omega) d_RD_greatestOf_9 ⟨rfl, rfl, rfl⟩
theorem k_RD_valueOf (p f : Nat) (hp : p < 268435456) (hf : f < 4) : Ctr l E y_RD_valueOf 1 [.int (nI p), .int (nI f)] N M 0 0 (g_val (some (.int (nI (pv p f)))) N M) := by
  refine ctr_of [some (.int (nI p)), some (.int (nI f))] (by decide) w_722 rfl rfl (Nat.le_of_ble_eq_true rfl) (fun Γ => ?_)
  refine g_iload_n d_RD_valueOf_0 rfl ?_
  refine g_gets z_SHIFTS w_706 d_RD_valueOf_1 ?_
  refine g_iload_n d_RD_valueOf_4 rfl ?_
  refine g_tald f q_SHIFTS rfl hf (by decide) d_RD_valueOf_5 ?_
  refine g_iushr d_RD_valueOf_6 (pk_ushrN (by omega) _ (shf f) (shf_val f hf)) ?_
  refine g_iload_n d_RD_valueOf_7 rfl ?_
  refine g_callS s_RD_195 sv_RD_greatestOf (g_of_val (k_RD_greatestOf f hf)) (by omega) rfl (by omega) (by omega) rfl (Nat.le_of_ble_eq_true rfl) d_RD_valueOf_8 ?_
  rintro _ _ _ ⟨rfl, rfl, rfl⟩
  refine g_iand d_RD_valueOf_11 ?_
  refine g_eqi (pk_andN (Nat.lt_of_le_of_lt (Nat.div_le_self _ _) (by omega)) (bts f) (mst_msk f hf)) ?_
  exact g_ireturn rfl (by first | rfl | exact bI_nar _) (by omega) (by omega) d_RD_valueOf_12 ⟨rfl, rfl, rfl⟩
theorem k_Ru_judgement (h : o_rule E M r z) : Ctr l E y_Ru_judgement 0 [.ref r] N M 0 0 (g_val (some (.int (nI z.1))) N M) := by
  obtain ⟨h1, h2, h3⟩ := h
  refine ctr_of [some (.ref r)] (by decide) w_302 rfl rfl (Nat.le_of_ble_eq_true rfl) (fun Γ => ?_)
  refine g_aload_n d_Ru_judgement_0 rfl ?_
  refine g_get f_Ru_18 (by assumption) rfl d_Ru_judgement_1 ?_
  exact g_ireturn rfl (by first | rfl | exact bI_nar _) (by omega) (by omega) d_Ru_judgement_4 ⟨rfl, rfl, rfl⟩
theorem k_Ru_leastOf (h : o_rule E M r z) (f : Nat) (hf : f < 4) : Ctr l E y_Ru_leastOf 0 [.ref r, .int (nI f)] N M 0 0 (g_val (some (.int (nI (z.2.1 f)))) N M) := by
  obtain ⟨h1, h2, h3⟩ := h
  refine ctr_of [some (.ref r), some (.int (nI f))] (by decide) w_242 rfl rfl (Nat.le_of_ble_eq_true rfl) (fun Γ => ?_)
  refine g_aload_n d_Ru_leastOf_0 rfl ?_
  refine g_get f_Ru_9 (by assumption) rfl d_Ru_leastOf_1 ?_
  refine g_iload_n d_Ru_leastOf_4 rfl ?_
  refine g_iald _ (by assumption) rfl (by omega) (by decide) d_Ru_leastOf_5 ?_
  exact g_ireturn rfl (by first | rfl | exact bI_nar _) (by omega) (by omega) d_Ru_leastOf_6 ⟨rfl, rfl, rfl⟩
theorem k_Ru_behindGreatestOf (h : o_rule E M r z) (f : Nat) (hf : f < 4) : Ctr l E y_Ru_behindGreatestOf 0 [.ref r, .int (nI f)] N M 0 0 (g_val (some (.int (nI (z.2.2 f + 1)))) N M) := by
  obtain ⟨h1, h2, h3⟩ := h
  refine ctr_of [some (.ref r), some (.int (nI f))] (by decide) w_258 rfl rfl (Nat.le_of_ble_eq_true rfl) (fun Γ => ?_)
  refine g_aload_n d_Ru_behindGreatestOf_0 rfl ?_
  refine g_get f_Ru_15 (by assumption) rfl d_Ru_behindGreatestOf_1 ?_
  refine g_iload_n d_Ru_behindGreatestOf_4 rfl ?_
  refine g_iald _ (by assumption) rfl (by omega) (by decide) d_Ru_behindGreatestOf_5 ?_
  refine g_iconst (v := nI 1) d_Ru_behindGreatestOf_6 (by decide) ?_
  refine g_iadd d_Ru_behindGreatestOf_7 ?_
  refine g_eqi (nI_add _ _) ?_
  exact g_ireturn rfl (by first | rfl | exact bI_nar _) (by omega) (by omega) d_Ru_behindGreatestOf_8 ⟨rfl, rfl, rfl⟩
theorem k_Ru_matchesValue (h : o_rule E M r z) (ho : r_ok z) (f x : Nat) (hf : f < 4) (hx : x < 1024) : Ctr l E y_Ru_matchesValue 0 [.ref r, .int (nI f), .int (nI x)] N M 0 0 (g_val (some (.int (bI (r_mf z f x)))) N M) := by
  obtain ⟨h1, h2, h3⟩ := h
  have hm := ho.2 f hf
  have hm2 := mst_lt f
  refine ctr_of [some (.ref r), some (.int (nI f)), some (.int (nI x))] (by decide) w_270 rfl rfl (Nat.le_of_ble_eq_true rfl) (fun Γ => ?_)
  refine g_iload_n d_Ru_matchesValue_0 rfl ?_
  refine g_aload_n d_Ru_matchesValue_1 rfl ?_
  refine g_get f_Ru_9 (by assumption) rfl d_Ru_matchesValue_2 ?_
  refine g_iload_n d_Ru_matchesValue_5 rfl ?_
  refine g_iald _ (by assumption) rfl (by omega) (by decide) d_Ru_matchesValue_6 ?_
  refine g_icmpN_lt (tgt := 24) d_Ru_matchesValue_7 (by decide) (by omega) (by omega) (fun hb_7 => ?_) (fun hb_7 => ?_)
  · refine g_iconst (v := nI 0) d_Ru_matchesValue_24 (by decide) ?_
    refine g_Fa (b := r_mf z f x) (by simp [r_mf]; omega) ?_
    exact g_ireturn rfl (by first | rfl | exact bI_nar _) (by omega) (by omega) d_Ru_matchesValue_25 ⟨rfl, rfl, rfl⟩
  · refine g_iload_n d_Ru_matchesValue_10 rfl ?_
    refine g_aload_n d_Ru_matchesValue_11 rfl ?_
    refine g_get f_Ru_15 (by assumption) rfl d_Ru_matchesValue_12 ?_
    refine g_iload_n d_Ru_matchesValue_15 rfl ?_
    refine g_iald _ (by assumption) rfl (by omega) (by decide) d_Ru_matchesValue_16 ?_
    refine g_icmpN_gt (tgt := 24) d_Ru_matchesValue_17 (by decide) (by omega) (by omega) (fun hb_17 => ?_) (fun hb_17 => ?_)
    · refine g_iconst (v := nI 0) d_Ru_matchesValue_24 (by decide) ?_
      refine g_Fa (b := r_mf z f x) (by simp [r_mf]; omega) ?_
      exact g_ireturn rfl (by first | rfl | exact bI_nar _) (by omega) (by omega) d_Ru_matchesValue_25 ⟨rfl, rfl, rfl⟩
    · refine g_iconst (v := nI 1) d_Ru_matchesValue_20 (by decide) ?_
      refine g_goto (tgt := 25) d_Ru_matchesValue_21 (by decide) ?_
      refine g_Tr (b := r_mf z f x) (by simp [r_mf]; omega) ?_
      exact g_ireturn rfl (by first | rfl | exact bI_nar _) (by omega) (by omega) d_Ru_matchesValue_25 ⟨rfl, rfl, rfl⟩
theorem k_Ru_matches (h : o_rule E M r z) (ho : r_ok z) (p : Nat) (hp : p < 268435456) : Ctr l E y_Ru_matches 2 [.ref r, .int (nI p)] N M 0 0 (g_val (some (.int (bI (r_m z p)))) N M) := by
  have h0 := h
  obtain ⟨h1, h2, h3⟩ := h
  refine ctr_of [some (.ref r), some (.int (nI p)), none] (by decide) w_719 rfl rfl (Nat.le_of_ble_eq_true rfl) (fun Γ => ?_)
  refine g_iconst (v := nI 0) d_Ru_matches_0 (by decide) ?_
  refine g_istore_n d_Ru_matches_1 (by decide) ?_
  refine g_for (P := fun i => r_mk z p i = true → G _ _ _ _ _ _ _ _ _ _ _ _ 2 [some (.ref r), some (.int (nI p)), some (.int (nI i))] [] N M 0 0) (e := 4) ?_ ?_ 0 (by decide) rfl
  · intro hi
    refine g_iload_n d_Ru_matches_2 rfl ?_
    refine g_iconst (v := nI 4) d_Ru_matches_3 (by decide) ?_
    refine g_icmpN_ge (tgt := 28) d_Ru_matches_4 (by decide) (by omega) (by omega) (fun hb_4 => ?_) (fun hb_4 => ?_)
    · refine g_iconst (v := nI 1) d_Ru_matches_28 (by decide) ?_
      refine g_Tr (b := r_m z p) hi ?_
      exact g_ireturn rfl (by first | rfl | exact bI_nar _) (by omega) (by omega) d_Ru_matches_29 ⟨rfl, rfl, rfl⟩
    · omega
  · intro i hi ih hk
    refine g_iload_n d_Ru_matches_2 rfl ?_
    refine g_iconst (v := nI 4) d_Ru_matches_3 (by decide) ?_
    refine g_icmpN_ge (tgt := 28) d_Ru_matches_4 (by decide) (by omega) (by omega) (fun hb_4 => ?_) (fun hb_4 => ?_)
    · omega
    refine g_aload_n d_Ru_matches_7 rfl ?_
    refine g_iload_n d_Ru_matches_8 rfl ?_
    refine g_iload_n d_Ru_matches_9 rfl ?_
    refine g_iload_n d_Ru_matches_10 rfl ?_
    refine g_callSN sn_Ru_30 sv_RD_valueOf (g_of_val (k_RD_valueOf p i hp hi)) (by omega) rfl (by omega) (by omega) rfl (Nat.le_of_ble_eq_true rfl) d_Ru_matches_11 ?_
    rintro _ _ _ ⟨rfl, rfl, rfl⟩
    refine g_callV s_Ru_34 sv_Ru_matchesValue (by assumption) rfl (g_of_val (k_Ru_matchesValue h0 ho i (pv p i) hi (by have := pv_le p i hi; have := mst_lt i; omega))) (by omega) rfl (by omega) (by omega) rfl (Nat.le_of_ble_eq_true rfl) d_Ru_matches_14 ?_
    rintro _ _ _ ⟨rfl, rfl, rfl⟩
    first | refine g_ifB_ne (tgt := 22) d_Ru_matches_17 (by decide) (fun hb_17 => ?_) (fun hb_17 => ?_) | refine g_ifN_ne (tgt := 22) d_Ru_matches_17 (by decide) (by omega) (fun hb_17 => ?_) (fun hb_17 => ?_)
    · refine g_iinc1 d_Ru_matches_22 rfl (by decide) ?_
      refine g_goto (tgt := 2) d_Ru_matches_25 (by decide) ?_
      exact ih (by simp [r_mk, hk, hb_17])
    · refine g_iconst (v := nI 0) d_Ru_matches_20 (by decide) ?_
      refine g_Fa (b := r_m z p) (r_m_no hi hb_17) ?_
      exact g_ireturn rfl (by first | rfl | exact bI_nar _) (by omega) (by omega) d_Ru_matches_21 ⟨rfl, rfl, rfl⟩
theorem k_Ru_narrow (h : o_rule E M r z) (f a b : Nat) (hf : f < 4) : Ctr l E y_Ru_narrow 0 [.ref r, .int (nI f), .int (nI a), .int (nI b)] N M 0 0 (g_ret (fun v N' M' => v = none ∧ N' = N ∧ o_rule E M' r (z.1, va_up z.2.1 f a, va_up z.2.2 f b) ∧ ∀ q, q ≠ r + 1 → q ≠ r + 2 → M' q = M q)) := by
  obtain ⟨h1, h2, h3⟩ := h
  refine ctr_of [some (.ref r), some (.int (nI f)), some (.int (nI a)), some (.int (nI b))] (by decide) w_562 rfl rfl (Nat.le_of_ble_eq_true rfl) (fun Γ => ?_)
  refine g_aload_n d_Ru_narrow_0 rfl ?_
  refine g_get f_Ru_9 (by assumption) rfl d_Ru_narrow_1 ?_
  refine g_iload_n d_Ru_narrow_4 rfl ?_
  refine g_iload_n d_Ru_narrow_5 rfl ?_
  refine g_iast _ (by assumption) rfl (by omega) (by decide) d_Ru_narrow_6 ?_
  refine g_nm (fun M1 e1 f1 => ?_)
  have h1' := (f1 r (by omega)).trans h1
  have h3' := (f1 (r + 2) (by omega)).trans h3
  refine g_aload_n d_Ru_narrow_7 rfl ?_
  refine g_get f_Ru_15 (by assumption) rfl d_Ru_narrow_8 ?_
  refine g_iload_n d_Ru_narrow_11 rfl ?_
  refine g_iload_n d_Ru_narrow_12 rfl ?_
  refine g_iast _ (by assumption) rfl (by omega) (by decide) d_Ru_narrow_13 ?_
  refine g_nm (fun M2 e2 f2 => ?_)
  refine g_return rfl (by omega) (by omega) d_Ru_narrow_14 ⟨_, rfl, rfl, rfl, ⟨?_, ?_, ?_⟩, fun q q1 q2 => ?_⟩
  · rw [f2 r (by omega)]; exact h1'
  · rw [f2 (r + 1) (by omega), e1, upd_nI]
  · rw [e2, upd_nI]
  · rw [f2 q q2, f1 q q1]
theorem k_Ru_number (h : o_rule E M r z) (w : Nat) (hw : w < 9) : Ctr l E y_Ru_number 0 [.ref r, .int (nI w)] N M 0 0 (g_val (some (.int (nI (if w = 0 then z.1 else if w % 2 = 1 then z.2.1 ((w - 1) / 2) else z.2.2 ((w - 1) / 2))))) N M) := by
  obtain ⟨h1, h2, h3⟩ := h
  refine ctr_of [some (.ref r), some (.int (nI w)), none] (by decide) w_687 rfl rfl (Nat.le_of_ble_eq_true rfl) (fun Γ => ?_)
  refine g_iload_n d_Ru_number_0 rfl ?_
  first | refine g_ifB_ne (tgt := 9) d_Ru_number_1 (by decide) (fun hb_1 => ?_) (fun hb_1 => ?_) | refine g_ifN_ne (tgt := 9) d_Ru_number_1 (by decide) (by omega) (fun hb_1 => ?_) (fun hb_1 => ?_)
  · refine g_iload_n d_Ru_number_9 rfl ?_
    refine g_iconst (v := nI 1) d_Ru_number_10 (by decide) ?_
    refine g_isub d_Ru_number_11 ?_
    refine g_eqi (pk_sub (a := w) (b := 1) (by omega)) ?_
    refine g_iconst (v := nI 2) d_Ru_number_12 (by decide) ?_
    refine g_idiv d_Ru_number_13 (by decide) ?_
    refine g_eqi (pk_div (a := w - 1) (d := 2) (by omega) (by omega) (by omega)) ?_
    refine g_istore_n d_Ru_number_14 (by decide) ?_
    refine g_iload_n d_Ru_number_15 rfl ?_
    refine g_iconst (v := nI 2) d_Ru_number_16 (by decide) ?_
    refine g_irem d_Ru_number_17 (by decide) ?_
    refine g_eqi (pk_rem (a := w) (d := 2) (by omega) (by omega) (by omega)) ?_
    refine g_iconst (v := nI 1) d_Ru_number_18 (by decide) ?_
    refine g_icmpN_ne (tgt := 31) d_Ru_number_19 (by decide) (by omega) (by omega) (fun hb_19 => ?_) (fun hb_19 => ?_)
    · refine g_aload_n d_Ru_number_31 rfl ?_
      refine g_get f_Ru_15 (by assumption) rfl d_Ru_number_32 ?_
      refine g_iload_n d_Ru_number_35 rfl ?_
      refine g_iald _ (by assumption) rfl (by omega) (by decide) d_Ru_number_36 ?_
      refine g_eqi (z := nI (if w = 0 then z.1 else if w % 2 = 1 then z.2.1 ((w - 1) / 2) else z.2.2 ((w - 1) / 2))) (by rw [if_neg hb_1, if_neg hb_19]) ?_
      exact g_ireturn rfl (by first | rfl | exact bI_nar _) (by omega) (by omega) d_Ru_number_37 ⟨rfl, rfl, rfl⟩
    · refine g_aload_n d_Ru_number_22 rfl ?_
      refine g_get f_Ru_9 (by assumption) rfl d_Ru_number_23 ?_
      refine g_iload_n d_Ru_number_26 rfl ?_
      refine g_iald _ (by assumption) rfl (by omega) (by decide) d_Ru_number_27 ?_
      refine g_goto (tgt := 37) d_Ru_number_28 (by decide) ?_
      refine g_eqi (z := nI (if w = 0 then z.1 else if w % 2 = 1 then z.2.1 ((w - 1) / 2) else z.2.2 ((w - 1) / 2))) (by rw [if_neg hb_1, if_pos hb_19]) ?_
      exact g_ireturn rfl (by first | rfl | exact bI_nar _) (by omega) (by omega) d_Ru_number_37 ⟨rfl, rfl, rfl⟩
  · refine g_aload_n d_Ru_number_4 rfl ?_
    refine g_get f_Ru_18 (by assumption) rfl d_Ru_number_5 ?_
    refine g_eqi (z := nI (if w = 0 then z.1 else if w % 2 = 1 then z.2.1 ((w - 1) / 2) else z.2.2 ((w - 1) / 2))) (by rw [if_pos hb_1]) ?_
    exact g_ireturn rfl (by first | rfl | exact bI_nar _) (by omega) (by omega) d_Ru_number_8 ⟨rfl, rfl, rfl⟩
/-- the same in all that counts -/
def r_eq (z w : Rl) : Prop := z.1 = w.1 ∧ ∀ f, f < 4 → z.2.1 f = w.2.1 f ∧ z.2.2 f = w.2.2 f
/-- nothing changes but the three cells of a rule -/
def r_fr (r : Nat) (M M' : gM) : Prop := ∀ q, q ≠ r → q ≠ r + 1 → q ≠ r + 2 → M' q = M q
theorem o_rule.kept {M' : gM} (h : o_rule E M r z) (hk : ∀ q, r ≤ q → q ≤ r + 2 → M' q = M q) : o_rule E M' r z := by
  obtain ⟨h1, h2, h3⟩ := h
  exact ⟨(hk r (by omega) (by omega)).trans h1, (hk (r + 1) (by omega) (by omega)).trans h2, (hk (r + 2) (by omega) (by omega)).trans h3⟩
theorem k_Ru_start (h : o_rule E M r z) (v : Nat) : Ctr l E y_Ru_start 1 [.ref r, .int (nI v)] N M 0 0 (g_ret (fun w N' M' => w = none ∧ N' = N ∧ (∃ z', o_rule E M' r z' ∧ r_eq z' (v, fun _ => 0, mst)) ∧ r_fr r M M')) := by
  obtain ⟨h1, h2, h3⟩ := h
  refine ctr_of [some (.ref r), some (.int (nI v)), none] (by decide) w_557 rfl rfl (Nat.le_of_ble_eq_true rfl) (fun Γ => ?_)
  refine g_aload_n d_Ru_start_0 rfl ?_
  refine g_iload_n d_Ru_start_1 rfl ?_
  refine g_put p_Ru_18 (by assumption) (Nat.le_of_ble_eq_true rfl) rfl rfl d_Ru_start_2 ?_
  refine g_nm (fun M1 e1 f1 => ?_)
  refine g_iconst (v := nI 0) d_Ru_start_5 (by decide) ?_
  refine g_istore_n d_Ru_start_6 (by decide) ?_
  refine g_for (P := fun i => ∀ M2 : gM, (∃ z', o_rule E M2 r z' ∧ z'.1 = v ∧ ∀ f, f < i → z'.2.1 f = 0 ∧ z'.2.2 f = mst f) → r_fr r M M2 → G _ _ _ _ _ _ _ _ _ _ _ _ 7 [some (.ref r), some (.int (nI v)), some (.int (nI i))] [] N M2 0 0) (e := 4) ?_ ?_ 0 (by decide) M1 ?_ ?_
  · intro M2 hz hfr
    refine g_iload_n d_Ru_start_7 rfl ?_
    refine g_iconst (v := nI 4) d_Ru_start_8 (by decide) ?_
    refine g_icmpN_ge (tgt := 28) d_Ru_start_9 (by decide) (by omega) (by omega) (fun hb_9 => ?_) (fun hb_9 => ?_)
    · exact g_return rfl (by omega) (by omega) d_Ru_start_28 ⟨_, rfl, rfl, rfl, hz, hfr⟩
    · omega
  · intro i hi ih M2 hz hfr
    obtain ⟨z', hz1, hz2, hz3⟩ := hz
    have hz4 := hz1
    obtain ⟨g1, g2, g3⟩ := hz4
    refine g_iload_n d_Ru_start_7 rfl ?_
    refine g_iconst (v := nI 4) d_Ru_start_8 (by decide) ?_
    refine g_icmpN_ge (tgt := 28) d_Ru_start_9 (by decide) (by omega) (by omega) (fun hb_9 => ?_) (fun hb_9 => ?_)
    · omega
    refine g_aload_n d_Ru_start_12 rfl ?_
    refine g_iload_n d_Ru_start_13 rfl ?_
    refine g_iconst (v := nI 0) d_Ru_start_14 (by decide) ?_
    refine g_iload_n d_Ru_start_15 rfl ?_
    refine g_callSN sn_Ru_22 sv_RD_greatestOf (g_of_val (k_RD_greatestOf i hi)) (by omega) rfl (by omega) (by omega) rfl (Nat.le_of_ble_eq_true rfl) d_Ru_start_16 ?_
    rintro _ _ _ ⟨rfl, rfl, rfl⟩
    refine g_callV s_Ru_26 sv_Ru_narrow (by assumption) rfl (k_Ru_narrow hz1 i 0 (mst i) hi) (by omega) rfl (by omega) (by omega) rfl (Nat.le_of_ble_eq_true rfl) d_Ru_start_19 ?_
    rintro v' N' M3 ⟨rfl, rfl, hr3, hf3⟩
    refine g_iinc1 d_Ru_start_22 rfl (by decide) ?_
    refine g_goto (tgt := 7) d_Ru_start_25 (by decide) ?_
    refine ih M3 ⟨_, hr3, hz2, fun f hf => ?_⟩ (fun q q1 q2 q3 => (hf3 q q2 q3).trans (hfr q q1 q2 q3))
    by_cases e : f = i
    · subst e
      exact ⟨va_up_self _ _ _, va_up_self _ _ _⟩
    · have := hz3 f (by omega)
      exact ⟨(va_up_ne _ _ e).trans this.1, (va_up_ne _ _ e).trans this.2⟩
  · exact ⟨(v, z.2.1, z.2.2), ⟨e1, (f1 _ (by omega)).trans h2, (f1 _ (by omega)).trans h3⟩, rfl, fun f hf => by omega⟩
  · exact fun q q1 q2 q3 => f1 q q1
theorem k_Ru_copyFrom {o : Nat} {w : Rl} (h : o_rule E M r z) (ho : o_rule E M o w) (hd : o + 2 < r ∨ r + 2 < o) : Ctr l E y_Ru_copyFrom 1 [.ref r, .ref o] N M 0 0 (g_ret (fun v N' M' => v = none ∧ N' = N ∧ (∃ z', o_rule E M' r z' ∧ r_eq z' w) ∧ r_fr r M M')) := by
  obtain ⟨h1, h2, h3⟩ := h
  have ho0 := ho
  obtain ⟨p1, p2, p3⟩ := ho0
  refine ctr_of [some (.ref r), some (.ref o), none] (by decide) w_634 rfl rfl (Nat.le_of_ble_eq_true rfl) (fun Γ => ?_)
  refine g_aload_n d_Ru_copyFrom_0 rfl ?_
  refine g_aload_n d_Ru_copyFrom_1 rfl ?_
  refine g_get f_Ru_18 (by assumption) rfl d_Ru_copyFrom_2 ?_
  refine g_put p_Ru_18 (by assumption) (Nat.le_of_ble_eq_true rfl) rfl rfl d_Ru_copyFrom_5 ?_
  refine g_nm (fun M1 e1 f1 => ?_)
  refine g_iconst (v := nI 0) d_Ru_copyFrom_8 (by decide) ?_
  refine g_istore_n d_Ru_copyFrom_9 (by decide) ?_
  refine g_for (P := fun i => ∀ M2 : gM, (∃ z', o_rule E M2 r z' ∧ z'.1 = w.1 ∧ ∀ f, f < i → z'.2.1 f = w.2.1 f ∧ z'.2.2 f = w.2.2 f) → r_fr r M M2 → G _ _ _ _ _ _ _ _ _ _ _ _ 10 [some (.ref r), some (.ref o), some (.int (nI i))] [] N M2 0 0) (e := 4) ?_ ?_ 0 (by decide) M1 ?_ ?_
  · intro M2 hz hfr
    refine g_iload_n d_Ru_copyFrom_10 rfl ?_
    refine g_iconst (v := nI 4) d_Ru_copyFrom_11 (by decide) ?_
    refine g_icmpN_ge (tgt := 38) d_Ru_copyFrom_12 (by decide) (by omega) (by omega) (fun hb_12 => ?_) (fun hb_12 => ?_)
    · exact g_return rfl (by omega) (by omega) d_Ru_copyFrom_38 ⟨_, rfl, rfl, rfl, hz, hfr⟩
    · omega
  · intro i hi ih M2 hz hfr
    obtain ⟨z', hz1, hz2, hz3⟩ := hz
    obtain ⟨g1, g2, g3⟩ := id hz1
    obtain ⟨t1, t2, t3⟩ := ho.kept (M' := M2) (fun q a b => hfr q (by omega) (by omega) (by omega))
    refine g_iload_n d_Ru_copyFrom_10 rfl ?_
    refine g_iconst (v := nI 4) d_Ru_copyFrom_11 (by decide) ?_
    refine g_icmpN_ge (tgt := 38) d_Ru_copyFrom_12 (by decide) (by omega) (by omega) (fun hb_12 => ?_) (fun hb_12 => ?_)
    · omega
    refine g_aload_n d_Ru_copyFrom_15 rfl ?_
    refine g_iload_n d_Ru_copyFrom_16 rfl ?_
    refine g_aload_n d_Ru_copyFrom_17 rfl ?_
    refine g_get f_Ru_9 (by assumption) rfl d_Ru_copyFrom_18 ?_
    refine g_iload_n d_Ru_copyFrom_21 rfl ?_
    refine g_iald _ (by assumption) rfl (by omega) (by decide) d_Ru_copyFrom_22 ?_
    refine g_aload_n d_Ru_copyFrom_23 rfl ?_
    refine g_get f_Ru_15 (by assumption) rfl d_Ru_copyFrom_24 ?_
    refine g_iload_n d_Ru_copyFrom_27 rfl ?_
    refine g_iald _ (by assumption) rfl (by omega) (by decide) d_Ru_copyFrom_28 ?_
    refine g_callV s_Ru_26 sv_Ru_narrow (by assumption) rfl (k_Ru_narrow hz1 i (w.2.1 i) (w.2.2 i) hi) (by omega) rfl (by omega) (by omega) rfl (Nat.le_of_ble_eq_true rfl) d_Ru_copyFrom_29 ?_
    rintro v' N' M3 ⟨rfl, rfl, hr3, hf3⟩
    refine g_iinc1 d_Ru_copyFrom_32 rfl (by decide) ?_
    refine g_goto (tgt := 10) d_Ru_copyFrom_35 (by decide) ?_
    refine ih M3 ⟨_, hr3, hz2, fun f hf => ?_⟩ (fun q q1 q2 q3 => (hf3 q q2 q3).trans (hfr q q1 q2 q3))
    by_cases e : f = i
    · subst e
      exact ⟨va_up_self _ _ _, va_up_self _ _ _⟩
    · have := hz3 f (by omega)
      exact ⟨(va_up_ne _ _ e).trans this.1, (va_up_ne _ _ e).trans this.2⟩
  · exact ⟨(w.1, z.2.1, z.2.2), ⟨e1, (f1 _ (by omega)).trans h2, (f1 _ (by omega)).trans h3⟩, rfl, fun f hf => by omega⟩
  · exact fun q q1 q2 q3 => f1 q q1
/-- a new rule: its two rows come behind it -/
theorem k_Ru_init (h : M r = some (.inr (4, [.null, .null, .int 0]))) (hr : r + 1 = N) : Ctr l E y_Ru_init 1 [.ref r] N M 2 8 (g_ret (fun v N' M' => v = none ∧ N' = N + 2 ∧ o_rule E M' r (0, fun _ => 0, fun _ => 0) ∧ ∀ q, q ≠ r → q ≠ r + 1 → q ≠ r + 2 → M' q = M q)) := by
  refine ctr_of [some (.ref r)] (by decide) w_78 rfl rfl (Nat.le_of_ble_eq_true rfl) (fun Γ => ?_)
  refine g_aload_n d_Ru_init_0 rfl ?_
  refine g_objInit w_79 m_objI m_objC (by omega) (Nat.le_of_ble_eq_true rfl) d_Ru_init_1 ?_
  refine g_aload_n d_Ru_init_4 rfl ?_
  refine g_iconst (v := nI 4) d_Ru_init_5 (by decide) ?_
  refine g_newi _ w_90 rfl (by decide) (by omega) (by omega) d_Ru_init_6 ?_
  refine g_nm (fun M1 e1 f1 => ?_)
  have a1 := (f1 r (by omega)).trans h
  refine g_putF p_Ru_9 rfl (by assumption) (Nat.le_of_ble_eq_true rfl) rfl rfl d_Ru_init_8 ?_
  refine g_nm (fun M2 e2 f2 => ?_)
  refine g_aload_n d_Ru_init_11 rfl ?_
  refine g_iconst (v := nI 4) d_Ru_init_12 (by decide) ?_
  refine g_newi _ w_90 rfl (by decide) (by omega) (by omega) d_Ru_init_13 ?_
  refine g_nm (fun M3 e3 f3 => ?_)
  have a3 := (f3 r (by omega)).trans e2
  refine g_putF p_Ru_15 rfl (by assumption) (Nat.le_of_ble_eq_true rfl) rfl rfl d_Ru_init_15 ?_
  refine g_nm (fun M4 e4 f4 => ?_)
  refine g_aload_n d_Ru_init_18 rfl ?_
  refine g_iconst (v := nI 0) d_Ru_init_19 (by decide) ?_
  refine g_put p_Ru_18 (by assumption) (Nat.le_of_ble_eq_true rfl) rfl rfl d_Ru_init_20 ?_
  refine g_nm (fun M5 e5 f5 => ?_)
  refine g_return rfl (by omega) (by omega) d_Ru_init_23 ⟨_, rfl, rfl, rfl, ⟨?_, ?_, ?_⟩, fun q q1 q2 q3 => ?_⟩
  · rw [e5, ← hr]; rfl
  · rw [f5 _ (by omega), f4 _ (by omega), f3 _ (by omega), f2 _ (by omega), hr, e1]; rfl
  · rw [f5 _ (by omega), f4 _ (by omega), show r + 2 = N + 1 by omega, e3]; rfl
  · rw [f5 _ (by omega), f4 _ (by omega), f3 _ (by omega), f2 _ (by omega), f1 _ (by omega)]
end RULE

