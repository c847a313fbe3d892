/-! the model's cuts -/
section MCUT
variable {l : Launch} {E : gE} {N : Nat} {M : gM} {W tn : Nat} {th sz lk rc pl fa : Int32} {cn : Nat → Nat} {cs : Nat → Nat → Nat}
theorem k_Mo_cut (h : M W = some (.inr (10, mo W th sz lk rc pl fa))) (hC : o_cu E M W cn cs) (f k : Nat) (hf : f < 4) (hk : k < cn f) : Ctr l E y_Mo_cut 0 [.ref W, .int (nI f), .int (nI k)] N M 0 0 (g_val (some (.int (nI (cs f k)))) N M) := by
  obtain ⟨⟨fm, a1, a2⟩, fc, b1, b2⟩ := hC
  have := (a2 f hf).2
  refine ctr_of [some (.ref W), some (.int (nI f)), some (.int (nI k))] (by decide) w_1100 rfl rfl (Nat.le_of_ble_eq_true rfl) (fun Γ => ?_)
  refine g_aload_n d_Mo_cut_0 rfl ?_
  refine g_get f_Mo_28 (by assumption) rfl d_Mo_cut_1 ?_
  refine g_bipush (v := nI 40) d_Mo_cut_4 (by decide) ?_
  refine g_iload_n d_Mo_cut_6 rfl ?_
  refine g_imul d_Mo_cut_7 ?_
  refine g_eqi (pk_mul _ _) ?_
  refine g_iload_n d_Mo_cut_8 rfl ?_
  refine g_iadd d_Mo_cut_9 ?_
  refine g_eqi (nI_add _ _) ?_
  refine g_iald _ (by assumption) rfl (by omega) (by decide) d_Mo_cut_10 ?_
  refine g_eqi (b2 f k hf hk).1 ?_
  exact g_ireturn rfl (by first | rfl | exact bI_nar _) (by omega) (by omega) d_Mo_cut_11 ⟨rfl, rfl, rfl⟩
theorem k_Mo_width (h : M W = some (.inr (10, mo W th sz lk rc pl fa))) (hC : o_cu E M W cn cs) (f k : Nat) (hf : f < 4) (hk : k < cn f) (hr : rows_ok (cs f) (cn f) (mst f + 1)) : Ctr l E y_Mo_width 2 [.ref W, .int (nI f), .int (nI k)] N M 0 0 (g_val (some (.int (nI (enr (cs f) (cn f) (mst f + 1) k - cs f k)))) N M) := by
  have hC0 := hC
  obtain ⟨⟨fm, a1, a2⟩, -⟩ := hC
  have h40 := (a2 f hf).2
  have hlt := rows_lt hr hk
  refine ctr_of [some (.ref W), some (.int (nI f)), some (.int (nI k)), none] (by decide) w_1104 rfl rfl (Nat.le_of_ble_eq_true rfl) (fun Γ => ?_)
  refine g_iload_n d_Mo_width_0 rfl ?_
  refine g_iconst (v := nI 1) d_Mo_width_1 (by decide) ?_
  refine g_iadd d_Mo_width_2 ?_
  refine g_eqi (nI_add _ _) ?_
  refine g_aload_n d_Mo_width_3 rfl ?_
  refine g_get f_Mo_31 (by assumption) rfl d_Mo_width_4 ?_
  refine g_iload_n d_Mo_width_7 rfl ?_
  refine g_iald _ (by assumption) rfl (by omega) (by decide) d_Mo_width_8 ?_
  refine g_eqi (a2 f hf).1 ?_
  refine g_icmpN_ge (tgt := 23) d_Mo_width_9 (by decide) (by omega) (by omega) (fun hb_9 => ?_) (fun hb_9 => ?_)
  · refine g_iload_n d_Mo_width_23 rfl ?_
    refine g_callS s_Mo_92 sv_Mo_most (g_of_val (k_Mo_most f hf)) (by omega) rfl (by omega) (by omega) rfl (Nat.le_of_ble_eq_true rfl) d_Mo_width_24 ?_
    rintro _ _ _ ⟨rfl, rfl, rfl⟩
    refine g_iconst (v := nI 1) d_Mo_width_27 (by decide) ?_
    refine g_iadd d_Mo_width_28 ?_
    refine g_eqi (z := nI (enr (cs f) (cn f) (mst f + 1) k)) (by rw [nI_add]; unfold enr; rw [if_neg (by omega)]) ?_
    refine g_istore_n d_Mo_width_29 (by decide) ?_
    refine g_iload_n d_Mo_width_30 rfl ?_
    refine g_aload_n d_Mo_width_31 rfl ?_
    refine g_iload_n d_Mo_width_32 rfl ?_
    refine g_iload_n d_Mo_width_33 rfl ?_
    refine g_callV s_Mo_144 sv_Mo_cut (by assumption) rfl (g_of_val (k_Mo_cut h hC0 f k hf hk)) (by omega) rfl (by omega) (by omega) rfl (Nat.le_of_ble_eq_true rfl) d_Mo_width_34 ?_
    rintro _ _ _ ⟨rfl, rfl, rfl⟩
    refine g_isub d_Mo_width_37 ?_
    refine g_eqi (pk_sub (by omega)) ?_
    exact g_ireturn rfl (by first | rfl | exact bI_nar _) (by omega) (by omega) d_Mo_width_38 ⟨rfl, rfl, rfl⟩
  · refine g_aload_n d_Mo_width_12 rfl ?_
    refine g_iload_n d_Mo_width_13 rfl ?_
    refine g_iload_n d_Mo_width_14 rfl ?_
    refine g_iconst (v := nI 1) d_Mo_width_15 (by decide) ?_
    refine g_iadd d_Mo_width_16 ?_
    refine g_eqi (nI_add _ _) ?_
    refine g_callV s_Mo_144 sv_Mo_cut (by assumption) rfl (g_of_val (k_Mo_cut h hC0 f (k + 1) hf (by omega))) (by omega) rfl (by omega) (by omega) rfl (Nat.le_of_ble_eq_true rfl) d_Mo_width_17 ?_
    rintro _ _ _ ⟨rfl, rfl, rfl⟩
    refine g_eqi (z := nI (enr (cs f) (cn f) (mst f + 1) k)) (by unfold enr; rw [if_pos (by omega)]) ?_
    refine g_goto (tgt := 29) d_Mo_width_20 (by decide) ?_
    refine g_istore_n d_Mo_width_29 (by decide) ?_
    refine g_iload_n d_Mo_width_30 rfl ?_
    refine g_aload_n d_Mo_width_31 rfl ?_
    refine g_iload_n d_Mo_width_32 rfl ?_
    refine g_iload_n d_Mo_width_33 rfl ?_
    refine g_callV s_Mo_144 sv_Mo_cut (by assumption) rfl (g_of_val (k_Mo_cut h hC0 f k hf hk)) (by omega) rfl (by omega) (by omega) rfl (Nat.le_of_ble_eq_true rfl) d_Mo_width_34 ?_
    rintro _ _ _ ⟨rfl, rfl, rfl⟩
    refine g_isub d_Mo_width_37 ?_
    refine g_eqi (pk_sub (by omega)) ?_
    exact g_ireturn rfl (by first | rfl | exact bI_nar _) (by omega) (by omega) d_Mo_width_38 ⟨rfl, rfl, rfl⟩
end MCUT

