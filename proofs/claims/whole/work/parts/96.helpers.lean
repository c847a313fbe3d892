/-! the law's helpers -/
theorem cs_Iae : Cond.castable "java/lang/IllegalArgumentException" "java/lang/IllegalArgumentException" ∈ g_NW := g_memN 330 (by decide +kernel) (by decide +kernel)
theorem cs_Uoe : Cond.castable "java/lang/UnsupportedOperationException" "java/lang/UnsupportedOperationException" ∈ g_NW := g_memN 405 (by decide +kernel) (by decide +kernel)
theorem cs_Ioe : Cond.castable "java/lang/IndexOutOfBoundsException" "java/lang/IndexOutOfBoundsException" ∈ g_NW := g_memN 441 (by decide +kernel) (by decide +kernel)
section HELP
variable {l : Launch} {E : gE} {N : Nat} {M : gM} {B O : Nat} {fs : List Value}
theorem h_La_put {P : Option Value → Nat → gM → Prop} (a1 : Int32) (hB : M B = some (.inr (0, fs))) (hC : Ctr l E y_RD_put 6 [.ref B, .int a1] N M 0 0 (g_ret P)) (hP : ∀ v N' M', P v N' M' → (∃ z, v = some (.int z)) ∧ ∃ fo, M' O = some (g_la E 1 fo)) : CtrX l E y_La_put 7 [.ref B, .int a1, .ref O] N M 1 6 (g_ret (fun v N' M' => v = some (.int (nI 0)) ∧ ∃ z M1, P (some (.int z)) N' M1 ∧ (∃ fo, M' O = some (g_la E 1 fo) ∧ fo 0 = z.toInt64) ∧ ∀ x, x ≠ O → M' x = M1 x)) := by
  refine ctrX_of [some (.ref B), some (.int a1), some (.ref O), none] (by decide) w_317 rfl rfl (Nat.le_of_ble_eq_true rfl) (fun Γ hX => ?_)
  refine g_aload_n d_La_put_0 rfl ?_
  refine g_iconst (v := nI 0) d_La_put_1 (by decide) ?_
  refine g_aload_n d_La_put_2 rfl ?_
  refine g_iload_n d_La_put_3 rfl ?_
  refine g_callV s_La_7 sv_RD_put (by assumption) rfl (hC) (by omega) rfl (by omega) (by omega) rfl (Nat.le_of_ble_eq_true rfl) d_La_put_4 ?_
  rintro v N' M1 hp
  obtain ⟨⟨z, rfl⟩, fo, ho⟩ := hP _ _ _ hp
  refine g_i2l d_La_put_7 rfl ?_
  refine g_last _ (by assumption) rfl (by omega) (by decide) d_La_put_8 ?_
  refine g_nm (fun M2 e2 f2 => ?_)
  refine g_goto (tgt := 18) d_La_put_9 (by decide) ?_
  refine g_iconst (v := nI 0) d_La_put_18 (by decide) ?_
  exact g_ireturn rfl rfl (by omega) (by omega) d_La_put_19 ⟨_, rfl, rfl, z, M1, hp, ⟨_, e2, rfl⟩, f2⟩
theorem t1_La_put (a1 : Int32) (hB : M B = some (.inr (0, fs))) (hC : Ctr l E y_RD_put 6 [.ref B, .int a1] N M 1 6 (t_thr 11 N M)) : CtrX l E y_La_put 7 [.ref B, .int a1, .ref O] N M 1 6 (g_ret (fun v N' M' => v = some (.int (nI 1)) ∧ N' = N + 1 ∧ M' = va_up M N (some (.inr (11, []))))) := by
  refine ctrX_of [some (.ref B), some (.int a1), some (.ref O), none] (by decide) w_317 rfl rfl (Nat.le_of_ble_eq_true rfl) (fun Γ hX => ?_)
  refine g_aload_n d_La_put_0 rfl ?_
  refine g_iconst (v := nI 0) d_La_put_1 (by decide) ?_
  refine g_aload_n d_La_put_2 rfl ?_
  refine g_iload_n d_La_put_3 rfl ?_
  refine g_catchV (hp := 12) [] ⟨0, 9, 12, 13⟩ [⟨0, 9, 15, 15⟩] s_La_7 sv_RD_put (by assumption) rfl hC (by omega) rfl (by omega) (by omega) rfl (Nat.le_of_ble_eq_true rfl) d_La_put_4 rfl rfl (by decide) (by decide) w_318 rfl cs_Iae (fun z hz => by cases hz) ?_
  refine g_astore_n d_La_put_12 (by decide) ?_
  refine g_iconst (v := nI 1) d_La_put_13 (by decide) ?_
  exact g_ireturn rfl rfl (by omega) (by omega) d_La_put_14 ⟨_, rfl, rfl, rfl, rfl⟩
theorem t2_La_put (a1 : Int32) (hB : M B = some (.inr (0, fs))) (hC : Ctr l E y_RD_put 6 [.ref B, .int a1] N M 1 6 (t_thr 12 N M)) : CtrX l E y_La_put 7 [.ref B, .int a1, .ref O] N M 1 6 (g_ret (fun v N' M' => v = some (.int (nI 2)) ∧ N' = N + 1 ∧ M' = va_up M N (some (.inr (12, []))))) := by
  refine ctrX_of [some (.ref B), some (.int a1), some (.ref O), none] (by decide) w_317 rfl rfl (Nat.le_of_ble_eq_true rfl) (fun Γ hX => ?_)
  refine g_aload_n d_La_put_0 rfl ?_
  refine g_iconst (v := nI 0) d_La_put_1 (by decide) ?_
  refine g_aload_n d_La_put_2 rfl ?_
  refine g_iload_n d_La_put_3 rfl ?_
  refine g_catchV (hp := 15) [⟨0, 9, 12, 13⟩] ⟨0, 9, 15, 15⟩ [] s_La_7 sv_RD_put (by assumption) rfl hC (by omega) rfl (by omega) (by omega) rfl (Nat.le_of_ble_eq_true rfl) d_La_put_4 rfl rfl (by decide) (by decide) w_319 rfl cs_Uoe (fun z hz => by rw [List.mem_singleton.mp hz]; exact ⟨by decide, _, w_318, hX.1⟩) ?_
  refine g_astore_n d_La_put_15 (by decide) ?_
  refine g_iconst (v := nI 2) d_La_put_16 (by decide) ?_
  exact g_ireturn rfl rfl (by omega) (by omega) d_La_put_17 ⟨_, rfl, rfl, rfl, rfl⟩
theorem h_La_read {P : Option Value → Nat → gM → Prop} (a1 : Int32) (hB : M B = some (.inr (0, fs))) (hC : Ctr l E y_RD_read 10 [.ref B, .int a1] N M 0 0 (g_ret P)) (hP : ∀ v N' M', P v N' M' → (∃ z, v = some (.int z)) ∧ ∃ fo, M' O = some (g_la E 1 fo)) : CtrX l E y_La_read 11 [.ref B, .int a1, .ref O] N M 1 6 (g_ret (fun v N' M' => v = some (.int (nI 0)) ∧ ∃ z M1, P (some (.int z)) N' M1 ∧ (∃ fo, M' O = some (g_la E 1 fo) ∧ fo 0 = z.toInt64) ∧ ∀ x, x ≠ O → M' x = M1 x)) := by
  refine ctrX_of [some (.ref B), some (.int a1), some (.ref O), none] (by decide) w_429 rfl rfl (Nat.le_of_ble_eq_true rfl) (fun Γ hX => ?_)
  refine g_aload_n d_La_read_0 rfl ?_
  refine g_iconst (v := nI 0) d_La_read_1 (by decide) ?_
  refine g_aload_n d_La_read_2 rfl ?_
  refine g_iload_n d_La_read_3 rfl ?_
  refine g_callV s_La_17 sv_RD_read (by assumption) rfl (hC) (by omega) rfl (by omega) (by omega) rfl (Nat.le_of_ble_eq_true rfl) d_La_read_4 ?_
  rintro v N' M1 hp
  obtain ⟨⟨z, rfl⟩, fo, ho⟩ := hP _ _ _ hp
  refine g_i2l d_La_read_7 rfl ?_
  refine g_last _ (by assumption) rfl (by omega) (by decide) d_La_read_8 ?_
  refine g_nm (fun M2 e2 f2 => ?_)
  refine g_goto (tgt := 15) d_La_read_9 (by decide) ?_
  refine g_iconst (v := nI 0) d_La_read_15 (by decide) ?_
  exact g_ireturn rfl rfl (by omega) (by omega) d_La_read_16 ⟨_, rfl, rfl, z, M1, hp, ⟨_, e2, rfl⟩, f2⟩
theorem t1_La_read (a1 : Int32) (hB : M B = some (.inr (0, fs))) (hC : Ctr l E y_RD_read 10 [.ref B, .int a1] N M 1 6 (t_thr 13 N M)) : CtrX l E y_La_read 11 [.ref B, .int a1, .ref O] N M 1 6 (g_ret (fun v N' M' => v = some (.int (nI 1)) ∧ N' = N + 1 ∧ M' = va_up M N (some (.inr (13, []))))) := by
  refine ctrX_of [some (.ref B), some (.int a1), some (.ref O), none] (by decide) w_429 rfl rfl (Nat.le_of_ble_eq_true rfl) (fun Γ hX => ?_)
  refine g_aload_n d_La_read_0 rfl ?_
  refine g_iconst (v := nI 0) d_La_read_1 (by decide) ?_
  refine g_aload_n d_La_read_2 rfl ?_
  refine g_iload_n d_La_read_3 rfl ?_
  refine g_catchV (hp := 12) [] ⟨0, 9, 12, 20⟩ [] s_La_17 sv_RD_read (by assumption) rfl hC (by omega) rfl (by omega) (by omega) rfl (Nat.le_of_ble_eq_true rfl) d_La_read_4 rfl rfl (by decide) (by decide) w_430 rfl cs_Ioe (fun z hz => by cases hz) ?_
  refine g_astore_n d_La_read_12 (by decide) ?_
  refine g_iconst (v := nI 1) d_La_read_13 (by decide) ?_
  exact g_ireturn rfl rfl (by omega) (by omega) d_La_read_14 ⟨_, rfl, rfl, rfl, rfl⟩
theorem h_La_remove {P : Option Value → Nat → gM → Prop} (a1 a2 : Int32) (hB : M B = some (.inr (0, fs))) (hC : Ctr l E y_RD_remove 8 [.ref B, .int a1, .int a2] N M 0 0 (g_ret P)) (hP : ∀ v N' M', P v N' M' → v = none) : CtrX l E y_La_remove 9 [.ref B, .int a1, .int a2] N M 1 6 (g_ret (fun v N' M' => v = some (.int (nI 0)) ∧ P none N' M')) := by
  refine ctrX_of [some (.ref B), some (.int a1), some (.int a2), none] (by decide) w_637 rfl rfl (Nat.le_of_ble_eq_true rfl) (fun Γ hX => ?_)
  refine g_aload_n d_La_remove_0 rfl ?_
  refine g_iload_n d_La_remove_1 rfl ?_
  refine g_iload_n d_La_remove_2 rfl ?_
  refine g_callV s_La_22 sv_RD_remove (by assumption) rfl (hC) (by omega) rfl (by omega) (by omega) rfl (Nat.le_of_ble_eq_true rfl) d_La_remove_3 ?_
  rintro v N' M1 hp
  obtain rfl := hP _ _ _ hp
  refine g_goto (tgt := 15) d_La_remove_6 (by decide) ?_
  refine g_iconst (v := nI 0) d_La_remove_15 (by decide) ?_
  exact g_ireturn rfl rfl (by omega) (by omega) d_La_remove_16 ⟨_, rfl, rfl, hp⟩
theorem t1_La_remove (a1 a2 : Int32) (hB : M B = some (.inr (0, fs))) (hC : Ctr l E y_RD_remove 8 [.ref B, .int a1, .int a2] N M 1 6 (t_thr 13 N M)) : CtrX l E y_La_remove 9 [.ref B, .int a1, .int a2] N M 1 6 (g_ret (fun v N' M' => v = some (.int (nI 1)) ∧ N' = N + 1 ∧ M' = va_up M N (some (.inr (13, []))))) := by
  refine ctrX_of [some (.ref B), some (.int a1), some (.int a2), none] (by decide) w_637 rfl rfl (Nat.le_of_ble_eq_true rfl) (fun Γ hX => ?_)
  refine g_aload_n d_La_remove_0 rfl ?_
  refine g_iload_n d_La_remove_1 rfl ?_
  refine g_iload_n d_La_remove_2 rfl ?_
  refine g_catchV (hp := 9) [] ⟨0, 6, 9, 20⟩ [⟨0, 6, 12, 13⟩] s_La_22 sv_RD_remove (by assumption) rfl hC (by omega) rfl (by omega) (by omega) rfl (Nat.le_of_ble_eq_true rfl) d_La_remove_3 rfl rfl (by decide) (by decide) w_430 rfl cs_Ioe (fun z hz => by cases hz) ?_
  refine g_astore_n d_La_remove_9 (by decide) ?_
  refine g_iconst (v := nI 1) d_La_remove_10 (by decide) ?_
  exact g_ireturn rfl rfl (by omega) (by omega) d_La_remove_11 ⟨_, rfl, rfl, rfl, rfl⟩
theorem t2_La_remove (a1 a2 : Int32) (hB : M B = some (.inr (0, fs))) (hC : Ctr l E y_RD_remove 8 [.ref B, .int a1, .int a2] N M 1 6 (t_thr 11 N M)) : CtrX l E y_La_remove 9 [.ref B, .int a1, .int a2] N M 1 6 (g_ret (fun v N' M' => v = some (.int (nI 2)) ∧ N' = N + 1 ∧ M' = va_up M N (some (.inr (11, []))))) := by
  refine ctrX_of [some (.ref B), some (.int a1), some (.int a2), none] (by decide) w_637 rfl rfl (Nat.le_of_ble_eq_true rfl) (fun Γ hX => ?_)
  refine g_aload_n d_La_remove_0 rfl ?_
  refine g_iload_n d_La_remove_1 rfl ?_
  refine g_iload_n d_La_remove_2 rfl ?_
  refine g_catchV (hp := 12) [⟨0, 6, 9, 20⟩] ⟨0, 6, 12, 13⟩ [] s_La_22 sv_RD_remove (by assumption) rfl hC (by omega) rfl (by omega) (by omega) rfl (Nat.le_of_ble_eq_true rfl) d_La_remove_3 rfl rfl (by decide) (by decide) w_318 rfl cs_Iae (fun z hz => by rw [List.mem_singleton.mp hz]; exact ⟨by decide, _, w_430, hX.2⟩) ?_
  refine g_astore_n d_La_remove_12 (by decide) ?_
  refine g_iconst (v := nI 2) d_La_remove_13 (by decide) ?_
  exact g_ireturn rfl rfl (by omega) (by omega) d_La_remove_14 ⟨_, rfl, rfl, rfl, rfl⟩
theorem h_La_swap {P : Option Value → Nat → gM → Prop} (a1 a2 : Int32) (hB : M B = some (.inr (0, fs))) (hC : Ctr l E y_RD_swap 8 [.ref B, .int a1, .int a2] N M 0 0 (g_ret P)) (hP : ∀ v N' M', P v N' M' → v = none) : CtrX l E y_La_swap 9 [.ref B, .int a1, .int a2] N M 1 6 (g_ret (fun v N' M' => v = some (.int (nI 0)) ∧ P none N' M')) := by
  refine ctrX_of [some (.ref B), some (.int a1), some (.int a2), none] (by decide) w_661 rfl rfl (Nat.le_of_ble_eq_true rfl) (fun Γ hX => ?_)
  refine g_aload_n d_La_swap_0 rfl ?_
  refine g_iload_n d_La_swap_1 rfl ?_
  refine g_iload_n d_La_swap_2 rfl ?_
  refine g_callV s_La_26 sv_RD_swap (by assumption) rfl (hC) (by omega) rfl (by omega) (by omega) rfl (Nat.le_of_ble_eq_true rfl) d_La_swap_3 ?_
  rintro v N' M1 hp
  obtain rfl := hP _ _ _ hp
  refine g_goto (tgt := 15) d_La_swap_6 (by decide) ?_
  refine g_iconst (v := nI 0) d_La_swap_15 (by decide) ?_
  exact g_ireturn rfl rfl (by omega) (by omega) d_La_swap_16 ⟨_, rfl, rfl, hp⟩
theorem t1_La_swap (a1 a2 : Int32) (hB : M B = some (.inr (0, fs))) (hC : Ctr l E y_RD_swap 8 [.ref B, .int a1, .int a2] N M 1 6 (t_thr 13 N M)) : CtrX l E y_La_swap 9 [.ref B, .int a1, .int a2] N M 1 6 (g_ret (fun v N' M' => v = some (.int (nI 1)) ∧ N' = N + 1 ∧ M' = va_up M N (some (.inr (13, []))))) := by
  refine ctrX_of [some (.ref B), some (.int a1), some (.int a2), none] (by decide) w_661 rfl rfl (Nat.le_of_ble_eq_true rfl) (fun Γ hX => ?_)
  refine g_aload_n d_La_swap_0 rfl ?_
  refine g_iload_n d_La_swap_1 rfl ?_
  refine g_iload_n d_La_swap_2 rfl ?_
  refine g_catchV (hp := 9) [] ⟨0, 6, 9, 20⟩ [⟨0, 6, 12, 13⟩] s_La_26 sv_RD_swap (by assumption) rfl hC (by omega) rfl (by omega) (by omega) rfl (Nat.le_of_ble_eq_true rfl) d_La_swap_3 rfl rfl (by decide) (by decide) w_430 rfl cs_Ioe (fun z hz => by cases hz) ?_
  refine g_astore_n d_La_swap_9 (by decide) ?_
  refine g_iconst (v := nI 1) d_La_swap_10 (by decide) ?_
  exact g_ireturn rfl rfl (by omega) (by omega) d_La_swap_11 ⟨_, rfl, rfl, rfl, rfl⟩
theorem t2_La_swap (a1 a2 : Int32) (hB : M B = some (.inr (0, fs))) (hC : Ctr l E y_RD_swap 8 [.ref B, .int a1, .int a2] N M 1 6 (t_thr 11 N M)) : CtrX l E y_La_swap 9 [.ref B, .int a1, .int a2] N M 1 6 (g_ret (fun v N' M' => v = some (.int (nI 2)) ∧ N' = N + 1 ∧ M' = va_up M N (some (.inr (11, []))))) := by
  refine ctrX_of [some (.ref B), some (.int a1), some (.int a2), none] (by decide) w_661 rfl rfl (Nat.le_of_ble_eq_true rfl) (fun Γ hX => ?_)
  refine g_aload_n d_La_swap_0 rfl ?_
  refine g_iload_n d_La_swap_1 rfl ?_
  refine g_iload_n d_La_swap_2 rfl ?_
  refine g_catchV (hp := 12) [⟨0, 6, 9, 20⟩] ⟨0, 6, 12, 13⟩ [] s_La_26 sv_RD_swap (by assumption) rfl hC (by omega) rfl (by omega) (by omega) rfl (Nat.le_of_ble_eq_true rfl) d_La_swap_3 rfl rfl (by decide) (by decide) w_318 rfl cs_Iae (fun z hz => by rw [List.mem_singleton.mp hz]; exact ⟨by decide, _, w_430, hX.2⟩) ?_
  refine g_astore_n d_La_swap_12 (by decide) ?_
  refine g_iconst (v := nI 2) d_La_swap_13 (by decide) ?_
  exact g_ireturn rfl rfl (by omega) (by omega) d_La_swap_14 ⟨_, rfl, rfl, rfl, rfl⟩
theorem h_La_rules {P : Option Value → Nat → gM → Prop} (a1 : Int32) (hB : M B = some (.inr (0, fs))) (hC : Ctr l E y_RD_rules 7 [.ref B, .int a1] N M 0 0 (g_ret P)) (hP : ∀ v N' M', P v N' M' → (∃ z, v = some (.int z)) ∧ ∃ fo, M' O = some (g_la E 1 fo)) : CtrX l E y_La_rules 8 [.ref B, .int a1, .ref O] N M 1 6 (g_ret (fun v N' M' => v = some (.int (nI 0)) ∧ ∃ z M1, P (some (.int z)) N' M1 ∧ (∃ fo, M' O = some (g_la E 1 fo) ∧ fo 0 = z.toInt64) ∧ ∀ x, x ≠ O → M' x = M1 x)) := by
  refine ctrX_of [some (.ref B), some (.int a1), some (.ref O), none] (by decide) w_669 rfl rfl (Nat.le_of_ble_eq_true rfl) (fun Γ hX => ?_)
  refine g_aload_n d_La_rules_0 rfl ?_
  refine g_iconst (v := nI 0) d_La_rules_1 (by decide) ?_
  refine g_aload_n d_La_rules_2 rfl ?_
  refine g_iload_n d_La_rules_3 rfl ?_
  refine g_callV s_La_29 sv_RD_rules (by assumption) rfl (hC) (by omega) rfl (by omega) (by omega) rfl (Nat.le_of_ble_eq_true rfl) d_La_rules_4 ?_
  rintro v N' M1 hp
  obtain ⟨⟨z, rfl⟩, fo, ho⟩ := hP _ _ _ hp
  refine g_i2l d_La_rules_7 rfl ?_
  refine g_last _ (by assumption) rfl (by omega) (by decide) d_La_rules_8 ?_
  refine g_nm (fun M2 e2 f2 => ?_)
  refine g_goto (tgt := 15) d_La_rules_9 (by decide) ?_
  refine g_iconst (v := nI 0) d_La_rules_15 (by decide) ?_
  exact g_ireturn rfl rfl (by omega) (by omega) d_La_rules_16 ⟨_, rfl, rfl, z, M1, hp, ⟨_, e2, rfl⟩, f2⟩
theorem t1_La_rules (a1 : Int32) (hB : M B = some (.inr (0, fs))) (hC : Ctr l E y_RD_rules 7 [.ref B, .int a1] N M 1 6 (t_thr 13 N M)) : CtrX l E y_La_rules 8 [.ref B, .int a1, .ref O] N M 1 6 (g_ret (fun v N' M' => v = some (.int (nI 1)) ∧ N' = N + 1 ∧ M' = va_up M N (some (.inr (13, []))))) := by
  refine ctrX_of [some (.ref B), some (.int a1), some (.ref O), none] (by decide) w_669 rfl rfl (Nat.le_of_ble_eq_true rfl) (fun Γ hX => ?_)
  refine g_aload_n d_La_rules_0 rfl ?_
  refine g_iconst (v := nI 0) d_La_rules_1 (by decide) ?_
  refine g_aload_n d_La_rules_2 rfl ?_
  refine g_iload_n d_La_rules_3 rfl ?_
  refine g_catchV (hp := 12) [] ⟨0, 9, 12, 20⟩ [] s_La_29 sv_RD_rules (by assumption) rfl hC (by omega) rfl (by omega) (by omega) rfl (Nat.le_of_ble_eq_true rfl) d_La_rules_4 rfl rfl (by decide) (by decide) w_430 rfl cs_Ioe (fun z hz => by cases hz) ?_
  refine g_astore_n d_La_rules_12 (by decide) ?_
  refine g_iconst (v := nI 1) d_La_rules_13 (by decide) ?_
  exact g_ireturn rfl rfl (by omega) (by omega) d_La_rules_14 ⟨_, rfl, rfl, rfl, rfl⟩
theorem h_La_rule {P : Option Value → Nat → gM → Prop} (a1 a2 a3 : Int32) (hB : M B = some (.inr (0, fs))) (hC : Ctr l E y_RD_rule 8 [.ref B, .int a1, .int a2, .int a3] N M 0 0 (g_ret P)) (hP : ∀ v N' M', P v N' M' → (∃ z, v = some (.int z)) ∧ ∃ fo, M' O = some (g_la E 1 fo)) : CtrX l E y_La_rule 9 [.ref B, .int a1, .int a2, .int a3, .ref O] N M 1 6 (g_ret (fun v N' M' => v = some (.int (nI 0)) ∧ ∃ z M1, P (some (.int z)) N' M1 ∧ (∃ fo, M' O = some (g_la E 1 fo) ∧ fo 0 = z.toInt64) ∧ ∀ x, x ≠ O → M' x = M1 x)) := by
  refine ctrX_of [some (.ref B), some (.int a1), some (.int a2), some (.int a3), some (.ref O), none] (by decide) w_677 rfl rfl (Nat.le_of_ble_eq_true rfl) (fun Γ hX => ?_)
  refine g_aload d_La_rule_0 rfl ?_
  refine g_iconst (v := nI 0) d_La_rule_2 (by decide) ?_
  refine g_aload_n d_La_rule_3 rfl ?_
  refine g_iload_n d_La_rule_4 rfl ?_
  refine g_iload_n d_La_rule_5 rfl ?_
  refine g_iload_n d_La_rule_6 rfl ?_
  refine g_callV s_La_32 sv_RD_rule (by assumption) rfl (hC) (by omega) rfl (by omega) (by omega) rfl (Nat.le_of_ble_eq_true rfl) d_La_rule_7 ?_
  rintro v N' M1 hp
  obtain ⟨⟨z, rfl⟩, fo, ho⟩ := hP _ _ _ hp
  refine g_i2l d_La_rule_10 rfl ?_
  refine g_last _ (by assumption) rfl (by omega) (by decide) d_La_rule_11 ?_
  refine g_nm (fun M2 e2 f2 => ?_)
  refine g_goto (tgt := 23) d_La_rule_12 (by decide) ?_
  refine g_iconst (v := nI 0) d_La_rule_23 (by decide) ?_
  exact g_ireturn rfl rfl (by omega) (by omega) d_La_rule_24 ⟨_, rfl, rfl, z, M1, hp, ⟨_, e2, rfl⟩, f2⟩
theorem t1_La_rule (a1 a2 a3 : Int32) (hB : M B = some (.inr (0, fs))) (hC : Ctr l E y_RD_rule 8 [.ref B, .int a1, .int a2, .int a3] N M 1 6 (t_thr 13 N M)) : CtrX l E y_La_rule 9 [.ref B, .int a1, .int a2, .int a3, .ref O] N M 1 6 (g_ret (fun v N' M' => v = some (.int (nI 1)) ∧ N' = N + 1 ∧ M' = va_up M N (some (.inr (13, []))))) := by
  refine ctrX_of [some (.ref B), some (.int a1), some (.int a2), some (.int a3), some (.ref O), none] (by decide) w_677 rfl rfl (Nat.le_of_ble_eq_true rfl) (fun Γ hX => ?_)
  refine g_aload d_La_rule_0 rfl ?_
  refine g_iconst (v := nI 0) d_La_rule_2 (by decide) ?_
  refine g_aload_n d_La_rule_3 rfl ?_
  refine g_iload_n d_La_rule_4 rfl ?_
  refine g_iload_n d_La_rule_5 rfl ?_
  refine g_iload_n d_La_rule_6 rfl ?_
  refine g_catchV (hp := 15) [] ⟨0, 12, 15, 20⟩ [⟨0, 12, 19, 13⟩] s_La_32 sv_RD_rule (by assumption) rfl hC (by omega) rfl (by omega) (by omega) rfl (Nat.le_of_ble_eq_true rfl) d_La_rule_7 rfl rfl (by decide) (by decide) w_430 rfl cs_Ioe (fun z hz => by cases hz) ?_
  refine g_astore d_La_rule_15 (by decide) ?_
  refine g_iconst (v := nI 1) d_La_rule_17 (by decide) ?_
  exact g_ireturn rfl rfl (by omega) (by omega) d_La_rule_18 ⟨_, rfl, rfl, rfl, rfl⟩
theorem t2_La_rule (a1 a2 a3 : Int32) (hB : M B = some (.inr (0, fs))) (hC : Ctr l E y_RD_rule 8 [.ref B, .int a1, .int a2, .int a3] N M 1 6 (t_thr 11 N M)) : CtrX l E y_La_rule 9 [.ref B, .int a1, .int a2, .int a3, .ref O] N M 1 6 (g_ret (fun v N' M' => v = some (.int (nI 2)) ∧ N' = N + 1 ∧ M' = va_up M N (some (.inr (11, []))))) := by
  refine ctrX_of [some (.ref B), some (.int a1), some (.int a2), some (.int a3), some (.ref O), none] (by decide) w_677 rfl rfl (Nat.le_of_ble_eq_true rfl) (fun Γ hX => ?_)
  refine g_aload d_La_rule_0 rfl ?_
  refine g_iconst (v := nI 0) d_La_rule_2 (by decide) ?_
  refine g_aload_n d_La_rule_3 rfl ?_
  refine g_iload_n d_La_rule_4 rfl ?_
  refine g_iload_n d_La_rule_5 rfl ?_
  refine g_iload_n d_La_rule_6 rfl ?_
  refine g_catchV (hp := 19) [⟨0, 12, 15, 20⟩] ⟨0, 12, 19, 13⟩ [] s_La_32 sv_RD_rule (by assumption) rfl hC (by omega) rfl (by omega) (by omega) rfl (Nat.le_of_ble_eq_true rfl) d_La_rule_7 rfl rfl (by decide) (by decide) w_318 rfl cs_Iae (fun z hz => by rw [List.mem_singleton.mp hz]; exact ⟨by decide, _, w_430, hX.2⟩) ?_
  refine g_astore d_La_rule_19 (by decide) ?_
  refine g_iconst (v := nI 2) d_La_rule_21 (by decide) ?_
  exact g_ireturn rfl rfl (by omega) (by omega) d_La_rule_22 ⟨_, rfl, rfl, rfl, rfl⟩
theorem h_La_verdict {P : Option Value → Nat → gM → Prop} (a1 a2 a3 a4 a5 : Int32) (hB : M B = some (.inr (0, fs))) (hC : Ctr l E y_RD_verdict 8 [.ref B, .int a1, .int a2, .int a3, .int a4, .int a5] N M 0 0 (g_ret P)) (hP : ∀ v N' M', P v N' M' → (∃ z, v = some (.int z)) ∧ ∃ fo, M' O = some (g_la E 1 fo)) : CtrX l E y_La_verdict 9 [.ref B, .int a1, .int a2, .int a3, .int a4, .int a5, .ref O] N M 1 6 (g_ret (fun v N' M' => v = some (.int (nI 0)) ∧ ∃ z M1, P (some (.int z)) N' M1 ∧ (∃ fo, M' O = some (g_la E 1 fo) ∧ fo 0 = z.toInt64) ∧ ∀ x, x ≠ O → M' x = M1 x)) := by
  refine ctrX_of [some (.ref B), some (.int a1), some (.int a2), some (.int a3), some (.int a4), some (.int a5), some (.ref O), none] (by decide) w_690 rfl rfl (Nat.le_of_ble_eq_true rfl) (fun Γ hX => ?_)
  refine g_aload d_La_verdict_0 rfl ?_
  refine g_iconst (v := nI 0) d_La_verdict_2 (by decide) ?_
  refine g_aload_n d_La_verdict_3 rfl ?_
  refine g_iload_n d_La_verdict_4 rfl ?_
  refine g_iload_n d_La_verdict_5 rfl ?_
  refine g_iload_n d_La_verdict_6 rfl ?_
  refine g_iload d_La_verdict_7 rfl ?_
  refine g_iload d_La_verdict_9 rfl ?_
  refine g_callV s_La_36 sv_RD_verdict (by assumption) rfl (hC) (by omega) rfl (by omega) (by omega) rfl (Nat.le_of_ble_eq_true rfl) d_La_verdict_11 ?_
  rintro v N' M1 hp
  obtain ⟨⟨z, rfl⟩, fo, ho⟩ := hP _ _ _ hp
  refine g_i2l d_La_verdict_14 rfl ?_
  refine g_last _ (by assumption) rfl (by omega) (by decide) d_La_verdict_15 ?_
  refine g_nm (fun M2 e2 f2 => ?_)
  refine g_goto (tgt := 27) d_La_verdict_16 (by decide) ?_
  refine g_iconst (v := nI 0) d_La_verdict_27 (by decide) ?_
  exact g_ireturn rfl rfl (by omega) (by omega) d_La_verdict_28 ⟨_, rfl, rfl, z, M1, hp, ⟨_, e2, rfl⟩, f2⟩
theorem t1_La_verdict (a1 a2 a3 a4 a5 : Int32) (hB : M B = some (.inr (0, fs))) (hC : Ctr l E y_RD_verdict 8 [.ref B, .int a1, .int a2, .int a3, .int a4, .int a5] N M 1 6 (t_thr 13 N M)) : CtrX l E y_La_verdict 9 [.ref B, .int a1, .int a2, .int a3, .int a4, .int a5, .ref O] N M 1 6 (g_ret (fun v N' M' => v = some (.int (nI 1)) ∧ N' = N + 1 ∧ M' = va_up M N (some (.inr (13, []))))) := by
  refine ctrX_of [some (.ref B), some (.int a1), some (.int a2), some (.int a3), some (.int a4), some (.int a5), some (.ref O), none] (by decide) w_690 rfl rfl (Nat.le_of_ble_eq_true rfl) (fun Γ hX => ?_)
  refine g_aload d_La_verdict_0 rfl ?_
  refine g_iconst (v := nI 0) d_La_verdict_2 (by decide) ?_
  refine g_aload_n d_La_verdict_3 rfl ?_
  refine g_iload_n d_La_verdict_4 rfl ?_
  refine g_iload_n d_La_verdict_5 rfl ?_
  refine g_iload_n d_La_verdict_6 rfl ?_
  refine g_iload d_La_verdict_7 rfl ?_
  refine g_iload d_La_verdict_9 rfl ?_
  refine g_catchV (hp := 19) [] ⟨0, 16, 19, 20⟩ [⟨0, 16, 23, 13⟩] s_La_36 sv_RD_verdict (by assumption) rfl hC (by omega) rfl (by omega) (by omega) rfl (Nat.le_of_ble_eq_true rfl) d_La_verdict_11 rfl rfl (by decide) (by decide) w_430 rfl cs_Ioe (fun z hz => by cases hz) ?_
  refine g_astore d_La_verdict_19 (by decide) ?_
  refine g_iconst (v := nI 1) d_La_verdict_21 (by decide) ?_
  exact g_ireturn rfl rfl (by omega) (by omega) d_La_verdict_22 ⟨_, rfl, rfl, rfl, rfl⟩
theorem t2_La_verdict (a1 a2 a3 a4 a5 : Int32) (hB : M B = some (.inr (0, fs))) (hC : Ctr l E y_RD_verdict 8 [.ref B, .int a1, .int a2, .int a3, .int a4, .int a5] N M 1 6 (t_thr 11 N M)) : CtrX l E y_La_verdict 9 [.ref B, .int a1, .int a2, .int a3, .int a4, .int a5, .ref O] N M 1 6 (g_ret (fun v N' M' => v = some (.int (nI 2)) ∧ N' = N + 1 ∧ M' = va_up M N (some (.inr (11, []))))) := by
  refine ctrX_of [some (.ref B), some (.int a1), some (.int a2), some (.int a3), some (.int a4), some (.int a5), some (.ref O), none] (by decide) w_690 rfl rfl (Nat.le_of_ble_eq_true rfl) (fun Γ hX => ?_)
  refine g_aload d_La_verdict_0 rfl ?_
  refine g_iconst (v := nI 0) d_La_verdict_2 (by decide) ?_
  refine g_aload_n d_La_verdict_3 rfl ?_
  refine g_iload_n d_La_verdict_4 rfl ?_
  refine g_iload_n d_La_verdict_5 rfl ?_
  refine g_iload_n d_La_verdict_6 rfl ?_
  refine g_iload d_La_verdict_7 rfl ?_
  refine g_iload d_La_verdict_9 rfl ?_
  refine g_catchV (hp := 23) [⟨0, 16, 19, 20⟩] ⟨0, 16, 23, 13⟩ [] s_La_36 sv_RD_verdict (by assumption) rfl hC (by omega) rfl (by omega) (by omega) rfl (Nat.le_of_ble_eq_true rfl) d_La_verdict_11 rfl rfl (by decide) (by decide) w_318 rfl cs_Iae (fun z hz => by rw [List.mem_singleton.mp hz]; exact ⟨by decide, _, w_430, hX.2⟩) ?_
  refine g_astore d_La_verdict_23 (by decide) ?_
  refine g_iconst (v := nI 2) d_La_verdict_25 (by decide) ?_
  exact g_ireturn rfl rfl (by omega) (by omega) d_La_verdict_26 ⟨_, rfl, rfl, rfl, rfl⟩
theorem h_La_first {P : Option Value → Nat → gM → Prop} (a1 a2 a3 a4 a5 : Int32) (hB : M B = some (.inr (0, fs))) (hC : Ctr l E y_RD_first 8 [.ref B, .int a1, .int a2, .int a3, .int a4, .int a5] N M 0 0 (g_ret P)) (hP : ∀ v N' M', P v N' M' → (∃ z, v = some (.int z)) ∧ ∃ fo, M' O = some (g_la E 1 fo)) : CtrX l E y_La_first 9 [.ref B, .int a1, .int a2, .int a3, .int a4, .int a5, .ref O] N M 1 6 (g_ret (fun v N' M' => v = some (.int (nI 0)) ∧ ∃ z M1, P (some (.int z)) N' M1 ∧ (∃ fo, M' O = some (g_la E 1 fo) ∧ fo 0 = z.toInt64) ∧ ∀ x, x ≠ O → M' x = M1 x)) := by
  refine ctrX_of [some (.ref B), some (.int a1), some (.int a2), some (.int a3), some (.int a4), some (.int a5), some (.ref O), none] (by decide) w_726 rfl rfl (Nat.le_of_ble_eq_true rfl) (fun Γ hX => ?_)
  refine g_aload d_La_first_0 rfl ?_
  refine g_iconst (v := nI 0) d_La_first_2 (by decide) ?_
  refine g_aload_n d_La_first_3 rfl ?_
  refine g_iload_n d_La_first_4 rfl ?_
  refine g_iload_n d_La_first_5 rfl ?_
  refine g_iload_n d_La_first_6 rfl ?_
  refine g_iload d_La_first_7 rfl ?_
  refine g_iload d_La_first_9 rfl ?_
  refine g_callV s_La_40 sv_RD_first (by assumption) rfl (hC) (by omega) rfl (by omega) (by omega) rfl (Nat.le_of_ble_eq_true rfl) d_La_first_11 ?_
  rintro v N' M1 hp
  obtain ⟨⟨z, rfl⟩, fo, ho⟩ := hP _ _ _ hp
  refine g_i2l d_La_first_14 rfl ?_
  refine g_last _ (by assumption) rfl (by omega) (by decide) d_La_first_15 ?_
  refine g_nm (fun M2 e2 f2 => ?_)
  refine g_goto (tgt := 27) d_La_first_16 (by decide) ?_
  refine g_iconst (v := nI 0) d_La_first_27 (by decide) ?_
  exact g_ireturn rfl rfl (by omega) (by omega) d_La_first_28 ⟨_, rfl, rfl, z, M1, hp, ⟨_, e2, rfl⟩, f2⟩
theorem t1_La_first (a1 a2 a3 a4 a5 : Int32) (hB : M B = some (.inr (0, fs))) (hC : Ctr l E y_RD_first 8 [.ref B, .int a1, .int a2, .int a3, .int a4, .int a5] N M 1 6 (t_thr 13 N M)) : CtrX l E y_La_first 9 [.ref B, .int a1, .int a2, .int a3, .int a4, .int a5, .ref O] N M 1 6 (g_ret (fun v N' M' => v = some (.int (nI 1)) ∧ N' = N + 1 ∧ M' = va_up M N (some (.inr (13, []))))) := by
  refine ctrX_of [some (.ref B), some (.int a1), some (.int a2), some (.int a3), some (.int a4), some (.int a5), some (.ref O), none] (by decide) w_726 rfl rfl (Nat.le_of_ble_eq_true rfl) (fun Γ hX => ?_)
  refine g_aload d_La_first_0 rfl ?_
  refine g_iconst (v := nI 0) d_La_first_2 (by decide) ?_
  refine g_aload_n d_La_first_3 rfl ?_
  refine g_iload_n d_La_first_4 rfl ?_
  refine g_iload_n d_La_first_5 rfl ?_
  refine g_iload_n d_La_first_6 rfl ?_
  refine g_iload d_La_first_7 rfl ?_
  refine g_iload d_La_first_9 rfl ?_
  refine g_catchV (hp := 19) [] ⟨0, 16, 19, 20⟩ [⟨0, 16, 23, 13⟩] s_La_40 sv_RD_first (by assumption) rfl hC (by omega) rfl (by omega) (by omega) rfl (Nat.le_of_ble_eq_true rfl) d_La_first_11 rfl rfl (by decide) (by decide) w_430 rfl cs_Ioe (fun z hz => by cases hz) ?_
  refine g_astore d_La_first_19 (by decide) ?_
  refine g_iconst (v := nI 1) d_La_first_21 (by decide) ?_
  exact g_ireturn rfl rfl (by omega) (by omega) d_La_first_22 ⟨_, rfl, rfl, rfl, rfl⟩
theorem t2_La_first (a1 a2 a3 a4 a5 : Int32) (hB : M B = some (.inr (0, fs))) (hC : Ctr l E y_RD_first 8 [.ref B, .int a1, .int a2, .int a3, .int a4, .int a5] N M 1 6 (t_thr 11 N M)) : CtrX l E y_La_first 9 [.ref B, .int a1, .int a2, .int a3, .int a4, .int a5, .ref O] N M 1 6 (g_ret (fun v N' M' => v = some (.int (nI 2)) ∧ N' = N + 1 ∧ M' = va_up M N (some (.inr (11, []))))) := by
  refine ctrX_of [some (.ref B), some (.int a1), some (.int a2), some (.int a3), some (.int a4), some (.int a5), some (.ref O), none] (by decide) w_726 rfl rfl (Nat.le_of_ble_eq_true rfl) (fun Γ hX => ?_)
  refine g_aload d_La_first_0 rfl ?_
  refine g_iconst (v := nI 0) d_La_first_2 (by decide) ?_
  refine g_aload_n d_La_first_3 rfl ?_
  refine g_iload_n d_La_first_4 rfl ?_
  refine g_iload_n d_La_first_5 rfl ?_
  refine g_iload_n d_La_first_6 rfl ?_
  refine g_iload d_La_first_7 rfl ?_
  refine g_iload d_La_first_9 rfl ?_
  refine g_catchV (hp := 23) [⟨0, 16, 19, 20⟩] ⟨0, 16, 23, 13⟩ [] s_La_40 sv_RD_first (by assumption) rfl hC (by omega) rfl (by omega) (by omega) rfl (Nat.le_of_ble_eq_true rfl) d_La_first_11 rfl rfl (by decide) (by decide) w_318 rfl cs_Iae (fun z hz => by rw [List.mem_singleton.mp hz]; exact ⟨by decide, _, w_430, hX.2⟩) ?_
  refine g_astore d_La_first_23 (by decide) ?_
  refine g_iconst (v := nI 2) d_La_first_25 (by decide) ?_
  exact g_ireturn rfl rfl (by omega) (by omega) d_La_first_26 ⟨_, rfl, rfl, rfl, rfl⟩
theorem h_La_count {P : Option Value → Nat → gM → Prop} (a1 a2 : Int32) (hB : M B = some (.inr (0, fs))) (hC : Ctr l E y_RD_count 7 [.ref B, .int a1, .int a2] N M 0 0 (g_ret P)) (hP : ∀ v N' M', P v N' M' → (∃ z, v = some (.int z)) ∧ ∃ fo, M' O = some (g_la E 1 fo)) : CtrX l E y_La_count 8 [.ref B, .int a1, .int a2, .ref O] N M 1 6 (g_ret (fun v N' M' => v = some (.int (nI 0)) ∧ ∃ z M1, P (some (.int z)) N' M1 ∧ (∃ fo, M' O = some (g_la E 1 fo) ∧ fo 0 = z.toInt64) ∧ ∀ x, x ≠ O → M' x = M1 x)) := by
  refine ctrX_of [some (.ref B), some (.int a1), some (.int a2), some (.ref O), none] (by decide) w_734 rfl rfl (Nat.le_of_ble_eq_true rfl) (fun Γ hX => ?_)
  refine g_aload_n d_La_count_0 rfl ?_
  refine g_iconst (v := nI 0) d_La_count_1 (by decide) ?_
  refine g_aload_n d_La_count_2 rfl ?_
  refine g_iload_n d_La_count_3 rfl ?_
  refine g_iload_n d_La_count_4 rfl ?_
  refine g_callV s_La_43 sv_RD_count (by assumption) rfl (hC) (by omega) rfl (by omega) (by omega) rfl (Nat.le_of_ble_eq_true rfl) d_La_count_5 ?_
  rintro v N' M1 hp
  obtain ⟨⟨z, rfl⟩, fo, ho⟩ := hP _ _ _ hp
  refine g_i2l d_La_count_8 rfl ?_
  refine g_last _ (by assumption) rfl (by omega) (by decide) d_La_count_9 ?_
  refine g_nm (fun M2 e2 f2 => ?_)
  refine g_goto (tgt := 21) d_La_count_10 (by decide) ?_
  refine g_iconst (v := nI 0) d_La_count_21 (by decide) ?_
  exact g_ireturn rfl rfl (by omega) (by omega) d_La_count_22 ⟨_, rfl, rfl, z, M1, hp, ⟨_, e2, rfl⟩, f2⟩
theorem t1_La_count (a1 a2 : Int32) (hB : M B = some (.inr (0, fs))) (hC : Ctr l E y_RD_count 7 [.ref B, .int a1, .int a2] N M 1 6 (t_thr 13 N M)) : CtrX l E y_La_count 8 [.ref B, .int a1, .int a2, .ref O] N M 1 6 (g_ret (fun v N' M' => v = some (.int (nI 1)) ∧ N' = N + 1 ∧ M' = va_up M N (some (.inr (13, []))))) := by
  refine ctrX_of [some (.ref B), some (.int a1), some (.int a2), some (.ref O), none] (by decide) w_734 rfl rfl (Nat.le_of_ble_eq_true rfl) (fun Γ hX => ?_)
  refine g_aload_n d_La_count_0 rfl ?_
  refine g_iconst (v := nI 0) d_La_count_1 (by decide) ?_
  refine g_aload_n d_La_count_2 rfl ?_
  refine g_iload_n d_La_count_3 rfl ?_
  refine g_iload_n d_La_count_4 rfl ?_
  refine g_catchV (hp := 13) [] ⟨0, 10, 13, 20⟩ [⟨0, 10, 17, 13⟩] s_La_43 sv_RD_count (by assumption) rfl hC (by omega) rfl (by omega) (by omega) rfl (Nat.le_of_ble_eq_true rfl) d_La_count_5 rfl rfl (by decide) (by decide) w_430 rfl cs_Ioe (fun z hz => by cases hz) ?_
  refine g_astore d_La_count_13 (by decide) ?_
  refine g_iconst (v := nI 1) d_La_count_15 (by decide) ?_
  exact g_ireturn rfl rfl (by omega) (by omega) d_La_count_16 ⟨_, rfl, rfl, rfl, rfl⟩
theorem t2_La_count (a1 a2 : Int32) (hB : M B = some (.inr (0, fs))) (hC : Ctr l E y_RD_count 7 [.ref B, .int a1, .int a2] N M 1 6 (t_thr 11 N M)) : CtrX l E y_La_count 8 [.ref B, .int a1, .int a2, .ref O] N M 1 6 (g_ret (fun v N' M' => v = some (.int (nI 2)) ∧ N' = N + 1 ∧ M' = va_up M N (some (.inr (11, []))))) := by
  refine ctrX_of [some (.ref B), some (.int a1), some (.int a2), some (.ref O), none] (by decide) w_734 rfl rfl (Nat.le_of_ble_eq_true rfl) (fun Γ hX => ?_)
  refine g_aload_n d_La_count_0 rfl ?_
  refine g_iconst (v := nI 0) d_La_count_1 (by decide) ?_
  refine g_aload_n d_La_count_2 rfl ?_
  refine g_iload_n d_La_count_3 rfl ?_
  refine g_iload_n d_La_count_4 rfl ?_
  refine g_catchV (hp := 17) [⟨0, 10, 13, 20⟩] ⟨0, 10, 17, 13⟩ [] s_La_43 sv_RD_count (by assumption) rfl hC (by omega) rfl (by omega) (by omega) rfl (Nat.le_of_ble_eq_true rfl) d_La_count_5 rfl rfl (by decide) (by decide) w_318 rfl cs_Iae (fun z hz => by rw [List.mem_singleton.mp hz]; exact ⟨by decide, _, w_430, hX.2⟩) ?_
  refine g_astore d_La_count_17 (by decide) ?_
  refine g_iconst (v := nI 2) d_La_count_19 (by decide) ?_
  exact g_ireturn rfl rfl (by omega) (by omega) d_La_count_20 ⟨_, rfl, rfl, rfl, rfl⟩
theorem h_La_nodes {P : Option Value → Nat → gM → Prop} (a1 a2 : Int32) (hB : M B = some (.inr (0, fs))) (hC : Ctr l E y_RD_nodes 7 [.ref B, .int a1, .int a2] N M 0 0 (g_ret P)) (hP : ∀ v N' M', P v N' M' → (∃ z, v = some (.int z)) ∧ ∃ fo, M' O = some (g_la E 1 fo)) : CtrX l E y_La_nodes 8 [.ref B, .int a1, .int a2, .ref O] N M 1 6 (g_ret (fun v N' M' => v = some (.int (nI 0)) ∧ ∃ z M1, P (some (.int z)) N' M1 ∧ (∃ fo, M' O = some (g_la E 1 fo) ∧ fo 0 = z.toInt64) ∧ ∀ x, x ≠ O → M' x = M1 x)) := by
  refine ctrX_of [some (.ref B), some (.int a1), some (.int a2), some (.ref O), none] (by decide) w_771 rfl rfl (Nat.le_of_ble_eq_true rfl) (fun Γ hX => ?_)
  refine g_aload_n d_La_nodes_0 rfl ?_
  refine g_iconst (v := nI 0) d_La_nodes_1 (by decide) ?_
  refine g_aload_n d_La_nodes_2 rfl ?_
  refine g_iload_n d_La_nodes_3 rfl ?_
  refine g_iload_n d_La_nodes_4 rfl ?_
  refine g_callV s_La_47 sv_RD_nodes (by assumption) rfl (hC) (by omega) rfl (by omega) (by omega) rfl (Nat.le_of_ble_eq_true rfl) d_La_nodes_5 ?_
  rintro v N' M1 hp
  obtain ⟨⟨z, rfl⟩, fo, ho⟩ := hP _ _ _ hp
  refine g_i2l d_La_nodes_8 rfl ?_
  refine g_last _ (by assumption) rfl (by omega) (by decide) d_La_nodes_9 ?_
  refine g_nm (fun M2 e2 f2 => ?_)
  refine g_goto (tgt := 21) d_La_nodes_10 (by decide) ?_
  refine g_iconst (v := nI 0) d_La_nodes_21 (by decide) ?_
  exact g_ireturn rfl rfl (by omega) (by omega) d_La_nodes_22 ⟨_, rfl, rfl, z, M1, hp, ⟨_, e2, rfl⟩, f2⟩
theorem t1_La_nodes (a1 a2 : Int32) (hB : M B = some (.inr (0, fs))) (hC : Ctr l E y_RD_nodes 7 [.ref B, .int a1, .int a2] N M 1 6 (t_thr 13 N M)) : CtrX l E y_La_nodes 8 [.ref B, .int a1, .int a2, .ref O] N M 1 6 (g_ret (fun v N' M' => v = some (.int (nI 1)) ∧ N' = N + 1 ∧ M' = va_up M N (some (.inr (13, []))))) := by
  refine ctrX_of [some (.ref B), some (.int a1), some (.int a2), some (.ref O), none] (by decide) w_771 rfl rfl (Nat.le_of_ble_eq_true rfl) (fun Γ hX => ?_)
  refine g_aload_n d_La_nodes_0 rfl ?_
  refine g_iconst (v := nI 0) d_La_nodes_1 (by decide) ?_
  refine g_aload_n d_La_nodes_2 rfl ?_
  refine g_iload_n d_La_nodes_3 rfl ?_
  refine g_iload_n d_La_nodes_4 rfl ?_
  refine g_catchV (hp := 13) [] ⟨0, 10, 13, 20⟩ [⟨0, 10, 17, 13⟩] s_La_47 sv_RD_nodes (by assumption) rfl hC (by omega) rfl (by omega) (by omega) rfl (Nat.le_of_ble_eq_true rfl) d_La_nodes_5 rfl rfl (by decide) (by decide) w_430 rfl cs_Ioe (fun z hz => by cases hz) ?_
  refine g_astore d_La_nodes_13 (by decide) ?_
  refine g_iconst (v := nI 1) d_La_nodes_15 (by decide) ?_
  exact g_ireturn rfl rfl (by omega) (by omega) d_La_nodes_16 ⟨_, rfl, rfl, rfl, rfl⟩
theorem t2_La_nodes (a1 a2 : Int32) (hB : M B = some (.inr (0, fs))) (hC : Ctr l E y_RD_nodes 7 [.ref B, .int a1, .int a2] N M 1 6 (t_thr 11 N M)) : CtrX l E y_La_nodes 8 [.ref B, .int a1, .int a2, .ref O] N M 1 6 (g_ret (fun v N' M' => v = some (.int (nI 2)) ∧ N' = N + 1 ∧ M' = va_up M N (some (.inr (11, []))))) := by
  refine ctrX_of [some (.ref B), some (.int a1), some (.int a2), some (.ref O), none] (by decide) w_771 rfl rfl (Nat.le_of_ble_eq_true rfl) (fun Γ hX => ?_)
  refine g_aload_n d_La_nodes_0 rfl ?_
  refine g_iconst (v := nI 0) d_La_nodes_1 (by decide) ?_
  refine g_aload_n d_La_nodes_2 rfl ?_
  refine g_iload_n d_La_nodes_3 rfl ?_
  refine g_iload_n d_La_nodes_4 rfl ?_
  refine g_catchV (hp := 17) [⟨0, 10, 13, 20⟩] ⟨0, 10, 17, 13⟩ [] s_La_47 sv_RD_nodes (by assumption) rfl hC (by omega) rfl (by omega) (by omega) rfl (Nat.le_of_ble_eq_true rfl) d_La_nodes_5 rfl rfl (by decide) (by decide) w_318 rfl cs_Iae (fun z hz => by rw [List.mem_singleton.mp hz]; exact ⟨by decide, _, w_430, hX.2⟩) ?_
  refine g_astore d_La_nodes_17 (by decide) ?_
  refine g_iconst (v := nI 2) d_La_nodes_19 (by decide) ?_
  exact g_ireturn rfl rfl (by omega) (by omega) d_La_nodes_20 ⟨_, rfl, rfl, rfl, rfl⟩
theorem h_La_edges {P : Option Value → Nat → gM → Prop} (a1 : Int32) (hB : M B = some (.inr (0, fs))) (hC : Ctr l E y_RD_edges 7 [.ref B, .int a1] N M 0 0 (g_ret P)) (hP : ∀ v N' M', P v N' M' → (∃ z, v = some (.int z)) ∧ ∃ fo, M' O = some (g_la E 1 fo)) : CtrX l E y_La_edges 8 [.ref B, .int a1, .ref O] N M 1 6 (g_ret (fun v N' M' => v = some (.int (nI 0)) ∧ ∃ z M1, P (some (.int z)) N' M1 ∧ (∃ fo, M' O = some (g_la E 1 fo) ∧ fo 0 = z.toInt64) ∧ ∀ x, x ≠ O → M' x = M1 x)) := by
  refine ctrX_of [some (.ref B), some (.int a1), some (.ref O), none] (by decide) w_810 rfl rfl (Nat.le_of_ble_eq_true rfl) (fun Γ hX => ?_)
  refine g_aload_n d_La_edges_0 rfl ?_
  refine g_iconst (v := nI 0) d_La_edges_1 (by decide) ?_
  refine g_aload_n d_La_edges_2 rfl ?_
  refine g_iload_n d_La_edges_3 rfl ?_
  refine g_callV s_La_50 sv_RD_edges (by assumption) rfl (hC) (by omega) rfl (by omega) (by omega) rfl (Nat.le_of_ble_eq_true rfl) d_La_edges_4 ?_
  rintro v N' M1 hp
  obtain ⟨⟨z, rfl⟩, fo, ho⟩ := hP _ _ _ hp
  refine g_i2l d_La_edges_7 rfl ?_
  refine g_last _ (by assumption) rfl (by omega) (by decide) d_La_edges_8 ?_
  refine g_nm (fun M2 e2 f2 => ?_)
  refine g_goto (tgt := 15) d_La_edges_9 (by decide) ?_
  refine g_iconst (v := nI 0) d_La_edges_15 (by decide) ?_
  exact g_ireturn rfl rfl (by omega) (by omega) d_La_edges_16 ⟨_, rfl, rfl, z, M1, hp, ⟨_, e2, rfl⟩, f2⟩
theorem t1_La_edges (a1 : Int32) (hB : M B = some (.inr (0, fs))) (hC : Ctr l E y_RD_edges 7 [.ref B, .int a1] N M 1 6 (t_thr 13 N M)) : CtrX l E y_La_edges 8 [.ref B, .int a1, .ref O] N M 1 6 (g_ret (fun v N' M' => v = some (.int (nI 1)) ∧ N' = N + 1 ∧ M' = va_up M N (some (.inr (13, []))))) := by
  refine ctrX_of [some (.ref B), some (.int a1), some (.ref O), none] (by decide) w_810 rfl rfl (Nat.le_of_ble_eq_true rfl) (fun Γ hX => ?_)
  refine g_aload_n d_La_edges_0 rfl ?_
  refine g_iconst (v := nI 0) d_La_edges_1 (by decide) ?_
  refine g_aload_n d_La_edges_2 rfl ?_
  refine g_iload_n d_La_edges_3 rfl ?_
  refine g_catchV (hp := 12) [] ⟨0, 9, 12, 20⟩ [] s_La_50 sv_RD_edges (by assumption) rfl hC (by omega) rfl (by omega) (by omega) rfl (Nat.le_of_ble_eq_true rfl) d_La_edges_4 rfl rfl (by decide) (by decide) w_430 rfl cs_Ioe (fun z hz => by cases hz) ?_
  refine g_astore_n d_La_edges_12 (by decide) ?_
  refine g_iconst (v := nI 1) d_La_edges_13 (by decide) ?_
  exact g_ireturn rfl rfl (by omega) (by omega) d_La_edges_14 ⟨_, rfl, rfl, rfl, rfl⟩
theorem h_La_witness {P : Option Value → Nat → gM → Prop} (a1 : Int32) (hB : M B = some (.inr (0, fs))) (hC : Ctr l E y_RD_witness 11 [.ref B, .int a1] N M 0 0 (g_ret P)) (hP : ∀ v N' M', P v N' M' → (∃ z, v = some (.int z)) ∧ ∃ fo, M' O = some (g_la E 1 fo)) : CtrX l E y_La_witness 12 [.ref B, .int a1, .ref O] N M 1 6 (g_ret (fun v N' M' => v = some (.int (nI 0)) ∧ ∃ z M1, P (some (.int z)) N' M1 ∧ (∃ fo, M' O = some (g_la E 1 fo) ∧ fo 0 = z.toInt64) ∧ ∀ x, x ≠ O → M' x = M1 x)) := by
  refine ctrX_of [some (.ref B), some (.int a1), some (.ref O), none] (by decide) w_821 rfl rfl (Nat.le_of_ble_eq_true rfl) (fun Γ hX => ?_)
  refine g_aload_n d_La_witness_0 rfl ?_
  refine g_iconst (v := nI 0) d_La_witness_1 (by decide) ?_
  refine g_aload_n d_La_witness_2 rfl ?_
  refine g_iload_n d_La_witness_3 rfl ?_
  refine g_callV s_La_53 sv_RD_witness (by assumption) rfl (hC) (by omega) rfl (by omega) (by omega) rfl (Nat.le_of_ble_eq_true rfl) d_La_witness_4 ?_
  rintro v N' M1 hp
  obtain ⟨⟨z, rfl⟩, fo, ho⟩ := hP _ _ _ hp
  refine g_i2l d_La_witness_7 rfl ?_
  refine g_last _ (by assumption) rfl (by omega) (by decide) d_La_witness_8 ?_
  refine g_nm (fun M2 e2 f2 => ?_)
  refine g_goto (tgt := 15) d_La_witness_9 (by decide) ?_
  refine g_iconst (v := nI 0) d_La_witness_15 (by decide) ?_
  exact g_ireturn rfl rfl (by omega) (by omega) d_La_witness_16 ⟨_, rfl, rfl, z, M1, hp, ⟨_, e2, rfl⟩, f2⟩
theorem t1_La_witness (a1 : Int32) (hB : M B = some (.inr (0, fs))) (hC : Ctr l E y_RD_witness 11 [.ref B, .int a1] N M 1 6 (t_thr 11 N M)) : CtrX l E y_La_witness 12 [.ref B, .int a1, .ref O] N M 1 6 (g_ret (fun v N' M' => v = some (.int (nI 1)) ∧ N' = N + 1 ∧ M' = va_up M N (some (.inr (11, []))))) := by
  refine ctrX_of [some (.ref B), some (.int a1), some (.ref O), none] (by decide) w_821 rfl rfl (Nat.le_of_ble_eq_true rfl) (fun Γ hX => ?_)
  refine g_aload_n d_La_witness_0 rfl ?_
  refine g_iconst (v := nI 0) d_La_witness_1 (by decide) ?_
  refine g_aload_n d_La_witness_2 rfl ?_
  refine g_iload_n d_La_witness_3 rfl ?_
  refine g_catchV (hp := 12) [] ⟨0, 9, 12, 13⟩ [] s_La_53 sv_RD_witness (by assumption) rfl hC (by omega) rfl (by omega) (by omega) rfl (Nat.le_of_ble_eq_true rfl) d_La_witness_4 rfl rfl (by decide) (by decide) w_318 rfl cs_Iae (fun z hz => by cases hz) ?_
  refine g_astore_n d_La_witness_12 (by decide) ?_
  refine g_iconst (v := nI 1) d_La_witness_13 (by decide) ?_
  exact g_ireturn rfl rfl (by omega) (by omega) d_La_witness_14 ⟨_, rfl, rfl, rfl, rfl⟩
theorem h_La_used {P : Option Value → Nat → gM → Prop} (a1 a2 : Int32) (hB : M B = some (.inr (0, fs))) (hC : Ctr l E y_RD_used 8 [.ref B, .int a1, .int a2] N M 0 0 (g_ret P)) (hP : ∀ v N' M', P v N' M' → (∃ z, v = some (.int z)) ∧ ∃ fo, M' O = some (g_la E 1 fo)) : CtrX l E y_La_used 9 [.ref B, .int a1, .int a2, .ref O] N M 1 6 (g_ret (fun v N' M' => v = some (.int (nI 0)) ∧ ∃ z M1, P (some (.int z)) N' M1 ∧ (∃ fo, M' O = some (g_la E 1 fo) ∧ fo 0 = z.toInt64) ∧ ∀ x, x ≠ O → M' x = M1 x)) := by
  refine ctrX_of [some (.ref B), some (.int a1), some (.int a2), some (.ref O), none] (by decide) w_842 rfl rfl (Nat.le_of_ble_eq_true rfl) (fun Γ hX => ?_)
  refine g_aload_n d_La_used_0 rfl ?_
  refine g_iconst (v := nI 0) d_La_used_1 (by decide) ?_
  refine g_aload_n d_La_used_2 rfl ?_
  refine g_iload_n d_La_used_3 rfl ?_
  refine g_iload_n d_La_used_4 rfl ?_
  refine g_callV s_La_56 sv_RD_used (by assumption) rfl (hC) (by omega) rfl (by omega) (by omega) rfl (Nat.le_of_ble_eq_true rfl) d_La_used_5 ?_
  rintro v N' M1 hp
  obtain ⟨⟨z, rfl⟩, fo, ho⟩ := hP _ _ _ hp
  refine g_i2l d_La_used_8 rfl ?_
  refine g_last _ (by assumption) rfl (by omega) (by decide) d_La_used_9 ?_
  refine g_nm (fun M2 e2 f2 => ?_)
  refine g_goto (tgt := 21) d_La_used_10 (by decide) ?_
  refine g_iconst (v := nI 0) d_La_used_21 (by decide) ?_
  exact g_ireturn rfl rfl (by omega) (by omega) d_La_used_22 ⟨_, rfl, rfl, z, M1, hp, ⟨_, e2, rfl⟩, f2⟩
theorem t1_La_used (a1 a2 : Int32) (hB : M B = some (.inr (0, fs))) (hC : Ctr l E y_RD_used 8 [.ref B, .int a1, .int a2] N M 1 6 (t_thr 13 N M)) : CtrX l E y_La_used 9 [.ref B, .int a1, .int a2, .ref O] N M 1 6 (g_ret (fun v N' M' => v = some (.int (nI 1)) ∧ N' = N + 1 ∧ M' = va_up M N (some (.inr (13, []))))) := by
  refine ctrX_of [some (.ref B), some (.int a1), some (.int a2), some (.ref O), none] (by decide) w_842 rfl rfl (Nat.le_of_ble_eq_true rfl) (fun Γ hX => ?_)
  refine g_aload_n d_La_used_0 rfl ?_
  refine g_iconst (v := nI 0) d_La_used_1 (by decide) ?_
  refine g_aload_n d_La_used_2 rfl ?_
  refine g_iload_n d_La_used_3 rfl ?_
  refine g_iload_n d_La_used_4 rfl ?_
  refine g_catchV (hp := 13) [] ⟨0, 10, 13, 20⟩ [⟨0, 10, 17, 13⟩] s_La_56 sv_RD_used (by assumption) rfl hC (by omega) rfl (by omega) (by omega) rfl (Nat.le_of_ble_eq_true rfl) d_La_used_5 rfl rfl (by decide) (by decide) w_430 rfl cs_Ioe (fun z hz => by cases hz) ?_
  refine g_astore d_La_used_13 (by decide) ?_
  refine g_iconst (v := nI 1) d_La_used_15 (by decide) ?_
  exact g_ireturn rfl rfl (by omega) (by omega) d_La_used_16 ⟨_, rfl, rfl, rfl, rfl⟩
theorem t2_La_used (a1 a2 : Int32) (hB : M B = some (.inr (0, fs))) (hC : Ctr l E y_RD_used 8 [.ref B, .int a1, .int a2] N M 1 6 (t_thr 11 N M)) : CtrX l E y_La_used 9 [.ref B, .int a1, .int a2, .ref O] N M 1 6 (g_ret (fun v N' M' => v = some (.int (nI 2)) ∧ N' = N + 1 ∧ M' = va_up M N (some (.inr (11, []))))) := by
  refine ctrX_of [some (.ref B), some (.int a1), some (.int a2), some (.ref O), none] (by decide) w_842 rfl rfl (Nat.le_of_ble_eq_true rfl) (fun Γ hX => ?_)
  refine g_aload_n d_La_used_0 rfl ?_
  refine g_iconst (v := nI 0) d_La_used_1 (by decide) ?_
  refine g_aload_n d_La_used_2 rfl ?_
  refine g_iload_n d_La_used_3 rfl ?_
  refine g_iload_n d_La_used_4 rfl ?_
  refine g_catchV (hp := 17) [⟨0, 10, 13, 20⟩] ⟨0, 10, 17, 13⟩ [] s_La_56 sv_RD_used (by assumption) rfl hC (by omega) rfl (by omega) (by omega) rfl (Nat.le_of_ble_eq_true rfl) d_La_used_5 rfl rfl (by decide) (by decide) w_318 rfl cs_Iae (fun z hz => by rw [List.mem_singleton.mp hz]; exact ⟨by decide, _, w_430, hX.2⟩) ?_
  refine g_astore d_La_used_17 (by decide) ?_
  refine g_iconst (v := nI 2) d_La_used_19 (by decide) ?_
  exact g_ireturn rfl rfl (by omega) (by omega) d_La_used_20 ⟨_, rfl, rfl, rfl, rfl⟩
theorem h_La_prune {P : Option Value → Nat → gM → Prop} (a1 : Int32) (hB : M B = some (.inr (0, fs))) (hC : Ctr l E y_RD_prune 7 [.ref B, .int a1] N M 0 0 (g_ret P)) (hP : ∀ v N' M', P v N' M' → (∃ z, v = some (.int z)) ∧ ∃ fo, M' O = some (g_la E 1 fo)) : CtrX l E y_La_prune 8 [.ref B, .int a1, .ref O] N M 1 6 (g_ret (fun v N' M' => v = some (.int (nI 0)) ∧ ∃ z M1, P (some (.int z)) N' M1 ∧ (∃ fo, M' O = some (g_la E 1 fo) ∧ fo 0 = z.toInt64) ∧ ∀ x, x ≠ O → M' x = M1 x)) := by
  refine ctrX_of [some (.ref B), some (.int a1), some (.ref O), none] (by decide) w_854 rfl rfl (Nat.le_of_ble_eq_true rfl) (fun Γ hX => ?_)
  refine g_aload_n d_La_prune_0 rfl ?_
  refine g_iconst (v := nI 0) d_La_prune_1 (by decide) ?_
  refine g_aload_n d_La_prune_2 rfl ?_
  refine g_iload_n d_La_prune_3 rfl ?_
  refine g_callV s_La_59 sv_RD_prune (by assumption) rfl (hC) (by omega) rfl (by omega) (by omega) rfl (Nat.le_of_ble_eq_true rfl) d_La_prune_4 ?_
  rintro v N' M1 hp
  obtain ⟨⟨z, rfl⟩, fo, ho⟩ := hP _ _ _ hp
  refine g_i2l d_La_prune_7 rfl ?_
  refine g_last _ (by assumption) rfl (by omega) (by decide) d_La_prune_8 ?_
  refine g_nm (fun M2 e2 f2 => ?_)
  refine g_goto (tgt := 15) d_La_prune_9 (by decide) ?_
  refine g_iconst (v := nI 0) d_La_prune_15 (by decide) ?_
  exact g_ireturn rfl rfl (by omega) (by omega) d_La_prune_16 ⟨_, rfl, rfl, z, M1, hp, ⟨_, e2, rfl⟩, f2⟩
theorem t1_La_prune (a1 : Int32) (hB : M B = some (.inr (0, fs))) (hC : Ctr l E y_RD_prune 7 [.ref B, .int a1] N M 1 6 (t_thr 13 N M)) : CtrX l E y_La_prune 8 [.ref B, .int a1, .ref O] N M 1 6 (g_ret (fun v N' M' => v = some (.int (nI 1)) ∧ N' = N + 1 ∧ M' = va_up M N (some (.inr (13, []))))) := by
  refine ctrX_of [some (.ref B), some (.int a1), some (.ref O), none] (by decide) w_854 rfl rfl (Nat.le_of_ble_eq_true rfl) (fun Γ hX => ?_)
  refine g_aload_n d_La_prune_0 rfl ?_
  refine g_iconst (v := nI 0) d_La_prune_1 (by decide) ?_
  refine g_aload_n d_La_prune_2 rfl ?_
  refine g_iload_n d_La_prune_3 rfl ?_
  refine g_catchV (hp := 12) [] ⟨0, 9, 12, 20⟩ [] s_La_59 sv_RD_prune (by assumption) rfl hC (by omega) rfl (by omega) (by omega) rfl (Nat.le_of_ble_eq_true rfl) d_La_prune_4 rfl rfl (by decide) (by decide) w_430 rfl cs_Ioe (fun z hz => by cases hz) ?_
  refine g_astore_n d_La_prune_12 (by decide) ?_
  refine g_iconst (v := nI 1) d_La_prune_13 (by decide) ?_
  exact g_ireturn rfl rfl (by omega) (by omega) d_La_prune_14 ⟨_, rfl, rfl, rfl, rfl⟩
theorem h_La_pass {P : Option Value → Nat → gM → Prop} (a1 a2 a3 a4 a5 : Int32) (hB : M B = some (.inr (0, fs))) (hC : Ctr l E y_RD_pass 8 [.ref B, .int a1, .int a2, .int a3, .int a4, .int a5] N M 0 0 (g_ret P)) (hP : ∀ v N' M', P v N' M' → (∃ z, v = some (.int z)) ∧ ∃ fo, M' O = some (g_la E 1 fo)) : CtrX l E y_La_pass 9 [.ref B, .int a1, .int a2, .int a3, .int a4, .int a5, .ref O] N M 1 6 (g_ret (fun v N' M' => v = some (.int (nI 0)) ∧ ∃ z M1, P (some (.int z)) N' M1 ∧ (∃ fo, M' O = some (g_la E 1 fo) ∧ fo 0 = z.toInt64) ∧ ∀ x, x ≠ O → M' x = M1 x)) := by
  refine ctrX_of [some (.ref B), some (.int a1), some (.int a2), some (.int a3), some (.int a4), some (.int a5), some (.ref O), none] (by decide) w_861 rfl rfl (Nat.le_of_ble_eq_true rfl) (fun Γ hX => ?_)
  refine g_aload d_La_pass_0 rfl ?_
  refine g_iconst (v := nI 0) d_La_pass_2 (by decide) ?_
  refine g_aload_n d_La_pass_3 rfl ?_
  refine g_iload_n d_La_pass_4 rfl ?_
  refine g_iload_n d_La_pass_5 rfl ?_
  refine g_iload_n d_La_pass_6 rfl ?_
  refine g_iload d_La_pass_7 rfl ?_
  refine g_iload d_La_pass_9 rfl ?_
  refine g_callV s_La_62 sv_RD_pass (by assumption) rfl (hC) (by omega) rfl (by omega) (by omega) rfl (Nat.le_of_ble_eq_true rfl) d_La_pass_11 ?_
  rintro v N' M1 hp
  obtain ⟨⟨z, rfl⟩, fo, ho⟩ := hP _ _ _ hp
  refine g_i2l d_La_pass_14 rfl ?_
  refine g_last _ (by assumption) rfl (by omega) (by decide) d_La_pass_15 ?_
  refine g_nm (fun M2 e2 f2 => ?_)
  refine g_goto (tgt := 27) d_La_pass_16 (by decide) ?_
  refine g_iconst (v := nI 0) d_La_pass_27 (by decide) ?_
  exact g_ireturn rfl rfl (by omega) (by omega) d_La_pass_28 ⟨_, rfl, rfl, z, M1, hp, ⟨_, e2, rfl⟩, f2⟩
theorem t1_La_pass (a1 a2 a3 a4 a5 : Int32) (hB : M B = some (.inr (0, fs))) (hC : Ctr l E y_RD_pass 8 [.ref B, .int a1, .int a2, .int a3, .int a4, .int a5] N M 1 6 (t_thr 13 N M)) : CtrX l E y_La_pass 9 [.ref B, .int a1, .int a2, .int a3, .int a4, .int a5, .ref O] N M 1 6 (g_ret (fun v N' M' => v = some (.int (nI 1)) ∧ N' = N + 1 ∧ M' = va_up M N (some (.inr (13, []))))) := by
  refine ctrX_of [some (.ref B), some (.int a1), some (.int a2), some (.int a3), some (.int a4), some (.int a5), some (.ref O), none] (by decide) w_861 rfl rfl (Nat.le_of_ble_eq_true rfl) (fun Γ hX => ?_)
  refine g_aload d_La_pass_0 rfl ?_
  refine g_iconst (v := nI 0) d_La_pass_2 (by decide) ?_
  refine g_aload_n d_La_pass_3 rfl ?_
  refine g_iload_n d_La_pass_4 rfl ?_
  refine g_iload_n d_La_pass_5 rfl ?_
  refine g_iload_n d_La_pass_6 rfl ?_
  refine g_iload d_La_pass_7 rfl ?_
  refine g_iload d_La_pass_9 rfl ?_
  refine g_catchV (hp := 19) [] ⟨0, 16, 19, 20⟩ [⟨0, 16, 23, 13⟩] s_La_62 sv_RD_pass (by assumption) rfl hC (by omega) rfl (by omega) (by omega) rfl (Nat.le_of_ble_eq_true rfl) d_La_pass_11 rfl rfl (by decide) (by decide) w_430 rfl cs_Ioe (fun z hz => by cases hz) ?_
  refine g_astore d_La_pass_19 (by decide) ?_
  refine g_iconst (v := nI 1) d_La_pass_21 (by decide) ?_
  exact g_ireturn rfl rfl (by omega) (by omega) d_La_pass_22 ⟨_, rfl, rfl, rfl, rfl⟩
theorem t2_La_pass (a1 a2 a3 a4 a5 : Int32) (hB : M B = some (.inr (0, fs))) (hC : Ctr l E y_RD_pass 8 [.ref B, .int a1, .int a2, .int a3, .int a4, .int a5] N M 1 6 (t_thr 11 N M)) : CtrX l E y_La_pass 9 [.ref B, .int a1, .int a2, .int a3, .int a4, .int a5, .ref O] N M 1 6 (g_ret (fun v N' M' => v = some (.int (nI 2)) ∧ N' = N + 1 ∧ M' = va_up M N (some (.inr (11, []))))) := by
  refine ctrX_of [some (.ref B), some (.int a1), some (.int a2), some (.int a3), some (.int a4), some (.int a5), some (.ref O), none] (by decide) w_861 rfl rfl (Nat.le_of_ble_eq_true rfl) (fun Γ hX => ?_)
  refine g_aload d_La_pass_0 rfl ?_
  refine g_iconst (v := nI 0) d_La_pass_2 (by decide) ?_
  refine g_aload_n d_La_pass_3 rfl ?_
  refine g_iload_n d_La_pass_4 rfl ?_
  refine g_iload_n d_La_pass_5 rfl ?_
  refine g_iload_n d_La_pass_6 rfl ?_
  refine g_iload d_La_pass_7 rfl ?_
  refine g_iload d_La_pass_9 rfl ?_
  refine g_catchV (hp := 23) [⟨0, 16, 19, 20⟩] ⟨0, 16, 23, 13⟩ [] s_La_62 sv_RD_pass (by assumption) rfl hC (by omega) rfl (by omega) (by omega) rfl (Nat.le_of_ble_eq_true rfl) d_La_pass_11 rfl rfl (by decide) (by decide) w_318 rfl cs_Iae (fun z hz => by rw [List.mem_singleton.mp hz]; exact ⟨by decide, _, w_430, hX.2⟩) ?_
  refine g_astore d_La_pass_23 (by decide) ?_
  refine g_iconst (v := nI 2) d_La_pass_25 (by decide) ?_
  exact g_ireturn rfl rfl (by omega) (by omega) d_La_pass_26 ⟨_, rfl, rfl, rfl, rfl⟩
theorem h_La_connection {P : Option Value → Nat → gM → Prop} (a1 a2 : Int32) (hB : M B = some (.inr (0, fs))) (hC : Ctr l E y_RD_connection 7 [.ref B, .int a1, .int a2] N M 0 0 (g_ret P)) (hP : ∀ v N' M', P v N' M' → (∃ z, v = some (.int z)) ∧ ∃ fo, M' O = some (g_la E 1 fo)) : CtrX l E y_La_connection 8 [.ref B, .int a1, .int a2, .ref O] N M 1 6 (g_ret (fun v N' M' => v = some (.int (nI 0)) ∧ ∃ z M1, P (some (.int z)) N' M1 ∧ (∃ fo, M' O = some (g_la E 1 fo) ∧ fo 0 = z.toInt64) ∧ ∀ x, x ≠ O → M' x = M1 x)) := by
  refine ctrX_of [some (.ref B), some (.int a1), some (.int a2), some (.ref O), none] (by decide) w_887 rfl rfl (Nat.le_of_ble_eq_true rfl) (fun Γ hX => ?_)
  refine g_aload_n d_La_connection_0 rfl ?_
  refine g_iconst (v := nI 0) d_La_connection_1 (by decide) ?_
  refine g_aload_n d_La_connection_2 rfl ?_
  refine g_iload_n d_La_connection_3 rfl ?_
  refine g_iload_n d_La_connection_4 rfl ?_
  refine g_callV s_La_65 sv_RD_connection (by assumption) rfl (hC) (by omega) rfl (by omega) (by omega) rfl (Nat.le_of_ble_eq_true rfl) d_La_connection_5 ?_
  rintro v N' M1 hp
  obtain ⟨⟨z, rfl⟩, fo, ho⟩ := hP _ _ _ hp
  refine g_i2l d_La_connection_8 rfl ?_
  refine g_last _ (by assumption) rfl (by omega) (by decide) d_La_connection_9 ?_
  refine g_nm (fun M2 e2 f2 => ?_)
  refine g_goto (tgt := 17) d_La_connection_10 (by decide) ?_
  refine g_iconst (v := nI 0) d_La_connection_17 (by decide) ?_
  exact g_ireturn rfl rfl (by omega) (by omega) d_La_connection_18 ⟨_, rfl, rfl, z, M1, hp, ⟨_, e2, rfl⟩, f2⟩
theorem t1_La_connection (a1 a2 : Int32) (hB : M B = some (.inr (0, fs))) (hC : Ctr l E y_RD_connection 7 [.ref B, .int a1, .int a2] N M 1 6 (t_thr 11 N M)) : CtrX l E y_La_connection 8 [.ref B, .int a1, .int a2, .ref O] N M 1 6 (g_ret (fun v N' M' => v = some (.int (nI 1)) ∧ N' = N + 1 ∧ M' = va_up M N (some (.inr (11, []))))) := by
  refine ctrX_of [some (.ref B), some (.int a1), some (.int a2), some (.ref O), none] (by decide) w_887 rfl rfl (Nat.le_of_ble_eq_true rfl) (fun Γ hX => ?_)
  refine g_aload_n d_La_connection_0 rfl ?_
  refine g_iconst (v := nI 0) d_La_connection_1 (by decide) ?_
  refine g_aload_n d_La_connection_2 rfl ?_
  refine g_iload_n d_La_connection_3 rfl ?_
  refine g_iload_n d_La_connection_4 rfl ?_
  refine g_catchV (hp := 13) [] ⟨0, 10, 13, 13⟩ [] s_La_65 sv_RD_connection (by assumption) rfl hC (by omega) rfl (by omega) (by omega) rfl (Nat.le_of_ble_eq_true rfl) d_La_connection_5 rfl rfl (by decide) (by decide) w_318 rfl cs_Iae (fun z hz => by cases hz) ?_
  refine g_astore d_La_connection_13 (by decide) ?_
  refine g_iconst (v := nI 1) d_La_connection_15 (by decide) ?_
  exact g_ireturn rfl rfl (by omega) (by omega) d_La_connection_16 ⟨_, rfl, rfl, rfl, rfl⟩
end HELP

