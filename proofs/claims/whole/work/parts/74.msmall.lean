/-! the model's signs -/
def sgt (n : Nat) (ts : Nat → Nat) (k : Nat) : Nat := if k < n then ts k else 0
section MSMALL
variable {l : Launch} {E : gE} {N : Nat} {M : gM} {W n : Nat} {th sz lk rc pl fa : Int32} {ts : Nat → Nat}
theorem sgt_lt (hT : o_mt E M W n ts) (k : Nat) : sgt n ts k < 128 := by
  unfold sgt
  split
  · exact (hT.2.1 k (by assumption)).2
  · omega
theorem k_Mo_sign (h : M W = some (.inr (10, mo W th (nI n) lk rc pl fa))) (hT : o_mt E M W n ts) (k : Nat) (hk : k < 2 ^ 31) : Ctr l E y_Mo_sign 0 [.ref W, .int (nI k)] N M 0 0 (g_val (some (.int (nI (sgt n ts k)))) N M) := by
  obtain ⟨t1, t2, ft, t3, t4⟩ := hT
  refine ctr_of [some (.ref W), some (.int (nI k))] (by decide) w_987 rfl rfl (Nat.le_of_ble_eq_true rfl) (fun Γ => ?_)
  refine g_iload_n d_Mo_sign_0 rfl ?_
  refine g_aload_n d_Mo_sign_1 rfl ?_
  refine g_get f_Mo_54 (by assumption) rfl d_Mo_sign_2 ?_
  refine g_icmpN_ge (tgt := 17) d_Mo_sign_5 (by decide) (by omega) (by omega) (fun hb_5 => ?_) (fun hb_5 => ?_)
  · refine g_iconst (v := nI 0) d_Mo_sign_17 (by decide) ?_
    refine g_eqi (z := nI (sgt n ts k)) (by unfold sgt; rw [if_neg (by omega)]) ?_
    exact g_ireturn rfl (by first | rfl | exact bI_nar _) (by omega) (by omega) d_Mo_sign_18 ⟨rfl, rfl, rfl⟩
  · refine g_aload_n d_Mo_sign_8 rfl ?_
    refine g_get f_Mo_7 (by assumption) rfl d_Mo_sign_9 ?_
    refine g_iload_n d_Mo_sign_12 rfl ?_
    refine g_iald _ (by assumption) rfl (by omega) (by decide) d_Mo_sign_13 ?_
    refine g_eqi (z := nI (sgt n ts k)) (by unfold sgt; rw [if_pos (by omega)]; exact t4 k (by omega)) ?_
    refine g_goto (tgt := 18) d_Mo_sign_14 (by decide) ?_
    exact g_ireturn rfl (by first | rfl | exact bI_nar _) (by omega) (by omega) d_Mo_sign_18 ⟨rfl, rfl, rfl⟩
theorem k_Mo_bad (h : M W = some (.inr (10, mo W th sz lk rc pl (-1)))) (w : Nat) : Ctr l E y_Mo_bad 0 [.ref W, .int (nI w)] N M 0 0 (g_ret (fun v N' M' => v = none ∧ N' = N ∧ M' W = some (.inr (10, mo W th sz lk rc pl (nI w))) ∧ ∀ x, x ≠ W → M' x = M x)) := by
  refine ctr_of [some (.ref W), some (.int (nI w))] (by decide) w_1008 rfl rfl (Nat.le_of_ble_eq_true rfl) (fun Γ => ?_)
  refine g_aload_n d_Mo_bad_0 rfl ?_
  refine g_aload_n d_Mo_bad_1 rfl ?_
  refine g_get f_Mo_67 (by assumption) rfl d_Mo_bad_2 ?_
  refine g_if_ge (tgt := 12) d_Mo_bad_5 (by decide) (fun hb => absurd hb (by decide)) (fun hb => ?_)
  refine g_iload_n d_Mo_bad_8 rfl ?_
  refine g_goto (tgt := 16) d_Mo_bad_9 (by decide) ?_
  refine g_put p_Mo_67 (by assumption) (Nat.le_of_ble_eq_true rfl) rfl rfl d_Mo_bad_16 ?_
  refine g_nm (fun M1 e1 f1 => ?_)
  exact g_return rfl (by omega) (by omega) d_Mo_bad_19 ⟨_, rfl, rfl, rfl, e1, f1⟩
theorem k_Mo_badK (f0 : Nat) (hf0 : f0 < 2 ^ 31) (h : M W = some (.inr (10, mo W th sz lk rc pl (nI f0)))) (w : Int32) : Ctr l E y_Mo_bad 0 [.ref W, .int w] N M 0 0 (g_ret (fun v N' M' => v = none ∧ N' = N ∧ M' W = some (.inr (10, mo W th sz lk rc pl (nI f0))) ∧ ∀ x, x ≠ W → M' x = M x)) := by
  refine ctr_of [some (.ref W), some (.int w)] (by decide) w_1008 rfl rfl (Nat.le_of_ble_eq_true rfl) (fun Γ => ?_)
  refine g_aload_n d_Mo_bad_0 rfl ?_
  refine g_aload_n d_Mo_bad_1 rfl ?_
  refine g_get f_Mo_67 (by assumption) rfl d_Mo_bad_2 ?_
  refine g_ifN_ge (tgt := 12) d_Mo_bad_5 (by decide) hf0 (fun hb => ?_) (fun hb => hb.elim)
  refine g_aload_n d_Mo_bad_12 rfl ?_
  refine g_get f_Mo_67 (by assumption) rfl d_Mo_bad_13 ?_
  refine g_put p_Mo_67 (by assumption) (Nat.le_of_ble_eq_true rfl) rfl rfl d_Mo_bad_16 ?_
  refine g_nm (fun M1 e1 f1 => ?_)
  exact g_return rfl (by omega) (by omega) d_Mo_bad_19 ⟨_, rfl, rfl, rfl, e1, f1⟩
theorem k_Mo_same {ft : Nat → Int32} {tb : Nat → Nat} (h : M W = some (.inr (10, mo W th sz lk rc pl fa))) (h9 : M (W + 9) = some (g_ia E 19652 ft)) (ht : ∀ x, x < 19652 → ft x = nI (tb x) ∧ tb x < 3) (p q n : Nat) (hp : p + n ≤ 19652) (hq : q + n ≤ 19652) : Ctr l E y_Mo_same 0 [.ref W, .int (nI p), .int (nI q), .int (nI n)] N M 0 0 (g_val (some (.int (bI (decide (∀ k, k < n → tb (p + k) = tb (q + k)))))) N M) := by
  refine ctr_of [some (.ref W), some (.int (nI p)), some (.int (nI q)), some (.int (nI n)), none] (by decide) w_1150 rfl rfl (Nat.le_of_ble_eq_true rfl) (fun Γ => ?_)
  refine g_iconst (v := nI 0) d_Mo_same_0 (by decide) ?_
  refine g_istore d_Mo_same_1 (by decide) ?_
  refine g_for (P := fun i => (∀ k, k < i → tb (p + k) = tb (q + k)) → G _ _ _ _ _ _ _ _ _ _ _ _ 3 [some (.ref W), some (.int (nI p)), some (.int (nI q)), some (.int (nI n)), some (.int (nI i))] [] N M 0 0) (e := n) ?_ ?_ 0 (by omega) (fun k hk => by omega)
  · intro hn
    refine g_iload d_Mo_same_3 rfl ?_
    refine g_iload_n d_Mo_same_5 rfl ?_
    refine g_icmpN_ge (tgt := 38) d_Mo_same_6 (by decide) (by omega) (by omega) (fun hb_6 => ?_) (fun hb_6 => ?_)
    · refine g_iconst (v := nI 1) d_Mo_same_38 (by decide) ?_
      refine g_Tr (b := decide (∀ k, k < n → tb (p + k) = tb (q + k))) (decide_eq_true hn) ?_
      exact g_ireturn rfl (by first | rfl | exact bI_nar _) (by omega) (by omega) d_Mo_same_39 ⟨rfl, rfl, rfl⟩
    · omega
  · intro i hi ih hn
    have t1 := ht (p + i) (by omega)
    have t2 := ht (q + i) (by omega)
    refine g_iload d_Mo_same_3 rfl ?_
    refine g_iload_n d_Mo_same_5 rfl ?_
    refine g_icmpN_ge (tgt := 38) d_Mo_same_6 (by decide) (by omega) (by omega) (fun hb_6 => ?_) (fun hb_6 => ?_)
    · omega
    refine g_aload_n d_Mo_same_9 rfl ?_
    refine g_get f_Mo_34 (by assumption) rfl d_Mo_same_10 ?_
    refine g_iload_n d_Mo_same_13 rfl ?_
    refine g_iload d_Mo_same_14 rfl ?_
    refine g_iadd d_Mo_same_16 ?_
    refine g_eqi (nI_add _ _) ?_
    refine g_iald _ (by assumption) rfl (by omega) (by decide) d_Mo_same_17 ?_
    refine g_eqi t1.1 ?_
    refine g_aload_n d_Mo_same_18 rfl ?_
    refine g_get f_Mo_34 (by assumption) rfl d_Mo_same_19 ?_
    refine g_iload_n d_Mo_same_22 rfl ?_
    refine g_iload d_Mo_same_23 rfl ?_
    refine g_iadd d_Mo_same_25 ?_
    refine g_eqi (nI_add _ _) ?_
    refine g_iald _ (by assumption) rfl (by omega) (by decide) d_Mo_same_26 ?_
    refine g_eqi t2.1 ?_
    refine g_icmpN_eq (tgt := 32) d_Mo_same_27 (by decide) (by omega) (by omega) (fun hb_27 => ?_) (fun hb_27 => ?_)
    · refine g_iinc1 d_Mo_same_32 rfl (by decide) ?_
      refine g_goto (tgt := 3) d_Mo_same_35 (by decide) ?_
      refine ih (fun k hk => ?_)
      by_cases e : k = i
      · rw [e]; exact hb_27
      · exact hn k (by omega)
    · refine g_iconst (v := nI 0) d_Mo_same_30 (by decide) ?_
      refine g_Fa (b := decide (∀ k, k < n → tb (p + k) = tb (q + k))) (decide_eq_false (fun z => hb_27 (z i hi))) ?_
      exact g_ireturn rfl (by first | rfl | exact bI_nar _) (by omega) (by omega) d_Mo_same_31 ⟨rfl, rfl, rfl⟩
end MSMALL

