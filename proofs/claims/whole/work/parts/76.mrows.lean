def smB (tb : Nat → Nat) (p q n : Nat) : Bool := decide (∀ k, k < n → tb (p + k) = tb (q + k))
def rwm (tb : Nat → Nat) (f p : Nat) : Nat → Nat := fun m => 1 + sm (fun k => if smB tb (p + k * roo f) (p + (k + 1) * roo f) (roo f) = true then 0 else 1) m
theorem wid_le : ∀ f, f < 4 → wid f ≤ 17 ∧ roo f ≤ 1156 := by decide
section MROWS
variable {l : Launch} {E : gE} {N : Nat} {M : gM} {W : Nat} {th sz lk rc pl fa : Int32} {ft : Nat → Int32} {tb : Nat → Nat}
theorem k_Mo_rows (h : M W = some (.inr (10, mo W th sz lk rc pl fa))) (h9 : M (W + 9) = some (g_ia E 19652 ft)) (ht : ∀ x, x < 19652 → ft x = nI (tb x) ∧ tb x < 3) (f p : Nat) (hf : f < 4) (hp : p + wid f * roo f ≤ 19652) : Ctr l E y_Mo_rows 1 [.ref W, .int (nI f), .int (nI p)] N M 0 0 (g_val (some (.int (nI (rwm tb f p (wid f - 1))))) N M) := by
  have hw := wid_le f hf
  have hw1 : 1 ≤ wid f := by unfold wid; split <;> omega
  refine ctr_of [some (.ref W), some (.int (nI f)), some (.int (nI p)), none, none] (by decide) w_1146 rfl rfl (Nat.le_of_ble_eq_true rfl) (fun Γ => ?_)
  refine g_iconst (v := nI 1) d_Mo_rows_0 (by decide) ?_
  refine g_istore_n d_Mo_rows_1 (by decide) ?_
  refine g_iconst (v := nI 1) d_Mo_rows_2 (by decide) ?_
  refine g_istore d_Mo_rows_3 (by decide) ?_
  refine g_for (P := fun i => 1 ≤ i → G _ _ _ _ _ _ _ _ _ _ _ _ 5 [some (.ref W), some (.int (nI f)), some (.int (nI p)), some (.int (nI (rwm tb f p (i - 1)))), some (.int (nI i))] [] N M 0 0) (e := wid f) ?_ ?_ 1 hw1 (by omega)
  · intro _
    refine g_iload d_Mo_rows_5 rfl ?_
    refine g_iload_n d_Mo_rows_7 rfl ?_
    refine g_callS s_Mo_166 sv_Mo_wide (g_of_val (k_Mo_wide f hf)) (by omega) rfl (by omega) (by omega) rfl (Nat.le_of_ble_eq_true rfl) d_Mo_rows_8 ?_
    rintro _ _ _ ⟨rfl, rfl, rfl⟩
    refine g_icmpN_ge (tgt := 59) d_Mo_rows_11 (by decide) (by omega) (by omega) (fun hb_11 => ?_) (fun hb_11 => ?_)
    · refine g_iload_n d_Mo_rows_59 rfl ?_
      exact g_ireturn rfl (by first | rfl | exact bI_nar _) (by omega) (by omega) d_Mo_rows_60 ⟨rfl, rfl, rfl⟩
    · omega
  · intro i hi ih h1i
    obtain ⟨k, rfl⟩ : ∃ k, i = k + 1 := ⟨i - 1, by omega⟩
    have ih2 := ih (by omega)
    rw [show k + 1 + 1 - 1 = k + 1 from rfl, show rwm tb f p (k + 1) = rwm tb f p k + (if smB tb (p + k * roo f) (p + (k + 1) * roo f) (roo f) = true then 0 else 1) from (Nat.add_assoc 1 _ _).symm] at ih2
    have e1 : (k + 1) * roo f = k * roo f + roo f := Nat.succ_mul _ _
    have e2 : (k + 1 + 1) * roo f = (k + 1) * roo f + roo f := Nat.succ_mul _ _
    have e3 : (k + 1 + 1) * roo f ≤ wid f * roo f := Nat.mul_le_mul_right _ (by omega)
    refine g_iload d_Mo_rows_5 rfl ?_
    refine g_iload_n d_Mo_rows_7 rfl ?_
    refine g_callS s_Mo_166 sv_Mo_wide (g_of_val (k_Mo_wide f hf)) (by omega) rfl (by omega) (by omega) rfl (Nat.le_of_ble_eq_true rfl) d_Mo_rows_8 ?_
    rintro _ _ _ ⟨rfl, rfl, rfl⟩
    refine g_icmpN_ge (tgt := 59) d_Mo_rows_11 (by decide) (by omega) (by omega) (fun hb_11 => ?_) (fun hb_11 => ?_)
    · omega
    refine g_iload_n d_Mo_rows_14 rfl ?_
    refine g_aload_n d_Mo_rows_15 rfl ?_
    refine g_iload_n d_Mo_rows_16 rfl ?_
    refine g_iload d_Mo_rows_17 rfl ?_
    refine g_iconst (v := nI 1) d_Mo_rows_19 (by decide) ?_
    refine g_isub d_Mo_rows_20 ?_
    refine g_eqi (z := nI k) (pk_sub (by omega)) ?_
    refine g_iload_n d_Mo_rows_21 rfl ?_
    refine g_callS s_Mo_163 sv_Mo_room (g_of_val (k_Mo_room f hf)) (by omega) rfl (by omega) (by omega) rfl (Nat.le_of_ble_eq_true rfl) d_Mo_rows_22 ?_
    rintro _ _ _ ⟨rfl, rfl, rfl⟩
    refine g_imul d_Mo_rows_25 ?_
    refine g_eqi (pk_mul _ _) ?_
    refine g_iadd d_Mo_rows_26 ?_
    refine g_eqi (nI_add _ _) ?_
    refine g_iload_n d_Mo_rows_27 rfl ?_
    refine g_iload d_Mo_rows_28 rfl ?_
    refine g_iload_n d_Mo_rows_30 rfl ?_
    refine g_callS s_Mo_163 sv_Mo_room (g_of_val (k_Mo_room f hf)) (by omega) rfl (by omega) (by omega) rfl (Nat.le_of_ble_eq_true rfl) d_Mo_rows_31 ?_
    rintro _ _ _ ⟨rfl, rfl, rfl⟩
    refine g_imul d_Mo_rows_34 ?_
    refine g_eqi (pk_mul _ _) ?_
    refine g_iadd d_Mo_rows_35 ?_
    refine g_eqi (nI_add _ _) ?_
    refine g_iload_n d_Mo_rows_36 rfl ?_
    refine g_callS s_Mo_163 sv_Mo_room (g_of_val (k_Mo_room f hf)) (by omega) rfl (by omega) (by omega) rfl (Nat.le_of_ble_eq_true rfl) d_Mo_rows_37 ?_
    rintro _ _ _ ⟨rfl, rfl, rfl⟩
    refine g_callV s_Mo_169 sv_Mo_same (by assumption) rfl (g_of_val (k_Mo_same h h9 ht (p + k * roo f) (p + (k + 1) * roo f) (roo f) (by omega) (by omega))) (by omega) rfl (by omega) (by omega) rfl (Nat.le_of_ble_eq_true rfl) d_Mo_rows_40 ?_
    rintro _ _ _ ⟨rfl, rfl, rfl⟩
    first | refine g_ifB_eq (tgt := 50) d_Mo_rows_43 (by decide) (fun hb_43 => ?_) (fun hb_43 => ?_) | refine g_ifN_eq (tgt := 50) d_Mo_rows_43 (by decide) (by omega) (fun hb_43 => ?_) (fun hb_43 => ?_)
    · rw [if_neg (by unfold smB; rw [hb_43]; decide)] at ih2
      refine g_iconst (v := nI 1) d_Mo_rows_50 (by decide) ?_
      refine g_iadd d_Mo_rows_51 ?_
      refine g_eqi (nI_add _ _) ?_
      refine g_istore_n d_Mo_rows_52 (by decide) ?_
      refine g_iinc1 d_Mo_rows_53 rfl (by decide) ?_
      refine g_goto (tgt := 5) d_Mo_rows_56 (by decide) ?_
      exact ih2
    · rw [if_pos (by unfold smB; exact hb_43)] at ih2
      refine g_iconst (v := nI 0) d_Mo_rows_46 (by decide) ?_
      refine g_goto (tgt := 51) d_Mo_rows_47 (by decide) ?_
      refine g_iadd d_Mo_rows_51 ?_
      refine g_eqi (nI_add _ _) ?_
      refine g_istore_n d_Mo_rows_52 (by decide) ?_
      refine g_iinc1 d_Mo_rows_53 rfl (by decide) ?_
      refine g_goto (tgt := 5) d_Mo_rows_56 (by decide) ?_
      exact ih2
end MROWS

