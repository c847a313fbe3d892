def rea (cn : Nat → Nat) (at_ : Nat) : Bool := decide (at_ / 1156 < cn 0) && (decide (at_ / 68 % 17 < cn 1) && decide (at_ / 4 % 17 < cn 2))
section MREAL
variable {l : Launch} {E : gE} {N : Nat} {M : gM} {W : Nat} {th sz lk rc pl fa : Int32} {cn : Nat → Nat} {cs : Nat → Nat → Nat}
theorem k_Mo_isReal (h : M W = some (.inr (10, mo W th sz lk rc pl fa))) (hC : o_cu E M W cn cs) (p : Nat) (hp : p < 19652) : Ctr l E y_Mo_isReal 1 [.ref W, .int (nI p)] N M 0 0 (g_val (some (.int (bI (rea cn p)))) N M) := by
  obtain ⟨⟨fm, a1, a2⟩, -⟩ := hC
  have m0 := a2 0 (by omega)
  have m1 := a2 1 (by omega)
  have m2 := a2 2 (by omega)
  refine ctr_of [some (.ref W), some (.int (nI p))] (by decide) w_1154 rfl rfl (Nat.le_of_ble_eq_true rfl) (fun Γ => ?_)
  refine g_iload_n d_Mo_isReal_0 rfl ?_
  refine g_iconst (v := nI 0) d_Mo_isReal_1 (by decide) ?_
  refine g_callS s_Mo_163 sv_Mo_room (g_of_val (k_Mo_room 0 (by omega))) (by omega) rfl (by omega) (by omega) rfl (Nat.le_of_ble_eq_true rfl) d_Mo_isReal_2 ?_
  rintro _ _ _ ⟨rfl, rfl, rfl⟩
  refine g_idiv d_Mo_isReal_5 (by decide) ?_
  refine g_eqi (pk_div (d := 1156) (by omega) (by omega) (by omega)) ?_
  refine g_aload_n d_Mo_isReal_6 rfl ?_
  refine g_get f_Mo_31 (by assumption) rfl d_Mo_isReal_7 ?_
  refine g_iconst (v := nI 0) d_Mo_isReal_10 (by decide) ?_
  refine g_iald _ (by assumption) rfl (by omega) (by decide) d_Mo_isReal_11 ?_
  refine g_eqi m0.1 ?_
  refine g_icmpN_ge (tgt := 55) d_Mo_isReal_12 (by decide) (by omega) (by omega) (fun hb_12 => ?_) (fun hb_12 => ?_)
  · refine g_iconst (v := nI 0) d_Mo_isReal_55 (by decide) ?_
    refine g_Fa (b := rea cn p) (by unfold rea; rw [decide_eq_false (by omega)]; rfl) ?_
    exact g_ireturn rfl (by first | rfl | exact bI_nar _) (by omega) (by omega) d_Mo_isReal_56 ⟨rfl, rfl, rfl⟩
  refine g_iload_n d_Mo_isReal_15 rfl ?_
  refine g_iconst (v := nI 1) d_Mo_isReal_16 (by decide) ?_
  refine g_callS s_Mo_163 sv_Mo_room (g_of_val (k_Mo_room 1 (by omega))) (by omega) rfl (by omega) (by omega) rfl (Nat.le_of_ble_eq_true rfl) d_Mo_isReal_17 ?_
  rintro _ _ _ ⟨rfl, rfl, rfl⟩
  refine g_idiv d_Mo_isReal_20 (by decide) ?_
  refine g_eqi (pk_div (d := 68) (by omega) (by omega) (by omega)) ?_
  refine g_bipush (v := nI 17) d_Mo_isReal_21 (by decide) ?_
  refine g_irem d_Mo_isReal_23 (by decide) ?_
  refine g_eqi (pk_rem (d := 17) (by omega) (by omega) (by omega)) ?_
  refine g_aload_n d_Mo_isReal_24 rfl ?_
  refine g_get f_Mo_31 (by assumption) rfl d_Mo_isReal_25 ?_
  refine g_iconst (v := nI 1) d_Mo_isReal_28 (by decide) ?_
  refine g_iald _ (by assumption) rfl (by omega) (by decide) d_Mo_isReal_29 ?_
  refine g_eqi m1.1 ?_
  refine g_icmpN_ge (tgt := 55) d_Mo_isReal_30 (by decide) (by omega) (by omega) (fun hb_30 => ?_) (fun hb_30 => ?_)
  · refine g_iconst (v := nI 0) d_Mo_isReal_55 (by decide) ?_
    refine g_Fa (b := rea cn p) (by unfold rea; rw [decide_eq_false (p := p / 68 % 17 < cn 1) (by omega), Bool.false_and, Bool.and_false]) ?_
    exact g_ireturn rfl (by first | rfl | exact bI_nar _) (by omega) (by omega) d_Mo_isReal_56 ⟨rfl, rfl, rfl⟩
  refine g_iload_n d_Mo_isReal_33 rfl ?_
  refine g_iconst (v := nI 2) d_Mo_isReal_34 (by decide) ?_
  refine g_callS s_Mo_163 sv_Mo_room (g_of_val (k_Mo_room 2 (by omega))) (by omega) rfl (by omega) (by omega) rfl (Nat.le_of_ble_eq_true rfl) d_Mo_isReal_35 ?_
  rintro _ _ _ ⟨rfl, rfl, rfl⟩
  refine g_idiv d_Mo_isReal_38 (by decide) ?_
  refine g_eqi (pk_div (d := 4) (by omega) (by omega) (by omega)) ?_
  refine g_bipush (v := nI 17) d_Mo_isReal_39 (by decide) ?_
  refine g_irem d_Mo_isReal_41 (by decide) ?_
  refine g_eqi (pk_rem (d := 17) (by omega) (by omega) (by omega)) ?_
  refine g_aload_n d_Mo_isReal_42 rfl ?_
  refine g_get f_Mo_31 (by assumption) rfl d_Mo_isReal_43 ?_
  refine g_iconst (v := nI 2) d_Mo_isReal_46 (by decide) ?_
  refine g_iald _ (by assumption) rfl (by omega) (by decide) d_Mo_isReal_47 ?_
  refine g_eqi m2.1 ?_
  refine g_icmpN_ge (tgt := 55) d_Mo_isReal_48 (by decide) (by omega) (by omega) (fun hb_48 => ?_) (fun hb_48 => ?_)
  · refine g_iconst (v := nI 0) d_Mo_isReal_55 (by decide) ?_
    refine g_Fa (b := rea cn p) (by unfold rea; rw [decide_eq_false (p := p / 4 % 17 < cn 2) (by omega), Bool.and_false, Bool.and_false]) ?_
    exact g_ireturn rfl (by first | rfl | exact bI_nar _) (by omega) (by omega) d_Mo_isReal_56 ⟨rfl, rfl, rfl⟩
  · refine g_iconst (v := nI 1) d_Mo_isReal_51 (by decide) ?_
    refine g_goto (tgt := 56) d_Mo_isReal_52 (by decide) ?_
    refine g_Tr (b := rea cn p) (by unfold rea; rw [decide_eq_true (p := p / 1156 < cn 0) (by omega), decide_eq_true (p := p / 68 % 17 < cn 1) (by omega), decide_eq_true (p := p / 4 % 17 < cn 2) (by omega)]; rfl) ?_
    exact g_ireturn rfl (by first | rfl | exact bI_nar _) (by omega) (by omega) d_Mo_isReal_56 ⟨rfl, rfl, rfl⟩
end MREAL

