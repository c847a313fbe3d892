theorem sgn_ar {u t : Nat} (hu : u < 2 ^ 32) (ht : t < 4) : (nI u >>> (nI (8 * t) &&& 31)) &&& nI 255 = nI (sgn u t) := by
  have h1 : ((nI u).toUInt32 >>> ((nI (8 * t)).toUInt32 &&& Int32.toUInt32 31)).toInt32 &&& nI 255 = nI (sgn u t) := by
    rw [nI_ushr hu (by omega)]
    exact pk_andN (Nat.lt_of_le_of_lt (Nat.div_le_self _ _) hu) 8 rfl
  rw [← h1]
  have key : ∀ (x : Int32) (t : Nat), t < 4 → ∀ i, i < 8 → (x >>> (nI (8 * t) &&& 31)).toBitVec.getLsbD i = x.toBitVec.getLsbD (8 * t + i) := by
    intro x t ht i hi
    have e : ∀ t, t < 4 → ((nI (8 * t) &&& 31).toBitVec.smod 32).toNat = 8 * t := by decide +kernel
    rw [Int32.toBitVec_shiftRight]
    show (x.toBitVec.sshiftRight (((nI (8 * t) &&& 31).toBitVec.smod 32).toNat)).getLsbD i = _
    rw [e t ht, BitVec.getLsbD_sshiftRight, if_pos (by omega), decide_eq_false (by omega)]
    rfl
  have key2 : ∀ (x : Int32) (t : Nat), t < 4 → ∀ i, i < 8 → (x.toUInt32 >>> ((nI (8 * t)).toUInt32 &&& Int32.toUInt32 31)).toInt32.toBitVec.getLsbD i = x.toBitVec.getLsbD (8 * t + i) := by
    intro x t ht i hi
    have e : ∀ t, t < 4 → (((nI (8 * t)).toUInt32 &&& Int32.toUInt32 31).toBitVec % 32).toNat = 8 * t := by decide +kernel
    show (x.toBitVec >>> (((nI (8 * t)).toUInt32 &&& Int32.toUInt32 31).toBitVec % 32).toNat).getLsbD i = _
    rw [e t ht, BitVec.getLsbD_ushiftRight]
  have hm : ∀ i, i < 32 → ¬ i < 8 → (nI 255).toBitVec.getLsbD i = false := by decide +kernel
  generalize nI u = x
  apply Int32.toBitVec_inj.mp
  rw [Int32.toBitVec_and, Int32.toBitVec_and]
  apply BitVec.eq_of_getLsbD_eq
  intro i hi
  rw [BitVec.getLsbD_and, BitVec.getLsbD_and]
  by_cases c : i < 8
  · rw [key x t ht i c, key2 x t ht i c]
  · rw [hm i hi c, Bool.and_false, Bool.and_false]
section MRULE
variable {l : Launch} {E : gE} {N : Nat} {M : gM} {W tn : Nat} {th : Int32} {ts : Nat → Nat} {mm : Nat → Nat} {rr : Nat → Nat → Rl} {gn : Nat} {gs : Nat → Nat}
theorem rw_div : ∀ w, w < 9 → w ≠ 0 → (nI w - nI 1) / nI 2 = nI ((w - 1) / 2) := by decide +kernel
theorem rw_rem : ∀ w, w < 9 → nI w - nI w / nI 2 * nI 2 = nI (w % 2) := by decide +kernel
theorem k_Mo_rule (h : OM E M W th tn ts mm rr gn gs) (j i w : Nat) (hj : j < 2) (hi : i < mm j) (hw : w < 9) : Ctr l E y_Mo_rule 2 [.ref W, .int (nI j), .int (nI i), .int (nI w)] N M 0 0 (g_ret (fun v N' M' => v = some (.int (nI (rnm (rr j i) w))) ∧ N' = N ∧ OM E M' W (nI 0) tn ts mm rr gn gs ∧ ∀ x, x ≠ W → M' x = M x)) := by
  have h0 := h
  obtain ⟨⟨rc, pl, fa, hO⟩, hT, hL, hK, hS⟩ := h
  have hm := (hL.1 j hj).1
  have hin := inI_yes (j := j) (k := 1) (by omega) (by omega)
  have hinw := inI_yes (j := w) (k := 8) (by omega) (by omega)
  have hnr := fun (N : Nat) => k_Mo_noRule (l := l) (N := N) hO hL.2.2.2.2 j hj (nI i)
  rw [inC_yes hi (hL.1 j hj).1] at hnr
  refine ctr_of [some (.ref W), some (.int (nI j)), some (.int (nI i)), some (.int (nI w)), none, none] (by decide) w_1056 rfl rfl (Nat.le_of_ble_eq_true rfl) (fun Γ => ?_)
  refine g_aload_n d_Mo_rule_0 rfl ?_
  refine g_iload_n d_Mo_rule_1 rfl ?_
  refine g_iconst (v := nI 0) d_Mo_rule_2 (by decide) ?_
  refine g_iconst (v := nI 1) d_Mo_rule_3 (by decide) ?_
  refine g_callS s_Mo_112 sv_Mo_in (g_of_val (k_Mo_in _ _ _)) (by omega) rfl (by omega) (by omega) rfl (Nat.le_of_ble_eq_true rfl) d_Mo_rule_4 ?_
  rintro _ _ _ ⟨rfl, rfl, rfl⟩
  first | refine g_ifB_ne (tgt := 14) d_Mo_rule_7 (by decide) (fun hb_7 => ?_) (fun hb_7 => ?_) | refine g_ifN_ne (tgt := 14) d_Mo_rule_7 (by decide) (by omega) (fun hb_7 => ?_) (fun hb_7 => ?_)
  · refine g_iconst (v := nI 0) d_Mo_rule_14 (by decide) ?_
    refine g_aload_n d_Mo_rule_15 rfl ?_
    refine g_iload_n d_Mo_rule_16 rfl ?_
    refine g_iload_n d_Mo_rule_17 rfl ?_
    refine g_callV s_Mo_123 sv_Mo_noRule (by assumption) rfl (g_of_val (hnr _)) (by omega) rfl (by omega) (by omega) rfl (Nat.le_of_ble_eq_true rfl) d_Mo_rule_18 ?_
    rintro _ _ _ ⟨rfl, rfl, rfl⟩
    first | refine g_ifB_ne (tgt := 34) d_Mo_rule_21 (by decide) (fun hb_21 => ?_) (fun hb_21 => ?_) | refine g_ifN_ne (tgt := 34) d_Mo_rule_21 (by decide) (by omega) (fun hb_21 => ?_) (fun hb_21 => ?_)
    · exact absurd hb_21 (by decide)
    refine g_iload_n d_Mo_rule_24 rfl ?_
    refine g_iconst (v := nI 0) d_Mo_rule_25 (by decide) ?_
    refine g_bipush (v := nI 8) d_Mo_rule_26 (by decide) ?_
    refine g_callS s_Mo_112 sv_Mo_in (g_of_val (k_Mo_in _ _ _)) (by omega) rfl (by omega) (by omega) rfl (Nat.le_of_ble_eq_true rfl) d_Mo_rule_28 ?_
    rintro _ _ _ ⟨rfl, rfl, rfl⟩
    first | refine g_ifB_ne (tgt := 38) d_Mo_rule_31 (by decide) (fun hb_31 => ?_) (fun hb_31 => ?_) | refine g_ifN_ne (tgt := 38) d_Mo_rule_31 (by decide) (by omega) (fun hb_31 => ?_) (fun hb_31 => ?_)
    · refine g_iconst (v := nI 0) d_Mo_rule_38 (by decide) ?_
      refine g_callV s_Mo_57 sv_Mo_refuse (by assumption) rfl (k_Mo_refuse hO false false) (by omega) rfl (by omega) (by omega) rfl (Nat.le_of_ble_eq_true rfl) d_Mo_rule_39 ?_
      rintro v' N' M1 ⟨rfl, rfl, e1, f1⟩
      have hL1 := hL.kept (M' := M1) (fun x _ _ => f1 x (by omega))
      obtain ⟨h1, ⟨fv, a1, a2⟩, ⟨fl, b1, b2⟩, ⟨fh, c1, c2⟩, -⟩ := hL1
      first | refine g_ifB_eq (tgt := 47) d_Mo_rule_42 (by decide) (fun hb_42 => ?_) (fun hb_42 => ?_) | refine g_ifN_eq (tgt := 47) d_Mo_rule_42 (by decide) (by omega) (fun hb_42 => ?_) (fun hb_42 => ?_)
      · refine g_bipush (v := nI 8) d_Mo_rule_47 (by decide) ?_
        refine g_iload_n d_Mo_rule_49 rfl ?_
        refine g_imul d_Mo_rule_50 ?_
        refine g_eqi (pk_mul _ _) ?_
        refine g_iload_n d_Mo_rule_51 rfl ?_
        refine g_iadd d_Mo_rule_52 ?_
        refine g_eqi (nI_add _ _) ?_
        refine g_istore d_Mo_rule_53 (by decide) ?_
        refine g_iload_n d_Mo_rule_55 rfl ?_
        refine g_iconst (v := nI 1) d_Mo_rule_56 (by decide) ?_
        refine g_isub d_Mo_rule_57 ?_
        refine g_iconst (v := nI 2) d_Mo_rule_58 (by decide) ?_
        refine g_idiv d_Mo_rule_59 (by decide) ?_
        refine g_istore d_Mo_rule_60 (by decide) ?_
        refine g_iload_n d_Mo_rule_62 rfl ?_
        refine g_ifN_ne (tgt := 76) d_Mo_rule_63 (by decide) (by omega) (fun hb_63 => ?_) (fun hb_63 => ?_)
        · have ed := rw_div w hw hb_63
          rw [ed]
          refine g_iload_n d_Mo_rule_76 rfl ?_
          refine g_iconst (v := nI 2) d_Mo_rule_77 (by decide) ?_
          refine g_irem d_Mo_rule_78 (by decide) ?_
          refine g_eqi (rw_rem w hw) ?_
          refine g_iconst (v := nI 1) d_Mo_rule_79 (by decide) ?_
          refine g_icmpN_ne (tgt := 98) d_Mo_rule_80 (by decide) (by omega) (by omega) (fun hb_80 => ?_) (fun hb_80 => ?_)
          · refine g_aload_n d_Mo_rule_98 rfl ?_
            refine g_get f_Mo_19 (by assumption) rfl d_Mo_rule_99 ?_
            refine g_iconst (v := nI 4) d_Mo_rule_102 (by decide) ?_
            refine g_iload d_Mo_rule_103 rfl ?_
            refine g_imul d_Mo_rule_105 ?_
            refine g_eqi (pk_mul _ _) ?_
            refine g_iload d_Mo_rule_106 rfl ?_
            refine g_iadd d_Mo_rule_108 ?_
            refine g_eqi (nI_add _ _) ?_
            refine g_iald _ (by assumption) rfl (by omega) (by decide) d_Mo_rule_109 ?_
            refine g_eqi (z := nI (rnm (rr j i) w)) (by
              unfold rnm
              rw [if_neg hb_63, if_neg hb_80]
              exact c2 j i ((w - 1) / 2) hj hi (by omega)) ?_
            exact g_ireturn rfl rfl (by omega) (by omega) d_Mo_rule_110 ⟨_, rfl, rfl, rfl, h0.own e1 f1, f1⟩
          · refine g_aload_n d_Mo_rule_83 rfl ?_
            refine g_get f_Mo_16 (by assumption) rfl d_Mo_rule_84 ?_
            refine g_iconst (v := nI 4) d_Mo_rule_87 (by decide) ?_
            refine g_iload d_Mo_rule_88 rfl ?_
            refine g_imul d_Mo_rule_90 ?_
            refine g_eqi (pk_mul _ _) ?_
            refine g_iload d_Mo_rule_91 rfl ?_
            refine g_iadd d_Mo_rule_93 ?_
            refine g_eqi (nI_add _ _) ?_
            refine g_iald _ (by assumption) rfl (by omega) (by decide) d_Mo_rule_94 ?_
            refine g_eqi (z := nI (rnm (rr j i) w)) (by
              unfold rnm
              rw [if_neg hb_63, if_pos hb_80]
              exact b2 j i ((w - 1) / 2) hj hi (by omega)) ?_
            refine g_goto (tgt := 110) d_Mo_rule_95 (by decide) ?_
            exact g_ireturn rfl rfl (by omega) (by omega) d_Mo_rule_110 ⟨_, rfl, rfl, rfl, h0.own e1 f1, f1⟩
        · refine g_aload_n d_Mo_rule_66 rfl ?_
          refine g_get f_Mo_13 (by assumption) rfl d_Mo_rule_67 ?_
          refine g_iload d_Mo_rule_70 rfl ?_
          refine g_iald _ (by assumption) rfl (by omega) (by decide) d_Mo_rule_72 ?_
          refine g_eqi (z := nI (rnm (rr j i) w)) (by
            unfold rnm
            rw [if_pos hb_63]
            exact a2 j i hj hi) ?_
          refine g_goto (tgt := 110) d_Mo_rule_73 (by decide) ?_
          exact g_ireturn rfl rfl (by omega) (by omega) d_Mo_rule_110 ⟨_, rfl, rfl, rfl, h0.own e1 f1, f1⟩
      · exact absurd hb_42 (by decide)
    · rw [hinw] at hb_31; cases hb_31
  · rw [hin] at hb_7; cases hb_7
theorem x_Mo_rule (h : OM E M W th tn ts mm rr gn gs) (j : Nat) (hj : j < 2) (y z : Int32) (hy : noN y (mm j)) : Ctr l E y_Mo_rule 2 [.ref W, .int (nI j), .int y, .int z] N M 0 0 (g_ret (fun v N' M' => v = some (.int (nI 0)) ∧ N' = N ∧ OM E M' W (nI 2) tn ts mm rr gn gs ∧ ∀ x, x ≠ W → M' x = M x)) := by
  have h0 := h
  obtain ⟨⟨rc, pl, fa, hO⟩, hT, hL, hK, hS⟩ := h
  have hin := inI_yes (j := j) (k := 1) (by omega) (by omega)
  have hnr := fun (N : Nat) => k_Mo_noRule (l := l) (N := N) hO hL.2.2.2.2 j hj y
  rw [inC_no hy (hL.1 j hj).1] at hnr
  refine ctr_of [some (.ref W), some (.int (nI j)), some (.int y), some (.int z), none, none] (by decide) w_1056 rfl rfl (Nat.le_of_ble_eq_true rfl) (fun Γ => ?_)
  refine g_aload_n d_Mo_rule_0 rfl ?_
  refine g_iload_n d_Mo_rule_1 rfl ?_
  refine g_iconst (v := nI 0) d_Mo_rule_2 (by decide) ?_
  refine g_iconst (v := nI 1) d_Mo_rule_3 (by decide) ?_
  refine g_callS s_Mo_112 sv_Mo_in (g_of_val (k_Mo_in _ _ _)) (by omega) rfl (by omega) (by omega) rfl (Nat.le_of_ble_eq_true rfl) d_Mo_rule_4 ?_
  rintro _ _ _ ⟨rfl, rfl, rfl⟩
  first | refine g_ifB_ne (tgt := 14) d_Mo_rule_7 (by decide) (fun hb_7 => ?_) (fun hb_7 => ?_) | refine g_ifN_ne (tgt := 14) d_Mo_rule_7 (by decide) (by omega) (fun hb_7 => ?_) (fun hb_7 => ?_)
  · refine g_iconst (v := nI 0) d_Mo_rule_14 (by decide) ?_
    refine g_aload_n d_Mo_rule_15 rfl ?_
    refine g_iload_n d_Mo_rule_16 rfl ?_
    refine g_iload_n d_Mo_rule_17 rfl ?_
    refine g_callV s_Mo_123 sv_Mo_noRule (by assumption) rfl (g_of_val (hnr _)) (by omega) rfl (by omega) (by omega) rfl (Nat.le_of_ble_eq_true rfl) d_Mo_rule_18 ?_
    rintro _ _ _ ⟨rfl, rfl, rfl⟩
    first | refine g_ifB_ne (tgt := 34) d_Mo_rule_21 (by decide) (fun hb_21 => ?_) (fun hb_21 => ?_) | refine g_ifN_ne (tgt := 34) d_Mo_rule_21 (by decide) (by omega) (fun hb_21 => ?_) (fun hb_21 => ?_)
    · refine g_iconst (v := nI 1) d_Mo_rule_34 (by decide) ?_
      refine g_goto (tgt := 39) d_Mo_rule_35 (by decide) ?_
      refine g_callV s_Mo_57 sv_Mo_refuse (by assumption) rfl (k_Mo_refuse hO false true) (by omega) rfl (by omega) (by omega) rfl (Nat.le_of_ble_eq_true rfl) d_Mo_rule_39 ?_
      rintro v' N' M1 ⟨rfl, rfl, e1, f1⟩
      first | refine g_ifB_eq (tgt := 47) d_Mo_rule_42 (by decide) (fun hb_42 => ?_) (fun hb_42 => ?_) | refine g_ifN_eq (tgt := 47) d_Mo_rule_42 (by decide) (by omega) (fun hb_42 => ?_) (fun hb_42 => ?_)
      · exact absurd hb_42 (by decide)
      · refine g_iconst (v := nI 0) d_Mo_rule_45 (by decide) ?_
        exact g_ireturn rfl rfl (by omega) (by omega) d_Mo_rule_46 ⟨_, rfl, rfl, rfl, h0.own e1 f1, f1⟩
    · exact absurd hb_21 (by decide)
  · rw [hin] at hb_7; cases hb_7
theorem xw_Mo_rule (h : OM E M W th tn ts mm rr gn gs) (j i : Nat) (hj : j < 2) (hi : i < mm j) (z : Int32) (hz : noN z 9) : Ctr l E y_Mo_rule 2 [.ref W, .int (nI j), .int (nI i), .int z] N M 0 0 (g_ret (fun v N' M' => v = some (.int (nI 0)) ∧ N' = N ∧ OM E M' W (nI 2) tn ts mm rr gn gs ∧ ∀ x, x ≠ W → M' x = M x)) := by
  have h0 := h
  obtain ⟨⟨rc, pl, fa, hO⟩, hT, hL, hK, hS⟩ := h
  have hin := inI_yes (j := j) (k := 1) (by omega) (by omega)
  have hinw := inI_no (k := 8) hz (by omega)
  have hnr := fun (N : Nat) => k_Mo_noRule (l := l) (N := N) hO hL.2.2.2.2 j hj (nI i)
  rw [inC_yes hi (hL.1 j hj).1] at hnr
  refine ctr_of [some (.ref W), some (.int (nI j)), some (.int (nI i)), some (.int z), none, none] (by decide) w_1056 rfl rfl (Nat.le_of_ble_eq_true rfl) (fun Γ => ?_)
  refine g_aload_n d_Mo_rule_0 rfl ?_
  refine g_iload_n d_Mo_rule_1 rfl ?_
  refine g_iconst (v := nI 0) d_Mo_rule_2 (by decide) ?_
  refine g_iconst (v := nI 1) d_Mo_rule_3 (by decide) ?_
  refine g_callS s_Mo_112 sv_Mo_in (g_of_val (k_Mo_in _ _ _)) (by omega) rfl (by omega) (by omega) rfl (Nat.le_of_ble_eq_true rfl) d_Mo_rule_4 ?_
  rintro _ _ _ ⟨rfl, rfl, rfl⟩
  first | refine g_ifB_ne (tgt := 14) d_Mo_rule_7 (by decide) (fun hb_7 => ?_) (fun hb_7 => ?_) | refine g_ifN_ne (tgt := 14) d_Mo_rule_7 (by decide) (by omega) (fun hb_7 => ?_) (fun hb_7 => ?_)
  · refine g_iconst (v := nI 0) d_Mo_rule_14 (by decide) ?_
    refine g_aload_n d_Mo_rule_15 rfl ?_
    refine g_iload_n d_Mo_rule_16 rfl ?_
    refine g_iload_n d_Mo_rule_17 rfl ?_
    refine g_callV s_Mo_123 sv_Mo_noRule (by assumption) rfl (g_of_val (hnr _)) (by omega) rfl (by omega) (by omega) rfl (Nat.le_of_ble_eq_true rfl) d_Mo_rule_18 ?_
    rintro _ _ _ ⟨rfl, rfl, rfl⟩
    first | refine g_ifB_ne (tgt := 34) d_Mo_rule_21 (by decide) (fun hb_21 => ?_) (fun hb_21 => ?_) | refine g_ifN_ne (tgt := 34) d_Mo_rule_21 (by decide) (by omega) (fun hb_21 => ?_) (fun hb_21 => ?_)
    · exact absurd hb_21 (by decide)
    refine g_iload_n d_Mo_rule_24 rfl ?_
    refine g_iconst (v := nI 0) d_Mo_rule_25 (by decide) ?_
    refine g_bipush (v := nI 8) d_Mo_rule_26 (by decide) ?_
    refine g_callS s_Mo_112 sv_Mo_in (g_of_val (k_Mo_in _ _ _)) (by omega) rfl (by omega) (by omega) rfl (Nat.le_of_ble_eq_true rfl) d_Mo_rule_28 ?_
    rintro _ _ _ ⟨rfl, rfl, rfl⟩
    first | refine g_ifB_ne (tgt := 38) d_Mo_rule_31 (by decide) (fun hb_31 => ?_) (fun hb_31 => ?_) | refine g_ifN_ne (tgt := 38) d_Mo_rule_31 (by decide) (by omega) (fun hb_31 => ?_) (fun hb_31 => ?_)
    · rw [hinw] at hb_31; cases hb_31
    · refine g_iconst (v := nI 1) d_Mo_rule_34 (by decide) ?_
      refine g_goto (tgt := 39) d_Mo_rule_35 (by decide) ?_
      refine g_callV s_Mo_57 sv_Mo_refuse (by assumption) rfl (k_Mo_refuse hO false true) (by omega) rfl (by omega) (by omega) rfl (Nat.le_of_ble_eq_true rfl) d_Mo_rule_39 ?_
      rintro v' N' M1 ⟨rfl, rfl, e1, f1⟩
      first | refine g_ifB_eq (tgt := 47) d_Mo_rule_42 (by decide) (fun hb_42 => ?_) (fun hb_42 => ?_) | refine g_ifN_eq (tgt := 47) d_Mo_rule_42 (by decide) (by omega) (fun hb_42 => ?_) (fun hb_42 => ?_)
      · exact absurd hb_42 (by decide)
      · refine g_iconst (v := nI 0) d_Mo_rule_45 (by decide) ?_
        exact g_ireturn rfl rfl (by omega) (by omega) d_Mo_rule_46 ⟨_, rfl, rfl, rfl, h0.own e1 f1, f1⟩
  · rw [hin] at hb_7; cases hb_7
theorem xl_Mo_rule (h : OM E M W th tn ts mm rr gn gs) (x y z : Int32) (hx : noN x 2) : Ctr l E y_Mo_rule 2 [.ref W, .int x, .int y, .int z] N M 0 0 (g_ret (fun v N' M' => v = some (.int (nI 0)) ∧ N' = N ∧ OM E M' W (nI 1) tn ts mm rr gn gs ∧ ∀ x, x ≠ W → M' x = M x)) := by
  have h0 := h
  obtain ⟨⟨rc, pl, fa, hO⟩, hT, hL, hK, hS⟩ := h
  have hin := inI_no (k := 1) hx (by omega)
  refine ctr_of [some (.ref W), some (.int x), some (.int y), some (.int z), none, none] (by decide) w_1056 rfl rfl (Nat.le_of_ble_eq_true rfl) (fun Γ => ?_)
  refine g_aload_n d_Mo_rule_0 rfl ?_
  refine g_iload_n d_Mo_rule_1 rfl ?_
  refine g_iconst (v := nI 0) d_Mo_rule_2 (by decide) ?_
  refine g_iconst (v := nI 1) d_Mo_rule_3 (by decide) ?_
  refine g_callS s_Mo_112 sv_Mo_in (g_of_val (k_Mo_in _ _ _)) (by omega) rfl (by omega) (by omega) rfl (Nat.le_of_ble_eq_true rfl) d_Mo_rule_4 ?_
  rintro _ _ _ ⟨rfl, rfl, rfl⟩
  first | refine g_ifB_ne (tgt := 14) d_Mo_rule_7 (by decide) (fun hb_7 => ?_) (fun hb_7 => ?_) | refine g_ifN_ne (tgt := 14) d_Mo_rule_7 (by decide) (by omega) (fun hb_7 => ?_) (fun hb_7 => ?_)
  · rw [hin] at hb_7; cases hb_7
  · refine g_iconst (v := nI 1) d_Mo_rule_10 (by decide) ?_
    refine g_goto (tgt := 15) d_Mo_rule_11 (by decide) ?_
    refine g_aload_n d_Mo_rule_15 rfl ?_
    refine g_iload_n d_Mo_rule_16 rfl ?_
    refine g_iload_n d_Mo_rule_17 rfl ?_
    refine g_callV s_Mo_123 sv_Mo_noRule (by assumption) rfl (g_of_val (kx_Mo_noRule hO x y hx)) (by omega) rfl (by omega) (by omega) rfl (Nat.le_of_ble_eq_true rfl) d_Mo_rule_18 ?_
    rintro _ _ _ ⟨rfl, rfl, rfl⟩
    first | refine g_ifB_ne (tgt := 34) d_Mo_rule_21 (by decide) (fun hb_21 => ?_) (fun hb_21 => ?_) | refine g_ifN_ne (tgt := 34) d_Mo_rule_21 (by decide) (by omega) (fun hb_21 => ?_) (fun hb_21 => ?_)
    · cases hb_21
    refine g_iload_n d_Mo_rule_24 rfl ?_
    refine g_iconst (v := nI 0) d_Mo_rule_25 (by decide) ?_
    refine g_bipush (v := nI 8) d_Mo_rule_26 (by decide) ?_
    refine g_callS s_Mo_112 sv_Mo_in (g_of_val (k_Mo_in _ _ _)) (by omega) rfl (by omega) (by omega) rfl (Nat.le_of_ble_eq_true rfl) d_Mo_rule_28 ?_
    rintro _ _ _ ⟨rfl, rfl, rfl⟩
    first | refine g_ifB_ne (tgt := 38) d_Mo_rule_31 (by decide) (fun hb_31 => ?_) (fun hb_31 => ?_) | refine g_ifN_ne (tgt := 38) d_Mo_rule_31 (by decide) (by omega) (fun hb_31 => ?_) (fun hb_31 => ?_)
    · refine g_iconst (v := nI 0) d_Mo_rule_38 (by decide) ?_
      refine g_callV s_Mo_57 sv_Mo_refuse (by assumption) rfl (k_Mo_refuse hO true false) (by omega) rfl (by omega) (by omega) rfl (Nat.le_of_ble_eq_true rfl) d_Mo_rule_39 ?_
      rintro v' N' M1 ⟨rfl, rfl, e1, f1⟩
      first | refine g_ifB_eq (tgt := 47) d_Mo_rule_42 (by decide) (fun hb_42 => ?_) (fun hb_42 => ?_) | refine g_ifN_eq (tgt := 47) d_Mo_rule_42 (by decide) (by omega) (fun hb_42 => ?_) (fun hb_42 => ?_)
      · exact absurd hb_42 (by decide)
      · refine g_iconst (v := nI 0) d_Mo_rule_45 (by decide) ?_
        exact g_ireturn rfl rfl (by omega) (by omega) d_Mo_rule_46 ⟨_, rfl, rfl, rfl, h0.own e1 f1, f1⟩
    · refine g_iconst (v := nI 1) d_Mo_rule_34 (by decide) ?_
      refine g_goto (tgt := 39) d_Mo_rule_35 (by decide) ?_
      refine g_callV s_Mo_57 sv_Mo_refuse (by assumption) rfl (k_Mo_refuse hO true true) (by omega) rfl (by omega) (by omega) rfl (Nat.le_of_ble_eq_true rfl) d_Mo_rule_39 ?_
      rintro v' N' M1 ⟨rfl, rfl, e1, f1⟩
      first | refine g_ifB_eq (tgt := 47) d_Mo_rule_42 (by decide) (fun hb_42 => ?_) (fun hb_42 => ?_) | refine g_ifN_eq (tgt := 47) d_Mo_rule_42 (by decide) (by omega) (fun hb_42 => ?_) (fun hb_42 => ?_)
      · exact absurd hb_42 (by decide)
      · refine g_iconst (v := nI 0) d_Mo_rule_45 (by decide) ?_
        exact g_ireturn rfl rfl (by omega) (by omega) d_Mo_rule_46 ⟨_, rfl, rfl, rfl, h0.own e1 f1, f1⟩
end MRULE

