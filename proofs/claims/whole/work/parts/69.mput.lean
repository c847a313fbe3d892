def bdS (u : Nat) : Nat → Bool
  | 0 => false
  | t + 1 => bdS u t || decide (127 < sgn u t)
theorem bdS_ok (u : Nat) : bdS u 4 = !okS u := by
  show ((((false || decide (127 < sgn u 0)) || decide (127 < sgn u 1)) || decide (127 < sgn u 2)) || decide (127 < sgn u 3)) = _
  have e : ∀ s, decide (127 < s) = !decide (s < 128) := by
    intro s
    by_cases c : s < 128
    · rw [decide_eq_true c, decide_eq_false (by omega)]; rfl
    · rw [decide_eq_false c, decide_eq_true (by omega)]; rfl
  unfold okS
  rw [e, e, e, e]
  cases decide (sgn u 0 < 128) <;> cases decide (sgn u 1 < 128) <;> cases decide (sgn u 2 < 128) <;> cases decide (sgn u 3 < 128) <;> rfl
theorem apT_in {n u : Nat} {ts : Nat → Nat} (h : ∀ j, j < n → 0 < ts j ∧ ts j < 128) (ho : okS u = true) : ∀ t, t ≤ 4 → ∀ j, j < n + cnS u t → 0 < apT n ts u t j ∧ apT n ts u t j < 128 := by
  intro t
  induction t with
  | zero => intro _ j hj; exact h j hj
  | succ t ih =>
    intro ht j hj
    have hj2 : j < n + (cnS u t + (if sgn u t = 0 then 0 else 1)) := hj
    show 0 < (if sgn u t = 0 then apT n ts u t else va_up (apT n ts u t) (n + cnS u t) (sgn u t)) j ∧ (if sgn u t = 0 then apT n ts u t else va_up (apT n ts u t) (n + cnS u t) (sgn u t)) j < 128
    by_cases c : sgn u t = 0
    · rw [if_pos c] at hj2
      rw [if_pos c]
      exact ih (by omega) j (by omega)
    · rw [if_neg c] at hj2
      rw [if_neg c]
      by_cases e : j = n + cnS u t
      · rw [e, va_up_self]
        have := (okS_iff u).mp ho t (by omega)
        omega
      · rw [va_up_ne _ _ e]
        exact ih (by omega) j (by omega)
section MPUT
variable {l : Launch} {E : gE} {N : Nat} {M : gM} {W tn : Nat} {th : Int32} {ts : Nat → Nat} {mm : Nat → Nat} {rr : Nat → Nat → Rl} {gn : Nat} {gs : Nat → Nat}
theorem k_Mo_put (h : OM E M W th tn ts mm rr gn gs) (u : Nat) (hu : u < 2 ^ 32) (ho : okS u = true) (hr : tn + cnS u 4 ≤ 240) : Ctr l E y_Mo_put 1 [.ref W, .int (nI u)] N M 0 0 (g_ret (fun v N' M' => v = some (.int (nI (tn + cnS u 4))) ∧ N' = N ∧ OM E M' W (nI 0) (tn + cnS u 4) (apT tn ts u 4) mm rr gn gs ∧ ∀ x, (x < W ∨ W + 12 < x) → M' x = M x)) := by
  have h0 := h
  obtain ⟨⟨rc, pl, fa, hO⟩, hT, hL, hK, hS⟩ := h
  have htn := hT.1
  have hcn := cnS_le u 4
  refine ctr_of [some (.ref W), some (.int (nI u)), none, none, none, none] (by decide) w_968 rfl rfl (Nat.le_of_ble_eq_true rfl) (fun Γ => ?_)
  refine g_iconst (v := nI 0) d_Mo_put_0 (by decide) ?_
  refine g_istore_n d_Mo_put_1 (by decide) ?_
  refine g_iconst (v := nI 0) d_Mo_put_2 (by decide) ?_
  refine g_istore_n d_Mo_put_3 (by decide) ?_
  refine g_iconst (v := nI 0) d_Mo_put_4 (by decide) ?_
  refine g_istore d_Mo_put_5 (by decide) ?_
  refine g_for (P := fun t => ∀ y : Option Value, G _ _ _ _ _ _ _ _ _ _ _ _ 7 [some (.ref W), some (.int (nI u)), some (.int (nI (cnS u t))), some (.int (bI (bdS u t))), some (.int (nI (8 * t))), y] [] N M 0 0) (e := 4) ?_ ?_ 0 (by omega) none
  · intro y
    have hbd := bdS_ok u
    rw [ho] at hbd
    rw [hbd]
    refine g_iload d_Mo_put_7 rfl ?_
    refine g_bipush (v := nI 32) d_Mo_put_9 (by decide) ?_
    refine g_icmpN_ge (tgt := 60) d_Mo_put_11 (by decide) (by omega) (by omega) (fun hb_11 => ?_) (fun hb_11 => ?_)
    · refine g_aload_n d_Mo_put_60 rfl ?_
      refine g_iload_n d_Mo_put_61 rfl ?_
      refine g_aload_n d_Mo_put_62 rfl ?_
      refine g_get f_Mo_54 (by assumption) rfl d_Mo_put_63 ?_
      refine g_iload_n d_Mo_put_66 rfl ?_
      refine g_iadd d_Mo_put_67 ?_
      refine g_eqi (nI_add _ _) ?_
      refine g_sipush (v := nI 240) d_Mo_put_68 (by decide) ?_
      refine g_icmpN_le (tgt := 78) d_Mo_put_71 (by decide) (by omega) (by omega) (fun hb_71 => ?_) (fun hb_71 => ?_)
      · refine g_iconst (v := nI 0) d_Mo_put_78 (by decide) ?_
        refine g_callV s_Mo_57 sv_Mo_refuse (by assumption) rfl (k_Mo_refuse hO (!true) false) (by omega) rfl (by omega) (by omega) rfl (Nat.le_of_ble_eq_true rfl) d_Mo_put_79 ?_
        rintro v' N' M1 ⟨rfl, rfl, e1, f1⟩
        first | refine g_ifB_eq (tgt := 87) d_Mo_put_82 (by decide) (fun hb_82 => ?_) (fun hb_82 => ?_) | refine g_ifN_eq (tgt := 87) d_Mo_put_82 (by decide) (by omega) (fun hb_82 => ?_) (fun hb_82 => ?_)
        · refine g_iconst (v := nI 0) d_Mo_put_87 (by decide) ?_
          refine g_istore d_Mo_put_88 (by decide) ?_
          obtain ⟨t1, t2, ft, t3, t4⟩ := hT
          refine g_for (P := fun t => ∀ (M2 : gM) (f2 : Nat → Int32) (y : Option Value), M2 W = some (.inr (10, mo W (nI 0) (nI (tn + cnS u t)) (nI gn) rc pl fa)) → M2 (W + 1) = some (g_ia E 240 f2) → (∀ j, j < tn + cnS u t → f2 j = nI (apT tn ts u t j)) → (∀ x, x ≠ W → x ≠ W + 1 → M2 x = M1 x) → G _ _ _ _ _ _ _ _ _ _ _ _ 90 [some (.ref W), some (.int (nI u)), some (.int (nI (cnS u 4))), some (.int (bI (!true))), some (.int (nI (8 * t))), y] [] _ M2 0 0) (e := 4) ?_ ?_ 0 (by omega) M1 ft _ e1 ((f1 _ (by omega)).trans t3) t4 (fun _ _ _ => rfl)
          · intro M2 f2 y a1 a2 a3 a4
            refine g_iload d_Mo_put_90 rfl ?_
            refine g_bipush (v := nI 32) d_Mo_put_92 (by decide) ?_
            refine g_icmpN_ge (tgt := 139) d_Mo_put_94 (by decide) (by omega) (by omega) (fun hb_94 => ?_) (fun hb_94 => ?_)
            · refine g_aload_n d_Mo_put_139 rfl ?_
              refine g_get f_Mo_54 (by assumption) rfl d_Mo_put_140 ?_
              exact g_ireturn rfl rfl (by omega) (by omega) d_Mo_put_143 ⟨_, rfl, rfl, rfl, ⟨⟨rc, pl, fa, a1⟩, ⟨hr, apT_in t2 ho 4 (by omega), f2, a2, a3⟩, hL.kept (fun x _ _ => (a4 x (by omega) (by omega)).trans (f1 x (by omega))), hK.kept ((a4 _ (by omega) (by omega)).trans (f1 _ (by omega))), hS.kept (fun x _ _ => (a4 x (by omega) (by omega)).trans (f1 x (by omega)))⟩, fun x hx => (a4 x (by omega) (by omega)).trans (f1 x (by omega))⟩
            · omega
          · intro t ht ih M2 f2 y a1 a2 a3 a4
            have hsl := sgn_lt u t
            have hmo := cnS_mono u (i := t) (j := 4) (by omega)
            have hmo1 := cnS_mono u (i := t + 1) (j := 4) (by omega)
            have ec : cnS u (t + 1) = cnS u t + (if sgn u t = 0 then 0 else 1) := rfl
            refine g_iload d_Mo_put_90 rfl ?_
            refine g_bipush (v := nI 32) d_Mo_put_92 (by decide) ?_
            refine g_icmpN_ge (tgt := 139) d_Mo_put_94 (by decide) (by omega) (by omega) (fun hb_94 => ?_) (fun hb_94 => ?_)
            · omega
            refine g_iload_n d_Mo_put_97 rfl ?_
            refine g_iload d_Mo_put_98 rfl ?_
            refine g_ishr d_Mo_put_100 ?_
            refine g_sipush (v := nI 255) d_Mo_put_101 (by decide) ?_
            refine g_iand d_Mo_put_104 ?_
            refine g_eqi (sgn_ar hu ht) ?_
            refine g_istore d_Mo_put_105 (by decide) ?_
            refine g_iload d_Mo_put_107 rfl ?_
            refine g_ifN_le (tgt := 133) d_Mo_put_109 (by decide) (by omega) (fun hb_109 => ?_) (fun hb_109 => ?_)
            · rw [if_pos (by omega)] at ec
              refine g_iinc (v := nI (8 * (t + 1))) d_Mo_put_133 rfl ((nI_add (8 * t) 8).trans (congrArg nI (by omega))) (by decide) ?_
              refine g_goto (tgt := 90) d_Mo_put_136 (by decide) ?_
              refine ih M2 f2 _ (by rw [ec]; exact a1) a2 (fun j hj => ?_) a4
              rw [a3 j (by omega)]
              show nI (apT tn ts u t j) = nI ((if sgn u t = 0 then apT tn ts u t else _) j)
              rw [if_pos (by omega)]
            · rw [if_neg (by omega)] at ec
              refine g_aload_n d_Mo_put_112 rfl ?_
              refine g_get f_Mo_7 (by assumption) rfl d_Mo_put_113 ?_
              refine g_aload_n d_Mo_put_116 rfl ?_
              refine g_get f_Mo_54 (by assumption) rfl d_Mo_put_117 ?_
              refine g_iload d_Mo_put_120 rfl ?_
              refine g_iast _ (by assumption) rfl (by omega) (by decide) d_Mo_put_122 ?_
              refine g_nm (fun M3 e3 f3 => ?_)
              have g3 := (f3 W (by omega)).trans a1
              refine g_aload_n d_Mo_put_123 rfl ?_
              refine g_dup d_Mo_put_124 rfl ?_
              refine g_get f_Mo_54 (by assumption) rfl d_Mo_put_125 ?_
              refine g_iconst (v := nI 1) d_Mo_put_128 (by decide) ?_
              refine g_iadd d_Mo_put_129 ?_
              refine g_eqi (nI_add _ _) ?_
              refine g_put p_Mo_54 (by assumption) (Nat.le_of_ble_eq_true rfl) rfl rfl d_Mo_put_130 ?_
              refine g_nm (fun M4 e4 f4 => ?_)
              refine g_iinc (v := nI (8 * (t + 1))) d_Mo_put_133 rfl ((nI_add (8 * t) 8).trans (congrArg nI (by omega))) (by decide) ?_
              refine g_goto (tgt := 90) d_Mo_put_136 (by decide) ?_
              refine ih M4 _ _ (by rw [ec]; exact e4) ((f4 _ (by omega)).trans e3) (fun j hj => ?_) (fun x x1 x2 => (f4 x x1).trans ((f3 x x2).trans (a4 x x1 x2)))
              show _ = nI ((if sgn u t = 0 then apT tn ts u t else va_up (apT tn ts u t) (tn + cnS u t) (sgn u t)) j)
              rw [if_neg (by omega)]
              by_cases e : j = tn + cnS u t
              · rw [e, pk_us, va_up_self]
              · rw [pk_un e, va_up_ne _ _ e]
                exact a3 j (by omega)
        · exact absurd hb_82 (by decide)
      · omega
    · omega
  · intro t ht ih y
    have hsl := sgn_lt u t
    refine g_iload d_Mo_put_7 rfl ?_
    refine g_bipush (v := nI 32) d_Mo_put_9 (by decide) ?_
    refine g_icmpN_ge (tgt := 60) d_Mo_put_11 (by decide) (by omega) (by omega) (fun hb_11 => ?_) (fun hb_11 => ?_)
    · omega
    refine g_iload_n d_Mo_put_14 rfl ?_
    refine g_iload d_Mo_put_15 rfl ?_
    refine g_ishr d_Mo_put_17 ?_
    refine g_sipush (v := nI 255) d_Mo_put_18 (by decide) ?_
    refine g_iand d_Mo_put_21 ?_
    refine g_eqi (sgn_ar hu ht) ?_
    refine g_istore d_Mo_put_22 (by decide) ?_
    refine g_iload_n d_Mo_put_24 rfl ?_
    first | refine g_ifB_ne (tgt := 35) d_Mo_put_25 (by decide) (fun hb_25 => ?_) (fun hb_25 => ?_) | refine g_ifN_ne (tgt := 35) d_Mo_put_25 (by decide) (by omega) (fun hb_25 => ?_) (fun hb_25 => ?_)
    · refine g_iconst (v := nI 1) d_Mo_put_35 (by decide) ?_
      refine g_goto (tgt := 40) d_Mo_put_36 (by decide) ?_
      refine g_Tr (b := bdS u (t + 1)) (by show (bdS u t || _) = true; rw [hb_25]; rfl) ?_
      refine g_istore_n d_Mo_put_40 (by decide) ?_
      refine g_iload_n d_Mo_put_41 rfl ?_
      refine g_iload d_Mo_put_42 rfl ?_
      refine g_ifN_le (tgt := 51) d_Mo_put_44 (by decide) (by omega) (fun hb_44 => ?_) (fun hb_44 => ?_)
      · refine g_iconst (v := nI 0) d_Mo_put_51 (by decide) ?_
        refine g_iadd d_Mo_put_52 ?_
        refine g_eqi (z := nI (cnS u (t + 1))) (by
          rw [nI_add]
          show nI (cnS u t + 0) = nI (cnS u t + (if sgn u t = 0 then 0 else 1))
          rw [if_pos (by omega)]) ?_
        refine g_istore_n d_Mo_put_53 (by decide) ?_
        refine g_iinc (v := nI (8 * (t + 1))) d_Mo_put_54 rfl ((nI_add (8 * t) 8).trans (congrArg nI (by omega))) (by decide) ?_
        refine g_goto (tgt := 7) d_Mo_put_57 (by decide) ?_
        exact ih _
      · refine g_iconst (v := nI 1) d_Mo_put_47 (by decide) ?_
        refine g_goto (tgt := 52) d_Mo_put_48 (by decide) ?_
        refine g_iadd d_Mo_put_52 ?_
        refine g_eqi (z := nI (cnS u (t + 1))) (by
          rw [nI_add]
          show nI (cnS u t + 1) = nI (cnS u t + (if sgn u t = 0 then 0 else 1))
          rw [if_neg (by omega)]) ?_
        refine g_istore_n d_Mo_put_53 (by decide) ?_
        refine g_iinc (v := nI (8 * (t + 1))) d_Mo_put_54 rfl ((nI_add (8 * t) 8).trans (congrArg nI (by omega))) (by decide) ?_
        refine g_goto (tgt := 7) d_Mo_put_57 (by decide) ?_
        exact ih _
    · refine g_iload d_Mo_put_28 rfl ?_
      refine g_bipush (v := nI 127) d_Mo_put_30 (by decide) ?_
      refine g_icmpN_le (tgt := 39) d_Mo_put_32 (by decide) (by omega) (by omega) (fun hb_32 => ?_) (fun hb_32 => ?_)
      · refine g_iconst (v := nI 0) d_Mo_put_39 (by decide) ?_
        refine g_Fa (b := bdS u (t + 1)) (by show (bdS u t || _) = false; rw [hb_25, decide_eq_false (by omega)]; rfl) ?_
        refine g_istore_n d_Mo_put_40 (by decide) ?_
        refine g_iload_n d_Mo_put_41 rfl ?_
        refine g_iload d_Mo_put_42 rfl ?_
        refine g_ifN_le (tgt := 51) d_Mo_put_44 (by decide) (by omega) (fun hb_44 => ?_) (fun hb_44 => ?_)
        · refine g_iconst (v := nI 0) d_Mo_put_51 (by decide) ?_
          refine g_iadd d_Mo_put_52 ?_
          refine g_eqi (z := nI (cnS u (t + 1))) (by
            rw [nI_add]
            show nI (cnS u t + 0) = nI (cnS u t + (if sgn u t = 0 then 0 else 1))
            rw [if_pos (by omega)]) ?_
          refine g_istore_n d_Mo_put_53 (by decide) ?_
          refine g_iinc (v := nI (8 * (t + 1))) d_Mo_put_54 rfl ((nI_add (8 * t) 8).trans (congrArg nI (by omega))) (by decide) ?_
          refine g_goto (tgt := 7) d_Mo_put_57 (by decide) ?_
          exact ih _
        · refine g_iconst (v := nI 1) d_Mo_put_47 (by decide) ?_
          refine g_goto (tgt := 52) d_Mo_put_48 (by decide) ?_
          refine g_iadd d_Mo_put_52 ?_
          refine g_eqi (z := nI (cnS u (t + 1))) (by
            rw [nI_add]
            show nI (cnS u t + 1) = nI (cnS u t + (if sgn u t = 0 then 0 else 1))
            rw [if_neg (by omega)]) ?_
          refine g_istore_n d_Mo_put_53 (by decide) ?_
          refine g_iinc (v := nI (8 * (t + 1))) d_Mo_put_54 rfl ((nI_add (8 * t) 8).trans (congrArg nI (by omega))) (by decide) ?_
          refine g_goto (tgt := 7) d_Mo_put_57 (by decide) ?_
          exact ih _
      · refine g_iconst (v := nI 1) d_Mo_put_35 (by decide) ?_
        refine g_goto (tgt := 40) d_Mo_put_36 (by decide) ?_
        refine g_Tr (b := bdS u (t + 1)) (by show (bdS u t || _) = true; rw [hb_25, decide_eq_true (by omega)]; rfl) ?_
        refine g_istore_n d_Mo_put_40 (by decide) ?_
        refine g_iload_n d_Mo_put_41 rfl ?_
        refine g_iload d_Mo_put_42 rfl ?_
        refine g_ifN_le (tgt := 51) d_Mo_put_44 (by decide) (by omega) (fun hb_44 => ?_) (fun hb_44 => ?_)
        · refine g_iconst (v := nI 0) d_Mo_put_51 (by decide) ?_
          refine g_iadd d_Mo_put_52 ?_
          refine g_eqi (z := nI (cnS u (t + 1))) (by
            rw [nI_add]
            show nI (cnS u t + 0) = nI (cnS u t + (if sgn u t = 0 then 0 else 1))
            rw [if_pos (by omega)]) ?_
          refine g_istore_n d_Mo_put_53 (by decide) ?_
          refine g_iinc (v := nI (8 * (t + 1))) d_Mo_put_54 rfl ((nI_add (8 * t) 8).trans (congrArg nI (by omega))) (by decide) ?_
          refine g_goto (tgt := 7) d_Mo_put_57 (by decide) ?_
          exact ih _
        · refine g_iconst (v := nI 1) d_Mo_put_47 (by decide) ?_
          refine g_goto (tgt := 52) d_Mo_put_48 (by decide) ?_
          refine g_iadd d_Mo_put_52 ?_
          refine g_eqi (z := nI (cnS u (t + 1))) (by
            rw [nI_add]
            show nI (cnS u t + 1) = nI (cnS u t + (if sgn u t = 0 then 0 else 1))
            rw [if_neg (by omega)]) ?_
          refine g_istore_n d_Mo_put_53 (by decide) ?_
          refine g_iinc (v := nI (8 * (t + 1))) d_Mo_put_54 rfl ((nI_add (8 * t) 8).trans (congrArg nI (by omega))) (by decide) ?_
          refine g_goto (tgt := 7) d_Mo_put_57 (by decide) ?_
          exact ih _
theorem x_Mo_put (h : OM E M W th tn ts mm rr gn gs) (u : Nat) (hu : u < 2 ^ 32) (ho : okS u = false) : Ctr l E y_Mo_put 1 [.ref W, .int (nI u)] N M 0 0 (g_ret (fun v N' M' => v = some (.int (nI 0)) ∧ N' = N ∧ OM E M' W (nI 1) tn ts mm rr gn gs ∧ ∀ x, x ≠ W → M' x = M x)) := by
  have h0 := h
  obtain ⟨⟨rc, pl, fa, hO⟩, hT, hL, hK, hS⟩ := h
  have htn := hT.1
  have hcn := cnS_le u 4
  refine ctr_of [some (.ref W), some (.int (nI u)), none, none, none, none] (by decide) w_968 rfl rfl (Nat.le_of_ble_eq_true rfl) (fun Γ => ?_)
  refine g_iconst (v := nI 0) d_Mo_put_0 (by decide) ?_
  refine g_istore_n d_Mo_put_1 (by decide) ?_
  refine g_iconst (v := nI 0) d_Mo_put_2 (by decide) ?_
  refine g_istore_n d_Mo_put_3 (by decide) ?_
  refine g_iconst (v := nI 0) d_Mo_put_4 (by decide) ?_
  refine g_istore d_Mo_put_5 (by decide) ?_
  refine g_for (P := fun t => ∀ y : Option Value, G _ _ _ _ _ _ _ _ _ _ _ _ 7 [some (.ref W), some (.int (nI u)), some (.int (nI (cnS u t))), some (.int (bI (bdS u t))), some (.int (nI (8 * t))), y] [] N M 0 0) (e := 4) ?_ ?_ 0 (by omega) none
  · intro y
    have hbd := bdS_ok u
    rw [ho] at hbd
    rw [hbd]
    refine g_iload d_Mo_put_7 rfl ?_
    refine g_bipush (v := nI 32) d_Mo_put_9 (by decide) ?_
    refine g_icmpN_ge (tgt := 60) d_Mo_put_11 (by decide) (by omega) (by omega) (fun hb_11 => ?_) (fun hb_11 => ?_)
    · refine g_aload_n d_Mo_put_60 rfl ?_
      refine g_iload_n d_Mo_put_61 rfl ?_
      refine g_aload_n d_Mo_put_62 rfl ?_
      refine g_get f_Mo_54 (by assumption) rfl d_Mo_put_63 ?_
      refine g_iload_n d_Mo_put_66 rfl ?_
      refine g_iadd d_Mo_put_67 ?_
      refine g_eqi (nI_add _ _) ?_
      refine g_sipush (v := nI 240) d_Mo_put_68 (by decide) ?_
      refine g_icmpN_le (tgt := 78) d_Mo_put_71 (by decide) (by omega) (by omega) (fun hb_71 => ?_) (fun hb_71 => ?_)
      · refine g_iconst (v := nI 0) d_Mo_put_78 (by decide) ?_
        refine g_callV s_Mo_57 sv_Mo_refuse (by assumption) rfl (k_Mo_refuse hO (!false) false) (by omega) rfl (by omega) (by omega) rfl (Nat.le_of_ble_eq_true rfl) d_Mo_put_79 ?_
        rintro v' N' M1 ⟨rfl, rfl, e1, f1⟩
        first | refine g_ifB_eq (tgt := 87) d_Mo_put_82 (by decide) (fun hb_82 => ?_) (fun hb_82 => ?_) | refine g_ifN_eq (tgt := 87) d_Mo_put_82 (by decide) (by omega) (fun hb_82 => ?_) (fun hb_82 => ?_)
        · exact absurd hb_82 (by decide)
        · refine g_iconst (v := nI 0) d_Mo_put_85 (by decide) ?_
          exact g_ireturn rfl rfl (by omega) (by omega) d_Mo_put_86 ⟨_, rfl, rfl, rfl, h0.own e1 f1, f1⟩
      · refine g_iconst (v := nI 1) d_Mo_put_74 (by decide) ?_
        refine g_goto (tgt := 79) d_Mo_put_75 (by decide) ?_
        refine g_callV s_Mo_57 sv_Mo_refuse (by assumption) rfl (k_Mo_refuse hO (!false) true) (by omega) rfl (by omega) (by omega) rfl (Nat.le_of_ble_eq_true rfl) d_Mo_put_79 ?_
        rintro v' N' M1 ⟨rfl, rfl, e1, f1⟩
        first | refine g_ifB_eq (tgt := 87) d_Mo_put_82 (by decide) (fun hb_82 => ?_) (fun hb_82 => ?_) | refine g_ifN_eq (tgt := 87) d_Mo_put_82 (by decide) (by omega) (fun hb_82 => ?_) (fun hb_82 => ?_)
        · exact absurd hb_82 (by decide)
        · refine g_iconst (v := nI 0) d_Mo_put_85 (by decide) ?_
          exact g_ireturn rfl rfl (by omega) (by omega) d_Mo_put_86 ⟨_, rfl, rfl, rfl, h0.own e1 f1, f1⟩
    · omega
  · intro t ht ih y
    have hsl := sgn_lt u t
    refine g_iload d_Mo_put_7 rfl ?_
    refine g_bipush (v := nI 32) d_Mo_put_9 (by decide) ?_
    refine g_icmpN_ge (tgt := 60) d_Mo_put_11 (by decide) (by omega) (by omega) (fun hb_11 => ?_) (fun hb_11 => ?_)
    · omega
    refine g_iload_n d_Mo_put_14 rfl ?_
    refine g_iload d_Mo_put_15 rfl ?_
    refine g_ishr d_Mo_put_17 ?_
    refine g_sipush (v := nI 255) d_Mo_put_18 (by decide) ?_
    refine g_iand d_Mo_put_21 ?_
    refine g_eqi (sgn_ar hu ht) ?_
    refine g_istore d_Mo_put_22 (by decide) ?_
    refine g_iload_n d_Mo_put_24 rfl ?_
    first | refine g_ifB_ne (tgt := 35) d_Mo_put_25 (by decide) (fun hb_25 => ?_) (fun hb_25 => ?_) | refine g_ifN_ne (tgt := 35) d_Mo_put_25 (by decide) (by omega) (fun hb_25 => ?_) (fun hb_25 => ?_)
    · refine g_iconst (v := nI 1) d_Mo_put_35 (by decide) ?_
      refine g_goto (tgt := 40) d_Mo_put_36 (by decide) ?_
      refine g_Tr (b := bdS u (t + 1)) (by show (bdS u t || _) = true; rw [hb_25]; rfl) ?_
      refine g_istore_n d_Mo_put_40 (by decide) ?_
      refine g_iload_n d_Mo_put_41 rfl ?_
      refine g_iload d_Mo_put_42 rfl ?_
      refine g_ifN_le (tgt := 51) d_Mo_put_44 (by decide) (by omega) (fun hb_44 => ?_) (fun hb_44 => ?_)
      · refine g_iconst (v := nI 0) d_Mo_put_51 (by decide) ?_
        refine g_iadd d_Mo_put_52 ?_
        refine g_eqi (z := nI (cnS u (t + 1))) (by
          rw [nI_add]
          show nI (cnS u t + 0) = nI (cnS u t + (if sgn u t = 0 then 0 else 1))
          rw [if_pos (by omega)]) ?_
        refine g_istore_n d_Mo_put_53 (by decide) ?_
        refine g_iinc (v := nI (8 * (t + 1))) d_Mo_put_54 rfl ((nI_add (8 * t) 8).trans (congrArg nI (by omega))) (by decide) ?_
        refine g_goto (tgt := 7) d_Mo_put_57 (by decide) ?_
        exact ih _
      · refine g_iconst (v := nI 1) d_Mo_put_47 (by decide) ?_
        refine g_goto (tgt := 52) d_Mo_put_48 (by decide) ?_
        refine g_iadd d_Mo_put_52 ?_
        refine g_eqi (z := nI (cnS u (t + 1))) (by
          rw [nI_add]
          show nI (cnS u t + 1) = nI (cnS u t + (if sgn u t = 0 then 0 else 1))
          rw [if_neg (by omega)]) ?_
        refine g_istore_n d_Mo_put_53 (by decide) ?_
        refine g_iinc (v := nI (8 * (t + 1))) d_Mo_put_54 rfl ((nI_add (8 * t) 8).trans (congrArg nI (by omega))) (by decide) ?_
        refine g_goto (tgt := 7) d_Mo_put_57 (by decide) ?_
        exact ih _
    · refine g_iload d_Mo_put_28 rfl ?_
      refine g_bipush (v := nI 127) d_Mo_put_30 (by decide) ?_
      refine g_icmpN_le (tgt := 39) d_Mo_put_32 (by decide) (by omega) (by omega) (fun hb_32 => ?_) (fun hb_32 => ?_)
      · refine g_iconst (v := nI 0) d_Mo_put_39 (by decide) ?_
        refine g_Fa (b := bdS u (t + 1)) (by show (bdS u t || _) = false; rw [hb_25, decide_eq_false (by omega)]; rfl) ?_
        refine g_istore_n d_Mo_put_40 (by decide) ?_
        refine g_iload_n d_Mo_put_41 rfl ?_
        refine g_iload d_Mo_put_42 rfl ?_
        refine g_ifN_le (tgt := 51) d_Mo_put_44 (by decide) (by omega) (fun hb_44 => ?_) (fun hb_44 => ?_)
        · refine g_iconst (v := nI 0) d_Mo_put_51 (by decide) ?_
          refine g_iadd d_Mo_put_52 ?_
          refine g_eqi (z := nI (cnS u (t + 1))) (by
            rw [nI_add]
            show nI (cnS u t + 0) = nI (cnS u t + (if sgn u t = 0 then 0 else 1))
            rw [if_pos (by omega)]) ?_
          refine g_istore_n d_Mo_put_53 (by decide) ?_
          refine g_iinc (v := nI (8 * (t + 1))) d_Mo_put_54 rfl ((nI_add (8 * t) 8).trans (congrArg nI (by omega))) (by decide) ?_
          refine g_goto (tgt := 7) d_Mo_put_57 (by decide) ?_
          exact ih _
        · refine g_iconst (v := nI 1) d_Mo_put_47 (by decide) ?_
          refine g_goto (tgt := 52) d_Mo_put_48 (by decide) ?_
          refine g_iadd d_Mo_put_52 ?_
          refine g_eqi (z := nI (cnS u (t + 1))) (by
            rw [nI_add]
            show nI (cnS u t + 1) = nI (cnS u t + (if sgn u t = 0 then 0 else 1))
            rw [if_neg (by omega)]) ?_
          refine g_istore_n d_Mo_put_53 (by decide) ?_
          refine g_iinc (v := nI (8 * (t + 1))) d_Mo_put_54 rfl ((nI_add (8 * t) 8).trans (congrArg nI (by omega))) (by decide) ?_
          refine g_goto (tgt := 7) d_Mo_put_57 (by decide) ?_
          exact ih _
      · refine g_iconst (v := nI 1) d_Mo_put_35 (by decide) ?_
        refine g_goto (tgt := 40) d_Mo_put_36 (by decide) ?_
        refine g_Tr (b := bdS u (t + 1)) (by show (bdS u t || _) = true; rw [hb_25, decide_eq_true (by omega)]; rfl) ?_
        refine g_istore_n d_Mo_put_40 (by decide) ?_
        refine g_iload_n d_Mo_put_41 rfl ?_
        refine g_iload d_Mo_put_42 rfl ?_
        refine g_ifN_le (tgt := 51) d_Mo_put_44 (by decide) (by omega) (fun hb_44 => ?_) (fun hb_44 => ?_)
        · refine g_iconst (v := nI 0) d_Mo_put_51 (by decide) ?_
          refine g_iadd d_Mo_put_52 ?_
          refine g_eqi (z := nI (cnS u (t + 1))) (by
            rw [nI_add]
            show nI (cnS u t + 0) = nI (cnS u t + (if sgn u t = 0 then 0 else 1))
            rw [if_pos (by omega)]) ?_
          refine g_istore_n d_Mo_put_53 (by decide) ?_
          refine g_iinc (v := nI (8 * (t + 1))) d_Mo_put_54 rfl ((nI_add (8 * t) 8).trans (congrArg nI (by omega))) (by decide) ?_
          refine g_goto (tgt := 7) d_Mo_put_57 (by decide) ?_
          exact ih _
        · refine g_iconst (v := nI 1) d_Mo_put_47 (by decide) ?_
          refine g_goto (tgt := 52) d_Mo_put_48 (by decide) ?_
          refine g_iadd d_Mo_put_52 ?_
          refine g_eqi (z := nI (cnS u (t + 1))) (by
            rw [nI_add]
            show nI (cnS u t + 1) = nI (cnS u t + (if sgn u t = 0 then 0 else 1))
            rw [if_neg (by omega)]) ?_
          refine g_istore_n d_Mo_put_53 (by decide) ?_
          refine g_iinc (v := nI (8 * (t + 1))) d_Mo_put_54 rfl ((nI_add (8 * t) 8).trans (congrArg nI (by omega))) (by decide) ?_
          refine g_goto (tgt := 7) d_Mo_put_57 (by decide) ?_
          exact ih _
theorem xr_Mo_put (h : OM E M W th tn ts mm rr gn gs) (u : Nat) (hu : u < 2 ^ 32) (ho : okS u = true) (hr : 240 < tn + cnS u 4) : Ctr l E y_Mo_put 1 [.ref W, .int (nI u)] N M 0 0 (g_ret (fun v N' M' => v = some (.int (nI 0)) ∧ N' = N ∧ OM E M' W (nI 2) tn ts mm rr gn gs ∧ ∀ x, x ≠ W → M' x = M x)) := by
  have h0 := h
  obtain ⟨⟨rc, pl, fa, hO⟩, hT, hL, hK, hS⟩ := h
  have htn := hT.1
  have hcn := cnS_le u 4
  refine ctr_of [some (.ref W), some (.int (nI u)), none, none, none, none] (by decide) w_968 rfl rfl (Nat.le_of_ble_eq_true rfl) (fun Γ => ?_)
  refine g_iconst (v := nI 0) d_Mo_put_0 (by decide) ?_
  refine g_istore_n d_Mo_put_1 (by decide) ?_
  refine g_iconst (v := nI 0) d_Mo_put_2 (by decide) ?_
  refine g_istore_n d_Mo_put_3 (by decide) ?_
  refine g_iconst (v := nI 0) d_Mo_put_4 (by decide) ?_
  refine g_istore d_Mo_put_5 (by decide) ?_
  refine g_for (P := fun t => ∀ y : Option Value, G _ _ _ _ _ _ _ _ _ _ _ _ 7 [some (.ref W), some (.int (nI u)), some (.int (nI (cnS u t))), some (.int (bI (bdS u t))), some (.int (nI (8 * t))), y] [] N M 0 0) (e := 4) ?_ ?_ 0 (by omega) none
  · intro y
    have hbd := bdS_ok u
    rw [ho] at hbd
    rw [hbd]
    refine g_iload d_Mo_put_7 rfl ?_
    refine g_bipush (v := nI 32) d_Mo_put_9 (by decide) ?_
    refine g_icmpN_ge (tgt := 60) d_Mo_put_11 (by decide) (by omega) (by omega) (fun hb_11 => ?_) (fun hb_11 => ?_)
    · refine g_aload_n d_Mo_put_60 rfl ?_
      refine g_iload_n d_Mo_put_61 rfl ?_
      refine g_aload_n d_Mo_put_62 rfl ?_
      refine g_get f_Mo_54 (by assumption) rfl d_Mo_put_63 ?_
      refine g_iload_n d_Mo_put_66 rfl ?_
      refine g_iadd d_Mo_put_67 ?_
      refine g_eqi (nI_add _ _) ?_
      refine g_sipush (v := nI 240) d_Mo_put_68 (by decide) ?_
      refine g_icmpN_le (tgt := 78) d_Mo_put_71 (by decide) (by omega) (by omega) (fun hb_71 => ?_) (fun hb_71 => ?_)
      · omega
      · refine g_iconst (v := nI 1) d_Mo_put_74 (by decide) ?_
        refine g_goto (tgt := 79) d_Mo_put_75 (by decide) ?_
        refine g_callV s_Mo_57 sv_Mo_refuse (by assumption) rfl (k_Mo_refuse hO (!true) true) (by omega) rfl (by omega) (by omega) rfl (Nat.le_of_ble_eq_true rfl) d_Mo_put_79 ?_
        rintro v' N' M1 ⟨rfl, rfl, e1, f1⟩
        first | refine g_ifB_eq (tgt := 87) d_Mo_put_82 (by decide) (fun hb_82 => ?_) (fun hb_82 => ?_) | refine g_ifN_eq (tgt := 87) d_Mo_put_82 (by decide) (by omega) (fun hb_82 => ?_) (fun hb_82 => ?_)
        · exact absurd hb_82 (by decide)
        · refine g_iconst (v := nI 0) d_Mo_put_85 (by decide) ?_
          exact g_ireturn rfl rfl (by omega) (by omega) d_Mo_put_86 ⟨_, rfl, rfl, rfl, h0.own e1 f1, f1⟩
    · omega
  · intro t ht ih y
    have hsl := sgn_lt u t
    refine g_iload d_Mo_put_7 rfl ?_
    refine g_bipush (v := nI 32) d_Mo_put_9 (by decide) ?_
    refine g_icmpN_ge (tgt := 60) d_Mo_put_11 (by decide) (by omega) (by omega) (fun hb_11 => ?_) (fun hb_11 => ?_)
    · omega
    refine g_iload_n d_Mo_put_14 rfl ?_
    refine g_iload d_Mo_put_15 rfl ?_
    refine g_ishr d_Mo_put_17 ?_
    refine g_sipush (v := nI 255) d_Mo_put_18 (by decide) ?_
    refine g_iand d_Mo_put_21 ?_
    refine g_eqi (sgn_ar hu ht) ?_
    refine g_istore d_Mo_put_22 (by decide) ?_
    refine g_iload_n d_Mo_put_24 rfl ?_
    first | refine g_ifB_ne (tgt := 35) d_Mo_put_25 (by decide) (fun hb_25 => ?_) (fun hb_25 => ?_) | refine g_ifN_ne (tgt := 35) d_Mo_put_25 (by decide) (by omega) (fun hb_25 => ?_) (fun hb_25 => ?_)
    · refine g_iconst (v := nI 1) d_Mo_put_35 (by decide) ?_
      refine g_goto (tgt := 40) d_Mo_put_36 (by decide) ?_
      refine g_Tr (b := bdS u (t + 1)) (by show (bdS u t || _) = true; rw [hb_25]; rfl) ?_
      refine g_istore_n d_Mo_put_40 (by decide) ?_
      refine g_iload_n d_Mo_put_41 rfl ?_
      refine g_iload d_Mo_put_42 rfl ?_
      refine g_ifN_le (tgt := 51) d_Mo_put_44 (by decide) (by omega) (fun hb_44 => ?_) (fun hb_44 => ?_)
      · refine g_iconst (v := nI 0) d_Mo_put_51 (by decide) ?_
        refine g_iadd d_Mo_put_52 ?_
        refine g_eqi (z := nI (cnS u (t + 1))) (by
          rw [nI_add]
          show nI (cnS u t + 0) = nI (cnS u t + (if sgn u t = 0 then 0 else 1))
          rw [if_pos (by omega)]) ?_
        refine g_istore_n d_Mo_put_53 (by decide) ?_
        refine g_iinc (v := nI (8 * (t + 1))) d_Mo_put_54 rfl ((nI_add (8 * t) 8).trans (congrArg nI (by omega))) (by decide) ?_
        refine g_goto (tgt := 7) d_Mo_put_57 (by decide) ?_
        exact ih _
      · refine g_iconst (v := nI 1) d_Mo_put_47 (by decide) ?_
        refine g_goto (tgt := 52) d_Mo_put_48 (by decide) ?_
        refine g_iadd d_Mo_put_52 ?_
        refine g_eqi (z := nI (cnS u (t + 1))) (by
          rw [nI_add]
          show nI (cnS u t + 1) = nI (cnS u t + (if sgn u t = 0 then 0 else 1))
          rw [if_neg (by omega)]) ?_
        refine g_istore_n d_Mo_put_53 (by decide) ?_
        refine g_iinc (v := nI (8 * (t + 1))) d_Mo_put_54 rfl ((nI_add (8 * t) 8).trans (congrArg nI (by omega))) (by decide) ?_
        refine g_goto (tgt := 7) d_Mo_put_57 (by decide) ?_
        exact ih _
    · refine g_iload d_Mo_put_28 rfl ?_
      refine g_bipush (v := nI 127) d_Mo_put_30 (by decide) ?_
      refine g_icmpN_le (tgt := 39) d_Mo_put_32 (by decide) (by omega) (by omega) (fun hb_32 => ?_) (fun hb_32 => ?_)
      · refine g_iconst (v := nI 0) d_Mo_put_39 (by decide) ?_
        refine g_Fa (b := bdS u (t + 1)) (by show (bdS u t || _) = false; rw [hb_25, decide_eq_false (by omega)]; rfl) ?_
        refine g_istore_n d_Mo_put_40 (by decide) ?_
        refine g_iload_n d_Mo_put_41 rfl ?_
        refine g_iload d_Mo_put_42 rfl ?_
        refine g_ifN_le (tgt := 51) d_Mo_put_44 (by decide) (by omega) (fun hb_44 => ?_) (fun hb_44 => ?_)
        · refine g_iconst (v := nI 0) d_Mo_put_51 (by decide) ?_
          refine g_iadd d_Mo_put_52 ?_
          refine g_eqi (z := nI (cnS u (t + 1))) (by
            rw [nI_add]
            show nI (cnS u t + 0) = nI (cnS u t + (if sgn u t = 0 then 0 else 1))
            rw [if_pos (by omega)]) ?_
          refine g_istore_n d_Mo_put_53 (by decide) ?_
          refine g_iinc (v := nI (8 * (t + 1))) d_Mo_put_54 rfl ((nI_add (8 * t) 8).trans (congrArg nI (by omega))) (by decide) ?_
          refine g_goto (tgt := 7) d_Mo_put_57 (by decide) ?_
          exact ih _
        · refine g_iconst (v := nI 1) d_Mo_put_47 (by decide) ?_
          refine g_goto (tgt := 52) d_Mo_put_48 (by decide) ?_
          refine g_iadd d_Mo_put_52 ?_
          refine g_eqi (z := nI (cnS u (t + 1))) (by
            rw [nI_add]
            show nI (cnS u t + 1) = nI (cnS u t + (if sgn u t = 0 then 0 else 1))
            rw [if_neg (by omega)]) ?_
          refine g_istore_n d_Mo_put_53 (by decide) ?_
          refine g_iinc (v := nI (8 * (t + 1))) d_Mo_put_54 rfl ((nI_add (8 * t) 8).trans (congrArg nI (by omega))) (by decide) ?_
          refine g_goto (tgt := 7) d_Mo_put_57 (by decide) ?_
          exact ih _
      · refine g_iconst (v := nI 1) d_Mo_put_35 (by decide) ?_
        refine g_goto (tgt := 40) d_Mo_put_36 (by decide) ?_
        refine g_Tr (b := bdS u (t + 1)) (by show (bdS u t || _) = true; rw [hb_25, decide_eq_true (by omega)]; rfl) ?_
        refine g_istore_n d_Mo_put_40 (by decide) ?_
        refine g_iload_n d_Mo_put_41 rfl ?_
        refine g_iload d_Mo_put_42 rfl ?_
        refine g_ifN_le (tgt := 51) d_Mo_put_44 (by decide) (by omega) (fun hb_44 => ?_) (fun hb_44 => ?_)
        · refine g_iconst (v := nI 0) d_Mo_put_51 (by decide) ?_
          refine g_iadd d_Mo_put_52 ?_
          refine g_eqi (z := nI (cnS u (t + 1))) (by
            rw [nI_add]
            show nI (cnS u t + 0) = nI (cnS u t + (if sgn u t = 0 then 0 else 1))
            rw [if_pos (by omega)]) ?_
          refine g_istore_n d_Mo_put_53 (by decide) ?_
          refine g_iinc (v := nI (8 * (t + 1))) d_Mo_put_54 rfl ((nI_add (8 * t) 8).trans (congrArg nI (by omega))) (by decide) ?_
          refine g_goto (tgt := 7) d_Mo_put_57 (by decide) ?_
          exact ih _
        · refine g_iconst (v := nI 1) d_Mo_put_47 (by decide) ?_
          refine g_goto (tgt := 52) d_Mo_put_48 (by decide) ?_
          refine g_iadd d_Mo_put_52 ?_
          refine g_eqi (z := nI (cnS u (t + 1))) (by
            rw [nI_add]
            show nI (cnS u t + 1) = nI (cnS u t + (if sgn u t = 0 then 0 else 1))
            rw [if_neg (by omega)]) ?_
          refine g_istore_n d_Mo_put_53 (by decide) ?_
          refine g_iinc (v := nI (8 * (t + 1))) d_Mo_put_54 rfl ((nI_add (8 * t) 8).trans (congrArg nI (by omega))) (by decide) ?_
          refine g_goto (tgt := 7) d_Mo_put_57 (by decide) ?_
          exact ih _
end MPUT

