theorem inC_yes {i m : Nat} (h : i < m) (hm : m ≤ 8) : inI (nI i) (nI 0) (nI m - nI 1) = true := by
  rw [pk_sub (by omega)]
  exact inI_yes (by omega) (by omega)
theorem inC_no {x : Int32} {m : Nat} (h : noN x m) (hm : m ≤ 8) : inI x (nI 0) (nI m - nI 1) = false := by
  cases m with
  | zero =>
    unfold inI
    by_cases c : x < nI 0
    · rw [decide_eq_true c]; rfl
    · obtain ⟨j, h1, h2⟩ := nI_of c
      have : nI 0 - nI 1 < x := by
        rw [h2]
        exact Int32.lt_of_lt_of_le (b := 0) (by decide) (nI_pos' h1)
      rw [decide_eq_true this, Bool.not_true, Bool.and_false]
  | succ m =>
    rw [pk_sub (by omega)]
    exact inI_no h (by omega)
section MODEL3
variable {l : Launch} {E : gE} {N : Nat} {M : gM} {W tn : Nat} {th : Int32} {ts : Nat → Nat} {mm : Nat → Nat} {rr : Nat → Nat → Rl} {gn : Nat} {gs : Nat → Nat}
theorem k_Mo_rules (h : OM E M W th tn ts mm rr gn gs) (j : Nat) (hj : j < 2) : Ctr l E y_Mo_rules 1 [.ref W, .int (nI j)] N M 0 0 (g_ret (fun v N' M' => v = some (.int (nI (mm j))) ∧ N' = N ∧ OM E M' W (nI 0) tn ts mm rr gn gs ∧ ∀ x, x ≠ W → M' x = M x)) := by
  obtain ⟨⟨rc, pl, fa, hO⟩, hT, hL, hK, hS⟩ := h
  have h : OM E M W th tn ts mm rr gn gs := ⟨⟨rc, pl, fa, hO⟩, hT, hL, hK, hS⟩
  have hin := inI_yes (j := j) (k := 1) (by omega) (by omega)
  refine ctr_of [some (.ref W), some (.int (nI j))] (by decide) w_1052 rfl rfl (Nat.le_of_ble_eq_true rfl) (fun Γ => ?_)
  refine g_aload_n d_Mo_rules_0 rfl ?_
  refine g_iload_n d_Mo_rules_1 rfl ?_
  refine g_iconst (v := nI 0) d_Mo_rules_2 (by decide) ?_
  refine g_iconst (v := nI 1) d_Mo_rules_3 (by decide) ?_
  refine g_callS s_Mo_112 sv_Mo_in (g_of_val (k_Mo_in _ _ _)) (by omega) rfl (by omega) (by omega) rfl (Nat.le_of_ble_eq_true rfl) d_Mo_rules_4 ?_
  rintro _ _ _ ⟨rfl, rfl, rfl⟩
  first | refine g_ifB_ne (tgt := 14) d_Mo_rules_7 (by decide) (fun hb_7 => ?_) (fun hb_7 => ?_) | refine g_ifN_ne (tgt := 14) d_Mo_rules_7 (by decide) (by omega) (fun hb_7 => ?_) (fun hb_7 => ?_)
  · refine g_iconst (v := nI 0) d_Mo_rules_14 (by decide) ?_
    refine g_iconst (v := nI 0) d_Mo_rules_15 (by decide) ?_
    refine g_callV s_Mo_57 sv_Mo_refuse (by assumption) rfl (k_Mo_refuse hO false false) (by omega) rfl (by omega) (by omega) rfl (Nat.le_of_ble_eq_true rfl) d_Mo_rules_16 ?_
    rintro v' N' M1 ⟨rfl, rfl, e1, f1⟩
    have hL1 := hL.kept (M' := M1) (fun x _ _ => f1 x (by omega))
    have hK1 := hK.kept (M' := M1) (f1 _ (by omega))
    first | refine g_ifB_eq (tgt := 24) d_Mo_rules_19 (by decide) (fun hb_19 => ?_) (fun hb_19 => ?_) | refine g_ifN_eq (tgt := 24) d_Mo_rules_19 (by decide) (by omega) (fun hb_19 => ?_) (fun hb_19 => ?_)
    · skip
      obtain ⟨-, -, -, -, fc, c1, c2⟩ := hL1
      refine g_aload_n d_Mo_rules_24 rfl ?_
      refine g_get f_Mo_22 (by assumption) rfl d_Mo_rules_25 ?_
      refine g_iload_n d_Mo_rules_28 rfl ?_
      refine g_iald _ (by assumption) rfl (by omega) (by decide) d_Mo_rules_29 ?_
      refine g_eqi (c2 j hj) ?_
      exact g_ireturn rfl rfl (by omega) (by omega) d_Mo_rules_30 ⟨_, rfl, rfl, rfl, h.own e1 f1, f1⟩
    · cases hb_19
  · rw [hin] at hb_7; cases hb_7
theorem x_Mo_rules (h : OM E M W th tn ts mm rr gn gs) (x : Int32) (hx : noN x 2) : Ctr l E y_Mo_rules 1 [.ref W, .int (x)] N M 0 0 (g_ret (fun v N' M' => v = some (.int (nI 0)) ∧ N' = N ∧ OM E M' W (nI 1) tn ts mm rr gn gs ∧ ∀ x, x ≠ W → M' x = M x)) := by
  obtain ⟨⟨rc, pl, fa, hO⟩, hT, hL, hK, hS⟩ := h
  have h : OM E M W th tn ts mm rr gn gs := ⟨⟨rc, pl, fa, hO⟩, hT, hL, hK, hS⟩
  have hin := inI_no (k := 1) hx (by omega)
  refine ctr_of [some (.ref W), some (.int (x))] (by decide) w_1052 rfl rfl (Nat.le_of_ble_eq_true rfl) (fun Γ => ?_)
  refine g_aload_n d_Mo_rules_0 rfl ?_
  refine g_iload_n d_Mo_rules_1 rfl ?_
  refine g_iconst (v := nI 0) d_Mo_rules_2 (by decide) ?_
  refine g_iconst (v := nI 1) d_Mo_rules_3 (by decide) ?_
  refine g_callS s_Mo_112 sv_Mo_in (g_of_val (k_Mo_in _ _ _)) (by omega) rfl (by omega) (by omega) rfl (Nat.le_of_ble_eq_true rfl) d_Mo_rules_4 ?_
  rintro _ _ _ ⟨rfl, rfl, rfl⟩
  first | refine g_ifB_ne (tgt := 14) d_Mo_rules_7 (by decide) (fun hb_7 => ?_) (fun hb_7 => ?_) | refine g_ifN_ne (tgt := 14) d_Mo_rules_7 (by decide) (by omega) (fun hb_7 => ?_) (fun hb_7 => ?_)
  · rw [hin] at hb_7; cases hb_7
  · refine g_iconst (v := nI 1) d_Mo_rules_10 (by decide) ?_
    refine g_goto (tgt := 15) d_Mo_rules_11 (by decide) ?_
    refine g_iconst (v := nI 0) d_Mo_rules_15 (by decide) ?_
    refine g_callV s_Mo_57 sv_Mo_refuse (by assumption) rfl (k_Mo_refuse hO true false) (by omega) rfl (by omega) (by omega) rfl (Nat.le_of_ble_eq_true rfl) d_Mo_rules_16 ?_
    rintro v' N' M1 ⟨rfl, rfl, e1, f1⟩
    first | refine g_ifB_eq (tgt := 24) d_Mo_rules_19 (by decide) (fun hb_19 => ?_) (fun hb_19 => ?_) | refine g_ifN_eq (tgt := 24) d_Mo_rules_19 (by decide) (by omega) (fun hb_19 => ?_) (fun hb_19 => ?_)
    · cases hb_19
    · refine g_iconst (v := nI 0) d_Mo_rules_22 (by decide) ?_
      exact g_ireturn rfl rfl (by omega) (by omega) d_Mo_rules_23 ⟨_, rfl, rfl, rfl, h.own e1 f1, f1⟩
theorem k_Mo_verdict (h : OM E M W th tn ts mm rr gn gs) (j a b c d : Nat) (hj : j < 2) (ha : a ≤ 255) (hb : b ≤ 255) (hc : c ≤ 1023) (hd : d ≤ 3) : Ctr l E y_Mo_verdict 4 [.ref W, .int (nI j), .int (nI a), .int (nI b), .int (nI c), .int (nI d)] N M 0 0 (g_ret (fun v N' M' => v = some (.int (nI (jdg (rr j) (mm j) (pkt a b c d)))) ∧ N' = N ∧ OM E M' W (nI 0) tn ts mm rr gn gs ∧ ∀ x, x ≠ W → M' x = M x)) := by
  obtain ⟨⟨rc, pl, fa, hO⟩, hT, hL, hK, hS⟩ := h
  have h : OM E M W th tn ts mm rr gn gs := ⟨⟨rc, pl, fa, hO⟩, hT, hL, hK, hS⟩
  have hin := inI_yes (j := j) (k := 1) (by omega) (by omega)
  have hnpk := fun (N : Nat) => k_Mo_noPacket (l := l) (E := E) (N := N) (nI a) (nI b) (nI c) (nI d) hO
  rw [npI_yes ha hb hc hd] at hnpk
  refine ctr_of [some (.ref W), some (.int (nI j)), some (.int (nI a)), some (.int (nI b)), some (.int (nI c)), some (.int (nI d))] (by decide) w_1060 rfl rfl (Nat.le_of_ble_eq_true rfl) (fun Γ => ?_)
  refine g_aload_n d_Mo_verdict_0 rfl ?_
  refine g_iload_n d_Mo_verdict_1 rfl ?_
  refine g_iconst (v := nI 0) d_Mo_verdict_2 (by decide) ?_
  refine g_iconst (v := nI 1) d_Mo_verdict_3 (by decide) ?_
  refine g_callS s_Mo_112 sv_Mo_in (g_of_val (k_Mo_in _ _ _)) (by omega) rfl (by omega) (by omega) rfl (Nat.le_of_ble_eq_true rfl) d_Mo_verdict_4 ?_
  rintro _ _ _ ⟨rfl, rfl, rfl⟩
  first | refine g_ifB_ne (tgt := 14) d_Mo_verdict_7 (by decide) (fun hb_7 => ?_) (fun hb_7 => ?_) | refine g_ifN_ne (tgt := 14) d_Mo_verdict_7 (by decide) (by omega) (fun hb_7 => ?_) (fun hb_7 => ?_)
  · refine g_iconst (v := nI 0) d_Mo_verdict_14 (by decide) ?_
    refine g_aload_n d_Mo_verdict_15 rfl ?_
    refine g_iload_n d_Mo_verdict_16 rfl ?_
    refine g_iload_n d_Mo_verdict_17 rfl ?_
    refine g_iload d_Mo_verdict_18 rfl ?_
    refine g_iload d_Mo_verdict_20 rfl ?_
    refine g_callV s_Mo_137 sv_Mo_noPacket (by assumption) rfl (g_of_val (hnpk _)) (by omega) rfl (by omega) (by omega) rfl (Nat.le_of_ble_eq_true rfl) d_Mo_verdict_22 ?_
    rintro _ _ _ ⟨rfl, rfl, rfl⟩
    refine g_callV s_Mo_57 sv_Mo_refuse (by assumption) rfl (k_Mo_refuse hO false false) (by omega) rfl (by omega) (by omega) rfl (Nat.le_of_ble_eq_true rfl) d_Mo_verdict_25 ?_
    rintro v' N' M1 ⟨rfl, rfl, e1, f1⟩
    have hL1 := hL.kept (M' := M1) (fun x _ _ => f1 x (by omega))
    have hK1 := hK.kept (M' := M1) (f1 _ (by omega))
    first | refine g_ifB_eq (tgt := 33) d_Mo_verdict_28 (by decide) (fun hb_28 => ?_) (fun hb_28 => ?_) | refine g_ifN_eq (tgt := 33) d_Mo_verdict_28 (by decide) (by omega) (fun hb_28 => ?_) (fun hb_28 => ?_)
    · skip
      refine g_aload_n d_Mo_verdict_33 rfl ?_
      refine g_iload_n d_Mo_verdict_34 rfl ?_
      refine g_iload_n d_Mo_verdict_35 rfl ?_
      refine g_iload_n d_Mo_verdict_36 rfl ?_
      refine g_iload d_Mo_verdict_37 rfl ?_
      refine g_iload d_Mo_verdict_39 rfl ?_
      refine g_callV s_Mo_141 sv_Mo_verdictBy (by assumption) rfl (g_of_val (k_Mo_verdictBy e1 hL1 j a b c d hj ha hb hc hd)) (by omega) rfl (by omega) (by omega) rfl (Nat.le_of_ble_eq_true rfl) d_Mo_verdict_41 ?_
      rintro _ _ _ ⟨rfl, rfl, rfl⟩
      exact g_ireturn rfl rfl (by omega) (by omega) d_Mo_verdict_44 ⟨_, rfl, rfl, rfl, h.own e1 f1, f1⟩
    · cases hb_28
  · rw [hin] at hb_7; cases hb_7
theorem x_Mo_verdict (h : OM E M W th tn ts mm rr gn gs) (j : Nat) (hj : j < 2) (a b c d : Int32) (hp : noP a b c d) : Ctr l E y_Mo_verdict 4 [.ref W, .int (nI j), .int (a), .int (b), .int (c), .int (d)] N M 0 0 (g_ret (fun v N' M' => v = some (.int (nI 0)) ∧ N' = N ∧ OM E M' W (nI 2) tn ts mm rr gn gs ∧ ∀ x, x ≠ W → M' x = M x)) := by
  obtain ⟨⟨rc, pl, fa, hO⟩, hT, hL, hK, hS⟩ := h
  have h : OM E M W th tn ts mm rr gn gs := ⟨⟨rc, pl, fa, hO⟩, hT, hL, hK, hS⟩
  have hin := inI_yes (j := j) (k := 1) (by omega) (by omega)
  have hnpk := fun (N : Nat) => k_Mo_noPacket (l := l) (E := E) (N := N) (a) (b) (c) (d) hO
  rw [npI_no hp] at hnpk
  refine ctr_of [some (.ref W), some (.int (nI j)), some (.int (a)), some (.int (b)), some (.int (c)), some (.int (d))] (by decide) w_1060 rfl rfl (Nat.le_of_ble_eq_true rfl) (fun Γ => ?_)
  refine g_aload_n d_Mo_verdict_0 rfl ?_
  refine g_iload_n d_Mo_verdict_1 rfl ?_
  refine g_iconst (v := nI 0) d_Mo_verdict_2 (by decide) ?_
  refine g_iconst (v := nI 1) d_Mo_verdict_3 (by decide) ?_
  refine g_callS s_Mo_112 sv_Mo_in (g_of_val (k_Mo_in _ _ _)) (by omega) rfl (by omega) (by omega) rfl (Nat.le_of_ble_eq_true rfl) d_Mo_verdict_4 ?_
  rintro _ _ _ ⟨rfl, rfl, rfl⟩
  first | refine g_ifB_ne (tgt := 14) d_Mo_verdict_7 (by decide) (fun hb_7 => ?_) (fun hb_7 => ?_) | refine g_ifN_ne (tgt := 14) d_Mo_verdict_7 (by decide) (by omega) (fun hb_7 => ?_) (fun hb_7 => ?_)
  · refine g_iconst (v := nI 0) d_Mo_verdict_14 (by decide) ?_
    refine g_aload_n d_Mo_verdict_15 rfl ?_
    refine g_iload_n d_Mo_verdict_16 rfl ?_
    refine g_iload_n d_Mo_verdict_17 rfl ?_
    refine g_iload d_Mo_verdict_18 rfl ?_
    refine g_iload d_Mo_verdict_20 rfl ?_
    refine g_callV s_Mo_137 sv_Mo_noPacket (by assumption) rfl (g_of_val (hnpk _)) (by omega) rfl (by omega) (by omega) rfl (Nat.le_of_ble_eq_true rfl) d_Mo_verdict_22 ?_
    rintro _ _ _ ⟨rfl, rfl, rfl⟩
    refine g_callV s_Mo_57 sv_Mo_refuse (by assumption) rfl (k_Mo_refuse hO false true) (by omega) rfl (by omega) (by omega) rfl (Nat.le_of_ble_eq_true rfl) d_Mo_verdict_25 ?_
    rintro v' N' M1 ⟨rfl, rfl, e1, f1⟩
    have hL1 := hL.kept (M' := M1) (fun x _ _ => f1 x (by omega))
    have hK1 := hK.kept (M' := M1) (f1 _ (by omega))
    first | refine g_ifB_eq (tgt := 33) d_Mo_verdict_28 (by decide) (fun hb_28 => ?_) (fun hb_28 => ?_) | refine g_ifN_eq (tgt := 33) d_Mo_verdict_28 (by decide) (by omega) (fun hb_28 => ?_) (fun hb_28 => ?_)
    · cases hb_28
    · refine g_iconst (v := nI 0) d_Mo_verdict_31 (by decide) ?_
      exact g_ireturn rfl rfl (by omega) (by omega) d_Mo_verdict_32 ⟨_, rfl, rfl, rfl, h.own e1 f1, f1⟩
  · rw [hin] at hb_7; cases hb_7
theorem xl_Mo_verdict (h : OM E M W th tn ts mm rr gn gs) (x a b c d : Int32) (hx : noN x 2) : Ctr l E y_Mo_verdict 4 [.ref W, .int (x), .int (a), .int (b), .int (c), .int (d)] N M 0 0 (g_ret (fun v N' M' => v = some (.int (nI 0)) ∧ N' = N ∧ OM E M' W (nI 1) tn ts mm rr gn gs ∧ ∀ x, x ≠ W → M' x = M x)) := by
  obtain ⟨⟨rc, pl, fa, hO⟩, hT, hL, hK, hS⟩ := h
  have h : OM E M W th tn ts mm rr gn gs := ⟨⟨rc, pl, fa, hO⟩, hT, hL, hK, hS⟩
  have hin := inI_no (k := 1) hx (by omega)
  have hnpk := fun (N : Nat) => k_Mo_noPacket (l := l) (E := E) (N := N) (a) (b) (c) (d) hO
  refine ctr_of [some (.ref W), some (.int (x)), some (.int (a)), some (.int (b)), some (.int (c)), some (.int (d))] (by decide) w_1060 rfl rfl (Nat.le_of_ble_eq_true rfl) (fun Γ => ?_)
  refine g_aload_n d_Mo_verdict_0 rfl ?_
  refine g_iload_n d_Mo_verdict_1 rfl ?_
  refine g_iconst (v := nI 0) d_Mo_verdict_2 (by decide) ?_
  refine g_iconst (v := nI 1) d_Mo_verdict_3 (by decide) ?_
  refine g_callS s_Mo_112 sv_Mo_in (g_of_val (k_Mo_in _ _ _)) (by omega) rfl (by omega) (by omega) rfl (Nat.le_of_ble_eq_true rfl) d_Mo_verdict_4 ?_
  rintro _ _ _ ⟨rfl, rfl, rfl⟩
  first | refine g_ifB_ne (tgt := 14) d_Mo_verdict_7 (by decide) (fun hb_7 => ?_) (fun hb_7 => ?_) | refine g_ifN_ne (tgt := 14) d_Mo_verdict_7 (by decide) (by omega) (fun hb_7 => ?_) (fun hb_7 => ?_)
  · rw [hin] at hb_7; cases hb_7
  · refine g_iconst (v := nI 1) d_Mo_verdict_10 (by decide) ?_
    refine g_goto (tgt := 15) d_Mo_verdict_11 (by decide) ?_
    refine g_aload_n d_Mo_verdict_15 rfl ?_
    refine g_iload_n d_Mo_verdict_16 rfl ?_
    refine g_iload_n d_Mo_verdict_17 rfl ?_
    refine g_iload d_Mo_verdict_18 rfl ?_
    refine g_iload d_Mo_verdict_20 rfl ?_
    refine g_callV s_Mo_137 sv_Mo_noPacket (by assumption) rfl (g_of_val (hnpk _)) (by omega) rfl (by omega) (by omega) rfl (Nat.le_of_ble_eq_true rfl) d_Mo_verdict_22 ?_
    rintro _ _ _ ⟨rfl, rfl, rfl⟩
    refine g_callV s_Mo_57 sv_Mo_refuse (by assumption) rfl (k_Mo_refuse hO true (npI a b c d)) (by omega) rfl (by omega) (by omega) rfl (Nat.le_of_ble_eq_true rfl) d_Mo_verdict_25 ?_
    rintro v' N' M1 ⟨rfl, rfl, e1, f1⟩
    first | refine g_ifB_eq (tgt := 33) d_Mo_verdict_28 (by decide) (fun hb_28 => ?_) (fun hb_28 => ?_) | refine g_ifN_eq (tgt := 33) d_Mo_verdict_28 (by decide) (by omega) (fun hb_28 => ?_) (fun hb_28 => ?_)
    · cases hb_28
    · refine g_iconst (v := nI 0) d_Mo_verdict_31 (by decide) ?_
      exact g_ireturn rfl rfl (by omega) (by omega) d_Mo_verdict_32 ⟨_, rfl, rfl, rfl, h.own e1 f1, f1⟩
theorem k_Mo_first (h : OM E M W th tn ts mm rr gn gs) (j a b c d : Nat) (hj : j < 2) (ha : a ≤ 255) (hb : b ≤ 255) (hc : c ≤ 1023) (hd : d ≤ 3) : Ctr l E y_Mo_first 3 [.ref W, .int (nI j), .int (nI a), .int (nI b), .int (nI c), .int (nI d)] N M 0 0 (g_ret (fun v N' M' => v = some (.int (fI (fi (fun i => r_m (rr j i) (pkt a b c d)) (mm j)) (mm j))) ∧ N' = N ∧ OM E M' W (nI 0) tn ts mm rr gn gs ∧ ∀ x, x ≠ W → M' x = M x)) := by
  obtain ⟨⟨rc, pl, fa, hO⟩, hT, hL, hK, hS⟩ := h
  have h : OM E M W th tn ts mm rr gn gs := ⟨⟨rc, pl, fa, hO⟩, hT, hL, hK, hS⟩
  have hin := inI_yes (j := j) (k := 1) (by omega) (by omega)
  have hnpk := fun (N : Nat) => k_Mo_noPacket (l := l) (E := E) (N := N) (nI a) (nI b) (nI c) (nI d) hO
  rw [npI_yes ha hb hc hd] at hnpk
  refine ctr_of [some (.ref W), some (.int (nI j)), some (.int (nI a)), some (.int (nI b)), some (.int (nI c)), some (.int (nI d))] (by decide) w_1080 rfl rfl (Nat.le_of_ble_eq_true rfl) (fun Γ => ?_)
  refine g_aload_n d_Mo_first_0 rfl ?_
  refine g_iload_n d_Mo_first_1 rfl ?_
  refine g_iconst (v := nI 0) d_Mo_first_2 (by decide) ?_
  refine g_iconst (v := nI 1) d_Mo_first_3 (by decide) ?_
  refine g_callS s_Mo_112 sv_Mo_in (g_of_val (k_Mo_in _ _ _)) (by omega) rfl (by omega) (by omega) rfl (Nat.le_of_ble_eq_true rfl) d_Mo_first_4 ?_
  rintro _ _ _ ⟨rfl, rfl, rfl⟩
  first | refine g_ifB_ne (tgt := 14) d_Mo_first_7 (by decide) (fun hb_7 => ?_) (fun hb_7 => ?_) | refine g_ifN_ne (tgt := 14) d_Mo_first_7 (by decide) (by omega) (fun hb_7 => ?_) (fun hb_7 => ?_)
  · refine g_iconst (v := nI 0) d_Mo_first_14 (by decide) ?_
    refine g_aload_n d_Mo_first_15 rfl ?_
    refine g_iload_n d_Mo_first_16 rfl ?_
    refine g_iload_n d_Mo_first_17 rfl ?_
    refine g_iload d_Mo_first_18 rfl ?_
    refine g_iload d_Mo_first_20 rfl ?_
    refine g_callV s_Mo_137 sv_Mo_noPacket (by assumption) rfl (g_of_val (hnpk _)) (by omega) rfl (by omega) (by omega) rfl (Nat.le_of_ble_eq_true rfl) d_Mo_first_22 ?_
    rintro _ _ _ ⟨rfl, rfl, rfl⟩
    refine g_callV s_Mo_57 sv_Mo_refuse (by assumption) rfl (k_Mo_refuse hO false false) (by omega) rfl (by omega) (by omega) rfl (Nat.le_of_ble_eq_true rfl) d_Mo_first_25 ?_
    rintro v' N' M1 ⟨rfl, rfl, e1, f1⟩
    have hL1 := hL.kept (M' := M1) (fun x _ _ => f1 x (by omega))
    have hK1 := hK.kept (M' := M1) (f1 _ (by omega))
    first | refine g_ifB_eq (tgt := 33) d_Mo_first_28 (by decide) (fun hb_28 => ?_) (fun hb_28 => ?_) | refine g_ifN_eq (tgt := 33) d_Mo_first_28 (by decide) (by omega) (fun hb_28 => ?_) (fun hb_28 => ?_)
    · skip
      refine g_aload_n d_Mo_first_33 rfl ?_
      refine g_iload_n d_Mo_first_34 rfl ?_
      refine g_iload_n d_Mo_first_35 rfl ?_
      refine g_iload_n d_Mo_first_36 rfl ?_
      refine g_iload d_Mo_first_37 rfl ?_
      refine g_iload d_Mo_first_39 rfl ?_
      refine g_callV s_Mo_134 sv_Mo_firstOf (by assumption) rfl (g_of_val (k_Mo_firstOf e1 hL1 j a b c d hj ha hb hc hd)) (by omega) rfl (by omega) (by omega) rfl (Nat.le_of_ble_eq_true rfl) d_Mo_first_41 ?_
      rintro _ _ _ ⟨rfl, rfl, rfl⟩
      exact g_ireturn rfl rfl (by omega) (by omega) d_Mo_first_44 ⟨_, rfl, rfl, rfl, h.own e1 f1, f1⟩
    · cases hb_28
  · rw [hin] at hb_7; cases hb_7
theorem x_Mo_first (h : OM E M W th tn ts mm rr gn gs) (j : Nat) (hj : j < 2) (a b c d : Int32) (hp : noP a b c d) : Ctr l E y_Mo_first 3 [.ref W, .int (nI j), .int (a), .int (b), .int (c), .int (d)] N M 0 0 (g_ret (fun v N' M' => v = some (.int (nI 0)) ∧ N' = N ∧ OM E M' W (nI 2) tn ts mm rr gn gs ∧ ∀ x, x ≠ W → M' x = M x)) := by
  obtain ⟨⟨rc, pl, fa, hO⟩, hT, hL, hK, hS⟩ := h
  have h : OM E M W th tn ts mm rr gn gs := ⟨⟨rc, pl, fa, hO⟩, hT, hL, hK, hS⟩
  have hin := inI_yes (j := j) (k := 1) (by omega) (by omega)
  have hnpk := fun (N : Nat) => k_Mo_noPacket (l := l) (E := E) (N := N) (a) (b) (c) (d) hO
  rw [npI_no hp] at hnpk
  refine ctr_of [some (.ref W), some (.int (nI j)), some (.int (a)), some (.int (b)), some (.int (c)), some (.int (d))] (by decide) w_1080 rfl rfl (Nat.le_of_ble_eq_true rfl) (fun Γ => ?_)
  refine g_aload_n d_Mo_first_0 rfl ?_
  refine g_iload_n d_Mo_first_1 rfl ?_
  refine g_iconst (v := nI 0) d_Mo_first_2 (by decide) ?_
  refine g_iconst (v := nI 1) d_Mo_first_3 (by decide) ?_
  refine g_callS s_Mo_112 sv_Mo_in (g_of_val (k_Mo_in _ _ _)) (by omega) rfl (by omega) (by omega) rfl (Nat.le_of_ble_eq_true rfl) d_Mo_first_4 ?_
  rintro _ _ _ ⟨rfl, rfl, rfl⟩
  first | refine g_ifB_ne (tgt := 14) d_Mo_first_7 (by decide) (fun hb_7 => ?_) (fun hb_7 => ?_) | refine g_ifN_ne (tgt := 14) d_Mo_first_7 (by decide) (by omega) (fun hb_7 => ?_) (fun hb_7 => ?_)
  · refine g_iconst (v := nI 0) d_Mo_first_14 (by decide) ?_
    refine g_aload_n d_Mo_first_15 rfl ?_
    refine g_iload_n d_Mo_first_16 rfl ?_
    refine g_iload_n d_Mo_first_17 rfl ?_
    refine g_iload d_Mo_first_18 rfl ?_
    refine g_iload d_Mo_first_20 rfl ?_
    refine g_callV s_Mo_137 sv_Mo_noPacket (by assumption) rfl (g_of_val (hnpk _)) (by omega) rfl (by omega) (by omega) rfl (Nat.le_of_ble_eq_true rfl) d_Mo_first_22 ?_
    rintro _ _ _ ⟨rfl, rfl, rfl⟩
    refine g_callV s_Mo_57 sv_Mo_refuse (by assumption) rfl (k_Mo_refuse hO false true) (by omega) rfl (by omega) (by omega) rfl (Nat.le_of_ble_eq_true rfl) d_Mo_first_25 ?_
    rintro v' N' M1 ⟨rfl, rfl, e1, f1⟩
    have hL1 := hL.kept (M' := M1) (fun x _ _ => f1 x (by omega))
    have hK1 := hK.kept (M' := M1) (f1 _ (by omega))
    first | refine g_ifB_eq (tgt := 33) d_Mo_first_28 (by decide) (fun hb_28 => ?_) (fun hb_28 => ?_) | refine g_ifN_eq (tgt := 33) d_Mo_first_28 (by decide) (by omega) (fun hb_28 => ?_) (fun hb_28 => ?_)
    · cases hb_28
    · refine g_iconst (v := nI 0) d_Mo_first_31 (by decide) ?_
      exact g_ireturn rfl rfl (by omega) (by omega) d_Mo_first_32 ⟨_, rfl, rfl, rfl, h.own e1 f1, f1⟩
  · rw [hin] at hb_7; cases hb_7
theorem xl_Mo_first (h : OM E M W th tn ts mm rr gn gs) (x a b c d : Int32) (hx : noN x 2) : Ctr l E y_Mo_first 3 [.ref W, .int (x), .int (a), .int (b), .int (c), .int (d)] N M 0 0 (g_ret (fun v N' M' => v = some (.int (nI 0)) ∧ N' = N ∧ OM E M' W (nI 1) tn ts mm rr gn gs ∧ ∀ x, x ≠ W → M' x = M x)) := by
  obtain ⟨⟨rc, pl, fa, hO⟩, hT, hL, hK, hS⟩ := h
  have h : OM E M W th tn ts mm rr gn gs := ⟨⟨rc, pl, fa, hO⟩, hT, hL, hK, hS⟩
  have hin := inI_no (k := 1) hx (by omega)
  have hnpk := fun (N : Nat) => k_Mo_noPacket (l := l) (E := E) (N := N) (a) (b) (c) (d) hO
  refine ctr_of [some (.ref W), some (.int (x)), some (.int (a)), some (.int (b)), some (.int (c)), some (.int (d))] (by decide) w_1080 rfl rfl (Nat.le_of_ble_eq_true rfl) (fun Γ => ?_)
  refine g_aload_n d_Mo_first_0 rfl ?_
  refine g_iload_n d_Mo_first_1 rfl ?_
  refine g_iconst (v := nI 0) d_Mo_first_2 (by decide) ?_
  refine g_iconst (v := nI 1) d_Mo_first_3 (by decide) ?_
  refine g_callS s_Mo_112 sv_Mo_in (g_of_val (k_Mo_in _ _ _)) (by omega) rfl (by omega) (by omega) rfl (Nat.le_of_ble_eq_true rfl) d_Mo_first_4 ?_
  rintro _ _ _ ⟨rfl, rfl, rfl⟩
  first | refine g_ifB_ne (tgt := 14) d_Mo_first_7 (by decide) (fun hb_7 => ?_) (fun hb_7 => ?_) | refine g_ifN_ne (tgt := 14) d_Mo_first_7 (by decide) (by omega) (fun hb_7 => ?_) (fun hb_7 => ?_)
  · rw [hin] at hb_7; cases hb_7
  · refine g_iconst (v := nI 1) d_Mo_first_10 (by decide) ?_
    refine g_goto (tgt := 15) d_Mo_first_11 (by decide) ?_
    refine g_aload_n d_Mo_first_15 rfl ?_
    refine g_iload_n d_Mo_first_16 rfl ?_
    refine g_iload_n d_Mo_first_17 rfl ?_
    refine g_iload d_Mo_first_18 rfl ?_
    refine g_iload d_Mo_first_20 rfl ?_
    refine g_callV s_Mo_137 sv_Mo_noPacket (by assumption) rfl (g_of_val (hnpk _)) (by omega) rfl (by omega) (by omega) rfl (Nat.le_of_ble_eq_true rfl) d_Mo_first_22 ?_
    rintro _ _ _ ⟨rfl, rfl, rfl⟩
    refine g_callV s_Mo_57 sv_Mo_refuse (by assumption) rfl (k_Mo_refuse hO true (npI a b c d)) (by omega) rfl (by omega) (by omega) rfl (Nat.le_of_ble_eq_true rfl) d_Mo_first_25 ?_
    rintro v' N' M1 ⟨rfl, rfl, e1, f1⟩
    first | refine g_ifB_eq (tgt := 33) d_Mo_first_28 (by decide) (fun hb_28 => ?_) (fun hb_28 => ?_) | refine g_ifN_eq (tgt := 33) d_Mo_first_28 (by decide) (by omega) (fun hb_28 => ?_) (fun hb_28 => ?_)
    · cases hb_28
    · refine g_iconst (v := nI 0) d_Mo_first_31 (by decide) ?_
      exact g_ireturn rfl rfl (by omega) (by omega) d_Mo_first_32 ⟨_, rfl, rfl, rfl, h.own e1 f1, f1⟩
theorem k_Mo_connection (h : OM E M W th tn ts mm rr gn gs) (i f : Nat) (hf : f < 4) (hi : i < 2 ^ 31) : Ctr l E y_Mo_connection 1 [.ref W, .int (nI i), .int (nI f)] N M 0 0 (g_ret (fun v N' M' => v = some (.int (if i < gn then nI (pv (gs i) f) else -1)) ∧ N' = N ∧ OM E M' W (nI 0) tn ts mm rr gn gs ∧ ∀ x, x ≠ W → M' x = M x)) := by
  obtain ⟨⟨rc, pl, fa, hO⟩, hT, hL, hK, hS⟩ := h
  have h : OM E M W th tn ts mm rr gn gs := ⟨⟨rc, pl, fa, hO⟩, hT, hL, hK, hS⟩
  have hin := inI_yes (j := f) (k := 3) (by omega) (by omega)
  refine ctr_of [some (.ref W), some (.int (nI i)), some (.int (nI f))] (by decide) w_1178 rfl rfl (Nat.le_of_ble_eq_true rfl) (fun Γ => ?_)
  refine g_aload_n d_Mo_connection_0 rfl ?_
  refine g_iload_n d_Mo_connection_1 rfl ?_
  refine g_iconst (v := nI 0) d_Mo_connection_2 (by decide) ?_
  refine g_iconst (v := nI 3) d_Mo_connection_3 (by decide) ?_
  refine g_callS s_Mo_112 sv_Mo_in (g_of_val (k_Mo_in _ _ _)) (by omega) rfl (by omega) (by omega) rfl (Nat.le_of_ble_eq_true rfl) d_Mo_connection_4 ?_
  rintro _ _ _ ⟨rfl, rfl, rfl⟩
  first | refine g_ifB_ne (tgt := 14) d_Mo_connection_7 (by decide) (fun hb_7 => ?_) (fun hb_7 => ?_) | refine g_ifN_ne (tgt := 14) d_Mo_connection_7 (by decide) (by omega) (fun hb_7 => ?_) (fun hb_7 => ?_)
  · refine g_iconst (v := nI 0) d_Mo_connection_14 (by decide) ?_
    refine g_iconst (v := nI 0) d_Mo_connection_15 (by decide) ?_
    refine g_callV s_Mo_57 sv_Mo_refuse (by assumption) rfl (k_Mo_refuse hO false false) (by omega) rfl (by omega) (by omega) rfl (Nat.le_of_ble_eq_true rfl) d_Mo_connection_16 ?_
    rintro v' N' M1 ⟨rfl, rfl, e1, f1⟩
    have hL1 := hL.kept (M' := M1) (fun x _ _ => f1 x (by omega))
    have hK1 := hK.kept (M' := M1) (f1 _ (by omega))
    first | refine g_ifB_eq (tgt := 24) d_Mo_connection_19 (by decide) (fun hb_19 => ?_) (fun hb_19 => ?_) | refine g_ifN_eq (tgt := 24) d_Mo_connection_19 (by decide) (by omega) (fun hb_19 => ?_) (fun hb_19 => ?_)
    · skip
      obtain ⟨k1, k2, fk, k3, k4⟩ := hK1
      refine g_iload_n d_Mo_connection_24 rfl ?_
      refine g_iconst (v := nI 0) d_Mo_connection_25 (by decide) ?_
      refine g_aload_n d_Mo_connection_26 rfl ?_
      refine g_get f_Mo_185 (by assumption) rfl d_Mo_connection_27 ?_
      refine g_iconst (v := nI 1) d_Mo_connection_30 (by decide) ?_
      refine g_isub d_Mo_connection_31 ?_
      refine g_callS s_Mo_112 sv_Mo_in (g_of_val (k_Mo_in _ _ _)) (by omega) rfl (by omega) (by omega) rfl (Nat.le_of_ble_eq_true rfl) d_Mo_connection_32 ?_
      rintro _ _ _ ⟨rfl, rfl, rfl⟩
      first | refine g_ifB_eq (tgt := 51) d_Mo_connection_35 (by decide) (fun hb_35 => ?_) (fun hb_35 => ?_) | refine g_ifN_eq (tgt := 51) d_Mo_connection_35 (by decide) (by omega) (fun hb_35 => ?_) (fun hb_35 => ?_)
      · refine g_iconst (v := -1) d_Mo_connection_51 (by decide) ?_
        refine g_eqi (z := if i < gn then nI (pv (gs i) f) else -1) (by
          rw [if_neg (fun q => by rw [inC_yes q (by omega)] at hb_35; cases hb_35)]) ?_
        exact g_ireturn rfl rfl (by omega) (by omega) d_Mo_connection_52 ⟨_, rfl, rfl, rfl, h.own e1 f1, f1⟩
      · have hig : i < gn := by
          rcases Nat.lt_or_ge i gn with q | q
          · exact q
          · rw [inC_no (Or.inr ⟨i, rfl, q, hi⟩) (by omega)] at hb_35; cases hb_35
        refine g_aload_n d_Mo_connection_38 rfl ?_
        refine g_get f_Mo_25 (by assumption) rfl d_Mo_connection_39 ?_
        refine g_iconst (v := nI 4) d_Mo_connection_42 (by decide) ?_
        refine g_iload_n d_Mo_connection_43 rfl ?_
        refine g_imul d_Mo_connection_44 ?_
        refine g_eqi (pk_mul _ _) ?_
        refine g_iload_n d_Mo_connection_45 rfl ?_
        refine g_iadd d_Mo_connection_46 ?_
        refine g_eqi (nI_add _ _) ?_
        refine g_iald _ (by assumption) rfl (by omega) (by decide) d_Mo_connection_47 ?_
        refine g_eqi (z := if i < gn then nI (pv (gs i) f) else -1) (by rw [if_pos hig]; exact k4 i f hig hf) ?_
        refine g_goto (tgt := 52) d_Mo_connection_48 (by decide) ?_
        exact g_ireturn rfl rfl (by omega) (by omega) d_Mo_connection_52 ⟨_, rfl, rfl, rfl, h.own e1 f1, f1⟩
    · cases hb_19
  · rw [hin] at hb_7; cases hb_7
theorem km_Mo_connection (h : OM E M W th tn ts mm rr gn gs) (x : Int32) (f : Nat) (hf : f < 4) (hx : x < 0) : Ctr l E y_Mo_connection 1 [.ref W, .int (x), .int (nI f)] N M 0 0 (g_ret (fun v N' M' => v = some (.int (-1)) ∧ N' = N ∧ OM E M' W (nI 0) tn ts mm rr gn gs ∧ ∀ x, x ≠ W → M' x = M x)) := by
  obtain ⟨⟨rc, pl, fa, hO⟩, hT, hL, hK, hS⟩ := h
  have h : OM E M W th tn ts mm rr gn gs := ⟨⟨rc, pl, fa, hO⟩, hT, hL, hK, hS⟩
  have hin := inI_yes (j := f) (k := 3) (by omega) (by omega)
  refine ctr_of [some (.ref W), some (.int (x)), some (.int (nI f))] (by decide) w_1178 rfl rfl (Nat.le_of_ble_eq_true rfl) (fun Γ => ?_)
  refine g_aload_n d_Mo_connection_0 rfl ?_
  refine g_iload_n d_Mo_connection_1 rfl ?_
  refine g_iconst (v := nI 0) d_Mo_connection_2 (by decide) ?_
  refine g_iconst (v := nI 3) d_Mo_connection_3 (by decide) ?_
  refine g_callS s_Mo_112 sv_Mo_in (g_of_val (k_Mo_in _ _ _)) (by omega) rfl (by omega) (by omega) rfl (Nat.le_of_ble_eq_true rfl) d_Mo_connection_4 ?_
  rintro _ _ _ ⟨rfl, rfl, rfl⟩
  first | refine g_ifB_ne (tgt := 14) d_Mo_connection_7 (by decide) (fun hb_7 => ?_) (fun hb_7 => ?_) | refine g_ifN_ne (tgt := 14) d_Mo_connection_7 (by decide) (by omega) (fun hb_7 => ?_) (fun hb_7 => ?_)
  · refine g_iconst (v := nI 0) d_Mo_connection_14 (by decide) ?_
    refine g_iconst (v := nI 0) d_Mo_connection_15 (by decide) ?_
    refine g_callV s_Mo_57 sv_Mo_refuse (by assumption) rfl (k_Mo_refuse hO false false) (by omega) rfl (by omega) (by omega) rfl (Nat.le_of_ble_eq_true rfl) d_Mo_connection_16 ?_
    rintro v' N' M1 ⟨rfl, rfl, e1, f1⟩
    have hL1 := hL.kept (M' := M1) (fun x _ _ => f1 x (by omega))
    have hK1 := hK.kept (M' := M1) (f1 _ (by omega))
    first | refine g_ifB_eq (tgt := 24) d_Mo_connection_19 (by decide) (fun hb_19 => ?_) (fun hb_19 => ?_) | refine g_ifN_eq (tgt := 24) d_Mo_connection_19 (by decide) (by omega) (fun hb_19 => ?_) (fun hb_19 => ?_)
    · skip
      obtain ⟨k1, k2, fk, k3, k4⟩ := hK1
      refine g_iload_n d_Mo_connection_24 rfl ?_
      refine g_iconst (v := nI 0) d_Mo_connection_25 (by decide) ?_
      refine g_aload_n d_Mo_connection_26 rfl ?_
      refine g_get f_Mo_185 (by assumption) rfl d_Mo_connection_27 ?_
      refine g_iconst (v := nI 1) d_Mo_connection_30 (by decide) ?_
      refine g_isub d_Mo_connection_31 ?_
      refine g_callS s_Mo_112 sv_Mo_in (g_of_val (k_Mo_in _ _ _)) (by omega) rfl (by omega) (by omega) rfl (Nat.le_of_ble_eq_true rfl) d_Mo_connection_32 ?_
      rintro _ _ _ ⟨rfl, rfl, rfl⟩
      first | refine g_ifB_eq (tgt := 51) d_Mo_connection_35 (by decide) (fun hb_35 => ?_) (fun hb_35 => ?_) | refine g_ifN_eq (tgt := 51) d_Mo_connection_35 (by decide) (by omega) (fun hb_35 => ?_) (fun hb_35 => ?_)
      · refine g_iconst (v := -1) d_Mo_connection_51 (by decide) ?_
        exact g_ireturn rfl rfl (by omega) (by omega) d_Mo_connection_52 ⟨_, rfl, rfl, rfl, h.own e1 f1, f1⟩
      · rw [inC_no (Or.inl hx) (by omega)] at hb_35; cases hb_35
    · cases hb_19
  · rw [hin] at hb_7; cases hb_7
theorem x_Mo_connection (h : OM E M W th tn ts mm rr gn gs) (x y : Int32) (hx : noN y 4) : Ctr l E y_Mo_connection 1 [.ref W, .int (x), .int (y)] N M 0 0 (g_ret (fun v N' M' => v = some (.int (nI 0)) ∧ N' = N ∧ OM E M' W (nI 1) tn ts mm rr gn gs ∧ ∀ x, x ≠ W → M' x = M x)) := by
  obtain ⟨⟨rc, pl, fa, hO⟩, hT, hL, hK, hS⟩ := h
  have h : OM E M W th tn ts mm rr gn gs := ⟨⟨rc, pl, fa, hO⟩, hT, hL, hK, hS⟩
  have hin := inI_no (k := 3) hx (by omega)
  refine ctr_of [some (.ref W), some (.int (x)), some (.int (y))] (by decide) w_1178 rfl rfl (Nat.le_of_ble_eq_true rfl) (fun Γ => ?_)
  refine g_aload_n d_Mo_connection_0 rfl ?_
  refine g_iload_n d_Mo_connection_1 rfl ?_
  refine g_iconst (v := nI 0) d_Mo_connection_2 (by decide) ?_
  refine g_iconst (v := nI 3) d_Mo_connection_3 (by decide) ?_
  refine g_callS s_Mo_112 sv_Mo_in (g_of_val (k_Mo_in _ _ _)) (by omega) rfl (by omega) (by omega) rfl (Nat.le_of_ble_eq_true rfl) d_Mo_connection_4 ?_
  rintro _ _ _ ⟨rfl, rfl, rfl⟩
  first | refine g_ifB_ne (tgt := 14) d_Mo_connection_7 (by decide) (fun hb_7 => ?_) (fun hb_7 => ?_) | refine g_ifN_ne (tgt := 14) d_Mo_connection_7 (by decide) (by omega) (fun hb_7 => ?_) (fun hb_7 => ?_)
  · rw [hin] at hb_7; cases hb_7
  · refine g_iconst (v := nI 1) d_Mo_connection_10 (by decide) ?_
    refine g_goto (tgt := 15) d_Mo_connection_11 (by decide) ?_
    refine g_iconst (v := nI 0) d_Mo_connection_15 (by decide) ?_
    refine g_callV s_Mo_57 sv_Mo_refuse (by assumption) rfl (k_Mo_refuse hO true false) (by omega) rfl (by omega) (by omega) rfl (Nat.le_of_ble_eq_true rfl) d_Mo_connection_16 ?_
    rintro v' N' M1 ⟨rfl, rfl, e1, f1⟩
    first | refine g_ifB_eq (tgt := 24) d_Mo_connection_19 (by decide) (fun hb_19 => ?_) (fun hb_19 => ?_) | refine g_ifN_eq (tgt := 24) d_Mo_connection_19 (by decide) (by omega) (fun hb_19 => ?_) (fun hb_19 => ?_)
    · cases hb_19
    · refine g_iconst (v := nI 0) d_Mo_connection_22 (by decide) ?_
      exact g_ireturn rfl rfl (by omega) (by omega) d_Mo_connection_23 ⟨_, rfl, rfl, rfl, h.own e1 f1, f1⟩
end MODEL3

